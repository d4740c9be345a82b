def fp_X11_acres_r31p : jFp := [(31, 12, 13), (32, 19, 20), (123, 0, 120)]
set_option maxRecDepth 100000 in
set_option maxHeartbeats 4000000 in
theorem ct_X11_acres_r31p_18 {Dy : jH → Prop} {h0 : jH} {Q : Option Value → jH → Prop} {a1 : Int32} (yy_a1 : (-2147483648) ≤ a1.toInt ∧ a1.toInt ≤ 2147483647) {a2 : Int32} (yy_a2 : (-2147483648) ≤ a2.toInt ∧ a2.toInt ≤ 2147483647) {a3 : Int32} (yy_a3 : (-2147483648) ≤ a3.toInt ∧ a3.toInt ≤ 2147483647) (hD : jDk Dy) (hQ : ∀ (v : Int32) hx9, (-2) ≤ v.toInt ∧ v.toInt ≤ 0 → jJ jSgX Dy hx9 → jSm fp_X11_acres_r31p h0 hx9 → ((¬ (0 ≤ a2.toInt ∧ a2.toInt ≤ 2 ∧ 0 ≤ a3.toInt ∧ a3.toInt ≤ 1000) ∧ v.toInt = -1 ∧ jiv hx9 123 = jiv h0 123) ∨ ((0 ≤ a2.toInt ∧ a2.toInt ≤ 2 ∧ 0 ≤ a3.toInt ∧ a3.toInt ≤ 1000) ∧ ¬ (0 ≤ a1.toInt ∧ a1.toInt < (jiv h0 49 3).toInt) ∧ v.toInt = -2 ∧ jiv hx9 123 = jiv h0 123) ∨ ((0 ≤ a2.toInt ∧ a2.toInt ≤ 2 ∧ 0 ≤ a3.toInt ∧ a3.toInt ≤ 1000) ∧ (0 ≤ a1.toInt ∧ a1.toInt < (jiv h0 49 3).toInt) ∧ v.toInt = 0 ∧ jiv hx9 123 = jov (jiv h0 123) (3 * a1.toNatClampNeg + a2.toNatClampNeg) a3)) → Q (some (.int v)) hx9) : ∀ (h : jH), (h = h0 ∧ ¬ (0 ≤ a2.toInt ∧ a2.toInt ≤ 2 ∧ 0 ≤ a3.toInt ∧ a3.toInt ≤ 1000)) → jJ jSgX Dy h → jSm fp_X11_acres_r31p h0 h → jX m_X11_acres 2 0 0 18 [(0, .ref 31)] [] h 0 0 Q := by
  intro  h C0   J Sm
  refine x_aloadn (x := 31) rfl rfl ?_
  refine x_iconst (v := (-1)) rfl ki_m1 ?_
  refine x_inv (N := m_X11_refuse) (As := [.int (-1)]) (b := 31) (st := []) (dx9 := 1) (mc := 0) (ms := 0) (host := "") 11 rfl t_X11_refuse ⟨Or.inl q_11_206, i_X11_refuse.1, i_X11_refuse.2⟩ ⟨by decide, rfl⟩ (congrArg Prod.fst (J.1.1 31 (11, 13) rfl)) rfl (by decide) rfl rfl ⟨by decide, by decide⟩ (jC.of rfl k_X11_refuse rfl ?_)
  show jX m_X11_refuse 1 0 0 0 [(0, .ref 31), (1, .int (-1))] [] _ 0 0 _
  refine x_aloadn (x := 31) rfl rfl ?_
  refine x_iloadn (x := (-1)) rfl rfl ?_
  refine z_putI (N := 13) (w := (-1)) 11 12 rfl f_11_94 rfl (jfin_no TX11 RX11 13 rfl rfl) hD J Sm rfl rfl jk_m1 (pw_31_12 (by omega)) rfl (fun h w1 J Sm => ?_)
  refine x_iloadn (x := (-1)) rfl rfl ?_
  refine x_iret rfl rfl ?_
  show jX m_X11_acres 2 0 0 23 [(0, .ref 31)] [.int (-1)] _ 0 0 _
  refine x_iret rfl rfl ?_
  exact hQ _ _ (jr_of jk_m1 (by omega)) J Sm (Or.inl ⟨C0.2, jk_m1, (ov_o w1 rfl (ov_e C0.1))⟩)
set_option maxRecDepth 100000 in
set_option maxHeartbeats 4000000 in
theorem sf_X11_acres_r31p {Dy : jH → Prop} {h : jH} {Q : Option Value → jH → Prop} {a1 : Int32} {a2 : Int32} {a3 : Int32} (hD : jDk Dy) (J : jJ jSgX Dy h) (hQ : ∀ (v : Int32) hx9, (-2) ≤ v.toInt ∧ v.toInt ≤ 0 → jJ jSgX Dy hx9 → jSm fp_X11_acres_r31p h hx9 → ((¬ (0 ≤ a2.toInt ∧ a2.toInt ≤ 2 ∧ 0 ≤ a3.toInt ∧ a3.toInt ≤ 1000) ∧ v.toInt = -1 ∧ jiv hx9 123 = jiv h 123) ∨ ((0 ≤ a2.toInt ∧ a2.toInt ≤ 2 ∧ 0 ≤ a3.toInt ∧ a3.toInt ≤ 1000) ∧ ¬ (0 ≤ a1.toInt ∧ a1.toInt < (jiv h 49 3).toInt) ∧ v.toInt = -2 ∧ jiv hx9 123 = jiv h 123) ∨ ((0 ≤ a2.toInt ∧ a2.toInt ≤ 2 ∧ 0 ≤ a3.toInt ∧ a3.toInt ≤ 1000) ∧ (0 ≤ a1.toInt ∧ a1.toInt < (jiv h 49 3).toInt) ∧ v.toInt = 0 ∧ jiv hx9 123 = jov (jiv h 123) (3 * a1.toNatClampNeg + a2.toNatClampNeg) a3)) → Q (some (.int v)) hx9) : jC m_X11_acres 2 0 0 [.ref 31, .int a1, .int a2, .int a3] h Q := by
  refine jC.of rfl k_X11_acres rfl ?_
  have Sm := jSm_rf fp_X11_acres_r31p h
  have yy_a1 := jfull a1
  have yy_a2 := jfull a2
  have yy_a3 := jfull a3
  have ea1 := jfull a1
  have ea2 := jfull a2
  have ea3 := jfull a3
  show jX m_X11_acres 2 0 0 0 [(0, .ref 31), (1, .int a1), (2, .int a2), (3, .int a3)] [] _ 0 0 _
  obtain ⟨u1, qu1⟩ : ∃ v : Int32, jiv h 49 3 = v := ⟨_, rfl⟩
  have eu1 := (show 0 ≤ u1.toInt ∧ u1.toInt ≤ 40 from qu1 ▸ jrg_f J sg_49_3_4_1_0_1)
  have ou1 := congrArg Int32.toInt qu1
  refine x_iloadn (x := a2) rfl rfl ?_
  refine x_inst (N := m_X11_isCrop) (As := [.int a2]) (st := []) (dx9 := 1) (mc := 0) (ms := 0) (host := "") rfl t_X11_isCrop ⟨Or.inl q_11_500, s_X11_isCrop⟩ rfl (by decide) rfl rfl ⟨by decide, by decide⟩ (zc_X11_isCrop rfl (fun v2 ev2 => ?_))
  show jX m_X11_acres 2 0 0 4 [(0, .ref 31), (1, .int a1), (2, .int a2), (3, .int a3)] [.int v2] _ 0 0 _
  refine x_ifeq (tgt := 18) rfl rfl (ti_eq rfl jk_0 ⟨fun c3 => ?_, fun c3 => ?_⟩)
  ·
    exact jX.sub (jsb_c rfl jsb_n) (ct_X11_acres_r31p_18 yy_a1 yy_a2 yy_a3 hD hQ  h ⟨rfl, by omega⟩ J Sm)
  ·
    refine x_iloadn (x := a3) rfl rfl ?_
    refine x_iconst (v := 0) rfl ki_0 ?_
    refine x_sipush (v := 1000) rfl ks_1000 ?_
    refine x_inst (N := m_X11_isWithin) (As := [.int a3, .int 0, .int 1000]) (st := []) (dx9 := 1) (mc := 0) (ms := 0) (host := "") rfl t_X11_isWithin ⟨Or.inl q_11_202, s_X11_isWithin⟩ rfl (by decide) rfl rfl ⟨by decide, by decide⟩ (zc_X11_isWithin rfl jk_0 jk_1000 (fun v4 ev4 => ?_))
    show jX m_X11_acres 2 0 0 15 [(0, .ref 31), (1, .int a1), (2, .int a2), (3, .int a3)] [.int v4] _ 0 0 _
    refine x_ifne (tgt := 24) rfl rfl (ti_ne rfl jk_0 ⟨fun c5 => ?_, fun c5 => ?_⟩)
    ·
      refine x_aloadn (x := 31) rfl rfl ?_
      refine x_iloadn (x := a1) rfl rfl ?_
      refine x_inv (N := m_X11_isHolding) (As := [.int a1]) (b := 31) (st := []) (dx9 := 1) (mc := 0) (ms := 0) (host := "") 11 rfl t_X11_isHolding ⟨Or.inl q_11_415, i_X11_isHolding.1, i_X11_isHolding.2⟩ ⟨by decide, rfl⟩ (congrArg Prod.fst (J.1.1 31 (11, 13) rfl)) rfl (by decide) rfl rfl ⟨by decide, by decide⟩ (jC.of rfl k_X11_isHolding rfl ?_)
      show jX m_X11_isHolding 1 0 0 0 [(0, .ref 31), (1, .int a1)] [] _ 0 0 _
      refine x_iloadn (x := a1) rfl rfl ?_
      refine x_iflt (tgt := 28) rfl rfl (ti_lt rfl jk_0 ⟨fun c6 => ?_, fun c6 => ?_⟩)
      ·
        refine x_iconst (v := 0) rfl ki_0 ?_
        refine x_zret rfl rfl (by decide) ?_
        show jX m_X11_acres 2 0 0 29 [(0, .ref 31), (1, .int a1), (2, .int a2), (3, .int a3)] [.int 0] _ 0 0 _
        refine x_ifne (tgt := 39) rfl rfl (ti_ne jk_0 jk_0 (bn_f (by omega) ?_))
        refine x_aloadn (x := 31) rfl rfl ?_
        refine x_bipush (v := (-2)) rfl kb_m2 ?_
        refine x_inv (N := m_X11_refuse) (As := [.int (-2)]) (b := 31) (st := []) (dx9 := 1) (mc := 0) (ms := 0) (host := "") 11 rfl t_X11_refuse ⟨Or.inl q_11_206, i_X11_refuse.1, i_X11_refuse.2⟩ ⟨by decide, rfl⟩ (congrArg Prod.fst (J.1.1 31 (11, 13) rfl)) rfl (by decide) rfl rfl ⟨by decide, by decide⟩ (jC.of rfl k_X11_refuse rfl ?_)
        show jX m_X11_refuse 1 0 0 0 [(0, .ref 31), (1, .int (-2))] [] _ 0 0 _
        refine x_aloadn (x := 31) rfl rfl ?_
        refine x_iloadn (x := (-2)) rfl rfl ?_
        refine z_putI (N := 13) (w := (-2)) 11 12 rfl f_11_94 rfl (jfin_no TX11 RX11 13 rfl rfl) hD J Sm rfl rfl jk_m2 (pw_31_12 (by omega)) rfl (fun h w7 J Sm => ?_)
        refine x_iloadn (x := (-2)) rfl rfl ?_
        refine x_iret rfl rfl ?_
        show jX m_X11_acres 2 0 0 38 [(0, .ref 31), (1, .int a1), (2, .int a2), (3, .int a3)] [.int (-2)] _ 0 0 _
        refine x_iret rfl rfl ?_
        exact hQ _ _ (jr_of jk_m2 (by omega)) J Sm (Or.inr (Or.inl ⟨(by omega), (by omega), jk_m2, (ov_o w7 rfl rfl)⟩))
      ·
        refine x_iloadn (x := a1) rfl rfl ?_
        refine x_aloadn (x := 31) rfl rfl ?_
        refine z_getR (N := 13) (b := 32) 11 0 rfl f_11_10 rfl J rfl 3968 ⟨rfl, rfl⟩ rfl ?_
        refine z_getR (N := 20) (b := 49) 1 8 rfl f_11_408 rfl J rfl 4104 ⟨rfl, rfl⟩ rfl ?_
        refine z_getM (N := 4) (v := u1) 8 3 rfl f_11_142 rfl J rfl qu1 ?_
        refine x_icge (tgt := 28) rfl rfl (ti_ge rfl rfl ⟨fun c8 => ?_, fun c8 => ?_⟩)
        ·
          refine x_iconst (v := 0) rfl ki_0 ?_
          refine x_zret rfl rfl (by decide) ?_
          show jX m_X11_acres 2 0 0 29 [(0, .ref 31), (1, .int a1), (2, .int a2), (3, .int a3)] [.int 0] _ 0 0 _
          refine x_ifne (tgt := 39) rfl rfl (ti_ne jk_0 jk_0 (bn_f (by omega) ?_))
          refine x_aloadn (x := 31) rfl rfl ?_
          refine x_bipush (v := (-2)) rfl kb_m2 ?_
          refine x_inv (N := m_X11_refuse) (As := [.int (-2)]) (b := 31) (st := []) (dx9 := 1) (mc := 0) (ms := 0) (host := "") 11 rfl t_X11_refuse ⟨Or.inl q_11_206, i_X11_refuse.1, i_X11_refuse.2⟩ ⟨by decide, rfl⟩ (congrArg Prod.fst (J.1.1 31 (11, 13) rfl)) rfl (by decide) rfl rfl ⟨by decide, by decide⟩ (jC.of rfl k_X11_refuse rfl ?_)
          show jX m_X11_refuse 1 0 0 0 [(0, .ref 31), (1, .int (-2))] [] _ 0 0 _
          refine x_aloadn (x := 31) rfl rfl ?_
          refine x_iloadn (x := (-2)) rfl rfl ?_
          refine z_putI (N := 13) (w := (-2)) 11 12 rfl f_11_94 rfl (jfin_no TX11 RX11 13 rfl rfl) hD J Sm rfl rfl jk_m2 (pw_31_12 (by omega)) rfl (fun h w9 J Sm => ?_)
          refine x_iloadn (x := (-2)) rfl rfl ?_
          refine x_iret rfl rfl ?_
          show jX m_X11_acres 2 0 0 38 [(0, .ref 31), (1, .int a1), (2, .int a2), (3, .int a3)] [.int (-2)] _ 0 0 _
          refine x_iret rfl rfl ?_
          exact hQ _ _ (jr_of jk_m2 (by omega)) J Sm (Or.inr (Or.inl ⟨(by omega), (by omega), jk_m2, (ov_o w9 rfl rfl)⟩))
        ·
          refine x_iloadn (x := a1) rfl rfl ?_
          refine x_bipush (v := 40) rfl kb_40 ?_
          refine x_icge (tgt := 28) rfl rfl (ti_ge rfl jk_40 (br_f (by omega) ?_))
          refine x_iconst (v := 1) rfl ki_1 ?_
          refine x_goto (tgt := 29) rfl rfl ?_
          refine x_zret rfl rfl (by decide) ?_
          show jX m_X11_acres 2 0 0 29 [(0, .ref 31), (1, .int a1), (2, .int a2), (3, .int a3)] [.int 1] _ 0 0 _
          refine x_ifne (tgt := 39) rfl rfl (ti_ne jk_1 jk_0 (bn_t (by omega) ?_))
          refine x_aloadn (x := 31) rfl rfl ?_
          refine z_getR (N := 13) (b := 123) 11 10 rfl f_11_86 rfl J rfl 3978 ⟨rfl, rfl⟩ rfl ?_
          refine x_iloadn (x := a1) rfl rfl ?_
          refine x_iconst (v := 3) rfl ki_3 ?_
          refine z_imul rfl rfl jk_3 (by omega) (fun v10 ev10 => ?_)
          refine x_iloadn (x := a2) rfl rfl ?_
          refine z_iadd rfl rfl rfl (by omega) (fun v11 ev11 => ?_)
          refine x_iloadn (x := a3) rfl rfl ?_
          refine z_iast (N := 120) (l := 0) (u := 120) (w := a3.toInt) rfl hD J Sm rfl rfl rfl (by omega) rfl (wr_123 (fun q1 q2 q3 q4 => by omega)) rfl (fun h w12 J Sm => ?_)
          refine x_aloadn (x := 31) rfl rfl ?_
          refine x_iconst (v := 0) rfl ki_0 ?_
          refine x_inv (N := m_X11_accept) (As := [.int 0]) (b := 31) (st := []) (dx9 := 1) (mc := 0) (ms := 0) (host := "") 11 rfl t_X11_accept ⟨Or.inl q_11_165, i_X11_accept.1, i_X11_accept.2⟩ ⟨by decide, rfl⟩ (congrArg Prod.fst (J.1.1 31 (11, 13) rfl)) rfl (by decide) rfl rfl ⟨by decide, by decide⟩ (jC.of rfl k_X11_accept rfl ?_)
          show jX m_X11_accept 1 0 0 0 [(0, .ref 31), (1, .int 0)] [] _ 0 0 _
          refine x_aloadn (x := 31) rfl rfl ?_
          refine x_iconst (v := 0) rfl ki_0 ?_
          refine z_putI (N := 13) (w := 0) 11 12 rfl f_11_94 rfl (jfin_no TX11 RX11 13 rfl rfl) hD J Sm rfl rfl jk_0 (pw_31_12 (by omega)) rfl (fun h w13 J Sm => ?_)
          refine x_aloadn (x := 31) rfl rfl ?_
          refine z_getR (N := 13) (b := 32) 11 0 rfl f_11_10 rfl J rfl 3968 ⟨rfl, rfl⟩ rfl ?_
          refine x_dup rfl rfl ?_
          refine z_getI0 (N := 20) 1 19 rfl f_11_528 rfl J rfl (fun v14 qv14 => ?_)
          have ev14 := jfull v14
          refine x_iconst (v := 1) rfl ki_1 ?_
          refine z_iadd0 rfl (fun v15 => ?_)
          have ev15 := jfull v15
          refine z_putI (N := 20) (w := v15.toInt) 1 19 rfl f_11_528 rfl (jfin_no TX1 RX1 20 rfl rfl) hD J Sm rfl rfl rfl (pw_32_19 trivial) rfl (fun h w16 J Sm => ?_)
          refine x_iloadn (x := 0) rfl rfl ?_
          refine x_iret rfl rfl ?_
          show jX m_X11_acres 2 0 0 55 [(0, .ref 31), (1, .int a1), (2, .int a2), (3, .int a3)] [.int 0] _ 0 0 _
          refine x_iret rfl rfl ?_
          exact hQ _ _ (jr_of jk_0 (by omega)) J Sm (Or.inr (Or.inr ⟨(by omega), (by omega), jk_0, (ac_1 (ov_o w16 rfl (ov_o w13 rfl (ov_w w12 rfl))) (by omega) (by omega) (by omega) (by omega))⟩))
    ·
      exact jX.sub (jsb_c rfl jsb_n) (ct_X11_acres_r31p_18 yy_a1 yy_a2 yy_a3 hD hQ  h ⟨rfl, by omega⟩ J Sm)
def fp_X11_end_r31p : jFp := [(68, 1, 2)]
set_option maxRecDepth 100000 in
set_option maxHeartbeats 4000000 in
theorem ct_X11_end_r31p_15 {Dy : jH → Prop} {h0 : jH} {Q : Option Value → jH → Prop} {a1 : Int32} (yy_a1 : (-2147483648) ≤ a1.toInt ∧ a1.toInt ≤ 2147483647) (hD : jDk Dy) (hQ : ∀ (v : Int32) hx9, (-1) ≤ v.toInt ∧ v.toInt ≤ 400 → jJ jSgX Dy hx9 → jSm fp_X11_end_r31p h0 hx9 → ((¬ (0 ≤ a1.toInt ∧ a1.toInt ≤ (jiv h0 68 1).toInt) ∧ v.toInt = -1 ∧ (jiv hx9 68 1).toInt = (jiv h0 68 1).toInt) ∨ ((0 ≤ a1.toInt ∧ a1.toInt ≤ (jiv h0 68 1).toInt) ∧ v.toInt = a1.toInt ∧ (jiv hx9 68 1).toInt = a1.toInt)) → Q (some (.int v)) hx9) : ∀ (h : jH), (h = h0 ∧ ¬ (0 ≤ a1.toInt ∧ a1.toInt ≤ (jiv h0 68 1).toInt)) → jJ jSgX Dy h → jSm fp_X11_end_r31p h0 h → jX m_X11_end 1 0 0 15 [] [] h 0 0 Q := by
  intro  h C0   J Sm
  refine x_iconst (v := (-1)) rfl ki_m1 ?_
  refine x_iret rfl rfl ?_
  exact hQ _ _ (jr_of jk_m1 (by omega)) J Sm (Or.inl ⟨C0.2, jk_m1, congrArg Int32.toInt (congrFun (ov_e C0.1) 1)⟩)
set_option maxRecDepth 100000 in
set_option maxHeartbeats 4000000 in
theorem sf_X11_end_r31p {Dy : jH → Prop} {h : jH} {Q : Option Value → jH → Prop} {a1 : Int32} (hD : jDk Dy) (J : jJ jSgX Dy h) (hQ : ∀ (v : Int32) hx9, (-1) ≤ v.toInt ∧ v.toInt ≤ 400 → jJ jSgX Dy hx9 → jSm fp_X11_end_r31p h hx9 → ((¬ (0 ≤ a1.toInt ∧ a1.toInt ≤ (jiv h 68 1).toInt) ∧ v.toInt = -1 ∧ (jiv hx9 68 1).toInt = (jiv h 68 1).toInt) ∨ ((0 ≤ a1.toInt ∧ a1.toInt ≤ (jiv h 68 1).toInt) ∧ v.toInt = a1.toInt ∧ (jiv hx9 68 1).toInt = a1.toInt)) → Q (some (.int v)) hx9) : jC m_X11_end 1 0 0 [.ref 31, .int a1] h Q := by
  refine jC.of rfl k_X11_end rfl ?_
  have Sm := jSm_rf fp_X11_end_r31p h
  have yy_a1 := jfull a1
  have ea1 := jfull a1
  show jX m_X11_end 1 0 0 0 [(0, .ref 31), (1, .int a1)] [] _ 0 0 _
  obtain ⟨u1, qu1⟩ : ∃ v : Int32, jiv h 68 1 = v := ⟨_, rfl⟩
  have eu1 := (show 0 ≤ u1.toInt ∧ u1.toInt ≤ 400 from qu1 ▸ jrg_f J sg_68_1_2_1_0_1)
  have ou1 := congrArg Int32.toInt qu1
  refine x_iloadn (x := a1) rfl rfl ?_
  refine x_iflt (tgt := 15) rfl rfl (ti_lt rfl jk_0 ⟨fun c2 => ?_, fun c2 => ?_⟩)
  ·
    exact jX.sub jsb_n (ct_X11_end_r31p_15 yy_a1 hD hQ  h ⟨rfl, by omega⟩ J Sm)
  ·
    refine x_iloadn (x := a1) rfl rfl ?_
    refine x_aloadn (x := 31) rfl rfl ?_
    refine z_getR (N := 13) (b := 68) 11 2 rfl f_11_23 rfl J rfl 3970 ⟨rfl, rfl⟩ rfl ?_
    refine z_getM (N := 6) (v := u1) 9 1 rfl f_11_106 rfl J rfl qu1 ?_
    refine x_icle (tgt := 17) rfl rfl (ti_le rfl rfl ⟨fun c3 => ?_, fun c3 => ?_⟩)
    ·
      refine x_aloadn (x := 31) rfl rfl ?_
      refine z_getR (N := 13) (b := 68) 11 2 rfl f_11_23 rfl J rfl 3970 ⟨rfl, rfl⟩ rfl ?_
      refine x_iloadn (x := a1) rfl rfl ?_
      refine z_putI (N := 6) (w := a1.toInt) 9 1 rfl f_11_106 rfl (jfin_no TX9 RX9 6 rfl rfl) hD J Sm rfl rfl rfl (pw_68_1 (by omega)) rfl (fun h w4 J Sm => ?_)
      refine x_iloadn (x := a1) rfl rfl ?_
      refine x_iret rfl rfl ?_
      exact hQ _ _ (jr_of rfl (by omega)) J Sm (Or.inr ⟨by omega, by omega, by have := congrArg Int32.toInt (jmw w4); omega⟩)
    ·
      exact jX.sub jsb_n (ct_X11_end_r31p_15 yy_a1 hD hQ  h ⟨rfl, by omega⟩ J Sm)
def fp_X11_entry_r31p : jFp := [(31, 12, 13), (32, 19, 20), (57, 3, 4), (58, 0, 400)]
set_option maxRecDepth 100000 in
set_option maxHeartbeats 4000000 in
theorem ct_X11_entry_r31p_35 {Dy : jH → Prop} {h0 : jH} {Q : Option Value → jH → Prop} {a1 : Int32} (yy_a1 : (-2147483648) ≤ a1.toInt ∧ a1.toInt ≤ 2147483647) {a2 : Int32} (yy_a2 : (-2147483648) ≤ a2.toInt ∧ a2.toInt ≤ 2147483647) {a3 : Int32} (yy_a3 : (-2147483648) ≤ a3.toInt ∧ a3.toInt ≤ 2147483647) {a4 : Int32} (yy_a4 : (-2147483648) ≤ a4.toInt ∧ a4.toInt ≤ 2147483647) (hD : jDk Dy) (hQ : ∀ (v : Int32) hx9, (-5) ≤ v.toInt ∧ v.toInt ≤ 100 → jJ jSgX Dy hx9 → jSm fp_X11_entry_r31p h0 hx9 → ((¬ (0 ≤ a1.toInt ∧ a1.toInt ≤ 3 ∧ 0 ≤ a2.toInt ∧ a2.toInt ≤ 399 ∧ (-1000000) ≤ a3.toInt ∧ a3.toInt ≤ 1000000 ∧ 0 ≤ a4.toInt ∧ a4.toInt ≤ 146399) ∧ v.toInt = -1 ∧ jTe 57 h0 hx9) ∨ ((0 ≤ a1.toInt ∧ a1.toInt ≤ 3 ∧ 0 ≤ a2.toInt ∧ a2.toInt ≤ 399 ∧ (-1000000) ≤ a3.toInt ∧ a3.toInt ≤ 1000000 ∧ 0 ≤ a4.toInt ∧ a4.toInt ≤ 146399) ∧ (jiv h0 57 3).toInt = 100 ∧ v.toInt = -5 ∧ jTe 57 h0 hx9) ∨ ((0 ≤ a1.toInt ∧ a1.toInt ≤ 3 ∧ 0 ≤ a2.toInt ∧ a2.toInt ≤ 399 ∧ (-1000000) ≤ a3.toInt ∧ a3.toInt ≤ 1000000 ∧ 0 ≤ a4.toInt ∧ a4.toInt ≤ 146399) ∧ (jiv h0 57 3).toInt < 100 ∧ v.toInt = (jiv h0 57 3).toInt + 1 ∧ jTwr 57 4 [a4, a2, a1, a3] h0 hx9)) → Q (some (.int v)) hx9) : ∀ (h : jH), (h = h0 ∧ ¬ (0 ≤ a1.toInt ∧ a1.toInt ≤ 3 ∧ 0 ≤ a2.toInt ∧ a2.toInt ≤ 399 ∧ (-1000000) ≤ a3.toInt ∧ a3.toInt ≤ 1000000 ∧ 0 ≤ a4.toInt ∧ a4.toInt ≤ 146399)) → jJ jSgX Dy h → jSm fp_X11_entry_r31p h0 h → jX m_X11_entry 3 0 0 35 [(0, .ref 31)] [] h 0 0 Q := by
  intro  h C0   J Sm
  refine x_aloadn (x := 31) rfl rfl ?_
  refine x_iconst (v := (-1)) rfl ki_m1 ?_
  refine x_inv (N := m_X11_refuse) (As := [.int (-1)]) (b := 31) (st := []) (dx9 := 2) (mc := 0) (ms := 0) (host := "") 11 rfl t_X11_refuse ⟨Or.inl q_11_206, i_X11_refuse.1, i_X11_refuse.2⟩ ⟨by decide, rfl⟩ (congrArg Prod.fst (J.1.1 31 (11, 13) rfl)) rfl (by decide) rfl rfl ⟨by decide, by decide⟩ (jC.of rfl k_X11_refuse rfl ?_)
  show jX m_X11_refuse 2 0 0 0 [(0, .ref 31), (1, .int (-1))] [] _ 0 0 _
  refine x_aloadn (x := 31) rfl rfl ?_
  refine x_iloadn (x := (-1)) rfl rfl ?_
  refine z_putI (N := 13) (w := (-1)) 11 12 rfl f_11_94 rfl (jfin_no TX11 RX11 13 rfl rfl) hD J Sm rfl rfl jk_m1 (pw_31_12 (by omega)) rfl (fun h w1 J Sm => ?_)
  refine x_iloadn (x := (-1)) rfl rfl ?_
  refine x_iret rfl rfl ?_
  show jX m_X11_entry 3 0 0 40 [(0, .ref 31)] [.int (-1)] _ 0 0 _
  refine x_iret rfl rfl ?_
  exact hQ _ _ (jr_of jk_m1 (by omega)) J Sm (Or.inl ⟨C0.2, jk_m1, ⟨congrFun (ov_o w1 rfl (ov_e C0.1)) 3, (ov_o w1 rfl (ov_e C0.1))⟩⟩)
set_option maxRecDepth 100000 in
set_option maxHeartbeats 4000000 in
theorem sf_X11_entry_r31p {Dy : jH → Prop} {h : jH} {Q : Option Value → jH → Prop} {a1 : Int32} {a2 : Int32} {a3 : Int32} {a4 : Int32} (hD : jDk Dy) (J : jJ jSgX Dy h) (hQ : ∀ (v : Int32) hx9, (-5) ≤ v.toInt ∧ v.toInt ≤ 100 → jJ jSgX Dy hx9 → jSm fp_X11_entry_r31p h hx9 → ((¬ (0 ≤ a1.toInt ∧ a1.toInt ≤ 3 ∧ 0 ≤ a2.toInt ∧ a2.toInt ≤ 399 ∧ (-1000000) ≤ a3.toInt ∧ a3.toInt ≤ 1000000 ∧ 0 ≤ a4.toInt ∧ a4.toInt ≤ 146399) ∧ v.toInt = -1 ∧ jTe 57 h hx9) ∨ ((0 ≤ a1.toInt ∧ a1.toInt ≤ 3 ∧ 0 ≤ a2.toInt ∧ a2.toInt ≤ 399 ∧ (-1000000) ≤ a3.toInt ∧ a3.toInt ≤ 1000000 ∧ 0 ≤ a4.toInt ∧ a4.toInt ≤ 146399) ∧ (jiv h 57 3).toInt = 100 ∧ v.toInt = -5 ∧ jTe 57 h hx9) ∨ ((0 ≤ a1.toInt ∧ a1.toInt ≤ 3 ∧ 0 ≤ a2.toInt ∧ a2.toInt ≤ 399 ∧ (-1000000) ≤ a3.toInt ∧ a3.toInt ≤ 1000000 ∧ 0 ≤ a4.toInt ∧ a4.toInt ≤ 146399) ∧ (jiv h 57 3).toInt < 100 ∧ v.toInt = (jiv h 57 3).toInt + 1 ∧ jTwr 57 4 [a4, a2, a1, a3] h hx9)) → Q (some (.int v)) hx9) : jC m_X11_entry 3 0 0 [.ref 31, .int a1, .int a2, .int a3, .int a4] h Q := by
  refine jC.of rfl k_X11_entry rfl ?_
  have Sm := jSm_rf fp_X11_entry_r31p h
  have yy_a1 := jfull a1
  have yy_a2 := jfull a2
  have yy_a3 := jfull a3
  have yy_a4 := jfull a4
  have ea1 := jfull a1
  have ea2 := jfull a2
  have ea3 := jfull a3
  have ea4 := jfull a4
  show jX m_X11_entry 3 0 0 0 [(0, .ref 31), (1, .int a1), (2, .int a2), (3, .int a3), (4, .int a4)] [] _ 0 0 _
  obtain ⟨u1, qu1⟩ : ∃ v : Int32, jiv h 57 3 = v := ⟨_, rfl⟩
  have eu1 := (show 0 ≤ u1.toInt ∧ u1.toInt ≤ 100 from qu1 ▸ jrg_f J sg_57_3_4_1_0_1)
  have ou1 := congrArg Int32.toInt qu1
  refine x_iloadn (x := a1) rfl rfl ?_
  refine x_inst (N := m_X11_isOffice) (As := [.int a1]) (st := []) (dx9 := 1) (mc := 0) (ms := 0) (host := "") rfl t_X11_isOffice ⟨Or.inl q_11_456, s_X11_isOffice⟩ rfl (by decide) rfl rfl ⟨by decide, by decide⟩ (zc_X11_isOffice rfl (fun v2 ev2 => ?_))
  show jX m_X11_entry 3 0 0 4 [(0, .ref 31), (1, .int a1), (2, .int a2), (3, .int a3), (4, .int a4)] [.int v2] _ 0 0 _
  refine x_ifeq (tgt := 35) rfl rfl (ti_eq rfl jk_0 ⟨fun c3 => ?_, fun c3 => ?_⟩)
  ·
    exact jX.sub (jsb_c rfl jsb_n) (ct_X11_entry_r31p_35 yy_a1 yy_a2 yy_a3 yy_a4 hD hQ  h ⟨rfl, by omega⟩ J Sm)
  ·
    refine x_iloadn (x := a2) rfl rfl ?_
    refine x_inst (N := m_X11_isYear) (As := [.int a2]) (st := []) (dx9 := 1) (mc := 0) (ms := 0) (host := "") rfl t_X11_isYear ⟨Or.inl q_11_433, s_X11_isYear⟩ rfl (by decide) rfl rfl ⟨by decide, by decide⟩ (zc_X11_isYear rfl (fun v4 ev4 => ?_))
    show jX m_X11_entry 3 0 0 11 [(0, .ref 31), (1, .int a1), (2, .int a2), (3, .int a3), (4, .int a4)] [.int v4] _ 0 0 _
    refine x_ifeq (tgt := 35) rfl rfl (ti_eq rfl jk_0 ⟨fun c5 => ?_, fun c5 => ?_⟩)
    ·
      exact jX.sub (jsb_c rfl jsb_n) (ct_X11_entry_r31p_35 yy_a1 yy_a2 yy_a3 yy_a4 hD hQ  h ⟨rfl, by omega⟩ J Sm)
    ·
      refine x_iloadn (x := a3) rfl rfl ?_
      refine x_ldcw (v := (-1000000)) rfl z_11_472 ?_
      refine x_ldcw (v := 1000000) rfl z_11_436 ?_
      refine x_inst (N := m_X11_isWithin) (As := [.int a3, .int (-1000000), .int 1000000]) (st := []) (dx9 := 1) (mc := 0) (ms := 0) (host := "") rfl t_X11_isWithin ⟨Or.inl q_11_202, s_X11_isWithin⟩ rfl (by decide) rfl rfl ⟨by decide, by decide⟩ (zc_X11_isWithin rfl jk_m1000000 jk_1000000 (fun v6 ev6 => ?_))
      show jX m_X11_entry 3 0 0 24 [(0, .ref 31), (1, .int a1), (2, .int a2), (3, .int a3), (4, .int a4)] [.int v6] _ 0 0 _
      refine x_ifeq (tgt := 35) rfl rfl (ti_eq rfl jk_0 ⟨fun c7 => ?_, fun c7 => ?_⟩)
      ·
        exact jX.sub (jsb_c rfl jsb_n) (ct_X11_entry_r31p_35 yy_a1 yy_a2 yy_a3 yy_a4 hD hQ  h ⟨rfl, by omega⟩ J Sm)
      ·
        refine x_iload (x := a4) rfl rfl ?_
        refine x_inst (N := m_X11_isDay) (As := [.int a4]) (st := []) (dx9 := 1) (mc := 0) (ms := 0) (host := "") rfl t_X11_isDay ⟨Or.inl q_11_115, s_X11_isDay⟩ rfl (by decide) rfl rfl ⟨by decide, by decide⟩ (zc_X11_isDay rfl (fun v8 ev8 => ?_))
        show jX m_X11_entry 3 0 0 32 [(0, .ref 31), (1, .int a1), (2, .int a2), (3, .int a3), (4, .int a4)] [.int v8] _ 0 0 _
        refine x_ifne (tgt := 41) rfl rfl (ti_ne rfl jk_0 ⟨fun c9 => ?_, fun c9 => ?_⟩)
        ·
          refine x_aloadn (x := 31) rfl rfl ?_
          refine z_getR (N := 13) (b := 32) 11 0 rfl f_11_10 rfl J rfl 3968 ⟨rfl, rfl⟩ rfl ?_
          refine z_getR (N := 20) (b := 57) 1 12 rfl f_11_473 rfl J rfl 4108 ⟨rfl, rfl⟩ rfl ?_
          refine x_inv (N := m_X8_isFull) (As := []) (b := 57) (st := []) (dx9 := 2) (mc := 0) (ms := 0) (host := "") 8 rfl t_X8_isFull ⟨Or.inl q_11_130, i_X8_isFull.1, i_X8_isFull.2⟩ ⟨by decide, rfl⟩ (congrArg Prod.fst (J.1.1 57 (8, 4) rfl)) rfl (by decide) rfl rfl ⟨by decide, by decide⟩ (jC.of rfl k_X8_isFull rfl ?_)
          show jX m_X8_isFull 2 0 0 0 [(0, .ref 57)] [] _ 0 0 _
          refine x_aloadn (x := 57) rfl rfl ?_
          refine z_getM (N := 4) (v := u1) 8 3 rfl f_8_7 rfl J rfl qu1 ?_
          refine x_aloadn (x := 57) rfl rfl ?_
          refine z_getC (N := 4) (v := 100) 8 1 rfl f_8_22 rfl J rfl sg_57_1_2_1_0_1 jk_100 ?_
          refine x_iclt (tgt := 15) rfl rfl (ti_lt rfl jk_100 ⟨fun c10 => ?_, fun c10 => ?_⟩)
          ·
            refine x_iconst (v := 0) rfl ki_0 ?_
            refine x_zret rfl rfl (by decide) ?_
            show jX m_X11_entry 3 0 0 51 [(0, .ref 31), (1, .int a1), (2, .int a2), (3, .int a3), (4, .int a4)] [.int 0] _ 0 0 _
            refine x_ifeq (tgt := 61) rfl rfl (ti_eq jk_0 jk_0 (br_t (by omega) ?_))
            refine x_aloadn (x := 31) rfl rfl ?_
            refine z_getR (N := 13) (b := 32) 11 0 rfl f_11_10 rfl J rfl 3968 ⟨rfl, rfl⟩ rfl ?_
            refine z_getR (N := 20) (b := 57) 1 12 rfl f_11_473 rfl J rfl 4108 ⟨rfl, rfl⟩ rfl ?_
            refine x_iload (x := a4) rfl rfl ?_
            refine x_iloadn (x := a2) rfl rfl ?_
            refine x_iloadn (x := a1) rfl rfl ?_
            refine x_iloadn (x := a3) rfl rfl ?_
            refine x_iconst (v := 0) rfl ki_0 ?_
            refine x_iconst (v := 0) rfl ki_0 ?_
            refine x_inv (N := m_X8_add) (As := [.int a4, .int a2, .int a1, .int a3, .int 0, .int 0]) (b := 57) (st := []) (dx9 := 2) (mc := 0) (ms := 0) (host := "") 8 rfl t_X8_add ⟨Or.inl q_11_145, i_X8_add.1, i_X8_add.2⟩ ⟨by decide, rfl⟩ (congrArg Prod.fst (J.1.1 57 (8, 4) rfl)) rfl (by decide) rfl rfl ⟨by decide, by decide⟩ (jC.of rfl k_X8_add rfl ?_)
            show jX m_X8_add 2 0 0 0 [(0, .ref 57), (1, .int a4), (2, .int a2), (3, .int a1), (4, .int a3), (5, .int 0), (6, .int 0)] [] _ 0 0 _
            refine x_aloadn (x := 57) rfl rfl ?_
            refine z_getM (N := 4) (v := u1) 8 3 rfl f_8_7 rfl J rfl qu1 ?_
            refine x_aloadn (x := 57) rfl rfl ?_
            refine z_getC (N := 4) (v := 100) 8 1 rfl f_8_22 rfl J rfl sg_57_1_2_1_0_1 jk_100 ?_
            refine x_iclt (tgt := 12) rfl rfl (ti_lt rfl jk_100 (br_t (by omega) ?_))
            refine x_aloadn (x := 57) rfl rfl ?_
            refine z_getM (N := 4) (v := u1) 8 3 rfl f_8_7 rfl J rfl qu1 ?_
            refine x_istore (lsx9 := [(7, .int u1), (0, .ref 57), (1, .int a4), (2, .int a2), (3, .int a1), (4, .int a3), (5, .int 0), (6, .int 0)]) rfl rfl rfl ?_
            refine x_aloadn (x := 57) rfl rfl ?_
            refine x_iload (x := u1) rfl rfl ?_
            refine x_iconst (v := 1) rfl ki_1 ?_
            refine z_iadd rfl rfl jk_1 (by omega) (fun v11 ev11 => ?_)
            refine z_putI (N := 4) (w := v11.toInt) 8 3 rfl f_8_7 rfl (jfin_no TX8 RX8 4 rfl rfl) hD J Sm rfl rfl rfl (pw_57_3 (by omega)) rfl (fun h w12 J Sm => ?_)
            refine x_aloadn (x := 57) rfl rfl ?_
            refine x_iload (x := u1) rfl rfl ?_
            refine x_iconst (v := 0) rfl ki_0 ?_
            refine x_iloadn (x := a4) rfl rfl ?_
            refine x_inv (N := m_X8_put) (As := [.int u1, .int 0, .int a4]) (b := 57) (st := []) (dx9 := 1) (mc := 0) (ms := 0) (host := "") 8 rfl t_X8_put ⟨Or.inl q_8_29, i_X8_put.1, i_X8_put.2⟩ ⟨by decide, rfl⟩ (congrArg Prod.fst (J.1.1 57 (8, 4) rfl)) rfl (by decide) rfl rfl ⟨by decide, by decide⟩ (jC.of rfl k_X8_put rfl ?_)
            show jX m_X8_put 1 0 0 0 [(0, .ref 57), (1, .int u1), (2, .int 0), (3, .int a4)] [] _ 0 0 _
            refine x_iloadn (x := u1) rfl rfl ?_
            refine x_iflt (tgt := 38) rfl rfl (ti_lt rfl jk_0 (br_f (by omega) ?_))
            refine x_iloadn (x := u1) rfl rfl ?_
            refine x_aloadn (x := 57) rfl rfl ?_
            refine z_getM (N := 4) (v := v11) 8 3 rfl f_8_7 rfl J rfl (jmw w12) ?_
            refine x_icge (tgt := 38) rfl rfl (ti_ge rfl rfl (br_f (by omega) ?_))
            refine x_iloadn (x := 0) rfl rfl ?_
            refine x_iflt (tgt := 38) rfl rfl (ti_lt jk_0 jk_0 (br_f (by omega) ?_))
            refine x_iloadn (x := 0) rfl rfl ?_
            refine x_aloadn (x := 57) rfl rfl ?_
            refine z_getC (N := 4) (v := 4) 8 0 rfl f_8_19 rfl J rfl sg_57_0_1_1_0_1 jk_4 ?_
            refine x_icge (tgt := 38) rfl rfl (ti_ge jk_0 jk_4 (br_f (by omega) ?_))
            refine x_aloadn (x := 57) rfl rfl ?_
            refine z_getR (N := 4) (b := 58) 8 2 rfl f_8_25 rfl J rfl 7298 ⟨rfl, rfl⟩ rfl ?_
            refine x_iloadn (x := u1) rfl rfl ?_
            refine x_aloadn (x := 57) rfl rfl ?_
            refine z_getC (N := 4) (v := 4) 8 0 rfl f_8_19 rfl J rfl sg_57_0_1_1_0_1 jk_4 ?_
            refine z_imul rfl rfl jk_4 (by omega) (fun v13 ev13 => ?_)
            refine x_iloadn (x := 0) rfl rfl ?_
            refine z_iadd rfl rfl jk_0 (by omega) (fun v14 ev14 => ?_)
            refine x_iloadn (x := a4) rfl rfl ?_
            refine z_iast (N := 400) (l := 0) (u := 400) (w := a4.toInt) rfl hD J Sm rfl rfl rfl (by omega) rfl (wr_58 (fun q1 q2 q3 q4 => by omega) (fun q1 q2 q3 q4 => by omega) (fun q1 q2 q3 q4 => by omega) (fun q1 q2 q3 q4 => by omega)) rfl (fun h w15 J Sm => ?_)
            refine x_vret rfl rfl ?_
            show jX m_X8_add 2 0 0 34 [(7, .int u1), (0, .ref 57), (1, .int a4), (2, .int a2), (3, .int a1), (4, .int a3), (5, .int 0), (6, .int 0)] [] _ 0 0 _
            refine x_aloadn (x := 57) rfl rfl ?_
            refine x_iload (x := u1) rfl rfl ?_
            refine x_iconst (v := 1) rfl ki_1 ?_
            refine x_iloadn (x := a2) rfl rfl ?_
            refine x_inv (N := m_X8_put) (As := [.int u1, .int 1, .int a2]) (b := 57) (st := []) (dx9 := 1) (mc := 0) (ms := 0) (host := "") 8 rfl t_X8_put ⟨Or.inl q_8_29, i_X8_put.1, i_X8_put.2⟩ ⟨by decide, rfl⟩ (congrArg Prod.fst (J.1.1 57 (8, 4) rfl)) rfl (by decide) rfl rfl ⟨by decide, by decide⟩ (jC.of rfl k_X8_put rfl ?_)
            show jX m_X8_put 1 0 0 0 [(0, .ref 57), (1, .int u1), (2, .int 1), (3, .int a2)] [] _ 0 0 _
            refine x_iloadn (x := u1) rfl rfl ?_
            refine x_iflt (tgt := 38) rfl rfl (ti_lt rfl jk_0 (br_f (by omega) ?_))
            refine x_iloadn (x := u1) rfl rfl ?_
            refine x_aloadn (x := 57) rfl rfl ?_
            refine z_getM (N := 4) (v := v11) 8 3 rfl f_8_7 rfl J rfl (jmo w15 rfl (jmw w12)) ?_
            refine x_icge (tgt := 38) rfl rfl (ti_ge rfl rfl (br_f (by omega) ?_))
            refine x_iloadn (x := 1) rfl rfl ?_
            refine x_iflt (tgt := 38) rfl rfl (ti_lt jk_1 jk_0 (br_f (by omega) ?_))
            refine x_iloadn (x := 1) rfl rfl ?_
            refine x_aloadn (x := 57) rfl rfl ?_
            refine z_getC (N := 4) (v := 4) 8 0 rfl f_8_19 rfl J rfl sg_57_0_1_1_0_1 jk_4 ?_
            refine x_icge (tgt := 38) rfl rfl (ti_ge jk_1 jk_4 (br_f (by omega) ?_))
            refine x_aloadn (x := 57) rfl rfl ?_
            refine z_getR (N := 4) (b := 58) 8 2 rfl f_8_25 rfl J rfl 7298 ⟨rfl, rfl⟩ rfl ?_
            refine x_iloadn (x := u1) rfl rfl ?_
            refine x_aloadn (x := 57) rfl rfl ?_
            refine z_getC (N := 4) (v := 4) 8 0 rfl f_8_19 rfl J rfl sg_57_0_1_1_0_1 jk_4 ?_
            refine z_imul rfl rfl jk_4 (by omega) (fun v16 ev16 => ?_)
            refine x_iloadn (x := 1) rfl rfl ?_
            refine z_iadd rfl rfl jk_1 (by omega) (fun v17 ev17 => ?_)
            refine x_iloadn (x := a2) rfl rfl ?_
            refine z_iast (N := 400) (l := 0) (u := 400) (w := a2.toInt) rfl hD J Sm rfl rfl rfl (by omega) rfl (wr_58 (fun q1 q2 q3 q4 => by omega) (fun q1 q2 q3 q4 => by omega) (fun q1 q2 q3 q4 => by omega) (fun q1 q2 q3 q4 => by omega)) rfl (fun h w18 J Sm => ?_)
            refine x_vret rfl rfl ?_
            show jX m_X8_add 2 0 0 42 [(7, .int u1), (0, .ref 57), (1, .int a4), (2, .int a2), (3, .int a1), (4, .int a3), (5, .int 0), (6, .int 0)] [] _ 0 0 _
            refine x_aloadn (x := 57) rfl rfl ?_
            refine x_iload (x := u1) rfl rfl ?_
            refine x_iconst (v := 2) rfl ki_2 ?_
            refine x_iloadn (x := a1) rfl rfl ?_
            refine x_inv (N := m_X8_put) (As := [.int u1, .int 2, .int a1]) (b := 57) (st := []) (dx9 := 1) (mc := 0) (ms := 0) (host := "") 8 rfl t_X8_put ⟨Or.inl q_8_29, i_X8_put.1, i_X8_put.2⟩ ⟨by decide, rfl⟩ (congrArg Prod.fst (J.1.1 57 (8, 4) rfl)) rfl (by decide) rfl rfl ⟨by decide, by decide⟩ (jC.of rfl k_X8_put rfl ?_)
            show jX m_X8_put 1 0 0 0 [(0, .ref 57), (1, .int u1), (2, .int 2), (3, .int a1)] [] _ 0 0 _
            refine x_iloadn (x := u1) rfl rfl ?_
            refine x_iflt (tgt := 38) rfl rfl (ti_lt rfl jk_0 (br_f (by omega) ?_))
            refine x_iloadn (x := u1) rfl rfl ?_
            refine x_aloadn (x := 57) rfl rfl ?_
            refine z_getM (N := 4) (v := v11) 8 3 rfl f_8_7 rfl J rfl (jmo w18 rfl (jmo w15 rfl (jmw w12))) ?_
            refine x_icge (tgt := 38) rfl rfl (ti_ge rfl rfl (br_f (by omega) ?_))
            refine x_iloadn (x := 2) rfl rfl ?_
            refine x_iflt (tgt := 38) rfl rfl (ti_lt jk_2 jk_0 (br_f (by omega) ?_))
            refine x_iloadn (x := 2) rfl rfl ?_
            refine x_aloadn (x := 57) rfl rfl ?_
            refine z_getC (N := 4) (v := 4) 8 0 rfl f_8_19 rfl J rfl sg_57_0_1_1_0_1 jk_4 ?_
            refine x_icge (tgt := 38) rfl rfl (ti_ge jk_2 jk_4 (br_f (by omega) ?_))
            refine x_aloadn (x := 57) rfl rfl ?_
            refine z_getR (N := 4) (b := 58) 8 2 rfl f_8_25 rfl J rfl 7298 ⟨rfl, rfl⟩ rfl ?_
            refine x_iloadn (x := u1) rfl rfl ?_
            refine x_aloadn (x := 57) rfl rfl ?_
            refine z_getC (N := 4) (v := 4) 8 0 rfl f_8_19 rfl J rfl sg_57_0_1_1_0_1 jk_4 ?_
            refine z_imul rfl rfl jk_4 (by omega) (fun v19 ev19 => ?_)
            refine x_iloadn (x := 2) rfl rfl ?_
            refine z_iadd rfl rfl jk_2 (by omega) (fun v20 ev20 => ?_)
            refine x_iloadn (x := a1) rfl rfl ?_
            refine z_iast (N := 400) (l := 0) (u := 400) (w := a1.toInt) rfl hD J Sm rfl rfl rfl (by omega) rfl (wr_58 (fun q1 q2 q3 q4 => by omega) (fun q1 q2 q3 q4 => by omega) (fun q1 q2 q3 q4 => by omega) (fun q1 q2 q3 q4 => by omega)) rfl (fun h w21 J Sm => ?_)
            refine x_vret rfl rfl ?_
            show jX m_X8_add 2 0 0 50 [(7, .int u1), (0, .ref 57), (1, .int a4), (2, .int a2), (3, .int a1), (4, .int a3), (5, .int 0), (6, .int 0)] [] _ 0 0 _
            refine x_aloadn (x := 57) rfl rfl ?_
            refine x_iload (x := u1) rfl rfl ?_
            refine x_iconst (v := 3) rfl ki_3 ?_
            refine x_iload (x := a3) rfl rfl ?_
            refine x_inv (N := m_X8_put) (As := [.int u1, .int 3, .int a3]) (b := 57) (st := []) (dx9 := 1) (mc := 0) (ms := 0) (host := "") 8 rfl t_X8_put ⟨Or.inl q_8_29, i_X8_put.1, i_X8_put.2⟩ ⟨by decide, rfl⟩ (congrArg Prod.fst (J.1.1 57 (8, 4) rfl)) rfl (by decide) rfl rfl ⟨by decide, by decide⟩ (jC.of rfl k_X8_put rfl ?_)
            show jX m_X8_put 1 0 0 0 [(0, .ref 57), (1, .int u1), (2, .int 3), (3, .int a3)] [] _ 0 0 _
            refine x_iloadn (x := u1) rfl rfl ?_
            refine x_iflt (tgt := 38) rfl rfl (ti_lt rfl jk_0 (br_f (by omega) ?_))
            refine x_iloadn (x := u1) rfl rfl ?_
            refine x_aloadn (x := 57) rfl rfl ?_
            refine z_getM (N := 4) (v := v11) 8 3 rfl f_8_7 rfl J rfl (jmo w21 rfl (jmo w18 rfl (jmo w15 rfl (jmw w12)))) ?_
            refine x_icge (tgt := 38) rfl rfl (ti_ge rfl rfl (br_f (by omega) ?_))
            refine x_iloadn (x := 3) rfl rfl ?_
            refine x_iflt (tgt := 38) rfl rfl (ti_lt jk_3 jk_0 (br_f (by omega) ?_))
            refine x_iloadn (x := 3) rfl rfl ?_
            refine x_aloadn (x := 57) rfl rfl ?_
            refine z_getC (N := 4) (v := 4) 8 0 rfl f_8_19 rfl J rfl sg_57_0_1_1_0_1 jk_4 ?_
            refine x_icge (tgt := 38) rfl rfl (ti_ge jk_3 jk_4 (br_f (by omega) ?_))
            refine x_aloadn (x := 57) rfl rfl ?_
            refine z_getR (N := 4) (b := 58) 8 2 rfl f_8_25 rfl J rfl 7298 ⟨rfl, rfl⟩ rfl ?_
            refine x_iloadn (x := u1) rfl rfl ?_
            refine x_aloadn (x := 57) rfl rfl ?_
            refine z_getC (N := 4) (v := 4) 8 0 rfl f_8_19 rfl J rfl sg_57_0_1_1_0_1 jk_4 ?_
            refine z_imul rfl rfl jk_4 (by omega) (fun v22 ev22 => ?_)
            refine x_iloadn (x := 3) rfl rfl ?_
            refine z_iadd rfl rfl jk_3 (by omega) (fun v23 ev23 => ?_)
            refine x_iloadn (x := a3) rfl rfl ?_
            refine z_iast (N := 400) (l := 0) (u := 400) (w := a3.toInt) rfl hD J Sm rfl rfl rfl (by omega) rfl (wr_58 (fun q1 q2 q3 q4 => by omega) (fun q1 q2 q3 q4 => by omega) (fun q1 q2 q3 q4 => by omega) (fun q1 q2 q3 q4 => by omega)) rfl (fun h w24 J Sm => ?_)
            refine x_vret rfl rfl ?_
            show jX m_X8_add 2 0 0 59 [(7, .int u1), (0, .ref 57), (1, .int a4), (2, .int a2), (3, .int a1), (4, .int a3), (5, .int 0), (6, .int 0)] [] _ 0 0 _
            refine x_aloadn (x := 57) rfl rfl ?_
            refine x_iload (x := u1) rfl rfl ?_
            refine x_iconst (v := 4) rfl ki_4 ?_
            refine x_iload (x := 0) rfl rfl ?_
            refine x_inv (N := m_X8_put) (As := [.int u1, .int 4, .int 0]) (b := 57) (st := []) (dx9 := 1) (mc := 0) (ms := 0) (host := "") 8 rfl t_X8_put ⟨Or.inl q_8_29, i_X8_put.1, i_X8_put.2⟩ ⟨by decide, rfl⟩ (congrArg Prod.fst (J.1.1 57 (8, 4) rfl)) rfl (by decide) rfl rfl ⟨by decide, by decide⟩ (jC.of rfl k_X8_put rfl ?_)
            show jX m_X8_put 1 0 0 0 [(0, .ref 57), (1, .int u1), (2, .int 4), (3, .int 0)] [] _ 0 0 _
            refine x_iloadn (x := u1) rfl rfl ?_
            refine x_iflt (tgt := 38) rfl rfl (ti_lt rfl jk_0 (br_f (by omega) ?_))
            refine x_iloadn (x := u1) rfl rfl ?_
            refine x_aloadn (x := 57) rfl rfl ?_
            refine z_getM (N := 4) (v := v11) 8 3 rfl f_8_7 rfl J rfl (jmo w24 rfl (jmo w21 rfl (jmo w18 rfl (jmo w15 rfl (jmw w12))))) ?_
            refine x_icge (tgt := 38) rfl rfl (ti_ge rfl rfl (br_f (by omega) ?_))
            refine x_iloadn (x := 4) rfl rfl ?_
            refine x_iflt (tgt := 38) rfl rfl (ti_lt jk_4 jk_0 (br_f (by omega) ?_))
            refine x_iloadn (x := 4) rfl rfl ?_
            refine x_aloadn (x := 57) rfl rfl ?_
            refine z_getC (N := 4) (v := 4) 8 0 rfl f_8_19 rfl J rfl sg_57_0_1_1_0_1 jk_4 ?_
            refine x_icge (tgt := 38) rfl rfl (ti_ge jk_4 jk_4 (br_t (by omega) ?_))
            refine x_vret rfl rfl ?_
            show jX m_X8_add 2 0 0 68 [(7, .int u1), (0, .ref 57), (1, .int a4), (2, .int a2), (3, .int a1), (4, .int a3), (5, .int 0), (6, .int 0)] [] _ 0 0 _
            refine x_aloadn (x := 57) rfl rfl ?_
            refine x_iload (x := u1) rfl rfl ?_
            refine x_iconst (v := 5) rfl ki_5 ?_
            refine x_iload (x := 0) rfl rfl ?_
            refine x_inv (N := m_X8_put) (As := [.int u1, .int 5, .int 0]) (b := 57) (st := []) (dx9 := 1) (mc := 0) (ms := 0) (host := "") 8 rfl t_X8_put ⟨Or.inl q_8_29, i_X8_put.1, i_X8_put.2⟩ ⟨by decide, rfl⟩ (congrArg Prod.fst (J.1.1 57 (8, 4) rfl)) rfl (by decide) rfl rfl ⟨by decide, by decide⟩ (jC.of rfl k_X8_put rfl ?_)
            show jX m_X8_put 1 0 0 0 [(0, .ref 57), (1, .int u1), (2, .int 5), (3, .int 0)] [] _ 0 0 _
            refine x_iloadn (x := u1) rfl rfl ?_
            refine x_iflt (tgt := 38) rfl rfl (ti_lt rfl jk_0 (br_f (by omega) ?_))
            refine x_iloadn (x := u1) rfl rfl ?_
            refine x_aloadn (x := 57) rfl rfl ?_
            refine z_getM (N := 4) (v := v11) 8 3 rfl f_8_7 rfl J rfl (jmo w24 rfl (jmo w21 rfl (jmo w18 rfl (jmo w15 rfl (jmw w12))))) ?_
            refine x_icge (tgt := 38) rfl rfl (ti_ge rfl rfl (br_f (by omega) ?_))
            refine x_iloadn (x := 5) rfl rfl ?_
            refine x_iflt (tgt := 38) rfl rfl (ti_lt jk_5 jk_0 (br_f (by omega) ?_))
            refine x_iloadn (x := 5) rfl rfl ?_
            refine x_aloadn (x := 57) rfl rfl ?_
            refine z_getC (N := 4) (v := 4) 8 0 rfl f_8_19 rfl J rfl sg_57_0_1_1_0_1 jk_4 ?_
            refine x_icge (tgt := 38) rfl rfl (ti_ge jk_5 jk_4 (br_t (by omega) ?_))
            refine x_vret rfl rfl ?_
            show jX m_X8_add 2 0 0 77 [(7, .int u1), (0, .ref 57), (1, .int a4), (2, .int a2), (3, .int a1), (4, .int a3), (5, .int 0), (6, .int 0)] [] _ 0 0 _
            refine x_vret rfl rfl ?_
            show jX m_X11_entry 3 0 0 78 [(0, .ref 31), (1, .int a1), (2, .int a2), (3, .int a3), (4, .int a4)] [] _ 0 0 _
            refine x_aloadn (x := 31) rfl rfl ?_
            refine x_aloadn (x := 31) rfl rfl ?_
            refine z_getR (N := 13) (b := 32) 11 0 rfl f_11_10 rfl J rfl 3968 ⟨rfl, rfl⟩ rfl ?_
            refine z_getR (N := 20) (b := 57) 1 12 rfl f_11_473 rfl J rfl 4108 ⟨rfl, rfl⟩ rfl ?_
            refine z_getM (N := 4) (v := v11) 8 3 rfl f_11_142 rfl J rfl (jmo w24 rfl (jmo w21 rfl (jmo w18 rfl (jmo w15 rfl (jmw w12))))) ?_
            refine x_inv (N := m_X11_accept) (As := [.int v11]) (b := 31) (st := []) (dx9 := 2) (mc := 0) (ms := 0) (host := "") 11 rfl t_X11_accept ⟨Or.inl q_11_165, i_X11_accept.1, i_X11_accept.2⟩ ⟨by decide, rfl⟩ (congrArg Prod.fst (J.1.1 31 (11, 13) rfl)) rfl (by decide) rfl rfl ⟨by decide, by decide⟩ (jC.of rfl k_X11_accept rfl ?_)
            show jX m_X11_accept 2 0 0 0 [(0, .ref 31), (1, .int v11)] [] _ 0 0 _
            refine x_aloadn (x := 31) rfl rfl ?_
            refine x_iconst (v := 0) rfl ki_0 ?_
            refine z_putI (N := 13) (w := 0) 11 12 rfl f_11_94 rfl (jfin_no TX11 RX11 13 rfl rfl) hD J Sm rfl rfl jk_0 (pw_31_12 (by omega)) rfl (fun h w25 J Sm => ?_)
            refine x_aloadn (x := 31) rfl rfl ?_
            refine z_getR (N := 13) (b := 32) 11 0 rfl f_11_10 rfl J rfl 3968 ⟨rfl, rfl⟩ rfl ?_
            refine x_dup rfl rfl ?_
            refine z_getI0 (N := 20) 1 19 rfl f_11_528 rfl J rfl (fun v26 qv26 => ?_)
            have ev26 := jfull v26
            refine x_iconst (v := 1) rfl ki_1 ?_
            refine z_iadd0 rfl (fun v27 => ?_)
            have ev27 := jfull v27
            refine z_putI (N := 20) (w := v27.toInt) 1 19 rfl f_11_528 rfl (jfin_no TX1 RX1 20 rfl rfl) hD J Sm rfl rfl rfl (pw_32_19 trivial) rfl (fun h w28 J Sm => ?_)
            refine x_iloadn (x := v11) rfl rfl ?_
            refine x_iret rfl rfl ?_
            show jX m_X11_entry 3 0 0 92 [(0, .ref 31), (1, .int a1), (2, .int a2), (3, .int a3), (4, .int a4)] [.int v11] _ 0 0 _
            refine x_iret rfl rfl ?_
            exact hQ _ _ (jr_of rfl (by omega)) J Sm (Or.inr (Or.inr ⟨(by omega), (by omega), (by omega), (tw_4 (jmo w28 rfl (jmo w25 rfl (jmo w24 rfl (jmo w21 rfl (jmo w18 rfl (jmo w15 rfl (jmw w12))))))) qu1 (by omega) (by omega) (ov_o w28 rfl (ov_o w25 rfl (ov_w w24 (ov_w w21 (ov_w w18 (ov_w w15 (ov_o w12 rfl rfl))))))) (jix (by omega) (by omega)) (jix (by omega) (by omega)) (jix (by omega) (by omega)) (jix (by omega) (by omega)))⟩))
          ·
            refine x_iconst (v := 1) rfl ki_1 ?_
            refine x_goto (tgt := 16) rfl rfl ?_
            refine x_zret rfl rfl (by decide) ?_
            show jX m_X11_entry 3 0 0 51 [(0, .ref 31), (1, .int a1), (2, .int a2), (3, .int a3), (4, .int a4)] [.int 1] _ 0 0 _
            refine x_ifeq (tgt := 61) rfl rfl (ti_eq jk_1 jk_0 (br_f (by omega) ?_))
            refine x_aloadn (x := 31) rfl rfl ?_
            refine x_bipush (v := (-5)) rfl kb_m5 ?_
            refine x_inv (N := m_X11_refuse) (As := [.int (-5)]) (b := 31) (st := []) (dx9 := 2) (mc := 0) (ms := 0) (host := "") 11 rfl t_X11_refuse ⟨Or.inl q_11_206, i_X11_refuse.1, i_X11_refuse.2⟩ ⟨by decide, rfl⟩ (congrArg Prod.fst (J.1.1 31 (11, 13) rfl)) rfl (by decide) rfl rfl ⟨by decide, by decide⟩ (jC.of rfl k_X11_refuse rfl ?_)
            show jX m_X11_refuse 2 0 0 0 [(0, .ref 31), (1, .int (-5))] [] _ 0 0 _
            refine x_aloadn (x := 31) rfl rfl ?_
            refine x_iloadn (x := (-5)) rfl rfl ?_
            refine z_putI (N := 13) (w := (-5)) 11 12 rfl f_11_94 rfl (jfin_no TX11 RX11 13 rfl rfl) hD J Sm rfl rfl jk_m5 (pw_31_12 (by omega)) rfl (fun h w29 J Sm => ?_)
            refine x_iloadn (x := (-5)) rfl rfl ?_
            refine x_iret rfl rfl ?_
            show jX m_X11_entry 3 0 0 60 [(0, .ref 31), (1, .int a1), (2, .int a2), (3, .int a3), (4, .int a4)] [.int (-5)] _ 0 0 _
            refine x_iret rfl rfl ?_
            exact hQ _ _ (jr_of jk_m5 (by omega)) J Sm (Or.inr (Or.inl ⟨(by omega), (by omega), jk_m5, ⟨congrFun (ov_o w29 rfl rfl) 3, (ov_o w29 rfl rfl)⟩⟩))
        ·
          exact jX.sub (jsb_c rfl jsb_n) (ct_X11_entry_r31p_35 yy_a1 yy_a2 yy_a3 yy_a4 hD hQ  h ⟨rfl, by omega⟩ J Sm)
def fp_X11_feed_r31p : jFp := [(68, 1, 2), (69, 0, 400)]
set_option maxRecDepth 100000 in
set_option maxHeartbeats 4000000 in
theorem sf_X11_feed_r31p {Dy : jH → Prop} {h : jH} {Q : Option Value → jH → Prop} {a1 : Int32} {a2 : Int32} {a3 : Int32} {a4 : Int32} {a5 : Int32} (hD : jDk Dy) (J : jJ jSgX Dy h) (hQ : ∀ (v : Int32) hx9, (-1) ≤ v.toInt ∧ v.toInt ≤ 400 → jJ jSgX Dy hx9 → jSm fp_X11_feed_r31p h hx9 → ((380 < (jiv h 68 1).toInt ∧ v.toInt = -1 ∧ (jiv hx9 68 1).toInt = (jiv h 68 1).toInt) ∨ ((jiv h 68 1).toInt ≤ 380 ∧ v.toInt = (jiv h 68 1).toInt + 20 ∧ (jiv hx9 68 1).toInt = (jiv h 68 1).toInt + 20)) → Q (some (.int v)) hx9) : jC m_X11_feed 2 0 0 [.ref 31, .int a1, .int a2, .int a3, .int a4, .int a5] h Q := by
  refine jC.of rfl k_X11_feed rfl ?_
  have Sm := jSm_rf fp_X11_feed_r31p h
  have ea1 := jfull a1
  have ea2 := jfull a2
  have ea3 := jfull a3
  have ea4 := jfull a4
  have ea5 := jfull a5
  show jX m_X11_feed 2 0 0 0 [(0, .ref 31), (1, .int a1), (2, .int a2), (3, .int a3), (4, .int a4), (5, .int a5)] [] _ 0 0 _
  obtain ⟨u1, qu1⟩ : ∃ v : Int32, jiv h 68 1 = v := ⟨_, rfl⟩
  have eu1 := (show 0 ≤ u1.toInt ∧ u1.toInt ≤ 400 from qu1 ▸ jrg_f J sg_68_1_2_1_0_1)
  have ou1 := congrArg Int32.toInt qu1
  refine x_aloadn (x := 31) rfl rfl ?_
  refine z_getR (N := 13) (b := 68) 11 2 rfl f_11_23 rfl J rfl 3970 ⟨rfl, rfl⟩ rfl ?_
  refine x_bipush (v := 20) rfl kb_20 ?_
  refine x_inv (N := m_X9_hasRoomFor) (As := [.int 20]) (b := 68) (st := []) (dx9 := 1) (mc := 0) (ms := 0) (host := "") 9 rfl t_X9_hasRoomFor ⟨Or.inl q_11_98, i_X9_hasRoomFor.1, i_X9_hasRoomFor.2⟩ ⟨by decide, rfl⟩ (congrArg Prod.fst (J.1.1 68 (9, 6) rfl)) rfl (by decide) rfl rfl ⟨by decide, by decide⟩ (jC.of rfl k_X9_hasRoomFor rfl ?_)
  show jX m_X9_hasRoomFor 1 0 0 0 [(0, .ref 68), (1, .int 20)] [] _ 0 0 _
  refine x_aloadn (x := 68) rfl rfl ?_
  refine z_getM (N := 6) (v := u1) 9 1 rfl f_9_15 rfl J rfl qu1 ?_
  refine x_iloadn (x := 20) rfl rfl ?_
  refine z_iadd rfl rfl jk_20 (by omega) (fun v2 ev2 => ?_)
  refine x_sipush (v := 400) rfl ks_400 ?_
  refine x_icgt (tgt := 16) rfl rfl (ti_gt rfl jk_400 ⟨fun c3 => ?_, fun c3 => ?_⟩)
  ·
    refine x_iconst (v := 0) rfl ki_0 ?_
    refine x_zret rfl rfl (by decide) ?_
    show jX m_X11_feed 2 0 0 9 [(0, .ref 31), (1, .int a1), (2, .int a2), (3, .int a3), (4, .int a4), (5, .int a5)] [.int 0] _ 0 0 _
    refine x_ifne (tgt := 14) rfl rfl (ti_ne jk_0 jk_0 (bn_f (by omega) ?_))
    refine x_iconst (v := (-1)) rfl ki_m1 ?_
    refine x_iret rfl rfl ?_
    exact hQ _ _ (jr_of jk_m1 (by omega)) J Sm (Or.inl ⟨by omega, jk_m1, by have := congrArg Int32.toInt qu1; omega⟩)
  ·
    refine x_iconst (v := 1) rfl ki_1 ?_
    refine x_goto (tgt := 17) rfl rfl ?_
    refine x_zret rfl rfl (by decide) ?_
    show jX m_X11_feed 2 0 0 9 [(0, .ref 31), (1, .int a1), (2, .int a2), (3, .int a3), (4, .int a4), (5, .int a5)] [.int 1] _ 0 0 _
    refine x_ifne (tgt := 14) rfl rfl (ti_ne jk_1 jk_0 (bn_t (by omega) ?_))
    refine x_aloadn (x := 31) rfl rfl ?_
    refine z_getR (N := 13) (b := 68) 11 2 rfl f_11_23 rfl J rfl 3970 ⟨rfl, rfl⟩ rfl ?_
    refine x_iloadn (x := a1) rfl rfl ?_
    refine x_inv (N := m_X9_append) (As := [.int a1]) (b := 68) (st := []) (dx9 := 1) (mc := 0) (ms := 0) (host := "") 9 rfl t_X9_append ⟨Or.inl q_11_102, i_X9_append.1, i_X9_append.2⟩ ⟨by decide, rfl⟩ (congrArg Prod.fst (J.1.1 68 (9, 6) rfl)) rfl (by decide) rfl rfl ⟨by decide, by decide⟩ (jC.of rfl k_X9_append rfl ?_)
    show jX m_X9_append 1 0 0 0 [(0, .ref 68), (1, .int a1)] [] _ 0 0 _
    refine x_bipush (v := 24) rfl kb_24 ?_
    refine x_istoren (lsx9 := [(2, .int 24), (0, .ref 68), (1, .int a1)]) rfl rfl rfl ?_
    refine x_iloadn (x := 24) rfl rfl ?_
    refine x_iflt (tgt := 49) rfl rfl (ti_lt jk_24 jk_0 (br_f (by omega) ?_))
    refine x_aloadn (x := 68) rfl rfl ?_
    refine z_getM (N := 6) (v := u1) 9 1 rfl f_9_15 rfl J rfl qu1 ?_
    refine x_sipush (v := 400) rfl ks_400 ?_
    refine x_icge (tgt := 49) rfl rfl (ti_ge rfl jk_400 (br_f (by omega) ?_))
    refine x_aloadn (x := 68) rfl rfl ?_
    refine z_getR (N := 6) (b := 69) 9 0 rfl f_9_11 rfl J rfl 8704 ⟨rfl, rfl⟩ rfl ?_
    refine x_aloadn (x := 68) rfl rfl ?_
    refine z_getM (N := 6) (v := u1) 9 1 rfl f_9_15 rfl J rfl qu1 ?_
    refine x_iloadn (x := a1) rfl rfl ?_
    refine x_iloadn (x := 24) rfl rfl ?_
    refine z_iushr0 rfl (fun v4 => ?_)
    have ev4 := jfull v4
    refine x_sipush (v := 255) rfl ks_255 ?_
    refine z_iand rfl jk_255 (by decide) (fun v5 ev5 => ?_)
    refine z_iast (N := 400) (l := 0) (u := 400) (w := v5.toInt) rfl hD J Sm rfl rfl rfl (by omega) rfl (wr_69 (fun q1 q2 q3 q4 => by omega)) rfl (fun h w6 J Sm => ?_)
    refine x_aloadn (x := 68) rfl rfl ?_
    refine x_dup rfl rfl ?_
    refine z_getM (N := 6) (v := u1) 9 1 rfl f_9_15 rfl J rfl (jmo w6 rfl qu1) ?_
    refine x_iconst (v := 1) rfl ki_1 ?_
    refine z_iadd rfl rfl jk_1 (by omega) (fun v7 ev7 => ?_)
    refine z_putI (N := 6) (w := v7.toInt) 9 1 rfl f_9_15 rfl (jfin_no TX9 RX9 6 rfl rfl) hD J Sm rfl rfl rfl (pw_68_1 (by omega)) rfl (fun h w8 J Sm => ?_)
    refine z_iinc (x := 24) (lsx9 := fun v9 => [(2, .int v9), (0, .ref 68), (1, .int a1)]) rfl rfl jk_24 jko_m8 (by omega) rfl (fun _ => rfl) (fun v9 ev9 => ?_)
    refine x_goto (tgt := 3) rfl rfl ?_
    refine x_iloadn (x := v9) rfl rfl ?_
    refine x_iflt (tgt := 49) rfl rfl (ti_lt rfl jk_0 (br_f (by omega) ?_))
    refine x_aloadn (x := 68) rfl rfl ?_
    refine z_getM (N := 6) (v := v7) 9 1 rfl f_9_15 rfl J rfl (jmw w8) ?_
    refine x_sipush (v := 400) rfl ks_400 ?_
    refine x_icge (tgt := 49) rfl rfl (ti_ge rfl jk_400 (br_f (by omega) ?_))
    refine x_aloadn (x := 68) rfl rfl ?_
    refine z_getR (N := 6) (b := 69) 9 0 rfl f_9_11 rfl J rfl 8704 ⟨rfl, rfl⟩ rfl ?_
    refine x_aloadn (x := 68) rfl rfl ?_
    refine z_getM (N := 6) (v := v7) 9 1 rfl f_9_15 rfl J rfl (jmw w8) ?_
    refine x_iloadn (x := a1) rfl rfl ?_
    refine x_iloadn (x := v9) rfl rfl ?_
    refine z_iushr0 rfl (fun v10 => ?_)
    have ev10 := jfull v10
    refine x_sipush (v := 255) rfl ks_255 ?_
    refine z_iand rfl jk_255 (by decide) (fun v11 ev11 => ?_)
    refine z_iast (N := 400) (l := 0) (u := 400) (w := v11.toInt) rfl hD J Sm rfl rfl rfl (by omega) rfl (wr_69 (fun q1 q2 q3 q4 => by omega)) rfl (fun h w12 J Sm => ?_)
    refine x_aloadn (x := 68) rfl rfl ?_
    refine x_dup rfl rfl ?_
    refine z_getM (N := 6) (v := v7) 9 1 rfl f_9_15 rfl J rfl (jmo w12 rfl (jmw w8)) ?_
    refine x_iconst (v := 1) rfl ki_1 ?_
    refine z_iadd rfl rfl jk_1 (by omega) (fun v13 ev13 => ?_)
    refine z_putI (N := 6) (w := v13.toInt) 9 1 rfl f_9_15 rfl (jfin_no TX9 RX9 6 rfl rfl) hD J Sm rfl rfl rfl (pw_68_1 (by omega)) rfl (fun h w14 J Sm => ?_)
    refine z_iinc (x := v9) (lsx9 := fun v15 => [(2, .int v15), (0, .ref 68), (1, .int a1)]) rfl rfl rfl jko_m8 (by omega) rfl (fun _ => rfl) (fun v15 ev15 => ?_)
    refine x_goto (tgt := 3) rfl rfl ?_
    refine x_iloadn (x := v15) rfl rfl ?_
    refine x_iflt (tgt := 49) rfl rfl (ti_lt rfl jk_0 (br_f (by omega) ?_))
    refine x_aloadn (x := 68) rfl rfl ?_
    refine z_getM (N := 6) (v := v13) 9 1 rfl f_9_15 rfl J rfl (jmw w14) ?_
    refine x_sipush (v := 400) rfl ks_400 ?_
    refine x_icge (tgt := 49) rfl rfl (ti_ge rfl jk_400 (br_f (by omega) ?_))
    refine x_aloadn (x := 68) rfl rfl ?_
    refine z_getR (N := 6) (b := 69) 9 0 rfl f_9_11 rfl J rfl 8704 ⟨rfl, rfl⟩ rfl ?_
    refine x_aloadn (x := 68) rfl rfl ?_
    refine z_getM (N := 6) (v := v13) 9 1 rfl f_9_15 rfl J rfl (jmw w14) ?_
    refine x_iloadn (x := a1) rfl rfl ?_
    refine x_iloadn (x := v15) rfl rfl ?_
    refine z_iushr0 rfl (fun v16 => ?_)
    have ev16 := jfull v16
    refine x_sipush (v := 255) rfl ks_255 ?_
    refine z_iand rfl jk_255 (by decide) (fun v17 ev17 => ?_)
    refine z_iast (N := 400) (l := 0) (u := 400) (w := v17.toInt) rfl hD J Sm rfl rfl rfl (by omega) rfl (wr_69 (fun q1 q2 q3 q4 => by omega)) rfl (fun h w18 J Sm => ?_)
    refine x_aloadn (x := 68) rfl rfl ?_
    refine x_dup rfl rfl ?_
    refine z_getM (N := 6) (v := v13) 9 1 rfl f_9_15 rfl J rfl (jmo w18 rfl (jmw w14)) ?_
    refine x_iconst (v := 1) rfl ki_1 ?_
    refine z_iadd rfl rfl jk_1 (by omega) (fun v19 ev19 => ?_)
    refine z_putI (N := 6) (w := v19.toInt) 9 1 rfl f_9_15 rfl (jfin_no TX9 RX9 6 rfl rfl) hD J Sm rfl rfl rfl (pw_68_1 (by omega)) rfl (fun h w20 J Sm => ?_)
    refine z_iinc (x := v15) (lsx9 := fun v21 => [(2, .int v21), (0, .ref 68), (1, .int a1)]) rfl rfl rfl jko_m8 (by omega) rfl (fun _ => rfl) (fun v21 ev21 => ?_)
    refine x_goto (tgt := 3) rfl rfl ?_
    refine x_iloadn (x := v21) rfl rfl ?_
    refine x_iflt (tgt := 49) rfl rfl (ti_lt rfl jk_0 (br_f (by omega) ?_))
    refine x_aloadn (x := 68) rfl rfl ?_
    refine z_getM (N := 6) (v := v19) 9 1 rfl f_9_15 rfl J rfl (jmw w20) ?_
    refine x_sipush (v := 400) rfl ks_400 ?_
    refine x_icge (tgt := 49) rfl rfl (ti_ge rfl jk_400 (br_f (by omega) ?_))
    refine x_aloadn (x := 68) rfl rfl ?_
    refine z_getR (N := 6) (b := 69) 9 0 rfl f_9_11 rfl J rfl 8704 ⟨rfl, rfl⟩ rfl ?_
    refine x_aloadn (x := 68) rfl rfl ?_
    refine z_getM (N := 6) (v := v19) 9 1 rfl f_9_15 rfl J rfl (jmw w20) ?_
    refine x_iloadn (x := a1) rfl rfl ?_
    refine x_iloadn (x := v21) rfl rfl ?_
    refine z_iushr0 rfl (fun v22 => ?_)
    have ev22 := jfull v22
    refine x_sipush (v := 255) rfl ks_255 ?_
    refine z_iand rfl jk_255 (by decide) (fun v23 ev23 => ?_)
    refine z_iast (N := 400) (l := 0) (u := 400) (w := v23.toInt) rfl hD J Sm rfl rfl rfl (by omega) rfl (wr_69 (fun q1 q2 q3 q4 => by omega)) rfl (fun h w24 J Sm => ?_)
    refine x_aloadn (x := 68) rfl rfl ?_
    refine x_dup rfl rfl ?_
    refine z_getM (N := 6) (v := v19) 9 1 rfl f_9_15 rfl J rfl (jmo w24 rfl (jmw w20)) ?_
    refine x_iconst (v := 1) rfl ki_1 ?_
    refine z_iadd rfl rfl jk_1 (by omega) (fun v25 ev25 => ?_)
    refine z_putI (N := 6) (w := v25.toInt) 9 1 rfl f_9_15 rfl (jfin_no TX9 RX9 6 rfl rfl) hD J Sm rfl rfl rfl (pw_68_1 (by omega)) rfl (fun h w26 J Sm => ?_)
    refine z_iinc (x := v21) (lsx9 := fun v27 => [(2, .int v27), (0, .ref 68), (1, .int a1)]) rfl rfl rfl jko_m8 (by omega) rfl (fun _ => rfl) (fun v27 ev27 => ?_)
    refine x_goto (tgt := 3) rfl rfl ?_
    refine x_iloadn (x := v27) rfl rfl ?_
    refine x_iflt (tgt := 49) rfl rfl (ti_lt rfl jk_0 (br_t (by omega) ?_))
    refine x_vret rfl rfl ?_
    show jX m_X11_feed 2 0 0 22 [(0, .ref 31), (1, .int a1), (2, .int a2), (3, .int a3), (4, .int a4), (5, .int a5)] [] _ 0 0 _
    refine x_aloadn (x := 31) rfl rfl ?_
    refine z_getR (N := 13) (b := 68) 11 2 rfl f_11_23 rfl J rfl 3970 ⟨rfl, rfl⟩ rfl ?_
    refine x_iloadn (x := a2) rfl rfl ?_
    refine x_inv (N := m_X9_append) (As := [.int a2]) (b := 68) (st := []) (dx9 := 1) (mc := 0) (ms := 0) (host := "") 9 rfl t_X9_append ⟨Or.inl q_11_102, i_X9_append.1, i_X9_append.2⟩ ⟨by decide, rfl⟩ (congrArg Prod.fst (J.1.1 68 (9, 6) rfl)) rfl (by decide) rfl rfl ⟨by decide, by decide⟩ (jC.of rfl k_X9_append rfl ?_)
    show jX m_X9_append 1 0 0 0 [(0, .ref 68), (1, .int a2)] [] _ 0 0 _
    refine x_bipush (v := 24) rfl kb_24 ?_
    refine x_istoren (lsx9 := [(2, .int 24), (0, .ref 68), (1, .int a2)]) rfl rfl rfl ?_
    refine x_iloadn (x := 24) rfl rfl ?_
    refine x_iflt (tgt := 49) rfl rfl (ti_lt jk_24 jk_0 (br_f (by omega) ?_))
    refine x_aloadn (x := 68) rfl rfl ?_
    refine z_getM (N := 6) (v := v25) 9 1 rfl f_9_15 rfl J rfl (jmw w26) ?_
    refine x_sipush (v := 400) rfl ks_400 ?_
    refine x_icge (tgt := 49) rfl rfl (ti_ge rfl jk_400 (br_f (by omega) ?_))
    refine x_aloadn (x := 68) rfl rfl ?_
    refine z_getR (N := 6) (b := 69) 9 0 rfl f_9_11 rfl J rfl 8704 ⟨rfl, rfl⟩ rfl ?_
    refine x_aloadn (x := 68) rfl rfl ?_
    refine z_getM (N := 6) (v := v25) 9 1 rfl f_9_15 rfl J rfl (jmw w26) ?_
    refine x_iloadn (x := a2) rfl rfl ?_
    refine x_iloadn (x := 24) rfl rfl ?_
    refine z_iushr0 rfl (fun v28 => ?_)
    have ev28 := jfull v28
    refine x_sipush (v := 255) rfl ks_255 ?_
    refine z_iand rfl jk_255 (by decide) (fun v29 ev29 => ?_)
    refine z_iast (N := 400) (l := 0) (u := 400) (w := v29.toInt) rfl hD J Sm rfl rfl rfl (by omega) rfl (wr_69 (fun q1 q2 q3 q4 => by omega)) rfl (fun h w30 J Sm => ?_)
    refine x_aloadn (x := 68) rfl rfl ?_
    refine x_dup rfl rfl ?_
    refine z_getM (N := 6) (v := v25) 9 1 rfl f_9_15 rfl J rfl (jmo w30 rfl (jmw w26)) ?_
    refine x_iconst (v := 1) rfl ki_1 ?_
    refine z_iadd rfl rfl jk_1 (by omega) (fun v31 ev31 => ?_)
    refine z_putI (N := 6) (w := v31.toInt) 9 1 rfl f_9_15 rfl (jfin_no TX9 RX9 6 rfl rfl) hD J Sm rfl rfl rfl (pw_68_1 (by omega)) rfl (fun h w32 J Sm => ?_)
    refine z_iinc (x := 24) (lsx9 := fun v33 => [(2, .int v33), (0, .ref 68), (1, .int a2)]) rfl rfl jk_24 jko_m8 (by omega) rfl (fun _ => rfl) (fun v33 ev33 => ?_)
    refine x_goto (tgt := 3) rfl rfl ?_
    refine x_iloadn (x := v33) rfl rfl ?_
    refine x_iflt (tgt := 49) rfl rfl (ti_lt rfl jk_0 (br_f (by omega) ?_))
    refine x_aloadn (x := 68) rfl rfl ?_
    refine z_getM (N := 6) (v := v31) 9 1 rfl f_9_15 rfl J rfl (jmw w32) ?_
    refine x_sipush (v := 400) rfl ks_400 ?_
    refine x_icge (tgt := 49) rfl rfl (ti_ge rfl jk_400 (br_f (by omega) ?_))
    refine x_aloadn (x := 68) rfl rfl ?_
    refine z_getR (N := 6) (b := 69) 9 0 rfl f_9_11 rfl J rfl 8704 ⟨rfl, rfl⟩ rfl ?_
    refine x_aloadn (x := 68) rfl rfl ?_
    refine z_getM (N := 6) (v := v31) 9 1 rfl f_9_15 rfl J rfl (jmw w32) ?_
    refine x_iloadn (x := a2) rfl rfl ?_
    refine x_iloadn (x := v33) rfl rfl ?_
    refine z_iushr0 rfl (fun v34 => ?_)
    have ev34 := jfull v34
    refine x_sipush (v := 255) rfl ks_255 ?_
    refine z_iand rfl jk_255 (by decide) (fun v35 ev35 => ?_)
    refine z_iast (N := 400) (l := 0) (u := 400) (w := v35.toInt) rfl hD J Sm rfl rfl rfl (by omega) rfl (wr_69 (fun q1 q2 q3 q4 => by omega)) rfl (fun h w36 J Sm => ?_)
    refine x_aloadn (x := 68) rfl rfl ?_
    refine x_dup rfl rfl ?_
    refine z_getM (N := 6) (v := v31) 9 1 rfl f_9_15 rfl J rfl (jmo w36 rfl (jmw w32)) ?_
    refine x_iconst (v := 1) rfl ki_1 ?_
    refine z_iadd rfl rfl jk_1 (by omega) (fun v37 ev37 => ?_)
    refine z_putI (N := 6) (w := v37.toInt) 9 1 rfl f_9_15 rfl (jfin_no TX9 RX9 6 rfl rfl) hD J Sm rfl rfl rfl (pw_68_1 (by omega)) rfl (fun h w38 J Sm => ?_)
    refine z_iinc (x := v33) (lsx9 := fun v39 => [(2, .int v39), (0, .ref 68), (1, .int a2)]) rfl rfl rfl jko_m8 (by omega) rfl (fun _ => rfl) (fun v39 ev39 => ?_)
    refine x_goto (tgt := 3) rfl rfl ?_
    refine x_iloadn (x := v39) rfl rfl ?_
    refine x_iflt (tgt := 49) rfl rfl (ti_lt rfl jk_0 (br_f (by omega) ?_))
    refine x_aloadn (x := 68) rfl rfl ?_
    refine z_getM (N := 6) (v := v37) 9 1 rfl f_9_15 rfl J rfl (jmw w38) ?_
    refine x_sipush (v := 400) rfl ks_400 ?_
    refine x_icge (tgt := 49) rfl rfl (ti_ge rfl jk_400 (br_f (by omega) ?_))
    refine x_aloadn (x := 68) rfl rfl ?_
    refine z_getR (N := 6) (b := 69) 9 0 rfl f_9_11 rfl J rfl 8704 ⟨rfl, rfl⟩ rfl ?_
    refine x_aloadn (x := 68) rfl rfl ?_
    refine z_getM (N := 6) (v := v37) 9 1 rfl f_9_15 rfl J rfl (jmw w38) ?_
    refine x_iloadn (x := a2) rfl rfl ?_
    refine x_iloadn (x := v39) rfl rfl ?_
    refine z_iushr0 rfl (fun v40 => ?_)
    have ev40 := jfull v40
    refine x_sipush (v := 255) rfl ks_255 ?_
    refine z_iand rfl jk_255 (by decide) (fun v41 ev41 => ?_)
    refine z_iast (N := 400) (l := 0) (u := 400) (w := v41.toInt) rfl hD J Sm rfl rfl rfl (by omega) rfl (wr_69 (fun q1 q2 q3 q4 => by omega)) rfl (fun h w42 J Sm => ?_)
    refine x_aloadn (x := 68) rfl rfl ?_
    refine x_dup rfl rfl ?_
    refine z_getM (N := 6) (v := v37) 9 1 rfl f_9_15 rfl J rfl (jmo w42 rfl (jmw w38)) ?_
    refine x_iconst (v := 1) rfl ki_1 ?_
    refine z_iadd rfl rfl jk_1 (by omega) (fun v43 ev43 => ?_)
    refine z_putI (N := 6) (w := v43.toInt) 9 1 rfl f_9_15 rfl (jfin_no TX9 RX9 6 rfl rfl) hD J Sm rfl rfl rfl (pw_68_1 (by omega)) rfl (fun h w44 J Sm => ?_)
    refine z_iinc (x := v39) (lsx9 := fun v45 => [(2, .int v45), (0, .ref 68), (1, .int a2)]) rfl rfl rfl jko_m8 (by omega) rfl (fun _ => rfl) (fun v45 ev45 => ?_)
    refine x_goto (tgt := 3) rfl rfl ?_
    refine x_iloadn (x := v45) rfl rfl ?_
    refine x_iflt (tgt := 49) rfl rfl (ti_lt rfl jk_0 (br_f (by omega) ?_))
    refine x_aloadn (x := 68) rfl rfl ?_
    refine z_getM (N := 6) (v := v43) 9 1 rfl f_9_15 rfl J rfl (jmw w44) ?_
    refine x_sipush (v := 400) rfl ks_400 ?_
    refine x_icge (tgt := 49) rfl rfl (ti_ge rfl jk_400 (br_f (by omega) ?_))
    refine x_aloadn (x := 68) rfl rfl ?_
    refine z_getR (N := 6) (b := 69) 9 0 rfl f_9_11 rfl J rfl 8704 ⟨rfl, rfl⟩ rfl ?_
    refine x_aloadn (x := 68) rfl rfl ?_
    refine z_getM (N := 6) (v := v43) 9 1 rfl f_9_15 rfl J rfl (jmw w44) ?_
    refine x_iloadn (x := a2) rfl rfl ?_
    refine x_iloadn (x := v45) rfl rfl ?_
    refine z_iushr0 rfl (fun v46 => ?_)
    have ev46 := jfull v46
    refine x_sipush (v := 255) rfl ks_255 ?_
    refine z_iand rfl jk_255 (by decide) (fun v47 ev47 => ?_)
    refine z_iast (N := 400) (l := 0) (u := 400) (w := v47.toInt) rfl hD J Sm rfl rfl rfl (by omega) rfl (wr_69 (fun q1 q2 q3 q4 => by omega)) rfl (fun h w48 J Sm => ?_)
    refine x_aloadn (x := 68) rfl rfl ?_
    refine x_dup rfl rfl ?_
    refine z_getM (N := 6) (v := v43) 9 1 rfl f_9_15 rfl J rfl (jmo w48 rfl (jmw w44)) ?_
    refine x_iconst (v := 1) rfl ki_1 ?_
    refine z_iadd rfl rfl jk_1 (by omega) (fun v49 ev49 => ?_)
    refine z_putI (N := 6) (w := v49.toInt) 9 1 rfl f_9_15 rfl (jfin_no TX9 RX9 6 rfl rfl) hD J Sm rfl rfl rfl (pw_68_1 (by omega)) rfl (fun h w50 J Sm => ?_)
    refine z_iinc (x := v45) (lsx9 := fun v51 => [(2, .int v51), (0, .ref 68), (1, .int a2)]) rfl rfl rfl jko_m8 (by omega) rfl (fun _ => rfl) (fun v51 ev51 => ?_)
    refine x_goto (tgt := 3) rfl rfl ?_
    refine x_iloadn (x := v51) rfl rfl ?_
    refine x_iflt (tgt := 49) rfl rfl (ti_lt rfl jk_0 (br_t (by omega) ?_))
    refine x_vret rfl rfl ?_
    show jX m_X11_feed 2 0 0 30 [(0, .ref 31), (1, .int a1), (2, .int a2), (3, .int a3), (4, .int a4), (5, .int a5)] [] _ 0 0 _
    refine x_aloadn (x := 31) rfl rfl ?_
    refine z_getR (N := 13) (b := 68) 11 2 rfl f_11_23 rfl J rfl 3970 ⟨rfl, rfl⟩ rfl ?_
    refine x_iloadn (x := a3) rfl rfl ?_
    refine x_inv (N := m_X9_append) (As := [.int a3]) (b := 68) (st := []) (dx9 := 1) (mc := 0) (ms := 0) (host := "") 9 rfl t_X9_append ⟨Or.inl q_11_102, i_X9_append.1, i_X9_append.2⟩ ⟨by decide, rfl⟩ (congrArg Prod.fst (J.1.1 68 (9, 6) rfl)) rfl (by decide) rfl rfl ⟨by decide, by decide⟩ (jC.of rfl k_X9_append rfl ?_)
    show jX m_X9_append 1 0 0 0 [(0, .ref 68), (1, .int a3)] [] _ 0 0 _
    refine x_bipush (v := 24) rfl kb_24 ?_
    refine x_istoren (lsx9 := [(2, .int 24), (0, .ref 68), (1, .int a3)]) rfl rfl rfl ?_
    refine x_iloadn (x := 24) rfl rfl ?_
    refine x_iflt (tgt := 49) rfl rfl (ti_lt jk_24 jk_0 (br_f (by omega) ?_))
    refine x_aloadn (x := 68) rfl rfl ?_
    refine z_getM (N := 6) (v := v49) 9 1 rfl f_9_15 rfl J rfl (jmw w50) ?_
    refine x_sipush (v := 400) rfl ks_400 ?_
    refine x_icge (tgt := 49) rfl rfl (ti_ge rfl jk_400 (br_f (by omega) ?_))
    refine x_aloadn (x := 68) rfl rfl ?_
    refine z_getR (N := 6) (b := 69) 9 0 rfl f_9_11 rfl J rfl 8704 ⟨rfl, rfl⟩ rfl ?_
    refine x_aloadn (x := 68) rfl rfl ?_
    refine z_getM (N := 6) (v := v49) 9 1 rfl f_9_15 rfl J rfl (jmw w50) ?_
    refine x_iloadn (x := a3) rfl rfl ?_
    refine x_iloadn (x := 24) rfl rfl ?_
    refine z_iushr0 rfl (fun v52 => ?_)
    have ev52 := jfull v52
    refine x_sipush (v := 255) rfl ks_255 ?_
    refine z_iand rfl jk_255 (by decide) (fun v53 ev53 => ?_)
    refine z_iast (N := 400) (l := 0) (u := 400) (w := v53.toInt) rfl hD J Sm rfl rfl rfl (by omega) rfl (wr_69 (fun q1 q2 q3 q4 => by omega)) rfl (fun h w54 J Sm => ?_)
    refine x_aloadn (x := 68) rfl rfl ?_
    refine x_dup rfl rfl ?_
    refine z_getM (N := 6) (v := v49) 9 1 rfl f_9_15 rfl J rfl (jmo w54 rfl (jmw w50)) ?_
    refine x_iconst (v := 1) rfl ki_1 ?_
    refine z_iadd rfl rfl jk_1 (by omega) (fun v55 ev55 => ?_)
    refine z_putI (N := 6) (w := v55.toInt) 9 1 rfl f_9_15 rfl (jfin_no TX9 RX9 6 rfl rfl) hD J Sm rfl rfl rfl (pw_68_1 (by omega)) rfl (fun h w56 J Sm => ?_)
    refine z_iinc (x := 24) (lsx9 := fun v57 => [(2, .int v57), (0, .ref 68), (1, .int a3)]) rfl rfl jk_24 jko_m8 (by omega) rfl (fun _ => rfl) (fun v57 ev57 => ?_)
    refine x_goto (tgt := 3) rfl rfl ?_
    refine x_iloadn (x := v57) rfl rfl ?_
    refine x_iflt (tgt := 49) rfl rfl (ti_lt rfl jk_0 (br_f (by omega) ?_))
    refine x_aloadn (x := 68) rfl rfl ?_
    refine z_getM (N := 6) (v := v55) 9 1 rfl f_9_15 rfl J rfl (jmw w56) ?_
    refine x_sipush (v := 400) rfl ks_400 ?_
    refine x_icge (tgt := 49) rfl rfl (ti_ge rfl jk_400 (br_f (by omega) ?_))
    refine x_aloadn (x := 68) rfl rfl ?_
    refine z_getR (N := 6) (b := 69) 9 0 rfl f_9_11 rfl J rfl 8704 ⟨rfl, rfl⟩ rfl ?_
    refine x_aloadn (x := 68) rfl rfl ?_
    refine z_getM (N := 6) (v := v55) 9 1 rfl f_9_15 rfl J rfl (jmw w56) ?_
    refine x_iloadn (x := a3) rfl rfl ?_
    refine x_iloadn (x := v57) rfl rfl ?_
    refine z_iushr0 rfl (fun v58 => ?_)
    have ev58 := jfull v58
    refine x_sipush (v := 255) rfl ks_255 ?_
    refine z_iand rfl jk_255 (by decide) (fun v59 ev59 => ?_)
    refine z_iast (N := 400) (l := 0) (u := 400) (w := v59.toInt) rfl hD J Sm rfl rfl rfl (by omega) rfl (wr_69 (fun q1 q2 q3 q4 => by omega)) rfl (fun h w60 J Sm => ?_)
    refine x_aloadn (x := 68) rfl rfl ?_
    refine x_dup rfl rfl ?_
    refine z_getM (N := 6) (v := v55) 9 1 rfl f_9_15 rfl J rfl (jmo w60 rfl (jmw w56)) ?_
    refine x_iconst (v := 1) rfl ki_1 ?_
    refine z_iadd rfl rfl jk_1 (by omega) (fun v61 ev61 => ?_)
    refine z_putI (N := 6) (w := v61.toInt) 9 1 rfl f_9_15 rfl (jfin_no TX9 RX9 6 rfl rfl) hD J Sm rfl rfl rfl (pw_68_1 (by omega)) rfl (fun h w62 J Sm => ?_)
    refine z_iinc (x := v57) (lsx9 := fun v63 => [(2, .int v63), (0, .ref 68), (1, .int a3)]) rfl rfl rfl jko_m8 (by omega) rfl (fun _ => rfl) (fun v63 ev63 => ?_)
    refine x_goto (tgt := 3) rfl rfl ?_
    refine x_iloadn (x := v63) rfl rfl ?_
    refine x_iflt (tgt := 49) rfl rfl (ti_lt rfl jk_0 (br_f (by omega) ?_))
    refine x_aloadn (x := 68) rfl rfl ?_
    refine z_getM (N := 6) (v := v61) 9 1 rfl f_9_15 rfl J rfl (jmw w62) ?_
    refine x_sipush (v := 400) rfl ks_400 ?_
    refine x_icge (tgt := 49) rfl rfl (ti_ge rfl jk_400 (br_f (by omega) ?_))
    refine x_aloadn (x := 68) rfl rfl ?_
    refine z_getR (N := 6) (b := 69) 9 0 rfl f_9_11 rfl J rfl 8704 ⟨rfl, rfl⟩ rfl ?_
    refine x_aloadn (x := 68) rfl rfl ?_
    refine z_getM (N := 6) (v := v61) 9 1 rfl f_9_15 rfl J rfl (jmw w62) ?_
    refine x_iloadn (x := a3) rfl rfl ?_
    refine x_iloadn (x := v63) rfl rfl ?_
    refine z_iushr0 rfl (fun v64 => ?_)
    have ev64 := jfull v64
    refine x_sipush (v := 255) rfl ks_255 ?_
    refine z_iand rfl jk_255 (by decide) (fun v65 ev65 => ?_)
    refine z_iast (N := 400) (l := 0) (u := 400) (w := v65.toInt) rfl hD J Sm rfl rfl rfl (by omega) rfl (wr_69 (fun q1 q2 q3 q4 => by omega)) rfl (fun h w66 J Sm => ?_)
    refine x_aloadn (x := 68) rfl rfl ?_
    refine x_dup rfl rfl ?_
    refine z_getM (N := 6) (v := v61) 9 1 rfl f_9_15 rfl J rfl (jmo w66 rfl (jmw w62)) ?_
    refine x_iconst (v := 1) rfl ki_1 ?_
    refine z_iadd rfl rfl jk_1 (by omega) (fun v67 ev67 => ?_)
    refine z_putI (N := 6) (w := v67.toInt) 9 1 rfl f_9_15 rfl (jfin_no TX9 RX9 6 rfl rfl) hD J Sm rfl rfl rfl (pw_68_1 (by omega)) rfl (fun h w68 J Sm => ?_)
    refine z_iinc (x := v63) (lsx9 := fun v69 => [(2, .int v69), (0, .ref 68), (1, .int a3)]) rfl rfl rfl jko_m8 (by omega) rfl (fun _ => rfl) (fun v69 ev69 => ?_)
    refine x_goto (tgt := 3) rfl rfl ?_
    refine x_iloadn (x := v69) rfl rfl ?_
    refine x_iflt (tgt := 49) rfl rfl (ti_lt rfl jk_0 (br_f (by omega) ?_))
    refine x_aloadn (x := 68) rfl rfl ?_
    refine z_getM (N := 6) (v := v67) 9 1 rfl f_9_15 rfl J rfl (jmw w68) ?_
    refine x_sipush (v := 400) rfl ks_400 ?_
    refine x_icge (tgt := 49) rfl rfl (ti_ge rfl jk_400 (br_f (by omega) ?_))
    refine x_aloadn (x := 68) rfl rfl ?_
    refine z_getR (N := 6) (b := 69) 9 0 rfl f_9_11 rfl J rfl 8704 ⟨rfl, rfl⟩ rfl ?_
    refine x_aloadn (x := 68) rfl rfl ?_
    refine z_getM (N := 6) (v := v67) 9 1 rfl f_9_15 rfl J rfl (jmw w68) ?_
    refine x_iloadn (x := a3) rfl rfl ?_
    refine x_iloadn (x := v69) rfl rfl ?_
    refine z_iushr0 rfl (fun v70 => ?_)
    have ev70 := jfull v70
    refine x_sipush (v := 255) rfl ks_255 ?_
    refine z_iand rfl jk_255 (by decide) (fun v71 ev71 => ?_)
    refine z_iast (N := 400) (l := 0) (u := 400) (w := v71.toInt) rfl hD J Sm rfl rfl rfl (by omega) rfl (wr_69 (fun q1 q2 q3 q4 => by omega)) rfl (fun h w72 J Sm => ?_)
    refine x_aloadn (x := 68) rfl rfl ?_
    refine x_dup rfl rfl ?_
    refine z_getM (N := 6) (v := v67) 9 1 rfl f_9_15 rfl J rfl (jmo w72 rfl (jmw w68)) ?_
    refine x_iconst (v := 1) rfl ki_1 ?_
    refine z_iadd rfl rfl jk_1 (by omega) (fun v73 ev73 => ?_)
    refine z_putI (N := 6) (w := v73.toInt) 9 1 rfl f_9_15 rfl (jfin_no TX9 RX9 6 rfl rfl) hD J Sm rfl rfl rfl (pw_68_1 (by omega)) rfl (fun h w74 J Sm => ?_)
    refine z_iinc (x := v69) (lsx9 := fun v75 => [(2, .int v75), (0, .ref 68), (1, .int a3)]) rfl rfl rfl jko_m8 (by omega) rfl (fun _ => rfl) (fun v75 ev75 => ?_)
    refine x_goto (tgt := 3) rfl rfl ?_
    refine x_iloadn (x := v75) rfl rfl ?_
    refine x_iflt (tgt := 49) rfl rfl (ti_lt rfl jk_0 (br_t (by omega) ?_))
    refine x_vret rfl rfl ?_
    show jX m_X11_feed 2 0 0 38 [(0, .ref 31), (1, .int a1), (2, .int a2), (3, .int a3), (4, .int a4), (5, .int a5)] [] _ 0 0 _
    refine x_aloadn (x := 31) rfl rfl ?_
    refine z_getR (N := 13) (b := 68) 11 2 rfl f_11_23 rfl J rfl 3970 ⟨rfl, rfl⟩ rfl ?_
    refine x_iload (x := a4) rfl rfl ?_
    refine x_inv (N := m_X9_append) (As := [.int a4]) (b := 68) (st := []) (dx9 := 1) (mc := 0) (ms := 0) (host := "") 9 rfl t_X9_append ⟨Or.inl q_11_102, i_X9_append.1, i_X9_append.2⟩ ⟨by decide, rfl⟩ (congrArg Prod.fst (J.1.1 68 (9, 6) rfl)) rfl (by decide) rfl rfl ⟨by decide, by decide⟩ (jC.of rfl k_X9_append rfl ?_)
    show jX m_X9_append 1 0 0 0 [(0, .ref 68), (1, .int a4)] [] _ 0 0 _
    refine x_bipush (v := 24) rfl kb_24 ?_
    refine x_istoren (lsx9 := [(2, .int 24), (0, .ref 68), (1, .int a4)]) rfl rfl rfl ?_
    refine x_iloadn (x := 24) rfl rfl ?_
    refine x_iflt (tgt := 49) rfl rfl (ti_lt jk_24 jk_0 (br_f (by omega) ?_))
    refine x_aloadn (x := 68) rfl rfl ?_
    refine z_getM (N := 6) (v := v73) 9 1 rfl f_9_15 rfl J rfl (jmw w74) ?_
    refine x_sipush (v := 400) rfl ks_400 ?_
    refine x_icge (tgt := 49) rfl rfl (ti_ge rfl jk_400 (br_f (by omega) ?_))
    refine x_aloadn (x := 68) rfl rfl ?_
    refine z_getR (N := 6) (b := 69) 9 0 rfl f_9_11 rfl J rfl 8704 ⟨rfl, rfl⟩ rfl ?_
    refine x_aloadn (x := 68) rfl rfl ?_
    refine z_getM (N := 6) (v := v73) 9 1 rfl f_9_15 rfl J rfl (jmw w74) ?_
    refine x_iloadn (x := a4) rfl rfl ?_
    refine x_iloadn (x := 24) rfl rfl ?_
    refine z_iushr0 rfl (fun v76 => ?_)
    have ev76 := jfull v76
    refine x_sipush (v := 255) rfl ks_255 ?_
    refine z_iand rfl jk_255 (by decide) (fun v77 ev77 => ?_)
    refine z_iast (N := 400) (l := 0) (u := 400) (w := v77.toInt) rfl hD J Sm rfl rfl rfl (by omega) rfl (wr_69 (fun q1 q2 q3 q4 => by omega)) rfl (fun h w78 J Sm => ?_)
    refine x_aloadn (x := 68) rfl rfl ?_
    refine x_dup rfl rfl ?_
    refine z_getM (N := 6) (v := v73) 9 1 rfl f_9_15 rfl J rfl (jmo w78 rfl (jmw w74)) ?_
    refine x_iconst (v := 1) rfl ki_1 ?_
    refine z_iadd rfl rfl jk_1 (by omega) (fun v79 ev79 => ?_)
    refine z_putI (N := 6) (w := v79.toInt) 9 1 rfl f_9_15 rfl (jfin_no TX9 RX9 6 rfl rfl) hD J Sm rfl rfl rfl (pw_68_1 (by omega)) rfl (fun h w80 J Sm => ?_)
    refine z_iinc (x := 24) (lsx9 := fun v81 => [(2, .int v81), (0, .ref 68), (1, .int a4)]) rfl rfl jk_24 jko_m8 (by omega) rfl (fun _ => rfl) (fun v81 ev81 => ?_)
    refine x_goto (tgt := 3) rfl rfl ?_
    refine x_iloadn (x := v81) rfl rfl ?_
    refine x_iflt (tgt := 49) rfl rfl (ti_lt rfl jk_0 (br_f (by omega) ?_))
    refine x_aloadn (x := 68) rfl rfl ?_
    refine z_getM (N := 6) (v := v79) 9 1 rfl f_9_15 rfl J rfl (jmw w80) ?_
    refine x_sipush (v := 400) rfl ks_400 ?_
    refine x_icge (tgt := 49) rfl rfl (ti_ge rfl jk_400 (br_f (by omega) ?_))
    refine x_aloadn (x := 68) rfl rfl ?_
    refine z_getR (N := 6) (b := 69) 9 0 rfl f_9_11 rfl J rfl 8704 ⟨rfl, rfl⟩ rfl ?_
    refine x_aloadn (x := 68) rfl rfl ?_
    refine z_getM (N := 6) (v := v79) 9 1 rfl f_9_15 rfl J rfl (jmw w80) ?_
    refine x_iloadn (x := a4) rfl rfl ?_
    refine x_iloadn (x := v81) rfl rfl ?_
    refine z_iushr0 rfl (fun v82 => ?_)
    have ev82 := jfull v82
    refine x_sipush (v := 255) rfl ks_255 ?_
    refine z_iand rfl jk_255 (by decide) (fun v83 ev83 => ?_)
    refine z_iast (N := 400) (l := 0) (u := 400) (w := v83.toInt) rfl hD J Sm rfl rfl rfl (by omega) rfl (wr_69 (fun q1 q2 q3 q4 => by omega)) rfl (fun h w84 J Sm => ?_)
    refine x_aloadn (x := 68) rfl rfl ?_
    refine x_dup rfl rfl ?_
    refine z_getM (N := 6) (v := v79) 9 1 rfl f_9_15 rfl J rfl (jmo w84 rfl (jmw w80)) ?_
    refine x_iconst (v := 1) rfl ki_1 ?_
    refine z_iadd rfl rfl jk_1 (by omega) (fun v85 ev85 => ?_)
    refine z_putI (N := 6) (w := v85.toInt) 9 1 rfl f_9_15 rfl (jfin_no TX9 RX9 6 rfl rfl) hD J Sm rfl rfl rfl (pw_68_1 (by omega)) rfl (fun h w86 J Sm => ?_)
    refine z_iinc (x := v81) (lsx9 := fun v87 => [(2, .int v87), (0, .ref 68), (1, .int a4)]) rfl rfl rfl jko_m8 (by omega) rfl (fun _ => rfl) (fun v87 ev87 => ?_)
    refine x_goto (tgt := 3) rfl rfl ?_
    refine x_iloadn (x := v87) rfl rfl ?_
    refine x_iflt (tgt := 49) rfl rfl (ti_lt rfl jk_0 (br_f (by omega) ?_))
    refine x_aloadn (x := 68) rfl rfl ?_
    refine z_getM (N := 6) (v := v85) 9 1 rfl f_9_15 rfl J rfl (jmw w86) ?_
    refine x_sipush (v := 400) rfl ks_400 ?_
    refine x_icge (tgt := 49) rfl rfl (ti_ge rfl jk_400 (br_f (by omega) ?_))
    refine x_aloadn (x := 68) rfl rfl ?_
    refine z_getR (N := 6) (b := 69) 9 0 rfl f_9_11 rfl J rfl 8704 ⟨rfl, rfl⟩ rfl ?_
    refine x_aloadn (x := 68) rfl rfl ?_
    refine z_getM (N := 6) (v := v85) 9 1 rfl f_9_15 rfl J rfl (jmw w86) ?_
    refine x_iloadn (x := a4) rfl rfl ?_
    refine x_iloadn (x := v87) rfl rfl ?_
    refine z_iushr0 rfl (fun v88 => ?_)
    have ev88 := jfull v88
    refine x_sipush (v := 255) rfl ks_255 ?_
    refine z_iand rfl jk_255 (by decide) (fun v89 ev89 => ?_)
    refine z_iast (N := 400) (l := 0) (u := 400) (w := v89.toInt) rfl hD J Sm rfl rfl rfl (by omega) rfl (wr_69 (fun q1 q2 q3 q4 => by omega)) rfl (fun h w90 J Sm => ?_)
    refine x_aloadn (x := 68) rfl rfl ?_
    refine x_dup rfl rfl ?_
    refine z_getM (N := 6) (v := v85) 9 1 rfl f_9_15 rfl J rfl (jmo w90 rfl (jmw w86)) ?_
    refine x_iconst (v := 1) rfl ki_1 ?_
    refine z_iadd rfl rfl jk_1 (by omega) (fun v91 ev91 => ?_)
    refine z_putI (N := 6) (w := v91.toInt) 9 1 rfl f_9_15 rfl (jfin_no TX9 RX9 6 rfl rfl) hD J Sm rfl rfl rfl (pw_68_1 (by omega)) rfl (fun h w92 J Sm => ?_)
    refine z_iinc (x := v87) (lsx9 := fun v93 => [(2, .int v93), (0, .ref 68), (1, .int a4)]) rfl rfl rfl jko_m8 (by omega) rfl (fun _ => rfl) (fun v93 ev93 => ?_)
    refine x_goto (tgt := 3) rfl rfl ?_
    refine x_iloadn (x := v93) rfl rfl ?_
    refine x_iflt (tgt := 49) rfl rfl (ti_lt rfl jk_0 (br_f (by omega) ?_))
    refine x_aloadn (x := 68) rfl rfl ?_
    refine z_getM (N := 6) (v := v91) 9 1 rfl f_9_15 rfl J rfl (jmw w92) ?_
    refine x_sipush (v := 400) rfl ks_400 ?_
    refine x_icge (tgt := 49) rfl rfl (ti_ge rfl jk_400 (br_f (by omega) ?_))
    refine x_aloadn (x := 68) rfl rfl ?_
    refine z_getR (N := 6) (b := 69) 9 0 rfl f_9_11 rfl J rfl 8704 ⟨rfl, rfl⟩ rfl ?_
    refine x_aloadn (x := 68) rfl rfl ?_
    refine z_getM (N := 6) (v := v91) 9 1 rfl f_9_15 rfl J rfl (jmw w92) ?_
    refine x_iloadn (x := a4) rfl rfl ?_
    refine x_iloadn (x := v93) rfl rfl ?_
    refine z_iushr0 rfl (fun v94 => ?_)
    have ev94 := jfull v94
    refine x_sipush (v := 255) rfl ks_255 ?_
    refine z_iand rfl jk_255 (by decide) (fun v95 ev95 => ?_)
    refine z_iast (N := 400) (l := 0) (u := 400) (w := v95.toInt) rfl hD J Sm rfl rfl rfl (by omega) rfl (wr_69 (fun q1 q2 q3 q4 => by omega)) rfl (fun h w96 J Sm => ?_)
    refine x_aloadn (x := 68) rfl rfl ?_
    refine x_dup rfl rfl ?_
    refine z_getM (N := 6) (v := v91) 9 1 rfl f_9_15 rfl J rfl (jmo w96 rfl (jmw w92)) ?_
    refine x_iconst (v := 1) rfl ki_1 ?_
    refine z_iadd rfl rfl jk_1 (by omega) (fun v97 ev97 => ?_)
    refine z_putI (N := 6) (w := v97.toInt) 9 1 rfl f_9_15 rfl (jfin_no TX9 RX9 6 rfl rfl) hD J Sm rfl rfl rfl (pw_68_1 (by omega)) rfl (fun h w98 J Sm => ?_)
    refine z_iinc (x := v93) (lsx9 := fun v99 => [(2, .int v99), (0, .ref 68), (1, .int a4)]) rfl rfl rfl jko_m8 (by omega) rfl (fun _ => rfl) (fun v99 ev99 => ?_)
    refine x_goto (tgt := 3) rfl rfl ?_
    refine x_iloadn (x := v99) rfl rfl ?_
    refine x_iflt (tgt := 49) rfl rfl (ti_lt rfl jk_0 (br_t (by omega) ?_))
    refine x_vret rfl rfl ?_
    show jX m_X11_feed 2 0 0 47 [(0, .ref 31), (1, .int a1), (2, .int a2), (3, .int a3), (4, .int a4), (5, .int a5)] [] _ 0 0 _
    refine x_aloadn (x := 31) rfl rfl ?_
    refine z_getR (N := 13) (b := 68) 11 2 rfl f_11_23 rfl J rfl 3970 ⟨rfl, rfl⟩ rfl ?_
    refine x_iload (x := a5) rfl rfl ?_
    refine x_inv (N := m_X9_append) (As := [.int a5]) (b := 68) (st := []) (dx9 := 1) (mc := 0) (ms := 0) (host := "") 9 rfl t_X9_append ⟨Or.inl q_11_102, i_X9_append.1, i_X9_append.2⟩ ⟨by decide, rfl⟩ (congrArg Prod.fst (J.1.1 68 (9, 6) rfl)) rfl (by decide) rfl rfl ⟨by decide, by decide⟩ (jC.of rfl k_X9_append rfl ?_)
    show jX m_X9_append 1 0 0 0 [(0, .ref 68), (1, .int a5)] [] _ 0 0 _
    refine x_bipush (v := 24) rfl kb_24 ?_
    refine x_istoren (lsx9 := [(2, .int 24), (0, .ref 68), (1, .int a5)]) rfl rfl rfl ?_
    refine x_iloadn (x := 24) rfl rfl ?_
    refine x_iflt (tgt := 49) rfl rfl (ti_lt jk_24 jk_0 (br_f (by omega) ?_))
    refine x_aloadn (x := 68) rfl rfl ?_
    refine z_getM (N := 6) (v := v97) 9 1 rfl f_9_15 rfl J rfl (jmw w98) ?_
    refine x_sipush (v := 400) rfl ks_400 ?_
    refine x_icge (tgt := 49) rfl rfl (ti_ge rfl jk_400 (br_f (by omega) ?_))
    refine x_aloadn (x := 68) rfl rfl ?_
    refine z_getR (N := 6) (b := 69) 9 0 rfl f_9_11 rfl J rfl 8704 ⟨rfl, rfl⟩ rfl ?_
    refine x_aloadn (x := 68) rfl rfl ?_
    refine z_getM (N := 6) (v := v97) 9 1 rfl f_9_15 rfl J rfl (jmw w98) ?_
    refine x_iloadn (x := a5) rfl rfl ?_
    refine x_iloadn (x := 24) rfl rfl ?_
    refine z_iushr0 rfl (fun v100 => ?_)
    have ev100 := jfull v100
    refine x_sipush (v := 255) rfl ks_255 ?_
    refine z_iand rfl jk_255 (by decide) (fun v101 ev101 => ?_)
    refine z_iast (N := 400) (l := 0) (u := 400) (w := v101.toInt) rfl hD J Sm rfl rfl rfl (by omega) rfl (wr_69 (fun q1 q2 q3 q4 => by omega)) rfl (fun h w102 J Sm => ?_)
    refine x_aloadn (x := 68) rfl rfl ?_
    refine x_dup rfl rfl ?_
    refine z_getM (N := 6) (v := v97) 9 1 rfl f_9_15 rfl J rfl (jmo w102 rfl (jmw w98)) ?_
    refine x_iconst (v := 1) rfl ki_1 ?_
    refine z_iadd rfl rfl jk_1 (by omega) (fun v103 ev103 => ?_)
    refine z_putI (N := 6) (w := v103.toInt) 9 1 rfl f_9_15 rfl (jfin_no TX9 RX9 6 rfl rfl) hD J Sm rfl rfl rfl (pw_68_1 (by omega)) rfl (fun h w104 J Sm => ?_)
    refine z_iinc (x := 24) (lsx9 := fun v105 => [(2, .int v105), (0, .ref 68), (1, .int a5)]) rfl rfl jk_24 jko_m8 (by omega) rfl (fun _ => rfl) (fun v105 ev105 => ?_)
    refine x_goto (tgt := 3) rfl rfl ?_
    refine x_iloadn (x := v105) rfl rfl ?_
    refine x_iflt (tgt := 49) rfl rfl (ti_lt rfl jk_0 (br_f (by omega) ?_))
    refine x_aloadn (x := 68) rfl rfl ?_
    refine z_getM (N := 6) (v := v103) 9 1 rfl f_9_15 rfl J rfl (jmw w104) ?_
    refine x_sipush (v := 400) rfl ks_400 ?_
    refine x_icge (tgt := 49) rfl rfl (ti_ge rfl jk_400 (br_f (by omega) ?_))
    refine x_aloadn (x := 68) rfl rfl ?_
    refine z_getR (N := 6) (b := 69) 9 0 rfl f_9_11 rfl J rfl 8704 ⟨rfl, rfl⟩ rfl ?_
    refine x_aloadn (x := 68) rfl rfl ?_
    refine z_getM (N := 6) (v := v103) 9 1 rfl f_9_15 rfl J rfl (jmw w104) ?_
    refine x_iloadn (x := a5) rfl rfl ?_
    refine x_iloadn (x := v105) rfl rfl ?_
    refine z_iushr0 rfl (fun v106 => ?_)
    have ev106 := jfull v106
    refine x_sipush (v := 255) rfl ks_255 ?_
    refine z_iand rfl jk_255 (by decide) (fun v107 ev107 => ?_)
    refine z_iast (N := 400) (l := 0) (u := 400) (w := v107.toInt) rfl hD J Sm rfl rfl rfl (by omega) rfl (wr_69 (fun q1 q2 q3 q4 => by omega)) rfl (fun h w108 J Sm => ?_)
    refine x_aloadn (x := 68) rfl rfl ?_
    refine x_dup rfl rfl ?_
    refine z_getM (N := 6) (v := v103) 9 1 rfl f_9_15 rfl J rfl (jmo w108 rfl (jmw w104)) ?_
    refine x_iconst (v := 1) rfl ki_1 ?_
    refine z_iadd rfl rfl jk_1 (by omega) (fun v109 ev109 => ?_)
    refine z_putI (N := 6) (w := v109.toInt) 9 1 rfl f_9_15 rfl (jfin_no TX9 RX9 6 rfl rfl) hD J Sm rfl rfl rfl (pw_68_1 (by omega)) rfl (fun h w110 J Sm => ?_)
    refine z_iinc (x := v105) (lsx9 := fun v111 => [(2, .int v111), (0, .ref 68), (1, .int a5)]) rfl rfl rfl jko_m8 (by omega) rfl (fun _ => rfl) (fun v111 ev111 => ?_)
    refine x_goto (tgt := 3) rfl rfl ?_
    refine x_iloadn (x := v111) rfl rfl ?_
    refine x_iflt (tgt := 49) rfl rfl (ti_lt rfl jk_0 (br_f (by omega) ?_))
    refine x_aloadn (x := 68) rfl rfl ?_
    refine z_getM (N := 6) (v := v109) 9 1 rfl f_9_15 rfl J rfl (jmw w110) ?_
    refine x_sipush (v := 400) rfl ks_400 ?_
    refine x_icge (tgt := 49) rfl rfl (ti_ge rfl jk_400 (br_f (by omega) ?_))
    refine x_aloadn (x := 68) rfl rfl ?_
    refine z_getR (N := 6) (b := 69) 9 0 rfl f_9_11 rfl J rfl 8704 ⟨rfl, rfl⟩ rfl ?_
    refine x_aloadn (x := 68) rfl rfl ?_
    refine z_getM (N := 6) (v := v109) 9 1 rfl f_9_15 rfl J rfl (jmw w110) ?_
    refine x_iloadn (x := a5) rfl rfl ?_
    refine x_iloadn (x := v111) rfl rfl ?_
    refine z_iushr0 rfl (fun v112 => ?_)
    have ev112 := jfull v112
    refine x_sipush (v := 255) rfl ks_255 ?_
    refine z_iand rfl jk_255 (by decide) (fun v113 ev113 => ?_)
    refine z_iast (N := 400) (l := 0) (u := 400) (w := v113.toInt) rfl hD J Sm rfl rfl rfl (by omega) rfl (wr_69 (fun q1 q2 q3 q4 => by omega)) rfl (fun h w114 J Sm => ?_)
    refine x_aloadn (x := 68) rfl rfl ?_
    refine x_dup rfl rfl ?_
    refine z_getM (N := 6) (v := v109) 9 1 rfl f_9_15 rfl J rfl (jmo w114 rfl (jmw w110)) ?_
    refine x_iconst (v := 1) rfl ki_1 ?_
    refine z_iadd rfl rfl jk_1 (by omega) (fun v115 ev115 => ?_)
    refine z_putI (N := 6) (w := v115.toInt) 9 1 rfl f_9_15 rfl (jfin_no TX9 RX9 6 rfl rfl) hD J Sm rfl rfl rfl (pw_68_1 (by omega)) rfl (fun h w116 J Sm => ?_)
    refine z_iinc (x := v111) (lsx9 := fun v117 => [(2, .int v117), (0, .ref 68), (1, .int a5)]) rfl rfl rfl jko_m8 (by omega) rfl (fun _ => rfl) (fun v117 ev117 => ?_)
    refine x_goto (tgt := 3) rfl rfl ?_
    refine x_iloadn (x := v117) rfl rfl ?_
    refine x_iflt (tgt := 49) rfl rfl (ti_lt rfl jk_0 (br_f (by omega) ?_))
    refine x_aloadn (x := 68) rfl rfl ?_
    refine z_getM (N := 6) (v := v115) 9 1 rfl f_9_15 rfl J rfl (jmw w116) ?_
    refine x_sipush (v := 400) rfl ks_400 ?_
    refine x_icge (tgt := 49) rfl rfl (ti_ge rfl jk_400 (br_f (by omega) ?_))
    refine x_aloadn (x := 68) rfl rfl ?_
    refine z_getR (N := 6) (b := 69) 9 0 rfl f_9_11 rfl J rfl 8704 ⟨rfl, rfl⟩ rfl ?_
    refine x_aloadn (x := 68) rfl rfl ?_
    refine z_getM (N := 6) (v := v115) 9 1 rfl f_9_15 rfl J rfl (jmw w116) ?_
    refine x_iloadn (x := a5) rfl rfl ?_
    refine x_iloadn (x := v117) rfl rfl ?_
    refine z_iushr0 rfl (fun v118 => ?_)
    have ev118 := jfull v118
    refine x_sipush (v := 255) rfl ks_255 ?_
    refine z_iand rfl jk_255 (by decide) (fun v119 ev119 => ?_)
    refine z_iast (N := 400) (l := 0) (u := 400) (w := v119.toInt) rfl hD J Sm rfl rfl rfl (by omega) rfl (wr_69 (fun q1 q2 q3 q4 => by omega)) rfl (fun h w120 J Sm => ?_)
    refine x_aloadn (x := 68) rfl rfl ?_
    refine x_dup rfl rfl ?_
    refine z_getM (N := 6) (v := v115) 9 1 rfl f_9_15 rfl J rfl (jmo w120 rfl (jmw w116)) ?_
    refine x_iconst (v := 1) rfl ki_1 ?_
    refine z_iadd rfl rfl jk_1 (by omega) (fun v121 ev121 => ?_)
    refine z_putI (N := 6) (w := v121.toInt) 9 1 rfl f_9_15 rfl (jfin_no TX9 RX9 6 rfl rfl) hD J Sm rfl rfl rfl (pw_68_1 (by omega)) rfl (fun h w122 J Sm => ?_)
    refine z_iinc (x := v117) (lsx9 := fun v123 => [(2, .int v123), (0, .ref 68), (1, .int a5)]) rfl rfl rfl jko_m8 (by omega) rfl (fun _ => rfl) (fun v123 ev123 => ?_)
    refine x_goto (tgt := 3) rfl rfl ?_
    refine x_iloadn (x := v123) rfl rfl ?_
    refine x_iflt (tgt := 49) rfl rfl (ti_lt rfl jk_0 (br_t (by omega) ?_))
    refine x_vret rfl rfl ?_
    show jX m_X11_feed 2 0 0 56 [(0, .ref 31), (1, .int a1), (2, .int a2), (3, .int a3), (4, .int a4), (5, .int a5)] [] _ 0 0 _
    refine x_aloadn (x := 31) rfl rfl ?_
    refine z_getR (N := 13) (b := 68) 11 2 rfl f_11_23 rfl J rfl 3970 ⟨rfl, rfl⟩ rfl ?_
    refine z_getM (N := 6) (v := v121) 9 1 rfl f_11_106 rfl J rfl (jmw w122) ?_
    refine x_iret rfl rfl ?_
    exact hQ _ _ (jr_of rfl (by omega)) J Sm (Or.inr ⟨by omega, by omega, by have := congrArg Int32.toInt (jmw w122); omega⟩)
def fp_X11_holding_r31p : jFp := [(31, 12, 13), (32, 19, 20), (49, 3, 4), (50, 0, 200), (63, 3, 4), (64, 0, 740)]
set_option maxRecDepth 100000 in
set_option maxHeartbeats 4000000 in
theorem sf_X11_holding_r31p {Dy : jH → Prop} {h : jH} {Q : Option Value → jH → Prop} (hD : jDk Dy) (J : jJ jSgX Dy h) (hQ : ∀ (v : Int32) hx9, (-5) ≤ v.toInt ∧ v.toInt ≤ 39 → jJ jSgX Dy hx9 → jSm fp_X11_holding_r31p h hx9 → (((jiv h 49 3).toInt = 40 ∧ v.toInt = -5 ∧ jTe 49 h hx9) ∨ ((jiv h 49 3).toInt < 40 ∧ v.toInt = (jiv h 49 3).toInt + 0 ∧ jTwr 49 5 [0, 0, (-1), 0, 0] h hx9)) → Q (some (.int v)) hx9) : jC m_X11_holding 4 0 0 [.ref 31] h Q := by
  refine jC.of rfl k_X11_holding rfl ?_
  have Sm := jSm_rf fp_X11_holding_r31p h
  show jX m_X11_holding 4 0 0 0 [(0, .ref 31)] [] _ 0 0 _
  obtain ⟨u1, qu1⟩ : ∃ v : Int32, jiv h 49 3 = v := ⟨_, rfl⟩
  have eu1 := (show 0 ≤ u1.toInt ∧ u1.toInt ≤ 40 from qu1 ▸ jrg_f J sg_49_3_4_1_0_1)
  have ou1 := congrArg Int32.toInt qu1
  refine x_aloadn (x := 31) rfl rfl ?_
  refine z_getR (N := 13) (b := 32) 11 0 rfl f_11_10 rfl J rfl 3968 ⟨rfl, rfl⟩ rfl ?_
  refine z_getR (N := 20) (b := 49) 1 8 rfl f_11_408 rfl J rfl 4104 ⟨rfl, rfl⟩ rfl ?_
  refine x_inv (N := m_X8_isFull) (As := []) (b := 49) (st := []) (dx9 := 3) (mc := 0) (ms := 0) (host := "") 8 rfl t_X8_isFull ⟨Or.inl q_11_130, i_X8_isFull.1, i_X8_isFull.2⟩ ⟨by decide, rfl⟩ (congrArg Prod.fst (J.1.1 49 (8, 4) rfl)) rfl (by decide) rfl rfl ⟨by decide, by decide⟩ (jC.of rfl k_X8_isFull rfl ?_)
  show jX m_X8_isFull 3 0 0 0 [(0, .ref 49)] [] _ 0 0 _
  refine x_aloadn (x := 49) rfl rfl ?_
  refine z_getM (N := 4) (v := u1) 8 3 rfl f_8_7 rfl J rfl qu1 ?_
  refine x_aloadn (x := 49) rfl rfl ?_
  refine z_getC (N := 4) (v := 40) 8 1 rfl f_8_22 rfl J rfl sg_49_1_2_1_0_1 jk_40 ?_
  refine x_iclt (tgt := 15) rfl rfl (ti_lt rfl jk_40 ⟨fun c2 => ?_, fun c2 => ?_⟩)
  ·
    refine x_iconst (v := 0) rfl ki_0 ?_
    refine x_zret rfl rfl (by decide) ?_
    show jX m_X11_holding 4 0 0 10 [(0, .ref 31)] [.int 0] _ 0 0 _
    refine x_ifeq (tgt := 20) rfl rfl (ti_eq jk_0 jk_0 (br_t (by omega) ?_))
    refine x_aloadn (x := 31) rfl rfl ?_
    refine x_aloadn (x := 31) rfl rfl ?_
    refine x_iconst (v := (-1)) rfl ki_m1 ?_
    refine x_iconst (v := 0) rfl ki_0 ?_
    refine x_iconst (v := 0) rfl ki_0 ?_
    refine x_iconst (v := 0) rfl ki_0 ?_
    refine x_iconst (v := 0) rfl ki_0 ?_
    refine x_inv (N := m_X11_addHolding) (As := [.int (-1), .int 0, .int 0, .int 0, .int 0]) (b := 31) (st := [.ref 31]) (dx9 := 3) (mc := 0) (ms := 0) (host := "") 11 rfl t_X11_addHolding ⟨Or.inl q_11_411, i_X11_addHolding.1, i_X11_addHolding.2⟩ ⟨by decide, rfl⟩ (congrArg Prod.fst (J.1.1 31 (11, 13) rfl)) rfl (by decide) rfl rfl ⟨by decide, by decide⟩ (jC.of rfl k_X11_addHolding rfl ?_)
    show jX m_X11_addHolding 3 0 0 0 [(0, .ref 31), (1, .int (-1)), (2, .int 0), (3, .int 0), (4, .int 0), (5, .int 0)] [] _ 0 0 _
    refine x_aloadn (x := 31) rfl rfl ?_
    refine z_getR (N := 13) (b := 32) 11 0 rfl f_11_10 rfl J rfl 3968 ⟨rfl, rfl⟩ rfl ?_
    refine z_getR (N := 20) (b := 49) 1 8 rfl f_11_408 rfl J rfl 4104 ⟨rfl, rfl⟩ rfl ?_
    refine z_getM (N := 4) (v := u1) 8 3 rfl f_11_142 rfl J rfl qu1 ?_
    refine x_istore (lsx9 := [(6, .int u1), (0, .ref 31), (1, .int (-1)), (2, .int 0), (3, .int 0), (4, .int 0), (5, .int 0)]) rfl rfl rfl ?_
    refine x_aloadn (x := 31) rfl rfl ?_
    refine z_getR (N := 13) (b := 32) 11 0 rfl f_11_10 rfl J rfl 3968 ⟨rfl, rfl⟩ rfl ?_
    refine z_getR (N := 20) (b := 49) 1 8 rfl f_11_408 rfl J rfl 4104 ⟨rfl, rfl⟩ rfl ?_
    refine x_iload (x := 0) rfl rfl ?_
    refine x_iload (x := 0) rfl rfl ?_
    refine x_iloadn (x := (-1)) rfl rfl ?_
    refine x_iloadn (x := 0) rfl rfl ?_
    refine x_iloadn (x := 0) rfl rfl ?_
    refine x_iconst (v := 0) rfl ki_0 ?_
    refine x_inv (N := m_X8_add) (As := [.int 0, .int 0, .int (-1), .int 0, .int 0, .int 0]) (b := 49) (st := []) (dx9 := 2) (mc := 0) (ms := 0) (host := "") 8 rfl t_X8_add ⟨Or.inl q_11_145, i_X8_add.1, i_X8_add.2⟩ ⟨by decide, rfl⟩ (congrArg Prod.fst (J.1.1 49 (8, 4) rfl)) rfl (by decide) rfl rfl ⟨by decide, by decide⟩ (jC.of rfl k_X8_add rfl ?_)
    show jX m_X8_add 2 0 0 0 [(0, .ref 49), (1, .int 0), (2, .int 0), (3, .int (-1)), (4, .int 0), (5, .int 0), (6, .int 0)] [] _ 0 0 _
    refine x_aloadn (x := 49) rfl rfl ?_
    refine z_getM (N := 4) (v := u1) 8 3 rfl f_8_7 rfl J rfl qu1 ?_
    refine x_aloadn (x := 49) rfl rfl ?_
    refine z_getC (N := 4) (v := 40) 8 1 rfl f_8_22 rfl J rfl sg_49_1_2_1_0_1 jk_40 ?_
    refine x_iclt (tgt := 12) rfl rfl (ti_lt rfl jk_40 (br_t (by omega) ?_))
    refine x_aloadn (x := 49) rfl rfl ?_
    refine z_getM (N := 4) (v := u1) 8 3 rfl f_8_7 rfl J rfl qu1 ?_
    refine x_istore (lsx9 := [(7, .int u1), (0, .ref 49), (1, .int 0), (2, .int 0), (3, .int (-1)), (4, .int 0), (5, .int 0), (6, .int 0)]) rfl rfl rfl ?_
    refine x_aloadn (x := 49) rfl rfl ?_
    refine x_iload (x := u1) rfl rfl ?_
    refine x_iconst (v := 1) rfl ki_1 ?_
    refine z_iadd rfl rfl jk_1 (by omega) (fun v3 ev3 => ?_)
    refine z_putI (N := 4) (w := v3.toInt) 8 3 rfl f_8_7 rfl (jfin_no TX8 RX8 4 rfl rfl) hD J Sm rfl rfl rfl (pw_49_3 (by omega)) rfl (fun h w4 J Sm => ?_)
    refine x_aloadn (x := 49) rfl rfl ?_
    refine x_iload (x := u1) rfl rfl ?_
    refine x_iconst (v := 0) rfl ki_0 ?_
    refine x_iloadn (x := 0) rfl rfl ?_
    refine x_inv (N := m_X8_put) (As := [.int u1, .int 0, .int 0]) (b := 49) (st := []) (dx9 := 1) (mc := 0) (ms := 0) (host := "") 8 rfl t_X8_put ⟨Or.inl q_8_29, i_X8_put.1, i_X8_put.2⟩ ⟨by decide, rfl⟩ (congrArg Prod.fst (J.1.1 49 (8, 4) rfl)) rfl (by decide) rfl rfl ⟨by decide, by decide⟩ (jC.of rfl k_X8_put rfl ?_)
    show jX m_X8_put 1 0 0 0 [(0, .ref 49), (1, .int u1), (2, .int 0), (3, .int 0)] [] _ 0 0 _
    refine x_iloadn (x := u1) rfl rfl ?_
    refine x_iflt (tgt := 38) rfl rfl (ti_lt rfl jk_0 (br_f (by omega) ?_))
    refine x_iloadn (x := u1) rfl rfl ?_
    refine x_aloadn (x := 49) rfl rfl ?_
    refine z_getM (N := 4) (v := v3) 8 3 rfl f_8_7 rfl J rfl (jmw w4) ?_
    refine x_icge (tgt := 38) rfl rfl (ti_ge rfl rfl (br_f (by omega) ?_))
    refine x_iloadn (x := 0) rfl rfl ?_
    refine x_iflt (tgt := 38) rfl rfl (ti_lt jk_0 jk_0 (br_f (by omega) ?_))
    refine x_iloadn (x := 0) rfl rfl ?_
    refine x_aloadn (x := 49) rfl rfl ?_
    refine z_getC (N := 4) (v := 5) 8 0 rfl f_8_19 rfl J rfl sg_49_0_1_1_0_1 jk_5 ?_
    refine x_icge (tgt := 38) rfl rfl (ti_ge jk_0 jk_5 (br_f (by omega) ?_))
    refine x_aloadn (x := 49) rfl rfl ?_
    refine z_getR (N := 4) (b := 50) 8 2 rfl f_8_25 rfl J rfl 6274 ⟨rfl, rfl⟩ rfl ?_
    refine x_iloadn (x := u1) rfl rfl ?_
    refine x_aloadn (x := 49) rfl rfl ?_
    refine z_getC (N := 4) (v := 5) 8 0 rfl f_8_19 rfl J rfl sg_49_0_1_1_0_1 jk_5 ?_
    refine z_imul rfl rfl jk_5 (by omega) (fun v5 ev5 => ?_)
    refine x_iloadn (x := 0) rfl rfl ?_
    refine z_iadd rfl rfl jk_0 (by omega) (fun v6 ev6 => ?_)
    refine x_iloadn (x := 0) rfl rfl ?_
    refine z_iast (N := 200) (l := 0) (u := 200) (w := 0) rfl hD J Sm rfl rfl rfl (by omega) jk_0 (wr_50 (fun q1 q2 q3 q4 => by omega) (fun q1 q2 q3 q4 => by omega) (fun q1 q2 q3 q4 => by omega) (fun q1 q2 q3 q4 => by omega) (fun q1 q2 q3 q4 => by omega)) rfl (fun h w7 J Sm => ?_)
    refine x_vret rfl rfl ?_
    show jX m_X8_add 2 0 0 34 [(7, .int u1), (0, .ref 49), (1, .int 0), (2, .int 0), (3, .int (-1)), (4, .int 0), (5, .int 0), (6, .int 0)] [] _ 0 0 _
    refine x_aloadn (x := 49) rfl rfl ?_
    refine x_iload (x := u1) rfl rfl ?_
    refine x_iconst (v := 1) rfl ki_1 ?_
    refine x_iloadn (x := 0) rfl rfl ?_
    refine x_inv (N := m_X8_put) (As := [.int u1, .int 1, .int 0]) (b := 49) (st := []) (dx9 := 1) (mc := 0) (ms := 0) (host := "") 8 rfl t_X8_put ⟨Or.inl q_8_29, i_X8_put.1, i_X8_put.2⟩ ⟨by decide, rfl⟩ (congrArg Prod.fst (J.1.1 49 (8, 4) rfl)) rfl (by decide) rfl rfl ⟨by decide, by decide⟩ (jC.of rfl k_X8_put rfl ?_)
    show jX m_X8_put 1 0 0 0 [(0, .ref 49), (1, .int u1), (2, .int 1), (3, .int 0)] [] _ 0 0 _
    refine x_iloadn (x := u1) rfl rfl ?_
    refine x_iflt (tgt := 38) rfl rfl (ti_lt rfl jk_0 (br_f (by omega) ?_))
    refine x_iloadn (x := u1) rfl rfl ?_
    refine x_aloadn (x := 49) rfl rfl ?_
    refine z_getM (N := 4) (v := v3) 8 3 rfl f_8_7 rfl J rfl (jmo w7 rfl (jmw w4)) ?_
    refine x_icge (tgt := 38) rfl rfl (ti_ge rfl rfl (br_f (by omega) ?_))
    refine x_iloadn (x := 1) rfl rfl ?_
    refine x_iflt (tgt := 38) rfl rfl (ti_lt jk_1 jk_0 (br_f (by omega) ?_))
    refine x_iloadn (x := 1) rfl rfl ?_
    refine x_aloadn (x := 49) rfl rfl ?_
    refine z_getC (N := 4) (v := 5) 8 0 rfl f_8_19 rfl J rfl sg_49_0_1_1_0_1 jk_5 ?_
    refine x_icge (tgt := 38) rfl rfl (ti_ge jk_1 jk_5 (br_f (by omega) ?_))
    refine x_aloadn (x := 49) rfl rfl ?_
    refine z_getR (N := 4) (b := 50) 8 2 rfl f_8_25 rfl J rfl 6274 ⟨rfl, rfl⟩ rfl ?_
    refine x_iloadn (x := u1) rfl rfl ?_
    refine x_aloadn (x := 49) rfl rfl ?_
    refine z_getC (N := 4) (v := 5) 8 0 rfl f_8_19 rfl J rfl sg_49_0_1_1_0_1 jk_5 ?_
    refine z_imul rfl rfl jk_5 (by omega) (fun v8 ev8 => ?_)
    refine x_iloadn (x := 1) rfl rfl ?_
    refine z_iadd rfl rfl jk_1 (by omega) (fun v9 ev9 => ?_)
    refine x_iloadn (x := 0) rfl rfl ?_
    refine z_iast (N := 200) (l := 0) (u := 200) (w := 0) rfl hD J Sm rfl rfl rfl (by omega) jk_0 (wr_50 (fun q1 q2 q3 q4 => by omega) (fun q1 q2 q3 q4 => by omega) (fun q1 q2 q3 q4 => by omega) (fun q1 q2 q3 q4 => by omega) (fun q1 q2 q3 q4 => by omega)) rfl (fun h w10 J Sm => ?_)
    refine x_vret rfl rfl ?_
    show jX m_X8_add 2 0 0 42 [(7, .int u1), (0, .ref 49), (1, .int 0), (2, .int 0), (3, .int (-1)), (4, .int 0), (5, .int 0), (6, .int 0)] [] _ 0 0 _
    refine x_aloadn (x := 49) rfl rfl ?_
    refine x_iload (x := u1) rfl rfl ?_
    refine x_iconst (v := 2) rfl ki_2 ?_
    refine x_iloadn (x := (-1)) rfl rfl ?_
    refine x_inv (N := m_X8_put) (As := [.int u1, .int 2, .int (-1)]) (b := 49) (st := []) (dx9 := 1) (mc := 0) (ms := 0) (host := "") 8 rfl t_X8_put ⟨Or.inl q_8_29, i_X8_put.1, i_X8_put.2⟩ ⟨by decide, rfl⟩ (congrArg Prod.fst (J.1.1 49 (8, 4) rfl)) rfl (by decide) rfl rfl ⟨by decide, by decide⟩ (jC.of rfl k_X8_put rfl ?_)
    show jX m_X8_put 1 0 0 0 [(0, .ref 49), (1, .int u1), (2, .int 2), (3, .int (-1))] [] _ 0 0 _
    refine x_iloadn (x := u1) rfl rfl ?_
    refine x_iflt (tgt := 38) rfl rfl (ti_lt rfl jk_0 (br_f (by omega) ?_))
    refine x_iloadn (x := u1) rfl rfl ?_
    refine x_aloadn (x := 49) rfl rfl ?_
    refine z_getM (N := 4) (v := v3) 8 3 rfl f_8_7 rfl J rfl (jmo w10 rfl (jmo w7 rfl (jmw w4))) ?_
    refine x_icge (tgt := 38) rfl rfl (ti_ge rfl rfl (br_f (by omega) ?_))
    refine x_iloadn (x := 2) rfl rfl ?_
    refine x_iflt (tgt := 38) rfl rfl (ti_lt jk_2 jk_0 (br_f (by omega) ?_))
    refine x_iloadn (x := 2) rfl rfl ?_
    refine x_aloadn (x := 49) rfl rfl ?_
    refine z_getC (N := 4) (v := 5) 8 0 rfl f_8_19 rfl J rfl sg_49_0_1_1_0_1 jk_5 ?_
    refine x_icge (tgt := 38) rfl rfl (ti_ge jk_2 jk_5 (br_f (by omega) ?_))
    refine x_aloadn (x := 49) rfl rfl ?_
    refine z_getR (N := 4) (b := 50) 8 2 rfl f_8_25 rfl J rfl 6274 ⟨rfl, rfl⟩ rfl ?_
    refine x_iloadn (x := u1) rfl rfl ?_
    refine x_aloadn (x := 49) rfl rfl ?_
    refine z_getC (N := 4) (v := 5) 8 0 rfl f_8_19 rfl J rfl sg_49_0_1_1_0_1 jk_5 ?_
    refine z_imul rfl rfl jk_5 (by omega) (fun v11 ev11 => ?_)
    refine x_iloadn (x := 2) rfl rfl ?_
    refine z_iadd rfl rfl jk_2 (by omega) (fun v12 ev12 => ?_)
    refine x_iloadn (x := (-1)) rfl rfl ?_
    refine z_iast (N := 200) (l := 0) (u := 200) (w := (-1)) rfl hD J Sm rfl rfl rfl (by omega) jk_m1 (wr_50 (fun q1 q2 q3 q4 => by omega) (fun q1 q2 q3 q4 => by omega) (fun q1 q2 q3 q4 => by omega) (fun q1 q2 q3 q4 => by omega) (fun q1 q2 q3 q4 => by omega)) rfl (fun h w13 J Sm => ?_)
    refine x_vret rfl rfl ?_
    show jX m_X8_add 2 0 0 50 [(7, .int u1), (0, .ref 49), (1, .int 0), (2, .int 0), (3, .int (-1)), (4, .int 0), (5, .int 0), (6, .int 0)] [] _ 0 0 _
    refine x_aloadn (x := 49) rfl rfl ?_
    refine x_iload (x := u1) rfl rfl ?_
    refine x_iconst (v := 3) rfl ki_3 ?_
    refine x_iload (x := 0) rfl rfl ?_
    refine x_inv (N := m_X8_put) (As := [.int u1, .int 3, .int 0]) (b := 49) (st := []) (dx9 := 1) (mc := 0) (ms := 0) (host := "") 8 rfl t_X8_put ⟨Or.inl q_8_29, i_X8_put.1, i_X8_put.2⟩ ⟨by decide, rfl⟩ (congrArg Prod.fst (J.1.1 49 (8, 4) rfl)) rfl (by decide) rfl rfl ⟨by decide, by decide⟩ (jC.of rfl k_X8_put rfl ?_)
    show jX m_X8_put 1 0 0 0 [(0, .ref 49), (1, .int u1), (2, .int 3), (3, .int 0)] [] _ 0 0 _
    refine x_iloadn (x := u1) rfl rfl ?_
    refine x_iflt (tgt := 38) rfl rfl (ti_lt rfl jk_0 (br_f (by omega) ?_))
    refine x_iloadn (x := u1) rfl rfl ?_
    refine x_aloadn (x := 49) rfl rfl ?_
    refine z_getM (N := 4) (v := v3) 8 3 rfl f_8_7 rfl J rfl (jmo w13 rfl (jmo w10 rfl (jmo w7 rfl (jmw w4)))) ?_
    refine x_icge (tgt := 38) rfl rfl (ti_ge rfl rfl (br_f (by omega) ?_))
    refine x_iloadn (x := 3) rfl rfl ?_
    refine x_iflt (tgt := 38) rfl rfl (ti_lt jk_3 jk_0 (br_f (by omega) ?_))
    refine x_iloadn (x := 3) rfl rfl ?_
    refine x_aloadn (x := 49) rfl rfl ?_
    refine z_getC (N := 4) (v := 5) 8 0 rfl f_8_19 rfl J rfl sg_49_0_1_1_0_1 jk_5 ?_
    refine x_icge (tgt := 38) rfl rfl (ti_ge jk_3 jk_5 (br_f (by omega) ?_))
    refine x_aloadn (x := 49) rfl rfl ?_
    refine z_getR (N := 4) (b := 50) 8 2 rfl f_8_25 rfl J rfl 6274 ⟨rfl, rfl⟩ rfl ?_
    refine x_iloadn (x := u1) rfl rfl ?_
    refine x_aloadn (x := 49) rfl rfl ?_
    refine z_getC (N := 4) (v := 5) 8 0 rfl f_8_19 rfl J rfl sg_49_0_1_1_0_1 jk_5 ?_
    refine z_imul rfl rfl jk_5 (by omega) (fun v14 ev14 => ?_)
    refine x_iloadn (x := 3) rfl rfl ?_
    refine z_iadd rfl rfl jk_3 (by omega) (fun v15 ev15 => ?_)
    refine x_iloadn (x := 0) rfl rfl ?_
    refine z_iast (N := 200) (l := 0) (u := 200) (w := 0) rfl hD J Sm rfl rfl rfl (by omega) jk_0 (wr_50 (fun q1 q2 q3 q4 => by omega) (fun q1 q2 q3 q4 => by omega) (fun q1 q2 q3 q4 => by omega) (fun q1 q2 q3 q4 => by omega) (fun q1 q2 q3 q4 => by omega)) rfl (fun h w16 J Sm => ?_)
    refine x_vret rfl rfl ?_
    show jX m_X8_add 2 0 0 59 [(7, .int u1), (0, .ref 49), (1, .int 0), (2, .int 0), (3, .int (-1)), (4, .int 0), (5, .int 0), (6, .int 0)] [] _ 0 0 _
    refine x_aloadn (x := 49) rfl rfl ?_
    refine x_iload (x := u1) rfl rfl ?_
    refine x_iconst (v := 4) rfl ki_4 ?_
    refine x_iload (x := 0) rfl rfl ?_
    refine x_inv (N := m_X8_put) (As := [.int u1, .int 4, .int 0]) (b := 49) (st := []) (dx9 := 1) (mc := 0) (ms := 0) (host := "") 8 rfl t_X8_put ⟨Or.inl q_8_29, i_X8_put.1, i_X8_put.2⟩ ⟨by decide, rfl⟩ (congrArg Prod.fst (J.1.1 49 (8, 4) rfl)) rfl (by decide) rfl rfl ⟨by decide, by decide⟩ (jC.of rfl k_X8_put rfl ?_)
    show jX m_X8_put 1 0 0 0 [(0, .ref 49), (1, .int u1), (2, .int 4), (3, .int 0)] [] _ 0 0 _
    refine x_iloadn (x := u1) rfl rfl ?_
    refine x_iflt (tgt := 38) rfl rfl (ti_lt rfl jk_0 (br_f (by omega) ?_))
    refine x_iloadn (x := u1) rfl rfl ?_
    refine x_aloadn (x := 49) rfl rfl ?_
    refine z_getM (N := 4) (v := v3) 8 3 rfl f_8_7 rfl J rfl (jmo w16 rfl (jmo w13 rfl (jmo w10 rfl (jmo w7 rfl (jmw w4))))) ?_
    refine x_icge (tgt := 38) rfl rfl (ti_ge rfl rfl (br_f (by omega) ?_))
    refine x_iloadn (x := 4) rfl rfl ?_
    refine x_iflt (tgt := 38) rfl rfl (ti_lt jk_4 jk_0 (br_f (by omega) ?_))
    refine x_iloadn (x := 4) rfl rfl ?_
    refine x_aloadn (x := 49) rfl rfl ?_
    refine z_getC (N := 4) (v := 5) 8 0 rfl f_8_19 rfl J rfl sg_49_0_1_1_0_1 jk_5 ?_
    refine x_icge (tgt := 38) rfl rfl (ti_ge jk_4 jk_5 (br_f (by omega) ?_))
    refine x_aloadn (x := 49) rfl rfl ?_
    refine z_getR (N := 4) (b := 50) 8 2 rfl f_8_25 rfl J rfl 6274 ⟨rfl, rfl⟩ rfl ?_
    refine x_iloadn (x := u1) rfl rfl ?_
    refine x_aloadn (x := 49) rfl rfl ?_
    refine z_getC (N := 4) (v := 5) 8 0 rfl f_8_19 rfl J rfl sg_49_0_1_1_0_1 jk_5 ?_
    refine z_imul rfl rfl jk_5 (by omega) (fun v17 ev17 => ?_)
    refine x_iloadn (x := 4) rfl rfl ?_
    refine z_iadd rfl rfl jk_4 (by omega) (fun v18 ev18 => ?_)
    refine x_iloadn (x := 0) rfl rfl ?_
    refine z_iast (N := 200) (l := 0) (u := 200) (w := 0) rfl hD J Sm rfl rfl rfl (by omega) jk_0 (wr_50 (fun q1 q2 q3 q4 => by omega) (fun q1 q2 q3 q4 => by omega) (fun q1 q2 q3 q4 => by omega) (fun q1 q2 q3 q4 => by omega) (fun q1 q2 q3 q4 => by omega)) rfl (fun h w19 J Sm => ?_)
    refine x_vret rfl rfl ?_
    show jX m_X8_add 2 0 0 68 [(7, .int u1), (0, .ref 49), (1, .int 0), (2, .int 0), (3, .int (-1)), (4, .int 0), (5, .int 0), (6, .int 0)] [] _ 0 0 _
    refine x_aloadn (x := 49) rfl rfl ?_
    refine x_iload (x := u1) rfl rfl ?_
    refine x_iconst (v := 5) rfl ki_5 ?_
    refine x_iload (x := 0) rfl rfl ?_
    refine x_inv (N := m_X8_put) (As := [.int u1, .int 5, .int 0]) (b := 49) (st := []) (dx9 := 1) (mc := 0) (ms := 0) (host := "") 8 rfl t_X8_put ⟨Or.inl q_8_29, i_X8_put.1, i_X8_put.2⟩ ⟨by decide, rfl⟩ (congrArg Prod.fst (J.1.1 49 (8, 4) rfl)) rfl (by decide) rfl rfl ⟨by decide, by decide⟩ (jC.of rfl k_X8_put rfl ?_)
    show jX m_X8_put 1 0 0 0 [(0, .ref 49), (1, .int u1), (2, .int 5), (3, .int 0)] [] _ 0 0 _
    refine x_iloadn (x := u1) rfl rfl ?_
    refine x_iflt (tgt := 38) rfl rfl (ti_lt rfl jk_0 (br_f (by omega) ?_))
    refine x_iloadn (x := u1) rfl rfl ?_
    refine x_aloadn (x := 49) rfl rfl ?_
    refine z_getM (N := 4) (v := v3) 8 3 rfl f_8_7 rfl J rfl (jmo w19 rfl (jmo w16 rfl (jmo w13 rfl (jmo w10 rfl (jmo w7 rfl (jmw w4)))))) ?_
    refine x_icge (tgt := 38) rfl rfl (ti_ge rfl rfl (br_f (by omega) ?_))
    refine x_iloadn (x := 5) rfl rfl ?_
    refine x_iflt (tgt := 38) rfl rfl (ti_lt jk_5 jk_0 (br_f (by omega) ?_))
    refine x_iloadn (x := 5) rfl rfl ?_
    refine x_aloadn (x := 49) rfl rfl ?_
    refine z_getC (N := 4) (v := 5) 8 0 rfl f_8_19 rfl J rfl sg_49_0_1_1_0_1 jk_5 ?_
    refine x_icge (tgt := 38) rfl rfl (ti_ge jk_5 jk_5 (br_t (by omega) ?_))
    refine x_vret rfl rfl ?_
    show jX m_X8_add 2 0 0 77 [(7, .int u1), (0, .ref 49), (1, .int 0), (2, .int 0), (3, .int (-1)), (4, .int 0), (5, .int 0), (6, .int 0)] [] _ 0 0 _
    refine x_vret rfl rfl ?_
    show jX m_X11_addHolding 3 0 0 30 [(6, .int u1), (0, .ref 31), (1, .int (-1)), (2, .int 0), (3, .int 0), (4, .int 0), (5, .int 0)] [] _ 0 0 _
    refine x_aloadn (x := 31) rfl rfl ?_
    refine z_getR (N := 13) (b := 32) 11 0 rfl f_11_10 rfl J rfl 3968 ⟨rfl, rfl⟩ rfl ?_
    refine z_getR (N := 20) (b := 63) 1 15 rfl f_11_159 rfl J rfl 4111 ⟨rfl, rfl⟩ rfl ?_
    refine x_iconst (v := 3) rfl ki_3 ?_
    refine x_iload (x := u1) rfl rfl ?_
    refine x_iconst (v := 0) rfl ki_0 ?_
    refine x_iconst (v := 0) rfl ki_0 ?_
    refine x_iconst (v := 0) rfl ki_0 ?_
    refine x_iconst (v := 0) rfl ki_0 ?_
    refine x_inv (N := m_X8_add) (As := [.int 3, .int u1, .int 0, .int 0, .int 0, .int 0]) (b := 63) (st := []) (dx9 := 2) (mc := 0) (ms := 0) (host := "") 8 rfl t_X8_add ⟨Or.inl q_11_145, i_X8_add.1, i_X8_add.2⟩ ⟨by decide, rfl⟩ (congrArg Prod.fst (J.1.1 63 (8, 4) rfl)) rfl (by decide) rfl rfl ⟨by decide, by decide⟩ (jC.of rfl k_X8_add rfl ?_)
    show jX m_X8_add 2 0 0 0 [(0, .ref 63), (1, .int 3), (2, .int u1), (3, .int 0), (4, .int 0), (5, .int 0), (6, .int 0)] [] _ 0 0 _
    refine x_aloadn (x := 63) rfl rfl ?_
    refine z_getI (N := 4) 8 3 rfl f_8_7 rfl J rfl sg_63_3_4_1_0_1 (fun v20 qv20 ev20 => ?_)
    refine x_aloadn (x := 63) rfl rfl ?_
    refine z_getC (N := 4) (v := 370) 8 1 rfl f_8_22 rfl J rfl sg_63_1_2_1_0_1 jk_370 ?_
    refine x_iclt (tgt := 12) rfl rfl (ti_lt rfl jk_370 ⟨fun c21 => ?_, fun c21 => ?_⟩)
    ·
      refine x_aloadn (x := 63) rfl rfl ?_
      refine z_getM (N := 4) (v := v20) 8 3 rfl f_8_7 rfl J rfl qv20 ?_
      refine x_istore (lsx9 := [(7, .int v20), (0, .ref 63), (1, .int 3), (2, .int u1), (3, .int 0), (4, .int 0), (5, .int 0), (6, .int 0)]) rfl rfl rfl ?_
      refine x_aloadn (x := 63) rfl rfl ?_
      refine x_iload (x := v20) rfl rfl ?_
      refine x_iconst (v := 1) rfl ki_1 ?_
      refine z_iadd rfl rfl jk_1 (by omega) (fun v22 ev22 => ?_)
      refine z_putI (N := 4) (w := v22.toInt) 8 3 rfl f_8_7 rfl (jfin_no TX8 RX8 4 rfl rfl) hD J Sm rfl rfl rfl (pw_63_3 (by omega)) rfl (fun h w23 J Sm => ?_)
      refine x_aloadn (x := 63) rfl rfl ?_
      refine x_iload (x := v20) rfl rfl ?_
      refine x_iconst (v := 0) rfl ki_0 ?_
      refine x_iloadn (x := 3) rfl rfl ?_
      refine x_inv (N := m_X8_put) (As := [.int v20, .int 0, .int 3]) (b := 63) (st := []) (dx9 := 1) (mc := 0) (ms := 0) (host := "") 8 rfl t_X8_put ⟨Or.inl q_8_29, i_X8_put.1, i_X8_put.2⟩ ⟨by decide, rfl⟩ (congrArg Prod.fst (J.1.1 63 (8, 4) rfl)) rfl (by decide) rfl rfl ⟨by decide, by decide⟩ (jC.of rfl k_X8_put rfl ?_)
      show jX m_X8_put 1 0 0 0 [(0, .ref 63), (1, .int v20), (2, .int 0), (3, .int 3)] [] _ 0 0 _
      refine x_iloadn (x := v20) rfl rfl ?_
      refine x_iflt (tgt := 38) rfl rfl (ti_lt rfl jk_0 (br_f (by omega) ?_))
      refine x_iloadn (x := v20) rfl rfl ?_
      refine x_aloadn (x := 63) rfl rfl ?_
      refine z_getM (N := 4) (v := v22) 8 3 rfl f_8_7 rfl J rfl (jmw w23) ?_
      refine x_icge (tgt := 38) rfl rfl (ti_ge rfl rfl (br_f (by omega) ?_))
      refine x_iloadn (x := 0) rfl rfl ?_
      refine x_iflt (tgt := 38) rfl rfl (ti_lt jk_0 jk_0 (br_f (by omega) ?_))
      refine x_iloadn (x := 0) rfl rfl ?_
      refine x_aloadn (x := 63) rfl rfl ?_
      refine z_getC (N := 4) (v := 2) 8 0 rfl f_8_19 rfl J rfl sg_63_0_1_1_0_1 jk_2 ?_
      refine x_icge (tgt := 38) rfl rfl (ti_ge jk_0 jk_2 (br_f (by omega) ?_))
      refine x_aloadn (x := 63) rfl rfl ?_
      refine z_getR (N := 4) (b := 64) 8 2 rfl f_8_25 rfl J rfl 8066 ⟨rfl, rfl⟩ rfl ?_
      refine x_iloadn (x := v20) rfl rfl ?_
      refine x_aloadn (x := 63) rfl rfl ?_
      refine z_getC (N := 4) (v := 2) 8 0 rfl f_8_19 rfl J rfl sg_63_0_1_1_0_1 jk_2 ?_
      refine z_imul rfl rfl jk_2 (by omega) (fun v24 ev24 => ?_)
      refine x_iloadn (x := 0) rfl rfl ?_
      refine z_iadd rfl rfl jk_0 (by omega) (fun v25 ev25 => ?_)
      refine x_iloadn (x := 3) rfl rfl ?_
      refine z_iast (N := 740) (l := 0) (u := 740) (w := 3) rfl hD J Sm rfl rfl rfl (by omega) jk_3 (wr_64 (fun q1 q2 q3 q4 => by omega) (fun q1 q2 q3 q4 => by omega)) rfl (fun h w26 J Sm => ?_)
      refine x_vret rfl rfl ?_
      show jX m_X8_add 2 0 0 34 [(7, .int v20), (0, .ref 63), (1, .int 3), (2, .int u1), (3, .int 0), (4, .int 0), (5, .int 0), (6, .int 0)] [] _ 0 0 _
      refine x_aloadn (x := 63) rfl rfl ?_
      refine x_iload (x := v20) rfl rfl ?_
      refine x_iconst (v := 1) rfl ki_1 ?_
      refine x_iloadn (x := u1) rfl rfl ?_
      refine x_inv (N := m_X8_put) (As := [.int v20, .int 1, .int u1]) (b := 63) (st := []) (dx9 := 1) (mc := 0) (ms := 0) (host := "") 8 rfl t_X8_put ⟨Or.inl q_8_29, i_X8_put.1, i_X8_put.2⟩ ⟨by decide, rfl⟩ (congrArg Prod.fst (J.1.1 63 (8, 4) rfl)) rfl (by decide) rfl rfl ⟨by decide, by decide⟩ (jC.of rfl k_X8_put rfl ?_)
      show jX m_X8_put 1 0 0 0 [(0, .ref 63), (1, .int v20), (2, .int 1), (3, .int u1)] [] _ 0 0 _
      refine x_iloadn (x := v20) rfl rfl ?_
      refine x_iflt (tgt := 38) rfl rfl (ti_lt rfl jk_0 (br_f (by omega) ?_))
      refine x_iloadn (x := v20) rfl rfl ?_
      refine x_aloadn (x := 63) rfl rfl ?_
      refine z_getM (N := 4) (v := v22) 8 3 rfl f_8_7 rfl J rfl (jmo w26 rfl (jmw w23)) ?_
      refine x_icge (tgt := 38) rfl rfl (ti_ge rfl rfl (br_f (by omega) ?_))
      refine x_iloadn (x := 1) rfl rfl ?_
      refine x_iflt (tgt := 38) rfl rfl (ti_lt jk_1 jk_0 (br_f (by omega) ?_))
      refine x_iloadn (x := 1) rfl rfl ?_
      refine x_aloadn (x := 63) rfl rfl ?_
      refine z_getC (N := 4) (v := 2) 8 0 rfl f_8_19 rfl J rfl sg_63_0_1_1_0_1 jk_2 ?_
      refine x_icge (tgt := 38) rfl rfl (ti_ge jk_1 jk_2 (br_f (by omega) ?_))
      refine x_aloadn (x := 63) rfl rfl ?_
      refine z_getR (N := 4) (b := 64) 8 2 rfl f_8_25 rfl J rfl 8066 ⟨rfl, rfl⟩ rfl ?_
      refine x_iloadn (x := v20) rfl rfl ?_
      refine x_aloadn (x := 63) rfl rfl ?_
      refine z_getC (N := 4) (v := 2) 8 0 rfl f_8_19 rfl J rfl sg_63_0_1_1_0_1 jk_2 ?_
      refine z_imul rfl rfl jk_2 (by omega) (fun v27 ev27 => ?_)
      refine x_iloadn (x := 1) rfl rfl ?_
      refine z_iadd rfl rfl jk_1 (by omega) (fun v28 ev28 => ?_)
      refine x_iloadn (x := u1) rfl rfl ?_
      refine z_iast (N := 740) (l := 0) (u := 740) (w := u1.toInt) rfl hD J Sm rfl rfl rfl (by omega) rfl (wr_64 (fun q1 q2 q3 q4 => by omega) (fun q1 q2 q3 q4 => by omega)) rfl (fun h w29 J Sm => ?_)
      refine x_vret rfl rfl ?_
      show jX m_X8_add 2 0 0 42 [(7, .int v20), (0, .ref 63), (1, .int 3), (2, .int u1), (3, .int 0), (4, .int 0), (5, .int 0), (6, .int 0)] [] _ 0 0 _
      refine x_aloadn (x := 63) rfl rfl ?_
      refine x_iload (x := v20) rfl rfl ?_
      refine x_iconst (v := 2) rfl ki_2 ?_
      refine x_iloadn (x := 0) rfl rfl ?_
      refine x_inv (N := m_X8_put) (As := [.int v20, .int 2, .int 0]) (b := 63) (st := []) (dx9 := 1) (mc := 0) (ms := 0) (host := "") 8 rfl t_X8_put ⟨Or.inl q_8_29, i_X8_put.1, i_X8_put.2⟩ ⟨by decide, rfl⟩ (congrArg Prod.fst (J.1.1 63 (8, 4) rfl)) rfl (by decide) rfl rfl ⟨by decide, by decide⟩ (jC.of rfl k_X8_put rfl ?_)
      show jX m_X8_put 1 0 0 0 [(0, .ref 63), (1, .int v20), (2, .int 2), (3, .int 0)] [] _ 0 0 _
      refine x_iloadn (x := v20) rfl rfl ?_
      refine x_iflt (tgt := 38) rfl rfl (ti_lt rfl jk_0 (br_f (by omega) ?_))
      refine x_iloadn (x := v20) rfl rfl ?_
      refine x_aloadn (x := 63) rfl rfl ?_
      refine z_getM (N := 4) (v := v22) 8 3 rfl f_8_7 rfl J rfl (jmo w29 rfl (jmo w26 rfl (jmw w23))) ?_
      refine x_icge (tgt := 38) rfl rfl (ti_ge rfl rfl (br_f (by omega) ?_))
      refine x_iloadn (x := 2) rfl rfl ?_
      refine x_iflt (tgt := 38) rfl rfl (ti_lt jk_2 jk_0 (br_f (by omega) ?_))
      refine x_iloadn (x := 2) rfl rfl ?_
      refine x_aloadn (x := 63) rfl rfl ?_
      refine z_getC (N := 4) (v := 2) 8 0 rfl f_8_19 rfl J rfl sg_63_0_1_1_0_1 jk_2 ?_
      refine x_icge (tgt := 38) rfl rfl (ti_ge jk_2 jk_2 (br_t (by omega) ?_))
      refine x_vret rfl rfl ?_
      show jX m_X8_add 2 0 0 50 [(7, .int v20), (0, .ref 63), (1, .int 3), (2, .int u1), (3, .int 0), (4, .int 0), (5, .int 0), (6, .int 0)] [] _ 0 0 _
      refine x_aloadn (x := 63) rfl rfl ?_
      refine x_iload (x := v20) rfl rfl ?_
      refine x_iconst (v := 3) rfl ki_3 ?_
      refine x_iload (x := 0) rfl rfl ?_
      refine x_inv (N := m_X8_put) (As := [.int v20, .int 3, .int 0]) (b := 63) (st := []) (dx9 := 1) (mc := 0) (ms := 0) (host := "") 8 rfl t_X8_put ⟨Or.inl q_8_29, i_X8_put.1, i_X8_put.2⟩ ⟨by decide, rfl⟩ (congrArg Prod.fst (J.1.1 63 (8, 4) rfl)) rfl (by decide) rfl rfl ⟨by decide, by decide⟩ (jC.of rfl k_X8_put rfl ?_)
      show jX m_X8_put 1 0 0 0 [(0, .ref 63), (1, .int v20), (2, .int 3), (3, .int 0)] [] _ 0 0 _
      refine x_iloadn (x := v20) rfl rfl ?_
      refine x_iflt (tgt := 38) rfl rfl (ti_lt rfl jk_0 (br_f (by omega) ?_))
      refine x_iloadn (x := v20) rfl rfl ?_
      refine x_aloadn (x := 63) rfl rfl ?_
      refine z_getM (N := 4) (v := v22) 8 3 rfl f_8_7 rfl J rfl (jmo w29 rfl (jmo w26 rfl (jmw w23))) ?_
      refine x_icge (tgt := 38) rfl rfl (ti_ge rfl rfl (br_f (by omega) ?_))
      refine x_iloadn (x := 3) rfl rfl ?_
      refine x_iflt (tgt := 38) rfl rfl (ti_lt jk_3 jk_0 (br_f (by omega) ?_))
      refine x_iloadn (x := 3) rfl rfl ?_
      refine x_aloadn (x := 63) rfl rfl ?_
      refine z_getC (N := 4) (v := 2) 8 0 rfl f_8_19 rfl J rfl sg_63_0_1_1_0_1 jk_2 ?_
      refine x_icge (tgt := 38) rfl rfl (ti_ge jk_3 jk_2 (br_t (by omega) ?_))
      refine x_vret rfl rfl ?_
      show jX m_X8_add 2 0 0 59 [(7, .int v20), (0, .ref 63), (1, .int 3), (2, .int u1), (3, .int 0), (4, .int 0), (5, .int 0), (6, .int 0)] [] _ 0 0 _
      refine x_aloadn (x := 63) rfl rfl ?_
      refine x_iload (x := v20) rfl rfl ?_
      refine x_iconst (v := 4) rfl ki_4 ?_
      refine x_iload (x := 0) rfl rfl ?_
      refine x_inv (N := m_X8_put) (As := [.int v20, .int 4, .int 0]) (b := 63) (st := []) (dx9 := 1) (mc := 0) (ms := 0) (host := "") 8 rfl t_X8_put ⟨Or.inl q_8_29, i_X8_put.1, i_X8_put.2⟩ ⟨by decide, rfl⟩ (congrArg Prod.fst (J.1.1 63 (8, 4) rfl)) rfl (by decide) rfl rfl ⟨by decide, by decide⟩ (jC.of rfl k_X8_put rfl ?_)
      show jX m_X8_put 1 0 0 0 [(0, .ref 63), (1, .int v20), (2, .int 4), (3, .int 0)] [] _ 0 0 _
      refine x_iloadn (x := v20) rfl rfl ?_
      refine x_iflt (tgt := 38) rfl rfl (ti_lt rfl jk_0 (br_f (by omega) ?_))
      refine x_iloadn (x := v20) rfl rfl ?_
      refine x_aloadn (x := 63) rfl rfl ?_
      refine z_getM (N := 4) (v := v22) 8 3 rfl f_8_7 rfl J rfl (jmo w29 rfl (jmo w26 rfl (jmw w23))) ?_
      refine x_icge (tgt := 38) rfl rfl (ti_ge rfl rfl (br_f (by omega) ?_))
      refine x_iloadn (x := 4) rfl rfl ?_
      refine x_iflt (tgt := 38) rfl rfl (ti_lt jk_4 jk_0 (br_f (by omega) ?_))
      refine x_iloadn (x := 4) rfl rfl ?_
      refine x_aloadn (x := 63) rfl rfl ?_
      refine z_getC (N := 4) (v := 2) 8 0 rfl f_8_19 rfl J rfl sg_63_0_1_1_0_1 jk_2 ?_
      refine x_icge (tgt := 38) rfl rfl (ti_ge jk_4 jk_2 (br_t (by omega) ?_))
      refine x_vret rfl rfl ?_
      show jX m_X8_add 2 0 0 68 [(7, .int v20), (0, .ref 63), (1, .int 3), (2, .int u1), (3, .int 0), (4, .int 0), (5, .int 0), (6, .int 0)] [] _ 0 0 _
      refine x_aloadn (x := 63) rfl rfl ?_
      refine x_iload (x := v20) rfl rfl ?_
      refine x_iconst (v := 5) rfl ki_5 ?_
      refine x_iload (x := 0) rfl rfl ?_
      refine x_inv (N := m_X8_put) (As := [.int v20, .int 5, .int 0]) (b := 63) (st := []) (dx9 := 1) (mc := 0) (ms := 0) (host := "") 8 rfl t_X8_put ⟨Or.inl q_8_29, i_X8_put.1, i_X8_put.2⟩ ⟨by decide, rfl⟩ (congrArg Prod.fst (J.1.1 63 (8, 4) rfl)) rfl (by decide) rfl rfl ⟨by decide, by decide⟩ (jC.of rfl k_X8_put rfl ?_)
      show jX m_X8_put 1 0 0 0 [(0, .ref 63), (1, .int v20), (2, .int 5), (3, .int 0)] [] _ 0 0 _
      refine x_iloadn (x := v20) rfl rfl ?_
      refine x_iflt (tgt := 38) rfl rfl (ti_lt rfl jk_0 (br_f (by omega) ?_))
      refine x_iloadn (x := v20) rfl rfl ?_
      refine x_aloadn (x := 63) rfl rfl ?_
      refine z_getM (N := 4) (v := v22) 8 3 rfl f_8_7 rfl J rfl (jmo w29 rfl (jmo w26 rfl (jmw w23))) ?_
      refine x_icge (tgt := 38) rfl rfl (ti_ge rfl rfl (br_f (by omega) ?_))
      refine x_iloadn (x := 5) rfl rfl ?_
      refine x_iflt (tgt := 38) rfl rfl (ti_lt jk_5 jk_0 (br_f (by omega) ?_))
      refine x_iloadn (x := 5) rfl rfl ?_
      refine x_aloadn (x := 63) rfl rfl ?_
      refine z_getC (N := 4) (v := 2) 8 0 rfl f_8_19 rfl J rfl sg_63_0_1_1_0_1 jk_2 ?_
      refine x_icge (tgt := 38) rfl rfl (ti_ge jk_5 jk_2 (br_t (by omega) ?_))
      refine x_vret rfl rfl ?_
      show jX m_X8_add 2 0 0 77 [(7, .int v20), (0, .ref 63), (1, .int 3), (2, .int u1), (3, .int 0), (4, .int 0), (5, .int 0), (6, .int 0)] [] _ 0 0 _
      refine x_vret rfl rfl ?_
      show jX m_X11_addHolding 3 0 0 47 [(6, .int u1), (0, .ref 31), (1, .int (-1)), (2, .int 0), (3, .int 0), (4, .int 0), (5, .int 0)] [] _ 0 0 _
      refine x_iload (x := u1) rfl rfl ?_
      refine x_iret rfl rfl ?_
      show jX m_X11_holding 4 0 0 30 [(0, .ref 31)] [.int u1, .ref 31] _ 0 0 _
      refine x_inv (N := m_X11_accept) (As := [.int u1]) (b := 31) (st := []) (dx9 := 3) (mc := 0) (ms := 0) (host := "") 11 rfl t_X11_accept ⟨Or.inl q_11_165, i_X11_accept.1, i_X11_accept.2⟩ ⟨by decide, rfl⟩ (congrArg Prod.fst (J.1.1 31 (11, 13) rfl)) rfl (by decide) rfl rfl ⟨by decide, by decide⟩ (jC.of rfl k_X11_accept rfl ?_)
      show jX m_X11_accept 3 0 0 0 [(0, .ref 31), (1, .int u1)] [] _ 0 0 _
      refine x_aloadn (x := 31) rfl rfl ?_
      refine x_iconst (v := 0) rfl ki_0 ?_
      refine z_putI (N := 13) (w := 0) 11 12 rfl f_11_94 rfl (jfin_no TX11 RX11 13 rfl rfl) hD J Sm rfl rfl jk_0 (pw_31_12 (by omega)) rfl (fun h w30 J Sm => ?_)
      refine x_aloadn (x := 31) rfl rfl ?_
      refine z_getR (N := 13) (b := 32) 11 0 rfl f_11_10 rfl J rfl 3968 ⟨rfl, rfl⟩ rfl ?_
      refine x_dup rfl rfl ?_
      refine z_getI0 (N := 20) 1 19 rfl f_11_528 rfl J rfl (fun v31 qv31 => ?_)
      have ev31 := jfull v31
      refine x_iconst (v := 1) rfl ki_1 ?_
      refine z_iadd0 rfl (fun v32 => ?_)
      have ev32 := jfull v32
      refine z_putI (N := 20) (w := v32.toInt) 1 19 rfl f_11_528 rfl (jfin_no TX1 RX1 20 rfl rfl) hD J Sm rfl rfl rfl (pw_32_19 trivial) rfl (fun h w33 J Sm => ?_)
      refine x_iloadn (x := u1) rfl rfl ?_
      refine x_iret rfl rfl ?_
      show jX m_X11_holding 4 0 0 33 [(0, .ref 31)] [.int u1] _ 0 0 _
      refine x_iret rfl rfl ?_
      exact hQ _ _ (jr_of rfl (by omega)) J Sm (Or.inr ⟨(by omega), (by omega), (tw_5 (jmo w33 rfl (jmo w30 rfl (jmo w29 rfl (jmo w26 rfl (jmo w23 rfl (jmo w19 rfl (jmo w16 rfl (jmo w13 rfl (jmo w10 rfl (jmo w7 rfl (jmw w4))))))))))) qu1 (by omega) (by omega) (ov_o w33 rfl (ov_o w30 rfl (ov_o w29 rfl (ov_o w26 rfl (ov_o w23 rfl (ov_w w19 (ov_w w16 (ov_w w13 (ov_w w10 (ov_w w7 (ov_o w4 rfl rfl))))))))))) (jix (by omega) (by omega)) (jix (by omega) (by omega)) (jix (by omega) (by omega)) (jix (by omega) (by omega)) (jix (by omega) (by omega)))⟩)
    ·
      refine x_vret rfl rfl ?_
      show jX m_X11_addHolding 3 0 0 47 [(6, .int u1), (0, .ref 31), (1, .int (-1)), (2, .int 0), (3, .int 0), (4, .int 0), (5, .int 0)] [] _ 0 0 _
      refine x_iload (x := u1) rfl rfl ?_
      refine x_iret rfl rfl ?_
      show jX m_X11_holding 4 0 0 30 [(0, .ref 31)] [.int u1, .ref 31] _ 0 0 _
      refine x_inv (N := m_X11_accept) (As := [.int u1]) (b := 31) (st := []) (dx9 := 3) (mc := 0) (ms := 0) (host := "") 11 rfl t_X11_accept ⟨Or.inl q_11_165, i_X11_accept.1, i_X11_accept.2⟩ ⟨by decide, rfl⟩ (congrArg Prod.fst (J.1.1 31 (11, 13) rfl)) rfl (by decide) rfl rfl ⟨by decide, by decide⟩ (jC.of rfl k_X11_accept rfl ?_)
      show jX m_X11_accept 3 0 0 0 [(0, .ref 31), (1, .int u1)] [] _ 0 0 _
      refine x_aloadn (x := 31) rfl rfl ?_
      refine x_iconst (v := 0) rfl ki_0 ?_
      refine z_putI (N := 13) (w := 0) 11 12 rfl f_11_94 rfl (jfin_no TX11 RX11 13 rfl rfl) hD J Sm rfl rfl jk_0 (pw_31_12 (by omega)) rfl (fun h w34 J Sm => ?_)
      refine x_aloadn (x := 31) rfl rfl ?_
      refine z_getR (N := 13) (b := 32) 11 0 rfl f_11_10 rfl J rfl 3968 ⟨rfl, rfl⟩ rfl ?_
      refine x_dup rfl rfl ?_
      refine z_getI0 (N := 20) 1 19 rfl f_11_528 rfl J rfl (fun v35 qv35 => ?_)
      have ev35 := jfull v35
      refine x_iconst (v := 1) rfl ki_1 ?_
      refine z_iadd0 rfl (fun v36 => ?_)
      have ev36 := jfull v36
      refine z_putI (N := 20) (w := v36.toInt) 1 19 rfl f_11_528 rfl (jfin_no TX1 RX1 20 rfl rfl) hD J Sm rfl rfl rfl (pw_32_19 trivial) rfl (fun h w37 J Sm => ?_)
      refine x_iloadn (x := u1) rfl rfl ?_
      refine x_iret rfl rfl ?_
      show jX m_X11_holding 4 0 0 33 [(0, .ref 31)] [.int u1] _ 0 0 _
      refine x_iret rfl rfl ?_
      exact hQ _ _ (jr_of rfl (by omega)) J Sm (Or.inr ⟨(by omega), (by omega), (tw_5 (jmo w37 rfl (jmo w34 rfl (jmo w19 rfl (jmo w16 rfl (jmo w13 rfl (jmo w10 rfl (jmo w7 rfl (jmw w4)))))))) qu1 (by omega) (by omega) (ov_o w37 rfl (ov_o w34 rfl (ov_w w19 (ov_w w16 (ov_w w13 (ov_w w10 (ov_w w7 (ov_o w4 rfl rfl)))))))) (jix (by omega) (by omega)) (jix (by omega) (by omega)) (jix (by omega) (by omega)) (jix (by omega) (by omega)) (jix (by omega) (by omega)))⟩)
  ·
    refine x_iconst (v := 1) rfl ki_1 ?_
    refine x_goto (tgt := 16) rfl rfl ?_
    refine x_zret rfl rfl (by decide) ?_
    show jX m_X11_holding 4 0 0 10 [(0, .ref 31)] [.int 1] _ 0 0 _
    refine x_ifeq (tgt := 20) rfl rfl (ti_eq jk_1 jk_0 (br_f (by omega) ?_))
    refine x_aloadn (x := 31) rfl rfl ?_
    refine x_bipush (v := (-5)) rfl kb_m5 ?_
    refine x_inv (N := m_X11_refuse) (As := [.int (-5)]) (b := 31) (st := []) (dx9 := 3) (mc := 0) (ms := 0) (host := "") 11 rfl t_X11_refuse ⟨Or.inl q_11_206, i_X11_refuse.1, i_X11_refuse.2⟩ ⟨by decide, rfl⟩ (congrArg Prod.fst (J.1.1 31 (11, 13) rfl)) rfl (by decide) rfl rfl ⟨by decide, by decide⟩ (jC.of rfl k_X11_refuse rfl ?_)
    show jX m_X11_refuse 3 0 0 0 [(0, .ref 31), (1, .int (-5))] [] _ 0 0 _
    refine x_aloadn (x := 31) rfl rfl ?_
    refine x_iloadn (x := (-5)) rfl rfl ?_
    refine z_putI (N := 13) (w := (-5)) 11 12 rfl f_11_94 rfl (jfin_no TX11 RX11 13 rfl rfl) hD J Sm rfl rfl jk_m5 (pw_31_12 (by omega)) rfl (fun h w38 J Sm => ?_)
    refine x_iloadn (x := (-5)) rfl rfl ?_
    refine x_iret rfl rfl ?_
    show jX m_X11_holding 4 0 0 19 [(0, .ref 31)] [.int (-5)] _ 0 0 _
    refine x_iret rfl rfl ?_
    exact hQ _ _ (jr_of jk_m5 (by omega)) J Sm (Or.inl ⟨(by omega), jk_m5, ⟨congrFun (ov_o w38 rfl rfl) 3, (ov_o w38 rfl rfl)⟩⟩)
def fp_X11_levy_r31p : jFp := [(31, 12, 13), (32, 19, 20), (53, 3, 4), (54, 0, 160)]
set_option maxRecDepth 100000 in
set_option maxHeartbeats 4000000 in
theorem ct_X11_levy_r31p_35 {Dy : jH → Prop} {h0 : jH} {Q : Option Value → jH → Prop} {a1 : Int32} (yy_a1 : (-2147483648) ≤ a1.toInt ∧ a1.toInt ≤ 2147483647) {a2 : Int32} (yy_a2 : (-2147483648) ≤ a2.toInt ∧ a2.toInt ≤ 2147483647) {a3 : Int32} (yy_a3 : (-2147483648) ≤ a3.toInt ∧ a3.toInt ≤ 2147483647) {a4 : Int32} (yy_a4 : (-2147483648) ≤ a4.toInt ∧ a4.toInt ≤ 2147483647) (hD : jDk Dy) (hQ : ∀ (v : Int32) hx9, (-5) ≤ v.toInt ∧ v.toInt ≤ 39 → jJ jSgX Dy hx9 → jSm fp_X11_levy_r31p h0 hx9 → ((¬ (0 ≤ a1.toInt ∧ a1.toInt ≤ 2 ∧ 0 ≤ a2.toInt ∧ a2.toInt ≤ 399 ∧ 0 ≤ a3.toInt ∧ a3.toInt ≤ 1000000 ∧ 0 ≤ a4.toInt ∧ a4.toInt ≤ 146399) ∧ v.toInt = -1 ∧ jTe 53 h0 hx9) ∨ ((0 ≤ a1.toInt ∧ a1.toInt ≤ 2 ∧ 0 ≤ a2.toInt ∧ a2.toInt ≤ 399 ∧ 0 ≤ a3.toInt ∧ a3.toInt ≤ 1000000 ∧ 0 ≤ a4.toInt ∧ a4.toInt ≤ 146399) ∧ (jiv h0 53 3).toInt = 40 ∧ v.toInt = -5 ∧ jTe 53 h0 hx9) ∨ ((0 ≤ a1.toInt ∧ a1.toInt ≤ 2 ∧ 0 ≤ a2.toInt ∧ a2.toInt ≤ 399 ∧ 0 ≤ a3.toInt ∧ a3.toInt ≤ 1000000 ∧ 0 ≤ a4.toInt ∧ a4.toInt ≤ 146399) ∧ (jiv h0 53 3).toInt < 40 ∧ v.toInt = (jiv h0 53 3).toInt + 0 ∧ jTwr 53 4 [a4, a2, a1, a3] h0 hx9)) → Q (some (.int v)) hx9) : ∀ (h : jH), (h = h0 ∧ ¬ (0 ≤ a1.toInt ∧ a1.toInt ≤ 2 ∧ 0 ≤ a2.toInt ∧ a2.toInt ≤ 399 ∧ 0 ≤ a3.toInt ∧ a3.toInt ≤ 1000000 ∧ 0 ≤ a4.toInt ∧ a4.toInt ≤ 146399)) → jJ jSgX Dy h → jSm fp_X11_levy_r31p h0 h → jX m_X11_levy 3 0 0 35 [(0, .ref 31)] [] h 0 0 Q := by
  intro  h C0   J Sm
  refine x_aloadn (x := 31) rfl rfl ?_
  refine x_iconst (v := (-1)) rfl ki_m1 ?_
  refine x_inv (N := m_X11_refuse) (As := [.int (-1)]) (b := 31) (st := []) (dx9 := 2) (mc := 0) (ms := 0) (host := "") 11 rfl t_X11_refuse ⟨Or.inl q_11_206, i_X11_refuse.1, i_X11_refuse.2⟩ ⟨by decide, rfl⟩ (congrArg Prod.fst (J.1.1 31 (11, 13) rfl)) rfl (by decide) rfl rfl ⟨by decide, by decide⟩ (jC.of rfl k_X11_refuse rfl ?_)
  show jX m_X11_refuse 2 0 0 0 [(0, .ref 31), (1, .int (-1))] [] _ 0 0 _
  refine x_aloadn (x := 31) rfl rfl ?_
  refine x_iloadn (x := (-1)) rfl rfl ?_
  refine z_putI (N := 13) (w := (-1)) 11 12 rfl f_11_94 rfl (jfin_no TX11 RX11 13 rfl rfl) hD J Sm rfl rfl jk_m1 (pw_31_12 (by omega)) rfl (fun h w1 J Sm => ?_)
  refine x_iloadn (x := (-1)) rfl rfl ?_
  refine x_iret rfl rfl ?_
  show jX m_X11_levy 3 0 0 40 [(0, .ref 31)] [.int (-1)] _ 0 0 _
  refine x_iret rfl rfl ?_
  exact hQ _ _ (jr_of jk_m1 (by omega)) J Sm (Or.inl ⟨C0.2, jk_m1, ⟨congrFun (ov_o w1 rfl (ov_e C0.1)) 3, (ov_o w1 rfl (ov_e C0.1))⟩⟩)
set_option maxRecDepth 100000 in
set_option maxHeartbeats 4000000 in
theorem sf_X11_levy_r31p {Dy : jH → Prop} {h : jH} {Q : Option Value → jH → Prop} {a1 : Int32} {a2 : Int32} {a3 : Int32} {a4 : Int32} (hD : jDk Dy) (J : jJ jSgX Dy h) (hQ : ∀ (v : Int32) hx9, (-5) ≤ v.toInt ∧ v.toInt ≤ 39 → jJ jSgX Dy hx9 → jSm fp_X11_levy_r31p h hx9 → ((¬ (0 ≤ a1.toInt ∧ a1.toInt ≤ 2 ∧ 0 ≤ a2.toInt ∧ a2.toInt ≤ 399 ∧ 0 ≤ a3.toInt ∧ a3.toInt ≤ 1000000 ∧ 0 ≤ a4.toInt ∧ a4.toInt ≤ 146399) ∧ v.toInt = -1 ∧ jTe 53 h hx9) ∨ ((0 ≤ a1.toInt ∧ a1.toInt ≤ 2 ∧ 0 ≤ a2.toInt ∧ a2.toInt ≤ 399 ∧ 0 ≤ a3.toInt ∧ a3.toInt ≤ 1000000 ∧ 0 ≤ a4.toInt ∧ a4.toInt ≤ 146399) ∧ (jiv h 53 3).toInt = 40 ∧ v.toInt = -5 ∧ jTe 53 h hx9) ∨ ((0 ≤ a1.toInt ∧ a1.toInt ≤ 2 ∧ 0 ≤ a2.toInt ∧ a2.toInt ≤ 399 ∧ 0 ≤ a3.toInt ∧ a3.toInt ≤ 1000000 ∧ 0 ≤ a4.toInt ∧ a4.toInt ≤ 146399) ∧ (jiv h 53 3).toInt < 40 ∧ v.toInt = (jiv h 53 3).toInt + 0 ∧ jTwr 53 4 [a4, a2, a1, a3] h hx9)) → Q (some (.int v)) hx9) : jC m_X11_levy 3 0 0 [.ref 31, .int a1, .int a2, .int a3, .int a4] h Q := by
  refine jC.of rfl k_X11_levy rfl ?_
  have Sm := jSm_rf fp_X11_levy_r31p h
  have yy_a1 := jfull a1
  have yy_a2 := jfull a2
  have yy_a3 := jfull a3
  have yy_a4 := jfull a4
  have ea1 := jfull a1
  have ea2 := jfull a2
  have ea3 := jfull a3
  have ea4 := jfull a4
  show jX m_X11_levy 3 0 0 0 [(0, .ref 31), (1, .int a1), (2, .int a2), (3, .int a3), (4, .int a4)] [] _ 0 0 _
  obtain ⟨u1, qu1⟩ : ∃ v : Int32, jiv h 53 3 = v := ⟨_, rfl⟩
  have eu1 := (show 0 ≤ u1.toInt ∧ u1.toInt ≤ 40 from qu1 ▸ jrg_f J sg_53_3_4_1_0_1)
  have ou1 := congrArg Int32.toInt qu1
  refine x_iloadn (x := a1) rfl rfl ?_
  refine x_iflt (tgt := 35) rfl rfl (ti_lt rfl jk_0 ⟨fun c2 => ?_, fun c2 => ?_⟩)
  ·
    exact jX.sub (jsb_c rfl jsb_n) (ct_X11_levy_r31p_35 yy_a1 yy_a2 yy_a3 yy_a4 hD hQ  h ⟨rfl, by omega⟩ J Sm)
  ·
    refine x_iloadn (x := a1) rfl rfl ?_
    refine x_iconst (v := 2) rfl ki_2 ?_
    refine x_icgt (tgt := 35) rfl rfl (ti_gt rfl jk_2 ⟨fun c3 => ?_, fun c3 => ?_⟩)
    ·
      exact jX.sub (jsb_c rfl jsb_n) (ct_X11_levy_r31p_35 yy_a1 yy_a2 yy_a3 yy_a4 hD hQ  h ⟨rfl, by omega⟩ J Sm)
    ·
      refine x_iloadn (x := a2) rfl rfl ?_
      refine x_inst (N := m_X11_isYear) (As := [.int a2]) (st := []) (dx9 := 1) (mc := 0) (ms := 0) (host := "") rfl t_X11_isYear ⟨Or.inl q_11_433, s_X11_isYear⟩ rfl (by decide) rfl rfl ⟨by decide, by decide⟩ (zc_X11_isYear rfl (fun v4 ev4 => ?_))
      show jX m_X11_levy 3 0 0 13 [(0, .ref 31), (1, .int a1), (2, .int a2), (3, .int a3), (4, .int a4)] [.int v4] _ 0 0 _
      refine x_ifeq (tgt := 35) rfl rfl (ti_eq rfl jk_0 ⟨fun c5 => ?_, fun c5 => ?_⟩)
      ·
        exact jX.sub (jsb_c rfl jsb_n) (ct_X11_levy_r31p_35 yy_a1 yy_a2 yy_a3 yy_a4 hD hQ  h ⟨rfl, by omega⟩ J Sm)
      ·
        refine x_iloadn (x := a3) rfl rfl ?_
        refine x_iconst (v := 0) rfl ki_0 ?_
        refine x_ldcw (v := 1000000) rfl z_11_436 ?_
        refine x_inst (N := m_X11_isWithin) (As := [.int a3, .int 0, .int 1000000]) (st := []) (dx9 := 1) (mc := 0) (ms := 0) (host := "") rfl t_X11_isWithin ⟨Or.inl q_11_202, s_X11_isWithin⟩ rfl (by decide) rfl rfl ⟨by decide, by decide⟩ (zc_X11_isWithin rfl jk_0 jk_1000000 (fun v6 ev6 => ?_))
        show jX m_X11_levy 3 0 0 24 [(0, .ref 31), (1, .int a1), (2, .int a2), (3, .int a3), (4, .int a4)] [.int v6] _ 0 0 _
        refine x_ifeq (tgt := 35) rfl rfl (ti_eq rfl jk_0 ⟨fun c7 => ?_, fun c7 => ?_⟩)
        ·
          exact jX.sub (jsb_c rfl jsb_n) (ct_X11_levy_r31p_35 yy_a1 yy_a2 yy_a3 yy_a4 hD hQ  h ⟨rfl, by omega⟩ J Sm)
        ·
          refine x_iload (x := a4) rfl rfl ?_
          refine x_inst (N := m_X11_isDay) (As := [.int a4]) (st := []) (dx9 := 1) (mc := 0) (ms := 0) (host := "") rfl t_X11_isDay ⟨Or.inl q_11_115, s_X11_isDay⟩ rfl (by decide) rfl rfl ⟨by decide, by decide⟩ (zc_X11_isDay rfl (fun v8 ev8 => ?_))
          show jX m_X11_levy 3 0 0 32 [(0, .ref 31), (1, .int a1), (2, .int a2), (3, .int a3), (4, .int a4)] [.int v8] _ 0 0 _
          refine x_ifne (tgt := 41) rfl rfl (ti_ne rfl jk_0 ⟨fun c9 => ?_, fun c9 => ?_⟩)
          ·
            refine x_aloadn (x := 31) rfl rfl ?_
            refine z_getR (N := 13) (b := 32) 11 0 rfl f_11_10 rfl J rfl 3968 ⟨rfl, rfl⟩ rfl ?_
            refine z_getR (N := 20) (b := 53) 1 10 rfl f_11_437 rfl J rfl 4106 ⟨rfl, rfl⟩ rfl ?_
            refine x_inv (N := m_X8_isFull) (As := []) (b := 53) (st := []) (dx9 := 2) (mc := 0) (ms := 0) (host := "") 8 rfl t_X8_isFull ⟨Or.inl q_11_130, i_X8_isFull.1, i_X8_isFull.2⟩ ⟨by decide, rfl⟩ (congrArg Prod.fst (J.1.1 53 (8, 4) rfl)) rfl (by decide) rfl rfl ⟨by decide, by decide⟩ (jC.of rfl k_X8_isFull rfl ?_)
            show jX m_X8_isFull 2 0 0 0 [(0, .ref 53)] [] _ 0 0 _
            refine x_aloadn (x := 53) rfl rfl ?_
            refine z_getM (N := 4) (v := u1) 8 3 rfl f_8_7 rfl J rfl qu1 ?_
            refine x_aloadn (x := 53) rfl rfl ?_
            refine z_getC (N := 4) (v := 40) 8 1 rfl f_8_22 rfl J rfl sg_53_1_2_1_0_1 jk_40 ?_
            refine x_iclt (tgt := 15) rfl rfl (ti_lt rfl jk_40 ⟨fun c10 => ?_, fun c10 => ?_⟩)
            ·
              refine x_iconst (v := 0) rfl ki_0 ?_
              refine x_zret rfl rfl (by decide) ?_
              show jX m_X11_levy 3 0 0 51 [(0, .ref 31), (1, .int a1), (2, .int a2), (3, .int a3), (4, .int a4)] [.int 0] _ 0 0 _
              refine x_ifeq (tgt := 61) rfl rfl (ti_eq jk_0 jk_0 (br_t (by omega) ?_))
              refine x_aloadn (x := 31) rfl rfl ?_
              refine z_getR (N := 13) (b := 32) 11 0 rfl f_11_10 rfl J rfl 3968 ⟨rfl, rfl⟩ rfl ?_
              refine z_getR (N := 20) (b := 53) 1 10 rfl f_11_437 rfl J rfl 4106 ⟨rfl, rfl⟩ rfl ?_
              refine x_iload (x := a4) rfl rfl ?_
              refine x_iloadn (x := a2) rfl rfl ?_
              refine x_iloadn (x := a1) rfl rfl ?_
              refine x_iloadn (x := a3) rfl rfl ?_
              refine x_iconst (v := 0) rfl ki_0 ?_
              refine x_iconst (v := 0) rfl ki_0 ?_
              refine x_inv (N := m_X8_add) (As := [.int a4, .int a2, .int a1, .int a3, .int 0, .int 0]) (b := 53) (st := []) (dx9 := 2) (mc := 0) (ms := 0) (host := "") 8 rfl t_X8_add ⟨Or.inl q_11_145, i_X8_add.1, i_X8_add.2⟩ ⟨by decide, rfl⟩ (congrArg Prod.fst (J.1.1 53 (8, 4) rfl)) rfl (by decide) rfl rfl ⟨by decide, by decide⟩ (jC.of rfl k_X8_add rfl ?_)
              show jX m_X8_add 2 0 0 0 [(0, .ref 53), (1, .int a4), (2, .int a2), (3, .int a1), (4, .int a3), (5, .int 0), (6, .int 0)] [] _ 0 0 _
              refine x_aloadn (x := 53) rfl rfl ?_
              refine z_getM (N := 4) (v := u1) 8 3 rfl f_8_7 rfl J rfl qu1 ?_
              refine x_aloadn (x := 53) rfl rfl ?_
              refine z_getC (N := 4) (v := 40) 8 1 rfl f_8_22 rfl J rfl sg_53_1_2_1_0_1 jk_40 ?_
              refine x_iclt (tgt := 12) rfl rfl (ti_lt rfl jk_40 (br_t (by omega) ?_))
              refine x_aloadn (x := 53) rfl rfl ?_
              refine z_getM (N := 4) (v := u1) 8 3 rfl f_8_7 rfl J rfl qu1 ?_
              refine x_istore (lsx9 := [(7, .int u1), (0, .ref 53), (1, .int a4), (2, .int a2), (3, .int a1), (4, .int a3), (5, .int 0), (6, .int 0)]) rfl rfl rfl ?_
              refine x_aloadn (x := 53) rfl rfl ?_
              refine x_iload (x := u1) rfl rfl ?_
              refine x_iconst (v := 1) rfl ki_1 ?_
              refine z_iadd rfl rfl jk_1 (by omega) (fun v11 ev11 => ?_)
              refine z_putI (N := 4) (w := v11.toInt) 8 3 rfl f_8_7 rfl (jfin_no TX8 RX8 4 rfl rfl) hD J Sm rfl rfl rfl (pw_53_3 (by omega)) rfl (fun h w12 J Sm => ?_)
              refine x_aloadn (x := 53) rfl rfl ?_
              refine x_iload (x := u1) rfl rfl ?_
              refine x_iconst (v := 0) rfl ki_0 ?_
              refine x_iloadn (x := a4) rfl rfl ?_
              refine x_inv (N := m_X8_put) (As := [.int u1, .int 0, .int a4]) (b := 53) (st := []) (dx9 := 1) (mc := 0) (ms := 0) (host := "") 8 rfl t_X8_put ⟨Or.inl q_8_29, i_X8_put.1, i_X8_put.2⟩ ⟨by decide, rfl⟩ (congrArg Prod.fst (J.1.1 53 (8, 4) rfl)) rfl (by decide) rfl rfl ⟨by decide, by decide⟩ (jC.of rfl k_X8_put rfl ?_)
              show jX m_X8_put 1 0 0 0 [(0, .ref 53), (1, .int u1), (2, .int 0), (3, .int a4)] [] _ 0 0 _
              refine x_iloadn (x := u1) rfl rfl ?_
              refine x_iflt (tgt := 38) rfl rfl (ti_lt rfl jk_0 (br_f (by omega) ?_))
              refine x_iloadn (x := u1) rfl rfl ?_
              refine x_aloadn (x := 53) rfl rfl ?_
              refine z_getM (N := 4) (v := v11) 8 3 rfl f_8_7 rfl J rfl (jmw w12) ?_
              refine x_icge (tgt := 38) rfl rfl (ti_ge rfl rfl (br_f (by omega) ?_))
              refine x_iloadn (x := 0) rfl rfl ?_
              refine x_iflt (tgt := 38) rfl rfl (ti_lt jk_0 jk_0 (br_f (by omega) ?_))
              refine x_iloadn (x := 0) rfl rfl ?_
              refine x_aloadn (x := 53) rfl rfl ?_
              refine z_getC (N := 4) (v := 4) 8 0 rfl f_8_19 rfl J rfl sg_53_0_1_1_0_1 jk_4 ?_
              refine x_icge (tgt := 38) rfl rfl (ti_ge jk_0 jk_4 (br_f (by omega) ?_))
              refine x_aloadn (x := 53) rfl rfl ?_
              refine z_getR (N := 4) (b := 54) 8 2 rfl f_8_25 rfl J rfl 6786 ⟨rfl, rfl⟩ rfl ?_
              refine x_iloadn (x := u1) rfl rfl ?_
              refine x_aloadn (x := 53) rfl rfl ?_
              refine z_getC (N := 4) (v := 4) 8 0 rfl f_8_19 rfl J rfl sg_53_0_1_1_0_1 jk_4 ?_
              refine z_imul rfl rfl jk_4 (by omega) (fun v13 ev13 => ?_)
              refine x_iloadn (x := 0) rfl rfl ?_
              refine z_iadd rfl rfl jk_0 (by omega) (fun v14 ev14 => ?_)
              refine x_iloadn (x := a4) rfl rfl ?_
              refine z_iast (N := 160) (l := 0) (u := 160) (w := a4.toInt) rfl hD J Sm rfl rfl rfl (by omega) rfl (wr_54 (fun q1 q2 q3 q4 => by omega) (fun q1 q2 q3 q4 => by omega) (fun q1 q2 q3 q4 => by omega) (fun q1 q2 q3 q4 => by omega)) rfl (fun h w15 J Sm => ?_)
              refine x_vret rfl rfl ?_
              show jX m_X8_add 2 0 0 34 [(7, .int u1), (0, .ref 53), (1, .int a4), (2, .int a2), (3, .int a1), (4, .int a3), (5, .int 0), (6, .int 0)] [] _ 0 0 _
              refine x_aloadn (x := 53) rfl rfl ?_
              refine x_iload (x := u1) rfl rfl ?_
              refine x_iconst (v := 1) rfl ki_1 ?_
              refine x_iloadn (x := a2) rfl rfl ?_
              refine x_inv (N := m_X8_put) (As := [.int u1, .int 1, .int a2]) (b := 53) (st := []) (dx9 := 1) (mc := 0) (ms := 0) (host := "") 8 rfl t_X8_put ⟨Or.inl q_8_29, i_X8_put.1, i_X8_put.2⟩ ⟨by decide, rfl⟩ (congrArg Prod.fst (J.1.1 53 (8, 4) rfl)) rfl (by decide) rfl rfl ⟨by decide, by decide⟩ (jC.of rfl k_X8_put rfl ?_)
              show jX m_X8_put 1 0 0 0 [(0, .ref 53), (1, .int u1), (2, .int 1), (3, .int a2)] [] _ 0 0 _
              refine x_iloadn (x := u1) rfl rfl ?_
              refine x_iflt (tgt := 38) rfl rfl (ti_lt rfl jk_0 (br_f (by omega) ?_))
              refine x_iloadn (x := u1) rfl rfl ?_
              refine x_aloadn (x := 53) rfl rfl ?_
              refine z_getM (N := 4) (v := v11) 8 3 rfl f_8_7 rfl J rfl (jmo w15 rfl (jmw w12)) ?_
              refine x_icge (tgt := 38) rfl rfl (ti_ge rfl rfl (br_f (by omega) ?_))
              refine x_iloadn (x := 1) rfl rfl ?_
              refine x_iflt (tgt := 38) rfl rfl (ti_lt jk_1 jk_0 (br_f (by omega) ?_))
              refine x_iloadn (x := 1) rfl rfl ?_
              refine x_aloadn (x := 53) rfl rfl ?_
              refine z_getC (N := 4) (v := 4) 8 0 rfl f_8_19 rfl J rfl sg_53_0_1_1_0_1 jk_4 ?_
              refine x_icge (tgt := 38) rfl rfl (ti_ge jk_1 jk_4 (br_f (by omega) ?_))
              refine x_aloadn (x := 53) rfl rfl ?_
              refine z_getR (N := 4) (b := 54) 8 2 rfl f_8_25 rfl J rfl 6786 ⟨rfl, rfl⟩ rfl ?_
              refine x_iloadn (x := u1) rfl rfl ?_
              refine x_aloadn (x := 53) rfl rfl ?_
              refine z_getC (N := 4) (v := 4) 8 0 rfl f_8_19 rfl J rfl sg_53_0_1_1_0_1 jk_4 ?_
              refine z_imul rfl rfl jk_4 (by omega) (fun v16 ev16 => ?_)
              refine x_iloadn (x := 1) rfl rfl ?_
              refine z_iadd rfl rfl jk_1 (by omega) (fun v17 ev17 => ?_)
              refine x_iloadn (x := a2) rfl rfl ?_
              refine z_iast (N := 160) (l := 0) (u := 160) (w := a2.toInt) rfl hD J Sm rfl rfl rfl (by omega) rfl (wr_54 (fun q1 q2 q3 q4 => by omega) (fun q1 q2 q3 q4 => by omega) (fun q1 q2 q3 q4 => by omega) (fun q1 q2 q3 q4 => by omega)) rfl (fun h w18 J Sm => ?_)
              refine x_vret rfl rfl ?_
              show jX m_X8_add 2 0 0 42 [(7, .int u1), (0, .ref 53), (1, .int a4), (2, .int a2), (3, .int a1), (4, .int a3), (5, .int 0), (6, .int 0)] [] _ 0 0 _
              refine x_aloadn (x := 53) rfl rfl ?_
              refine x_iload (x := u1) rfl rfl ?_
              refine x_iconst (v := 2) rfl ki_2 ?_
              refine x_iloadn (x := a1) rfl rfl ?_
              refine x_inv (N := m_X8_put) (As := [.int u1, .int 2, .int a1]) (b := 53) (st := []) (dx9 := 1) (mc := 0) (ms := 0) (host := "") 8 rfl t_X8_put ⟨Or.inl q_8_29, i_X8_put.1, i_X8_put.2⟩ ⟨by decide, rfl⟩ (congrArg Prod.fst (J.1.1 53 (8, 4) rfl)) rfl (by decide) rfl rfl ⟨by decide, by decide⟩ (jC.of rfl k_X8_put rfl ?_)
              show jX m_X8_put 1 0 0 0 [(0, .ref 53), (1, .int u1), (2, .int 2), (3, .int a1)] [] _ 0 0 _
              refine x_iloadn (x := u1) rfl rfl ?_
              refine x_iflt (tgt := 38) rfl rfl (ti_lt rfl jk_0 (br_f (by omega) ?_))
              refine x_iloadn (x := u1) rfl rfl ?_
              refine x_aloadn (x := 53) rfl rfl ?_
              refine z_getM (N := 4) (v := v11) 8 3 rfl f_8_7 rfl J rfl (jmo w18 rfl (jmo w15 rfl (jmw w12))) ?_
              refine x_icge (tgt := 38) rfl rfl (ti_ge rfl rfl (br_f (by omega) ?_))
              refine x_iloadn (x := 2) rfl rfl ?_
              refine x_iflt (tgt := 38) rfl rfl (ti_lt jk_2 jk_0 (br_f (by omega) ?_))
              refine x_iloadn (x := 2) rfl rfl ?_
              refine x_aloadn (x := 53) rfl rfl ?_
              refine z_getC (N := 4) (v := 4) 8 0 rfl f_8_19 rfl J rfl sg_53_0_1_1_0_1 jk_4 ?_
              refine x_icge (tgt := 38) rfl rfl (ti_ge jk_2 jk_4 (br_f (by omega) ?_))
              refine x_aloadn (x := 53) rfl rfl ?_
              refine z_getR (N := 4) (b := 54) 8 2 rfl f_8_25 rfl J rfl 6786 ⟨rfl, rfl⟩ rfl ?_
              refine x_iloadn (x := u1) rfl rfl ?_
              refine x_aloadn (x := 53) rfl rfl ?_
              refine z_getC (N := 4) (v := 4) 8 0 rfl f_8_19 rfl J rfl sg_53_0_1_1_0_1 jk_4 ?_
              refine z_imul rfl rfl jk_4 (by omega) (fun v19 ev19 => ?_)
              refine x_iloadn (x := 2) rfl rfl ?_
              refine z_iadd rfl rfl jk_2 (by omega) (fun v20 ev20 => ?_)
              refine x_iloadn (x := a1) rfl rfl ?_
              refine z_iast (N := 160) (l := 0) (u := 160) (w := a1.toInt) rfl hD J Sm rfl rfl rfl (by omega) rfl (wr_54 (fun q1 q2 q3 q4 => by omega) (fun q1 q2 q3 q4 => by omega) (fun q1 q2 q3 q4 => by omega) (fun q1 q2 q3 q4 => by omega)) rfl (fun h w21 J Sm => ?_)
              refine x_vret rfl rfl ?_
              show jX m_X8_add 2 0 0 50 [(7, .int u1), (0, .ref 53), (1, .int a4), (2, .int a2), (3, .int a1), (4, .int a3), (5, .int 0), (6, .int 0)] [] _ 0 0 _
              refine x_aloadn (x := 53) rfl rfl ?_
              refine x_iload (x := u1) rfl rfl ?_
              refine x_iconst (v := 3) rfl ki_3 ?_
              refine x_iload (x := a3) rfl rfl ?_
              refine x_inv (N := m_X8_put) (As := [.int u1, .int 3, .int a3]) (b := 53) (st := []) (dx9 := 1) (mc := 0) (ms := 0) (host := "") 8 rfl t_X8_put ⟨Or.inl q_8_29, i_X8_put.1, i_X8_put.2⟩ ⟨by decide, rfl⟩ (congrArg Prod.fst (J.1.1 53 (8, 4) rfl)) rfl (by decide) rfl rfl ⟨by decide, by decide⟩ (jC.of rfl k_X8_put rfl ?_)
              show jX m_X8_put 1 0 0 0 [(0, .ref 53), (1, .int u1), (2, .int 3), (3, .int a3)] [] _ 0 0 _
              refine x_iloadn (x := u1) rfl rfl ?_
              refine x_iflt (tgt := 38) rfl rfl (ti_lt rfl jk_0 (br_f (by omega) ?_))
              refine x_iloadn (x := u1) rfl rfl ?_
              refine x_aloadn (x := 53) rfl rfl ?_
              refine z_getM (N := 4) (v := v11) 8 3 rfl f_8_7 rfl J rfl (jmo w21 rfl (jmo w18 rfl (jmo w15 rfl (jmw w12)))) ?_
              refine x_icge (tgt := 38) rfl rfl (ti_ge rfl rfl (br_f (by omega) ?_))
              refine x_iloadn (x := 3) rfl rfl ?_
              refine x_iflt (tgt := 38) rfl rfl (ti_lt jk_3 jk_0 (br_f (by omega) ?_))
              refine x_iloadn (x := 3) rfl rfl ?_
              refine x_aloadn (x := 53) rfl rfl ?_
              refine z_getC (N := 4) (v := 4) 8 0 rfl f_8_19 rfl J rfl sg_53_0_1_1_0_1 jk_4 ?_
              refine x_icge (tgt := 38) rfl rfl (ti_ge jk_3 jk_4 (br_f (by omega) ?_))
              refine x_aloadn (x := 53) rfl rfl ?_
              refine z_getR (N := 4) (b := 54) 8 2 rfl f_8_25 rfl J rfl 6786 ⟨rfl, rfl⟩ rfl ?_
              refine x_iloadn (x := u1) rfl rfl ?_
              refine x_aloadn (x := 53) rfl rfl ?_
              refine z_getC (N := 4) (v := 4) 8 0 rfl f_8_19 rfl J rfl sg_53_0_1_1_0_1 jk_4 ?_
              refine z_imul rfl rfl jk_4 (by omega) (fun v22 ev22 => ?_)
              refine x_iloadn (x := 3) rfl rfl ?_
              refine z_iadd rfl rfl jk_3 (by omega) (fun v23 ev23 => ?_)
              refine x_iloadn (x := a3) rfl rfl ?_
              refine z_iast (N := 160) (l := 0) (u := 160) (w := a3.toInt) rfl hD J Sm rfl rfl rfl (by omega) rfl (wr_54 (fun q1 q2 q3 q4 => by omega) (fun q1 q2 q3 q4 => by omega) (fun q1 q2 q3 q4 => by omega) (fun q1 q2 q3 q4 => by omega)) rfl (fun h w24 J Sm => ?_)
              refine x_vret rfl rfl ?_
              show jX m_X8_add 2 0 0 59 [(7, .int u1), (0, .ref 53), (1, .int a4), (2, .int a2), (3, .int a1), (4, .int a3), (5, .int 0), (6, .int 0)] [] _ 0 0 _
              refine x_aloadn (x := 53) rfl rfl ?_
              refine x_iload (x := u1) rfl rfl ?_
              refine x_iconst (v := 4) rfl ki_4 ?_
              refine x_iload (x := 0) rfl rfl ?_
              refine x_inv (N := m_X8_put) (As := [.int u1, .int 4, .int 0]) (b := 53) (st := []) (dx9 := 1) (mc := 0) (ms := 0) (host := "") 8 rfl t_X8_put ⟨Or.inl q_8_29, i_X8_put.1, i_X8_put.2⟩ ⟨by decide, rfl⟩ (congrArg Prod.fst (J.1.1 53 (8, 4) rfl)) rfl (by decide) rfl rfl ⟨by decide, by decide⟩ (jC.of rfl k_X8_put rfl ?_)
              show jX m_X8_put 1 0 0 0 [(0, .ref 53), (1, .int u1), (2, .int 4), (3, .int 0)] [] _ 0 0 _
              refine x_iloadn (x := u1) rfl rfl ?_
              refine x_iflt (tgt := 38) rfl rfl (ti_lt rfl jk_0 (br_f (by omega) ?_))
              refine x_iloadn (x := u1) rfl rfl ?_
              refine x_aloadn (x := 53) rfl rfl ?_
              refine z_getM (N := 4) (v := v11) 8 3 rfl f_8_7 rfl J rfl (jmo w24 rfl (jmo w21 rfl (jmo w18 rfl (jmo w15 rfl (jmw w12))))) ?_
              refine x_icge (tgt := 38) rfl rfl (ti_ge rfl rfl (br_f (by omega) ?_))
              refine x_iloadn (x := 4) rfl rfl ?_
              refine x_iflt (tgt := 38) rfl rfl (ti_lt jk_4 jk_0 (br_f (by omega) ?_))
              refine x_iloadn (x := 4) rfl rfl ?_
              refine x_aloadn (x := 53) rfl rfl ?_
              refine z_getC (N := 4) (v := 4) 8 0 rfl f_8_19 rfl J rfl sg_53_0_1_1_0_1 jk_4 ?_
              refine x_icge (tgt := 38) rfl rfl (ti_ge jk_4 jk_4 (br_t (by omega) ?_))
              refine x_vret rfl rfl ?_
              show jX m_X8_add 2 0 0 68 [(7, .int u1), (0, .ref 53), (1, .int a4), (2, .int a2), (3, .int a1), (4, .int a3), (5, .int 0), (6, .int 0)] [] _ 0 0 _
              refine x_aloadn (x := 53) rfl rfl ?_
              refine x_iload (x := u1) rfl rfl ?_
              refine x_iconst (v := 5) rfl ki_5 ?_
              refine x_iload (x := 0) rfl rfl ?_
              refine x_inv (N := m_X8_put) (As := [.int u1, .int 5, .int 0]) (b := 53) (st := []) (dx9 := 1) (mc := 0) (ms := 0) (host := "") 8 rfl t_X8_put ⟨Or.inl q_8_29, i_X8_put.1, i_X8_put.2⟩ ⟨by decide, rfl⟩ (congrArg Prod.fst (J.1.1 53 (8, 4) rfl)) rfl (by decide) rfl rfl ⟨by decide, by decide⟩ (jC.of rfl k_X8_put rfl ?_)
              show jX m_X8_put 1 0 0 0 [(0, .ref 53), (1, .int u1), (2, .int 5), (3, .int 0)] [] _ 0 0 _
              refine x_iloadn (x := u1) rfl rfl ?_
              refine x_iflt (tgt := 38) rfl rfl (ti_lt rfl jk_0 (br_f (by omega) ?_))
              refine x_iloadn (x := u1) rfl rfl ?_
              refine x_aloadn (x := 53) rfl rfl ?_
              refine z_getM (N := 4) (v := v11) 8 3 rfl f_8_7 rfl J rfl (jmo w24 rfl (jmo w21 rfl (jmo w18 rfl (jmo w15 rfl (jmw w12))))) ?_
              refine x_icge (tgt := 38) rfl rfl (ti_ge rfl rfl (br_f (by omega) ?_))
              refine x_iloadn (x := 5) rfl rfl ?_
              refine x_iflt (tgt := 38) rfl rfl (ti_lt jk_5 jk_0 (br_f (by omega) ?_))
              refine x_iloadn (x := 5) rfl rfl ?_
              refine x_aloadn (x := 53) rfl rfl ?_
              refine z_getC (N := 4) (v := 4) 8 0 rfl f_8_19 rfl J rfl sg_53_0_1_1_0_1 jk_4 ?_
              refine x_icge (tgt := 38) rfl rfl (ti_ge jk_5 jk_4 (br_t (by omega) ?_))
              refine x_vret rfl rfl ?_
              show jX m_X8_add 2 0 0 77 [(7, .int u1), (0, .ref 53), (1, .int a4), (2, .int a2), (3, .int a1), (4, .int a3), (5, .int 0), (6, .int 0)] [] _ 0 0 _
              refine x_vret rfl rfl ?_
              show jX m_X11_levy 3 0 0 78 [(0, .ref 31), (1, .int a1), (2, .int a2), (3, .int a3), (4, .int a4)] [] _ 0 0 _
              refine x_aloadn (x := 31) rfl rfl ?_
              refine x_aloadn (x := 31) rfl rfl ?_
              refine z_getR (N := 13) (b := 32) 11 0 rfl f_11_10 rfl J rfl 3968 ⟨rfl, rfl⟩ rfl ?_
              refine z_getR (N := 20) (b := 53) 1 10 rfl f_11_437 rfl J rfl 4106 ⟨rfl, rfl⟩ rfl ?_
              refine z_getM (N := 4) (v := v11) 8 3 rfl f_11_142 rfl J rfl (jmo w24 rfl (jmo w21 rfl (jmo w18 rfl (jmo w15 rfl (jmw w12))))) ?_
              refine x_iconst (v := 1) rfl ki_1 ?_
              refine z_isub rfl rfl jk_1 (by omega) (fun v25 ev25 => ?_)
              refine x_inv (N := m_X11_accept) (As := [.int v25]) (b := 31) (st := []) (dx9 := 2) (mc := 0) (ms := 0) (host := "") 11 rfl t_X11_accept ⟨Or.inl q_11_165, i_X11_accept.1, i_X11_accept.2⟩ ⟨by decide, rfl⟩ (congrArg Prod.fst (J.1.1 31 (11, 13) rfl)) rfl (by decide) rfl rfl ⟨by decide, by decide⟩ (jC.of rfl k_X11_accept rfl ?_)
              show jX m_X11_accept 2 0 0 0 [(0, .ref 31), (1, .int v25)] [] _ 0 0 _
              refine x_aloadn (x := 31) rfl rfl ?_
              refine x_iconst (v := 0) rfl ki_0 ?_
              refine z_putI (N := 13) (w := 0) 11 12 rfl f_11_94 rfl (jfin_no TX11 RX11 13 rfl rfl) hD J Sm rfl rfl jk_0 (pw_31_12 (by omega)) rfl (fun h w26 J Sm => ?_)
              refine x_aloadn (x := 31) rfl rfl ?_
              refine z_getR (N := 13) (b := 32) 11 0 rfl f_11_10 rfl J rfl 3968 ⟨rfl, rfl⟩ rfl ?_
              refine x_dup rfl rfl ?_
              refine z_getI0 (N := 20) 1 19 rfl f_11_528 rfl J rfl (fun v27 qv27 => ?_)
              have ev27 := jfull v27
              refine x_iconst (v := 1) rfl ki_1 ?_
              refine z_iadd0 rfl (fun v28 => ?_)
              have ev28 := jfull v28
              refine z_putI (N := 20) (w := v28.toInt) 1 19 rfl f_11_528 rfl (jfin_no TX1 RX1 20 rfl rfl) hD J Sm rfl rfl rfl (pw_32_19 trivial) rfl (fun h w29 J Sm => ?_)
              refine x_iloadn (x := v25) rfl rfl ?_
              refine x_iret rfl rfl ?_
              show jX m_X11_levy 3 0 0 94 [(0, .ref 31), (1, .int a1), (2, .int a2), (3, .int a3), (4, .int a4)] [.int v25] _ 0 0 _
              refine x_iret rfl rfl ?_
              exact hQ _ _ (jr_of rfl (by omega)) J Sm (Or.inr (Or.inr ⟨(by omega), (by omega), (by omega), (tw_4 (jmo w29 rfl (jmo w26 rfl (jmo w24 rfl (jmo w21 rfl (jmo w18 rfl (jmo w15 rfl (jmw w12))))))) qu1 (by omega) (by omega) (ov_o w29 rfl (ov_o w26 rfl (ov_w w24 (ov_w w21 (ov_w w18 (ov_w w15 (ov_o w12 rfl rfl))))))) (jix (by omega) (by omega)) (jix (by omega) (by omega)) (jix (by omega) (by omega)) (jix (by omega) (by omega)))⟩))
            ·
              refine x_iconst (v := 1) rfl ki_1 ?_
              refine x_goto (tgt := 16) rfl rfl ?_
              refine x_zret rfl rfl (by decide) ?_
              show jX m_X11_levy 3 0 0 51 [(0, .ref 31), (1, .int a1), (2, .int a2), (3, .int a3), (4, .int a4)] [.int 1] _ 0 0 _
              refine x_ifeq (tgt := 61) rfl rfl (ti_eq jk_1 jk_0 (br_f (by omega) ?_))
              refine x_aloadn (x := 31) rfl rfl ?_
              refine x_bipush (v := (-5)) rfl kb_m5 ?_
              refine x_inv (N := m_X11_refuse) (As := [.int (-5)]) (b := 31) (st := []) (dx9 := 2) (mc := 0) (ms := 0) (host := "") 11 rfl t_X11_refuse ⟨Or.inl q_11_206, i_X11_refuse.1, i_X11_refuse.2⟩ ⟨by decide, rfl⟩ (congrArg Prod.fst (J.1.1 31 (11, 13) rfl)) rfl (by decide) rfl rfl ⟨by decide, by decide⟩ (jC.of rfl k_X11_refuse rfl ?_)
              show jX m_X11_refuse 2 0 0 0 [(0, .ref 31), (1, .int (-5))] [] _ 0 0 _
              refine x_aloadn (x := 31) rfl rfl ?_
              refine x_iloadn (x := (-5)) rfl rfl ?_
              refine z_putI (N := 13) (w := (-5)) 11 12 rfl f_11_94 rfl (jfin_no TX11 RX11 13 rfl rfl) hD J Sm rfl rfl jk_m5 (pw_31_12 (by omega)) rfl (fun h w30 J Sm => ?_)
              refine x_iloadn (x := (-5)) rfl rfl ?_
              refine x_iret rfl rfl ?_
              show jX m_X11_levy 3 0 0 60 [(0, .ref 31), (1, .int a1), (2, .int a2), (3, .int a3), (4, .int a4)] [.int (-5)] _ 0 0 _
              refine x_iret rfl rfl ?_
              exact hQ _ _ (jr_of jk_m5 (by omega)) J Sm (Or.inr (Or.inl ⟨(by omega), (by omega), jk_m5, ⟨congrFun (ov_o w30 rfl rfl) 3, (ov_o w30 rfl rfl)⟩⟩))
          ·
            exact jX.sub (jsb_c rfl jsb_n) (ct_X11_levy_r31p_35 yy_a1 yy_a2 yy_a3 yy_a4 hD hQ  h ⟨rfl, by omega⟩ J Sm)
def fp_X11_line_r31p : jFp := [(31, 12, 13), (32, 19, 20), (33, 3, 4), (34, 0, 1200), (35, 3, 4), (36, 0, 16800), (63, 3, 4), (64, 0, 740), (68, 1, 2), (68, 2, 3), (68, 3, 4), (68, 4, 5), (68, 5, 6), (71, 0, 84), (75, 0, 43200), (76, 0, 1200), (77, 0, 1200), (79, 0, 600), (80, 0, 600), (81, 0, 600)]
set_option maxRecDepth 100000 in
set_option maxHeartbeats 4000000 in
theorem ct_X11_line_r31p_41 {Dy : jH → Prop} {h0 : jH} {Q : Option Value → jH → Prop} (hD : jDk Dy) (hQ : ∀ (v : Int32) hx9, (-6) ≤ v.toInt ∧ v.toInt ≤ 200 → jJ jSgX Dy hx9 → jSm fp_X11_line_r31p h0 hx9 → ∀ u0 u1 : Int32, jiv hx9 68 5 = u0 → jiv hx9 68 3 = u1 → (u0.toInt ≠ 3 ∨ u1.toInt ≤ 399) → (jiv hx9 68 1).toInt = 0 → Q (some (.int v)) hx9) : ∀ (g0 : Int32) (g1 : Int32) (h : jH), 0 ≤ g0.toInt ∧ g0.toInt ≤ 400 → 0 ≤ g1.toInt ∧ g1.toInt ≤ 3 → (g1.toInt ≠ 3 ∨ g0.toInt ≤ 399) → jiv h 68 3 = g0 → jiv h 68 5 = g1 → jJ jSgX Dy h → jSm fp_X11_line_r31p h0 h → jX m_X11_line 6 0 0 41 [(0, .ref 31)] [] h 0 0 Q := by
  intro g0 g1 h y0 y1 y2 z0 z1  J Sm
  refine x_aloadn (x := 31) rfl rfl ?_
  refine x_iconst (v := (-1)) rfl ki_m1 ?_
  refine x_inv (N := m_X11_refuseTape) (As := [.int (-1)]) (b := 31) (st := []) (dx9 := 5) (mc := 0) (ms := 0) (host := "") 11 rfl t_X11_refuseTape ⟨Or.inl q_11_122, i_X11_refuseTape.1, i_X11_refuseTape.2⟩ ⟨by decide, rfl⟩ (congrArg Prod.fst (J.1.1 31 (11, 13) rfl)) rfl (by decide) rfl rfl ⟨by decide, by decide⟩ (jC.of rfl k_X11_refuseTape rfl ?_)
  show jX m_X11_refuseTape 5 0 0 0 [(0, .ref 31), (1, .int (-1))] [] _ 0 0 _
  refine x_aloadn (x := 31) rfl rfl ?_
  refine z_getR (N := 13) (b := 68) 11 2 rfl f_11_23 rfl J rfl 3970 ⟨rfl, rfl⟩ rfl ?_
  refine x_iconst (v := 0) rfl ki_0 ?_
  refine z_putI (N := 6) (w := 0) 9 1 rfl f_11_106 rfl (jfin_no TX9 RX9 6 rfl rfl) hD J Sm rfl rfl jk_0 (pw_68_1 (by omega)) rfl (fun h w1 J Sm => ?_)
  refine x_aloadn (x := 31) rfl rfl ?_
  refine x_iloadn (x := (-1)) rfl rfl ?_
  refine x_inv (N := m_X11_refuse) (As := [.int (-1)]) (b := 31) (st := []) (dx9 := 4) (mc := 0) (ms := 0) (host := "") 11 rfl t_X11_refuse ⟨Or.inl q_11_206, i_X11_refuse.1, i_X11_refuse.2⟩ ⟨by decide, rfl⟩ (congrArg Prod.fst (J.1.1 31 (11, 13) rfl)) rfl (by decide) rfl rfl ⟨by decide, by decide⟩ (jC.of rfl k_X11_refuse rfl ?_)
  show jX m_X11_refuse 4 0 0 0 [(0, .ref 31), (1, .int (-1))] [] _ 0 0 _
  refine x_aloadn (x := 31) rfl rfl ?_
  refine x_iloadn (x := (-1)) rfl rfl ?_
  refine z_putI (N := 13) (w := (-1)) 11 12 rfl f_11_94 rfl (jfin_no TX11 RX11 13 rfl rfl) hD J Sm rfl rfl jk_m1 (pw_31_12 (by omega)) rfl (fun h w2 J Sm => ?_)
  refine x_iloadn (x := (-1)) rfl rfl ?_
  refine x_iret rfl rfl ?_
  show jX m_X11_refuseTape 5 0 0 13 [(0, .ref 31), (1, .int (-1))] [.int (-1)] _ 0 0 _
  refine x_iret rfl rfl ?_
  show jX m_X11_line 6 0 0 46 [(0, .ref 31)] [.int (-1)] _ 0 0 _
  refine x_iret rfl rfl ?_
  exact hQ _ _ (jr_of jk_m1 (by omega)) J Sm _ _ (jmo w2 rfl (jmo w1 rfl z1)) (jmo w2 rfl (jmo w1 rfl z0)) (by omega) (by have := congrArg Int32.toInt (jmo w2 rfl (jmw w1)); have := jk_0; omega)
set_option maxRecDepth 100000 in
set_option maxHeartbeats 4000000 in
theorem ct_X11_line_r31p_136 {Dy : jH → Prop} {h0 : jH} {Q : Option Value → jH → Prop} (hD : jDk Dy) (hQ : ∀ (v : Int32) hx9, (-6) ≤ v.toInt ∧ v.toInt ≤ 200 → jJ jSgX Dy hx9 → jSm fp_X11_line_r31p h0 hx9 → ∀ u0 u1 : Int32, jiv hx9 68 5 = u0 → jiv hx9 68 3 = u1 → (u0.toInt ≠ 3 ∨ u1.toInt ≤ 399) → (jiv hx9 68 1).toInt = 0 → Q (some (.int v)) hx9) : ∀ r : Nat, ∀ (l7 : Int32) (l8 : Int32) (g0 : Int32) (g1 : Int32) (g2 : Int32) (h : jH), 6 - l8.toInt < (r : Int) → 0 ≤ l7.toInt ∧ l7.toInt ≤ 200 → 0 ≤ l8.toInt ∧ l8.toInt ≤ 6 → 0 ≤ g0.toInt ∧ g0.toInt ≤ 0 → 0 ≤ g1.toInt ∧ g1.toInt ≤ 400 → 0 ≤ g2.toInt ∧ g2.toInt ≤ 3 → (g2.toInt ≠ 3 ∨ g1.toInt ≤ 399) → jiv h 68 1 = g0 → jiv h 68 3 = g1 → jiv h 68 5 = g2 → jJ jSgX Dy h → jSm fp_X11_line_r31p h0 h → jX m_X11_line 6 0 0 136 [(0, .ref 31), (7, .int l7), (8, .int l8)] [] h 0 0 Q := by
  intro r
  induction r with
  | zero =>
    intro l7 l8 g0 g1 g2 h hm y0 y1 y2 y3 y4 y5 z0 z1 z2  J Sm
    exfalso
    omega
  | succ r ih =>
    intro l7 l8 g0 g1 g2 h hm y0 y1 y2 y3 y4 y5 z0 z1 z2  J Sm
    refine x_iload (x := l8) rfl rfl ?_
    refine x_bipush (v := 6) rfl kb_6 ?_
    refine x_icge (tgt := 171) rfl rfl (ti_ge rfl jk_6 ⟨fun c1 => ?_, fun c1 => ?_⟩)
    ·
      refine x_aloadn (x := 31) rfl rfl ?_
      refine z_getR (N := 13) (b := 32) 11 0 rfl f_11_10 rfl J rfl 3968 ⟨rfl, rfl⟩ rfl ?_
      refine z_getR (N := 20) (b := 63) 1 15 rfl f_11_159 rfl J rfl 4111 ⟨rfl, rfl⟩ rfl ?_
      refine x_iconst (v := 0) rfl ki_0 ?_
      refine x_iload (x := l7) rfl rfl ?_
      refine x_iconst (v := 0) rfl ki_0 ?_
      refine x_iconst (v := 0) rfl ki_0 ?_
      refine x_iconst (v := 0) rfl ki_0 ?_
      refine x_iconst (v := 0) rfl ki_0 ?_
      refine x_inv (N := m_X8_add) (As := [.int 0, .int l7, .int 0, .int 0, .int 0, .int 0]) (b := 63) (st := []) (dx9 := 2) (mc := 0) (ms := 0) (host := "") 8 rfl t_X8_add ⟨Or.inl q_11_145, i_X8_add.1, i_X8_add.2⟩ ⟨by decide, rfl⟩ (congrArg Prod.fst (J.1.1 63 (8, 4) rfl)) rfl (by decide) rfl rfl ⟨by decide, by decide⟩ (sf_X8_add_r63 (jr_of jk_0 (by omega)) (jr_of rfl (by omega)) (jr_of jk_0 (by omega)) (jr_of jk_0 (by omega)) (jr_of jk_0 (by omega)) (jr_of jk_0 (by omega)) hD J  (fun h J S2 => ?_))
      have Sm := jSm_tr rfl Sm S2
      show jX m_X11_line 6 0 0 188 [(0, .ref 31), (7, .int l7), (8, .int l8)] [] _ 0 0 _
      refine x_aloadn (x := 31) rfl rfl ?_
      refine x_iload (x := l7) rfl rfl ?_
      refine x_inv (N := m_X11_learn) (As := [.int l7]) (b := 31) (st := []) (dx9 := 5) (mc := 0) (ms := 0) (host := "") 11 rfl t_X11_learn ⟨Or.inl q_11_162, i_X11_learn.1, i_X11_learn.2⟩ ⟨by decide, rfl⟩ (congrArg Prod.fst (J.1.1 31 (11, 13) rfl)) rfl (by decide) rfl rfl ⟨by decide, by decide⟩ (jC.of rfl k_X11_learn rfl ?_)
      show jX m_X11_learn 5 0 0 0 [(0, .ref 31), (1, .int l7)] [] _ 0 0 _
      refine x_aloadn (x := 31) rfl rfl ?_
      refine z_getR (N := 13) (b := 70) 11 3 rfl f_11_32 rfl J rfl 3971 ⟨rfl, rfl⟩ rfl ?_
      refine x_iloadn (x := l7) rfl rfl ?_
      refine x_inv (N := m_X5_learn) (As := [.int l7]) (b := 70) (st := []) (dx9 := 4) (mc := 0) (ms := 0) (host := "") 5 rfl t_X5_learn ⟨Or.inl q_11_186, i_X5_learn.1, i_X5_learn.2⟩ ⟨by decide, rfl⟩ (congrArg Prod.fst (J.1.1 70 (5, 9) rfl)) rfl (by decide) rfl rfl ⟨by decide, by decide⟩ (sf_X5_learn_r70 (jr_of rfl (by omega)) hD J  (fun h J S3 => ?_))
      have Sm := jSm_tr rfl Sm S3
      show jX m_X11_learn 5 0 0 8 [(0, .ref 31), (1, .int l7)] [] _ 0 0 _
      refine x_aloadn (x := 31) rfl rfl ?_
      refine z_getR (N := 13) (b := 78) 11 4 rfl f_11_41 rfl J rfl 3972 ⟨rfl, rfl⟩ rfl ?_
      refine x_iloadn (x := l7) rfl rfl ?_
      refine x_inv (N := m_X7_learn) (As := [.int l7]) (b := 78) (st := []) (dx9 := 2) (mc := 0) (ms := 0) (host := "") 7 rfl t_X7_learn ⟨Or.inl q_11_520, i_X7_learn.1, i_X7_learn.2⟩ ⟨by decide, rfl⟩ (congrArg Prod.fst (J.1.1 78 (7, 16) rfl)) rfl (by decide) rfl rfl ⟨by decide, by decide⟩ (sf_X7_learn_r78 (jr_of rfl (by omega)) hD J  (fun h J S4 => ?_))
      have Sm := jSm_tr rfl Sm S4
      show jX m_X11_learn 5 0 0 16 [(0, .ref 31), (1, .int l7)] [] _ 0 0 _
      refine x_vret rfl rfl ?_
      show jX m_X11_line 6 0 0 194 [(0, .ref 31), (7, .int l7), (8, .int l8)] [] _ 0 0 _
      refine x_aloadn (x := 31) rfl rfl ?_
      refine x_iload (x := l7) rfl rfl ?_
      refine x_inv (N := m_X11_accept) (As := [.int l7]) (b := 31) (st := []) (dx9 := 5) (mc := 0) (ms := 0) (host := "") 11 rfl t_X11_accept ⟨Or.inl q_11_165, i_X11_accept.1, i_X11_accept.2⟩ ⟨by decide, rfl⟩ (congrArg Prod.fst (J.1.1 31 (11, 13) rfl)) rfl (by decide) rfl rfl ⟨by decide, by decide⟩ (jC.of rfl k_X11_accept rfl ?_)
      show jX m_X11_accept 5 0 0 0 [(0, .ref 31), (1, .int l7)] [] _ 0 0 _
      refine x_aloadn (x := 31) rfl rfl ?_
      refine x_iconst (v := 0) rfl ki_0 ?_
      refine z_putI (N := 13) (w := 0) 11 12 rfl f_11_94 rfl (jfin_no TX11 RX11 13 rfl rfl) hD J Sm rfl rfl jk_0 (pw_31_12 (by omega)) rfl (fun h w5 J Sm => ?_)
      refine x_aloadn (x := 31) rfl rfl ?_
      refine z_getR (N := 13) (b := 32) 11 0 rfl f_11_10 rfl J rfl 3968 ⟨rfl, rfl⟩ rfl ?_
      refine x_dup rfl rfl ?_
      refine z_getI0 (N := 20) 1 19 rfl f_11_528 rfl J rfl (fun v6 qv6 => ?_)
      have ev6 := jfull v6
      refine x_iconst (v := 1) rfl ki_1 ?_
      refine z_iadd0 rfl (fun v7 => ?_)
      have ev7 := jfull v7
      refine z_putI (N := 20) (w := v7.toInt) 1 19 rfl f_11_528 rfl (jfin_no TX1 RX1 20 rfl rfl) hD J Sm rfl rfl rfl (pw_32_19 trivial) rfl (fun h w8 J Sm => ?_)
      refine x_iloadn (x := l7) rfl rfl ?_
      refine x_iret rfl rfl ?_
      show jX m_X11_line 6 0 0 200 [(0, .ref 31), (7, .int l7), (8, .int l8)] [.int l7] _ 0 0 _
      refine x_iret rfl rfl ?_
      exact hQ _ _ (jr_of rfl (by omega)) J Sm _ _ (jmo w8 rfl (jmo w5 rfl (jmc S4 rfl (jmc S3 rfl (jmc S2 rfl z2))))) (jmo w8 rfl (jmo w5 rfl (jmc S4 rfl (jmc S3 rfl (jmc S2 rfl z1))))) (by omega) (by have := congrArg Int32.toInt (jmo w8 rfl (jmo w5 rfl (jmc S4 rfl (jmc S3 rfl (jmc S2 rfl z0))))); omega)
    ·
      refine x_aloadn (x := 31) rfl rfl ?_
      refine z_getR (N := 13) (b := 32) 11 0 rfl f_11_10 rfl J rfl 3968 ⟨rfl, rfl⟩ rfl ?_
      refine z_getR (N := 20) (b := 35) 1 1 rfl f_11_149 rfl J rfl 4097 ⟨rfl, rfl⟩ rfl ?_
      refine x_aloadn (x := 31) rfl rfl ?_
      refine z_getR (N := 13) (b := 70) 11 3 rfl f_11_32 rfl J rfl 3971 ⟨rfl, rfl⟩ rfl ?_
      refine z_getR (N := 9) (b := 71) 5 2 rfl f_11_152 rfl J rfl 8962 ⟨rfl, rfl⟩ rfl ?_
      refine x_iload (x := l8) rfl rfl ?_
      refine x_bipush (v := 14) rfl kb_14 ?_
      refine z_imul rfl rfl jk_14 (by omega) (fun v9 ev9 => ?_)
      refine x_inv (N := m_X8_addFrom) (As := [.ref 71, .int v9]) (b := 35) (st := []) (dx9 := 2) (mc := 0) (ms := 0) (host := "") 8 rfl t_X8_addFrom ⟨Or.inl q_11_155, i_X8_addFrom.1, i_X8_addFrom.2⟩ ⟨by decide, rfl⟩ (congrArg Prod.fst (J.1.1 35 (8, 4) rfl)) rfl (by decide) rfl rfl ⟨by decide, by decide⟩ (sf_X8_addFrom_r35_r71 (jr_of rfl (by omega)) (jr_mod rfl (by omega)) hD J  (fun h J S10 => ?_))
      have Sm := jSm_tr rfl Sm S10
      show jX m_X11_line 6 0 0 165 [(0, .ref 31), (7, .int l7), (8, .int l8)] [] _ 0 0 _
      refine z_iinc (x := l8) (lsx9 := fun v11 => [(8, .int v11), (0, .ref 31), (7, .int l7)]) rfl rfl rfl jko_1 (by omega) rfl (fun _ => rfl) (fun v11 ev11 => ?_)
      refine x_goto (tgt := 136) rfl rfl ?_
      exact jX.sub (jsb_c rfl (jsb_c rfl (jsb_c rfl jsb_n))) (ih l7 v11 g0 g1 g2 h (by omega) (jr_of rfl (by omega)) (jr_of rfl (by omega)) (jr_of rfl (by omega)) (jr_of rfl (by omega)) (jr_of rfl (by omega)) (by omega) (jmc S10 rfl z0) (jmc S10 rfl z1) (jmc S10 rfl z2) J Sm)
set_option maxRecDepth 100000 in
set_option maxHeartbeats 4000000 in
theorem sf_X11_line_r31p {Dy : jH → Prop} {h : jH} {Q : Option Value → jH → Prop} {a1 : Int32} {a2 : Int32} {a3 : Int32} {a4 : Int32} {a5 : Int32} (hD : jDk Dy) (J : jJ jSgX Dy h) {p0 p1 : Int32} (zp0 : jiv h 68 5 = p0) (zp1 : jiv h 68 3 = p1) (rl_p0 : (p0.toInt ≠ 3 ∨ p1.toInt ≤ 399)) (hQ : ∀ (v : Int32) hx9, (-6) ≤ v.toInt ∧ v.toInt ≤ 200 → jJ jSgX Dy hx9 → jSm fp_X11_line_r31p h hx9 → ∀ u0 u1 : Int32, jiv hx9 68 5 = u0 → jiv hx9 68 3 = u1 → (u0.toInt ≠ 3 ∨ u1.toInt ≤ 399) → (jiv hx9 68 1).toInt = 0 → Q (some (.int v)) hx9) : jC m_X11_line 6 0 0 [.ref 31, .int a1, .int a2, .int a3, .int a4, .int a5] h Q := by
  refine jC.of rfl k_X11_line rfl ?_
  have Sm := jSm_rf fp_X11_line_r31p h
  have ep0 := (show 0 ≤ p0.toInt ∧ p0.toInt ≤ 3 from zp0 ▸ jrg_f J sg_68_5_6_1_0_1)
  have ep1 := (show 0 ≤ p1.toInt ∧ p1.toInt ≤ 400 from zp1 ▸ jrg_f J sg_68_3_4_1_0_1)
  have ea1 := jfull a1
  have ea2 := jfull a2
  have ea3 := jfull a3
  have ea4 := jfull a4
  have ea5 := jfull a5
  show jX m_X11_line 6 0 0 0 [(0, .ref 31), (1, .int a1), (2, .int a2), (3, .int a3), (4, .int a4), (5, .int a5)] [] _ 0 0 _
  refine x_iloadn (x := a1) rfl rfl ?_
  refine x_inst (N := m_X11_isBook) (As := [.int a1]) (st := []) (dx9 := 1) (mc := 0) (ms := 0) (host := "") rfl t_X11_isBook ⟨Or.inl q_11_112, s_X11_isBook⟩ rfl (by decide) rfl rfl ⟨by decide, by decide⟩ (zc_X11_isBook rfl (fun v1 ev1 => ?_))
  show jX m_X11_line 6 0 0 4 [(0, .ref 31), (1, .int a1), (2, .int a2), (3, .int a3), (4, .int a4), (5, .int a5)] [.int v1] _ 0 0 _
  refine x_ifeq (tgt := 41) rfl rfl (ti_eq rfl jk_0 ⟨fun c2 => ?_, fun c2 => ?_⟩)
  ·
    exact jX.sub (jsb_c rfl jsb_n) (ct_X11_line_r31p_41 hD hQ  p1 p0 h (jr_of rfl (by omega)) (jr_of rfl (by omega)) (by omega) zp1 zp0 J Sm)
  ·
    refine x_iloadn (x := a2) rfl rfl ?_
    refine x_iflt (tgt := 41) rfl rfl (ti_lt rfl jk_0 ⟨fun c3 => ?_, fun c3 => ?_⟩)
    ·
      exact jX.sub (jsb_c rfl jsb_n) (ct_X11_line_r31p_41 hD hQ  p1 p0 h (jr_of rfl (by omega)) (jr_of rfl (by omega)) (by omega) zp1 zp0 J Sm)
    ·
      refine x_iloadn (x := a2) rfl rfl ?_
      refine x_bipush (v := 15) rfl kb_15 ?_
      refine x_icgt (tgt := 41) rfl rfl (ti_gt rfl jk_15 ⟨fun c4 => ?_, fun c4 => ?_⟩)
      ·
        exact jX.sub (jsb_c rfl jsb_n) (ct_X11_line_r31p_41 hD hQ  p1 p0 h (jr_of rfl (by omega)) (jr_of rfl (by omega)) (by omega) zp1 zp0 J Sm)
      ·
        refine x_iloadn (x := a3) rfl rfl ?_
        refine x_inst (N := m_X11_isDay) (As := [.int a3]) (st := []) (dx9 := 1) (mc := 0) (ms := 0) (host := "") rfl t_X11_isDay ⟨Or.inl q_11_115, s_X11_isDay⟩ rfl (by decide) rfl rfl ⟨by decide, by decide⟩ (zc_X11_isDay rfl (fun v5 ev5 => ?_))
        show jX m_X11_line 6 0 0 21 [(0, .ref 31), (1, .int a1), (2, .int a2), (3, .int a3), (4, .int a4), (5, .int a5)] [.int v5] _ 0 0 _
        refine x_ifeq (tgt := 41) rfl rfl (ti_eq rfl jk_0 ⟨fun c6 => ?_, fun c6 => ?_⟩)
        ·
          exact jX.sub (jsb_c rfl jsb_n) (ct_X11_line_r31p_41 hD hQ  p1 p0 h (jr_of rfl (by omega)) (jr_of rfl (by omega)) (by omega) zp1 zp0 J Sm)
        ·
          refine x_iload (x := a4) rfl rfl ?_
          refine x_inst (N := m_X11_isDay) (As := [.int a4]) (st := []) (dx9 := 1) (mc := 0) (ms := 0) (host := "") rfl t_X11_isDay ⟨Or.inl q_11_115, s_X11_isDay⟩ rfl (by decide) rfl rfl ⟨by decide, by decide⟩ (zc_X11_isDay rfl (fun v7 ev7 => ?_))
          show jX m_X11_line 6 0 0 29 [(0, .ref 31), (1, .int a1), (2, .int a2), (3, .int a3), (4, .int a4), (5, .int a5)] [.int v7] _ 0 0 _
          refine x_ifeq (tgt := 41) rfl rfl (ti_eq rfl jk_0 ⟨fun c8 => ?_, fun c8 => ?_⟩)
          ·
            exact jX.sub (jsb_c rfl jsb_n) (ct_X11_line_r31p_41 hD hQ  p1 p0 h (jr_of rfl (by omega)) (jr_of rfl (by omega)) (by omega) zp1 zp0 J Sm)
          ·
            refine x_iloadn (x := a1) rfl rfl ?_
            refine x_iload (x := a5) rfl rfl ?_
            refine x_inst (N := m_X11_fitsBook) (As := [.int a1, .int a5]) (st := []) (dx9 := 5) (mc := 0) (ms := 0) (host := "") rfl t_X11_fitsBook ⟨Or.inl q_11_118, s_X11_fitsBook⟩ rfl (by decide) rfl rfl ⟨by decide, by decide⟩ (jC.of rfl k_X11_fitsBook rfl ?_)
            show jX m_X11_fitsBook 5 0 0 0 [(0, .int a1), (1, .int a5)] [] _ 0 0 _
            refine x_iloadn (x := a1) rfl rfl ?_
            by_cases c9 : a1.toInt = 2
            ·
              refine x_tableIn (tgt := 32) 2 rfl c9 (by decide) (by decide) rfl rfl ?_
              refine x_iloadn (x := a5) rfl rfl ?_
              refine x_iconst (v := (-1)) rfl ki_m1 ?_
              refine x_bipush (v := 120) rfl kb_120 ?_
              refine x_inst (N := m_X11_isWithin) (As := [.int a5, .int (-1), .int 120]) (st := []) (dx9 := 1) (mc := 0) (ms := 0) (host := "") rfl t_X11_isWithin ⟨Or.inl q_11_202, s_X11_isWithin⟩ rfl (by decide) rfl rfl ⟨by decide, by decide⟩ (zc_X11_isWithin rfl jk_m1 jk_120 (fun v10 ev10 => ?_))
              show jX m_X11_fitsBook 5 0 0 39 [(0, .int a1), (1, .int a5)] [.int v10] _ 0 0 _
              refine x_zret rfl rfl (jz01 (by omega)) ?_
              show jX m_X11_line 6 0 0 38 [(0, .ref 31), (1, .int a1), (2, .int a2), (3, .int a3), (4, .int a4), (5, .int a5)] [.int v10] _ 0 0 _
              refine x_ifne (tgt := 47) rfl rfl (ti_ne rfl jk_0 ⟨fun c11 => ?_, fun c11 => ?_⟩)
              ·
                refine x_aloadn (x := 31) rfl rfl ?_
                refine z_getR (N := 13) (b := 32) 11 0 rfl f_11_10 rfl J rfl 3968 ⟨rfl, rfl⟩ rfl ?_
                refine z_getR (N := 20) (b := 33) 1 0 rfl f_11_126 rfl J rfl 4096 ⟨rfl, rfl⟩ rfl ?_
                refine x_inv (N := m_X8_isFull) (As := []) (b := 33) (st := []) (dx9 := 1) (mc := 0) (ms := 0) (host := "") 8 rfl t_X8_isFull ⟨Or.inl q_11_130, i_X8_isFull.1, i_X8_isFull.2⟩ ⟨by decide, rfl⟩ (congrArg Prod.fst (J.1.1 33 (8, 4) rfl)) rfl (by decide) rfl rfl ⟨by decide, by decide⟩ (sf_X8_isFull_r33  hD J  (fun v13 h ev13 J S12 => ?_))
                have Sm := jSm_tr rfl Sm S12
                show jX m_X11_line 6 0 0 57 [(0, .ref 31), (1, .int a1), (2, .int a2), (3, .int a3), (4, .int a4), (5, .int a5)] [.int v13] _ 0 0 _
                refine x_ifeq (tgt := 67) rfl rfl (ti_eq rfl jk_0 ⟨fun c14 => ?_, fun c14 => ?_⟩)
                ·
                  refine x_aloadn (x := 31) rfl rfl ?_
                  refine z_getR (N := 13) (b := 70) 11 3 rfl f_11_32 rfl J rfl 3971 ⟨rfl, rfl⟩ rfl ?_
                  refine x_gets jst_1 rfl (by decide +kernel) u_11_136 ?_
                  show jX m_X11_line 6 0 0 74 [(0, .ref 31), (1, .int a1), (2, .int a2), (3, .int a3), (4, .int a4), (5, .int a5)] [.ref 1, .ref 70] _ 0 0 _
                  refine x_iloadn (x := a1) rfl rfl ?_
                  refine z_iald (N := 6) rfl J rfl sg_1_0_6_1_0_1 rfl (by omega) (fun v15 qv15 ev15 => ?_)
                  refine x_inv (N := m_X5_readLine) (As := [.int v15]) (b := 70) (st := []) (dx9 := 5) (mc := 0) (ms := 0) (host := "") 5 rfl t_X5_readLine ⟨Or.inl q_11_139, i_X5_readLine.1, i_X5_readLine.2⟩ ⟨by decide, rfl⟩ (congrArg Prod.fst (J.1.1 70 (5, 9) rfl)) rfl (by decide) rfl rfl ⟨by decide, by decide⟩ (sf_X5_readLine_r70 (jr_of rfl (by omega)) hD J (jmc S12 rfl zp0) (jmc S12 rfl zp1) (by omega)  (fun v19 h ev19 J S16 u17 u18 qu17 qu18 ru17 => ?_))
                  have Sm := jSm_tr rfl Sm S16
                  have eu17 := (show 0 ≤ u17.toInt ∧ u17.toInt ≤ 3 from qu17 ▸ jrg_f J sg_68_5_6_1_0_1)
                  have eu18 := (show 0 ≤ u18.toInt ∧ u18.toInt ≤ 400 from qu18 ▸ jrg_f J sg_68_3_4_1_0_1)
                  show jX m_X11_line 6 0 0 79 [(0, .ref 31), (1, .int a1), (2, .int a2), (3, .int a3), (4, .int a4), (5, .int a5)] [.int v19] _ 0 0 _
                  refine x_istore (lsx9 := [(6, .int v19), (0, .ref 31), (1, .int a1), (2, .int a2), (3, .int a3), (4, .int a4), (5, .int a5)]) rfl rfl rfl ?_
                  refine x_iload (x := v19) rfl rfl ?_
                  refine x_iconst (v := (-1)) rfl ki_m1 ?_
                  refine x_icne (tgt := 94) rfl rfl (ti_ne rfl jk_m1 ⟨fun c20 => ?_, fun c20 => ?_⟩)
                  ·
                    refine x_aloadn (x := 31) rfl rfl ?_
                    refine z_getR (N := 13) (b := 68) 11 2 rfl f_11_23 rfl J rfl 3970 ⟨rfl, rfl⟩ rfl ?_
                    refine x_iconst (v := 0) rfl ki_0 ?_
                    refine z_putI (N := 6) (w := 0) 9 1 rfl f_11_106 rfl (jfin_no TX9 RX9 6 rfl rfl) hD J Sm rfl rfl jk_0 (pw_68_1 (by omega)) rfl (fun h w21 J Sm => ?_)
                    refine x_aloadn (x := 31) rfl rfl ?_
                    refine z_getR (N := 13) (b := 32) 11 0 rfl f_11_10 rfl J rfl 3968 ⟨rfl, rfl⟩ rfl ?_
                    refine z_getR (N := 20) (b := 33) 1 0 rfl f_11_126 rfl J rfl 4096 ⟨rfl, rfl⟩ rfl ?_
                    refine z_getI (N := 4) 8 3 rfl f_11_142 rfl J rfl sg_33_3_4_1_0_1 (fun v22 qv22 ev22 => ?_)
                    refine x_istore (lsx9 := [(7, .int v22), (6, .int v19), (0, .ref 31), (1, .int a1), (2, .int a2), (3, .int a3), (4, .int a4), (5, .int a5)]) rfl rfl rfl ?_
                    refine x_aloadn (x := 31) rfl rfl ?_
                    refine z_getR (N := 13) (b := 32) 11 0 rfl f_11_10 rfl J rfl 3968 ⟨rfl, rfl⟩ rfl ?_
                    refine z_getR (N := 20) (b := 33) 1 0 rfl f_11_126 rfl J rfl 4096 ⟨rfl, rfl⟩ rfl ?_
                    refine x_iload (x := a4) rfl rfl ?_
                    refine x_iloadn (x := a3) rfl rfl ?_
                    refine x_iloadn (x := a1) rfl rfl ?_
                    refine x_iloadn (x := a2) rfl rfl ?_
                    refine x_iload (x := a5) rfl rfl ?_
                    refine x_iload (x := v19) rfl rfl ?_
                    refine x_inv (N := m_X8_add) (As := [.int a4, .int a3, .int a1, .int a2, .int a5, .int v19]) (b := 33) (st := []) (dx9 := 2) (mc := 0) (ms := 0) (host := "") 8 rfl t_X8_add ⟨Or.inl q_11_145, i_X8_add.1, i_X8_add.2⟩ ⟨by decide, rfl⟩ (congrArg Prod.fst (J.1.1 33 (8, 4) rfl)) rfl (by decide) rfl rfl ⟨by decide, by decide⟩ (sf_X8_add_r33 (jr_of rfl (by omega)) (jr_of rfl (by omega)) (jr_of rfl (by omega)) (jr_of rfl (by omega)) (jr_of rfl (by omega)) (jr_of rfl (by omega)) hD J  (fun h J S23 => ?_))
                    have Sm := jSm_tr rfl Sm S23
                    show jX m_X11_line 6 0 0 133 [(7, .int v22), (6, .int v19), (0, .ref 31), (1, .int a1), (2, .int a2), (3, .int a3), (4, .int a4), (5, .int a5)] [] _ 0 0 _
                    refine x_iconst (v := 0) rfl ki_0 ?_
                    refine x_istore (lsx9 := [(8, .int 0), (7, .int v22), (6, .int v19), (0, .ref 31), (1, .int a1), (2, .int a2), (3, .int a3), (4, .int a4), (5, .int a5)]) rfl rfl rfl ?_
                    exact jX.sub (jsb_c rfl (jsb_c rfl (jsb_c rfl jsb_n))) (ct_X11_line_r31p_136 hD hQ  7 v22 0 0 u18 u17 h (by have := jk_0; omega) (jr_of rfl (by omega)) (jr_of jk_0 (by omega)) (jr_of jk_0 (by omega)) (jr_of rfl (by omega)) (jr_of rfl (by omega)) (by omega) (jmc S23 rfl (jmw w21)) (jmc S23 rfl (jmo w21 rfl qu18)) (jmc S23 rfl (jmo w21 rfl qu17)) J Sm)
                  ·
                    refine x_aloadn (x := 31) rfl rfl ?_
                    refine x_bipush (v := (-6)) rfl kb_m6 ?_
                    refine x_inv (N := m_X11_refuseTape) (As := [.int (-6)]) (b := 31) (st := []) (dx9 := 5) (mc := 0) (ms := 0) (host := "") 11 rfl t_X11_refuseTape ⟨Or.inl q_11_122, i_X11_refuseTape.1, i_X11_refuseTape.2⟩ ⟨by decide, rfl⟩ (congrArg Prod.fst (J.1.1 31 (11, 13) rfl)) rfl (by decide) rfl rfl ⟨by decide, by decide⟩ (jC.of rfl k_X11_refuseTape rfl ?_)
                    show jX m_X11_refuseTape 5 0 0 0 [(0, .ref 31), (1, .int (-6))] [] _ 0 0 _
                    refine x_aloadn (x := 31) rfl rfl ?_
                    refine z_getR (N := 13) (b := 68) 11 2 rfl f_11_23 rfl J rfl 3970 ⟨rfl, rfl⟩ rfl ?_
                    refine x_iconst (v := 0) rfl ki_0 ?_
                    refine z_putI (N := 6) (w := 0) 9 1 rfl f_11_106 rfl (jfin_no TX9 RX9 6 rfl rfl) hD J Sm rfl rfl jk_0 (pw_68_1 (by omega)) rfl (fun h w24 J Sm => ?_)
                    refine x_aloadn (x := 31) rfl rfl ?_
                    refine x_iloadn (x := (-6)) rfl rfl ?_
                    refine x_inv (N := m_X11_refuse) (As := [.int (-6)]) (b := 31) (st := []) (dx9 := 4) (mc := 0) (ms := 0) (host := "") 11 rfl t_X11_refuse ⟨Or.inl q_11_206, i_X11_refuse.1, i_X11_refuse.2⟩ ⟨by decide, rfl⟩ (congrArg Prod.fst (J.1.1 31 (11, 13) rfl)) rfl (by decide) rfl rfl ⟨by decide, by decide⟩ (jC.of rfl k_X11_refuse rfl ?_)
                    show jX m_X11_refuse 4 0 0 0 [(0, .ref 31), (1, .int (-6))] [] _ 0 0 _
                    refine x_aloadn (x := 31) rfl rfl ?_
                    refine x_iloadn (x := (-6)) rfl rfl ?_
                    refine z_putI (N := 13) (w := (-6)) 11 12 rfl f_11_94 rfl (jfin_no TX11 RX11 13 rfl rfl) hD J Sm rfl rfl jk_m6 (pw_31_12 (by omega)) rfl (fun h w25 J Sm => ?_)
                    refine x_iloadn (x := (-6)) rfl rfl ?_
                    refine x_iret rfl rfl ?_
                    show jX m_X11_refuseTape 5 0 0 13 [(0, .ref 31), (1, .int (-6))] [.int (-6)] _ 0 0 _
                    refine x_iret rfl rfl ?_
                    show jX m_X11_line 6 0 0 93 [(6, .int v19), (0, .ref 31), (1, .int a1), (2, .int a2), (3, .int a3), (4, .int a4), (5, .int a5)] [.int (-6)] _ 0 0 _
                    refine x_iret rfl rfl ?_
                    exact hQ _ _ (jr_of jk_m6 (by omega)) J Sm _ _ (jmo w25 rfl (jmo w24 rfl qu17)) (jmo w25 rfl (jmo w24 rfl qu18)) (by omega) (by have := congrArg Int32.toInt (jmo w25 rfl (jmw w24)); have := jk_0; omega)
                ·
                  refine x_aloadn (x := 31) rfl rfl ?_
                  refine x_bipush (v := (-5)) rfl kb_m5 ?_
                  refine x_inv (N := m_X11_refuseTape) (As := [.int (-5)]) (b := 31) (st := []) (dx9 := 5) (mc := 0) (ms := 0) (host := "") 11 rfl t_X11_refuseTape ⟨Or.inl q_11_122, i_X11_refuseTape.1, i_X11_refuseTape.2⟩ ⟨by decide, rfl⟩ (congrArg Prod.fst (J.1.1 31 (11, 13) rfl)) rfl (by decide) rfl rfl ⟨by decide, by decide⟩ (jC.of rfl k_X11_refuseTape rfl ?_)
                  show jX m_X11_refuseTape 5 0 0 0 [(0, .ref 31), (1, .int (-5))] [] _ 0 0 _
                  refine x_aloadn (x := 31) rfl rfl ?_
                  refine z_getR (N := 13) (b := 68) 11 2 rfl f_11_23 rfl J rfl 3970 ⟨rfl, rfl⟩ rfl ?_
                  refine x_iconst (v := 0) rfl ki_0 ?_
                  refine z_putI (N := 6) (w := 0) 9 1 rfl f_11_106 rfl (jfin_no TX9 RX9 6 rfl rfl) hD J Sm rfl rfl jk_0 (pw_68_1 (by omega)) rfl (fun h w26 J Sm => ?_)
                  refine x_aloadn (x := 31) rfl rfl ?_
                  refine x_iloadn (x := (-5)) rfl rfl ?_
                  refine x_inv (N := m_X11_refuse) (As := [.int (-5)]) (b := 31) (st := []) (dx9 := 4) (mc := 0) (ms := 0) (host := "") 11 rfl t_X11_refuse ⟨Or.inl q_11_206, i_X11_refuse.1, i_X11_refuse.2⟩ ⟨by decide, rfl⟩ (congrArg Prod.fst (J.1.1 31 (11, 13) rfl)) rfl (by decide) rfl rfl ⟨by decide, by decide⟩ (jC.of rfl k_X11_refuse rfl ?_)
                  show jX m_X11_refuse 4 0 0 0 [(0, .ref 31), (1, .int (-5))] [] _ 0 0 _
                  refine x_aloadn (x := 31) rfl rfl ?_
                  refine x_iloadn (x := (-5)) rfl rfl ?_
                  refine z_putI (N := 13) (w := (-5)) 11 12 rfl f_11_94 rfl (jfin_no TX11 RX11 13 rfl rfl) hD J Sm rfl rfl jk_m5 (pw_31_12 (by omega)) rfl (fun h w27 J Sm => ?_)
                  refine x_iloadn (x := (-5)) rfl rfl ?_
                  refine x_iret rfl rfl ?_
                  show jX m_X11_refuseTape 5 0 0 13 [(0, .ref 31), (1, .int (-5))] [.int (-5)] _ 0 0 _
                  refine x_iret rfl rfl ?_
                  show jX m_X11_line 6 0 0 66 [(0, .ref 31), (1, .int a1), (2, .int a2), (3, .int a3), (4, .int a4), (5, .int a5)] [.int (-5)] _ 0 0 _
                  refine x_iret rfl rfl ?_
                  exact hQ _ _ (jr_of jk_m5 (by omega)) J Sm _ _ (jmo w27 rfl (jmo w26 rfl (jmc S12 rfl zp0))) (jmo w27 rfl (jmo w26 rfl (jmc S12 rfl zp1))) (by omega) (by have := congrArg Int32.toInt (jmo w27 rfl (jmw w26)); have := jk_0; omega)
              ·
                exact jX.sub (jsb_c rfl jsb_n) (ct_X11_line_r31p_41 hD hQ  p1 p0 h (jr_of rfl (by omega)) (jr_of rfl (by omega)) (by omega) zp1 zp0 J Sm)
            by_cases c28 : a1.toInt = 3
            ·
              refine x_tableIn (tgt := 40) 3 rfl c28 (by decide) (by decide) rfl rfl ?_
              refine x_iloadn (x := a5) rfl rfl ?_
              refine x_iconst (v := 0) rfl ki_0 ?_
              refine x_ldcw (v := 100000) rfl z_11_531 ?_
              refine x_inst (N := m_X11_isWithin) (As := [.int a5, .int 0, .int 100000]) (st := []) (dx9 := 1) (mc := 0) (ms := 0) (host := "") rfl t_X11_isWithin ⟨Or.inl q_11_202, s_X11_isWithin⟩ rfl (by decide) rfl rfl ⟨by decide, by decide⟩ (zc_X11_isWithin rfl jk_0 jk_100000 (fun v29 ev29 => ?_))
              show jX m_X11_fitsBook 5 0 0 48 [(0, .int a1), (1, .int a5)] [.int v29] _ 0 0 _
              refine x_zret rfl rfl (jz01 (by omega)) ?_
              show jX m_X11_line 6 0 0 38 [(0, .ref 31), (1, .int a1), (2, .int a2), (3, .int a3), (4, .int a4), (5, .int a5)] [.int v29] _ 0 0 _
              refine x_ifne (tgt := 47) rfl rfl (ti_ne rfl jk_0 ⟨fun c30 => ?_, fun c30 => ?_⟩)
              ·
                refine x_aloadn (x := 31) rfl rfl ?_
                refine z_getR (N := 13) (b := 32) 11 0 rfl f_11_10 rfl J rfl 3968 ⟨rfl, rfl⟩ rfl ?_
                refine z_getR (N := 20) (b := 33) 1 0 rfl f_11_126 rfl J rfl 4096 ⟨rfl, rfl⟩ rfl ?_
                refine x_inv (N := m_X8_isFull) (As := []) (b := 33) (st := []) (dx9 := 1) (mc := 0) (ms := 0) (host := "") 8 rfl t_X8_isFull ⟨Or.inl q_11_130, i_X8_isFull.1, i_X8_isFull.2⟩ ⟨by decide, rfl⟩ (congrArg Prod.fst (J.1.1 33 (8, 4) rfl)) rfl (by decide) rfl rfl ⟨by decide, by decide⟩ (sf_X8_isFull_r33  hD J  (fun v32 h ev32 J S31 => ?_))
                have Sm := jSm_tr rfl Sm S31
                show jX m_X11_line 6 0 0 57 [(0, .ref 31), (1, .int a1), (2, .int a2), (3, .int a3), (4, .int a4), (5, .int a5)] [.int v32] _ 0 0 _
                refine x_ifeq (tgt := 67) rfl rfl (ti_eq rfl jk_0 ⟨fun c33 => ?_, fun c33 => ?_⟩)
                ·
                  refine x_aloadn (x := 31) rfl rfl ?_
                  refine z_getR (N := 13) (b := 70) 11 3 rfl f_11_32 rfl J rfl 3971 ⟨rfl, rfl⟩ rfl ?_
                  refine x_gets jst_1 rfl (by decide +kernel) u_11_136 ?_
                  show jX m_X11_line 6 0 0 74 [(0, .ref 31), (1, .int a1), (2, .int a2), (3, .int a3), (4, .int a4), (5, .int a5)] [.ref 1, .ref 70] _ 0 0 _
                  refine x_iloadn (x := a1) rfl rfl ?_
                  refine z_iald (N := 6) rfl J rfl sg_1_0_6_1_0_1 rfl (by omega) (fun v34 qv34 ev34 => ?_)
                  refine x_inv (N := m_X5_readLine) (As := [.int v34]) (b := 70) (st := []) (dx9 := 5) (mc := 0) (ms := 0) (host := "") 5 rfl t_X5_readLine ⟨Or.inl q_11_139, i_X5_readLine.1, i_X5_readLine.2⟩ ⟨by decide, rfl⟩ (congrArg Prod.fst (J.1.1 70 (5, 9) rfl)) rfl (by decide) rfl rfl ⟨by decide, by decide⟩ (sf_X5_readLine_r70 (jr_of rfl (by omega)) hD J (jmc S31 rfl zp0) (jmc S31 rfl zp1) (by omega)  (fun v38 h ev38 J S35 u36 u37 qu36 qu37 ru36 => ?_))
                  have Sm := jSm_tr rfl Sm S35
                  have eu36 := (show 0 ≤ u36.toInt ∧ u36.toInt ≤ 3 from qu36 ▸ jrg_f J sg_68_5_6_1_0_1)
                  have eu37 := (show 0 ≤ u37.toInt ∧ u37.toInt ≤ 400 from qu37 ▸ jrg_f J sg_68_3_4_1_0_1)
                  show jX m_X11_line 6 0 0 79 [(0, .ref 31), (1, .int a1), (2, .int a2), (3, .int a3), (4, .int a4), (5, .int a5)] [.int v38] _ 0 0 _
                  refine x_istore (lsx9 := [(6, .int v38), (0, .ref 31), (1, .int a1), (2, .int a2), (3, .int a3), (4, .int a4), (5, .int a5)]) rfl rfl rfl ?_
                  refine x_iload (x := v38) rfl rfl ?_
                  refine x_iconst (v := (-1)) rfl ki_m1 ?_
                  refine x_icne (tgt := 94) rfl rfl (ti_ne rfl jk_m1 ⟨fun c39 => ?_, fun c39 => ?_⟩)
                  ·
                    refine x_aloadn (x := 31) rfl rfl ?_
                    refine z_getR (N := 13) (b := 68) 11 2 rfl f_11_23 rfl J rfl 3970 ⟨rfl, rfl⟩ rfl ?_
                    refine x_iconst (v := 0) rfl ki_0 ?_
                    refine z_putI (N := 6) (w := 0) 9 1 rfl f_11_106 rfl (jfin_no TX9 RX9 6 rfl rfl) hD J Sm rfl rfl jk_0 (pw_68_1 (by omega)) rfl (fun h w40 J Sm => ?_)
                    refine x_aloadn (x := 31) rfl rfl ?_
                    refine z_getR (N := 13) (b := 32) 11 0 rfl f_11_10 rfl J rfl 3968 ⟨rfl, rfl⟩ rfl ?_
                    refine z_getR (N := 20) (b := 33) 1 0 rfl f_11_126 rfl J rfl 4096 ⟨rfl, rfl⟩ rfl ?_
                    refine z_getI (N := 4) 8 3 rfl f_11_142 rfl J rfl sg_33_3_4_1_0_1 (fun v41 qv41 ev41 => ?_)
                    refine x_istore (lsx9 := [(7, .int v41), (6, .int v38), (0, .ref 31), (1, .int a1), (2, .int a2), (3, .int a3), (4, .int a4), (5, .int a5)]) rfl rfl rfl ?_
                    refine x_aloadn (x := 31) rfl rfl ?_
                    refine z_getR (N := 13) (b := 32) 11 0 rfl f_11_10 rfl J rfl 3968 ⟨rfl, rfl⟩ rfl ?_
                    refine z_getR (N := 20) (b := 33) 1 0 rfl f_11_126 rfl J rfl 4096 ⟨rfl, rfl⟩ rfl ?_
                    refine x_iload (x := a4) rfl rfl ?_
                    refine x_iloadn (x := a3) rfl rfl ?_
                    refine x_iloadn (x := a1) rfl rfl ?_
                    refine x_iloadn (x := a2) rfl rfl ?_
                    refine x_iload (x := a5) rfl rfl ?_
                    refine x_iload (x := v38) rfl rfl ?_
                    refine x_inv (N := m_X8_add) (As := [.int a4, .int a3, .int a1, .int a2, .int a5, .int v38]) (b := 33) (st := []) (dx9 := 2) (mc := 0) (ms := 0) (host := "") 8 rfl t_X8_add ⟨Or.inl q_11_145, i_X8_add.1, i_X8_add.2⟩ ⟨by decide, rfl⟩ (congrArg Prod.fst (J.1.1 33 (8, 4) rfl)) rfl (by decide) rfl rfl ⟨by decide, by decide⟩ (sf_X8_add_r33 (jr_of rfl (by omega)) (jr_of rfl (by omega)) (jr_of rfl (by omega)) (jr_of rfl (by omega)) (jr_of rfl (by omega)) (jr_of rfl (by omega)) hD J  (fun h J S42 => ?_))
                    have Sm := jSm_tr rfl Sm S42
                    show jX m_X11_line 6 0 0 133 [(7, .int v41), (6, .int v38), (0, .ref 31), (1, .int a1), (2, .int a2), (3, .int a3), (4, .int a4), (5, .int a5)] [] _ 0 0 _
                    refine x_iconst (v := 0) rfl ki_0 ?_
                    refine x_istore (lsx9 := [(8, .int 0), (7, .int v41), (6, .int v38), (0, .ref 31), (1, .int a1), (2, .int a2), (3, .int a3), (4, .int a4), (5, .int a5)]) rfl rfl rfl ?_
                    exact jX.sub (jsb_c rfl (jsb_c rfl (jsb_c rfl jsb_n))) (ct_X11_line_r31p_136 hD hQ  7 v41 0 0 u37 u36 h (by have := jk_0; omega) (jr_of rfl (by omega)) (jr_of jk_0 (by omega)) (jr_of jk_0 (by omega)) (jr_of rfl (by omega)) (jr_of rfl (by omega)) (by omega) (jmc S42 rfl (jmw w40)) (jmc S42 rfl (jmo w40 rfl qu37)) (jmc S42 rfl (jmo w40 rfl qu36)) J Sm)
                  ·
                    refine x_aloadn (x := 31) rfl rfl ?_
                    refine x_bipush (v := (-6)) rfl kb_m6 ?_
                    refine x_inv (N := m_X11_refuseTape) (As := [.int (-6)]) (b := 31) (st := []) (dx9 := 5) (mc := 0) (ms := 0) (host := "") 11 rfl t_X11_refuseTape ⟨Or.inl q_11_122, i_X11_refuseTape.1, i_X11_refuseTape.2⟩ ⟨by decide, rfl⟩ (congrArg Prod.fst (J.1.1 31 (11, 13) rfl)) rfl (by decide) rfl rfl ⟨by decide, by decide⟩ (jC.of rfl k_X11_refuseTape rfl ?_)
                    show jX m_X11_refuseTape 5 0 0 0 [(0, .ref 31), (1, .int (-6))] [] _ 0 0 _
                    refine x_aloadn (x := 31) rfl rfl ?_
                    refine z_getR (N := 13) (b := 68) 11 2 rfl f_11_23 rfl J rfl 3970 ⟨rfl, rfl⟩ rfl ?_
                    refine x_iconst (v := 0) rfl ki_0 ?_
                    refine z_putI (N := 6) (w := 0) 9 1 rfl f_11_106 rfl (jfin_no TX9 RX9 6 rfl rfl) hD J Sm rfl rfl jk_0 (pw_68_1 (by omega)) rfl (fun h w43 J Sm => ?_)
                    refine x_aloadn (x := 31) rfl rfl ?_
                    refine x_iloadn (x := (-6)) rfl rfl ?_
                    refine x_inv (N := m_X11_refuse) (As := [.int (-6)]) (b := 31) (st := []) (dx9 := 4) (mc := 0) (ms := 0) (host := "") 11 rfl t_X11_refuse ⟨Or.inl q_11_206, i_X11_refuse.1, i_X11_refuse.2⟩ ⟨by decide, rfl⟩ (congrArg Prod.fst (J.1.1 31 (11, 13) rfl)) rfl (by decide) rfl rfl ⟨by decide, by decide⟩ (jC.of rfl k_X11_refuse rfl ?_)
                    show jX m_X11_refuse 4 0 0 0 [(0, .ref 31), (1, .int (-6))] [] _ 0 0 _
                    refine x_aloadn (x := 31) rfl rfl ?_
                    refine x_iloadn (x := (-6)) rfl rfl ?_
                    refine z_putI (N := 13) (w := (-6)) 11 12 rfl f_11_94 rfl (jfin_no TX11 RX11 13 rfl rfl) hD J Sm rfl rfl jk_m6 (pw_31_12 (by omega)) rfl (fun h w44 J Sm => ?_)
                    refine x_iloadn (x := (-6)) rfl rfl ?_
                    refine x_iret rfl rfl ?_
                    show jX m_X11_refuseTape 5 0 0 13 [(0, .ref 31), (1, .int (-6))] [.int (-6)] _ 0 0 _
                    refine x_iret rfl rfl ?_
                    show jX m_X11_line 6 0 0 93 [(6, .int v38), (0, .ref 31), (1, .int a1), (2, .int a2), (3, .int a3), (4, .int a4), (5, .int a5)] [.int (-6)] _ 0 0 _
                    refine x_iret rfl rfl ?_
                    exact hQ _ _ (jr_of jk_m6 (by omega)) J Sm _ _ (jmo w44 rfl (jmo w43 rfl qu36)) (jmo w44 rfl (jmo w43 rfl qu37)) (by omega) (by have := congrArg Int32.toInt (jmo w44 rfl (jmw w43)); have := jk_0; omega)
                ·
                  refine x_aloadn (x := 31) rfl rfl ?_
                  refine x_bipush (v := (-5)) rfl kb_m5 ?_
                  refine x_inv (N := m_X11_refuseTape) (As := [.int (-5)]) (b := 31) (st := []) (dx9 := 5) (mc := 0) (ms := 0) (host := "") 11 rfl t_X11_refuseTape ⟨Or.inl q_11_122, i_X11_refuseTape.1, i_X11_refuseTape.2⟩ ⟨by decide, rfl⟩ (congrArg Prod.fst (J.1.1 31 (11, 13) rfl)) rfl (by decide) rfl rfl ⟨by decide, by decide⟩ (jC.of rfl k_X11_refuseTape rfl ?_)
                  show jX m_X11_refuseTape 5 0 0 0 [(0, .ref 31), (1, .int (-5))] [] _ 0 0 _
                  refine x_aloadn (x := 31) rfl rfl ?_
                  refine z_getR (N := 13) (b := 68) 11 2 rfl f_11_23 rfl J rfl 3970 ⟨rfl, rfl⟩ rfl ?_
                  refine x_iconst (v := 0) rfl ki_0 ?_
                  refine z_putI (N := 6) (w := 0) 9 1 rfl f_11_106 rfl (jfin_no TX9 RX9 6 rfl rfl) hD J Sm rfl rfl jk_0 (pw_68_1 (by omega)) rfl (fun h w45 J Sm => ?_)
                  refine x_aloadn (x := 31) rfl rfl ?_
                  refine x_iloadn (x := (-5)) rfl rfl ?_
                  refine x_inv (N := m_X11_refuse) (As := [.int (-5)]) (b := 31) (st := []) (dx9 := 4) (mc := 0) (ms := 0) (host := "") 11 rfl t_X11_refuse ⟨Or.inl q_11_206, i_X11_refuse.1, i_X11_refuse.2⟩ ⟨by decide, rfl⟩ (congrArg Prod.fst (J.1.1 31 (11, 13) rfl)) rfl (by decide) rfl rfl ⟨by decide, by decide⟩ (jC.of rfl k_X11_refuse rfl ?_)
                  show jX m_X11_refuse 4 0 0 0 [(0, .ref 31), (1, .int (-5))] [] _ 0 0 _
                  refine x_aloadn (x := 31) rfl rfl ?_
                  refine x_iloadn (x := (-5)) rfl rfl ?_
                  refine z_putI (N := 13) (w := (-5)) 11 12 rfl f_11_94 rfl (jfin_no TX11 RX11 13 rfl rfl) hD J Sm rfl rfl jk_m5 (pw_31_12 (by omega)) rfl (fun h w46 J Sm => ?_)
                  refine x_iloadn (x := (-5)) rfl rfl ?_
                  refine x_iret rfl rfl ?_
                  show jX m_X11_refuseTape 5 0 0 13 [(0, .ref 31), (1, .int (-5))] [.int (-5)] _ 0 0 _
                  refine x_iret rfl rfl ?_
                  show jX m_X11_line 6 0 0 66 [(0, .ref 31), (1, .int a1), (2, .int a2), (3, .int a3), (4, .int a4), (5, .int a5)] [.int (-5)] _ 0 0 _
                  refine x_iret rfl rfl ?_
                  exact hQ _ _ (jr_of jk_m5 (by omega)) J Sm _ _ (jmo w46 rfl (jmo w45 rfl (jmc S31 rfl zp0))) (jmo w46 rfl (jmo w45 rfl (jmc S31 rfl zp1))) (by omega) (by have := congrArg Int32.toInt (jmo w46 rfl (jmw w45)); have := jk_0; omega)
              ·
                exact jX.sub (jsb_c rfl jsb_n) (ct_X11_line_r31p_41 hD hQ  p1 p0 h (jr_of rfl (by omega)) (jr_of rfl (by omega)) (by omega) zp1 zp0 J Sm)
            by_cases c47 : a1.toInt = 4
            ·
              refine x_tableIn (tgt := 40) 4 rfl c47 (by decide) (by decide) rfl rfl ?_
              refine x_iloadn (x := a5) rfl rfl ?_
              refine x_iconst (v := 0) rfl ki_0 ?_
              refine x_ldcw (v := 100000) rfl z_11_531 ?_
              refine x_inst (N := m_X11_isWithin) (As := [.int a5, .int 0, .int 100000]) (st := []) (dx9 := 1) (mc := 0) (ms := 0) (host := "") rfl t_X11_isWithin ⟨Or.inl q_11_202, s_X11_isWithin⟩ rfl (by decide) rfl rfl ⟨by decide, by decide⟩ (zc_X11_isWithin rfl jk_0 jk_100000 (fun v48 ev48 => ?_))
              show jX m_X11_fitsBook 5 0 0 48 [(0, .int a1), (1, .int a5)] [.int v48] _ 0 0 _
              refine x_zret rfl rfl (jz01 (by omega)) ?_
              show jX m_X11_line 6 0 0 38 [(0, .ref 31), (1, .int a1), (2, .int a2), (3, .int a3), (4, .int a4), (5, .int a5)] [.int v48] _ 0 0 _
              refine x_ifne (tgt := 47) rfl rfl (ti_ne rfl jk_0 ⟨fun c49 => ?_, fun c49 => ?_⟩)
              ·
                refine x_aloadn (x := 31) rfl rfl ?_
                refine z_getR (N := 13) (b := 32) 11 0 rfl f_11_10 rfl J rfl 3968 ⟨rfl, rfl⟩ rfl ?_
                refine z_getR (N := 20) (b := 33) 1 0 rfl f_11_126 rfl J rfl 4096 ⟨rfl, rfl⟩ rfl ?_
                refine x_inv (N := m_X8_isFull) (As := []) (b := 33) (st := []) (dx9 := 1) (mc := 0) (ms := 0) (host := "") 8 rfl t_X8_isFull ⟨Or.inl q_11_130, i_X8_isFull.1, i_X8_isFull.2⟩ ⟨by decide, rfl⟩ (congrArg Prod.fst (J.1.1 33 (8, 4) rfl)) rfl (by decide) rfl rfl ⟨by decide, by decide⟩ (sf_X8_isFull_r33  hD J  (fun v51 h ev51 J S50 => ?_))
                have Sm := jSm_tr rfl Sm S50
                show jX m_X11_line 6 0 0 57 [(0, .ref 31), (1, .int a1), (2, .int a2), (3, .int a3), (4, .int a4), (5, .int a5)] [.int v51] _ 0 0 _
                refine x_ifeq (tgt := 67) rfl rfl (ti_eq rfl jk_0 ⟨fun c52 => ?_, fun c52 => ?_⟩)
                ·
                  refine x_aloadn (x := 31) rfl rfl ?_
                  refine z_getR (N := 13) (b := 70) 11 3 rfl f_11_32 rfl J rfl 3971 ⟨rfl, rfl⟩ rfl ?_
                  refine x_gets jst_1 rfl (by decide +kernel) u_11_136 ?_
                  show jX m_X11_line 6 0 0 74 [(0, .ref 31), (1, .int a1), (2, .int a2), (3, .int a3), (4, .int a4), (5, .int a5)] [.ref 1, .ref 70] _ 0 0 _
                  refine x_iloadn (x := a1) rfl rfl ?_
                  refine z_iald (N := 6) rfl J rfl sg_1_0_6_1_0_1 rfl (by omega) (fun v53 qv53 ev53 => ?_)
                  refine x_inv (N := m_X5_readLine) (As := [.int v53]) (b := 70) (st := []) (dx9 := 5) (mc := 0) (ms := 0) (host := "") 5 rfl t_X5_readLine ⟨Or.inl q_11_139, i_X5_readLine.1, i_X5_readLine.2⟩ ⟨by decide, rfl⟩ (congrArg Prod.fst (J.1.1 70 (5, 9) rfl)) rfl (by decide) rfl rfl ⟨by decide, by decide⟩ (sf_X5_readLine_r70 (jr_of rfl (by omega)) hD J (jmc S50 rfl zp0) (jmc S50 rfl zp1) (by omega)  (fun v57 h ev57 J S54 u55 u56 qu55 qu56 ru55 => ?_))
                  have Sm := jSm_tr rfl Sm S54
                  have eu55 := (show 0 ≤ u55.toInt ∧ u55.toInt ≤ 3 from qu55 ▸ jrg_f J sg_68_5_6_1_0_1)
                  have eu56 := (show 0 ≤ u56.toInt ∧ u56.toInt ≤ 400 from qu56 ▸ jrg_f J sg_68_3_4_1_0_1)
                  show jX m_X11_line 6 0 0 79 [(0, .ref 31), (1, .int a1), (2, .int a2), (3, .int a3), (4, .int a4), (5, .int a5)] [.int v57] _ 0 0 _
                  refine x_istore (lsx9 := [(6, .int v57), (0, .ref 31), (1, .int a1), (2, .int a2), (3, .int a3), (4, .int a4), (5, .int a5)]) rfl rfl rfl ?_
                  refine x_iload (x := v57) rfl rfl ?_
                  refine x_iconst (v := (-1)) rfl ki_m1 ?_
                  refine x_icne (tgt := 94) rfl rfl (ti_ne rfl jk_m1 ⟨fun c58 => ?_, fun c58 => ?_⟩)
                  ·
                    refine x_aloadn (x := 31) rfl rfl ?_
                    refine z_getR (N := 13) (b := 68) 11 2 rfl f_11_23 rfl J rfl 3970 ⟨rfl, rfl⟩ rfl ?_
                    refine x_iconst (v := 0) rfl ki_0 ?_
                    refine z_putI (N := 6) (w := 0) 9 1 rfl f_11_106 rfl (jfin_no TX9 RX9 6 rfl rfl) hD J Sm rfl rfl jk_0 (pw_68_1 (by omega)) rfl (fun h w59 J Sm => ?_)
                    refine x_aloadn (x := 31) rfl rfl ?_
                    refine z_getR (N := 13) (b := 32) 11 0 rfl f_11_10 rfl J rfl 3968 ⟨rfl, rfl⟩ rfl ?_
                    refine z_getR (N := 20) (b := 33) 1 0 rfl f_11_126 rfl J rfl 4096 ⟨rfl, rfl⟩ rfl ?_
                    refine z_getI (N := 4) 8 3 rfl f_11_142 rfl J rfl sg_33_3_4_1_0_1 (fun v60 qv60 ev60 => ?_)
                    refine x_istore (lsx9 := [(7, .int v60), (6, .int v57), (0, .ref 31), (1, .int a1), (2, .int a2), (3, .int a3), (4, .int a4), (5, .int a5)]) rfl rfl rfl ?_
                    refine x_aloadn (x := 31) rfl rfl ?_
                    refine z_getR (N := 13) (b := 32) 11 0 rfl f_11_10 rfl J rfl 3968 ⟨rfl, rfl⟩ rfl ?_
                    refine z_getR (N := 20) (b := 33) 1 0 rfl f_11_126 rfl J rfl 4096 ⟨rfl, rfl⟩ rfl ?_
                    refine x_iload (x := a4) rfl rfl ?_
                    refine x_iloadn (x := a3) rfl rfl ?_
                    refine x_iloadn (x := a1) rfl rfl ?_
                    refine x_iloadn (x := a2) rfl rfl ?_
                    refine x_iload (x := a5) rfl rfl ?_
                    refine x_iload (x := v57) rfl rfl ?_
                    refine x_inv (N := m_X8_add) (As := [.int a4, .int a3, .int a1, .int a2, .int a5, .int v57]) (b := 33) (st := []) (dx9 := 2) (mc := 0) (ms := 0) (host := "") 8 rfl t_X8_add ⟨Or.inl q_11_145, i_X8_add.1, i_X8_add.2⟩ ⟨by decide, rfl⟩ (congrArg Prod.fst (J.1.1 33 (8, 4) rfl)) rfl (by decide) rfl rfl ⟨by decide, by decide⟩ (sf_X8_add_r33 (jr_of rfl (by omega)) (jr_of rfl (by omega)) (jr_of rfl (by omega)) (jr_of rfl (by omega)) (jr_of rfl (by omega)) (jr_of rfl (by omega)) hD J  (fun h J S61 => ?_))
                    have Sm := jSm_tr rfl Sm S61
                    show jX m_X11_line 6 0 0 133 [(7, .int v60), (6, .int v57), (0, .ref 31), (1, .int a1), (2, .int a2), (3, .int a3), (4, .int a4), (5, .int a5)] [] _ 0 0 _
                    refine x_iconst (v := 0) rfl ki_0 ?_
                    refine x_istore (lsx9 := [(8, .int 0), (7, .int v60), (6, .int v57), (0, .ref 31), (1, .int a1), (2, .int a2), (3, .int a3), (4, .int a4), (5, .int a5)]) rfl rfl rfl ?_
                    exact jX.sub (jsb_c rfl (jsb_c rfl (jsb_c rfl jsb_n))) (ct_X11_line_r31p_136 hD hQ  7 v60 0 0 u56 u55 h (by have := jk_0; omega) (jr_of rfl (by omega)) (jr_of jk_0 (by omega)) (jr_of jk_0 (by omega)) (jr_of rfl (by omega)) (jr_of rfl (by omega)) (by omega) (jmc S61 rfl (jmw w59)) (jmc S61 rfl (jmo w59 rfl qu56)) (jmc S61 rfl (jmo w59 rfl qu55)) J Sm)
                  ·
                    refine x_aloadn (x := 31) rfl rfl ?_
                    refine x_bipush (v := (-6)) rfl kb_m6 ?_
                    refine x_inv (N := m_X11_refuseTape) (As := [.int (-6)]) (b := 31) (st := []) (dx9 := 5) (mc := 0) (ms := 0) (host := "") 11 rfl t_X11_refuseTape ⟨Or.inl q_11_122, i_X11_refuseTape.1, i_X11_refuseTape.2⟩ ⟨by decide, rfl⟩ (congrArg Prod.fst (J.1.1 31 (11, 13) rfl)) rfl (by decide) rfl rfl ⟨by decide, by decide⟩ (jC.of rfl k_X11_refuseTape rfl ?_)
                    show jX m_X11_refuseTape 5 0 0 0 [(0, .ref 31), (1, .int (-6))] [] _ 0 0 _
                    refine x_aloadn (x := 31) rfl rfl ?_
                    refine z_getR (N := 13) (b := 68) 11 2 rfl f_11_23 rfl J rfl 3970 ⟨rfl, rfl⟩ rfl ?_
                    refine x_iconst (v := 0) rfl ki_0 ?_
                    refine z_putI (N := 6) (w := 0) 9 1 rfl f_11_106 rfl (jfin_no TX9 RX9 6 rfl rfl) hD J Sm rfl rfl jk_0 (pw_68_1 (by omega)) rfl (fun h w62 J Sm => ?_)
                    refine x_aloadn (x := 31) rfl rfl ?_
                    refine x_iloadn (x := (-6)) rfl rfl ?_
                    refine x_inv (N := m_X11_refuse) (As := [.int (-6)]) (b := 31) (st := []) (dx9 := 4) (mc := 0) (ms := 0) (host := "") 11 rfl t_X11_refuse ⟨Or.inl q_11_206, i_X11_refuse.1, i_X11_refuse.2⟩ ⟨by decide, rfl⟩ (congrArg Prod.fst (J.1.1 31 (11, 13) rfl)) rfl (by decide) rfl rfl ⟨by decide, by decide⟩ (jC.of rfl k_X11_refuse rfl ?_)
                    show jX m_X11_refuse 4 0 0 0 [(0, .ref 31), (1, .int (-6))] [] _ 0 0 _
                    refine x_aloadn (x := 31) rfl rfl ?_
                    refine x_iloadn (x := (-6)) rfl rfl ?_
                    refine z_putI (N := 13) (w := (-6)) 11 12 rfl f_11_94 rfl (jfin_no TX11 RX11 13 rfl rfl) hD J Sm rfl rfl jk_m6 (pw_31_12 (by omega)) rfl (fun h w63 J Sm => ?_)
                    refine x_iloadn (x := (-6)) rfl rfl ?_
                    refine x_iret rfl rfl ?_
                    show jX m_X11_refuseTape 5 0 0 13 [(0, .ref 31), (1, .int (-6))] [.int (-6)] _ 0 0 _
                    refine x_iret rfl rfl ?_
                    show jX m_X11_line 6 0 0 93 [(6, .int v57), (0, .ref 31), (1, .int a1), (2, .int a2), (3, .int a3), (4, .int a4), (5, .int a5)] [.int (-6)] _ 0 0 _
                    refine x_iret rfl rfl ?_
                    exact hQ _ _ (jr_of jk_m6 (by omega)) J Sm _ _ (jmo w63 rfl (jmo w62 rfl qu55)) (jmo w63 rfl (jmo w62 rfl qu56)) (by omega) (by have := congrArg Int32.toInt (jmo w63 rfl (jmw w62)); have := jk_0; omega)
                ·
                  refine x_aloadn (x := 31) rfl rfl ?_
                  refine x_bipush (v := (-5)) rfl kb_m5 ?_
                  refine x_inv (N := m_X11_refuseTape) (As := [.int (-5)]) (b := 31) (st := []) (dx9 := 5) (mc := 0) (ms := 0) (host := "") 11 rfl t_X11_refuseTape ⟨Or.inl q_11_122, i_X11_refuseTape.1, i_X11_refuseTape.2⟩ ⟨by decide, rfl⟩ (congrArg Prod.fst (J.1.1 31 (11, 13) rfl)) rfl (by decide) rfl rfl ⟨by decide, by decide⟩ (jC.of rfl k_X11_refuseTape rfl ?_)
                  show jX m_X11_refuseTape 5 0 0 0 [(0, .ref 31), (1, .int (-5))] [] _ 0 0 _
                  refine x_aloadn (x := 31) rfl rfl ?_
                  refine z_getR (N := 13) (b := 68) 11 2 rfl f_11_23 rfl J rfl 3970 ⟨rfl, rfl⟩ rfl ?_
                  refine x_iconst (v := 0) rfl ki_0 ?_
                  refine z_putI (N := 6) (w := 0) 9 1 rfl f_11_106 rfl (jfin_no TX9 RX9 6 rfl rfl) hD J Sm rfl rfl jk_0 (pw_68_1 (by omega)) rfl (fun h w64 J Sm => ?_)
                  refine x_aloadn (x := 31) rfl rfl ?_
                  refine x_iloadn (x := (-5)) rfl rfl ?_
                  refine x_inv (N := m_X11_refuse) (As := [.int (-5)]) (b := 31) (st := []) (dx9 := 4) (mc := 0) (ms := 0) (host := "") 11 rfl t_X11_refuse ⟨Or.inl q_11_206, i_X11_refuse.1, i_X11_refuse.2⟩ ⟨by decide, rfl⟩ (congrArg Prod.fst (J.1.1 31 (11, 13) rfl)) rfl (by decide) rfl rfl ⟨by decide, by decide⟩ (jC.of rfl k_X11_refuse rfl ?_)
                  show jX m_X11_refuse 4 0 0 0 [(0, .ref 31), (1, .int (-5))] [] _ 0 0 _
                  refine x_aloadn (x := 31) rfl rfl ?_
                  refine x_iloadn (x := (-5)) rfl rfl ?_
                  refine z_putI (N := 13) (w := (-5)) 11 12 rfl f_11_94 rfl (jfin_no TX11 RX11 13 rfl rfl) hD J Sm rfl rfl jk_m5 (pw_31_12 (by omega)) rfl (fun h w65 J Sm => ?_)
                  refine x_iloadn (x := (-5)) rfl rfl ?_
                  refine x_iret rfl rfl ?_
                  show jX m_X11_refuseTape 5 0 0 13 [(0, .ref 31), (1, .int (-5))] [.int (-5)] _ 0 0 _
                  refine x_iret rfl rfl ?_
                  show jX m_X11_line 6 0 0 66 [(0, .ref 31), (1, .int a1), (2, .int a2), (3, .int a3), (4, .int a4), (5, .int a5)] [.int (-5)] _ 0 0 _
                  refine x_iret rfl rfl ?_
                  exact hQ _ _ (jr_of jk_m5 (by omega)) J Sm _ _ (jmo w65 rfl (jmo w64 rfl (jmc S50 rfl zp0))) (jmo w65 rfl (jmo w64 rfl (jmc S50 rfl zp1))) (by omega) (by have := congrArg Int32.toInt (jmo w65 rfl (jmw w64)); have := jk_0; omega)
              ·
                exact jX.sub (jsb_c rfl jsb_n) (ct_X11_line_r31p_41 hD hQ  p1 p0 h (jr_of rfl (by omega)) (jr_of rfl (by omega)) (by omega) zp1 zp0 J Sm)
            by_cases c66 : a1.toInt = 5
            ·
              refine x_tableIn (tgt := 49) 5 rfl c66 (by decide) (by decide) rfl rfl ?_
              refine x_iloadn (x := a5) rfl rfl ?_
              refine x_iconst (v := 1) rfl ki_1 ?_
              refine x_bipush (v := 11) rfl kb_11 ?_
              refine x_inst (N := m_X11_isWithin) (As := [.int a5, .int 1, .int 11]) (st := []) (dx9 := 1) (mc := 0) (ms := 0) (host := "") rfl t_X11_isWithin ⟨Or.inl q_11_202, s_X11_isWithin⟩ rfl (by decide) rfl rfl ⟨by decide, by decide⟩ (zc_X11_isWithin rfl jk_1 jk_11 (fun v67 ev67 => ?_))
              show jX m_X11_fitsBook 5 0 0 56 [(0, .int a1), (1, .int a5)] [.int v67] _ 0 0 _
              refine x_zret rfl rfl (jz01 (by omega)) ?_
              show jX m_X11_line 6 0 0 38 [(0, .ref 31), (1, .int a1), (2, .int a2), (3, .int a3), (4, .int a4), (5, .int a5)] [.int v67] _ 0 0 _
              refine x_ifne (tgt := 47) rfl rfl (ti_ne rfl jk_0 ⟨fun c68 => ?_, fun c68 => ?_⟩)
              ·
                refine x_aloadn (x := 31) rfl rfl ?_
                refine z_getR (N := 13) (b := 32) 11 0 rfl f_11_10 rfl J rfl 3968 ⟨rfl, rfl⟩ rfl ?_
                refine z_getR (N := 20) (b := 33) 1 0 rfl f_11_126 rfl J rfl 4096 ⟨rfl, rfl⟩ rfl ?_
                refine x_inv (N := m_X8_isFull) (As := []) (b := 33) (st := []) (dx9 := 1) (mc := 0) (ms := 0) (host := "") 8 rfl t_X8_isFull ⟨Or.inl q_11_130, i_X8_isFull.1, i_X8_isFull.2⟩ ⟨by decide, rfl⟩ (congrArg Prod.fst (J.1.1 33 (8, 4) rfl)) rfl (by decide) rfl rfl ⟨by decide, by decide⟩ (sf_X8_isFull_r33  hD J  (fun v70 h ev70 J S69 => ?_))
                have Sm := jSm_tr rfl Sm S69
                show jX m_X11_line 6 0 0 57 [(0, .ref 31), (1, .int a1), (2, .int a2), (3, .int a3), (4, .int a4), (5, .int a5)] [.int v70] _ 0 0 _
                refine x_ifeq (tgt := 67) rfl rfl (ti_eq rfl jk_0 ⟨fun c71 => ?_, fun c71 => ?_⟩)
                ·
                  refine x_aloadn (x := 31) rfl rfl ?_
                  refine z_getR (N := 13) (b := 70) 11 3 rfl f_11_32 rfl J rfl 3971 ⟨rfl, rfl⟩ rfl ?_
                  refine x_gets jst_1 rfl (by decide +kernel) u_11_136 ?_
                  show jX m_X11_line 6 0 0 74 [(0, .ref 31), (1, .int a1), (2, .int a2), (3, .int a3), (4, .int a4), (5, .int a5)] [.ref 1, .ref 70] _ 0 0 _
                  refine x_iloadn (x := a1) rfl rfl ?_
                  refine z_iald (N := 6) rfl J rfl sg_1_0_6_1_0_1 rfl (by omega) (fun v72 qv72 ev72 => ?_)
                  refine x_inv (N := m_X5_readLine) (As := [.int v72]) (b := 70) (st := []) (dx9 := 5) (mc := 0) (ms := 0) (host := "") 5 rfl t_X5_readLine ⟨Or.inl q_11_139, i_X5_readLine.1, i_X5_readLine.2⟩ ⟨by decide, rfl⟩ (congrArg Prod.fst (J.1.1 70 (5, 9) rfl)) rfl (by decide) rfl rfl ⟨by decide, by decide⟩ (sf_X5_readLine_r70 (jr_of rfl (by omega)) hD J (jmc S69 rfl zp0) (jmc S69 rfl zp1) (by omega)  (fun v76 h ev76 J S73 u74 u75 qu74 qu75 ru74 => ?_))
                  have Sm := jSm_tr rfl Sm S73
                  have eu74 := (show 0 ≤ u74.toInt ∧ u74.toInt ≤ 3 from qu74 ▸ jrg_f J sg_68_5_6_1_0_1)
                  have eu75 := (show 0 ≤ u75.toInt ∧ u75.toInt ≤ 400 from qu75 ▸ jrg_f J sg_68_3_4_1_0_1)
                  show jX m_X11_line 6 0 0 79 [(0, .ref 31), (1, .int a1), (2, .int a2), (3, .int a3), (4, .int a4), (5, .int a5)] [.int v76] _ 0 0 _
                  refine x_istore (lsx9 := [(6, .int v76), (0, .ref 31), (1, .int a1), (2, .int a2), (3, .int a3), (4, .int a4), (5, .int a5)]) rfl rfl rfl ?_
                  refine x_iload (x := v76) rfl rfl ?_
                  refine x_iconst (v := (-1)) rfl ki_m1 ?_
                  refine x_icne (tgt := 94) rfl rfl (ti_ne rfl jk_m1 ⟨fun c77 => ?_, fun c77 => ?_⟩)
                  ·
                    refine x_aloadn (x := 31) rfl rfl ?_
                    refine z_getR (N := 13) (b := 68) 11 2 rfl f_11_23 rfl J rfl 3970 ⟨rfl, rfl⟩ rfl ?_
                    refine x_iconst (v := 0) rfl ki_0 ?_
                    refine z_putI (N := 6) (w := 0) 9 1 rfl f_11_106 rfl (jfin_no TX9 RX9 6 rfl rfl) hD J Sm rfl rfl jk_0 (pw_68_1 (by omega)) rfl (fun h w78 J Sm => ?_)
                    refine x_aloadn (x := 31) rfl rfl ?_
                    refine z_getR (N := 13) (b := 32) 11 0 rfl f_11_10 rfl J rfl 3968 ⟨rfl, rfl⟩ rfl ?_
                    refine z_getR (N := 20) (b := 33) 1 0 rfl f_11_126 rfl J rfl 4096 ⟨rfl, rfl⟩ rfl ?_
                    refine z_getI (N := 4) 8 3 rfl f_11_142 rfl J rfl sg_33_3_4_1_0_1 (fun v79 qv79 ev79 => ?_)
                    refine x_istore (lsx9 := [(7, .int v79), (6, .int v76), (0, .ref 31), (1, .int a1), (2, .int a2), (3, .int a3), (4, .int a4), (5, .int a5)]) rfl rfl rfl ?_
                    refine x_aloadn (x := 31) rfl rfl ?_
                    refine z_getR (N := 13) (b := 32) 11 0 rfl f_11_10 rfl J rfl 3968 ⟨rfl, rfl⟩ rfl ?_
                    refine z_getR (N := 20) (b := 33) 1 0 rfl f_11_126 rfl J rfl 4096 ⟨rfl, rfl⟩ rfl ?_
                    refine x_iload (x := a4) rfl rfl ?_
                    refine x_iloadn (x := a3) rfl rfl ?_
                    refine x_iloadn (x := a1) rfl rfl ?_
                    refine x_iloadn (x := a2) rfl rfl ?_
                    refine x_iload (x := a5) rfl rfl ?_
                    refine x_iload (x := v76) rfl rfl ?_
                    refine x_inv (N := m_X8_add) (As := [.int a4, .int a3, .int a1, .int a2, .int a5, .int v76]) (b := 33) (st := []) (dx9 := 2) (mc := 0) (ms := 0) (host := "") 8 rfl t_X8_add ⟨Or.inl q_11_145, i_X8_add.1, i_X8_add.2⟩ ⟨by decide, rfl⟩ (congrArg Prod.fst (J.1.1 33 (8, 4) rfl)) rfl (by decide) rfl rfl ⟨by decide, by decide⟩ (sf_X8_add_r33 (jr_of rfl (by omega)) (jr_of rfl (by omega)) (jr_of rfl (by omega)) (jr_of rfl (by omega)) (jr_of rfl (by omega)) (jr_of rfl (by omega)) hD J  (fun h J S80 => ?_))
                    have Sm := jSm_tr rfl Sm S80
                    show jX m_X11_line 6 0 0 133 [(7, .int v79), (6, .int v76), (0, .ref 31), (1, .int a1), (2, .int a2), (3, .int a3), (4, .int a4), (5, .int a5)] [] _ 0 0 _
                    refine x_iconst (v := 0) rfl ki_0 ?_
                    refine x_istore (lsx9 := [(8, .int 0), (7, .int v79), (6, .int v76), (0, .ref 31), (1, .int a1), (2, .int a2), (3, .int a3), (4, .int a4), (5, .int a5)]) rfl rfl rfl ?_
                    exact jX.sub (jsb_c rfl (jsb_c rfl (jsb_c rfl jsb_n))) (ct_X11_line_r31p_136 hD hQ  7 v79 0 0 u75 u74 h (by have := jk_0; omega) (jr_of rfl (by omega)) (jr_of jk_0 (by omega)) (jr_of jk_0 (by omega)) (jr_of rfl (by omega)) (jr_of rfl (by omega)) (by omega) (jmc S80 rfl (jmw w78)) (jmc S80 rfl (jmo w78 rfl qu75)) (jmc S80 rfl (jmo w78 rfl qu74)) J Sm)
                  ·
                    refine x_aloadn (x := 31) rfl rfl ?_
                    refine x_bipush (v := (-6)) rfl kb_m6 ?_
                    refine x_inv (N := m_X11_refuseTape) (As := [.int (-6)]) (b := 31) (st := []) (dx9 := 5) (mc := 0) (ms := 0) (host := "") 11 rfl t_X11_refuseTape ⟨Or.inl q_11_122, i_X11_refuseTape.1, i_X11_refuseTape.2⟩ ⟨by decide, rfl⟩ (congrArg Prod.fst (J.1.1 31 (11, 13) rfl)) rfl (by decide) rfl rfl ⟨by decide, by decide⟩ (jC.of rfl k_X11_refuseTape rfl ?_)
                    show jX m_X11_refuseTape 5 0 0 0 [(0, .ref 31), (1, .int (-6))] [] _ 0 0 _
                    refine x_aloadn (x := 31) rfl rfl ?_
                    refine z_getR (N := 13) (b := 68) 11 2 rfl f_11_23 rfl J rfl 3970 ⟨rfl, rfl⟩ rfl ?_
                    refine x_iconst (v := 0) rfl ki_0 ?_
                    refine z_putI (N := 6) (w := 0) 9 1 rfl f_11_106 rfl (jfin_no TX9 RX9 6 rfl rfl) hD J Sm rfl rfl jk_0 (pw_68_1 (by omega)) rfl (fun h w81 J Sm => ?_)
                    refine x_aloadn (x := 31) rfl rfl ?_
                    refine x_iloadn (x := (-6)) rfl rfl ?_
                    refine x_inv (N := m_X11_refuse) (As := [.int (-6)]) (b := 31) (st := []) (dx9 := 4) (mc := 0) (ms := 0) (host := "") 11 rfl t_X11_refuse ⟨Or.inl q_11_206, i_X11_refuse.1, i_X11_refuse.2⟩ ⟨by decide, rfl⟩ (congrArg Prod.fst (J.1.1 31 (11, 13) rfl)) rfl (by decide) rfl rfl ⟨by decide, by decide⟩ (jC.of rfl k_X11_refuse rfl ?_)
                    show jX m_X11_refuse 4 0 0 0 [(0, .ref 31), (1, .int (-6))] [] _ 0 0 _
                    refine x_aloadn (x := 31) rfl rfl ?_
                    refine x_iloadn (x := (-6)) rfl rfl ?_
                    refine z_putI (N := 13) (w := (-6)) 11 12 rfl f_11_94 rfl (jfin_no TX11 RX11 13 rfl rfl) hD J Sm rfl rfl jk_m6 (pw_31_12 (by omega)) rfl (fun h w82 J Sm => ?_)
                    refine x_iloadn (x := (-6)) rfl rfl ?_
                    refine x_iret rfl rfl ?_
                    show jX m_X11_refuseTape 5 0 0 13 [(0, .ref 31), (1, .int (-6))] [.int (-6)] _ 0 0 _
                    refine x_iret rfl rfl ?_
                    show jX m_X11_line 6 0 0 93 [(6, .int v76), (0, .ref 31), (1, .int a1), (2, .int a2), (3, .int a3), (4, .int a4), (5, .int a5)] [.int (-6)] _ 0 0 _
                    refine x_iret rfl rfl ?_
                    exact hQ _ _ (jr_of jk_m6 (by omega)) J Sm _ _ (jmo w82 rfl (jmo w81 rfl qu74)) (jmo w82 rfl (jmo w81 rfl qu75)) (by omega) (by have := congrArg Int32.toInt (jmo w82 rfl (jmw w81)); have := jk_0; omega)
                ·
                  refine x_aloadn (x := 31) rfl rfl ?_
                  refine x_bipush (v := (-5)) rfl kb_m5 ?_
                  refine x_inv (N := m_X11_refuseTape) (As := [.int (-5)]) (b := 31) (st := []) (dx9 := 5) (mc := 0) (ms := 0) (host := "") 11 rfl t_X11_refuseTape ⟨Or.inl q_11_122, i_X11_refuseTape.1, i_X11_refuseTape.2⟩ ⟨by decide, rfl⟩ (congrArg Prod.fst (J.1.1 31 (11, 13) rfl)) rfl (by decide) rfl rfl ⟨by decide, by decide⟩ (jC.of rfl k_X11_refuseTape rfl ?_)
                  show jX m_X11_refuseTape 5 0 0 0 [(0, .ref 31), (1, .int (-5))] [] _ 0 0 _
                  refine x_aloadn (x := 31) rfl rfl ?_
                  refine z_getR (N := 13) (b := 68) 11 2 rfl f_11_23 rfl J rfl 3970 ⟨rfl, rfl⟩ rfl ?_
                  refine x_iconst (v := 0) rfl ki_0 ?_
                  refine z_putI (N := 6) (w := 0) 9 1 rfl f_11_106 rfl (jfin_no TX9 RX9 6 rfl rfl) hD J Sm rfl rfl jk_0 (pw_68_1 (by omega)) rfl (fun h w83 J Sm => ?_)
                  refine x_aloadn (x := 31) rfl rfl ?_
                  refine x_iloadn (x := (-5)) rfl rfl ?_
                  refine x_inv (N := m_X11_refuse) (As := [.int (-5)]) (b := 31) (st := []) (dx9 := 4) (mc := 0) (ms := 0) (host := "") 11 rfl t_X11_refuse ⟨Or.inl q_11_206, i_X11_refuse.1, i_X11_refuse.2⟩ ⟨by decide, rfl⟩ (congrArg Prod.fst (J.1.1 31 (11, 13) rfl)) rfl (by decide) rfl rfl ⟨by decide, by decide⟩ (jC.of rfl k_X11_refuse rfl ?_)
                  show jX m_X11_refuse 4 0 0 0 [(0, .ref 31), (1, .int (-5))] [] _ 0 0 _
                  refine x_aloadn (x := 31) rfl rfl ?_
                  refine x_iloadn (x := (-5)) rfl rfl ?_
                  refine z_putI (N := 13) (w := (-5)) 11 12 rfl f_11_94 rfl (jfin_no TX11 RX11 13 rfl rfl) hD J Sm rfl rfl jk_m5 (pw_31_12 (by omega)) rfl (fun h w84 J Sm => ?_)
                  refine x_iloadn (x := (-5)) rfl rfl ?_
                  refine x_iret rfl rfl ?_
                  show jX m_X11_refuseTape 5 0 0 13 [(0, .ref 31), (1, .int (-5))] [.int (-5)] _ 0 0 _
                  refine x_iret rfl rfl ?_
                  show jX m_X11_line 6 0 0 66 [(0, .ref 31), (1, .int a1), (2, .int a2), (3, .int a3), (4, .int a4), (5, .int a5)] [.int (-5)] _ 0 0 _
                  refine x_iret rfl rfl ?_
                  exact hQ _ _ (jr_of jk_m5 (by omega)) J Sm _ _ (jmo w84 rfl (jmo w83 rfl (jmc S69 rfl zp0))) (jmo w84 rfl (jmo w83 rfl (jmc S69 rfl zp1))) (by omega) (by have := congrArg Int32.toInt (jmo w84 rfl (jmw w83)); have := jk_0; omega)
              ·
                exact jX.sub (jsb_c rfl jsb_n) (ct_X11_line_r31p_41 hD hQ  p1 p0 h (jr_of rfl (by omega)) (jr_of rfl (by omega)) (by omega) zp1 zp0 J Sm)
            refine x_tableOut (tgt := 57) rfl (by omega) rfl ?_
            refine x_iloadn (x := a5) rfl rfl ?_
            refine x_iconst (v := (-1)) rfl ki_m1 ?_
            refine x_icne (tgt := 66) rfl rfl (ti_ne rfl jk_m1 ⟨fun c85 => ?_, fun c85 => ?_⟩)
            ·
              refine x_iconst (v := 0) rfl ki_0 ?_
              refine x_zret rfl rfl (by decide) ?_
              show jX m_X11_line 6 0 0 38 [(0, .ref 31), (1, .int a1), (2, .int a2), (3, .int a3), (4, .int a4), (5, .int a5)] [.int 0] _ 0 0 _
              refine x_ifne (tgt := 47) rfl rfl (ti_ne jk_0 jk_0 (bn_f (by omega) ?_))
              exact jX.sub (jsb_c rfl jsb_n) (ct_X11_line_r31p_41 hD hQ  p1 p0 h (jr_of rfl (by omega)) (jr_of rfl (by omega)) (by omega) zp1 zp0 J Sm)
            ·
              refine x_iconst (v := 1) rfl ki_1 ?_
              refine x_goto (tgt := 67) rfl rfl ?_
              refine x_zret rfl rfl (by decide) ?_
              show jX m_X11_line 6 0 0 38 [(0, .ref 31), (1, .int a1), (2, .int a2), (3, .int a3), (4, .int a4), (5, .int a5)] [.int 1] _ 0 0 _
              refine x_ifne (tgt := 47) rfl rfl (ti_ne jk_1 jk_0 (bn_t (by omega) ?_))
              refine x_aloadn (x := 31) rfl rfl ?_
              refine z_getR (N := 13) (b := 32) 11 0 rfl f_11_10 rfl J rfl 3968 ⟨rfl, rfl⟩ rfl ?_
              refine z_getR (N := 20) (b := 33) 1 0 rfl f_11_126 rfl J rfl 4096 ⟨rfl, rfl⟩ rfl ?_
              refine x_inv (N := m_X8_isFull) (As := []) (b := 33) (st := []) (dx9 := 1) (mc := 0) (ms := 0) (host := "") 8 rfl t_X8_isFull ⟨Or.inl q_11_130, i_X8_isFull.1, i_X8_isFull.2⟩ ⟨by decide, rfl⟩ (congrArg Prod.fst (J.1.1 33 (8, 4) rfl)) rfl (by decide) rfl rfl ⟨by decide, by decide⟩ (sf_X8_isFull_r33  hD J  (fun v87 h ev87 J S86 => ?_))
              have Sm := jSm_tr rfl Sm S86
              show jX m_X11_line 6 0 0 57 [(0, .ref 31), (1, .int a1), (2, .int a2), (3, .int a3), (4, .int a4), (5, .int a5)] [.int v87] _ 0 0 _
              refine x_ifeq (tgt := 67) rfl rfl (ti_eq rfl jk_0 ⟨fun c88 => ?_, fun c88 => ?_⟩)
              ·
                refine x_aloadn (x := 31) rfl rfl ?_
                refine z_getR (N := 13) (b := 70) 11 3 rfl f_11_32 rfl J rfl 3971 ⟨rfl, rfl⟩ rfl ?_
                refine x_gets jst_1 rfl (by decide +kernel) u_11_136 ?_
                show jX m_X11_line 6 0 0 74 [(0, .ref 31), (1, .int a1), (2, .int a2), (3, .int a3), (4, .int a4), (5, .int a5)] [.ref 1, .ref 70] _ 0 0 _
                refine x_iloadn (x := a1) rfl rfl ?_
                refine z_iald (N := 6) rfl J rfl sg_1_0_6_1_0_1 rfl (by omega) (fun v89 qv89 ev89 => ?_)
                refine x_inv (N := m_X5_readLine) (As := [.int v89]) (b := 70) (st := []) (dx9 := 5) (mc := 0) (ms := 0) (host := "") 5 rfl t_X5_readLine ⟨Or.inl q_11_139, i_X5_readLine.1, i_X5_readLine.2⟩ ⟨by decide, rfl⟩ (congrArg Prod.fst (J.1.1 70 (5, 9) rfl)) rfl (by decide) rfl rfl ⟨by decide, by decide⟩ (sf_X5_readLine_r70 (jr_of rfl (by omega)) hD J (jmc S86 rfl zp0) (jmc S86 rfl zp1) (by omega)  (fun v93 h ev93 J S90 u91 u92 qu91 qu92 ru91 => ?_))
                have Sm := jSm_tr rfl Sm S90
                have eu91 := (show 0 ≤ u91.toInt ∧ u91.toInt ≤ 3 from qu91 ▸ jrg_f J sg_68_5_6_1_0_1)
                have eu92 := (show 0 ≤ u92.toInt ∧ u92.toInt ≤ 400 from qu92 ▸ jrg_f J sg_68_3_4_1_0_1)
                show jX m_X11_line 6 0 0 79 [(0, .ref 31), (1, .int a1), (2, .int a2), (3, .int a3), (4, .int a4), (5, .int a5)] [.int v93] _ 0 0 _
                refine x_istore (lsx9 := [(6, .int v93), (0, .ref 31), (1, .int a1), (2, .int a2), (3, .int a3), (4, .int a4), (5, .int a5)]) rfl rfl rfl ?_
                refine x_iload (x := v93) rfl rfl ?_
                refine x_iconst (v := (-1)) rfl ki_m1 ?_
                refine x_icne (tgt := 94) rfl rfl (ti_ne rfl jk_m1 ⟨fun c94 => ?_, fun c94 => ?_⟩)
                ·
                  refine x_aloadn (x := 31) rfl rfl ?_
                  refine z_getR (N := 13) (b := 68) 11 2 rfl f_11_23 rfl J rfl 3970 ⟨rfl, rfl⟩ rfl ?_
                  refine x_iconst (v := 0) rfl ki_0 ?_
                  refine z_putI (N := 6) (w := 0) 9 1 rfl f_11_106 rfl (jfin_no TX9 RX9 6 rfl rfl) hD J Sm rfl rfl jk_0 (pw_68_1 (by omega)) rfl (fun h w95 J Sm => ?_)
                  refine x_aloadn (x := 31) rfl rfl ?_
                  refine z_getR (N := 13) (b := 32) 11 0 rfl f_11_10 rfl J rfl 3968 ⟨rfl, rfl⟩ rfl ?_
                  refine z_getR (N := 20) (b := 33) 1 0 rfl f_11_126 rfl J rfl 4096 ⟨rfl, rfl⟩ rfl ?_
                  refine z_getI (N := 4) 8 3 rfl f_11_142 rfl J rfl sg_33_3_4_1_0_1 (fun v96 qv96 ev96 => ?_)
                  refine x_istore (lsx9 := [(7, .int v96), (6, .int v93), (0, .ref 31), (1, .int a1), (2, .int a2), (3, .int a3), (4, .int a4), (5, .int a5)]) rfl rfl rfl ?_
                  refine x_aloadn (x := 31) rfl rfl ?_
                  refine z_getR (N := 13) (b := 32) 11 0 rfl f_11_10 rfl J rfl 3968 ⟨rfl, rfl⟩ rfl ?_
                  refine z_getR (N := 20) (b := 33) 1 0 rfl f_11_126 rfl J rfl 4096 ⟨rfl, rfl⟩ rfl ?_
                  refine x_iload (x := a4) rfl rfl ?_
                  refine x_iloadn (x := a3) rfl rfl ?_
                  refine x_iloadn (x := a1) rfl rfl ?_
                  refine x_iloadn (x := a2) rfl rfl ?_
                  refine x_iload (x := a5) rfl rfl ?_
                  refine x_iload (x := v93) rfl rfl ?_
                  refine x_inv (N := m_X8_add) (As := [.int a4, .int a3, .int a1, .int a2, .int a5, .int v93]) (b := 33) (st := []) (dx9 := 2) (mc := 0) (ms := 0) (host := "") 8 rfl t_X8_add ⟨Or.inl q_11_145, i_X8_add.1, i_X8_add.2⟩ ⟨by decide, rfl⟩ (congrArg Prod.fst (J.1.1 33 (8, 4) rfl)) rfl (by decide) rfl rfl ⟨by decide, by decide⟩ (sf_X8_add_r33 (jr_of rfl (by omega)) (jr_of rfl (by omega)) (jr_of rfl (by omega)) (jr_of rfl (by omega)) (jr_of rfl (by omega)) (jr_of rfl (by omega)) hD J  (fun h J S97 => ?_))
                  have Sm := jSm_tr rfl Sm S97
                  show jX m_X11_line 6 0 0 133 [(7, .int v96), (6, .int v93), (0, .ref 31), (1, .int a1), (2, .int a2), (3, .int a3), (4, .int a4), (5, .int a5)] [] _ 0 0 _
                  refine x_iconst (v := 0) rfl ki_0 ?_
                  refine x_istore (lsx9 := [(8, .int 0), (7, .int v96), (6, .int v93), (0, .ref 31), (1, .int a1), (2, .int a2), (3, .int a3), (4, .int a4), (5, .int a5)]) rfl rfl rfl ?_
                  exact jX.sub (jsb_c rfl (jsb_c rfl (jsb_c rfl jsb_n))) (ct_X11_line_r31p_136 hD hQ  7 v96 0 0 u92 u91 h (by have := jk_0; omega) (jr_of rfl (by omega)) (jr_of jk_0 (by omega)) (jr_of jk_0 (by omega)) (jr_of rfl (by omega)) (jr_of rfl (by omega)) (by omega) (jmc S97 rfl (jmw w95)) (jmc S97 rfl (jmo w95 rfl qu92)) (jmc S97 rfl (jmo w95 rfl qu91)) J Sm)
                ·
                  refine x_aloadn (x := 31) rfl rfl ?_
                  refine x_bipush (v := (-6)) rfl kb_m6 ?_
                  refine x_inv (N := m_X11_refuseTape) (As := [.int (-6)]) (b := 31) (st := []) (dx9 := 5) (mc := 0) (ms := 0) (host := "") 11 rfl t_X11_refuseTape ⟨Or.inl q_11_122, i_X11_refuseTape.1, i_X11_refuseTape.2⟩ ⟨by decide, rfl⟩ (congrArg Prod.fst (J.1.1 31 (11, 13) rfl)) rfl (by decide) rfl rfl ⟨by decide, by decide⟩ (jC.of rfl k_X11_refuseTape rfl ?_)
                  show jX m_X11_refuseTape 5 0 0 0 [(0, .ref 31), (1, .int (-6))] [] _ 0 0 _
                  refine x_aloadn (x := 31) rfl rfl ?_
                  refine z_getR (N := 13) (b := 68) 11 2 rfl f_11_23 rfl J rfl 3970 ⟨rfl, rfl⟩ rfl ?_
                  refine x_iconst (v := 0) rfl ki_0 ?_
                  refine z_putI (N := 6) (w := 0) 9 1 rfl f_11_106 rfl (jfin_no TX9 RX9 6 rfl rfl) hD J Sm rfl rfl jk_0 (pw_68_1 (by omega)) rfl (fun h w98 J Sm => ?_)
                  refine x_aloadn (x := 31) rfl rfl ?_
                  refine x_iloadn (x := (-6)) rfl rfl ?_
                  refine x_inv (N := m_X11_refuse) (As := [.int (-6)]) (b := 31) (st := []) (dx9 := 4) (mc := 0) (ms := 0) (host := "") 11 rfl t_X11_refuse ⟨Or.inl q_11_206, i_X11_refuse.1, i_X11_refuse.2⟩ ⟨by decide, rfl⟩ (congrArg Prod.fst (J.1.1 31 (11, 13) rfl)) rfl (by decide) rfl rfl ⟨by decide, by decide⟩ (jC.of rfl k_X11_refuse rfl ?_)
                  show jX m_X11_refuse 4 0 0 0 [(0, .ref 31), (1, .int (-6))] [] _ 0 0 _
                  refine x_aloadn (x := 31) rfl rfl ?_
                  refine x_iloadn (x := (-6)) rfl rfl ?_
                  refine z_putI (N := 13) (w := (-6)) 11 12 rfl f_11_94 rfl (jfin_no TX11 RX11 13 rfl rfl) hD J Sm rfl rfl jk_m6 (pw_31_12 (by omega)) rfl (fun h w99 J Sm => ?_)
                  refine x_iloadn (x := (-6)) rfl rfl ?_
                  refine x_iret rfl rfl ?_
                  show jX m_X11_refuseTape 5 0 0 13 [(0, .ref 31), (1, .int (-6))] [.int (-6)] _ 0 0 _
                  refine x_iret rfl rfl ?_
                  show jX m_X11_line 6 0 0 93 [(6, .int v93), (0, .ref 31), (1, .int a1), (2, .int a2), (3, .int a3), (4, .int a4), (5, .int a5)] [.int (-6)] _ 0 0 _
                  refine x_iret rfl rfl ?_
                  exact hQ _ _ (jr_of jk_m6 (by omega)) J Sm _ _ (jmo w99 rfl (jmo w98 rfl qu91)) (jmo w99 rfl (jmo w98 rfl qu92)) (by omega) (by have := congrArg Int32.toInt (jmo w99 rfl (jmw w98)); have := jk_0; omega)
              ·
                refine x_aloadn (x := 31) rfl rfl ?_
                refine x_bipush (v := (-5)) rfl kb_m5 ?_
                refine x_inv (N := m_X11_refuseTape) (As := [.int (-5)]) (b := 31) (st := []) (dx9 := 5) (mc := 0) (ms := 0) (host := "") 11 rfl t_X11_refuseTape ⟨Or.inl q_11_122, i_X11_refuseTape.1, i_X11_refuseTape.2⟩ ⟨by decide, rfl⟩ (congrArg Prod.fst (J.1.1 31 (11, 13) rfl)) rfl (by decide) rfl rfl ⟨by decide, by decide⟩ (jC.of rfl k_X11_refuseTape rfl ?_)
                show jX m_X11_refuseTape 5 0 0 0 [(0, .ref 31), (1, .int (-5))] [] _ 0 0 _
                refine x_aloadn (x := 31) rfl rfl ?_
                refine z_getR (N := 13) (b := 68) 11 2 rfl f_11_23 rfl J rfl 3970 ⟨rfl, rfl⟩ rfl ?_
                refine x_iconst (v := 0) rfl ki_0 ?_
                refine z_putI (N := 6) (w := 0) 9 1 rfl f_11_106 rfl (jfin_no TX9 RX9 6 rfl rfl) hD J Sm rfl rfl jk_0 (pw_68_1 (by omega)) rfl (fun h w100 J Sm => ?_)
                refine x_aloadn (x := 31) rfl rfl ?_
                refine x_iloadn (x := (-5)) rfl rfl ?_
                refine x_inv (N := m_X11_refuse) (As := [.int (-5)]) (b := 31) (st := []) (dx9 := 4) (mc := 0) (ms := 0) (host := "") 11 rfl t_X11_refuse ⟨Or.inl q_11_206, i_X11_refuse.1, i_X11_refuse.2⟩ ⟨by decide, rfl⟩ (congrArg Prod.fst (J.1.1 31 (11, 13) rfl)) rfl (by decide) rfl rfl ⟨by decide, by decide⟩ (jC.of rfl k_X11_refuse rfl ?_)
                show jX m_X11_refuse 4 0 0 0 [(0, .ref 31), (1, .int (-5))] [] _ 0 0 _
                refine x_aloadn (x := 31) rfl rfl ?_
                refine x_iloadn (x := (-5)) rfl rfl ?_
                refine z_putI (N := 13) (w := (-5)) 11 12 rfl f_11_94 rfl (jfin_no TX11 RX11 13 rfl rfl) hD J Sm rfl rfl jk_m5 (pw_31_12 (by omega)) rfl (fun h w101 J Sm => ?_)
                refine x_iloadn (x := (-5)) rfl rfl ?_
                refine x_iret rfl rfl ?_
                show jX m_X11_refuseTape 5 0 0 13 [(0, .ref 31), (1, .int (-5))] [.int (-5)] _ 0 0 _
                refine x_iret rfl rfl ?_
                show jX m_X11_line 6 0 0 66 [(0, .ref 31), (1, .int a1), (2, .int a2), (3, .int a3), (4, .int a4), (5, .int a5)] [.int (-5)] _ 0 0 _
                refine x_iret rfl rfl ?_
                exact hQ _ _ (jr_of jk_m5 (by omega)) J Sm _ _ (jmo w101 rfl (jmo w100 rfl (jmc S86 rfl zp0))) (jmo w101 rfl (jmo w100 rfl (jmc S86 rfl zp1))) (by omega) (by have := congrArg Int32.toInt (jmo w101 rfl (jmw w100)); have := jk_0; omega)
def fp_X11_pay_r31p : jFp := [(31, 12, 13), (32, 19, 20), (55, 3, 4), (56, 0, 500)]
set_option maxRecDepth 100000 in
set_option maxHeartbeats 4000000 in
theorem ct_X11_pay_r31p_27 {Dy : jH → Prop} {h0 : jH} {Q : Option Value → jH → Prop} {a1 : Int32} (yy_a1 : (-2147483648) ≤ a1.toInt ∧ a1.toInt ≤ 2147483647) {a2 : Int32} (yy_a2 : (-2147483648) ≤ a2.toInt ∧ a2.toInt ≤ 2147483647) {a3 : Int32} (yy_a3 : (-2147483648) ≤ a3.toInt ∧ a3.toInt ≤ 2147483647) {a4 : Int32} (yy_a4 : (-2147483648) ≤ a4.toInt ∧ a4.toInt ≤ 2147483647) {a5 : Int32} (yy_a5 : (-2147483648) ≤ a5.toInt ∧ a5.toInt ≤ 2147483647) (hD : jDk Dy) (hQ : ∀ (v : Int32) hx9, (-5) ≤ v.toInt ∧ v.toInt ≤ 100 → jJ jSgX Dy hx9 → jSm fp_X11_pay_r31p h0 hx9 → ((¬ (1 ≤ a3.toInt ∧ a3.toInt ≤ 1000000 ∧ 0 ≤ a4.toInt ∧ a4.toInt ≤ 146399 ∧ 0 ≤ a5.toInt ∧ a5.toInt ≤ 146399) ∧ v.toInt = -1 ∧ jTe 55 h0 hx9) ∨ ((1 ≤ a3.toInt ∧ a3.toInt ≤ 1000000 ∧ 0 ≤ a4.toInt ∧ a4.toInt ≤ 146399 ∧ 0 ≤ a5.toInt ∧ a5.toInt ≤ 146399) ∧ ¬ (0 ≤ a1.toInt ∧ a1.toInt < (jiv h0 53 3).toInt ∧ 0 ≤ a2.toInt ∧ a2.toInt < (jiv h0 49 3).toInt) ∧ v.toInt = -2 ∧ jTe 55 h0 hx9) ∨ ((1 ≤ a3.toInt ∧ a3.toInt ≤ 1000000 ∧ 0 ≤ a4.toInt ∧ a4.toInt ≤ 146399 ∧ 0 ≤ a5.toInt ∧ a5.toInt ≤ 146399) ∧ (0 ≤ a1.toInt ∧ a1.toInt < (jiv h0 53 3).toInt ∧ 0 ≤ a2.toInt ∧ a2.toInt < (jiv h0 49 3).toInt) ∧ (jiv h0 55 3).toInt = 100 ∧ v.toInt = -5 ∧ jTe 55 h0 hx9) ∨ ((1 ≤ a3.toInt ∧ a3.toInt ≤ 1000000 ∧ 0 ≤ a4.toInt ∧ a4.toInt ≤ 146399 ∧ 0 ≤ a5.toInt ∧ a5.toInt ≤ 146399) ∧ (0 ≤ a1.toInt ∧ a1.toInt < (jiv h0 53 3).toInt ∧ 0 ≤ a2.toInt ∧ a2.toInt < (jiv h0 49 3).toInt) ∧ (jiv h0 55 3).toInt < 100 ∧ v.toInt = (jiv h0 55 3).toInt + 1 ∧ jTwr 55 5 [a5, a4, a2, a1, a3] h0 hx9)) → Q (some (.int v)) hx9) : ∀ (h : jH), (h = h0 ∧ ¬ (1 ≤ a3.toInt ∧ a3.toInt ≤ 1000000 ∧ 0 ≤ a4.toInt ∧ a4.toInt ≤ 146399 ∧ 0 ≤ a5.toInt ∧ a5.toInt ≤ 146399)) → jJ jSgX Dy h → jSm fp_X11_pay_r31p h0 h → jX m_X11_pay 3 0 0 27 [(0, .ref 31)] [] h 0 0 Q := by
  intro  h C0   J Sm
  refine x_aloadn (x := 31) rfl rfl ?_
  refine x_iconst (v := (-1)) rfl ki_m1 ?_
  refine x_inv (N := m_X11_refuse) (As := [.int (-1)]) (b := 31) (st := []) (dx9 := 2) (mc := 0) (ms := 0) (host := "") 11 rfl t_X11_refuse ⟨Or.inl q_11_206, i_X11_refuse.1, i_X11_refuse.2⟩ ⟨by decide, rfl⟩ (congrArg Prod.fst (J.1.1 31 (11, 13) rfl)) rfl (by decide) rfl rfl ⟨by decide, by decide⟩ (jC.of rfl k_X11_refuse rfl ?_)
  show jX m_X11_refuse 2 0 0 0 [(0, .ref 31), (1, .int (-1))] [] _ 0 0 _
  refine x_aloadn (x := 31) rfl rfl ?_
  refine x_iloadn (x := (-1)) rfl rfl ?_
  refine z_putI (N := 13) (w := (-1)) 11 12 rfl f_11_94 rfl (jfin_no TX11 RX11 13 rfl rfl) hD J Sm rfl rfl jk_m1 (pw_31_12 (by omega)) rfl (fun h w1 J Sm => ?_)
  refine x_iloadn (x := (-1)) rfl rfl ?_
  refine x_iret rfl rfl ?_
  show jX m_X11_pay 3 0 0 32 [(0, .ref 31)] [.int (-1)] _ 0 0 _
  refine x_iret rfl rfl ?_
  exact hQ _ _ (jr_of jk_m1 (by omega)) J Sm (Or.inl ⟨C0.2, jk_m1, ⟨congrFun (ov_o w1 rfl (ov_e C0.1)) 3, (ov_o w1 rfl (ov_e C0.1))⟩⟩)
set_option maxRecDepth 100000 in
set_option maxHeartbeats 4000000 in
theorem ct_X11_pay_r31p_59 {Dy : jH → Prop} {h0 : jH} {Q : Option Value → jH → Prop} {a1 : Int32} (yy_a1 : (-2147483648) ≤ a1.toInt ∧ a1.toInt ≤ 2147483647) {a2 : Int32} (yy_a2 : (-2147483648) ≤ a2.toInt ∧ a2.toInt ≤ 2147483647) {a3 : Int32} (yy_a3 : (-2147483648) ≤ a3.toInt ∧ a3.toInt ≤ 2147483647) {a4 : Int32} (yy_a4 : (-2147483648) ≤ a4.toInt ∧ a4.toInt ≤ 2147483647) {a5 : Int32} (yy_a5 : (-2147483648) ≤ a5.toInt ∧ a5.toInt ≤ 2147483647) (hD : jDk Dy) (hQ : ∀ (v : Int32) hx9, (-5) ≤ v.toInt ∧ v.toInt ≤ 100 → jJ jSgX Dy hx9 → jSm fp_X11_pay_r31p h0 hx9 → ((¬ (1 ≤ a3.toInt ∧ a3.toInt ≤ 1000000 ∧ 0 ≤ a4.toInt ∧ a4.toInt ≤ 146399 ∧ 0 ≤ a5.toInt ∧ a5.toInt ≤ 146399) ∧ v.toInt = -1 ∧ jTe 55 h0 hx9) ∨ ((1 ≤ a3.toInt ∧ a3.toInt ≤ 1000000 ∧ 0 ≤ a4.toInt ∧ a4.toInt ≤ 146399 ∧ 0 ≤ a5.toInt ∧ a5.toInt ≤ 146399) ∧ ¬ (0 ≤ a1.toInt ∧ a1.toInt < (jiv h0 53 3).toInt ∧ 0 ≤ a2.toInt ∧ a2.toInt < (jiv h0 49 3).toInt) ∧ v.toInt = -2 ∧ jTe 55 h0 hx9) ∨ ((1 ≤ a3.toInt ∧ a3.toInt ≤ 1000000 ∧ 0 ≤ a4.toInt ∧ a4.toInt ≤ 146399 ∧ 0 ≤ a5.toInt ∧ a5.toInt ≤ 146399) ∧ (0 ≤ a1.toInt ∧ a1.toInt < (jiv h0 53 3).toInt ∧ 0 ≤ a2.toInt ∧ a2.toInt < (jiv h0 49 3).toInt) ∧ (jiv h0 55 3).toInt = 100 ∧ v.toInt = -5 ∧ jTe 55 h0 hx9) ∨ ((1 ≤ a3.toInt ∧ a3.toInt ≤ 1000000 ∧ 0 ≤ a4.toInt ∧ a4.toInt ≤ 146399 ∧ 0 ≤ a5.toInt ∧ a5.toInt ≤ 146399) ∧ (0 ≤ a1.toInt ∧ a1.toInt < (jiv h0 53 3).toInt ∧ 0 ≤ a2.toInt ∧ a2.toInt < (jiv h0 49 3).toInt) ∧ (jiv h0 55 3).toInt < 100 ∧ v.toInt = (jiv h0 55 3).toInt + 1 ∧ jTwr 55 5 [a5, a4, a2, a1, a3] h0 hx9)) → Q (some (.int v)) hx9) : ∀ (h : jH), (h = h0 ∧ (1 ≤ a3.toInt ∧ a3.toInt ≤ 1000000 ∧ 0 ≤ a4.toInt ∧ a4.toInt ≤ 146399 ∧ 0 ≤ a5.toInt ∧ a5.toInt ≤ 146399) ∧ ¬ (0 ≤ a1.toInt ∧ a1.toInt < (jiv h0 53 3).toInt ∧ 0 ≤ a2.toInt ∧ a2.toInt < (jiv h0 49 3).toInt)) → jJ jSgX Dy h → jSm fp_X11_pay_r31p h0 h → jX m_X11_pay 3 0 0 59 [(0, .ref 31)] [] h 0 0 Q := by
  intro  h C0   J Sm
  refine x_aloadn (x := 31) rfl rfl ?_
  refine x_bipush (v := (-2)) rfl kb_m2 ?_
  refine x_inv (N := m_X11_refuse) (As := [.int (-2)]) (b := 31) (st := []) (dx9 := 2) (mc := 0) (ms := 0) (host := "") 11 rfl t_X11_refuse ⟨Or.inl q_11_206, i_X11_refuse.1, i_X11_refuse.2⟩ ⟨by decide, rfl⟩ (congrArg Prod.fst (J.1.1 31 (11, 13) rfl)) rfl (by decide) rfl rfl ⟨by decide, by decide⟩ (jC.of rfl k_X11_refuse rfl ?_)
  show jX m_X11_refuse 2 0 0 0 [(0, .ref 31), (1, .int (-2))] [] _ 0 0 _
  refine x_aloadn (x := 31) rfl rfl ?_
  refine x_iloadn (x := (-2)) rfl rfl ?_
  refine z_putI (N := 13) (w := (-2)) 11 12 rfl f_11_94 rfl (jfin_no TX11 RX11 13 rfl rfl) hD J Sm rfl rfl jk_m2 (pw_31_12 (by omega)) rfl (fun h w1 J Sm => ?_)
  refine x_iloadn (x := (-2)) rfl rfl ?_
  refine x_iret rfl rfl ?_
  show jX m_X11_pay 3 0 0 65 [(0, .ref 31)] [.int (-2)] _ 0 0 _
  refine x_iret rfl rfl ?_
  exact hQ _ _ (jr_of jk_m2 (by omega)) J Sm (Or.inr (Or.inl ⟨C0.2.1, C0.2.2, jk_m2, ⟨congrFun (ov_o w1 rfl (ov_e C0.1)) 3, (ov_o w1 rfl (ov_e C0.1))⟩⟩))
set_option maxRecDepth 100000 in
set_option maxHeartbeats 4000000 in
theorem sf_X11_pay_r31p {Dy : jH → Prop} {h : jH} {Q : Option Value → jH → Prop} {a1 : Int32} {a2 : Int32} {a3 : Int32} {a4 : Int32} {a5 : Int32} (hD : jDk Dy) (J : jJ jSgX Dy h) (hQ : ∀ (v : Int32) hx9, (-5) ≤ v.toInt ∧ v.toInt ≤ 100 → jJ jSgX Dy hx9 → jSm fp_X11_pay_r31p h hx9 → ((¬ (1 ≤ a3.toInt ∧ a3.toInt ≤ 1000000 ∧ 0 ≤ a4.toInt ∧ a4.toInt ≤ 146399 ∧ 0 ≤ a5.toInt ∧ a5.toInt ≤ 146399) ∧ v.toInt = -1 ∧ jTe 55 h hx9) ∨ ((1 ≤ a3.toInt ∧ a3.toInt ≤ 1000000 ∧ 0 ≤ a4.toInt ∧ a4.toInt ≤ 146399 ∧ 0 ≤ a5.toInt ∧ a5.toInt ≤ 146399) ∧ ¬ (0 ≤ a1.toInt ∧ a1.toInt < (jiv h 53 3).toInt ∧ 0 ≤ a2.toInt ∧ a2.toInt < (jiv h 49 3).toInt) ∧ v.toInt = -2 ∧ jTe 55 h hx9) ∨ ((1 ≤ a3.toInt ∧ a3.toInt ≤ 1000000 ∧ 0 ≤ a4.toInt ∧ a4.toInt ≤ 146399 ∧ 0 ≤ a5.toInt ∧ a5.toInt ≤ 146399) ∧ (0 ≤ a1.toInt ∧ a1.toInt < (jiv h 53 3).toInt ∧ 0 ≤ a2.toInt ∧ a2.toInt < (jiv h 49 3).toInt) ∧ (jiv h 55 3).toInt = 100 ∧ v.toInt = -5 ∧ jTe 55 h hx9) ∨ ((1 ≤ a3.toInt ∧ a3.toInt ≤ 1000000 ∧ 0 ≤ a4.toInt ∧ a4.toInt ≤ 146399 ∧ 0 ≤ a5.toInt ∧ a5.toInt ≤ 146399) ∧ (0 ≤ a1.toInt ∧ a1.toInt < (jiv h 53 3).toInt ∧ 0 ≤ a2.toInt ∧ a2.toInt < (jiv h 49 3).toInt) ∧ (jiv h 55 3).toInt < 100 ∧ v.toInt = (jiv h 55 3).toInt + 1 ∧ jTwr 55 5 [a5, a4, a2, a1, a3] h hx9)) → Q (some (.int v)) hx9) : jC m_X11_pay 3 0 0 [.ref 31, .int a1, .int a2, .int a3, .int a4, .int a5] h Q := by
  refine jC.of rfl k_X11_pay rfl ?_
  have Sm := jSm_rf fp_X11_pay_r31p h
  have yy_a1 := jfull a1
  have yy_a2 := jfull a2
  have yy_a3 := jfull a3
  have yy_a4 := jfull a4
  have yy_a5 := jfull a5
  have ea1 := jfull a1
  have ea2 := jfull a2
  have ea3 := jfull a3
  have ea4 := jfull a4
  have ea5 := jfull a5
  show jX m_X11_pay 3 0 0 0 [(0, .ref 31), (1, .int a1), (2, .int a2), (3, .int a3), (4, .int a4), (5, .int a5)] [] _ 0 0 _
  obtain ⟨u1, qu1⟩ : ∃ v : Int32, jiv h 55 3 = v := ⟨_, rfl⟩
  have eu1 := (show 0 ≤ u1.toInt ∧ u1.toInt ≤ 100 from qu1 ▸ jrg_f J sg_55_3_4_1_0_1)
  have ou1 := congrArg Int32.toInt qu1
  obtain ⟨u2, qu2⟩ : ∃ v : Int32, jiv h 53 3 = v := ⟨_, rfl⟩
  have eu2 := (show 0 ≤ u2.toInt ∧ u2.toInt ≤ 40 from qu2 ▸ jrg_f J sg_53_3_4_1_0_1)
  have ou2 := congrArg Int32.toInt qu2
  obtain ⟨u3, qu3⟩ : ∃ v : Int32, jiv h 49 3 = v := ⟨_, rfl⟩
  have eu3 := (show 0 ≤ u3.toInt ∧ u3.toInt ≤ 40 from qu3 ▸ jrg_f J sg_49_3_4_1_0_1)
  have ou3 := congrArg Int32.toInt qu3
  refine x_iloadn (x := a3) rfl rfl ?_
  refine x_iconst (v := 1) rfl ki_1 ?_
  refine x_ldcw (v := 1000000) rfl z_11_436 ?_
  refine x_inst (N := m_X11_isWithin) (As := [.int a3, .int 1, .int 1000000]) (st := []) (dx9 := 1) (mc := 0) (ms := 0) (host := "") rfl t_X11_isWithin ⟨Or.inl q_11_202, s_X11_isWithin⟩ rfl (by decide) rfl rfl ⟨by decide, by decide⟩ (zc_X11_isWithin rfl jk_1 jk_1000000 (fun v4 ev4 => ?_))
  show jX m_X11_pay 3 0 0 8 [(0, .ref 31), (1, .int a1), (2, .int a2), (3, .int a3), (4, .int a4), (5, .int a5)] [.int v4] _ 0 0 _
  refine x_ifeq (tgt := 27) rfl rfl (ti_eq rfl jk_0 ⟨fun c5 => ?_, fun c5 => ?_⟩)
  ·
    exact jX.sub (jsb_c rfl jsb_n) (ct_X11_pay_r31p_27 yy_a1 yy_a2 yy_a3 yy_a4 yy_a5 hD hQ  h ⟨rfl, by omega⟩ J Sm)
  ·
    refine x_iload (x := a4) rfl rfl ?_
    refine x_inst (N := m_X11_isDay) (As := [.int a4]) (st := []) (dx9 := 1) (mc := 0) (ms := 0) (host := "") rfl t_X11_isDay ⟨Or.inl q_11_115, s_X11_isDay⟩ rfl (by decide) rfl rfl ⟨by decide, by decide⟩ (zc_X11_isDay rfl (fun v6 ev6 => ?_))
    show jX m_X11_pay 3 0 0 16 [(0, .ref 31), (1, .int a1), (2, .int a2), (3, .int a3), (4, .int a4), (5, .int a5)] [.int v6] _ 0 0 _
    refine x_ifeq (tgt := 27) rfl rfl (ti_eq rfl jk_0 ⟨fun c7 => ?_, fun c7 => ?_⟩)
    ·
      exact jX.sub (jsb_c rfl jsb_n) (ct_X11_pay_r31p_27 yy_a1 yy_a2 yy_a3 yy_a4 yy_a5 hD hQ  h ⟨rfl, by omega⟩ J Sm)
    ·
      refine x_iload (x := a5) rfl rfl ?_
      refine x_inst (N := m_X11_isDay) (As := [.int a5]) (st := []) (dx9 := 1) (mc := 0) (ms := 0) (host := "") rfl t_X11_isDay ⟨Or.inl q_11_115, s_X11_isDay⟩ rfl (by decide) rfl rfl ⟨by decide, by decide⟩ (zc_X11_isDay rfl (fun v8 ev8 => ?_))
      show jX m_X11_pay 3 0 0 24 [(0, .ref 31), (1, .int a1), (2, .int a2), (3, .int a3), (4, .int a4), (5, .int a5)] [.int v8] _ 0 0 _
      refine x_ifne (tgt := 33) rfl rfl (ti_ne rfl jk_0 ⟨fun c9 => ?_, fun c9 => ?_⟩)
      ·
        refine x_iloadn (x := a1) rfl rfl ?_
        refine x_iflt (tgt := 59) rfl rfl (ti_lt rfl jk_0 ⟨fun c10 => ?_, fun c10 => ?_⟩)
        ·
          exact jX.sub (jsb_c rfl jsb_n) (ct_X11_pay_r31p_59 yy_a1 yy_a2 yy_a3 yy_a4 yy_a5 hD hQ  h ⟨rfl, by omega, by omega⟩ J Sm)
        ·
          refine x_iloadn (x := a1) rfl rfl ?_
          refine x_aloadn (x := 31) rfl rfl ?_
          refine z_getR (N := 13) (b := 32) 11 0 rfl f_11_10 rfl J rfl 3968 ⟨rfl, rfl⟩ rfl ?_
          refine z_getR (N := 20) (b := 53) 1 10 rfl f_11_437 rfl J rfl 4106 ⟨rfl, rfl⟩ rfl ?_
          refine z_getM (N := 4) (v := u2) 8 3 rfl f_11_142 rfl J rfl qu2 ?_
          refine x_icge (tgt := 59) rfl rfl (ti_ge rfl rfl ⟨fun c11 => ?_, fun c11 => ?_⟩)
          ·
            exact jX.sub (jsb_c rfl jsb_n) (ct_X11_pay_r31p_59 yy_a1 yy_a2 yy_a3 yy_a4 yy_a5 hD hQ  h ⟨rfl, by omega, by omega⟩ J Sm)
          ·
            refine x_aloadn (x := 31) rfl rfl ?_
            refine x_iloadn (x := a2) rfl rfl ?_
            refine x_inv (N := m_X11_isHolding) (As := [.int a2]) (b := 31) (st := []) (dx9 := 2) (mc := 0) (ms := 0) (host := "") 11 rfl t_X11_isHolding ⟨Or.inl q_11_415, i_X11_isHolding.1, i_X11_isHolding.2⟩ ⟨by decide, rfl⟩ (congrArg Prod.fst (J.1.1 31 (11, 13) rfl)) rfl (by decide) rfl rfl ⟨by decide, by decide⟩ (jC.of rfl k_X11_isHolding rfl ?_)
            show jX m_X11_isHolding 2 0 0 0 [(0, .ref 31), (1, .int a2)] [] _ 0 0 _
            refine x_iloadn (x := a2) rfl rfl ?_
            refine x_iflt (tgt := 28) rfl rfl (ti_lt rfl jk_0 ⟨fun c12 => ?_, fun c12 => ?_⟩)
            ·
              refine x_iconst (v := 0) rfl ki_0 ?_
              refine x_zret rfl rfl (by decide) ?_
              show jX m_X11_pay 3 0 0 56 [(0, .ref 31), (1, .int a1), (2, .int a2), (3, .int a3), (4, .int a4), (5, .int a5)] [.int 0] _ 0 0 _
              refine x_ifne (tgt := 66) rfl rfl (ti_ne jk_0 jk_0 (bn_f (by omega) ?_))
              exact jX.sub (jsb_c rfl jsb_n) (ct_X11_pay_r31p_59 yy_a1 yy_a2 yy_a3 yy_a4 yy_a5 hD hQ  h ⟨rfl, by omega, by omega⟩ J Sm)
            ·
              refine x_iloadn (x := a2) rfl rfl ?_
              refine x_aloadn (x := 31) rfl rfl ?_
              refine z_getR (N := 13) (b := 32) 11 0 rfl f_11_10 rfl J rfl 3968 ⟨rfl, rfl⟩ rfl ?_
              refine z_getR (N := 20) (b := 49) 1 8 rfl f_11_408 rfl J rfl 4104 ⟨rfl, rfl⟩ rfl ?_
              refine z_getM (N := 4) (v := u3) 8 3 rfl f_11_142 rfl J rfl qu3 ?_
              refine x_icge (tgt := 28) rfl rfl (ti_ge rfl rfl ⟨fun c13 => ?_, fun c13 => ?_⟩)
              ·
                refine x_iconst (v := 0) rfl ki_0 ?_
                refine x_zret rfl rfl (by decide) ?_
                show jX m_X11_pay 3 0 0 56 [(0, .ref 31), (1, .int a1), (2, .int a2), (3, .int a3), (4, .int a4), (5, .int a5)] [.int 0] _ 0 0 _
                refine x_ifne (tgt := 66) rfl rfl (ti_ne jk_0 jk_0 (bn_f (by omega) ?_))
                exact jX.sub (jsb_c rfl jsb_n) (ct_X11_pay_r31p_59 yy_a1 yy_a2 yy_a3 yy_a4 yy_a5 hD hQ  h ⟨rfl, by omega, by omega⟩ J Sm)
              ·
                refine x_iloadn (x := a2) rfl rfl ?_
                refine x_bipush (v := 40) rfl kb_40 ?_
                refine x_icge (tgt := 28) rfl rfl (ti_ge rfl jk_40 (br_f (by omega) ?_))
                refine x_iconst (v := 1) rfl ki_1 ?_
                refine x_goto (tgt := 29) rfl rfl ?_
                refine x_zret rfl rfl (by decide) ?_
                show jX m_X11_pay 3 0 0 56 [(0, .ref 31), (1, .int a1), (2, .int a2), (3, .int a3), (4, .int a4), (5, .int a5)] [.int 1] _ 0 0 _
                refine x_ifne (tgt := 66) rfl rfl (ti_ne jk_1 jk_0 (bn_t (by omega) ?_))
                refine x_aloadn (x := 31) rfl rfl ?_
                refine z_getR (N := 13) (b := 32) 11 0 rfl f_11_10 rfl J rfl 3968 ⟨rfl, rfl⟩ rfl ?_
                refine z_getR (N := 20) (b := 55) 1 11 rfl f_11_452 rfl J rfl 4107 ⟨rfl, rfl⟩ rfl ?_
                refine x_inv (N := m_X8_isFull) (As := []) (b := 55) (st := []) (dx9 := 2) (mc := 0) (ms := 0) (host := "") 8 rfl t_X8_isFull ⟨Or.inl q_11_130, i_X8_isFull.1, i_X8_isFull.2⟩ ⟨by decide, rfl⟩ (congrArg Prod.fst (J.1.1 55 (8, 4) rfl)) rfl (by decide) rfl rfl ⟨by decide, by decide⟩ (jC.of rfl k_X8_isFull rfl ?_)
                show jX m_X8_isFull 2 0 0 0 [(0, .ref 55)] [] _ 0 0 _
                refine x_aloadn (x := 55) rfl rfl ?_
                refine z_getM (N := 4) (v := u1) 8 3 rfl f_8_7 rfl J rfl qu1 ?_
                refine x_aloadn (x := 55) rfl rfl ?_
                refine z_getC (N := 4) (v := 100) 8 1 rfl f_8_22 rfl J rfl sg_55_1_2_1_0_1 jk_100 ?_
                refine x_iclt (tgt := 15) rfl rfl (ti_lt rfl jk_100 ⟨fun c14 => ?_, fun c14 => ?_⟩)
                ·
                  refine x_iconst (v := 0) rfl ki_0 ?_
                  refine x_zret rfl rfl (by decide) ?_
                  show jX m_X11_pay 3 0 0 76 [(0, .ref 31), (1, .int a1), (2, .int a2), (3, .int a3), (4, .int a4), (5, .int a5)] [.int 0] _ 0 0 _
                  refine x_ifeq (tgt := 86) rfl rfl (ti_eq jk_0 jk_0 (br_t (by omega) ?_))
                  refine x_aloadn (x := 31) rfl rfl ?_
                  refine z_getR (N := 13) (b := 32) 11 0 rfl f_11_10 rfl J rfl 3968 ⟨rfl, rfl⟩ rfl ?_
                  refine z_getR (N := 20) (b := 55) 1 11 rfl f_11_452 rfl J rfl 4107 ⟨rfl, rfl⟩ rfl ?_
                  refine x_iload (x := a5) rfl rfl ?_
                  refine x_iload (x := a4) rfl rfl ?_
                  refine x_iloadn (x := a2) rfl rfl ?_
                  refine x_iloadn (x := a1) rfl rfl ?_
                  refine x_iloadn (x := a3) rfl rfl ?_
                  refine x_iconst (v := 0) rfl ki_0 ?_
                  refine x_inv (N := m_X8_add) (As := [.int a5, .int a4, .int a2, .int a1, .int a3, .int 0]) (b := 55) (st := []) (dx9 := 2) (mc := 0) (ms := 0) (host := "") 8 rfl t_X8_add ⟨Or.inl q_11_145, i_X8_add.1, i_X8_add.2⟩ ⟨by decide, rfl⟩ (congrArg Prod.fst (J.1.1 55 (8, 4) rfl)) rfl (by decide) rfl rfl ⟨by decide, by decide⟩ (jC.of rfl k_X8_add rfl ?_)
                  show jX m_X8_add 2 0 0 0 [(0, .ref 55), (1, .int a5), (2, .int a4), (3, .int a2), (4, .int a1), (5, .int a3), (6, .int 0)] [] _ 0 0 _
                  refine x_aloadn (x := 55) rfl rfl ?_
                  refine z_getM (N := 4) (v := u1) 8 3 rfl f_8_7 rfl J rfl qu1 ?_
                  refine x_aloadn (x := 55) rfl rfl ?_
                  refine z_getC (N := 4) (v := 100) 8 1 rfl f_8_22 rfl J rfl sg_55_1_2_1_0_1 jk_100 ?_
                  refine x_iclt (tgt := 12) rfl rfl (ti_lt rfl jk_100 (br_t (by omega) ?_))
                  refine x_aloadn (x := 55) rfl rfl ?_
                  refine z_getM (N := 4) (v := u1) 8 3 rfl f_8_7 rfl J rfl qu1 ?_
                  refine x_istore (lsx9 := [(7, .int u1), (0, .ref 55), (1, .int a5), (2, .int a4), (3, .int a2), (4, .int a1), (5, .int a3), (6, .int 0)]) rfl rfl rfl ?_
                  refine x_aloadn (x := 55) rfl rfl ?_
                  refine x_iload (x := u1) rfl rfl ?_
                  refine x_iconst (v := 1) rfl ki_1 ?_
                  refine z_iadd rfl rfl jk_1 (by omega) (fun v15 ev15 => ?_)
                  refine z_putI (N := 4) (w := v15.toInt) 8 3 rfl f_8_7 rfl (jfin_no TX8 RX8 4 rfl rfl) hD J Sm rfl rfl rfl (pw_55_3 (by omega)) rfl (fun h w16 J Sm => ?_)
                  refine x_aloadn (x := 55) rfl rfl ?_
                  refine x_iload (x := u1) rfl rfl ?_
                  refine x_iconst (v := 0) rfl ki_0 ?_
                  refine x_iloadn (x := a5) rfl rfl ?_
                  refine x_inv (N := m_X8_put) (As := [.int u1, .int 0, .int a5]) (b := 55) (st := []) (dx9 := 1) (mc := 0) (ms := 0) (host := "") 8 rfl t_X8_put ⟨Or.inl q_8_29, i_X8_put.1, i_X8_put.2⟩ ⟨by decide, rfl⟩ (congrArg Prod.fst (J.1.1 55 (8, 4) rfl)) rfl (by decide) rfl rfl ⟨by decide, by decide⟩ (jC.of rfl k_X8_put rfl ?_)
                  show jX m_X8_put 1 0 0 0 [(0, .ref 55), (1, .int u1), (2, .int 0), (3, .int a5)] [] _ 0 0 _
                  refine x_iloadn (x := u1) rfl rfl ?_
                  refine x_iflt (tgt := 38) rfl rfl (ti_lt rfl jk_0 (br_f (by omega) ?_))
                  refine x_iloadn (x := u1) rfl rfl ?_
                  refine x_aloadn (x := 55) rfl rfl ?_
                  refine z_getM (N := 4) (v := v15) 8 3 rfl f_8_7 rfl J rfl (jmw w16) ?_
                  refine x_icge (tgt := 38) rfl rfl (ti_ge rfl rfl (br_f (by omega) ?_))
                  refine x_iloadn (x := 0) rfl rfl ?_
                  refine x_iflt (tgt := 38) rfl rfl (ti_lt jk_0 jk_0 (br_f (by omega) ?_))
                  refine x_iloadn (x := 0) rfl rfl ?_
                  refine x_aloadn (x := 55) rfl rfl ?_
                  refine z_getC (N := 4) (v := 5) 8 0 rfl f_8_19 rfl J rfl sg_55_0_1_1_0_1 jk_5 ?_
                  refine x_icge (tgt := 38) rfl rfl (ti_ge jk_0 jk_5 (br_f (by omega) ?_))
                  refine x_aloadn (x := 55) rfl rfl ?_
                  refine z_getR (N := 4) (b := 56) 8 2 rfl f_8_25 rfl J rfl 7042 ⟨rfl, rfl⟩ rfl ?_
                  refine x_iloadn (x := u1) rfl rfl ?_
                  refine x_aloadn (x := 55) rfl rfl ?_
                  refine z_getC (N := 4) (v := 5) 8 0 rfl f_8_19 rfl J rfl sg_55_0_1_1_0_1 jk_5 ?_
                  refine z_imul rfl rfl jk_5 (by omega) (fun v17 ev17 => ?_)
                  refine x_iloadn (x := 0) rfl rfl ?_
                  refine z_iadd rfl rfl jk_0 (by omega) (fun v18 ev18 => ?_)
                  refine x_iloadn (x := a5) rfl rfl ?_
                  refine z_iast (N := 500) (l := 0) (u := 500) (w := a5.toInt) rfl hD J Sm rfl rfl rfl (by omega) rfl (wr_56 (fun q1 q2 q3 q4 => by omega) (fun q1 q2 q3 q4 => by omega) (fun q1 q2 q3 q4 => by omega) (fun q1 q2 q3 q4 => by omega) (fun q1 q2 q3 q4 => by omega)) rfl (fun h w19 J Sm => ?_)
                  refine x_vret rfl rfl ?_
                  show jX m_X8_add 2 0 0 34 [(7, .int u1), (0, .ref 55), (1, .int a5), (2, .int a4), (3, .int a2), (4, .int a1), (5, .int a3), (6, .int 0)] [] _ 0 0 _
                  refine x_aloadn (x := 55) rfl rfl ?_
                  refine x_iload (x := u1) rfl rfl ?_
                  refine x_iconst (v := 1) rfl ki_1 ?_
                  refine x_iloadn (x := a4) rfl rfl ?_
                  refine x_inv (N := m_X8_put) (As := [.int u1, .int 1, .int a4]) (b := 55) (st := []) (dx9 := 1) (mc := 0) (ms := 0) (host := "") 8 rfl t_X8_put ⟨Or.inl q_8_29, i_X8_put.1, i_X8_put.2⟩ ⟨by decide, rfl⟩ (congrArg Prod.fst (J.1.1 55 (8, 4) rfl)) rfl (by decide) rfl rfl ⟨by decide, by decide⟩ (jC.of rfl k_X8_put rfl ?_)
                  show jX m_X8_put 1 0 0 0 [(0, .ref 55), (1, .int u1), (2, .int 1), (3, .int a4)] [] _ 0 0 _
                  refine x_iloadn (x := u1) rfl rfl ?_
                  refine x_iflt (tgt := 38) rfl rfl (ti_lt rfl jk_0 (br_f (by omega) ?_))
                  refine x_iloadn (x := u1) rfl rfl ?_
                  refine x_aloadn (x := 55) rfl rfl ?_
                  refine z_getM (N := 4) (v := v15) 8 3 rfl f_8_7 rfl J rfl (jmo w19 rfl (jmw w16)) ?_
                  refine x_icge (tgt := 38) rfl rfl (ti_ge rfl rfl (br_f (by omega) ?_))
                  refine x_iloadn (x := 1) rfl rfl ?_
                  refine x_iflt (tgt := 38) rfl rfl (ti_lt jk_1 jk_0 (br_f (by omega) ?_))
                  refine x_iloadn (x := 1) rfl rfl ?_
                  refine x_aloadn (x := 55) rfl rfl ?_
                  refine z_getC (N := 4) (v := 5) 8 0 rfl f_8_19 rfl J rfl sg_55_0_1_1_0_1 jk_5 ?_
                  refine x_icge (tgt := 38) rfl rfl (ti_ge jk_1 jk_5 (br_f (by omega) ?_))
                  refine x_aloadn (x := 55) rfl rfl ?_
                  refine z_getR (N := 4) (b := 56) 8 2 rfl f_8_25 rfl J rfl 7042 ⟨rfl, rfl⟩ rfl ?_
                  refine x_iloadn (x := u1) rfl rfl ?_
                  refine x_aloadn (x := 55) rfl rfl ?_
                  refine z_getC (N := 4) (v := 5) 8 0 rfl f_8_19 rfl J rfl sg_55_0_1_1_0_1 jk_5 ?_
                  refine z_imul rfl rfl jk_5 (by omega) (fun v20 ev20 => ?_)
                  refine x_iloadn (x := 1) rfl rfl ?_
                  refine z_iadd rfl rfl jk_1 (by omega) (fun v21 ev21 => ?_)
                  refine x_iloadn (x := a4) rfl rfl ?_
                  refine z_iast (N := 500) (l := 0) (u := 500) (w := a4.toInt) rfl hD J Sm rfl rfl rfl (by omega) rfl (wr_56 (fun q1 q2 q3 q4 => by omega) (fun q1 q2 q3 q4 => by omega) (fun q1 q2 q3 q4 => by omega) (fun q1 q2 q3 q4 => by omega) (fun q1 q2 q3 q4 => by omega)) rfl (fun h w22 J Sm => ?_)
                  refine x_vret rfl rfl ?_
                  show jX m_X8_add 2 0 0 42 [(7, .int u1), (0, .ref 55), (1, .int a5), (2, .int a4), (3, .int a2), (4, .int a1), (5, .int a3), (6, .int 0)] [] _ 0 0 _
                  refine x_aloadn (x := 55) rfl rfl ?_
                  refine x_iload (x := u1) rfl rfl ?_
                  refine x_iconst (v := 2) rfl ki_2 ?_
                  refine x_iloadn (x := a2) rfl rfl ?_
                  refine x_inv (N := m_X8_put) (As := [.int u1, .int 2, .int a2]) (b := 55) (st := []) (dx9 := 1) (mc := 0) (ms := 0) (host := "") 8 rfl t_X8_put ⟨Or.inl q_8_29, i_X8_put.1, i_X8_put.2⟩ ⟨by decide, rfl⟩ (congrArg Prod.fst (J.1.1 55 (8, 4) rfl)) rfl (by decide) rfl rfl ⟨by decide, by decide⟩ (jC.of rfl k_X8_put rfl ?_)
                  show jX m_X8_put 1 0 0 0 [(0, .ref 55), (1, .int u1), (2, .int 2), (3, .int a2)] [] _ 0 0 _
                  refine x_iloadn (x := u1) rfl rfl ?_
                  refine x_iflt (tgt := 38) rfl rfl (ti_lt rfl jk_0 (br_f (by omega) ?_))
                  refine x_iloadn (x := u1) rfl rfl ?_
                  refine x_aloadn (x := 55) rfl rfl ?_
                  refine z_getM (N := 4) (v := v15) 8 3 rfl f_8_7 rfl J rfl (jmo w22 rfl (jmo w19 rfl (jmw w16))) ?_
                  refine x_icge (tgt := 38) rfl rfl (ti_ge rfl rfl (br_f (by omega) ?_))
                  refine x_iloadn (x := 2) rfl rfl ?_
                  refine x_iflt (tgt := 38) rfl rfl (ti_lt jk_2 jk_0 (br_f (by omega) ?_))
                  refine x_iloadn (x := 2) rfl rfl ?_
                  refine x_aloadn (x := 55) rfl rfl ?_
                  refine z_getC (N := 4) (v := 5) 8 0 rfl f_8_19 rfl J rfl sg_55_0_1_1_0_1 jk_5 ?_
                  refine x_icge (tgt := 38) rfl rfl (ti_ge jk_2 jk_5 (br_f (by omega) ?_))
                  refine x_aloadn (x := 55) rfl rfl ?_
                  refine z_getR (N := 4) (b := 56) 8 2 rfl f_8_25 rfl J rfl 7042 ⟨rfl, rfl⟩ rfl ?_
                  refine x_iloadn (x := u1) rfl rfl ?_
                  refine x_aloadn (x := 55) rfl rfl ?_
                  refine z_getC (N := 4) (v := 5) 8 0 rfl f_8_19 rfl J rfl sg_55_0_1_1_0_1 jk_5 ?_
                  refine z_imul rfl rfl jk_5 (by omega) (fun v23 ev23 => ?_)
                  refine x_iloadn (x := 2) rfl rfl ?_
                  refine z_iadd rfl rfl jk_2 (by omega) (fun v24 ev24 => ?_)
                  refine x_iloadn (x := a2) rfl rfl ?_
                  refine z_iast (N := 500) (l := 0) (u := 500) (w := a2.toInt) rfl hD J Sm rfl rfl rfl (by omega) rfl (wr_56 (fun q1 q2 q3 q4 => by omega) (fun q1 q2 q3 q4 => by omega) (fun q1 q2 q3 q4 => by omega) (fun q1 q2 q3 q4 => by omega) (fun q1 q2 q3 q4 => by omega)) rfl (fun h w25 J Sm => ?_)
                  refine x_vret rfl rfl ?_
                  show jX m_X8_add 2 0 0 50 [(7, .int u1), (0, .ref 55), (1, .int a5), (2, .int a4), (3, .int a2), (4, .int a1), (5, .int a3), (6, .int 0)] [] _ 0 0 _
                  refine x_aloadn (x := 55) rfl rfl ?_
                  refine x_iload (x := u1) rfl rfl ?_
                  refine x_iconst (v := 3) rfl ki_3 ?_
                  refine x_iload (x := a1) rfl rfl ?_
                  refine x_inv (N := m_X8_put) (As := [.int u1, .int 3, .int a1]) (b := 55) (st := []) (dx9 := 1) (mc := 0) (ms := 0) (host := "") 8 rfl t_X8_put ⟨Or.inl q_8_29, i_X8_put.1, i_X8_put.2⟩ ⟨by decide, rfl⟩ (congrArg Prod.fst (J.1.1 55 (8, 4) rfl)) rfl (by decide) rfl rfl ⟨by decide, by decide⟩ (jC.of rfl k_X8_put rfl ?_)
                  show jX m_X8_put 1 0 0 0 [(0, .ref 55), (1, .int u1), (2, .int 3), (3, .int a1)] [] _ 0 0 _
                  refine x_iloadn (x := u1) rfl rfl ?_
                  refine x_iflt (tgt := 38) rfl rfl (ti_lt rfl jk_0 (br_f (by omega) ?_))
                  refine x_iloadn (x := u1) rfl rfl ?_
                  refine x_aloadn (x := 55) rfl rfl ?_
                  refine z_getM (N := 4) (v := v15) 8 3 rfl f_8_7 rfl J rfl (jmo w25 rfl (jmo w22 rfl (jmo w19 rfl (jmw w16)))) ?_
                  refine x_icge (tgt := 38) rfl rfl (ti_ge rfl rfl (br_f (by omega) ?_))
                  refine x_iloadn (x := 3) rfl rfl ?_
                  refine x_iflt (tgt := 38) rfl rfl (ti_lt jk_3 jk_0 (br_f (by omega) ?_))
                  refine x_iloadn (x := 3) rfl rfl ?_
                  refine x_aloadn (x := 55) rfl rfl ?_
                  refine z_getC (N := 4) (v := 5) 8 0 rfl f_8_19 rfl J rfl sg_55_0_1_1_0_1 jk_5 ?_
                  refine x_icge (tgt := 38) rfl rfl (ti_ge jk_3 jk_5 (br_f (by omega) ?_))
                  refine x_aloadn (x := 55) rfl rfl ?_
                  refine z_getR (N := 4) (b := 56) 8 2 rfl f_8_25 rfl J rfl 7042 ⟨rfl, rfl⟩ rfl ?_
                  refine x_iloadn (x := u1) rfl rfl ?_
                  refine x_aloadn (x := 55) rfl rfl ?_
                  refine z_getC (N := 4) (v := 5) 8 0 rfl f_8_19 rfl J rfl sg_55_0_1_1_0_1 jk_5 ?_
                  refine z_imul rfl rfl jk_5 (by omega) (fun v26 ev26 => ?_)
                  refine x_iloadn (x := 3) rfl rfl ?_
                  refine z_iadd rfl rfl jk_3 (by omega) (fun v27 ev27 => ?_)
                  refine x_iloadn (x := a1) rfl rfl ?_
                  refine z_iast (N := 500) (l := 0) (u := 500) (w := a1.toInt) rfl hD J Sm rfl rfl rfl (by omega) rfl (wr_56 (fun q1 q2 q3 q4 => by omega) (fun q1 q2 q3 q4 => by omega) (fun q1 q2 q3 q4 => by omega) (fun q1 q2 q3 q4 => by omega) (fun q1 q2 q3 q4 => by omega)) rfl (fun h w28 J Sm => ?_)
                  refine x_vret rfl rfl ?_
                  show jX m_X8_add 2 0 0 59 [(7, .int u1), (0, .ref 55), (1, .int a5), (2, .int a4), (3, .int a2), (4, .int a1), (5, .int a3), (6, .int 0)] [] _ 0 0 _
                  refine x_aloadn (x := 55) rfl rfl ?_
                  refine x_iload (x := u1) rfl rfl ?_
                  refine x_iconst (v := 4) rfl ki_4 ?_
                  refine x_iload (x := a3) rfl rfl ?_
                  refine x_inv (N := m_X8_put) (As := [.int u1, .int 4, .int a3]) (b := 55) (st := []) (dx9 := 1) (mc := 0) (ms := 0) (host := "") 8 rfl t_X8_put ⟨Or.inl q_8_29, i_X8_put.1, i_X8_put.2⟩ ⟨by decide, rfl⟩ (congrArg Prod.fst (J.1.1 55 (8, 4) rfl)) rfl (by decide) rfl rfl ⟨by decide, by decide⟩ (jC.of rfl k_X8_put rfl ?_)
                  show jX m_X8_put 1 0 0 0 [(0, .ref 55), (1, .int u1), (2, .int 4), (3, .int a3)] [] _ 0 0 _
                  refine x_iloadn (x := u1) rfl rfl ?_
                  refine x_iflt (tgt := 38) rfl rfl (ti_lt rfl jk_0 (br_f (by omega) ?_))
                  refine x_iloadn (x := u1) rfl rfl ?_
                  refine x_aloadn (x := 55) rfl rfl ?_
                  refine z_getM (N := 4) (v := v15) 8 3 rfl f_8_7 rfl J rfl (jmo w28 rfl (jmo w25 rfl (jmo w22 rfl (jmo w19 rfl (jmw w16))))) ?_
                  refine x_icge (tgt := 38) rfl rfl (ti_ge rfl rfl (br_f (by omega) ?_))
                  refine x_iloadn (x := 4) rfl rfl ?_
                  refine x_iflt (tgt := 38) rfl rfl (ti_lt jk_4 jk_0 (br_f (by omega) ?_))
                  refine x_iloadn (x := 4) rfl rfl ?_
                  refine x_aloadn (x := 55) rfl rfl ?_
                  refine z_getC (N := 4) (v := 5) 8 0 rfl f_8_19 rfl J rfl sg_55_0_1_1_0_1 jk_5 ?_
                  refine x_icge (tgt := 38) rfl rfl (ti_ge jk_4 jk_5 (br_f (by omega) ?_))
                  refine x_aloadn (x := 55) rfl rfl ?_
                  refine z_getR (N := 4) (b := 56) 8 2 rfl f_8_25 rfl J rfl 7042 ⟨rfl, rfl⟩ rfl ?_
                  refine x_iloadn (x := u1) rfl rfl ?_
                  refine x_aloadn (x := 55) rfl rfl ?_
                  refine z_getC (N := 4) (v := 5) 8 0 rfl f_8_19 rfl J rfl sg_55_0_1_1_0_1 jk_5 ?_
                  refine z_imul rfl rfl jk_5 (by omega) (fun v29 ev29 => ?_)
                  refine x_iloadn (x := 4) rfl rfl ?_
                  refine z_iadd rfl rfl jk_4 (by omega) (fun v30 ev30 => ?_)
                  refine x_iloadn (x := a3) rfl rfl ?_
                  refine z_iast (N := 500) (l := 0) (u := 500) (w := a3.toInt) rfl hD J Sm rfl rfl rfl (by omega) rfl (wr_56 (fun q1 q2 q3 q4 => by omega) (fun q1 q2 q3 q4 => by omega) (fun q1 q2 q3 q4 => by omega) (fun q1 q2 q3 q4 => by omega) (fun q1 q2 q3 q4 => by omega)) rfl (fun h w31 J Sm => ?_)
                  refine x_vret rfl rfl ?_
                  show jX m_X8_add 2 0 0 68 [(7, .int u1), (0, .ref 55), (1, .int a5), (2, .int a4), (3, .int a2), (4, .int a1), (5, .int a3), (6, .int 0)] [] _ 0 0 _
                  refine x_aloadn (x := 55) rfl rfl ?_
                  refine x_iload (x := u1) rfl rfl ?_
                  refine x_iconst (v := 5) rfl ki_5 ?_
                  refine x_iload (x := 0) rfl rfl ?_
                  refine x_inv (N := m_X8_put) (As := [.int u1, .int 5, .int 0]) (b := 55) (st := []) (dx9 := 1) (mc := 0) (ms := 0) (host := "") 8 rfl t_X8_put ⟨Or.inl q_8_29, i_X8_put.1, i_X8_put.2⟩ ⟨by decide, rfl⟩ (congrArg Prod.fst (J.1.1 55 (8, 4) rfl)) rfl (by decide) rfl rfl ⟨by decide, by decide⟩ (jC.of rfl k_X8_put rfl ?_)
                  show jX m_X8_put 1 0 0 0 [(0, .ref 55), (1, .int u1), (2, .int 5), (3, .int 0)] [] _ 0 0 _
                  refine x_iloadn (x := u1) rfl rfl ?_
                  refine x_iflt (tgt := 38) rfl rfl (ti_lt rfl jk_0 (br_f (by omega) ?_))
                  refine x_iloadn (x := u1) rfl rfl ?_
                  refine x_aloadn (x := 55) rfl rfl ?_
                  refine z_getM (N := 4) (v := v15) 8 3 rfl f_8_7 rfl J rfl (jmo w31 rfl (jmo w28 rfl (jmo w25 rfl (jmo w22 rfl (jmo w19 rfl (jmw w16)))))) ?_
                  refine x_icge (tgt := 38) rfl rfl (ti_ge rfl rfl (br_f (by omega) ?_))
                  refine x_iloadn (x := 5) rfl rfl ?_
                  refine x_iflt (tgt := 38) rfl rfl (ti_lt jk_5 jk_0 (br_f (by omega) ?_))
                  refine x_iloadn (x := 5) rfl rfl ?_
                  refine x_aloadn (x := 55) rfl rfl ?_
                  refine z_getC (N := 4) (v := 5) 8 0 rfl f_8_19 rfl J rfl sg_55_0_1_1_0_1 jk_5 ?_
                  refine x_icge (tgt := 38) rfl rfl (ti_ge jk_5 jk_5 (br_t (by omega) ?_))
                  refine x_vret rfl rfl ?_
                  show jX m_X8_add 2 0 0 77 [(7, .int u1), (0, .ref 55), (1, .int a5), (2, .int a4), (3, .int a2), (4, .int a1), (5, .int a3), (6, .int 0)] [] _ 0 0 _
                  refine x_vret rfl rfl ?_
                  show jX m_X11_pay 3 0 0 104 [(0, .ref 31), (1, .int a1), (2, .int a2), (3, .int a3), (4, .int a4), (5, .int a5)] [] _ 0 0 _
                  refine x_aloadn (x := 31) rfl rfl ?_
                  refine x_aloadn (x := 31) rfl rfl ?_
                  refine z_getR (N := 13) (b := 32) 11 0 rfl f_11_10 rfl J rfl 3968 ⟨rfl, rfl⟩ rfl ?_
                  refine z_getR (N := 20) (b := 55) 1 11 rfl f_11_452 rfl J rfl 4107 ⟨rfl, rfl⟩ rfl ?_
                  refine z_getM (N := 4) (v := v15) 8 3 rfl f_11_142 rfl J rfl (jmo w31 rfl (jmo w28 rfl (jmo w25 rfl (jmo w22 rfl (jmo w19 rfl (jmw w16)))))) ?_
                  refine x_inv (N := m_X11_accept) (As := [.int v15]) (b := 31) (st := []) (dx9 := 2) (mc := 0) (ms := 0) (host := "") 11 rfl t_X11_accept ⟨Or.inl q_11_165, i_X11_accept.1, i_X11_accept.2⟩ ⟨by decide, rfl⟩ (congrArg Prod.fst (J.1.1 31 (11, 13) rfl)) rfl (by decide) rfl rfl ⟨by decide, by decide⟩ (jC.of rfl k_X11_accept rfl ?_)
                  show jX m_X11_accept 2 0 0 0 [(0, .ref 31), (1, .int v15)] [] _ 0 0 _
                  refine x_aloadn (x := 31) rfl rfl ?_
                  refine x_iconst (v := 0) rfl ki_0 ?_
                  refine z_putI (N := 13) (w := 0) 11 12 rfl f_11_94 rfl (jfin_no TX11 RX11 13 rfl rfl) hD J Sm rfl rfl jk_0 (pw_31_12 (by omega)) rfl (fun h w32 J Sm => ?_)
                  refine x_aloadn (x := 31) rfl rfl ?_
                  refine z_getR (N := 13) (b := 32) 11 0 rfl f_11_10 rfl J rfl 3968 ⟨rfl, rfl⟩ rfl ?_
                  refine x_dup rfl rfl ?_
                  refine z_getI0 (N := 20) 1 19 rfl f_11_528 rfl J rfl (fun v33 qv33 => ?_)
                  have ev33 := jfull v33
                  refine x_iconst (v := 1) rfl ki_1 ?_
                  refine z_iadd0 rfl (fun v34 => ?_)
                  have ev34 := jfull v34
                  refine z_putI (N := 20) (w := v34.toInt) 1 19 rfl f_11_528 rfl (jfin_no TX1 RX1 20 rfl rfl) hD J Sm rfl rfl rfl (pw_32_19 trivial) rfl (fun h w35 J Sm => ?_)
                  refine x_iloadn (x := v15) rfl rfl ?_
                  refine x_iret rfl rfl ?_
                  show jX m_X11_pay 3 0 0 118 [(0, .ref 31), (1, .int a1), (2, .int a2), (3, .int a3), (4, .int a4), (5, .int a5)] [.int v15] _ 0 0 _
                  refine x_iret rfl rfl ?_
                  exact hQ _ _ (jr_of rfl (by omega)) J Sm (Or.inr (Or.inr (Or.inr ⟨(by omega), (by omega), (by omega), (by omega), (tw_5 (jmo w35 rfl (jmo w32 rfl (jmo w31 rfl (jmo w28 rfl (jmo w25 rfl (jmo w22 rfl (jmo w19 rfl (jmw w16)))))))) qu1 (by omega) (by omega) (ov_o w35 rfl (ov_o w32 rfl (ov_w w31 (ov_w w28 (ov_w w25 (ov_w w22 (ov_w w19 (ov_o w16 rfl rfl)))))))) (jix (by omega) (by omega)) (jix (by omega) (by omega)) (jix (by omega) (by omega)) (jix (by omega) (by omega)) (jix (by omega) (by omega)))⟩)))
                ·
                  refine x_iconst (v := 1) rfl ki_1 ?_
                  refine x_goto (tgt := 16) rfl rfl ?_
                  refine x_zret rfl rfl (by decide) ?_
                  show jX m_X11_pay 3 0 0 76 [(0, .ref 31), (1, .int a1), (2, .int a2), (3, .int a3), (4, .int a4), (5, .int a5)] [.int 1] _ 0 0 _
                  refine x_ifeq (tgt := 86) rfl rfl (ti_eq jk_1 jk_0 (br_f (by omega) ?_))
                  refine x_aloadn (x := 31) rfl rfl ?_
                  refine x_bipush (v := (-5)) rfl kb_m5 ?_
                  refine x_inv (N := m_X11_refuse) (As := [.int (-5)]) (b := 31) (st := []) (dx9 := 2) (mc := 0) (ms := 0) (host := "") 11 rfl t_X11_refuse ⟨Or.inl q_11_206, i_X11_refuse.1, i_X11_refuse.2⟩ ⟨by decide, rfl⟩ (congrArg Prod.fst (J.1.1 31 (11, 13) rfl)) rfl (by decide) rfl rfl ⟨by decide, by decide⟩ (jC.of rfl k_X11_refuse rfl ?_)
                  show jX m_X11_refuse 2 0 0 0 [(0, .ref 31), (1, .int (-5))] [] _ 0 0 _
                  refine x_aloadn (x := 31) rfl rfl ?_
                  refine x_iloadn (x := (-5)) rfl rfl ?_
                  refine z_putI (N := 13) (w := (-5)) 11 12 rfl f_11_94 rfl (jfin_no TX11 RX11 13 rfl rfl) hD J Sm rfl rfl jk_m5 (pw_31_12 (by omega)) rfl (fun h w36 J Sm => ?_)
                  refine x_iloadn (x := (-5)) rfl rfl ?_
                  refine x_iret rfl rfl ?_
                  show jX m_X11_pay 3 0 0 85 [(0, .ref 31), (1, .int a1), (2, .int a2), (3, .int a3), (4, .int a4), (5, .int a5)] [.int (-5)] _ 0 0 _
                  refine x_iret rfl rfl ?_
                  exact hQ _ _ (jr_of jk_m5 (by omega)) J Sm (Or.inr (Or.inr (Or.inl ⟨(by omega), (by omega), (by omega), jk_m5, ⟨congrFun (ov_o w36 rfl rfl) 3, (ov_o w36 rfl rfl)⟩⟩)))
      ·
        exact jX.sub (jsb_c rfl jsb_n) (ct_X11_pay_r31p_27 yy_a1 yy_a2 yy_a3 yy_a4 yy_a5 hD hQ  h ⟨rfl, by omega⟩ J Sm)
def fp_X11_price_r31p : jFp := [(31, 12, 13), (32, 19, 20), (61, 3, 4), (62, 0, 400)]
set_option maxRecDepth 100000 in
set_option maxHeartbeats 4000000 in
theorem ct_X11_price_r31p_33 {Dy : jH → Prop} {h0 : jH} {Q : Option Value → jH → Prop} {a1 : Int32} (yy_a1 : (-2147483648) ≤ a1.toInt ∧ a1.toInt ≤ 2147483647) {a2 : Int32} (yy_a2 : (-2147483648) ≤ a2.toInt ∧ a2.toInt ≤ 2147483647) {a3 : Int32} (yy_a3 : (-2147483648) ≤ a3.toInt ∧ a3.toInt ≤ 2147483647) {a4 : Int32} (yy_a4 : (-2147483648) ≤ a4.toInt ∧ a4.toInt ≤ 2147483647) (hD : jDk Dy) (hQ : ∀ (v : Int32) hx9, (-5) ≤ v.toInt ∧ v.toInt ≤ 100 → jJ jSgX Dy hx9 → jSm fp_X11_price_r31p h0 hx9 → ((¬ (0 ≤ a1.toInt ∧ a1.toInt ≤ 2 ∧ 0 ≤ a2.toInt ∧ a2.toInt ≤ 399 ∧ 0 ≤ a3.toInt ∧ a3.toInt ≤ 10000 ∧ 0 ≤ a4.toInt ∧ a4.toInt ≤ 146399) ∧ v.toInt = -1 ∧ jTe 61 h0 hx9) ∨ ((0 ≤ a1.toInt ∧ a1.toInt ≤ 2 ∧ 0 ≤ a2.toInt ∧ a2.toInt ≤ 399 ∧ 0 ≤ a3.toInt ∧ a3.toInt ≤ 10000 ∧ 0 ≤ a4.toInt ∧ a4.toInt ≤ 146399) ∧ (jiv h0 61 3).toInt = 100 ∧ v.toInt = -5 ∧ jTe 61 h0 hx9) ∨ ((0 ≤ a1.toInt ∧ a1.toInt ≤ 2 ∧ 0 ≤ a2.toInt ∧ a2.toInt ≤ 399 ∧ 0 ≤ a3.toInt ∧ a3.toInt ≤ 10000 ∧ 0 ≤ a4.toInt ∧ a4.toInt ≤ 146399) ∧ (jiv h0 61 3).toInt < 100 ∧ v.toInt = (jiv h0 61 3).toInt + 1 ∧ jTwr 61 4 [a4, a2, a1, a3] h0 hx9)) → Q (some (.int v)) hx9) : ∀ (h : jH), (h = h0 ∧ ¬ (0 ≤ a1.toInt ∧ a1.toInt ≤ 2 ∧ 0 ≤ a2.toInt ∧ a2.toInt ≤ 399 ∧ 0 ≤ a3.toInt ∧ a3.toInt ≤ 10000 ∧ 0 ≤ a4.toInt ∧ a4.toInt ≤ 146399)) → jJ jSgX Dy h → jSm fp_X11_price_r31p h0 h → jX m_X11_price 3 0 0 33 [(0, .ref 31)] [] h 0 0 Q := by
  intro  h C0   J Sm
  refine x_aloadn (x := 31) rfl rfl ?_
  refine x_iconst (v := (-1)) rfl ki_m1 ?_
  refine x_inv (N := m_X11_refuse) (As := [.int (-1)]) (b := 31) (st := []) (dx9 := 2) (mc := 0) (ms := 0) (host := "") 11 rfl t_X11_refuse ⟨Or.inl q_11_206, i_X11_refuse.1, i_X11_refuse.2⟩ ⟨by decide, rfl⟩ (congrArg Prod.fst (J.1.1 31 (11, 13) rfl)) rfl (by decide) rfl rfl ⟨by decide, by decide⟩ (jC.of rfl k_X11_refuse rfl ?_)
  show jX m_X11_refuse 2 0 0 0 [(0, .ref 31), (1, .int (-1))] [] _ 0 0 _
  refine x_aloadn (x := 31) rfl rfl ?_
  refine x_iloadn (x := (-1)) rfl rfl ?_
  refine z_putI (N := 13) (w := (-1)) 11 12 rfl f_11_94 rfl (jfin_no TX11 RX11 13 rfl rfl) hD J Sm rfl rfl jk_m1 (pw_31_12 (by omega)) rfl (fun h w1 J Sm => ?_)
  refine x_iloadn (x := (-1)) rfl rfl ?_
  refine x_iret rfl rfl ?_
  show jX m_X11_price 3 0 0 38 [(0, .ref 31)] [.int (-1)] _ 0 0 _
  refine x_iret rfl rfl ?_
  exact hQ _ _ (jr_of jk_m1 (by omega)) J Sm (Or.inl ⟨C0.2, jk_m1, ⟨congrFun (ov_o w1 rfl (ov_e C0.1)) 3, (ov_o w1 rfl (ov_e C0.1))⟩⟩)
set_option maxRecDepth 100000 in
set_option maxHeartbeats 4000000 in
theorem sf_X11_price_r31p {Dy : jH → Prop} {h : jH} {Q : Option Value → jH → Prop} {a1 : Int32} {a2 : Int32} {a3 : Int32} {a4 : Int32} (hD : jDk Dy) (J : jJ jSgX Dy h) (hQ : ∀ (v : Int32) hx9, (-5) ≤ v.toInt ∧ v.toInt ≤ 100 → jJ jSgX Dy hx9 → jSm fp_X11_price_r31p h hx9 → ((¬ (0 ≤ a1.toInt ∧ a1.toInt ≤ 2 ∧ 0 ≤ a2.toInt ∧ a2.toInt ≤ 399 ∧ 0 ≤ a3.toInt ∧ a3.toInt ≤ 10000 ∧ 0 ≤ a4.toInt ∧ a4.toInt ≤ 146399) ∧ v.toInt = -1 ∧ jTe 61 h hx9) ∨ ((0 ≤ a1.toInt ∧ a1.toInt ≤ 2 ∧ 0 ≤ a2.toInt ∧ a2.toInt ≤ 399 ∧ 0 ≤ a3.toInt ∧ a3.toInt ≤ 10000 ∧ 0 ≤ a4.toInt ∧ a4.toInt ≤ 146399) ∧ (jiv h 61 3).toInt = 100 ∧ v.toInt = -5 ∧ jTe 61 h hx9) ∨ ((0 ≤ a1.toInt ∧ a1.toInt ≤ 2 ∧ 0 ≤ a2.toInt ∧ a2.toInt ≤ 399 ∧ 0 ≤ a3.toInt ∧ a3.toInt ≤ 10000 ∧ 0 ≤ a4.toInt ∧ a4.toInt ≤ 146399) ∧ (jiv h 61 3).toInt < 100 ∧ v.toInt = (jiv h 61 3).toInt + 1 ∧ jTwr 61 4 [a4, a2, a1, a3] h hx9)) → Q (some (.int v)) hx9) : jC m_X11_price 3 0 0 [.ref 31, .int a1, .int a2, .int a3, .int a4] h Q := by
  refine jC.of rfl k_X11_price rfl ?_
  have Sm := jSm_rf fp_X11_price_r31p h
  have yy_a1 := jfull a1
  have yy_a2 := jfull a2
  have yy_a3 := jfull a3
  have yy_a4 := jfull a4
  have ea1 := jfull a1
  have ea2 := jfull a2
  have ea3 := jfull a3
  have ea4 := jfull a4
  show jX m_X11_price 3 0 0 0 [(0, .ref 31), (1, .int a1), (2, .int a2), (3, .int a3), (4, .int a4)] [] _ 0 0 _
  obtain ⟨u1, qu1⟩ : ∃ v : Int32, jiv h 61 3 = v := ⟨_, rfl⟩
  have eu1 := (show 0 ≤ u1.toInt ∧ u1.toInt ≤ 100 from qu1 ▸ jrg_f J sg_61_3_4_1_0_1)
  have ou1 := congrArg Int32.toInt qu1
  refine x_iloadn (x := a1) rfl rfl ?_
  refine x_inst (N := m_X11_isCrop) (As := [.int a1]) (st := []) (dx9 := 1) (mc := 0) (ms := 0) (host := "") rfl t_X11_isCrop ⟨Or.inl q_11_500, s_X11_isCrop⟩ rfl (by decide) rfl rfl ⟨by decide, by decide⟩ (zc_X11_isCrop rfl (fun v2 ev2 => ?_))
  show jX m_X11_price 3 0 0 4 [(0, .ref 31), (1, .int a1), (2, .int a2), (3, .int a3), (4, .int a4)] [.int v2] _ 0 0 _
  refine x_ifeq (tgt := 33) rfl rfl (ti_eq rfl jk_0 ⟨fun c3 => ?_, fun c3 => ?_⟩)
  ·
    exact jX.sub (jsb_c rfl jsb_n) (ct_X11_price_r31p_33 yy_a1 yy_a2 yy_a3 yy_a4 hD hQ  h ⟨rfl, by omega⟩ J Sm)
  ·
    refine x_iloadn (x := a2) rfl rfl ?_
    refine x_inst (N := m_X11_isYear) (As := [.int a2]) (st := []) (dx9 := 1) (mc := 0) (ms := 0) (host := "") rfl t_X11_isYear ⟨Or.inl q_11_433, s_X11_isYear⟩ rfl (by decide) rfl rfl ⟨by decide, by decide⟩ (zc_X11_isYear rfl (fun v4 ev4 => ?_))
    show jX m_X11_price 3 0 0 11 [(0, .ref 31), (1, .int a1), (2, .int a2), (3, .int a3), (4, .int a4)] [.int v4] _ 0 0 _
    refine x_ifeq (tgt := 33) rfl rfl (ti_eq rfl jk_0 ⟨fun c5 => ?_, fun c5 => ?_⟩)
    ·
      exact jX.sub (jsb_c rfl jsb_n) (ct_X11_price_r31p_33 yy_a1 yy_a2 yy_a3 yy_a4 hD hQ  h ⟨rfl, by omega⟩ J Sm)
    ·
      refine x_iloadn (x := a3) rfl rfl ?_
      refine x_iconst (v := 0) rfl ki_0 ?_
      refine x_sipush (v := 10000) rfl ks_10000 ?_
      refine x_inst (N := m_X11_isWithin) (As := [.int a3, .int 0, .int 10000]) (st := []) (dx9 := 1) (mc := 0) (ms := 0) (host := "") rfl t_X11_isWithin ⟨Or.inl q_11_202, s_X11_isWithin⟩ rfl (by decide) rfl rfl ⟨by decide, by decide⟩ (zc_X11_isWithin rfl jk_0 jk_10000 (fun v6 ev6 => ?_))
      show jX m_X11_price 3 0 0 22 [(0, .ref 31), (1, .int a1), (2, .int a2), (3, .int a3), (4, .int a4)] [.int v6] _ 0 0 _
      refine x_ifeq (tgt := 33) rfl rfl (ti_eq rfl jk_0 ⟨fun c7 => ?_, fun c7 => ?_⟩)
      ·
        exact jX.sub (jsb_c rfl jsb_n) (ct_X11_price_r31p_33 yy_a1 yy_a2 yy_a3 yy_a4 hD hQ  h ⟨rfl, by omega⟩ J Sm)
      ·
        refine x_iload (x := a4) rfl rfl ?_
        refine x_inst (N := m_X11_isDay) (As := [.int a4]) (st := []) (dx9 := 1) (mc := 0) (ms := 0) (host := "") rfl t_X11_isDay ⟨Or.inl q_11_115, s_X11_isDay⟩ rfl (by decide) rfl rfl ⟨by decide, by decide⟩ (zc_X11_isDay rfl (fun v8 ev8 => ?_))
        show jX m_X11_price 3 0 0 30 [(0, .ref 31), (1, .int a1), (2, .int a2), (3, .int a3), (4, .int a4)] [.int v8] _ 0 0 _
        refine x_ifne (tgt := 39) rfl rfl (ti_ne rfl jk_0 ⟨fun c9 => ?_, fun c9 => ?_⟩)
        ·
          refine x_aloadn (x := 31) rfl rfl ?_
          refine z_getR (N := 13) (b := 32) 11 0 rfl f_11_10 rfl J rfl 3968 ⟨rfl, rfl⟩ rfl ?_
          refine z_getR (N := 20) (b := 61) 1 14 rfl f_11_503 rfl J rfl 4110 ⟨rfl, rfl⟩ rfl ?_
          refine x_inv (N := m_X8_isFull) (As := []) (b := 61) (st := []) (dx9 := 2) (mc := 0) (ms := 0) (host := "") 8 rfl t_X8_isFull ⟨Or.inl q_11_130, i_X8_isFull.1, i_X8_isFull.2⟩ ⟨by decide, rfl⟩ (congrArg Prod.fst (J.1.1 61 (8, 4) rfl)) rfl (by decide) rfl rfl ⟨by decide, by decide⟩ (jC.of rfl k_X8_isFull rfl ?_)
          show jX m_X8_isFull 2 0 0 0 [(0, .ref 61)] [] _ 0 0 _
          refine x_aloadn (x := 61) rfl rfl ?_
          refine z_getM (N := 4) (v := u1) 8 3 rfl f_8_7 rfl J rfl qu1 ?_
          refine x_aloadn (x := 61) rfl rfl ?_
          refine z_getC (N := 4) (v := 100) 8 1 rfl f_8_22 rfl J rfl sg_61_1_2_1_0_1 jk_100 ?_
          refine x_iclt (tgt := 15) rfl rfl (ti_lt rfl jk_100 ⟨fun c10 => ?_, fun c10 => ?_⟩)
          ·
            refine x_iconst (v := 0) rfl ki_0 ?_
            refine x_zret rfl rfl (by decide) ?_
            show jX m_X11_price 3 0 0 49 [(0, .ref 31), (1, .int a1), (2, .int a2), (3, .int a3), (4, .int a4)] [.int 0] _ 0 0 _
            refine x_ifeq (tgt := 59) rfl rfl (ti_eq jk_0 jk_0 (br_t (by omega) ?_))
            refine x_aloadn (x := 31) rfl rfl ?_
            refine z_getR (N := 13) (b := 32) 11 0 rfl f_11_10 rfl J rfl 3968 ⟨rfl, rfl⟩ rfl ?_
            refine z_getR (N := 20) (b := 61) 1 14 rfl f_11_503 rfl J rfl 4110 ⟨rfl, rfl⟩ rfl ?_
            refine x_iload (x := a4) rfl rfl ?_
            refine x_iloadn (x := a2) rfl rfl ?_
            refine x_iloadn (x := a1) rfl rfl ?_
            refine x_iloadn (x := a3) rfl rfl ?_
            refine x_iconst (v := 0) rfl ki_0 ?_
            refine x_iconst (v := 0) rfl ki_0 ?_
            refine x_inv (N := m_X8_add) (As := [.int a4, .int a2, .int a1, .int a3, .int 0, .int 0]) (b := 61) (st := []) (dx9 := 2) (mc := 0) (ms := 0) (host := "") 8 rfl t_X8_add ⟨Or.inl q_11_145, i_X8_add.1, i_X8_add.2⟩ ⟨by decide, rfl⟩ (congrArg Prod.fst (J.1.1 61 (8, 4) rfl)) rfl (by decide) rfl rfl ⟨by decide, by decide⟩ (jC.of rfl k_X8_add rfl ?_)
            show jX m_X8_add 2 0 0 0 [(0, .ref 61), (1, .int a4), (2, .int a2), (3, .int a1), (4, .int a3), (5, .int 0), (6, .int 0)] [] _ 0 0 _
            refine x_aloadn (x := 61) rfl rfl ?_
            refine z_getM (N := 4) (v := u1) 8 3 rfl f_8_7 rfl J rfl qu1 ?_
            refine x_aloadn (x := 61) rfl rfl ?_
            refine z_getC (N := 4) (v := 100) 8 1 rfl f_8_22 rfl J rfl sg_61_1_2_1_0_1 jk_100 ?_
            refine x_iclt (tgt := 12) rfl rfl (ti_lt rfl jk_100 (br_t (by omega) ?_))
            refine x_aloadn (x := 61) rfl rfl ?_
            refine z_getM (N := 4) (v := u1) 8 3 rfl f_8_7 rfl J rfl qu1 ?_
            refine x_istore (lsx9 := [(7, .int u1), (0, .ref 61), (1, .int a4), (2, .int a2), (3, .int a1), (4, .int a3), (5, .int 0), (6, .int 0)]) rfl rfl rfl ?_
            refine x_aloadn (x := 61) rfl rfl ?_
            refine x_iload (x := u1) rfl rfl ?_
            refine x_iconst (v := 1) rfl ki_1 ?_
            refine z_iadd rfl rfl jk_1 (by omega) (fun v11 ev11 => ?_)
            refine z_putI (N := 4) (w := v11.toInt) 8 3 rfl f_8_7 rfl (jfin_no TX8 RX8 4 rfl rfl) hD J Sm rfl rfl rfl (pw_61_3 (by omega)) rfl (fun h w12 J Sm => ?_)
            refine x_aloadn (x := 61) rfl rfl ?_
            refine x_iload (x := u1) rfl rfl ?_
            refine x_iconst (v := 0) rfl ki_0 ?_
            refine x_iloadn (x := a4) rfl rfl ?_
            refine x_inv (N := m_X8_put) (As := [.int u1, .int 0, .int a4]) (b := 61) (st := []) (dx9 := 1) (mc := 0) (ms := 0) (host := "") 8 rfl t_X8_put ⟨Or.inl q_8_29, i_X8_put.1, i_X8_put.2⟩ ⟨by decide, rfl⟩ (congrArg Prod.fst (J.1.1 61 (8, 4) rfl)) rfl (by decide) rfl rfl ⟨by decide, by decide⟩ (jC.of rfl k_X8_put rfl ?_)
            show jX m_X8_put 1 0 0 0 [(0, .ref 61), (1, .int u1), (2, .int 0), (3, .int a4)] [] _ 0 0 _
            refine x_iloadn (x := u1) rfl rfl ?_
            refine x_iflt (tgt := 38) rfl rfl (ti_lt rfl jk_0 (br_f (by omega) ?_))
            refine x_iloadn (x := u1) rfl rfl ?_
            refine x_aloadn (x := 61) rfl rfl ?_
            refine z_getM (N := 4) (v := v11) 8 3 rfl f_8_7 rfl J rfl (jmw w12) ?_
            refine x_icge (tgt := 38) rfl rfl (ti_ge rfl rfl (br_f (by omega) ?_))
            refine x_iloadn (x := 0) rfl rfl ?_
            refine x_iflt (tgt := 38) rfl rfl (ti_lt jk_0 jk_0 (br_f (by omega) ?_))
            refine x_iloadn (x := 0) rfl rfl ?_
            refine x_aloadn (x := 61) rfl rfl ?_
            refine z_getC (N := 4) (v := 4) 8 0 rfl f_8_19 rfl J rfl sg_61_0_1_1_0_1 jk_4 ?_
            refine x_icge (tgt := 38) rfl rfl (ti_ge jk_0 jk_4 (br_f (by omega) ?_))
            refine x_aloadn (x := 61) rfl rfl ?_
            refine z_getR (N := 4) (b := 62) 8 2 rfl f_8_25 rfl J rfl 7810 ⟨rfl, rfl⟩ rfl ?_
            refine x_iloadn (x := u1) rfl rfl ?_
            refine x_aloadn (x := 61) rfl rfl ?_
            refine z_getC (N := 4) (v := 4) 8 0 rfl f_8_19 rfl J rfl sg_61_0_1_1_0_1 jk_4 ?_
            refine z_imul rfl rfl jk_4 (by omega) (fun v13 ev13 => ?_)
            refine x_iloadn (x := 0) rfl rfl ?_
            refine z_iadd rfl rfl jk_0 (by omega) (fun v14 ev14 => ?_)
            refine x_iloadn (x := a4) rfl rfl ?_
            refine z_iast (N := 400) (l := 0) (u := 400) (w := a4.toInt) rfl hD J Sm rfl rfl rfl (by omega) rfl (wr_62 (fun q1 q2 q3 q4 => by omega) (fun q1 q2 q3 q4 => by omega) (fun q1 q2 q3 q4 => by omega) (fun q1 q2 q3 q4 => by omega)) rfl (fun h w15 J Sm => ?_)
            refine x_vret rfl rfl ?_
            show jX m_X8_add 2 0 0 34 [(7, .int u1), (0, .ref 61), (1, .int a4), (2, .int a2), (3, .int a1), (4, .int a3), (5, .int 0), (6, .int 0)] [] _ 0 0 _
            refine x_aloadn (x := 61) rfl rfl ?_
            refine x_iload (x := u1) rfl rfl ?_
            refine x_iconst (v := 1) rfl ki_1 ?_
            refine x_iloadn (x := a2) rfl rfl ?_
            refine x_inv (N := m_X8_put) (As := [.int u1, .int 1, .int a2]) (b := 61) (st := []) (dx9 := 1) (mc := 0) (ms := 0) (host := "") 8 rfl t_X8_put ⟨Or.inl q_8_29, i_X8_put.1, i_X8_put.2⟩ ⟨by decide, rfl⟩ (congrArg Prod.fst (J.1.1 61 (8, 4) rfl)) rfl (by decide) rfl rfl ⟨by decide, by decide⟩ (jC.of rfl k_X8_put rfl ?_)
            show jX m_X8_put 1 0 0 0 [(0, .ref 61), (1, .int u1), (2, .int 1), (3, .int a2)] [] _ 0 0 _
            refine x_iloadn (x := u1) rfl rfl ?_
            refine x_iflt (tgt := 38) rfl rfl (ti_lt rfl jk_0 (br_f (by omega) ?_))
            refine x_iloadn (x := u1) rfl rfl ?_
            refine x_aloadn (x := 61) rfl rfl ?_
            refine z_getM (N := 4) (v := v11) 8 3 rfl f_8_7 rfl J rfl (jmo w15 rfl (jmw w12)) ?_
            refine x_icge (tgt := 38) rfl rfl (ti_ge rfl rfl (br_f (by omega) ?_))
            refine x_iloadn (x := 1) rfl rfl ?_
            refine x_iflt (tgt := 38) rfl rfl (ti_lt jk_1 jk_0 (br_f (by omega) ?_))
            refine x_iloadn (x := 1) rfl rfl ?_
            refine x_aloadn (x := 61) rfl rfl ?_
            refine z_getC (N := 4) (v := 4) 8 0 rfl f_8_19 rfl J rfl sg_61_0_1_1_0_1 jk_4 ?_
            refine x_icge (tgt := 38) rfl rfl (ti_ge jk_1 jk_4 (br_f (by omega) ?_))
            refine x_aloadn (x := 61) rfl rfl ?_
            refine z_getR (N := 4) (b := 62) 8 2 rfl f_8_25 rfl J rfl 7810 ⟨rfl, rfl⟩ rfl ?_
            refine x_iloadn (x := u1) rfl rfl ?_
            refine x_aloadn (x := 61) rfl rfl ?_
            refine z_getC (N := 4) (v := 4) 8 0 rfl f_8_19 rfl J rfl sg_61_0_1_1_0_1 jk_4 ?_
            refine z_imul rfl rfl jk_4 (by omega) (fun v16 ev16 => ?_)
            refine x_iloadn (x := 1) rfl rfl ?_
            refine z_iadd rfl rfl jk_1 (by omega) (fun v17 ev17 => ?_)
            refine x_iloadn (x := a2) rfl rfl ?_
            refine z_iast (N := 400) (l := 0) (u := 400) (w := a2.toInt) rfl hD J Sm rfl rfl rfl (by omega) rfl (wr_62 (fun q1 q2 q3 q4 => by omega) (fun q1 q2 q3 q4 => by omega) (fun q1 q2 q3 q4 => by omega) (fun q1 q2 q3 q4 => by omega)) rfl (fun h w18 J Sm => ?_)
            refine x_vret rfl rfl ?_
            show jX m_X8_add 2 0 0 42 [(7, .int u1), (0, .ref 61), (1, .int a4), (2, .int a2), (3, .int a1), (4, .int a3), (5, .int 0), (6, .int 0)] [] _ 0 0 _
            refine x_aloadn (x := 61) rfl rfl ?_
            refine x_iload (x := u1) rfl rfl ?_
            refine x_iconst (v := 2) rfl ki_2 ?_
            refine x_iloadn (x := a1) rfl rfl ?_
            refine x_inv (N := m_X8_put) (As := [.int u1, .int 2, .int a1]) (b := 61) (st := []) (dx9 := 1) (mc := 0) (ms := 0) (host := "") 8 rfl t_X8_put ⟨Or.inl q_8_29, i_X8_put.1, i_X8_put.2⟩ ⟨by decide, rfl⟩ (congrArg Prod.fst (J.1.1 61 (8, 4) rfl)) rfl (by decide) rfl rfl ⟨by decide, by decide⟩ (jC.of rfl k_X8_put rfl ?_)
            show jX m_X8_put 1 0 0 0 [(0, .ref 61), (1, .int u1), (2, .int 2), (3, .int a1)] [] _ 0 0 _
            refine x_iloadn (x := u1) rfl rfl ?_
            refine x_iflt (tgt := 38) rfl rfl (ti_lt rfl jk_0 (br_f (by omega) ?_))
            refine x_iloadn (x := u1) rfl rfl ?_
            refine x_aloadn (x := 61) rfl rfl ?_
            refine z_getM (N := 4) (v := v11) 8 3 rfl f_8_7 rfl J rfl (jmo w18 rfl (jmo w15 rfl (jmw w12))) ?_
            refine x_icge (tgt := 38) rfl rfl (ti_ge rfl rfl (br_f (by omega) ?_))
            refine x_iloadn (x := 2) rfl rfl ?_
            refine x_iflt (tgt := 38) rfl rfl (ti_lt jk_2 jk_0 (br_f (by omega) ?_))
            refine x_iloadn (x := 2) rfl rfl ?_
            refine x_aloadn (x := 61) rfl rfl ?_
            refine z_getC (N := 4) (v := 4) 8 0 rfl f_8_19 rfl J rfl sg_61_0_1_1_0_1 jk_4 ?_
            refine x_icge (tgt := 38) rfl rfl (ti_ge jk_2 jk_4 (br_f (by omega) ?_))
            refine x_aloadn (x := 61) rfl rfl ?_
            refine z_getR (N := 4) (b := 62) 8 2 rfl f_8_25 rfl J rfl 7810 ⟨rfl, rfl⟩ rfl ?_
            refine x_iloadn (x := u1) rfl rfl ?_
            refine x_aloadn (x := 61) rfl rfl ?_
            refine z_getC (N := 4) (v := 4) 8 0 rfl f_8_19 rfl J rfl sg_61_0_1_1_0_1 jk_4 ?_
            refine z_imul rfl rfl jk_4 (by omega) (fun v19 ev19 => ?_)
            refine x_iloadn (x := 2) rfl rfl ?_
            refine z_iadd rfl rfl jk_2 (by omega) (fun v20 ev20 => ?_)
            refine x_iloadn (x := a1) rfl rfl ?_
            refine z_iast (N := 400) (l := 0) (u := 400) (w := a1.toInt) rfl hD J Sm rfl rfl rfl (by omega) rfl (wr_62 (fun q1 q2 q3 q4 => by omega) (fun q1 q2 q3 q4 => by omega) (fun q1 q2 q3 q4 => by omega) (fun q1 q2 q3 q4 => by omega)) rfl (fun h w21 J Sm => ?_)
            refine x_vret rfl rfl ?_
            show jX m_X8_add 2 0 0 50 [(7, .int u1), (0, .ref 61), (1, .int a4), (2, .int a2), (3, .int a1), (4, .int a3), (5, .int 0), (6, .int 0)] [] _ 0 0 _
            refine x_aloadn (x := 61) rfl rfl ?_
            refine x_iload (x := u1) rfl rfl ?_
            refine x_iconst (v := 3) rfl ki_3 ?_
            refine x_iload (x := a3) rfl rfl ?_
            refine x_inv (N := m_X8_put) (As := [.int u1, .int 3, .int a3]) (b := 61) (st := []) (dx9 := 1) (mc := 0) (ms := 0) (host := "") 8 rfl t_X8_put ⟨Or.inl q_8_29, i_X8_put.1, i_X8_put.2⟩ ⟨by decide, rfl⟩ (congrArg Prod.fst (J.1.1 61 (8, 4) rfl)) rfl (by decide) rfl rfl ⟨by decide, by decide⟩ (jC.of rfl k_X8_put rfl ?_)
            show jX m_X8_put 1 0 0 0 [(0, .ref 61), (1, .int u1), (2, .int 3), (3, .int a3)] [] _ 0 0 _
            refine x_iloadn (x := u1) rfl rfl ?_
            refine x_iflt (tgt := 38) rfl rfl (ti_lt rfl jk_0 (br_f (by omega) ?_))
            refine x_iloadn (x := u1) rfl rfl ?_
            refine x_aloadn (x := 61) rfl rfl ?_
            refine z_getM (N := 4) (v := v11) 8 3 rfl f_8_7 rfl J rfl (jmo w21 rfl (jmo w18 rfl (jmo w15 rfl (jmw w12)))) ?_
            refine x_icge (tgt := 38) rfl rfl (ti_ge rfl rfl (br_f (by omega) ?_))
            refine x_iloadn (x := 3) rfl rfl ?_
            refine x_iflt (tgt := 38) rfl rfl (ti_lt jk_3 jk_0 (br_f (by omega) ?_))
            refine x_iloadn (x := 3) rfl rfl ?_
            refine x_aloadn (x := 61) rfl rfl ?_
            refine z_getC (N := 4) (v := 4) 8 0 rfl f_8_19 rfl J rfl sg_61_0_1_1_0_1 jk_4 ?_
            refine x_icge (tgt := 38) rfl rfl (ti_ge jk_3 jk_4 (br_f (by omega) ?_))
            refine x_aloadn (x := 61) rfl rfl ?_
            refine z_getR (N := 4) (b := 62) 8 2 rfl f_8_25 rfl J rfl 7810 ⟨rfl, rfl⟩ rfl ?_
            refine x_iloadn (x := u1) rfl rfl ?_
            refine x_aloadn (x := 61) rfl rfl ?_
            refine z_getC (N := 4) (v := 4) 8 0 rfl f_8_19 rfl J rfl sg_61_0_1_1_0_1 jk_4 ?_
            refine z_imul rfl rfl jk_4 (by omega) (fun v22 ev22 => ?_)
            refine x_iloadn (x := 3) rfl rfl ?_
            refine z_iadd rfl rfl jk_3 (by omega) (fun v23 ev23 => ?_)
            refine x_iloadn (x := a3) rfl rfl ?_
            refine z_iast (N := 400) (l := 0) (u := 400) (w := a3.toInt) rfl hD J Sm rfl rfl rfl (by omega) rfl (wr_62 (fun q1 q2 q3 q4 => by omega) (fun q1 q2 q3 q4 => by omega) (fun q1 q2 q3 q4 => by omega) (fun q1 q2 q3 q4 => by omega)) rfl (fun h w24 J Sm => ?_)
            refine x_vret rfl rfl ?_
            show jX m_X8_add 2 0 0 59 [(7, .int u1), (0, .ref 61), (1, .int a4), (2, .int a2), (3, .int a1), (4, .int a3), (5, .int 0), (6, .int 0)] [] _ 0 0 _
            refine x_aloadn (x := 61) rfl rfl ?_
            refine x_iload (x := u1) rfl rfl ?_
            refine x_iconst (v := 4) rfl ki_4 ?_
            refine x_iload (x := 0) rfl rfl ?_
            refine x_inv (N := m_X8_put) (As := [.int u1, .int 4, .int 0]) (b := 61) (st := []) (dx9 := 1) (mc := 0) (ms := 0) (host := "") 8 rfl t_X8_put ⟨Or.inl q_8_29, i_X8_put.1, i_X8_put.2⟩ ⟨by decide, rfl⟩ (congrArg Prod.fst (J.1.1 61 (8, 4) rfl)) rfl (by decide) rfl rfl ⟨by decide, by decide⟩ (jC.of rfl k_X8_put rfl ?_)
            show jX m_X8_put 1 0 0 0 [(0, .ref 61), (1, .int u1), (2, .int 4), (3, .int 0)] [] _ 0 0 _
            refine x_iloadn (x := u1) rfl rfl ?_
            refine x_iflt (tgt := 38) rfl rfl (ti_lt rfl jk_0 (br_f (by omega) ?_))
            refine x_iloadn (x := u1) rfl rfl ?_
            refine x_aloadn (x := 61) rfl rfl ?_
            refine z_getM (N := 4) (v := v11) 8 3 rfl f_8_7 rfl J rfl (jmo w24 rfl (jmo w21 rfl (jmo w18 rfl (jmo w15 rfl (jmw w12))))) ?_
            refine x_icge (tgt := 38) rfl rfl (ti_ge rfl rfl (br_f (by omega) ?_))
            refine x_iloadn (x := 4) rfl rfl ?_
            refine x_iflt (tgt := 38) rfl rfl (ti_lt jk_4 jk_0 (br_f (by omega) ?_))
            refine x_iloadn (x := 4) rfl rfl ?_
            refine x_aloadn (x := 61) rfl rfl ?_
            refine z_getC (N := 4) (v := 4) 8 0 rfl f_8_19 rfl J rfl sg_61_0_1_1_0_1 jk_4 ?_
            refine x_icge (tgt := 38) rfl rfl (ti_ge jk_4 jk_4 (br_t (by omega) ?_))
            refine x_vret rfl rfl ?_
            show jX m_X8_add 2 0 0 68 [(7, .int u1), (0, .ref 61), (1, .int a4), (2, .int a2), (3, .int a1), (4, .int a3), (5, .int 0), (6, .int 0)] [] _ 0 0 _
            refine x_aloadn (x := 61) rfl rfl ?_
            refine x_iload (x := u1) rfl rfl ?_
            refine x_iconst (v := 5) rfl ki_5 ?_
            refine x_iload (x := 0) rfl rfl ?_
            refine x_inv (N := m_X8_put) (As := [.int u1, .int 5, .int 0]) (b := 61) (st := []) (dx9 := 1) (mc := 0) (ms := 0) (host := "") 8 rfl t_X8_put ⟨Or.inl q_8_29, i_X8_put.1, i_X8_put.2⟩ ⟨by decide, rfl⟩ (congrArg Prod.fst (J.1.1 61 (8, 4) rfl)) rfl (by decide) rfl rfl ⟨by decide, by decide⟩ (jC.of rfl k_X8_put rfl ?_)
            show jX m_X8_put 1 0 0 0 [(0, .ref 61), (1, .int u1), (2, .int 5), (3, .int 0)] [] _ 0 0 _
            refine x_iloadn (x := u1) rfl rfl ?_
            refine x_iflt (tgt := 38) rfl rfl (ti_lt rfl jk_0 (br_f (by omega) ?_))
            refine x_iloadn (x := u1) rfl rfl ?_
            refine x_aloadn (x := 61) rfl rfl ?_
            refine z_getM (N := 4) (v := v11) 8 3 rfl f_8_7 rfl J rfl (jmo w24 rfl (jmo w21 rfl (jmo w18 rfl (jmo w15 rfl (jmw w12))))) ?_
            refine x_icge (tgt := 38) rfl rfl (ti_ge rfl rfl (br_f (by omega) ?_))
            refine x_iloadn (x := 5) rfl rfl ?_
            refine x_iflt (tgt := 38) rfl rfl (ti_lt jk_5 jk_0 (br_f (by omega) ?_))
            refine x_iloadn (x := 5) rfl rfl ?_
            refine x_aloadn (x := 61) rfl rfl ?_
            refine z_getC (N := 4) (v := 4) 8 0 rfl f_8_19 rfl J rfl sg_61_0_1_1_0_1 jk_4 ?_
            refine x_icge (tgt := 38) rfl rfl (ti_ge jk_5 jk_4 (br_t (by omega) ?_))
            refine x_vret rfl rfl ?_
            show jX m_X8_add 2 0 0 77 [(7, .int u1), (0, .ref 61), (1, .int a4), (2, .int a2), (3, .int a1), (4, .int a3), (5, .int 0), (6, .int 0)] [] _ 0 0 _
            refine x_vret rfl rfl ?_
            show jX m_X11_price 3 0 0 76 [(0, .ref 31), (1, .int a1), (2, .int a2), (3, .int a3), (4, .int a4)] [] _ 0 0 _
            refine x_aloadn (x := 31) rfl rfl ?_
            refine x_aloadn (x := 31) rfl rfl ?_
            refine z_getR (N := 13) (b := 32) 11 0 rfl f_11_10 rfl J rfl 3968 ⟨rfl, rfl⟩ rfl ?_
            refine z_getR (N := 20) (b := 61) 1 14 rfl f_11_503 rfl J rfl 4110 ⟨rfl, rfl⟩ rfl ?_
            refine z_getM (N := 4) (v := v11) 8 3 rfl f_11_142 rfl J rfl (jmo w24 rfl (jmo w21 rfl (jmo w18 rfl (jmo w15 rfl (jmw w12))))) ?_
            refine x_inv (N := m_X11_accept) (As := [.int v11]) (b := 31) (st := []) (dx9 := 2) (mc := 0) (ms := 0) (host := "") 11 rfl t_X11_accept ⟨Or.inl q_11_165, i_X11_accept.1, i_X11_accept.2⟩ ⟨by decide, rfl⟩ (congrArg Prod.fst (J.1.1 31 (11, 13) rfl)) rfl (by decide) rfl rfl ⟨by decide, by decide⟩ (jC.of rfl k_X11_accept rfl ?_)
            show jX m_X11_accept 2 0 0 0 [(0, .ref 31), (1, .int v11)] [] _ 0 0 _
            refine x_aloadn (x := 31) rfl rfl ?_
            refine x_iconst (v := 0) rfl ki_0 ?_
            refine z_putI (N := 13) (w := 0) 11 12 rfl f_11_94 rfl (jfin_no TX11 RX11 13 rfl rfl) hD J Sm rfl rfl jk_0 (pw_31_12 (by omega)) rfl (fun h w25 J Sm => ?_)
            refine x_aloadn (x := 31) rfl rfl ?_
            refine z_getR (N := 13) (b := 32) 11 0 rfl f_11_10 rfl J rfl 3968 ⟨rfl, rfl⟩ rfl ?_
            refine x_dup rfl rfl ?_
            refine z_getI0 (N := 20) 1 19 rfl f_11_528 rfl J rfl (fun v26 qv26 => ?_)
            have ev26 := jfull v26
            refine x_iconst (v := 1) rfl ki_1 ?_
            refine z_iadd0 rfl (fun v27 => ?_)
            have ev27 := jfull v27
            refine z_putI (N := 20) (w := v27.toInt) 1 19 rfl f_11_528 rfl (jfin_no TX1 RX1 20 rfl rfl) hD J Sm rfl rfl rfl (pw_32_19 trivial) rfl (fun h w28 J Sm => ?_)
            refine x_iloadn (x := v11) rfl rfl ?_
            refine x_iret rfl rfl ?_
            show jX m_X11_price 3 0 0 90 [(0, .ref 31), (1, .int a1), (2, .int a2), (3, .int a3), (4, .int a4)] [.int v11] _ 0 0 _
            refine x_iret rfl rfl ?_
            exact hQ _ _ (jr_of rfl (by omega)) J Sm (Or.inr (Or.inr ⟨(by omega), (by omega), (by omega), (tw_4 (jmo w28 rfl (jmo w25 rfl (jmo w24 rfl (jmo w21 rfl (jmo w18 rfl (jmo w15 rfl (jmw w12))))))) qu1 (by omega) (by omega) (ov_o w28 rfl (ov_o w25 rfl (ov_w w24 (ov_w w21 (ov_w w18 (ov_w w15 (ov_o w12 rfl rfl))))))) (jix (by omega) (by omega)) (jix (by omega) (by omega)) (jix (by omega) (by omega)) (jix (by omega) (by omega)))⟩))
          ·
            refine x_iconst (v := 1) rfl ki_1 ?_
            refine x_goto (tgt := 16) rfl rfl ?_
            refine x_zret rfl rfl (by decide) ?_
            show jX m_X11_price 3 0 0 49 [(0, .ref 31), (1, .int a1), (2, .int a2), (3, .int a3), (4, .int a4)] [.int 1] _ 0 0 _
            refine x_ifeq (tgt := 59) rfl rfl (ti_eq jk_1 jk_0 (br_f (by omega) ?_))
            refine x_aloadn (x := 31) rfl rfl ?_
            refine x_bipush (v := (-5)) rfl kb_m5 ?_
            refine x_inv (N := m_X11_refuse) (As := [.int (-5)]) (b := 31) (st := []) (dx9 := 2) (mc := 0) (ms := 0) (host := "") 11 rfl t_X11_refuse ⟨Or.inl q_11_206, i_X11_refuse.1, i_X11_refuse.2⟩ ⟨by decide, rfl⟩ (congrArg Prod.fst (J.1.1 31 (11, 13) rfl)) rfl (by decide) rfl rfl ⟨by decide, by decide⟩ (jC.of rfl k_X11_refuse rfl ?_)
            show jX m_X11_refuse 2 0 0 0 [(0, .ref 31), (1, .int (-5))] [] _ 0 0 _
            refine x_aloadn (x := 31) rfl rfl ?_
            refine x_iloadn (x := (-5)) rfl rfl ?_
            refine z_putI (N := 13) (w := (-5)) 11 12 rfl f_11_94 rfl (jfin_no TX11 RX11 13 rfl rfl) hD J Sm rfl rfl jk_m5 (pw_31_12 (by omega)) rfl (fun h w29 J Sm => ?_)
            refine x_iloadn (x := (-5)) rfl rfl ?_
            refine x_iret rfl rfl ?_
            show jX m_X11_price 3 0 0 58 [(0, .ref 31), (1, .int a1), (2, .int a2), (3, .int a3), (4, .int a4)] [.int (-5)] _ 0 0 _
            refine x_iret rfl rfl ?_
            exact hQ _ _ (jr_of jk_m5 (by omega)) J Sm (Or.inr (Or.inl ⟨(by omega), (by omega), jk_m5, ⟨congrFun (ov_o w29 rfl rfl) 3, (ov_o w29 rfl rfl)⟩⟩))
        ·
          exact jX.sub (jsb_c rfl jsb_n) (ct_X11_price_r31p_33 yy_a1 yy_a2 yy_a3 yy_a4 hD hQ  h ⟨rfl, by omega⟩ J Sm)
def fp_X11_spell_r31p : jFp := [(31, 12, 13), (32, 19, 20), (68, 1, 2), (68, 2, 3), (68, 3, 4), (68, 4, 5), (68, 5, 6), (72, 0, 64), (73, 0, 1024), (74, 0, 16), (75, 0, 43200), (76, 0, 1200), (77, 0, 1200)]
set_option maxRecDepth 100000 in
set_option maxHeartbeats 4000000 in
theorem ct_X11_spell_r31p_10 {Dy : jH → Prop} {h0 : jH} {Q : Option Value → jH → Prop} (hD : jDk Dy) (hQ : ∀ (v : Int32) hx9, (-6) ≤ v.toInt ∧ v.toInt ≤ 8 → jJ jSgX Dy hx9 → jSm fp_X11_spell_r31p h0 hx9 → ∀ u0 u1 : Int32, jiv hx9 68 5 = u0 → jiv hx9 68 3 = u1 → (u0.toInt ≠ 3 ∨ u1.toInt ≤ 399) → (jiv hx9 68 1).toInt = 0 → Q (some (.int v)) hx9) : ∀ (g0 : Int32) (g1 : Int32) (h : jH), 0 ≤ g0.toInt ∧ g0.toInt ≤ 400 → 0 ≤ g1.toInt ∧ g1.toInt ≤ 3 → (g1.toInt ≠ 3 ∨ g0.toInt ≤ 399) → jiv h 68 3 = g0 → jiv h 68 5 = g1 → jJ jSgX Dy h → jSm fp_X11_spell_r31p h0 h → jX m_X11_spell 6 0 0 10 [(0, .ref 31)] [] h 0 0 Q := by
  intro g0 g1 h y0 y1 y2 z0 z1  J Sm
  refine x_aloadn (x := 31) rfl rfl ?_
  refine x_iconst (v := (-1)) rfl ki_m1 ?_
  refine x_inv (N := m_X11_refuseTape) (As := [.int (-1)]) (b := 31) (st := []) (dx9 := 5) (mc := 0) (ms := 0) (host := "") 11 rfl t_X11_refuseTape ⟨Or.inl q_11_122, i_X11_refuseTape.1, i_X11_refuseTape.2⟩ ⟨by decide, rfl⟩ (congrArg Prod.fst (J.1.1 31 (11, 13) rfl)) rfl (by decide) rfl rfl ⟨by decide, by decide⟩ (jC.of rfl k_X11_refuseTape rfl ?_)
  show jX m_X11_refuseTape 5 0 0 0 [(0, .ref 31), (1, .int (-1))] [] _ 0 0 _
  refine x_aloadn (x := 31) rfl rfl ?_
  refine z_getR (N := 13) (b := 68) 11 2 rfl f_11_23 rfl J rfl 3970 ⟨rfl, rfl⟩ rfl ?_
  refine x_iconst (v := 0) rfl ki_0 ?_
  refine z_putI (N := 6) (w := 0) 9 1 rfl f_11_106 rfl (jfin_no TX9 RX9 6 rfl rfl) hD J Sm rfl rfl jk_0 (pw_68_1 (by omega)) rfl (fun h w1 J Sm => ?_)
  refine x_aloadn (x := 31) rfl rfl ?_
  refine x_iloadn (x := (-1)) rfl rfl ?_
  refine x_inv (N := m_X11_refuse) (As := [.int (-1)]) (b := 31) (st := []) (dx9 := 4) (mc := 0) (ms := 0) (host := "") 11 rfl t_X11_refuse ⟨Or.inl q_11_206, i_X11_refuse.1, i_X11_refuse.2⟩ ⟨by decide, rfl⟩ (congrArg Prod.fst (J.1.1 31 (11, 13) rfl)) rfl (by decide) rfl rfl ⟨by decide, by decide⟩ (jC.of rfl k_X11_refuse rfl ?_)
  show jX m_X11_refuse 4 0 0 0 [(0, .ref 31), (1, .int (-1))] [] _ 0 0 _
  refine x_aloadn (x := 31) rfl rfl ?_
  refine x_iloadn (x := (-1)) rfl rfl ?_
  refine z_putI (N := 13) (w := (-1)) 11 12 rfl f_11_94 rfl (jfin_no TX11 RX11 13 rfl rfl) hD J Sm rfl rfl jk_m1 (pw_31_12 (by omega)) rfl (fun h w2 J Sm => ?_)
  refine x_iloadn (x := (-1)) rfl rfl ?_
  refine x_iret rfl rfl ?_
  show jX m_X11_refuseTape 5 0 0 13 [(0, .ref 31), (1, .int (-1))] [.int (-1)] _ 0 0 _
  refine x_iret rfl rfl ?_
  show jX m_X11_spell 6 0 0 15 [(0, .ref 31)] [.int (-1)] _ 0 0 _
  refine x_iret rfl rfl ?_
  exact hQ _ _ (jr_of jk_m1 (by omega)) J Sm _ _ (jmo w2 rfl (jmo w1 rfl z1)) (jmo w2 rfl (jmo w1 rfl z0)) (by omega) (by have := congrArg Int32.toInt (jmo w2 rfl (jmw w1)); have := jk_0; omega)
set_option maxRecDepth 100000 in
set_option maxHeartbeats 4000000 in
theorem ct_X11_spell_r31p_93 {Dy : jH → Prop} {h0 : jH} {Q : Option Value → jH → Prop} {R55 : Int} (hD : jDk Dy) (hQ : ∀ (v : Int32) hx9, (-6) ≤ v.toInt ∧ v.toInt ≤ 8 → jJ jSgX Dy hx9 → jSm fp_X11_spell_r31p h0 hx9 → ∀ u0 u1 : Int32, jiv hx9 68 5 = u0 → jiv hx9 68 3 = u1 → (u0.toInt ≠ 3 ∨ u1.toInt ≤ 399) → (jiv hx9 68 1).toInt = 0 → Q (some (.int v)) hx9) (k55 : ∀ (l1 : Int32) (l2 : Int32) (l3 : Int32) (g0 : Int32) (g1 : Int32) (g2 : Int32) (h : jH), 200 - l3.toInt < R55 → 0 ≤ l1.toInt ∧ l1.toInt ≤ 15 → 0 ≤ l2.toInt ∧ l2.toInt ≤ 8 → 0 ≤ l3.toInt ∧ l3.toInt ≤ 200 → 0 ≤ g0.toInt ∧ g0.toInt ≤ 0 → 0 ≤ g1.toInt ∧ g1.toInt ≤ 400 → 0 ≤ g2.toInt ∧ g2.toInt ≤ 3 → (g2.toInt ≠ 3 ∨ g1.toInt ≤ 399) → jiv h 68 1 = g0 → jiv h 68 3 = g1 → jiv h 68 5 = g2 → jJ jSgX Dy h → jSm fp_X11_spell_r31p h0 h → jX m_X11_spell 6 0 0 55 [(0, .ref 31), (1, .int l1), (2, .int l2), (3, .int l3)] [] h 0 0 Q) : ∀ (l1 : Int32) (l2 : Int32) (l3 : Int32) (g0 : Int32) (g1 : Int32) (g2 : Int32) (h : jH), 0 ≤ l1.toInt ∧ l1.toInt ≤ 15 → 0 ≤ l2.toInt ∧ l2.toInt ≤ 8 → 0 ≤ l3.toInt ∧ l3.toInt ≤ 199 → 0 ≤ g0.toInt ∧ g0.toInt ≤ 0 → 0 ≤ g1.toInt ∧ g1.toInt ≤ 400 → 0 ≤ g2.toInt ∧ g2.toInt ≤ 3 → (g2.toInt ≠ 3 ∨ g1.toInt ≤ 399) → jiv h 68 1 = g0 → jiv h 68 3 = g1 → jiv h 68 5 = g2 → 200 - l3.toInt ≤ R55 → jJ jSgX Dy h → jSm fp_X11_spell_r31p h0 h → jX m_X11_spell 6 0 0 93 [(0, .ref 31), (1, .int l1), (2, .int l2), (3, .int l3)] [] h 0 0 Q := by
  intro l1 l2 l3 g0 g1 g2 h y0 y1 y2 y3 y4 y5 y6 z0 z1 z2 m55 J Sm
  refine z_iinc (x := l3) (lsx9 := fun v1 => [(3, .int v1), (0, .ref 31), (1, .int l1), (2, .int l2)]) rfl rfl rfl jko_1 (by omega) rfl (fun _ => rfl) (fun v1 ev1 => ?_)
  refine x_goto (tgt := 55) rfl rfl ?_
  exact jX.sub (jsb_c rfl (jsb_c rfl (jsb_c rfl (jsb_c rfl jsb_n)))) (k55 l1 l2 v1 g0 g1 g2 h (by omega) (jr_of rfl (by omega)) (jr_of rfl (by omega)) (jr_of rfl (by omega)) (jr_of rfl (by omega)) (jr_of rfl (by omega)) (jr_of rfl (by omega)) (by omega) z0 z1 z2 J Sm)
set_option maxRecDepth 100000 in
set_option maxHeartbeats 4000000 in
theorem ct_X11_spell_r31p_55 {Dy : jH → Prop} {h0 : jH} {Q : Option Value → jH → Prop} (hD : jDk Dy) (hQ : ∀ (v : Int32) hx9, (-6) ≤ v.toInt ∧ v.toInt ≤ 8 → jJ jSgX Dy hx9 → jSm fp_X11_spell_r31p h0 hx9 → ∀ u0 u1 : Int32, jiv hx9 68 5 = u0 → jiv hx9 68 3 = u1 → (u0.toInt ≠ 3 ∨ u1.toInt ≤ 399) → (jiv hx9 68 1).toInt = 0 → Q (some (.int v)) hx9) : ∀ r : Nat, ∀ (l1 : Int32) (l2 : Int32) (l3 : Int32) (g0 : Int32) (g1 : Int32) (g2 : Int32) (h : jH), 200 - l3.toInt < (r : Int) → 0 ≤ l1.toInt ∧ l1.toInt ≤ 15 → 0 ≤ l2.toInt ∧ l2.toInt ≤ 8 → 0 ≤ l3.toInt ∧ l3.toInt ≤ 200 → 0 ≤ g0.toInt ∧ g0.toInt ≤ 0 → 0 ≤ g1.toInt ∧ g1.toInt ≤ 400 → 0 ≤ g2.toInt ∧ g2.toInt ≤ 3 → (g2.toInt ≠ 3 ∨ g1.toInt ≤ 399) → jiv h 68 1 = g0 → jiv h 68 3 = g1 → jiv h 68 5 = g2 → jJ jSgX Dy h → jSm fp_X11_spell_r31p h0 h → jX m_X11_spell 6 0 0 55 [(0, .ref 31), (1, .int l1), (2, .int l2), (3, .int l3)] [] h 0 0 Q := by
  intro r
  induction r with
  | zero =>
    intro l1 l2 l3 g0 g1 g2 h hm y0 y1 y2 y3 y4 y5 y6 z0 z1 z2  J Sm
    exfalso
    omega
  | succ r ih =>
    intro l1 l2 l3 g0 g1 g2 h hm y0 y1 y2 y3 y4 y5 y6 z0 z1 z2  J Sm
    refine x_iloadn (x := l3) rfl rfl ?_
    refine x_aloadn (x := 31) rfl rfl ?_
    refine z_getR (N := 13) (b := 32) 11 0 rfl f_11_10 rfl J rfl 3968 ⟨rfl, rfl⟩ rfl ?_
    refine z_getR (N := 20) (b := 33) 1 0 rfl f_11_126 rfl J rfl 4096 ⟨rfl, rfl⟩ rfl ?_
    refine z_getI (N := 4) 8 3 rfl f_11_142 rfl J rfl sg_33_3_4_1_0_1 (fun v1 qv1 ev1 => ?_)
    refine x_icge (tgt := 99) rfl rfl (ti_ge rfl rfl ⟨fun c2 => ?_, fun c2 => ?_⟩)
    ·
      refine x_aloadn (x := 31) rfl rfl ?_
      refine x_iloadn (x := l2) rfl rfl ?_
      refine x_inv (N := m_X11_accept) (As := [.int l2]) (b := 31) (st := []) (dx9 := 5) (mc := 0) (ms := 0) (host := "") 11 rfl t_X11_accept ⟨Or.inl q_11_165, i_X11_accept.1, i_X11_accept.2⟩ ⟨by decide, rfl⟩ (congrArg Prod.fst (J.1.1 31 (11, 13) rfl)) rfl (by decide) rfl rfl ⟨by decide, by decide⟩ (jC.of rfl k_X11_accept rfl ?_)
      show jX m_X11_accept 5 0 0 0 [(0, .ref 31), (1, .int l2)] [] _ 0 0 _
      refine x_aloadn (x := 31) rfl rfl ?_
      refine x_iconst (v := 0) rfl ki_0 ?_
      refine z_putI (N := 13) (w := 0) 11 12 rfl f_11_94 rfl (jfin_no TX11 RX11 13 rfl rfl) hD J Sm rfl rfl jk_0 (pw_31_12 (by omega)) rfl (fun h w3 J Sm => ?_)
      refine x_aloadn (x := 31) rfl rfl ?_
      refine z_getR (N := 13) (b := 32) 11 0 rfl f_11_10 rfl J rfl 3968 ⟨rfl, rfl⟩ rfl ?_
      refine x_dup rfl rfl ?_
      refine z_getI0 (N := 20) 1 19 rfl f_11_528 rfl J rfl (fun v4 qv4 => ?_)
      have ev4 := jfull v4
      refine x_iconst (v := 1) rfl ki_1 ?_
      refine z_iadd0 rfl (fun v5 => ?_)
      have ev5 := jfull v5
      refine z_putI (N := 20) (w := v5.toInt) 1 19 rfl f_11_528 rfl (jfin_no TX1 RX1 20 rfl rfl) hD J Sm rfl rfl rfl (pw_32_19 trivial) rfl (fun h w6 J Sm => ?_)
      refine x_iloadn (x := l2) rfl rfl ?_
      refine x_iret rfl rfl ?_
      show jX m_X11_spell 6 0 0 104 [(0, .ref 31), (1, .int l1), (2, .int l2), (3, .int l3)] [.int l2] _ 0 0 _
      refine x_iret rfl rfl ?_
      exact hQ _ _ (jr_of rfl (by omega)) J Sm _ _ (jmo w6 rfl (jmo w3 rfl z2)) (jmo w6 rfl (jmo w3 rfl z1)) (by omega) (by have := congrArg Int32.toInt (jmo w6 rfl (jmo w3 rfl z0)); omega)
    ·
      refine x_aloadn (x := 31) rfl rfl ?_
      refine z_getR (N := 13) (b := 32) 11 0 rfl f_11_10 rfl J rfl 3968 ⟨rfl, rfl⟩ rfl ?_
      refine z_getR (N := 20) (b := 33) 1 0 rfl f_11_126 rfl J rfl 4096 ⟨rfl, rfl⟩ rfl ?_
      refine x_iloadn (x := l3) rfl rfl ?_
      refine x_iconst (v := 3) rfl ki_3 ?_
      refine x_inv (N := m_X8_at) (As := [.int l3, .int 3]) (b := 33) (st := []) (dx9 := 1) (mc := 0) (ms := 0) (host := "") 8 rfl t_X8_at ⟨Or.inl q_11_171, i_X8_at.1, i_X8_at.2⟩ ⟨by decide, rfl⟩ (congrArg Prod.fst (J.1.1 33 (8, 4) rfl)) rfl (by decide) rfl rfl ⟨by decide, by decide⟩ (sf_X8_at_r33_c3 (jr_of rfl (by omega)) hD J  (fun v8 h ev8 J S7 => ?_))
      have Sm := jSm_tr rfl Sm S7
      show jX m_X11_spell 6 0 0 81 [(0, .ref 31), (1, .int l1), (2, .int l2), (3, .int l3)] [.int v8] _ 0 0 _
      refine x_iloadn (x := l1) rfl rfl ?_
      refine x_icne (tgt := 93) rfl rfl (ti_ne rfl rfl ⟨fun c9 => ?_, fun c9 => ?_⟩)
      ·
        exact jX.sub (jsb_c rfl (jsb_c rfl (jsb_c rfl (jsb_c rfl jsb_n)))) (ct_X11_spell_r31p_93 hD hQ ih l1 l2 l3 g0 g1 g2 h (jr_of rfl (by omega)) (jr_of rfl (by omega)) (jr_of rfl (by omega)) (jr_of rfl (by omega)) (jr_of rfl (by omega)) (jr_of rfl (by omega)) (by omega) (jmc S7 rfl z0) (jmc S7 rfl z1) (jmc S7 rfl z2) (by omega) J Sm)
      ·
        refine x_aloadn (x := 31) rfl rfl ?_
        refine z_getR (N := 13) (b := 70) 11 3 rfl f_11_32 rfl J rfl 3971 ⟨rfl, rfl⟩ rfl ?_
        refine x_iloadn (x := l3) rfl rfl ?_
        refine x_inv (N := m_X5_learn) (As := [.int l3]) (b := 70) (st := []) (dx9 := 4) (mc := 0) (ms := 0) (host := "") 5 rfl t_X5_learn ⟨Or.inl q_11_186, i_X5_learn.1, i_X5_learn.2⟩ ⟨by decide, rfl⟩ (congrArg Prod.fst (J.1.1 70 (5, 9) rfl)) rfl (by decide) rfl rfl ⟨by decide, by decide⟩ (sf_X5_learn_r70 (jr_of rfl (by omega)) hD J  (fun h J S10 => ?_))
        have Sm := jSm_tr rfl Sm S10
        show jX m_X11_spell 6 0 0 93 [(0, .ref 31), (1, .int l1), (2, .int l2), (3, .int l3)] [] _ 0 0 _
        exact jX.sub (jsb_c rfl (jsb_c rfl (jsb_c rfl (jsb_c rfl jsb_n)))) (ct_X11_spell_r31p_93 hD hQ ih l1 l2 l3 g0 g1 g2 h (jr_of rfl (by omega)) (jr_of rfl (by omega)) (jr_of rfl (by omega)) (jr_of rfl (by omega)) (jr_of rfl (by omega)) (jr_of rfl (by omega)) (by omega) (jmc S10 rfl (jmc S7 rfl z0)) (jmc S10 rfl (jmc S7 rfl z1)) (jmc S10 rfl (jmc S7 rfl z2)) (by omega) J Sm)
set_option maxRecDepth 100000 in
set_option maxHeartbeats 4000000 in
theorem sf_X11_spell_r31p {Dy : jH → Prop} {h : jH} {Q : Option Value → jH → Prop} {a1 : Int32} (hD : jDk Dy) (J : jJ jSgX Dy h) {p0 p1 : Int32} (zp0 : jiv h 68 5 = p0) (zp1 : jiv h 68 3 = p1) (rl_p0 : (p0.toInt ≠ 3 ∨ p1.toInt ≤ 399)) (hQ : ∀ (v : Int32) hx9, (-6) ≤ v.toInt ∧ v.toInt ≤ 8 → jJ jSgX Dy hx9 → jSm fp_X11_spell_r31p h hx9 → ∀ u0 u1 : Int32, jiv hx9 68 5 = u0 → jiv hx9 68 3 = u1 → (u0.toInt ≠ 3 ∨ u1.toInt ≤ 399) → (jiv hx9 68 1).toInt = 0 → Q (some (.int v)) hx9) : jC m_X11_spell 6 0 0 [.ref 31, .int a1] h Q := by
  refine jC.of rfl k_X11_spell rfl ?_
  have Sm := jSm_rf fp_X11_spell_r31p h
  have ep0 := (show 0 ≤ p0.toInt ∧ p0.toInt ≤ 3 from zp0 ▸ jrg_f J sg_68_5_6_1_0_1)
  have ep1 := (show 0 ≤ p1.toInt ∧ p1.toInt ≤ 400 from zp1 ▸ jrg_f J sg_68_3_4_1_0_1)
  have ea1 := jfull a1
  show jX m_X11_spell 6 0 0 0 [(0, .ref 31), (1, .int a1)] [] _ 0 0 _
  refine x_iloadn (x := a1) rfl rfl ?_
  refine x_iflt (tgt := 10) rfl rfl (ti_lt rfl jk_0 ⟨fun c1 => ?_, fun c1 => ?_⟩)
  ·
    exact jX.sub (jsb_c rfl jsb_n) (ct_X11_spell_r31p_10 hD hQ  p1 p0 h (jr_of rfl (by omega)) (jr_of rfl (by omega)) (by omega) zp1 zp0 J Sm)
  ·
    refine x_iloadn (x := a1) rfl rfl ?_
    refine x_bipush (v := 15) rfl kb_15 ?_
    refine x_icle (tgt := 16) rfl rfl (ti_le rfl jk_15 ⟨fun c2 => ?_, fun c2 => ?_⟩)
    ·
      refine x_aloadn (x := 31) rfl rfl ?_
      refine z_getR (N := 13) (b := 70) 11 3 rfl f_11_32 rfl J rfl 3971 ⟨rfl, rfl⟩ rfl ?_
      refine x_inv (N := m_X5_readPairs) (As := []) (b := 70) (st := []) (dx9 := 5) (mc := 0) (ms := 0) (host := "") 5 rfl t_X5_readPairs ⟨Or.inl q_11_178, i_X5_readPairs.1, i_X5_readPairs.2⟩ ⟨by decide, rfl⟩ (congrArg Prod.fst (J.1.1 70 (5, 9) rfl)) rfl (by decide) rfl rfl ⟨by decide, by decide⟩ (sf_X5_readPairs_r70  hD J zp0 zp1 (by omega)  (fun v6 h ev6 J S3 u4 u5 qu4 qu5 ru4 => ?_))
      have Sm := jSm_tr rfl Sm S3
      have eu4 := (show 0 ≤ u4.toInt ∧ u4.toInt ≤ 3 from qu4 ▸ jrg_f J sg_68_5_6_1_0_1)
      have eu5 := (show 0 ≤ u5.toInt ∧ u5.toInt ≤ 400 from qu5 ▸ jrg_f J sg_68_3_4_1_0_1)
      show jX m_X11_spell 6 0 0 23 [(0, .ref 31), (1, .int a1)] [.int v6] _ 0 0 _
      refine x_istoren (lsx9 := [(2, .int v6), (0, .ref 31), (1, .int a1)]) rfl rfl rfl ?_
      refine x_iloadn (x := v6) rfl rfl ?_
      refine x_iconst (v := (-1)) rfl ki_m1 ?_
      refine x_icne (tgt := 36) rfl rfl (ti_ne rfl jk_m1 ⟨fun c7 => ?_, fun c7 => ?_⟩)
      ·
        refine x_aloadn (x := 31) rfl rfl ?_
        refine z_getR (N := 13) (b := 68) 11 2 rfl f_11_23 rfl J rfl 3970 ⟨rfl, rfl⟩ rfl ?_
        refine x_iconst (v := 0) rfl ki_0 ?_
        refine z_putI (N := 6) (w := 0) 9 1 rfl f_11_106 rfl (jfin_no TX9 RX9 6 rfl rfl) hD J Sm rfl rfl jk_0 (pw_68_1 (by omega)) rfl (fun h w8 J Sm => ?_)
        refine x_aloadn (x := 31) rfl rfl ?_
        refine z_getR (N := 13) (b := 70) 11 3 rfl f_11_32 rfl J rfl 3971 ⟨rfl, rfl⟩ rfl ?_
        refine x_iloadn (x := a1) rfl rfl ?_
        refine x_iloadn (x := v6) rfl rfl ?_
        refine x_inv (N := m_X5_keepPairs) (As := [.int a1, .int v6]) (b := 70) (st := []) (dx9 := 5) (mc := 0) (ms := 0) (host := "") 5 rfl t_X5_keepPairs ⟨Or.inl q_11_182, i_X5_keepPairs.1, i_X5_keepPairs.2⟩ ⟨by decide, rfl⟩ (congrArg Prod.fst (J.1.1 70 (5, 9) rfl)) rfl (by decide) rfl rfl ⟨by decide, by decide⟩ (jC.of rfl k_X5_keepPairs rfl ?_)
        show jX m_X5_keepPairs 5 0 0 0 [(0, .ref 70), (1, .int a1), (2, .int v6)] [] _ 0 0 _
        refine x_iloadn (x := a1) rfl rfl ?_
        refine x_iflt (tgt := 50) rfl rfl (ti_lt rfl jk_0 (br_f (by omega) ?_))
        refine x_iloadn (x := a1) rfl rfl ?_
        refine x_bipush (v := 15) rfl kb_15 ?_
        refine x_icgt (tgt := 50) rfl rfl (ti_gt rfl jk_15 (br_f (by omega) ?_))
        refine x_iloadn (x := v6) rfl rfl ?_
        refine x_iflt (tgt := 50) rfl rfl (ti_lt rfl jk_0 (br_f (by omega) ?_))
        refine x_iloadn (x := v6) rfl rfl ?_
        refine x_bipush (v := 8) rfl kb_8 ?_
        refine x_icgt (tgt := 50) rfl rfl (ti_gt rfl jk_8 (br_f (by omega) ?_))
        refine x_aloadn (x := 70) rfl rfl ?_
        refine z_getR (N := 9) (b := 72) 5 3 rfl f_5_15 rfl J rfl 8963 ⟨rfl, rfl⟩ rfl ?_
        refine x_iconst (v := 0) rfl ki_0 ?_
        refine x_aloadn (x := 70) rfl rfl ?_
        refine z_getR (N := 9) (b := 73) 5 4 rfl f_5_18 rfl J rfl 8964 ⟨rfl, rfl⟩ rfl ?_
        refine x_iloadn (x := a1) rfl rfl ?_
        refine x_aloadn (x := 70) rfl rfl ?_
        refine z_getR (N := 9) (b := 72) 5 3 rfl f_5_15 rfl J rfl 8963 ⟨rfl, rfl⟩ rfl ?_
        refine z_alen (N := 64) (v := 64) rfl J rfl rfl (by decide) ?_
        refine z_imul rfl rfl jk_64 (by omega) (fun v9 ev9 => ?_)
        refine x_iloadn (x := v6) rfl rfl ?_
        refine x_bipush (v := 8) rfl kb_8 ?_
        refine z_imul rfl rfl jk_8 (by omega) (fun v10 ev10 => ?_)
        refine z_cpi (N1 := 64) (N2 := 1024) rfl ⟨q_5_96, jcp_w⟩ (by decide) rfl hD J Sm rfl rfl rfl rfl jk_0 rfl rfl (by omega) (cp_73 (fun k k1 k2 k3 => by have k4 := k3.1; have k5 := k3.2.1; have k6 := k3.2.2; simp only at k4 k5 k6; exact jcp_in J sg_72_0_64_4_0_1 rfl (by omega) (by decide)) (fun k k1 k2 k3 => by have k4 := k3.1; have k5 := k3.2.1; have k6 := k3.2.2; simp only at k4 k5 k6; exact jcp_in J sg_72_0_64_4_1_4 rfl (by omega) (by decide)) (fun k k1 k2 k3 => by have k4 := k3.1; have k5 := k3.2.1; have k6 := k3.2.2; simp only at k4 k5 k6; exact jcp_in J sg_72_0_64_1_0_1 rfl (by omega) (by decide))) rfl (fun h w11 J Sm => ?_)
        refine x_aloadn (x := 70) rfl rfl ?_
        refine z_getR (N := 9) (b := 74) 5 5 rfl f_5_21 rfl J rfl 8965 ⟨rfl, rfl⟩ rfl ?_
        refine x_iloadn (x := a1) rfl rfl ?_
        refine x_iloadn (x := v6) rfl rfl ?_
        refine z_iast (N := 16) (l := 0) (u := 16) (w := v6.toInt) rfl hD J Sm rfl rfl rfl (by omega) rfl (wr_74 (fun q1 q2 q3 q4 => by omega)) rfl (fun h w12 J Sm => ?_)
        refine x_vret rfl rfl ?_
        show jX m_X11_spell 6 0 0 53 [(2, .int v6), (0, .ref 31), (1, .int a1)] [] _ 0 0 _
        refine x_iconst (v := 0) rfl ki_0 ?_
        refine x_istoren (lsx9 := [(3, .int 0), (2, .int v6), (0, .ref 31), (1, .int a1)]) rfl rfl rfl ?_
        exact jX.sub (jsb_c rfl (jsb_c rfl (jsb_c rfl (jsb_c rfl jsb_n)))) (ct_X11_spell_r31p_55 hD hQ  201 a1 v6 0 0 u5 u4 h (by have := jk_0; omega) (jr_of rfl (by omega)) (jr_of rfl (by omega)) (jr_of jk_0 (by omega)) (jr_of jk_0 (by omega)) (jr_of rfl (by omega)) (jr_of rfl (by omega)) (by omega) (jmo w12 rfl (jmk w11 rfl (jmw w8))) (jmo w12 rfl (jmk w11 rfl (jmo w8 rfl qu5))) (jmo w12 rfl (jmk w11 rfl (jmo w8 rfl qu4))) J Sm)
      ·
        refine x_aloadn (x := 31) rfl rfl ?_
        refine x_bipush (v := (-6)) rfl kb_m6 ?_
        refine x_inv (N := m_X11_refuseTape) (As := [.int (-6)]) (b := 31) (st := []) (dx9 := 5) (mc := 0) (ms := 0) (host := "") 11 rfl t_X11_refuseTape ⟨Or.inl q_11_122, i_X11_refuseTape.1, i_X11_refuseTape.2⟩ ⟨by decide, rfl⟩ (congrArg Prod.fst (J.1.1 31 (11, 13) rfl)) rfl (by decide) rfl rfl ⟨by decide, by decide⟩ (jC.of rfl k_X11_refuseTape rfl ?_)
        show jX m_X11_refuseTape 5 0 0 0 [(0, .ref 31), (1, .int (-6))] [] _ 0 0 _
        refine x_aloadn (x := 31) rfl rfl ?_
        refine z_getR (N := 13) (b := 68) 11 2 rfl f_11_23 rfl J rfl 3970 ⟨rfl, rfl⟩ rfl ?_
        refine x_iconst (v := 0) rfl ki_0 ?_
        refine z_putI (N := 6) (w := 0) 9 1 rfl f_11_106 rfl (jfin_no TX9 RX9 6 rfl rfl) hD J Sm rfl rfl jk_0 (pw_68_1 (by omega)) rfl (fun h w13 J Sm => ?_)
        refine x_aloadn (x := 31) rfl rfl ?_
        refine x_iloadn (x := (-6)) rfl rfl ?_
        refine x_inv (N := m_X11_refuse) (As := [.int (-6)]) (b := 31) (st := []) (dx9 := 4) (mc := 0) (ms := 0) (host := "") 11 rfl t_X11_refuse ⟨Or.inl q_11_206, i_X11_refuse.1, i_X11_refuse.2⟩ ⟨by decide, rfl⟩ (congrArg Prod.fst (J.1.1 31 (11, 13) rfl)) rfl (by decide) rfl rfl ⟨by decide, by decide⟩ (jC.of rfl k_X11_refuse rfl ?_)
        show jX m_X11_refuse 4 0 0 0 [(0, .ref 31), (1, .int (-6))] [] _ 0 0 _
        refine x_aloadn (x := 31) rfl rfl ?_
        refine x_iloadn (x := (-6)) rfl rfl ?_
        refine z_putI (N := 13) (w := (-6)) 11 12 rfl f_11_94 rfl (jfin_no TX11 RX11 13 rfl rfl) hD J Sm rfl rfl jk_m6 (pw_31_12 (by omega)) rfl (fun h w14 J Sm => ?_)
        refine x_iloadn (x := (-6)) rfl rfl ?_
        refine x_iret rfl rfl ?_
        show jX m_X11_refuseTape 5 0 0 13 [(0, .ref 31), (1, .int (-6))] [.int (-6)] _ 0 0 _
        refine x_iret rfl rfl ?_
        show jX m_X11_spell 6 0 0 35 [(2, .int v6), (0, .ref 31), (1, .int a1)] [.int (-6)] _ 0 0 _
        refine x_iret rfl rfl ?_
        exact hQ _ _ (jr_of jk_m6 (by omega)) J Sm _ _ (jmo w14 rfl (jmo w13 rfl qu4)) (jmo w14 rfl (jmo w13 rfl qu5)) (by omega) (by have := congrArg Int32.toInt (jmo w14 rfl (jmw w13)); have := jk_0; omega)
    ·
      exact jX.sub (jsb_c rfl jsb_n) (ct_X11_spell_r31p_10 hD hQ  p1 p0 h (jr_of rfl (by omega)) (jr_of rfl (by omega)) (by omega) zp1 zp0 J Sm)
def fp_X11_split_r31p : jFp := [(31, 12, 13), (32, 19, 20), (49, 3, 4), (50, 0, 200), (63, 3, 4), (64, 0, 740)]
set_option maxRecDepth 100000 in
set_option maxHeartbeats 4000000 in
theorem ct_X11_split_r31p_41 {Dy : jH → Prop} {h0 : jH} {Q : Option Value → jH → Prop} {a1 : Int32} (yy_a1 : (-2147483648) ≤ a1.toInt ∧ a1.toInt ≤ 2147483647) {a2 : Int32} (yy_a2 : (-2147483648) ≤ a2.toInt ∧ a2.toInt ≤ 2147483647) {a3 : Int32} (yy_a3 : (-2147483648) ≤ a3.toInt ∧ a3.toInt ≤ 2147483647) {a4 : Int32} (yy_a4 : (-2147483648) ≤ a4.toInt ∧ a4.toInt ≤ 2147483647) {a5 : Int32} (yy_a5 : (-2147483648) ≤ a5.toInt ∧ a5.toInt ≤ 2147483647) (hD : jDk Dy) (hQ : ∀ (v : Int32) hx9, (-5) ≤ v.toInt ∧ v.toInt ≤ 39 → jJ jSgX Dy hx9 → jSm fp_X11_split_r31p h0 hx9 → ((¬ (1 ≤ a2.toInt ∧ a2.toInt < a3.toInt ∧ a3.toInt ≤ 100 ∧ 0 ≤ a4.toInt ∧ a4.toInt ≤ 146399 ∧ 0 ≤ a5.toInt ∧ a5.toInt ≤ 146399) ∧ v.toInt = -1 ∧ jTe 49 h0 hx9) ∨ ((1 ≤ a2.toInt ∧ a2.toInt < a3.toInt ∧ a3.toInt ≤ 100 ∧ 0 ≤ a4.toInt ∧ a4.toInt ≤ 146399 ∧ 0 ≤ a5.toInt ∧ a5.toInt ≤ 146399) ∧ ¬ (0 ≤ a1.toInt ∧ a1.toInt < (jiv h0 49 3).toInt) ∧ v.toInt = -2 ∧ jTe 49 h0 hx9) ∨ ((1 ≤ a2.toInt ∧ a2.toInt < a3.toInt ∧ a3.toInt ≤ 100 ∧ 0 ≤ a4.toInt ∧ a4.toInt ≤ 146399 ∧ 0 ≤ a5.toInt ∧ a5.toInt ≤ 146399) ∧ (0 ≤ a1.toInt ∧ a1.toInt < (jiv h0 49 3).toInt) ∧ (jiv h0 49 3).toInt = 40 ∧ v.toInt = -5 ∧ jTe 49 h0 hx9) ∨ ((1 ≤ a2.toInt ∧ a2.toInt < a3.toInt ∧ a3.toInt ≤ 100 ∧ 0 ≤ a4.toInt ∧ a4.toInt ≤ 146399 ∧ 0 ≤ a5.toInt ∧ a5.toInt ≤ 146399) ∧ (0 ≤ a1.toInt ∧ a1.toInt < (jiv h0 49 3).toInt) ∧ (jiv h0 49 3).toInt < 40 ∧ v.toInt = (jiv h0 49 3).toInt + 0 ∧ jTwr 49 5 [a5, a4, a1, a2, a3] h0 hx9)) → Q (some (.int v)) hx9) : ∀ (h : jH), (h = h0 ∧ ¬ (1 ≤ a2.toInt ∧ a2.toInt < a3.toInt ∧ a3.toInt ≤ 100 ∧ 0 ≤ a4.toInt ∧ a4.toInt ≤ 146399 ∧ 0 ≤ a5.toInt ∧ a5.toInt ≤ 146399)) → jJ jSgX Dy h → jSm fp_X11_split_r31p h0 h → jX m_X11_split 4 0 0 41 [(0, .ref 31)] [] h 0 0 Q := by
  intro  h C0   J Sm
  refine x_aloadn (x := 31) rfl rfl ?_
  refine x_iconst (v := (-1)) rfl ki_m1 ?_
  refine x_inv (N := m_X11_refuse) (As := [.int (-1)]) (b := 31) (st := []) (dx9 := 3) (mc := 0) (ms := 0) (host := "") 11 rfl t_X11_refuse ⟨Or.inl q_11_206, i_X11_refuse.1, i_X11_refuse.2⟩ ⟨by decide, rfl⟩ (congrArg Prod.fst (J.1.1 31 (11, 13) rfl)) rfl (by decide) rfl rfl ⟨by decide, by decide⟩ (jC.of rfl k_X11_refuse rfl ?_)
  show jX m_X11_refuse 3 0 0 0 [(0, .ref 31), (1, .int (-1))] [] _ 0 0 _
  refine x_aloadn (x := 31) rfl rfl ?_
  refine x_iloadn (x := (-1)) rfl rfl ?_
  refine z_putI (N := 13) (w := (-1)) 11 12 rfl f_11_94 rfl (jfin_no TX11 RX11 13 rfl rfl) hD J Sm rfl rfl jk_m1 (pw_31_12 (by omega)) rfl (fun h w1 J Sm => ?_)
  refine x_iloadn (x := (-1)) rfl rfl ?_
  refine x_iret rfl rfl ?_
  show jX m_X11_split 4 0 0 46 [(0, .ref 31)] [.int (-1)] _ 0 0 _
  refine x_iret rfl rfl ?_
  exact hQ _ _ (jr_of jk_m1 (by omega)) J Sm (Or.inl ⟨C0.2, jk_m1, ⟨congrFun (ov_o w1 rfl (ov_e C0.1)) 3, (ov_o w1 rfl (ov_e C0.1))⟩⟩)
set_option maxRecDepth 100000 in
set_option maxHeartbeats 4000000 in
theorem sf_X11_split_r31p {Dy : jH → Prop} {h : jH} {Q : Option Value → jH → Prop} {a1 : Int32} {a2 : Int32} {a3 : Int32} {a4 : Int32} {a5 : Int32} (hD : jDk Dy) (J : jJ jSgX Dy h) (hQ : ∀ (v : Int32) hx9, (-5) ≤ v.toInt ∧ v.toInt ≤ 39 → jJ jSgX Dy hx9 → jSm fp_X11_split_r31p h hx9 → ((¬ (1 ≤ a2.toInt ∧ a2.toInt < a3.toInt ∧ a3.toInt ≤ 100 ∧ 0 ≤ a4.toInt ∧ a4.toInt ≤ 146399 ∧ 0 ≤ a5.toInt ∧ a5.toInt ≤ 146399) ∧ v.toInt = -1 ∧ jTe 49 h hx9) ∨ ((1 ≤ a2.toInt ∧ a2.toInt < a3.toInt ∧ a3.toInt ≤ 100 ∧ 0 ≤ a4.toInt ∧ a4.toInt ≤ 146399 ∧ 0 ≤ a5.toInt ∧ a5.toInt ≤ 146399) ∧ ¬ (0 ≤ a1.toInt ∧ a1.toInt < (jiv h 49 3).toInt) ∧ v.toInt = -2 ∧ jTe 49 h hx9) ∨ ((1 ≤ a2.toInt ∧ a2.toInt < a3.toInt ∧ a3.toInt ≤ 100 ∧ 0 ≤ a4.toInt ∧ a4.toInt ≤ 146399 ∧ 0 ≤ a5.toInt ∧ a5.toInt ≤ 146399) ∧ (0 ≤ a1.toInt ∧ a1.toInt < (jiv h 49 3).toInt) ∧ (jiv h 49 3).toInt = 40 ∧ v.toInt = -5 ∧ jTe 49 h hx9) ∨ ((1 ≤ a2.toInt ∧ a2.toInt < a3.toInt ∧ a3.toInt ≤ 100 ∧ 0 ≤ a4.toInt ∧ a4.toInt ≤ 146399 ∧ 0 ≤ a5.toInt ∧ a5.toInt ≤ 146399) ∧ (0 ≤ a1.toInt ∧ a1.toInt < (jiv h 49 3).toInt) ∧ (jiv h 49 3).toInt < 40 ∧ v.toInt = (jiv h 49 3).toInt + 0 ∧ jTwr 49 5 [a5, a4, a1, a2, a3] h hx9)) → Q (some (.int v)) hx9) : jC m_X11_split 4 0 0 [.ref 31, .int a1, .int a2, .int a3, .int a4, .int a5] h Q := by
  refine jC.of rfl k_X11_split rfl ?_
  have Sm := jSm_rf fp_X11_split_r31p h
  have yy_a1 := jfull a1
  have yy_a2 := jfull a2
  have yy_a3 := jfull a3
  have yy_a4 := jfull a4
  have yy_a5 := jfull a5
  have ea1 := jfull a1
  have ea2 := jfull a2
  have ea3 := jfull a3
  have ea4 := jfull a4
  have ea5 := jfull a5
  show jX m_X11_split 4 0 0 0 [(0, .ref 31), (1, .int a1), (2, .int a2), (3, .int a3), (4, .int a4), (5, .int a5)] [] _ 0 0 _
  obtain ⟨u1, qu1⟩ : ∃ v : Int32, jiv h 49 3 = v := ⟨_, rfl⟩
  have eu1 := (show 0 ≤ u1.toInt ∧ u1.toInt ≤ 40 from qu1 ▸ jrg_f J sg_49_3_4_1_0_1)
  have ou1 := congrArg Int32.toInt qu1
  refine x_iloadn (x := a2) rfl rfl ?_
  refine x_iconst (v := 1) rfl ki_1 ?_
  refine x_bipush (v := 100) rfl kb_100 ?_
  refine x_inst (N := m_X11_isWithin) (As := [.int a2, .int 1, .int 100]) (st := []) (dx9 := 1) (mc := 0) (ms := 0) (host := "") rfl t_X11_isWithin ⟨Or.inl q_11_202, s_X11_isWithin⟩ rfl (by decide) rfl rfl ⟨by decide, by decide⟩ (zc_X11_isWithin rfl jk_1 jk_100 (fun v2 ev2 => ?_))
  show jX m_X11_split 4 0 0 7 [(0, .ref 31), (1, .int a1), (2, .int a2), (3, .int a3), (4, .int a4), (5, .int a5)] [.int v2] _ 0 0 _
  refine x_ifeq (tgt := 41) rfl rfl (ti_eq rfl jk_0 ⟨fun c3 => ?_, fun c3 => ?_⟩)
  ·
    exact jX.sub (jsb_c rfl jsb_n) (ct_X11_split_r31p_41 yy_a1 yy_a2 yy_a3 yy_a4 yy_a5 hD hQ  h ⟨rfl, by omega⟩ J Sm)
  ·
    refine x_iloadn (x := a3) rfl rfl ?_
    refine x_iconst (v := 1) rfl ki_1 ?_
    refine x_bipush (v := 100) rfl kb_100 ?_
    refine x_inst (N := m_X11_isWithin) (As := [.int a3, .int 1, .int 100]) (st := []) (dx9 := 1) (mc := 0) (ms := 0) (host := "") rfl t_X11_isWithin ⟨Or.inl q_11_202, s_X11_isWithin⟩ rfl (by decide) rfl rfl ⟨by decide, by decide⟩ (zc_X11_isWithin rfl jk_1 jk_100 (fun v4 ev4 => ?_))
    show jX m_X11_split 4 0 0 17 [(0, .ref 31), (1, .int a1), (2, .int a2), (3, .int a3), (4, .int a4), (5, .int a5)] [.int v4] _ 0 0 _
    refine x_ifeq (tgt := 41) rfl rfl (ti_eq rfl jk_0 ⟨fun c5 => ?_, fun c5 => ?_⟩)
    ·
      exact jX.sub (jsb_c rfl jsb_n) (ct_X11_split_r31p_41 yy_a1 yy_a2 yy_a3 yy_a4 yy_a5 hD hQ  h ⟨rfl, by omega⟩ J Sm)
    ·
      refine x_iloadn (x := a2) rfl rfl ?_
      refine x_iloadn (x := a3) rfl rfl ?_
      refine x_icge (tgt := 41) rfl rfl (ti_ge rfl rfl ⟨fun c6 => ?_, fun c6 => ?_⟩)
      ·
        exact jX.sub (jsb_c rfl jsb_n) (ct_X11_split_r31p_41 yy_a1 yy_a2 yy_a3 yy_a4 yy_a5 hD hQ  h ⟨rfl, by omega⟩ J Sm)
      ·
        refine x_iload (x := a4) rfl rfl ?_
        refine x_inst (N := m_X11_isDay) (As := [.int a4]) (st := []) (dx9 := 1) (mc := 0) (ms := 0) (host := "") rfl t_X11_isDay ⟨Or.inl q_11_115, s_X11_isDay⟩ rfl (by decide) rfl rfl ⟨by decide, by decide⟩ (zc_X11_isDay rfl (fun v7 ev7 => ?_))
        show jX m_X11_split 4 0 0 30 [(0, .ref 31), (1, .int a1), (2, .int a2), (3, .int a3), (4, .int a4), (5, .int a5)] [.int v7] _ 0 0 _
        refine x_ifeq (tgt := 41) rfl rfl (ti_eq rfl jk_0 ⟨fun c8 => ?_, fun c8 => ?_⟩)
        ·
          exact jX.sub (jsb_c rfl jsb_n) (ct_X11_split_r31p_41 yy_a1 yy_a2 yy_a3 yy_a4 yy_a5 hD hQ  h ⟨rfl, by omega⟩ J Sm)
        ·
          refine x_iload (x := a5) rfl rfl ?_
          refine x_inst (N := m_X11_isDay) (As := [.int a5]) (st := []) (dx9 := 1) (mc := 0) (ms := 0) (host := "") rfl t_X11_isDay ⟨Or.inl q_11_115, s_X11_isDay⟩ rfl (by decide) rfl rfl ⟨by decide, by decide⟩ (zc_X11_isDay rfl (fun v9 ev9 => ?_))
          show jX m_X11_split 4 0 0 38 [(0, .ref 31), (1, .int a1), (2, .int a2), (3, .int a3), (4, .int a4), (5, .int a5)] [.int v9] _ 0 0 _
          refine x_ifne (tgt := 47) rfl rfl (ti_ne rfl jk_0 ⟨fun c10 => ?_, fun c10 => ?_⟩)
          ·
            refine x_aloadn (x := 31) rfl rfl ?_
            refine x_iloadn (x := a1) rfl rfl ?_
            refine x_inv (N := m_X11_isHolding) (As := [.int a1]) (b := 31) (st := []) (dx9 := 3) (mc := 0) (ms := 0) (host := "") 11 rfl t_X11_isHolding ⟨Or.inl q_11_415, i_X11_isHolding.1, i_X11_isHolding.2⟩ ⟨by decide, rfl⟩ (congrArg Prod.fst (J.1.1 31 (11, 13) rfl)) rfl (by decide) rfl rfl ⟨by decide, by decide⟩ (jC.of rfl k_X11_isHolding rfl ?_)
            show jX m_X11_isHolding 3 0 0 0 [(0, .ref 31), (1, .int a1)] [] _ 0 0 _
            refine x_iloadn (x := a1) rfl rfl ?_
            refine x_iflt (tgt := 28) rfl rfl (ti_lt rfl jk_0 ⟨fun c11 => ?_, fun c11 => ?_⟩)
            ·
              refine x_iconst (v := 0) rfl ki_0 ?_
              refine x_zret rfl rfl (by decide) ?_
              show jX m_X11_split 4 0 0 52 [(0, .ref 31), (1, .int a1), (2, .int a2), (3, .int a3), (4, .int a4), (5, .int a5)] [.int 0] _ 0 0 _
              refine x_ifne (tgt := 62) rfl rfl (ti_ne jk_0 jk_0 (bn_f (by omega) ?_))
              refine x_aloadn (x := 31) rfl rfl ?_
              refine x_bipush (v := (-2)) rfl kb_m2 ?_
              refine x_inv (N := m_X11_refuse) (As := [.int (-2)]) (b := 31) (st := []) (dx9 := 3) (mc := 0) (ms := 0) (host := "") 11 rfl t_X11_refuse ⟨Or.inl q_11_206, i_X11_refuse.1, i_X11_refuse.2⟩ ⟨by decide, rfl⟩ (congrArg Prod.fst (J.1.1 31 (11, 13) rfl)) rfl (by decide) rfl rfl ⟨by decide, by decide⟩ (jC.of rfl k_X11_refuse rfl ?_)
              show jX m_X11_refuse 3 0 0 0 [(0, .ref 31), (1, .int (-2))] [] _ 0 0 _
              refine x_aloadn (x := 31) rfl rfl ?_
              refine x_iloadn (x := (-2)) rfl rfl ?_
              refine z_putI (N := 13) (w := (-2)) 11 12 rfl f_11_94 rfl (jfin_no TX11 RX11 13 rfl rfl) hD J Sm rfl rfl jk_m2 (pw_31_12 (by omega)) rfl (fun h w12 J Sm => ?_)
              refine x_iloadn (x := (-2)) rfl rfl ?_
              refine x_iret rfl rfl ?_
              show jX m_X11_split 4 0 0 61 [(0, .ref 31), (1, .int a1), (2, .int a2), (3, .int a3), (4, .int a4), (5, .int a5)] [.int (-2)] _ 0 0 _
              refine x_iret rfl rfl ?_
              exact hQ _ _ (jr_of jk_m2 (by omega)) J Sm (Or.inr (Or.inl ⟨(by omega), (by omega), jk_m2, ⟨congrFun (ov_o w12 rfl rfl) 3, (ov_o w12 rfl rfl)⟩⟩))
            ·
              refine x_iloadn (x := a1) rfl rfl ?_
              refine x_aloadn (x := 31) rfl rfl ?_
              refine z_getR (N := 13) (b := 32) 11 0 rfl f_11_10 rfl J rfl 3968 ⟨rfl, rfl⟩ rfl ?_
              refine z_getR (N := 20) (b := 49) 1 8 rfl f_11_408 rfl J rfl 4104 ⟨rfl, rfl⟩ rfl ?_
              refine z_getM (N := 4) (v := u1) 8 3 rfl f_11_142 rfl J rfl qu1 ?_
              refine x_icge (tgt := 28) rfl rfl (ti_ge rfl rfl ⟨fun c13 => ?_, fun c13 => ?_⟩)
              ·
                refine x_iconst (v := 0) rfl ki_0 ?_
                refine x_zret rfl rfl (by decide) ?_
                show jX m_X11_split 4 0 0 52 [(0, .ref 31), (1, .int a1), (2, .int a2), (3, .int a3), (4, .int a4), (5, .int a5)] [.int 0] _ 0 0 _
                refine x_ifne (tgt := 62) rfl rfl (ti_ne jk_0 jk_0 (bn_f (by omega) ?_))
                refine x_aloadn (x := 31) rfl rfl ?_
                refine x_bipush (v := (-2)) rfl kb_m2 ?_
                refine x_inv (N := m_X11_refuse) (As := [.int (-2)]) (b := 31) (st := []) (dx9 := 3) (mc := 0) (ms := 0) (host := "") 11 rfl t_X11_refuse ⟨Or.inl q_11_206, i_X11_refuse.1, i_X11_refuse.2⟩ ⟨by decide, rfl⟩ (congrArg Prod.fst (J.1.1 31 (11, 13) rfl)) rfl (by decide) rfl rfl ⟨by decide, by decide⟩ (jC.of rfl k_X11_refuse rfl ?_)
                show jX m_X11_refuse 3 0 0 0 [(0, .ref 31), (1, .int (-2))] [] _ 0 0 _
                refine x_aloadn (x := 31) rfl rfl ?_
                refine x_iloadn (x := (-2)) rfl rfl ?_
                refine z_putI (N := 13) (w := (-2)) 11 12 rfl f_11_94 rfl (jfin_no TX11 RX11 13 rfl rfl) hD J Sm rfl rfl jk_m2 (pw_31_12 (by omega)) rfl (fun h w14 J Sm => ?_)
                refine x_iloadn (x := (-2)) rfl rfl ?_
                refine x_iret rfl rfl ?_
                show jX m_X11_split 4 0 0 61 [(0, .ref 31), (1, .int a1), (2, .int a2), (3, .int a3), (4, .int a4), (5, .int a5)] [.int (-2)] _ 0 0 _
                refine x_iret rfl rfl ?_
                exact hQ _ _ (jr_of jk_m2 (by omega)) J Sm (Or.inr (Or.inl ⟨(by omega), (by omega), jk_m2, ⟨congrFun (ov_o w14 rfl rfl) 3, (ov_o w14 rfl rfl)⟩⟩))
              ·
                refine x_iloadn (x := a1) rfl rfl ?_
                refine x_bipush (v := 40) rfl kb_40 ?_
                refine x_icge (tgt := 28) rfl rfl (ti_ge rfl jk_40 (br_f (by omega) ?_))
                refine x_iconst (v := 1) rfl ki_1 ?_
                refine x_goto (tgt := 29) rfl rfl ?_
                refine x_zret rfl rfl (by decide) ?_
                show jX m_X11_split 4 0 0 52 [(0, .ref 31), (1, .int a1), (2, .int a2), (3, .int a3), (4, .int a4), (5, .int a5)] [.int 1] _ 0 0 _
                refine x_ifne (tgt := 62) rfl rfl (ti_ne jk_1 jk_0 (bn_t (by omega) ?_))
                refine x_aloadn (x := 31) rfl rfl ?_
                refine z_getR (N := 13) (b := 32) 11 0 rfl f_11_10 rfl J rfl 3968 ⟨rfl, rfl⟩ rfl ?_
                refine z_getR (N := 20) (b := 49) 1 8 rfl f_11_408 rfl J rfl 4104 ⟨rfl, rfl⟩ rfl ?_
                refine x_inv (N := m_X8_isFull) (As := []) (b := 49) (st := []) (dx9 := 3) (mc := 0) (ms := 0) (host := "") 8 rfl t_X8_isFull ⟨Or.inl q_11_130, i_X8_isFull.1, i_X8_isFull.2⟩ ⟨by decide, rfl⟩ (congrArg Prod.fst (J.1.1 49 (8, 4) rfl)) rfl (by decide) rfl rfl ⟨by decide, by decide⟩ (jC.of rfl k_X8_isFull rfl ?_)
                show jX m_X8_isFull 3 0 0 0 [(0, .ref 49)] [] _ 0 0 _
                refine x_aloadn (x := 49) rfl rfl ?_
                refine z_getM (N := 4) (v := u1) 8 3 rfl f_8_7 rfl J rfl qu1 ?_
                refine x_aloadn (x := 49) rfl rfl ?_
                refine z_getC (N := 4) (v := 40) 8 1 rfl f_8_22 rfl J rfl sg_49_1_2_1_0_1 jk_40 ?_
                refine x_iclt (tgt := 15) rfl rfl (ti_lt rfl jk_40 ⟨fun c15 => ?_, fun c15 => ?_⟩)
                ·
                  refine x_iconst (v := 0) rfl ki_0 ?_
                  refine x_zret rfl rfl (by decide) ?_
                  show jX m_X11_split 4 0 0 72 [(0, .ref 31), (1, .int a1), (2, .int a2), (3, .int a3), (4, .int a4), (5, .int a5)] [.int 0] _ 0 0 _
                  refine x_ifeq (tgt := 82) rfl rfl (ti_eq jk_0 jk_0 (br_t (by omega) ?_))
                  refine x_aloadn (x := 31) rfl rfl ?_
                  refine x_aloadn (x := 31) rfl rfl ?_
                  refine x_iloadn (x := a1) rfl rfl ?_
                  refine x_iloadn (x := a2) rfl rfl ?_
                  refine x_iloadn (x := a3) rfl rfl ?_
                  refine x_iload (x := a4) rfl rfl ?_
                  refine x_iload (x := a5) rfl rfl ?_
                  refine x_inv (N := m_X11_addHolding) (As := [.int a1, .int a2, .int a3, .int a4, .int a5]) (b := 31) (st := [.ref 31]) (dx9 := 3) (mc := 0) (ms := 0) (host := "") 11 rfl t_X11_addHolding ⟨Or.inl q_11_411, i_X11_addHolding.1, i_X11_addHolding.2⟩ ⟨by decide, rfl⟩ (congrArg Prod.fst (J.1.1 31 (11, 13) rfl)) rfl (by decide) rfl rfl ⟨by decide, by decide⟩ (jC.of rfl k_X11_addHolding rfl ?_)
                  show jX m_X11_addHolding 3 0 0 0 [(0, .ref 31), (1, .int a1), (2, .int a2), (3, .int a3), (4, .int a4), (5, .int a5)] [] _ 0 0 _
                  refine x_aloadn (x := 31) rfl rfl ?_
                  refine z_getR (N := 13) (b := 32) 11 0 rfl f_11_10 rfl J rfl 3968 ⟨rfl, rfl⟩ rfl ?_
                  refine z_getR (N := 20) (b := 49) 1 8 rfl f_11_408 rfl J rfl 4104 ⟨rfl, rfl⟩ rfl ?_
                  refine z_getM (N := 4) (v := u1) 8 3 rfl f_11_142 rfl J rfl qu1 ?_
                  refine x_istore (lsx9 := [(6, .int u1), (0, .ref 31), (1, .int a1), (2, .int a2), (3, .int a3), (4, .int a4), (5, .int a5)]) rfl rfl rfl ?_
                  refine x_aloadn (x := 31) rfl rfl ?_
                  refine z_getR (N := 13) (b := 32) 11 0 rfl f_11_10 rfl J rfl 3968 ⟨rfl, rfl⟩ rfl ?_
                  refine z_getR (N := 20) (b := 49) 1 8 rfl f_11_408 rfl J rfl 4104 ⟨rfl, rfl⟩ rfl ?_
                  refine x_iload (x := a5) rfl rfl ?_
                  refine x_iload (x := a4) rfl rfl ?_
                  refine x_iloadn (x := a1) rfl rfl ?_
                  refine x_iloadn (x := a2) rfl rfl ?_
                  refine x_iloadn (x := a3) rfl rfl ?_
                  refine x_iconst (v := 0) rfl ki_0 ?_
                  refine x_inv (N := m_X8_add) (As := [.int a5, .int a4, .int a1, .int a2, .int a3, .int 0]) (b := 49) (st := []) (dx9 := 2) (mc := 0) (ms := 0) (host := "") 8 rfl t_X8_add ⟨Or.inl q_11_145, i_X8_add.1, i_X8_add.2⟩ ⟨by decide, rfl⟩ (congrArg Prod.fst (J.1.1 49 (8, 4) rfl)) rfl (by decide) rfl rfl ⟨by decide, by decide⟩ (jC.of rfl k_X8_add rfl ?_)
                  show jX m_X8_add 2 0 0 0 [(0, .ref 49), (1, .int a5), (2, .int a4), (3, .int a1), (4, .int a2), (5, .int a3), (6, .int 0)] [] _ 0 0 _
                  refine x_aloadn (x := 49) rfl rfl ?_
                  refine z_getM (N := 4) (v := u1) 8 3 rfl f_8_7 rfl J rfl qu1 ?_
                  refine x_aloadn (x := 49) rfl rfl ?_
                  refine z_getC (N := 4) (v := 40) 8 1 rfl f_8_22 rfl J rfl sg_49_1_2_1_0_1 jk_40 ?_
                  refine x_iclt (tgt := 12) rfl rfl (ti_lt rfl jk_40 (br_t (by omega) ?_))
                  refine x_aloadn (x := 49) rfl rfl ?_
                  refine z_getM (N := 4) (v := u1) 8 3 rfl f_8_7 rfl J rfl qu1 ?_
                  refine x_istore (lsx9 := [(7, .int u1), (0, .ref 49), (1, .int a5), (2, .int a4), (3, .int a1), (4, .int a2), (5, .int a3), (6, .int 0)]) rfl rfl rfl ?_
                  refine x_aloadn (x := 49) rfl rfl ?_
                  refine x_iload (x := u1) rfl rfl ?_
                  refine x_iconst (v := 1) rfl ki_1 ?_
                  refine z_iadd rfl rfl jk_1 (by omega) (fun v16 ev16 => ?_)
                  refine z_putI (N := 4) (w := v16.toInt) 8 3 rfl f_8_7 rfl (jfin_no TX8 RX8 4 rfl rfl) hD J Sm rfl rfl rfl (pw_49_3 (by omega)) rfl (fun h w17 J Sm => ?_)
                  refine x_aloadn (x := 49) rfl rfl ?_
                  refine x_iload (x := u1) rfl rfl ?_
                  refine x_iconst (v := 0) rfl ki_0 ?_
                  refine x_iloadn (x := a5) rfl rfl ?_
                  refine x_inv (N := m_X8_put) (As := [.int u1, .int 0, .int a5]) (b := 49) (st := []) (dx9 := 1) (mc := 0) (ms := 0) (host := "") 8 rfl t_X8_put ⟨Or.inl q_8_29, i_X8_put.1, i_X8_put.2⟩ ⟨by decide, rfl⟩ (congrArg Prod.fst (J.1.1 49 (8, 4) rfl)) rfl (by decide) rfl rfl ⟨by decide, by decide⟩ (jC.of rfl k_X8_put rfl ?_)
                  show jX m_X8_put 1 0 0 0 [(0, .ref 49), (1, .int u1), (2, .int 0), (3, .int a5)] [] _ 0 0 _
                  refine x_iloadn (x := u1) rfl rfl ?_
                  refine x_iflt (tgt := 38) rfl rfl (ti_lt rfl jk_0 (br_f (by omega) ?_))
                  refine x_iloadn (x := u1) rfl rfl ?_
                  refine x_aloadn (x := 49) rfl rfl ?_
                  refine z_getM (N := 4) (v := v16) 8 3 rfl f_8_7 rfl J rfl (jmw w17) ?_
                  refine x_icge (tgt := 38) rfl rfl (ti_ge rfl rfl (br_f (by omega) ?_))
                  refine x_iloadn (x := 0) rfl rfl ?_
                  refine x_iflt (tgt := 38) rfl rfl (ti_lt jk_0 jk_0 (br_f (by omega) ?_))
                  refine x_iloadn (x := 0) rfl rfl ?_
                  refine x_aloadn (x := 49) rfl rfl ?_
                  refine z_getC (N := 4) (v := 5) 8 0 rfl f_8_19 rfl J rfl sg_49_0_1_1_0_1 jk_5 ?_
                  refine x_icge (tgt := 38) rfl rfl (ti_ge jk_0 jk_5 (br_f (by omega) ?_))
                  refine x_aloadn (x := 49) rfl rfl ?_
                  refine z_getR (N := 4) (b := 50) 8 2 rfl f_8_25 rfl J rfl 6274 ⟨rfl, rfl⟩ rfl ?_
                  refine x_iloadn (x := u1) rfl rfl ?_
                  refine x_aloadn (x := 49) rfl rfl ?_
                  refine z_getC (N := 4) (v := 5) 8 0 rfl f_8_19 rfl J rfl sg_49_0_1_1_0_1 jk_5 ?_
                  refine z_imul rfl rfl jk_5 (by omega) (fun v18 ev18 => ?_)
                  refine x_iloadn (x := 0) rfl rfl ?_
                  refine z_iadd rfl rfl jk_0 (by omega) (fun v19 ev19 => ?_)
                  refine x_iloadn (x := a5) rfl rfl ?_
                  refine z_iast (N := 200) (l := 0) (u := 200) (w := a5.toInt) rfl hD J Sm rfl rfl rfl (by omega) rfl (wr_50 (fun q1 q2 q3 q4 => by omega) (fun q1 q2 q3 q4 => by omega) (fun q1 q2 q3 q4 => by omega) (fun q1 q2 q3 q4 => by omega) (fun q1 q2 q3 q4 => by omega)) rfl (fun h w20 J Sm => ?_)
                  refine x_vret rfl rfl ?_
                  show jX m_X8_add 2 0 0 34 [(7, .int u1), (0, .ref 49), (1, .int a5), (2, .int a4), (3, .int a1), (4, .int a2), (5, .int a3), (6, .int 0)] [] _ 0 0 _
                  refine x_aloadn (x := 49) rfl rfl ?_
                  refine x_iload (x := u1) rfl rfl ?_
                  refine x_iconst (v := 1) rfl ki_1 ?_
                  refine x_iloadn (x := a4) rfl rfl ?_
                  refine x_inv (N := m_X8_put) (As := [.int u1, .int 1, .int a4]) (b := 49) (st := []) (dx9 := 1) (mc := 0) (ms := 0) (host := "") 8 rfl t_X8_put ⟨Or.inl q_8_29, i_X8_put.1, i_X8_put.2⟩ ⟨by decide, rfl⟩ (congrArg Prod.fst (J.1.1 49 (8, 4) rfl)) rfl (by decide) rfl rfl ⟨by decide, by decide⟩ (jC.of rfl k_X8_put rfl ?_)
                  show jX m_X8_put 1 0 0 0 [(0, .ref 49), (1, .int u1), (2, .int 1), (3, .int a4)] [] _ 0 0 _
                  refine x_iloadn (x := u1) rfl rfl ?_
                  refine x_iflt (tgt := 38) rfl rfl (ti_lt rfl jk_0 (br_f (by omega) ?_))
                  refine x_iloadn (x := u1) rfl rfl ?_
                  refine x_aloadn (x := 49) rfl rfl ?_
                  refine z_getM (N := 4) (v := v16) 8 3 rfl f_8_7 rfl J rfl (jmo w20 rfl (jmw w17)) ?_
                  refine x_icge (tgt := 38) rfl rfl (ti_ge rfl rfl (br_f (by omega) ?_))
                  refine x_iloadn (x := 1) rfl rfl ?_
                  refine x_iflt (tgt := 38) rfl rfl (ti_lt jk_1 jk_0 (br_f (by omega) ?_))
                  refine x_iloadn (x := 1) rfl rfl ?_
                  refine x_aloadn (x := 49) rfl rfl ?_
                  refine z_getC (N := 4) (v := 5) 8 0 rfl f_8_19 rfl J rfl sg_49_0_1_1_0_1 jk_5 ?_
                  refine x_icge (tgt := 38) rfl rfl (ti_ge jk_1 jk_5 (br_f (by omega) ?_))
                  refine x_aloadn (x := 49) rfl rfl ?_
                  refine z_getR (N := 4) (b := 50) 8 2 rfl f_8_25 rfl J rfl 6274 ⟨rfl, rfl⟩ rfl ?_
                  refine x_iloadn (x := u1) rfl rfl ?_
                  refine x_aloadn (x := 49) rfl rfl ?_
                  refine z_getC (N := 4) (v := 5) 8 0 rfl f_8_19 rfl J rfl sg_49_0_1_1_0_1 jk_5 ?_
                  refine z_imul rfl rfl jk_5 (by omega) (fun v21 ev21 => ?_)
                  refine x_iloadn (x := 1) rfl rfl ?_
                  refine z_iadd rfl rfl jk_1 (by omega) (fun v22 ev22 => ?_)
                  refine x_iloadn (x := a4) rfl rfl ?_
                  refine z_iast (N := 200) (l := 0) (u := 200) (w := a4.toInt) rfl hD J Sm rfl rfl rfl (by omega) rfl (wr_50 (fun q1 q2 q3 q4 => by omega) (fun q1 q2 q3 q4 => by omega) (fun q1 q2 q3 q4 => by omega) (fun q1 q2 q3 q4 => by omega) (fun q1 q2 q3 q4 => by omega)) rfl (fun h w23 J Sm => ?_)
                  refine x_vret rfl rfl ?_
                  show jX m_X8_add 2 0 0 42 [(7, .int u1), (0, .ref 49), (1, .int a5), (2, .int a4), (3, .int a1), (4, .int a2), (5, .int a3), (6, .int 0)] [] _ 0 0 _
                  refine x_aloadn (x := 49) rfl rfl ?_
                  refine x_iload (x := u1) rfl rfl ?_
                  refine x_iconst (v := 2) rfl ki_2 ?_
                  refine x_iloadn (x := a1) rfl rfl ?_
                  refine x_inv (N := m_X8_put) (As := [.int u1, .int 2, .int a1]) (b := 49) (st := []) (dx9 := 1) (mc := 0) (ms := 0) (host := "") 8 rfl t_X8_put ⟨Or.inl q_8_29, i_X8_put.1, i_X8_put.2⟩ ⟨by decide, rfl⟩ (congrArg Prod.fst (J.1.1 49 (8, 4) rfl)) rfl (by decide) rfl rfl ⟨by decide, by decide⟩ (jC.of rfl k_X8_put rfl ?_)
                  show jX m_X8_put 1 0 0 0 [(0, .ref 49), (1, .int u1), (2, .int 2), (3, .int a1)] [] _ 0 0 _
                  refine x_iloadn (x := u1) rfl rfl ?_
                  refine x_iflt (tgt := 38) rfl rfl (ti_lt rfl jk_0 (br_f (by omega) ?_))
                  refine x_iloadn (x := u1) rfl rfl ?_
                  refine x_aloadn (x := 49) rfl rfl ?_
                  refine z_getM (N := 4) (v := v16) 8 3 rfl f_8_7 rfl J rfl (jmo w23 rfl (jmo w20 rfl (jmw w17))) ?_
                  refine x_icge (tgt := 38) rfl rfl (ti_ge rfl rfl (br_f (by omega) ?_))
                  refine x_iloadn (x := 2) rfl rfl ?_
                  refine x_iflt (tgt := 38) rfl rfl (ti_lt jk_2 jk_0 (br_f (by omega) ?_))
                  refine x_iloadn (x := 2) rfl rfl ?_
                  refine x_aloadn (x := 49) rfl rfl ?_
                  refine z_getC (N := 4) (v := 5) 8 0 rfl f_8_19 rfl J rfl sg_49_0_1_1_0_1 jk_5 ?_
                  refine x_icge (tgt := 38) rfl rfl (ti_ge jk_2 jk_5 (br_f (by omega) ?_))
                  refine x_aloadn (x := 49) rfl rfl ?_
                  refine z_getR (N := 4) (b := 50) 8 2 rfl f_8_25 rfl J rfl 6274 ⟨rfl, rfl⟩ rfl ?_
                  refine x_iloadn (x := u1) rfl rfl ?_
                  refine x_aloadn (x := 49) rfl rfl ?_
                  refine z_getC (N := 4) (v := 5) 8 0 rfl f_8_19 rfl J rfl sg_49_0_1_1_0_1 jk_5 ?_
                  refine z_imul rfl rfl jk_5 (by omega) (fun v24 ev24 => ?_)
                  refine x_iloadn (x := 2) rfl rfl ?_
                  refine z_iadd rfl rfl jk_2 (by omega) (fun v25 ev25 => ?_)
                  refine x_iloadn (x := a1) rfl rfl ?_
                  refine z_iast (N := 200) (l := 0) (u := 200) (w := a1.toInt) rfl hD J Sm rfl rfl rfl (by omega) rfl (wr_50 (fun q1 q2 q3 q4 => by omega) (fun q1 q2 q3 q4 => by omega) (fun q1 q2 q3 q4 => by omega) (fun q1 q2 q3 q4 => by omega) (fun q1 q2 q3 q4 => by omega)) rfl (fun h w26 J Sm => ?_)
                  refine x_vret rfl rfl ?_
                  show jX m_X8_add 2 0 0 50 [(7, .int u1), (0, .ref 49), (1, .int a5), (2, .int a4), (3, .int a1), (4, .int a2), (5, .int a3), (6, .int 0)] [] _ 0 0 _
                  refine x_aloadn (x := 49) rfl rfl ?_
                  refine x_iload (x := u1) rfl rfl ?_
                  refine x_iconst (v := 3) rfl ki_3 ?_
                  refine x_iload (x := a2) rfl rfl ?_
                  refine x_inv (N := m_X8_put) (As := [.int u1, .int 3, .int a2]) (b := 49) (st := []) (dx9 := 1) (mc := 0) (ms := 0) (host := "") 8 rfl t_X8_put ⟨Or.inl q_8_29, i_X8_put.1, i_X8_put.2⟩ ⟨by decide, rfl⟩ (congrArg Prod.fst (J.1.1 49 (8, 4) rfl)) rfl (by decide) rfl rfl ⟨by decide, by decide⟩ (jC.of rfl k_X8_put rfl ?_)
                  show jX m_X8_put 1 0 0 0 [(0, .ref 49), (1, .int u1), (2, .int 3), (3, .int a2)] [] _ 0 0 _
                  refine x_iloadn (x := u1) rfl rfl ?_
                  refine x_iflt (tgt := 38) rfl rfl (ti_lt rfl jk_0 (br_f (by omega) ?_))
                  refine x_iloadn (x := u1) rfl rfl ?_
                  refine x_aloadn (x := 49) rfl rfl ?_
                  refine z_getM (N := 4) (v := v16) 8 3 rfl f_8_7 rfl J rfl (jmo w26 rfl (jmo w23 rfl (jmo w20 rfl (jmw w17)))) ?_
                  refine x_icge (tgt := 38) rfl rfl (ti_ge rfl rfl (br_f (by omega) ?_))
                  refine x_iloadn (x := 3) rfl rfl ?_
                  refine x_iflt (tgt := 38) rfl rfl (ti_lt jk_3 jk_0 (br_f (by omega) ?_))
                  refine x_iloadn (x := 3) rfl rfl ?_
                  refine x_aloadn (x := 49) rfl rfl ?_
                  refine z_getC (N := 4) (v := 5) 8 0 rfl f_8_19 rfl J rfl sg_49_0_1_1_0_1 jk_5 ?_
                  refine x_icge (tgt := 38) rfl rfl (ti_ge jk_3 jk_5 (br_f (by omega) ?_))
                  refine x_aloadn (x := 49) rfl rfl ?_
                  refine z_getR (N := 4) (b := 50) 8 2 rfl f_8_25 rfl J rfl 6274 ⟨rfl, rfl⟩ rfl ?_
                  refine x_iloadn (x := u1) rfl rfl ?_
                  refine x_aloadn (x := 49) rfl rfl ?_
                  refine z_getC (N := 4) (v := 5) 8 0 rfl f_8_19 rfl J rfl sg_49_0_1_1_0_1 jk_5 ?_
                  refine z_imul rfl rfl jk_5 (by omega) (fun v27 ev27 => ?_)
                  refine x_iloadn (x := 3) rfl rfl ?_
                  refine z_iadd rfl rfl jk_3 (by omega) (fun v28 ev28 => ?_)
                  refine x_iloadn (x := a2) rfl rfl ?_
                  refine z_iast (N := 200) (l := 0) (u := 200) (w := a2.toInt) rfl hD J Sm rfl rfl rfl (by omega) rfl (wr_50 (fun q1 q2 q3 q4 => by omega) (fun q1 q2 q3 q4 => by omega) (fun q1 q2 q3 q4 => by omega) (fun q1 q2 q3 q4 => by omega) (fun q1 q2 q3 q4 => by omega)) rfl (fun h w29 J Sm => ?_)
                  refine x_vret rfl rfl ?_
                  show jX m_X8_add 2 0 0 59 [(7, .int u1), (0, .ref 49), (1, .int a5), (2, .int a4), (3, .int a1), (4, .int a2), (5, .int a3), (6, .int 0)] [] _ 0 0 _
                  refine x_aloadn (x := 49) rfl rfl ?_
                  refine x_iload (x := u1) rfl rfl ?_
                  refine x_iconst (v := 4) rfl ki_4 ?_
                  refine x_iload (x := a3) rfl rfl ?_
                  refine x_inv (N := m_X8_put) (As := [.int u1, .int 4, .int a3]) (b := 49) (st := []) (dx9 := 1) (mc := 0) (ms := 0) (host := "") 8 rfl t_X8_put ⟨Or.inl q_8_29, i_X8_put.1, i_X8_put.2⟩ ⟨by decide, rfl⟩ (congrArg Prod.fst (J.1.1 49 (8, 4) rfl)) rfl (by decide) rfl rfl ⟨by decide, by decide⟩ (jC.of rfl k_X8_put rfl ?_)
                  show jX m_X8_put 1 0 0 0 [(0, .ref 49), (1, .int u1), (2, .int 4), (3, .int a3)] [] _ 0 0 _
                  refine x_iloadn (x := u1) rfl rfl ?_
                  refine x_iflt (tgt := 38) rfl rfl (ti_lt rfl jk_0 (br_f (by omega) ?_))
                  refine x_iloadn (x := u1) rfl rfl ?_
                  refine x_aloadn (x := 49) rfl rfl ?_
                  refine z_getM (N := 4) (v := v16) 8 3 rfl f_8_7 rfl J rfl (jmo w29 rfl (jmo w26 rfl (jmo w23 rfl (jmo w20 rfl (jmw w17))))) ?_
                  refine x_icge (tgt := 38) rfl rfl (ti_ge rfl rfl (br_f (by omega) ?_))
                  refine x_iloadn (x := 4) rfl rfl ?_
                  refine x_iflt (tgt := 38) rfl rfl (ti_lt jk_4 jk_0 (br_f (by omega) ?_))
                  refine x_iloadn (x := 4) rfl rfl ?_
                  refine x_aloadn (x := 49) rfl rfl ?_
                  refine z_getC (N := 4) (v := 5) 8 0 rfl f_8_19 rfl J rfl sg_49_0_1_1_0_1 jk_5 ?_
                  refine x_icge (tgt := 38) rfl rfl (ti_ge jk_4 jk_5 (br_f (by omega) ?_))
                  refine x_aloadn (x := 49) rfl rfl ?_
                  refine z_getR (N := 4) (b := 50) 8 2 rfl f_8_25 rfl J rfl 6274 ⟨rfl, rfl⟩ rfl ?_
                  refine x_iloadn (x := u1) rfl rfl ?_
                  refine x_aloadn (x := 49) rfl rfl ?_
                  refine z_getC (N := 4) (v := 5) 8 0 rfl f_8_19 rfl J rfl sg_49_0_1_1_0_1 jk_5 ?_
                  refine z_imul rfl rfl jk_5 (by omega) (fun v30 ev30 => ?_)
                  refine x_iloadn (x := 4) rfl rfl ?_
                  refine z_iadd rfl rfl jk_4 (by omega) (fun v31 ev31 => ?_)
                  refine x_iloadn (x := a3) rfl rfl ?_
                  refine z_iast (N := 200) (l := 0) (u := 200) (w := a3.toInt) rfl hD J Sm rfl rfl rfl (by omega) rfl (wr_50 (fun q1 q2 q3 q4 => by omega) (fun q1 q2 q3 q4 => by omega) (fun q1 q2 q3 q4 => by omega) (fun q1 q2 q3 q4 => by omega) (fun q1 q2 q3 q4 => by omega)) rfl (fun h w32 J Sm => ?_)
                  refine x_vret rfl rfl ?_
                  show jX m_X8_add 2 0 0 68 [(7, .int u1), (0, .ref 49), (1, .int a5), (2, .int a4), (3, .int a1), (4, .int a2), (5, .int a3), (6, .int 0)] [] _ 0 0 _
                  refine x_aloadn (x := 49) rfl rfl ?_
                  refine x_iload (x := u1) rfl rfl ?_
                  refine x_iconst (v := 5) rfl ki_5 ?_
                  refine x_iload (x := 0) rfl rfl ?_
                  refine x_inv (N := m_X8_put) (As := [.int u1, .int 5, .int 0]) (b := 49) (st := []) (dx9 := 1) (mc := 0) (ms := 0) (host := "") 8 rfl t_X8_put ⟨Or.inl q_8_29, i_X8_put.1, i_X8_put.2⟩ ⟨by decide, rfl⟩ (congrArg Prod.fst (J.1.1 49 (8, 4) rfl)) rfl (by decide) rfl rfl ⟨by decide, by decide⟩ (jC.of rfl k_X8_put rfl ?_)
                  show jX m_X8_put 1 0 0 0 [(0, .ref 49), (1, .int u1), (2, .int 5), (3, .int 0)] [] _ 0 0 _
                  refine x_iloadn (x := u1) rfl rfl ?_
                  refine x_iflt (tgt := 38) rfl rfl (ti_lt rfl jk_0 (br_f (by omega) ?_))
                  refine x_iloadn (x := u1) rfl rfl ?_
                  refine x_aloadn (x := 49) rfl rfl ?_
                  refine z_getM (N := 4) (v := v16) 8 3 rfl f_8_7 rfl J rfl (jmo w32 rfl (jmo w29 rfl (jmo w26 rfl (jmo w23 rfl (jmo w20 rfl (jmw w17)))))) ?_
                  refine x_icge (tgt := 38) rfl rfl (ti_ge rfl rfl (br_f (by omega) ?_))
                  refine x_iloadn (x := 5) rfl rfl ?_
                  refine x_iflt (tgt := 38) rfl rfl (ti_lt jk_5 jk_0 (br_f (by omega) ?_))
                  refine x_iloadn (x := 5) rfl rfl ?_
                  refine x_aloadn (x := 49) rfl rfl ?_
                  refine z_getC (N := 4) (v := 5) 8 0 rfl f_8_19 rfl J rfl sg_49_0_1_1_0_1 jk_5 ?_
                  refine x_icge (tgt := 38) rfl rfl (ti_ge jk_5 jk_5 (br_t (by omega) ?_))
                  refine x_vret rfl rfl ?_
                  show jX m_X8_add 2 0 0 77 [(7, .int u1), (0, .ref 49), (1, .int a5), (2, .int a4), (3, .int a1), (4, .int a2), (5, .int a3), (6, .int 0)] [] _ 0 0 _
                  refine x_vret rfl rfl ?_
                  show jX m_X11_addHolding 3 0 0 30 [(6, .int u1), (0, .ref 31), (1, .int a1), (2, .int a2), (3, .int a3), (4, .int a4), (5, .int a5)] [] _ 0 0 _
                  refine x_aloadn (x := 31) rfl rfl ?_
                  refine z_getR (N := 13) (b := 32) 11 0 rfl f_11_10 rfl J rfl 3968 ⟨rfl, rfl⟩ rfl ?_
                  refine z_getR (N := 20) (b := 63) 1 15 rfl f_11_159 rfl J rfl 4111 ⟨rfl, rfl⟩ rfl ?_
                  refine x_iconst (v := 3) rfl ki_3 ?_
                  refine x_iload (x := u1) rfl rfl ?_
                  refine x_iconst (v := 0) rfl ki_0 ?_
                  refine x_iconst (v := 0) rfl ki_0 ?_
                  refine x_iconst (v := 0) rfl ki_0 ?_
                  refine x_iconst (v := 0) rfl ki_0 ?_
                  refine x_inv (N := m_X8_add) (As := [.int 3, .int u1, .int 0, .int 0, .int 0, .int 0]) (b := 63) (st := []) (dx9 := 2) (mc := 0) (ms := 0) (host := "") 8 rfl t_X8_add ⟨Or.inl q_11_145, i_X8_add.1, i_X8_add.2⟩ ⟨by decide, rfl⟩ (congrArg Prod.fst (J.1.1 63 (8, 4) rfl)) rfl (by decide) rfl rfl ⟨by decide, by decide⟩ (jC.of rfl k_X8_add rfl ?_)
                  show jX m_X8_add 2 0 0 0 [(0, .ref 63), (1, .int 3), (2, .int u1), (3, .int 0), (4, .int 0), (5, .int 0), (6, .int 0)] [] _ 0 0 _
                  refine x_aloadn (x := 63) rfl rfl ?_
                  refine z_getI (N := 4) 8 3 rfl f_8_7 rfl J rfl sg_63_3_4_1_0_1 (fun v33 qv33 ev33 => ?_)
                  refine x_aloadn (x := 63) rfl rfl ?_
                  refine z_getC (N := 4) (v := 370) 8 1 rfl f_8_22 rfl J rfl sg_63_1_2_1_0_1 jk_370 ?_
                  refine x_iclt (tgt := 12) rfl rfl (ti_lt rfl jk_370 ⟨fun c34 => ?_, fun c34 => ?_⟩)
                  ·
                    refine x_aloadn (x := 63) rfl rfl ?_
                    refine z_getM (N := 4) (v := v33) 8 3 rfl f_8_7 rfl J rfl qv33 ?_
                    refine x_istore (lsx9 := [(7, .int v33), (0, .ref 63), (1, .int 3), (2, .int u1), (3, .int 0), (4, .int 0), (5, .int 0), (6, .int 0)]) rfl rfl rfl ?_
                    refine x_aloadn (x := 63) rfl rfl ?_
                    refine x_iload (x := v33) rfl rfl ?_
                    refine x_iconst (v := 1) rfl ki_1 ?_
                    refine z_iadd rfl rfl jk_1 (by omega) (fun v35 ev35 => ?_)
                    refine z_putI (N := 4) (w := v35.toInt) 8 3 rfl f_8_7 rfl (jfin_no TX8 RX8 4 rfl rfl) hD J Sm rfl rfl rfl (pw_63_3 (by omega)) rfl (fun h w36 J Sm => ?_)
                    refine x_aloadn (x := 63) rfl rfl ?_
                    refine x_iload (x := v33) rfl rfl ?_
                    refine x_iconst (v := 0) rfl ki_0 ?_
                    refine x_iloadn (x := 3) rfl rfl ?_
                    refine x_inv (N := m_X8_put) (As := [.int v33, .int 0, .int 3]) (b := 63) (st := []) (dx9 := 1) (mc := 0) (ms := 0) (host := "") 8 rfl t_X8_put ⟨Or.inl q_8_29, i_X8_put.1, i_X8_put.2⟩ ⟨by decide, rfl⟩ (congrArg Prod.fst (J.1.1 63 (8, 4) rfl)) rfl (by decide) rfl rfl ⟨by decide, by decide⟩ (jC.of rfl k_X8_put rfl ?_)
                    show jX m_X8_put 1 0 0 0 [(0, .ref 63), (1, .int v33), (2, .int 0), (3, .int 3)] [] _ 0 0 _
                    refine x_iloadn (x := v33) rfl rfl ?_
                    refine x_iflt (tgt := 38) rfl rfl (ti_lt rfl jk_0 (br_f (by omega) ?_))
                    refine x_iloadn (x := v33) rfl rfl ?_
                    refine x_aloadn (x := 63) rfl rfl ?_
                    refine z_getM (N := 4) (v := v35) 8 3 rfl f_8_7 rfl J rfl (jmw w36) ?_
                    refine x_icge (tgt := 38) rfl rfl (ti_ge rfl rfl (br_f (by omega) ?_))
                    refine x_iloadn (x := 0) rfl rfl ?_
                    refine x_iflt (tgt := 38) rfl rfl (ti_lt jk_0 jk_0 (br_f (by omega) ?_))
                    refine x_iloadn (x := 0) rfl rfl ?_
                    refine x_aloadn (x := 63) rfl rfl ?_
                    refine z_getC (N := 4) (v := 2) 8 0 rfl f_8_19 rfl J rfl sg_63_0_1_1_0_1 jk_2 ?_
                    refine x_icge (tgt := 38) rfl rfl (ti_ge jk_0 jk_2 (br_f (by omega) ?_))
                    refine x_aloadn (x := 63) rfl rfl ?_
                    refine z_getR (N := 4) (b := 64) 8 2 rfl f_8_25 rfl J rfl 8066 ⟨rfl, rfl⟩ rfl ?_
                    refine x_iloadn (x := v33) rfl rfl ?_
                    refine x_aloadn (x := 63) rfl rfl ?_
                    refine z_getC (N := 4) (v := 2) 8 0 rfl f_8_19 rfl J rfl sg_63_0_1_1_0_1 jk_2 ?_
                    refine z_imul rfl rfl jk_2 (by omega) (fun v37 ev37 => ?_)
                    refine x_iloadn (x := 0) rfl rfl ?_
                    refine z_iadd rfl rfl jk_0 (by omega) (fun v38 ev38 => ?_)
                    refine x_iloadn (x := 3) rfl rfl ?_
                    refine z_iast (N := 740) (l := 0) (u := 740) (w := 3) rfl hD J Sm rfl rfl rfl (by omega) jk_3 (wr_64 (fun q1 q2 q3 q4 => by omega) (fun q1 q2 q3 q4 => by omega)) rfl (fun h w39 J Sm => ?_)
                    refine x_vret rfl rfl ?_
                    show jX m_X8_add 2 0 0 34 [(7, .int v33), (0, .ref 63), (1, .int 3), (2, .int u1), (3, .int 0), (4, .int 0), (5, .int 0), (6, .int 0)] [] _ 0 0 _
                    refine x_aloadn (x := 63) rfl rfl ?_
                    refine x_iload (x := v33) rfl rfl ?_
                    refine x_iconst (v := 1) rfl ki_1 ?_
                    refine x_iloadn (x := u1) rfl rfl ?_
                    refine x_inv (N := m_X8_put) (As := [.int v33, .int 1, .int u1]) (b := 63) (st := []) (dx9 := 1) (mc := 0) (ms := 0) (host := "") 8 rfl t_X8_put ⟨Or.inl q_8_29, i_X8_put.1, i_X8_put.2⟩ ⟨by decide, rfl⟩ (congrArg Prod.fst (J.1.1 63 (8, 4) rfl)) rfl (by decide) rfl rfl ⟨by decide, by decide⟩ (jC.of rfl k_X8_put rfl ?_)
                    show jX m_X8_put 1 0 0 0 [(0, .ref 63), (1, .int v33), (2, .int 1), (3, .int u1)] [] _ 0 0 _
                    refine x_iloadn (x := v33) rfl rfl ?_
                    refine x_iflt (tgt := 38) rfl rfl (ti_lt rfl jk_0 (br_f (by omega) ?_))
                    refine x_iloadn (x := v33) rfl rfl ?_
                    refine x_aloadn (x := 63) rfl rfl ?_
                    refine z_getM (N := 4) (v := v35) 8 3 rfl f_8_7 rfl J rfl (jmo w39 rfl (jmw w36)) ?_
                    refine x_icge (tgt := 38) rfl rfl (ti_ge rfl rfl (br_f (by omega) ?_))
                    refine x_iloadn (x := 1) rfl rfl ?_
                    refine x_iflt (tgt := 38) rfl rfl (ti_lt jk_1 jk_0 (br_f (by omega) ?_))
                    refine x_iloadn (x := 1) rfl rfl ?_
                    refine x_aloadn (x := 63) rfl rfl ?_
                    refine z_getC (N := 4) (v := 2) 8 0 rfl f_8_19 rfl J rfl sg_63_0_1_1_0_1 jk_2 ?_
                    refine x_icge (tgt := 38) rfl rfl (ti_ge jk_1 jk_2 (br_f (by omega) ?_))
                    refine x_aloadn (x := 63) rfl rfl ?_
                    refine z_getR (N := 4) (b := 64) 8 2 rfl f_8_25 rfl J rfl 8066 ⟨rfl, rfl⟩ rfl ?_
                    refine x_iloadn (x := v33) rfl rfl ?_
                    refine x_aloadn (x := 63) rfl rfl ?_
                    refine z_getC (N := 4) (v := 2) 8 0 rfl f_8_19 rfl J rfl sg_63_0_1_1_0_1 jk_2 ?_
                    refine z_imul rfl rfl jk_2 (by omega) (fun v40 ev40 => ?_)
                    refine x_iloadn (x := 1) rfl rfl ?_
                    refine z_iadd rfl rfl jk_1 (by omega) (fun v41 ev41 => ?_)
                    refine x_iloadn (x := u1) rfl rfl ?_
                    refine z_iast (N := 740) (l := 0) (u := 740) (w := u1.toInt) rfl hD J Sm rfl rfl rfl (by omega) rfl (wr_64 (fun q1 q2 q3 q4 => by omega) (fun q1 q2 q3 q4 => by omega)) rfl (fun h w42 J Sm => ?_)
                    refine x_vret rfl rfl ?_
                    show jX m_X8_add 2 0 0 42 [(7, .int v33), (0, .ref 63), (1, .int 3), (2, .int u1), (3, .int 0), (4, .int 0), (5, .int 0), (6, .int 0)] [] _ 0 0 _
                    refine x_aloadn (x := 63) rfl rfl ?_
                    refine x_iload (x := v33) rfl rfl ?_
                    refine x_iconst (v := 2) rfl ki_2 ?_
                    refine x_iloadn (x := 0) rfl rfl ?_
                    refine x_inv (N := m_X8_put) (As := [.int v33, .int 2, .int 0]) (b := 63) (st := []) (dx9 := 1) (mc := 0) (ms := 0) (host := "") 8 rfl t_X8_put ⟨Or.inl q_8_29, i_X8_put.1, i_X8_put.2⟩ ⟨by decide, rfl⟩ (congrArg Prod.fst (J.1.1 63 (8, 4) rfl)) rfl (by decide) rfl rfl ⟨by decide, by decide⟩ (jC.of rfl k_X8_put rfl ?_)
                    show jX m_X8_put 1 0 0 0 [(0, .ref 63), (1, .int v33), (2, .int 2), (3, .int 0)] [] _ 0 0 _
                    refine x_iloadn (x := v33) rfl rfl ?_
                    refine x_iflt (tgt := 38) rfl rfl (ti_lt rfl jk_0 (br_f (by omega) ?_))
                    refine x_iloadn (x := v33) rfl rfl ?_
                    refine x_aloadn (x := 63) rfl rfl ?_
                    refine z_getM (N := 4) (v := v35) 8 3 rfl f_8_7 rfl J rfl (jmo w42 rfl (jmo w39 rfl (jmw w36))) ?_
                    refine x_icge (tgt := 38) rfl rfl (ti_ge rfl rfl (br_f (by omega) ?_))
                    refine x_iloadn (x := 2) rfl rfl ?_
                    refine x_iflt (tgt := 38) rfl rfl (ti_lt jk_2 jk_0 (br_f (by omega) ?_))
                    refine x_iloadn (x := 2) rfl rfl ?_
                    refine x_aloadn (x := 63) rfl rfl ?_
                    refine z_getC (N := 4) (v := 2) 8 0 rfl f_8_19 rfl J rfl sg_63_0_1_1_0_1 jk_2 ?_
                    refine x_icge (tgt := 38) rfl rfl (ti_ge jk_2 jk_2 (br_t (by omega) ?_))
                    refine x_vret rfl rfl ?_
                    show jX m_X8_add 2 0 0 50 [(7, .int v33), (0, .ref 63), (1, .int 3), (2, .int u1), (3, .int 0), (4, .int 0), (5, .int 0), (6, .int 0)] [] _ 0 0 _
                    refine x_aloadn (x := 63) rfl rfl ?_
                    refine x_iload (x := v33) rfl rfl ?_
                    refine x_iconst (v := 3) rfl ki_3 ?_
                    refine x_iload (x := 0) rfl rfl ?_
                    refine x_inv (N := m_X8_put) (As := [.int v33, .int 3, .int 0]) (b := 63) (st := []) (dx9 := 1) (mc := 0) (ms := 0) (host := "") 8 rfl t_X8_put ⟨Or.inl q_8_29, i_X8_put.1, i_X8_put.2⟩ ⟨by decide, rfl⟩ (congrArg Prod.fst (J.1.1 63 (8, 4) rfl)) rfl (by decide) rfl rfl ⟨by decide, by decide⟩ (jC.of rfl k_X8_put rfl ?_)
                    show jX m_X8_put 1 0 0 0 [(0, .ref 63), (1, .int v33), (2, .int 3), (3, .int 0)] [] _ 0 0 _
                    refine x_iloadn (x := v33) rfl rfl ?_
                    refine x_iflt (tgt := 38) rfl rfl (ti_lt rfl jk_0 (br_f (by omega) ?_))
                    refine x_iloadn (x := v33) rfl rfl ?_
                    refine x_aloadn (x := 63) rfl rfl ?_
                    refine z_getM (N := 4) (v := v35) 8 3 rfl f_8_7 rfl J rfl (jmo w42 rfl (jmo w39 rfl (jmw w36))) ?_
                    refine x_icge (tgt := 38) rfl rfl (ti_ge rfl rfl (br_f (by omega) ?_))
                    refine x_iloadn (x := 3) rfl rfl ?_
                    refine x_iflt (tgt := 38) rfl rfl (ti_lt jk_3 jk_0 (br_f (by omega) ?_))
                    refine x_iloadn (x := 3) rfl rfl ?_
                    refine x_aloadn (x := 63) rfl rfl ?_
                    refine z_getC (N := 4) (v := 2) 8 0 rfl f_8_19 rfl J rfl sg_63_0_1_1_0_1 jk_2 ?_
                    refine x_icge (tgt := 38) rfl rfl (ti_ge jk_3 jk_2 (br_t (by omega) ?_))
                    refine x_vret rfl rfl ?_
                    show jX m_X8_add 2 0 0 59 [(7, .int v33), (0, .ref 63), (1, .int 3), (2, .int u1), (3, .int 0), (4, .int 0), (5, .int 0), (6, .int 0)] [] _ 0 0 _
                    refine x_aloadn (x := 63) rfl rfl ?_
                    refine x_iload (x := v33) rfl rfl ?_
                    refine x_iconst (v := 4) rfl ki_4 ?_
                    refine x_iload (x := 0) rfl rfl ?_
                    refine x_inv (N := m_X8_put) (As := [.int v33, .int 4, .int 0]) (b := 63) (st := []) (dx9 := 1) (mc := 0) (ms := 0) (host := "") 8 rfl t_X8_put ⟨Or.inl q_8_29, i_X8_put.1, i_X8_put.2⟩ ⟨by decide, rfl⟩ (congrArg Prod.fst (J.1.1 63 (8, 4) rfl)) rfl (by decide) rfl rfl ⟨by decide, by decide⟩ (jC.of rfl k_X8_put rfl ?_)
                    show jX m_X8_put 1 0 0 0 [(0, .ref 63), (1, .int v33), (2, .int 4), (3, .int 0)] [] _ 0 0 _
                    refine x_iloadn (x := v33) rfl rfl ?_
                    refine x_iflt (tgt := 38) rfl rfl (ti_lt rfl jk_0 (br_f (by omega) ?_))
                    refine x_iloadn (x := v33) rfl rfl ?_
                    refine x_aloadn (x := 63) rfl rfl ?_
                    refine z_getM (N := 4) (v := v35) 8 3 rfl f_8_7 rfl J rfl (jmo w42 rfl (jmo w39 rfl (jmw w36))) ?_
                    refine x_icge (tgt := 38) rfl rfl (ti_ge rfl rfl (br_f (by omega) ?_))
                    refine x_iloadn (x := 4) rfl rfl ?_
                    refine x_iflt (tgt := 38) rfl rfl (ti_lt jk_4 jk_0 (br_f (by omega) ?_))
                    refine x_iloadn (x := 4) rfl rfl ?_
                    refine x_aloadn (x := 63) rfl rfl ?_
                    refine z_getC (N := 4) (v := 2) 8 0 rfl f_8_19 rfl J rfl sg_63_0_1_1_0_1 jk_2 ?_
                    refine x_icge (tgt := 38) rfl rfl (ti_ge jk_4 jk_2 (br_t (by omega) ?_))
                    refine x_vret rfl rfl ?_
                    show jX m_X8_add 2 0 0 68 [(7, .int v33), (0, .ref 63), (1, .int 3), (2, .int u1), (3, .int 0), (4, .int 0), (5, .int 0), (6, .int 0)] [] _ 0 0 _
                    refine x_aloadn (x := 63) rfl rfl ?_
                    refine x_iload (x := v33) rfl rfl ?_
                    refine x_iconst (v := 5) rfl ki_5 ?_
                    refine x_iload (x := 0) rfl rfl ?_
                    refine x_inv (N := m_X8_put) (As := [.int v33, .int 5, .int 0]) (b := 63) (st := []) (dx9 := 1) (mc := 0) (ms := 0) (host := "") 8 rfl t_X8_put ⟨Or.inl q_8_29, i_X8_put.1, i_X8_put.2⟩ ⟨by decide, rfl⟩ (congrArg Prod.fst (J.1.1 63 (8, 4) rfl)) rfl (by decide) rfl rfl ⟨by decide, by decide⟩ (jC.of rfl k_X8_put rfl ?_)
                    show jX m_X8_put 1 0 0 0 [(0, .ref 63), (1, .int v33), (2, .int 5), (3, .int 0)] [] _ 0 0 _
                    refine x_iloadn (x := v33) rfl rfl ?_
                    refine x_iflt (tgt := 38) rfl rfl (ti_lt rfl jk_0 (br_f (by omega) ?_))
                    refine x_iloadn (x := v33) rfl rfl ?_
                    refine x_aloadn (x := 63) rfl rfl ?_
                    refine z_getM (N := 4) (v := v35) 8 3 rfl f_8_7 rfl J rfl (jmo w42 rfl (jmo w39 rfl (jmw w36))) ?_
                    refine x_icge (tgt := 38) rfl rfl (ti_ge rfl rfl (br_f (by omega) ?_))
                    refine x_iloadn (x := 5) rfl rfl ?_
                    refine x_iflt (tgt := 38) rfl rfl (ti_lt jk_5 jk_0 (br_f (by omega) ?_))
                    refine x_iloadn (x := 5) rfl rfl ?_
                    refine x_aloadn (x := 63) rfl rfl ?_
                    refine z_getC (N := 4) (v := 2) 8 0 rfl f_8_19 rfl J rfl sg_63_0_1_1_0_1 jk_2 ?_
                    refine x_icge (tgt := 38) rfl rfl (ti_ge jk_5 jk_2 (br_t (by omega) ?_))
                    refine x_vret rfl rfl ?_
                    show jX m_X8_add 2 0 0 77 [(7, .int v33), (0, .ref 63), (1, .int 3), (2, .int u1), (3, .int 0), (4, .int 0), (5, .int 0), (6, .int 0)] [] _ 0 0 _
                    refine x_vret rfl rfl ?_
                    show jX m_X11_addHolding 3 0 0 47 [(6, .int u1), (0, .ref 31), (1, .int a1), (2, .int a2), (3, .int a3), (4, .int a4), (5, .int a5)] [] _ 0 0 _
                    refine x_iload (x := u1) rfl rfl ?_
                    refine x_iret rfl rfl ?_
                    show jX m_X11_split 4 0 0 94 [(0, .ref 31), (1, .int a1), (2, .int a2), (3, .int a3), (4, .int a4), (5, .int a5)] [.int u1, .ref 31] _ 0 0 _
                    refine x_inv (N := m_X11_accept) (As := [.int u1]) (b := 31) (st := []) (dx9 := 3) (mc := 0) (ms := 0) (host := "") 11 rfl t_X11_accept ⟨Or.inl q_11_165, i_X11_accept.1, i_X11_accept.2⟩ ⟨by decide, rfl⟩ (congrArg Prod.fst (J.1.1 31 (11, 13) rfl)) rfl (by decide) rfl rfl ⟨by decide, by decide⟩ (jC.of rfl k_X11_accept rfl ?_)
                    show jX m_X11_accept 3 0 0 0 [(0, .ref 31), (1, .int u1)] [] _ 0 0 _
                    refine x_aloadn (x := 31) rfl rfl ?_
                    refine x_iconst (v := 0) rfl ki_0 ?_
                    refine z_putI (N := 13) (w := 0) 11 12 rfl f_11_94 rfl (jfin_no TX11 RX11 13 rfl rfl) hD J Sm rfl rfl jk_0 (pw_31_12 (by omega)) rfl (fun h w43 J Sm => ?_)
                    refine x_aloadn (x := 31) rfl rfl ?_
                    refine z_getR (N := 13) (b := 32) 11 0 rfl f_11_10 rfl J rfl 3968 ⟨rfl, rfl⟩ rfl ?_
                    refine x_dup rfl rfl ?_
                    refine z_getI0 (N := 20) 1 19 rfl f_11_528 rfl J rfl (fun v44 qv44 => ?_)
                    have ev44 := jfull v44
                    refine x_iconst (v := 1) rfl ki_1 ?_
                    refine z_iadd0 rfl (fun v45 => ?_)
                    have ev45 := jfull v45
                    refine z_putI (N := 20) (w := v45.toInt) 1 19 rfl f_11_528 rfl (jfin_no TX1 RX1 20 rfl rfl) hD J Sm rfl rfl rfl (pw_32_19 trivial) rfl (fun h w46 J Sm => ?_)
                    refine x_iloadn (x := u1) rfl rfl ?_
                    refine x_iret rfl rfl ?_
                    show jX m_X11_split 4 0 0 97 [(0, .ref 31), (1, .int a1), (2, .int a2), (3, .int a3), (4, .int a4), (5, .int a5)] [.int u1] _ 0 0 _
                    refine x_iret rfl rfl ?_
                    exact hQ _ _ (jr_of rfl (by omega)) J Sm (Or.inr (Or.inr (Or.inr ⟨(by omega), (by omega), (by omega), (by omega), (tw_5 (jmo w46 rfl (jmo w43 rfl (jmo w42 rfl (jmo w39 rfl (jmo w36 rfl (jmo w32 rfl (jmo w29 rfl (jmo w26 rfl (jmo w23 rfl (jmo w20 rfl (jmw w17))))))))))) qu1 (by omega) (by omega) (ov_o w46 rfl (ov_o w43 rfl (ov_o w42 rfl (ov_o w39 rfl (ov_o w36 rfl (ov_w w32 (ov_w w29 (ov_w w26 (ov_w w23 (ov_w w20 (ov_o w17 rfl rfl))))))))))) (jix (by omega) (by omega)) (jix (by omega) (by omega)) (jix (by omega) (by omega)) (jix (by omega) (by omega)) (jix (by omega) (by omega)))⟩)))
                  ·
                    refine x_vret rfl rfl ?_
                    show jX m_X11_addHolding 3 0 0 47 [(6, .int u1), (0, .ref 31), (1, .int a1), (2, .int a2), (3, .int a3), (4, .int a4), (5, .int a5)] [] _ 0 0 _
                    refine x_iload (x := u1) rfl rfl ?_
                    refine x_iret rfl rfl ?_
                    show jX m_X11_split 4 0 0 94 [(0, .ref 31), (1, .int a1), (2, .int a2), (3, .int a3), (4, .int a4), (5, .int a5)] [.int u1, .ref 31] _ 0 0 _
                    refine x_inv (N := m_X11_accept) (As := [.int u1]) (b := 31) (st := []) (dx9 := 3) (mc := 0) (ms := 0) (host := "") 11 rfl t_X11_accept ⟨Or.inl q_11_165, i_X11_accept.1, i_X11_accept.2⟩ ⟨by decide, rfl⟩ (congrArg Prod.fst (J.1.1 31 (11, 13) rfl)) rfl (by decide) rfl rfl ⟨by decide, by decide⟩ (jC.of rfl k_X11_accept rfl ?_)
                    show jX m_X11_accept 3 0 0 0 [(0, .ref 31), (1, .int u1)] [] _ 0 0 _
                    refine x_aloadn (x := 31) rfl rfl ?_
                    refine x_iconst (v := 0) rfl ki_0 ?_
                    refine z_putI (N := 13) (w := 0) 11 12 rfl f_11_94 rfl (jfin_no TX11 RX11 13 rfl rfl) hD J Sm rfl rfl jk_0 (pw_31_12 (by omega)) rfl (fun h w47 J Sm => ?_)
                    refine x_aloadn (x := 31) rfl rfl ?_
                    refine z_getR (N := 13) (b := 32) 11 0 rfl f_11_10 rfl J rfl 3968 ⟨rfl, rfl⟩ rfl ?_
                    refine x_dup rfl rfl ?_
                    refine z_getI0 (N := 20) 1 19 rfl f_11_528 rfl J rfl (fun v48 qv48 => ?_)
                    have ev48 := jfull v48
                    refine x_iconst (v := 1) rfl ki_1 ?_
                    refine z_iadd0 rfl (fun v49 => ?_)
                    have ev49 := jfull v49
                    refine z_putI (N := 20) (w := v49.toInt) 1 19 rfl f_11_528 rfl (jfin_no TX1 RX1 20 rfl rfl) hD J Sm rfl rfl rfl (pw_32_19 trivial) rfl (fun h w50 J Sm => ?_)
                    refine x_iloadn (x := u1) rfl rfl ?_
                    refine x_iret rfl rfl ?_
                    show jX m_X11_split 4 0 0 97 [(0, .ref 31), (1, .int a1), (2, .int a2), (3, .int a3), (4, .int a4), (5, .int a5)] [.int u1] _ 0 0 _
                    refine x_iret rfl rfl ?_
                    exact hQ _ _ (jr_of rfl (by omega)) J Sm (Or.inr (Or.inr (Or.inr ⟨(by omega), (by omega), (by omega), (by omega), (tw_5 (jmo w50 rfl (jmo w47 rfl (jmo w32 rfl (jmo w29 rfl (jmo w26 rfl (jmo w23 rfl (jmo w20 rfl (jmw w17)))))))) qu1 (by omega) (by omega) (ov_o w50 rfl (ov_o w47 rfl (ov_w w32 (ov_w w29 (ov_w w26 (ov_w w23 (ov_w w20 (ov_o w17 rfl rfl)))))))) (jix (by omega) (by omega)) (jix (by omega) (by omega)) (jix (by omega) (by omega)) (jix (by omega) (by omega)) (jix (by omega) (by omega)))⟩)))
                ·
                  refine x_iconst (v := 1) rfl ki_1 ?_
                  refine x_goto (tgt := 16) rfl rfl ?_
                  refine x_zret rfl rfl (by decide) ?_
                  show jX m_X11_split 4 0 0 72 [(0, .ref 31), (1, .int a1), (2, .int a2), (3, .int a3), (4, .int a4), (5, .int a5)] [.int 1] _ 0 0 _
                  refine x_ifeq (tgt := 82) rfl rfl (ti_eq jk_1 jk_0 (br_f (by omega) ?_))
                  refine x_aloadn (x := 31) rfl rfl ?_
                  refine x_bipush (v := (-5)) rfl kb_m5 ?_
                  refine x_inv (N := m_X11_refuse) (As := [.int (-5)]) (b := 31) (st := []) (dx9 := 3) (mc := 0) (ms := 0) (host := "") 11 rfl t_X11_refuse ⟨Or.inl q_11_206, i_X11_refuse.1, i_X11_refuse.2⟩ ⟨by decide, rfl⟩ (congrArg Prod.fst (J.1.1 31 (11, 13) rfl)) rfl (by decide) rfl rfl ⟨by decide, by decide⟩ (jC.of rfl k_X11_refuse rfl ?_)
                  show jX m_X11_refuse 3 0 0 0 [(0, .ref 31), (1, .int (-5))] [] _ 0 0 _
                  refine x_aloadn (x := 31) rfl rfl ?_
                  refine x_iloadn (x := (-5)) rfl rfl ?_
                  refine z_putI (N := 13) (w := (-5)) 11 12 rfl f_11_94 rfl (jfin_no TX11 RX11 13 rfl rfl) hD J Sm rfl rfl jk_m5 (pw_31_12 (by omega)) rfl (fun h w51 J Sm => ?_)
                  refine x_iloadn (x := (-5)) rfl rfl ?_
                  refine x_iret rfl rfl ?_
                  show jX m_X11_split 4 0 0 81 [(0, .ref 31), (1, .int a1), (2, .int a2), (3, .int a3), (4, .int a4), (5, .int a5)] [.int (-5)] _ 0 0 _
                  refine x_iret rfl rfl ?_
                  exact hQ _ _ (jr_of jk_m5 (by omega)) J Sm (Or.inr (Or.inr (Or.inl ⟨(by omega), (by omega), (by omega), jk_m5, ⟨congrFun (ov_o w51 rfl rfl) 3, (ov_o w51 rfl rfl)⟩⟩)))
          ·
            exact jX.sub (jsb_c rfl jsb_n) (ct_X11_split_r31p_41 yy_a1 yy_a2 yy_a3 yy_a4 yy_a5 hD hQ  h ⟨rfl, by omega⟩ J Sm)
def fp_X11_terms_r31p : jFp := [(31, 12, 13), (32, 19, 20), (78, 2, 3), (78, 3, 4), (78, 4, 5), (78, 5, 6), (78, 6, 7)]
set_option maxRecDepth 100000 in
set_option maxHeartbeats 4000000 in
theorem ct_X11_terms_r31p_52 {Dy : jH → Prop} {h0 : jH} {Q : Option Value → jH → Prop} {a1 : Int32} (yy_a1 : (-2147483648) ≤ a1.toInt ∧ a1.toInt ≤ 2147483647) {a2 : Int32} (yy_a2 : (-2147483648) ≤ a2.toInt ∧ a2.toInt ≤ 2147483647) {a3 : Int32} (yy_a3 : (-2147483648) ≤ a3.toInt ∧ a3.toInt ≤ 2147483647) {a4 : Int32} (yy_a4 : (-2147483648) ≤ a4.toInt ∧ a4.toInt ≤ 2147483647) {a5 : Int32} (yy_a5 : (-2147483648) ≤ a5.toInt ∧ a5.toInt ≤ 2147483647) (hD : jDk Dy) (hQ : ∀ (v : Int32) hx9, (-1) ≤ v.toInt ∧ v.toInt ≤ 0 → jJ jSgX Dy hx9 → jSm fp_X11_terms_r31p h0 hx9 → (((0 ≤ a1.toInt ∧ a1.toInt ≤ 100 ∧ 0 ≤ a2.toInt ∧ a2.toInt ≤ 100 ∧ 0 ≤ a3.toInt ∧ a3.toInt ≤ 100 ∧ 0 ≤ a4.toInt ∧ a4.toInt ≤ 100 ∧ 0 ≤ a5.toInt ∧ a5.toInt ≤ 20) ∧ v.toInt = 0) ∨ (¬ (0 ≤ a1.toInt ∧ a1.toInt ≤ 100 ∧ 0 ≤ a2.toInt ∧ a2.toInt ≤ 100 ∧ 0 ≤ a3.toInt ∧ a3.toInt ≤ 100 ∧ 0 ≤ a4.toInt ∧ a4.toInt ≤ 100 ∧ 0 ≤ a5.toInt ∧ a5.toInt ≤ 20) ∧ v.toInt = -1)) → Q (some (.int v)) hx9) : ∀ (h : jH), ¬ (0 ≤ a1.toInt ∧ a1.toInt ≤ 100 ∧ 0 ≤ a2.toInt ∧ a2.toInt ≤ 100 ∧ 0 ≤ a3.toInt ∧ a3.toInt ≤ 100 ∧ 0 ≤ a4.toInt ∧ a4.toInt ≤ 100 ∧ 0 ≤ a5.toInt ∧ a5.toInt ≤ 20) → jJ jSgX Dy h → jSm fp_X11_terms_r31p h0 h → jX m_X11_terms 2 0 0 52 [(0, .ref 31)] [] h 0 0 Q := by
  intro  h y0   J Sm
  refine x_aloadn (x := 31) rfl rfl ?_
  refine x_iconst (v := (-1)) rfl ki_m1 ?_
  refine x_inv (N := m_X11_refuse) (As := [.int (-1)]) (b := 31) (st := []) (dx9 := 1) (mc := 0) (ms := 0) (host := "") 11 rfl t_X11_refuse ⟨Or.inl q_11_206, i_X11_refuse.1, i_X11_refuse.2⟩ ⟨by decide, rfl⟩ (congrArg Prod.fst (J.1.1 31 (11, 13) rfl)) rfl (by decide) rfl rfl ⟨by decide, by decide⟩ (jC.of rfl k_X11_refuse rfl ?_)
  show jX m_X11_refuse 1 0 0 0 [(0, .ref 31), (1, .int (-1))] [] _ 0 0 _
  refine x_aloadn (x := 31) rfl rfl ?_
  refine x_iloadn (x := (-1)) rfl rfl ?_
  refine z_putI (N := 13) (w := (-1)) 11 12 rfl f_11_94 rfl (jfin_no TX11 RX11 13 rfl rfl) hD J Sm rfl rfl jk_m1 (pw_31_12 (by omega)) rfl (fun h w1 J Sm => ?_)
  refine x_iloadn (x := (-1)) rfl rfl ?_
  refine x_iret rfl rfl ?_
  show jX m_X11_terms 2 0 0 57 [(0, .ref 31)] [.int (-1)] _ 0 0 _
  refine x_iret rfl rfl ?_
  exact hQ _ _ (jr_of jk_m1 (by omega)) J Sm (by have := jk_0; have := jk_m1; omega)
set_option maxRecDepth 100000 in
set_option maxHeartbeats 4000000 in
theorem sf_X11_terms_r31p {Dy : jH → Prop} {h : jH} {Q : Option Value → jH → Prop} {a1 : Int32} {a2 : Int32} {a3 : Int32} {a4 : Int32} {a5 : Int32} (hD : jDk Dy) (J : jJ jSgX Dy h) (hQ : ∀ (v : Int32) hx9, (-1) ≤ v.toInt ∧ v.toInt ≤ 0 → jJ jSgX Dy hx9 → jSm fp_X11_terms_r31p h hx9 → (((0 ≤ a1.toInt ∧ a1.toInt ≤ 100 ∧ 0 ≤ a2.toInt ∧ a2.toInt ≤ 100 ∧ 0 ≤ a3.toInt ∧ a3.toInt ≤ 100 ∧ 0 ≤ a4.toInt ∧ a4.toInt ≤ 100 ∧ 0 ≤ a5.toInt ∧ a5.toInt ≤ 20) ∧ v.toInt = 0) ∨ (¬ (0 ≤ a1.toInt ∧ a1.toInt ≤ 100 ∧ 0 ≤ a2.toInt ∧ a2.toInt ≤ 100 ∧ 0 ≤ a3.toInt ∧ a3.toInt ≤ 100 ∧ 0 ≤ a4.toInt ∧ a4.toInt ≤ 100 ∧ 0 ≤ a5.toInt ∧ a5.toInt ≤ 20) ∧ v.toInt = -1)) → Q (some (.int v)) hx9) : jC m_X11_terms 2 0 0 [.ref 31, .int a1, .int a2, .int a3, .int a4, .int a5] h Q := by
  refine jC.of rfl k_X11_terms rfl ?_
  have Sm := jSm_rf fp_X11_terms_r31p h
  have yy_a1 := jfull a1
  have yy_a2 := jfull a2
  have yy_a3 := jfull a3
  have yy_a4 := jfull a4
  have yy_a5 := jfull a5
  have ea1 := jfull a1
  have ea2 := jfull a2
  have ea3 := jfull a3
  have ea4 := jfull a4
  have ea5 := jfull a5
  show jX m_X11_terms 2 0 0 0 [(0, .ref 31), (1, .int a1), (2, .int a2), (3, .int a3), (4, .int a4), (5, .int a5)] [] _ 0 0 _
  refine x_iloadn (x := a1) rfl rfl ?_
  refine x_iconst (v := 0) rfl ki_0 ?_
  refine x_bipush (v := 100) rfl kb_100 ?_
  refine x_inst (N := m_X11_isWithin) (As := [.int a1, .int 0, .int 100]) (st := []) (dx9 := 1) (mc := 0) (ms := 0) (host := "") rfl t_X11_isWithin ⟨Or.inl q_11_202, s_X11_isWithin⟩ rfl (by decide) rfl rfl ⟨by decide, by decide⟩ (zc_X11_isWithin rfl jk_0 jk_100 (fun v1 ev1 => ?_))
  show jX m_X11_terms 2 0 0 7 [(0, .ref 31), (1, .int a1), (2, .int a2), (3, .int a3), (4, .int a4), (5, .int a5)] [.int v1] _ 0 0 _
  refine x_ifeq (tgt := 52) rfl rfl (ti_eq rfl jk_0 ⟨fun c2 => ?_, fun c2 => ?_⟩)
  ·
    exact jX.sub (jsb_c rfl jsb_n) (ct_X11_terms_r31p_52 yy_a1 yy_a2 yy_a3 yy_a4 yy_a5 hD hQ  h (by omega) J Sm)
  ·
    refine x_iloadn (x := a2) rfl rfl ?_
    refine x_iconst (v := 0) rfl ki_0 ?_
    refine x_bipush (v := 100) rfl kb_100 ?_
    refine x_inst (N := m_X11_isWithin) (As := [.int a2, .int 0, .int 100]) (st := []) (dx9 := 1) (mc := 0) (ms := 0) (host := "") rfl t_X11_isWithin ⟨Or.inl q_11_202, s_X11_isWithin⟩ rfl (by decide) rfl rfl ⟨by decide, by decide⟩ (zc_X11_isWithin rfl jk_0 jk_100 (fun v3 ev3 => ?_))
    show jX m_X11_terms 2 0 0 17 [(0, .ref 31), (1, .int a1), (2, .int a2), (3, .int a3), (4, .int a4), (5, .int a5)] [.int v3] _ 0 0 _
    refine x_ifeq (tgt := 52) rfl rfl (ti_eq rfl jk_0 ⟨fun c4 => ?_, fun c4 => ?_⟩)
    ·
      exact jX.sub (jsb_c rfl jsb_n) (ct_X11_terms_r31p_52 yy_a1 yy_a2 yy_a3 yy_a4 yy_a5 hD hQ  h (by omega) J Sm)
    ·
      refine x_iloadn (x := a3) rfl rfl ?_
      refine x_iconst (v := 0) rfl ki_0 ?_
      refine x_bipush (v := 100) rfl kb_100 ?_
      refine x_inst (N := m_X11_isWithin) (As := [.int a3, .int 0, .int 100]) (st := []) (dx9 := 1) (mc := 0) (ms := 0) (host := "") rfl t_X11_isWithin ⟨Or.inl q_11_202, s_X11_isWithin⟩ rfl (by decide) rfl rfl ⟨by decide, by decide⟩ (zc_X11_isWithin rfl jk_0 jk_100 (fun v5 ev5 => ?_))
      show jX m_X11_terms 2 0 0 27 [(0, .ref 31), (1, .int a1), (2, .int a2), (3, .int a3), (4, .int a4), (5, .int a5)] [.int v5] _ 0 0 _
      refine x_ifeq (tgt := 52) rfl rfl (ti_eq rfl jk_0 ⟨fun c6 => ?_, fun c6 => ?_⟩)
      ·
        exact jX.sub (jsb_c rfl jsb_n) (ct_X11_terms_r31p_52 yy_a1 yy_a2 yy_a3 yy_a4 yy_a5 hD hQ  h (by omega) J Sm)
      ·
        refine x_iload (x := a4) rfl rfl ?_
        refine x_iconst (v := 0) rfl ki_0 ?_
        refine x_bipush (v := 100) rfl kb_100 ?_
        refine x_inst (N := m_X11_isWithin) (As := [.int a4, .int 0, .int 100]) (st := []) (dx9 := 1) (mc := 0) (ms := 0) (host := "") rfl t_X11_isWithin ⟨Or.inl q_11_202, s_X11_isWithin⟩ rfl (by decide) rfl rfl ⟨by decide, by decide⟩ (zc_X11_isWithin rfl jk_0 jk_100 (fun v7 ev7 => ?_))
        show jX m_X11_terms 2 0 0 38 [(0, .ref 31), (1, .int a1), (2, .int a2), (3, .int a3), (4, .int a4), (5, .int a5)] [.int v7] _ 0 0 _
        refine x_ifeq (tgt := 52) rfl rfl (ti_eq rfl jk_0 ⟨fun c8 => ?_, fun c8 => ?_⟩)
        ·
          exact jX.sub (jsb_c rfl jsb_n) (ct_X11_terms_r31p_52 yy_a1 yy_a2 yy_a3 yy_a4 yy_a5 hD hQ  h (by omega) J Sm)
        ·
          refine x_iload (x := a5) rfl rfl ?_
          refine x_iconst (v := 0) rfl ki_0 ?_
          refine x_bipush (v := 20) rfl kb_20 ?_
          refine x_inst (N := m_X11_isWithin) (As := [.int a5, .int 0, .int 20]) (st := []) (dx9 := 1) (mc := 0) (ms := 0) (host := "") rfl t_X11_isWithin ⟨Or.inl q_11_202, s_X11_isWithin⟩ rfl (by decide) rfl rfl ⟨by decide, by decide⟩ (zc_X11_isWithin rfl jk_0 jk_20 (fun v9 ev9 => ?_))
          show jX m_X11_terms 2 0 0 49 [(0, .ref 31), (1, .int a1), (2, .int a2), (3, .int a3), (4, .int a4), (5, .int a5)] [.int v9] _ 0 0 _
          refine x_ifne (tgt := 58) rfl rfl (ti_ne rfl jk_0 ⟨fun c10 => ?_, fun c10 => ?_⟩)
          ·
            refine x_aloadn (x := 31) rfl rfl ?_
            refine z_getR (N := 13) (b := 78) 11 4 rfl f_11_41 rfl J rfl 3972 ⟨rfl, rfl⟩ rfl ?_
            refine x_iloadn (x := a1) rfl rfl ?_
            refine z_putI (N := 16) (w := a1.toInt) 7 2 rfl f_11_209 rfl (jfin_no TX7 RX7 16 rfl rfl) hD J Sm rfl rfl rfl (pw_78_2 (by omega)) rfl (fun h w11 J Sm => ?_)
            refine x_aloadn (x := 31) rfl rfl ?_
            refine z_getR (N := 13) (b := 78) 11 4 rfl f_11_41 rfl J rfl 3972 ⟨rfl, rfl⟩ rfl ?_
            refine x_iloadn (x := a2) rfl rfl ?_
            refine z_putI (N := 16) (w := a2.toInt) 7 3 rfl f_11_212 rfl (jfin_no TX7 RX7 16 rfl rfl) hD J Sm rfl rfl rfl (pw_78_3 (by omega)) rfl (fun h w12 J Sm => ?_)
            refine x_aloadn (x := 31) rfl rfl ?_
            refine z_getR (N := 13) (b := 78) 11 4 rfl f_11_41 rfl J rfl 3972 ⟨rfl, rfl⟩ rfl ?_
            refine x_iloadn (x := a3) rfl rfl ?_
            refine z_putI (N := 16) (w := a3.toInt) 7 4 rfl f_11_215 rfl (jfin_no TX7 RX7 16 rfl rfl) hD J Sm rfl rfl rfl (pw_78_4 (by omega)) rfl (fun h w13 J Sm => ?_)
            refine x_aloadn (x := 31) rfl rfl ?_
            refine z_getR (N := 13) (b := 78) 11 4 rfl f_11_41 rfl J rfl 3972 ⟨rfl, rfl⟩ rfl ?_
            refine x_iload (x := a4) rfl rfl ?_
            refine z_putI (N := 16) (w := a4.toInt) 7 5 rfl f_11_218 rfl (jfin_no TX7 RX7 16 rfl rfl) hD J Sm rfl rfl rfl (pw_78_5 (by omega)) rfl (fun h w14 J Sm => ?_)
            refine x_aloadn (x := 31) rfl rfl ?_
            refine z_getR (N := 13) (b := 78) 11 4 rfl f_11_41 rfl J rfl 3972 ⟨rfl, rfl⟩ rfl ?_
            refine x_iload (x := a5) rfl rfl ?_
            refine z_putI (N := 16) (w := a5.toInt) 7 6 rfl f_11_221 rfl (jfin_no TX7 RX7 16 rfl rfl) hD J Sm rfl rfl rfl (pw_78_6 (by omega)) rfl (fun h w15 J Sm => ?_)
            refine x_aloadn (x := 31) rfl rfl ?_
            refine x_iconst (v := 0) rfl ki_0 ?_
            refine x_inv (N := m_X11_accept) (As := [.int 0]) (b := 31) (st := []) (dx9 := 1) (mc := 0) (ms := 0) (host := "") 11 rfl t_X11_accept ⟨Or.inl q_11_165, i_X11_accept.1, i_X11_accept.2⟩ ⟨by decide, rfl⟩ (congrArg Prod.fst (J.1.1 31 (11, 13) rfl)) rfl (by decide) rfl rfl ⟨by decide, by decide⟩ (jC.of rfl k_X11_accept rfl ?_)
            show jX m_X11_accept 1 0 0 0 [(0, .ref 31), (1, .int 0)] [] _ 0 0 _
            refine x_aloadn (x := 31) rfl rfl ?_
            refine x_iconst (v := 0) rfl ki_0 ?_
            refine z_putI (N := 13) (w := 0) 11 12 rfl f_11_94 rfl (jfin_no TX11 RX11 13 rfl rfl) hD J Sm rfl rfl jk_0 (pw_31_12 (by omega)) rfl (fun h w16 J Sm => ?_)
            refine x_aloadn (x := 31) rfl rfl ?_
            refine z_getR (N := 13) (b := 32) 11 0 rfl f_11_10 rfl J rfl 3968 ⟨rfl, rfl⟩ rfl ?_
            refine x_dup rfl rfl ?_
            refine z_getI0 (N := 20) 1 19 rfl f_11_528 rfl J rfl (fun v17 qv17 => ?_)
            have ev17 := jfull v17
            refine x_iconst (v := 1) rfl ki_1 ?_
            refine z_iadd0 rfl (fun v18 => ?_)
            have ev18 := jfull v18
            refine z_putI (N := 20) (w := v18.toInt) 1 19 rfl f_11_528 rfl (jfin_no TX1 RX1 20 rfl rfl) hD J Sm rfl rfl rfl (pw_32_19 trivial) rfl (fun h w19 J Sm => ?_)
            refine x_iloadn (x := 0) rfl rfl ?_
            refine x_iret rfl rfl ?_
            show jX m_X11_terms 2 0 0 105 [(0, .ref 31), (1, .int a1), (2, .int a2), (3, .int a3), (4, .int a4), (5, .int a5)] [.int 0] _ 0 0 _
            refine x_iret rfl rfl ?_
            exact hQ _ _ (jr_of jk_0 (by omega)) J Sm (by have := jk_0; have := jk_m1; omega)
          ·
            exact jX.sub (jsb_c rfl jsb_n) (ct_X11_terms_r31p_52 yy_a1 yy_a2 yy_a3 yy_a4 yy_a5 hD hQ  h (by omega) J Sm)
def fp_X11_text_r31p : jFp := [(31, 12, 13), (32, 18, 19), (32, 19, 20), (63, 3, 4), (64, 0, 740), (66, 0, 30), (68, 1, 2), (68, 2, 3), (68, 3, 4), (68, 4, 5), (68, 5, 6), (95, 3, 4), (95, 4, 5), (95, 5, 6), (96, 0, 72), (97, 0, 1200)]
set_option maxRecDepth 100000 in
set_option maxHeartbeats 4000000 in
theorem ct_X11_text_r31p_23 {Dy : jH → Prop} {h0 : jH} {Q : Option Value → jH → Prop} (hD : jDk Dy) (hQ : ∀ (v : Int32) hx9, (-6) ≤ v.toInt ∧ v.toInt ≤ 29 → jJ jSgX Dy hx9 → jSm fp_X11_text_r31p h0 hx9 → ∀ u0 u1 : Int32, jiv hx9 68 5 = u0 → jiv hx9 68 3 = u1 → (u0.toInt ≠ 3 ∨ u1.toInt ≤ 399) → (jiv hx9 68 1).toInt = 0 → Q (some (.int v)) hx9) : ∀ (g0 : Int32) (g1 : Int32) (h : jH), 0 ≤ g0.toInt ∧ g0.toInt ≤ 400 → 0 ≤ g1.toInt ∧ g1.toInt ≤ 3 → (g1.toInt ≠ 3 ∨ g0.toInt ≤ 399) → jiv h 68 3 = g0 → jiv h 68 5 = g1 → jJ jSgX Dy h → jSm fp_X11_text_r31p h0 h → jX m_X11_text 27 3 1278 23 [(0, .ref 31)] [] h 0 0 Q := by
  intro g0 g1 h y0 y1 y2 z0 z1  J Sm
  refine x_aloadn (x := 31) rfl rfl ?_
  refine x_iconst (v := (-1)) rfl ki_m1 ?_
  refine x_inv (N := m_X11_refuseTape) (As := [.int (-1)]) (b := 31) (st := []) (dx9 := 26) (mc := 0) (ms := 0) (host := "") 11 rfl t_X11_refuseTape ⟨Or.inl q_11_122, i_X11_refuseTape.1, i_X11_refuseTape.2⟩ ⟨by decide, rfl⟩ (congrArg Prod.fst (J.1.1 31 (11, 13) rfl)) rfl (by decide) rfl rfl ⟨by decide, by decide⟩ (jC.of rfl k_X11_refuseTape rfl ?_)
  show jX m_X11_refuseTape 26 0 0 0 [(0, .ref 31), (1, .int (-1))] [] _ 0 0 _
  refine x_aloadn (x := 31) rfl rfl ?_
  refine z_getR (N := 13) (b := 68) 11 2 rfl f_11_23 rfl J rfl 3970 ⟨rfl, rfl⟩ rfl ?_
  refine x_iconst (v := 0) rfl ki_0 ?_
  refine z_putI (N := 6) (w := 0) 9 1 rfl f_11_106 rfl (jfin_no TX9 RX9 6 rfl rfl) hD J Sm rfl rfl jk_0 (pw_68_1 (by omega)) rfl (fun h w1 J Sm => ?_)
  refine x_aloadn (x := 31) rfl rfl ?_
  refine x_iloadn (x := (-1)) rfl rfl ?_
  refine x_inv (N := m_X11_refuse) (As := [.int (-1)]) (b := 31) (st := []) (dx9 := 25) (mc := 0) (ms := 0) (host := "") 11 rfl t_X11_refuse ⟨Or.inl q_11_206, i_X11_refuse.1, i_X11_refuse.2⟩ ⟨by decide, rfl⟩ (congrArg Prod.fst (J.1.1 31 (11, 13) rfl)) rfl (by decide) rfl rfl ⟨by decide, by decide⟩ (jC.of rfl k_X11_refuse rfl ?_)
  show jX m_X11_refuse 25 0 0 0 [(0, .ref 31), (1, .int (-1))] [] _ 0 0 _
  refine x_aloadn (x := 31) rfl rfl ?_
  refine x_iloadn (x := (-1)) rfl rfl ?_
  refine z_putI (N := 13) (w := (-1)) 11 12 rfl f_11_94 rfl (jfin_no TX11 RX11 13 rfl rfl) hD J Sm rfl rfl jk_m1 (pw_31_12 (by omega)) rfl (fun h w2 J Sm => ?_)
  refine x_iloadn (x := (-1)) rfl rfl ?_
  refine x_iret rfl rfl ?_
  show jX m_X11_refuseTape 26 0 0 13 [(0, .ref 31), (1, .int (-1))] [.int (-1)] _ 0 0 _
  refine x_iret rfl rfl ?_
  show jX m_X11_text 27 3 1278 28 [(0, .ref 31)] [.int (-1)] _ 0 0 _
  refine x_iret rfl rfl ?_
  exact hQ _ _ (jr_of jk_m1 (by omega)) J Sm _ _ (jmo w2 rfl (jmo w1 rfl z1)) (jmo w2 rfl (jmo w1 rfl z0)) (by omega) (by have := congrArg Int32.toInt (jmo w2 rfl (jmw w1)); have := jk_0; omega)
set_option maxRecDepth 100000 in
set_option maxHeartbeats 4000000 in
theorem sf_X11_text_r31p {Dy : jH → Prop} {h : jH} {Q : Option Value → jH → Prop} {a1 : Int32} {a2 : Int32} {a3 : Int32} (hD : jDk Dy) (J : jJ jSgX Dy h) {p0 p1 : Int32} (zp0 : jiv h 68 5 = p0) (zp1 : jiv h 68 3 = p1) (rl_p0 : (p0.toInt ≠ 3 ∨ p1.toInt ≤ 399)) (hQ : ∀ (v : Int32) hx9, (-6) ≤ v.toInt ∧ v.toInt ≤ 29 → jJ jSgX Dy hx9 → jSm fp_X11_text_r31p h hx9 → ∀ u0 u1 : Int32, jiv hx9 68 5 = u0 → jiv hx9 68 3 = u1 → (u0.toInt ≠ 3 ∨ u1.toInt ≤ 399) → (jiv hx9 68 1).toInt = 0 → Q (some (.int v)) hx9) : jC m_X11_text 27 3 1278 [.ref 31, .int a1, .int a2, .int a3] h Q := by
  refine jC.of rfl k_X11_text rfl ?_
  have Sm := jSm_rf fp_X11_text_r31p h
  have ep0 := (show 0 ≤ p0.toInt ∧ p0.toInt ≤ 3 from zp0 ▸ jrg_f J sg_68_5_6_1_0_1)
  have ep1 := (show 0 ≤ p1.toInt ∧ p1.toInt ≤ 400 from zp1 ▸ jrg_f J sg_68_3_4_1_0_1)
  have ea1 := jfull a1
  have ea2 := jfull a2
  have ea3 := jfull a3
  show jX m_X11_text 27 3 1278 0 [(0, .ref 31), (1, .int a1), (2, .int a2), (3, .int a3)] [] _ 0 0 _
  refine x_iloadn (x := a1) rfl rfl ?_
  refine x_iflt (tgt := 23) rfl rfl (ti_lt rfl jk_0 ⟨fun c1 => ?_, fun c1 => ?_⟩)
  ·
    exact jX.sub (jsb_c rfl jsb_n) (ct_X11_text_r31p_23 hD hQ  p1 p0 h (jr_of rfl (by omega)) (jr_of rfl (by omega)) (by omega) zp1 zp0 J Sm)
  ·
    refine x_iloadn (x := a1) rfl rfl ?_
    refine x_iconst (v := 1) rfl ki_1 ?_
    refine x_icgt (tgt := 23) rfl rfl (ti_gt rfl jk_1 ⟨fun c2 => ?_, fun c2 => ?_⟩)
    ·
      exact jX.sub (jsb_c rfl jsb_n) (ct_X11_text_r31p_23 hD hQ  p1 p0 h (jr_of rfl (by omega)) (jr_of rfl (by omega)) (by omega) zp1 zp0 J Sm)
    ·
      refine x_iloadn (x := a2) rfl rfl ?_
      refine x_inst (N := m_X11_isDay) (As := [.int a2]) (st := []) (dx9 := 1) (mc := 0) (ms := 0) (host := "") rfl t_X11_isDay ⟨Or.inl q_11_115, s_X11_isDay⟩ rfl (by decide) rfl rfl ⟨by decide, by decide⟩ (zc_X11_isDay rfl (fun v3 ev3 => ?_))
      show jX m_X11_text 27 3 1278 13 [(0, .ref 31), (1, .int a1), (2, .int a2), (3, .int a3)] [.int v3] _ 0 0 _
      refine x_ifeq (tgt := 23) rfl rfl (ti_eq rfl jk_0 ⟨fun c4 => ?_, fun c4 => ?_⟩)
      ·
        exact jX.sub (jsb_c rfl jsb_n) (ct_X11_text_r31p_23 hD hQ  p1 p0 h (jr_of rfl (by omega)) (jr_of rfl (by omega)) (by omega) zp1 zp0 J Sm)
      ·
        refine x_iloadn (x := a3) rfl rfl ?_
        refine x_inst (N := m_X11_isDay) (As := [.int a3]) (st := []) (dx9 := 1) (mc := 0) (ms := 0) (host := "") rfl t_X11_isDay ⟨Or.inl q_11_115, s_X11_isDay⟩ rfl (by decide) rfl rfl ⟨by decide, by decide⟩ (zc_X11_isDay rfl (fun v5 ev5 => ?_))
        show jX m_X11_text 27 3 1278 20 [(0, .ref 31), (1, .int a1), (2, .int a2), (3, .int a3)] [.int v5] _ 0 0 _
        refine x_ifne (tgt := 29) rfl rfl (ti_ne rfl jk_0 ⟨fun c6 => ?_, fun c6 => ?_⟩)
        ·
          refine x_aloadn (x := 31) rfl rfl ?_
          refine z_getR (N := 13) (b := 32) 11 0 rfl f_11_10 rfl J rfl 3968 ⟨rfl, rfl⟩ rfl ?_
          refine z_getI (N := 20) 1 18 rfl f_11_325 rfl J rfl sg_32_18_19_1_0_1 (fun v7 qv7 ev7 => ?_)
          refine x_bipush (v := 30) rfl kb_30 ?_
          refine x_iclt (tgt := 48) rfl rfl (ti_lt rfl jk_30 ⟨fun c8 => ?_, fun c8 => ?_⟩)
          ·
            refine x_aloadn (x := 31) rfl rfl ?_
            refine z_getR (N := 13) (b := 95) 11 6 rfl f_11_59 rfl J rfl 3974 ⟨rfl, rfl⟩ rfl ?_
            refine x_iloadn (x := a1) rfl rfl ?_
            refine x_iloadn (x := a2) rfl rfl ?_
            refine x_iloadn (x := a3) rfl rfl ?_
            refine x_inv (N := m_X2_read) (As := [.int a1, .int a2, .int a3]) (b := 95) (st := []) (dx9 := 26) (mc := 3) (ms := 1278) (host := "") 2 rfl t_X2_read ⟨Or.inl q_11_328, i_X2_read.1, i_X2_read.2⟩ ⟨by decide, rfl⟩ (congrArg Prod.fst (J.1.1 95 (2, 6) rfl)) rfl (by decide) rfl rfl ⟨by decide, by decide⟩ (sf_X2_read_r95 (jr_of rfl (by omega)) (jr_of rfl (by omega)) (jr_of rfl (by omega)) hD J zp0 zp1 (by omega)  ⟨fun h J S9 u10 u11 qu10 qu11 ru10 => ?_, fun b12 h Tb12 J S9 u10 u11 qu10 qu11 ru10 => ?_⟩)
            ·
              have eu10 := (show 0 ≤ u10.toInt ∧ u10.toInt ≤ 3 from qu10 ▸ jrg_f J sg_68_5_6_1_0_1)
              have eu11 := (show 0 ≤ u11.toInt ∧ u11.toInt ≤ 400 from qu11 ▸ jrg_f J sg_68_3_4_1_0_1)
              have Sm := jSm_tr rfl Sm S9
              show jX m_X11_text 27 3 1278 58 [(0, .ref 31), (1, .int a1), (2, .int a2), (3, .int a3)] [.null] _ 3 1278 _
              refine x_astoreN (lsx9 := [(4, .null), (0, .ref 31), (1, .int a1), (2, .int a2), (3, .int a3)]) rfl rfl rfl ?_
              refine x_aloadN rfl rfl ?_
              refine x_ifnonnullN rfl ?_
              refine x_aloadn (x := 31) rfl rfl ?_
              refine x_bipush (v := (-6)) rfl kb_m6 ?_
              refine x_inv (N := m_X11_refuseTape) (As := [.int (-6)]) (b := 31) (st := []) (dx9 := 26) (mc := 0) (ms := 0) (host := "") 11 rfl t_X11_refuseTape ⟨Or.inl q_11_122, i_X11_refuseTape.1, i_X11_refuseTape.2⟩ ⟨by decide, rfl⟩ (congrArg Prod.fst (J.1.1 31 (11, 13) rfl)) rfl (by decide) rfl rfl ⟨by decide, by decide⟩ (jC.of rfl k_X11_refuseTape rfl ?_)
              show jX m_X11_refuseTape 26 0 0 0 [(0, .ref 31), (1, .int (-6))] [] _ 0 0 _
              refine x_aloadn (x := 31) rfl rfl ?_
              refine z_getR (N := 13) (b := 68) 11 2 rfl f_11_23 rfl J rfl 3970 ⟨rfl, rfl⟩ rfl ?_
              refine x_iconst (v := 0) rfl ki_0 ?_
              refine z_putI (N := 6) (w := 0) 9 1 rfl f_11_106 rfl (jfin_no TX9 RX9 6 rfl rfl) hD J Sm rfl rfl jk_0 (pw_68_1 (by omega)) rfl (fun h w13 J Sm => ?_)
              refine x_aloadn (x := 31) rfl rfl ?_
              refine x_iloadn (x := (-6)) rfl rfl ?_
              refine x_inv (N := m_X11_refuse) (As := [.int (-6)]) (b := 31) (st := []) (dx9 := 25) (mc := 0) (ms := 0) (host := "") 11 rfl t_X11_refuse ⟨Or.inl q_11_206, i_X11_refuse.1, i_X11_refuse.2⟩ ⟨by decide, rfl⟩ (congrArg Prod.fst (J.1.1 31 (11, 13) rfl)) rfl (by decide) rfl rfl ⟨by decide, by decide⟩ (jC.of rfl k_X11_refuse rfl ?_)
              show jX m_X11_refuse 25 0 0 0 [(0, .ref 31), (1, .int (-6))] [] _ 0 0 _
              refine x_aloadn (x := 31) rfl rfl ?_
              refine x_iloadn (x := (-6)) rfl rfl ?_
              refine z_putI (N := 13) (w := (-6)) 11 12 rfl f_11_94 rfl (jfin_no TX11 RX11 13 rfl rfl) hD J Sm rfl rfl jk_m6 (pw_31_12 (by omega)) rfl (fun h w14 J Sm => ?_)
              refine x_iloadn (x := (-6)) rfl rfl ?_
              refine x_iret rfl rfl ?_
              show jX m_X11_refuseTape 26 0 0 13 [(0, .ref 31), (1, .int (-6))] [.int (-6)] _ 0 0 _
              refine x_iret rfl rfl ?_
              show jX m_X11_text 27 3 1278 71 [(4, .null), (0, .ref 31), (1, .int a1), (2, .int a2), (3, .int a3)] [.int (-6)] _ 3 1278 _
              refine x_iret rfl rfl ?_
              exact hQ _ _ (jr_of jk_m6 (by omega)) J Sm _ _ (jmo w14 rfl (jmo w13 rfl qu10)) (jmo w14 rfl (jmo w13 rfl qu11)) (by omega) (by have := congrArg Int32.toInt (jmo w14 rfl (jmw w13)); have := jk_0; omega)
            ·
              have eu10 := (show 0 ≤ u10.toInt ∧ u10.toInt ≤ 3 from qu10 ▸ jrg_f J sg_68_5_6_1_0_1)
              have eu11 := (show 0 ≤ u11.toInt ∧ u11.toInt ≤ 400 from qu11 ▸ jrg_f J sg_68_3_4_1_0_1)
              have Sm := jSm_tr rfl Sm S9
              show jX m_X11_text 27 3 1278 58 [(0, .ref 31), (1, .int a1), (2, .int a2), (3, .int a3)] [.ref b12] _ 3 1278 _
              refine x_astore (lsx9 := [(4, .ref b12), (0, .ref 31), (1, .int a1), (2, .int a2), (3, .int a3)]) rfl rfl rfl ?_
              refine x_aload (x := b12) rfl rfl ?_
              refine x_ifnonnull (tgt := 72) rfl rfl ?_
              refine x_aloadn (x := 31) rfl rfl ?_
              refine z_getR (N := 13) (b := 68) 11 2 rfl f_11_23 rfl J rfl 3970 ⟨rfl, rfl⟩ rfl ?_
              refine x_iconst (v := 0) rfl ki_0 ?_
              refine z_putI (N := 6) (w := 0) 9 1 rfl f_11_106 rfl (jfin_no TX9 RX9 6 rfl rfl) hD J Sm rfl rfl jk_0 (pw_68_1 (by omega)) rfl (fun h w15 J Sm => ?_)
              have Tb12 := jTx_i w15 rfl Tb12
              refine x_aloadn (x := 31) rfl rfl ?_
              refine z_getR (N := 13) (b := 32) 11 0 rfl f_11_10 rfl J rfl 3968 ⟨rfl, rfl⟩ rfl ?_
              refine z_getM (N := 20) (v := v7) 1 18 rfl f_11_325 rfl J rfl (jmo w15 rfl (jmc S9 rfl qv7)) ?_
              refine x_istore (lsx9 := [(5, .int v7), (4, .ref b12), (0, .ref 31), (1, .int a1), (2, .int a2), (3, .int a3)]) rfl rfl rfl ?_
              refine x_aloadn (x := 31) rfl rfl ?_
              refine z_getR (N := 13) (b := 32) 11 0 rfl f_11_10 rfl J rfl 3968 ⟨rfl, rfl⟩ rfl ?_
              refine z_getR (N := 20) (b := 66) 1 17 rfl f_11_332 rfl J rfl 4113 ⟨rfl, rfl⟩ rfl ?_
              refine x_iload (x := v7) rfl rfl ?_
              refine x_aload (x := b12) rfl rfl ?_
              refine z_aastT rfl hD J Sm rfl rfl (by omega) Tb12 rfl (fun h w16 J Sm => ?_)
              have Tb12 := jTx_r w16 Tb12
              refine x_aloadn (x := 31) rfl rfl ?_
              refine z_getR (N := 13) (b := 32) 11 0 rfl f_11_10 rfl J rfl 3968 ⟨rfl, rfl⟩ rfl ?_
              refine x_iload (x := v7) rfl rfl ?_
              refine x_iconst (v := 1) rfl ki_1 ?_
              refine z_iadd rfl rfl jk_1 (by omega) (fun v17 ev17 => ?_)
              refine z_putI (N := 20) (w := v17.toInt) 1 18 rfl f_11_325 rfl (jfin_no TX1 RX1 20 rfl rfl) hD J Sm rfl rfl rfl (pw_32_18 (by omega)) rfl (fun h w18 J Sm => ?_)
              have Tb12 := jTx_i w18 rfl Tb12
              refine x_aloadn (x := 31) rfl rfl ?_
              refine z_getR (N := 13) (b := 32) 11 0 rfl f_11_10 rfl J rfl 3968 ⟨rfl, rfl⟩ rfl ?_
              refine z_getR (N := 20) (b := 63) 1 15 rfl f_11_159 rfl J rfl 4111 ⟨rfl, rfl⟩ rfl ?_
              refine x_iconst (v := 1) rfl ki_1 ?_
              refine x_iload (x := v7) rfl rfl ?_
              refine x_iconst (v := 0) rfl ki_0 ?_
              refine x_iconst (v := 0) rfl ki_0 ?_
              refine x_iconst (v := 0) rfl ki_0 ?_
              refine x_iconst (v := 0) rfl ki_0 ?_
              refine x_inv (N := m_X8_add) (As := [.int 1, .int v7, .int 0, .int 0, .int 0, .int 0]) (b := 63) (st := []) (dx9 := 2) (mc := 0) (ms := 0) (host := "") 8 rfl t_X8_add ⟨Or.inl q_11_145, i_X8_add.1, i_X8_add.2⟩ ⟨by decide, rfl⟩ (congrArg Prod.fst (J.1.1 63 (8, 4) rfl)) rfl (by decide) rfl rfl ⟨by decide, by decide⟩ (sf_X8_add_r63 (jr_of jk_1 (by omega)) (jr_of rfl (by omega)) (jr_of jk_0 (by omega)) (jr_of jk_0 (by omega)) (jr_of jk_0 (by omega)) (jr_of jk_0 (by omega)) hD J  (fun h J S19 => ?_))
              have Sm := jSm_tr rfl Sm S19
              have Tb12 := jTx_m S19 rfl Tb12
              show jX m_X11_text 27 3 1278 129 [(5, .int v7), (4, .ref b12), (0, .ref 31), (1, .int a1), (2, .int a2), (3, .int a3)] [] _ 3 1278 _
              refine x_aloadn (x := 31) rfl rfl ?_
              refine x_iload (x := v7) rfl rfl ?_
              refine x_inv (N := m_X11_accept) (As := [.int v7]) (b := 31) (st := []) (dx9 := 26) (mc := 0) (ms := 0) (host := "") 11 rfl t_X11_accept ⟨Or.inl q_11_165, i_X11_accept.1, i_X11_accept.2⟩ ⟨by decide, rfl⟩ (congrArg Prod.fst (J.1.1 31 (11, 13) rfl)) rfl (by decide) rfl rfl ⟨by decide, by decide⟩ (jC.of rfl k_X11_accept rfl ?_)
              show jX m_X11_accept 26 0 0 0 [(0, .ref 31), (1, .int v7)] [] _ 0 0 _
              refine x_aloadn (x := 31) rfl rfl ?_
              refine x_iconst (v := 0) rfl ki_0 ?_
              refine z_putI (N := 13) (w := 0) 11 12 rfl f_11_94 rfl (jfin_no TX11 RX11 13 rfl rfl) hD J Sm rfl rfl jk_0 (pw_31_12 (by omega)) rfl (fun h w20 J Sm => ?_)
              have Tb12 := jTx_i w20 rfl Tb12
              refine x_aloadn (x := 31) rfl rfl ?_
              refine z_getR (N := 13) (b := 32) 11 0 rfl f_11_10 rfl J rfl 3968 ⟨rfl, rfl⟩ rfl ?_
              refine x_dup rfl rfl ?_
              refine z_getI0 (N := 20) 1 19 rfl f_11_528 rfl J rfl (fun v21 qv21 => ?_)
              have ev21 := jfull v21
              refine x_iconst (v := 1) rfl ki_1 ?_
              refine z_iadd0 rfl (fun v22 => ?_)
              have ev22 := jfull v22
              refine z_putI (N := 20) (w := v22.toInt) 1 19 rfl f_11_528 rfl (jfin_no TX1 RX1 20 rfl rfl) hD J Sm rfl rfl rfl (pw_32_19 trivial) rfl (fun h w23 J Sm => ?_)
              have Tb12 := jTx_i w23 rfl Tb12
              refine x_iloadn (x := v7) rfl rfl ?_
              refine x_iret rfl rfl ?_
              show jX m_X11_text 27 3 1278 135 [(5, .int v7), (4, .ref b12), (0, .ref 31), (1, .int a1), (2, .int a2), (3, .int a3)] [.int v7] _ 3 1278 _
              refine x_iret rfl rfl ?_
              exact hQ _ _ (jr_of rfl (by omega)) J Sm _ _ (jmo w23 rfl (jmo w20 rfl (jmc S19 rfl (jmo w18 rfl (jmr w16 (jmo w15 rfl qu10)))))) (jmo w23 rfl (jmo w20 rfl (jmc S19 rfl (jmo w18 rfl (jmr w16 (jmo w15 rfl qu11)))))) (by omega) (by have := congrArg Int32.toInt (jmo w23 rfl (jmo w20 rfl (jmc S19 rfl (jmo w18 rfl (jmr w16 (jmw w15)))))); have := jk_0; omega)
          ·
            refine x_aloadn (x := 31) rfl rfl ?_
            refine x_bipush (v := (-5)) rfl kb_m5 ?_
            refine x_inv (N := m_X11_refuseTape) (As := [.int (-5)]) (b := 31) (st := []) (dx9 := 26) (mc := 0) (ms := 0) (host := "") 11 rfl t_X11_refuseTape ⟨Or.inl q_11_122, i_X11_refuseTape.1, i_X11_refuseTape.2⟩ ⟨by decide, rfl⟩ (congrArg Prod.fst (J.1.1 31 (11, 13) rfl)) rfl (by decide) rfl rfl ⟨by decide, by decide⟩ (jC.of rfl k_X11_refuseTape rfl ?_)
            show jX m_X11_refuseTape 26 0 0 0 [(0, .ref 31), (1, .int (-5))] [] _ 0 0 _
            refine x_aloadn (x := 31) rfl rfl ?_
            refine z_getR (N := 13) (b := 68) 11 2 rfl f_11_23 rfl J rfl 3970 ⟨rfl, rfl⟩ rfl ?_
            refine x_iconst (v := 0) rfl ki_0 ?_
            refine z_putI (N := 6) (w := 0) 9 1 rfl f_11_106 rfl (jfin_no TX9 RX9 6 rfl rfl) hD J Sm rfl rfl jk_0 (pw_68_1 (by omega)) rfl (fun h w24 J Sm => ?_)
            refine x_aloadn (x := 31) rfl rfl ?_
            refine x_iloadn (x := (-5)) rfl rfl ?_
            refine x_inv (N := m_X11_refuse) (As := [.int (-5)]) (b := 31) (st := []) (dx9 := 25) (mc := 0) (ms := 0) (host := "") 11 rfl t_X11_refuse ⟨Or.inl q_11_206, i_X11_refuse.1, i_X11_refuse.2⟩ ⟨by decide, rfl⟩ (congrArg Prod.fst (J.1.1 31 (11, 13) rfl)) rfl (by decide) rfl rfl ⟨by decide, by decide⟩ (jC.of rfl k_X11_refuse rfl ?_)
            show jX m_X11_refuse 25 0 0 0 [(0, .ref 31), (1, .int (-5))] [] _ 0 0 _
            refine x_aloadn (x := 31) rfl rfl ?_
            refine x_iloadn (x := (-5)) rfl rfl ?_
            refine z_putI (N := 13) (w := (-5)) 11 12 rfl f_11_94 rfl (jfin_no TX11 RX11 13 rfl rfl) hD J Sm rfl rfl jk_m5 (pw_31_12 (by omega)) rfl (fun h w25 J Sm => ?_)
            refine x_iloadn (x := (-5)) rfl rfl ?_
            refine x_iret rfl rfl ?_
            show jX m_X11_refuseTape 26 0 0 13 [(0, .ref 31), (1, .int (-5))] [.int (-5)] _ 0 0 _
            refine x_iret rfl rfl ?_
            show jX m_X11_text 27 3 1278 47 [(0, .ref 31), (1, .int a1), (2, .int a2), (3, .int a3)] [.int (-5)] _ 0 0 _
            refine x_iret rfl rfl ?_
            exact hQ _ _ (jr_of jk_m5 (by omega)) J Sm _ _ (jmo w25 rfl (jmo w24 rfl zp0)) (jmo w25 rfl (jmo w24 rfl zp1)) (by omega) (by have := congrArg Int32.toInt (jmo w25 rfl (jmw w24)); have := jk_0; omega)
        ·
          exact jX.sub (jsb_c rfl jsb_n) (ct_X11_text_r31p_23 hD hQ  p1 p0 h (jr_of rfl (by omega)) (jr_of rfl (by omega)) (by omega) zp1 zp0 J Sm)
