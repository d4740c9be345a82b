def fp_X11_torn_r31p : jFp := [(31, 12, 13), (32, 19, 20), (41, 3, 4), (42, 0, 80)]
set_option maxRecDepth 100000 in
set_option maxHeartbeats 4000000 in
theorem ct_X11_torn_r31p_34 {Dy : jH → Prop} {h0 : jH} {Q : Option Value → jH → Prop} {a1 : Int32} (yy_a1 : (-2147483648) ≤ a1.toInt ∧ a1.toInt ≤ 2147483647) {a2 : Int32} (yy_a2 : (-2147483648) ≤ a2.toInt ∧ a2.toInt ≤ 2147483647) {a3 : Int32} (yy_a3 : (-2147483648) ≤ a3.toInt ∧ a3.toInt ≤ 2147483647) {a4 : Int32} (yy_a4 : (-2147483648) ≤ a4.toInt ∧ a4.toInt ≤ 2147483647) (hD : jDk Dy) (hQ : ∀ (v : Int32) hx9, (-5) ≤ v.toInt ∧ v.toInt ≤ 20 → jJ jSgX Dy hx9 → jSm fp_X11_torn_r31p h0 hx9 → ((¬ (0 ≤ a1.toInt ∧ a1.toInt ≤ 5 ∧ 0 ≤ a2.toInt ∧ a2.toInt ≤ 146399 ∧ 0 ≤ a3.toInt ∧ a3.toInt ≤ 146399 ∧ a2.toInt ≤ a3.toInt ∧ 0 ≤ a4.toInt ∧ a4.toInt ≤ 146399) ∧ v.toInt = -1 ∧ jTe 41 h0 hx9) ∨ ((0 ≤ a1.toInt ∧ a1.toInt ≤ 5 ∧ 0 ≤ a2.toInt ∧ a2.toInt ≤ 146399 ∧ 0 ≤ a3.toInt ∧ a3.toInt ≤ 146399 ∧ a2.toInt ≤ a3.toInt ∧ 0 ≤ a4.toInt ∧ a4.toInt ≤ 146399) ∧ (jiv h0 41 3).toInt = 20 ∧ v.toInt = -5 ∧ jTe 41 h0 hx9) ∨ ((0 ≤ a1.toInt ∧ a1.toInt ≤ 5 ∧ 0 ≤ a2.toInt ∧ a2.toInt ≤ 146399 ∧ 0 ≤ a3.toInt ∧ a3.toInt ≤ 146399 ∧ a2.toInt ≤ a3.toInt ∧ 0 ≤ a4.toInt ∧ a4.toInt ≤ 146399) ∧ (jiv h0 41 3).toInt < 20 ∧ v.toInt = (jiv h0 41 3).toInt + 1 ∧ jTwr 41 4 [a4, a2, a3, a1] h0 hx9)) → Q (some (.int v)) hx9) : ∀ (h : jH), (h = h0 ∧ ¬ (0 ≤ a1.toInt ∧ a1.toInt ≤ 5 ∧ 0 ≤ a2.toInt ∧ a2.toInt ≤ 146399 ∧ 0 ≤ a3.toInt ∧ a3.toInt ≤ 146399 ∧ a2.toInt ≤ a3.toInt ∧ 0 ≤ a4.toInt ∧ a4.toInt ≤ 146399)) → jJ jSgX Dy h → jSm fp_X11_torn_r31p h0 h → jX m_X11_torn 3 0 0 34 [(0, .ref 31)] [] h 0 0 Q := by
  intro  h C0   J Sm
  refine x_aloadn (x := 31) rfl rfl ?_
  refine x_iconst (v := (-1)) rfl ki_m1 ?_
  refine x_inv (N := m_X11_refuse) (As := [.int (-1)]) (b := 31) (st := []) (dx9 := 2) (mc := 0) (ms := 0) (host := "") 11 rfl t_X11_refuse ⟨Or.inl q_11_206, i_X11_refuse.1, i_X11_refuse.2⟩ ⟨by decide, rfl⟩ (congrArg Prod.fst (J.1.1 31 (11, 13) rfl)) rfl (by decide) rfl rfl ⟨by decide, by decide⟩ (jC.of rfl k_X11_refuse rfl ?_)
  show jX m_X11_refuse 2 0 0 0 [(0, .ref 31), (1, .int (-1))] [] _ 0 0 _
  refine x_aloadn (x := 31) rfl rfl ?_
  refine x_iloadn (x := (-1)) rfl rfl ?_
  refine z_putI (N := 13) (w := (-1)) 11 12 rfl f_11_94 rfl (jfin_no TX11 RX11 13 rfl rfl) hD J Sm rfl rfl jk_m1 (pw_31_12 (by omega)) rfl (fun h w1 J Sm => ?_)
  refine x_iloadn (x := (-1)) rfl rfl ?_
  refine x_iret rfl rfl ?_
  show jX m_X11_torn 3 0 0 39 [(0, .ref 31)] [.int (-1)] _ 0 0 _
  refine x_iret rfl rfl ?_
  exact hQ _ _ (jr_of jk_m1 (by omega)) J Sm (Or.inl ⟨C0.2, jk_m1, ⟨congrFun (ov_o w1 rfl (ov_e C0.1)) 3, (ov_o w1 rfl (ov_e C0.1))⟩⟩)
set_option maxRecDepth 100000 in
set_option maxHeartbeats 4000000 in
theorem sf_X11_torn_r31p {Dy : jH → Prop} {h : jH} {Q : Option Value → jH → Prop} {a1 : Int32} {a2 : Int32} {a3 : Int32} {a4 : Int32} (hD : jDk Dy) (J : jJ jSgX Dy h) (hQ : ∀ (v : Int32) hx9, (-5) ≤ v.toInt ∧ v.toInt ≤ 20 → jJ jSgX Dy hx9 → jSm fp_X11_torn_r31p h hx9 → ((¬ (0 ≤ a1.toInt ∧ a1.toInt ≤ 5 ∧ 0 ≤ a2.toInt ∧ a2.toInt ≤ 146399 ∧ 0 ≤ a3.toInt ∧ a3.toInt ≤ 146399 ∧ a2.toInt ≤ a3.toInt ∧ 0 ≤ a4.toInt ∧ a4.toInt ≤ 146399) ∧ v.toInt = -1 ∧ jTe 41 h hx9) ∨ ((0 ≤ a1.toInt ∧ a1.toInt ≤ 5 ∧ 0 ≤ a2.toInt ∧ a2.toInt ≤ 146399 ∧ 0 ≤ a3.toInt ∧ a3.toInt ≤ 146399 ∧ a2.toInt ≤ a3.toInt ∧ 0 ≤ a4.toInt ∧ a4.toInt ≤ 146399) ∧ (jiv h 41 3).toInt = 20 ∧ v.toInt = -5 ∧ jTe 41 h hx9) ∨ ((0 ≤ a1.toInt ∧ a1.toInt ≤ 5 ∧ 0 ≤ a2.toInt ∧ a2.toInt ≤ 146399 ∧ 0 ≤ a3.toInt ∧ a3.toInt ≤ 146399 ∧ a2.toInt ≤ a3.toInt ∧ 0 ≤ a4.toInt ∧ a4.toInt ≤ 146399) ∧ (jiv h 41 3).toInt < 20 ∧ v.toInt = (jiv h 41 3).toInt + 1 ∧ jTwr 41 4 [a4, a2, a3, a1] h hx9)) → Q (some (.int v)) hx9) : jC m_X11_torn 3 0 0 [.ref 31, .int a1, .int a2, .int a3, .int a4] h Q := by
  refine jC.of rfl k_X11_torn rfl ?_
  have Sm := jSm_rf fp_X11_torn_r31p h
  have yy_a1 := jfull a1
  have yy_a2 := jfull a2
  have yy_a3 := jfull a3
  have yy_a4 := jfull a4
  have ea1 := jfull a1
  have ea2 := jfull a2
  have ea3 := jfull a3
  have ea4 := jfull a4
  show jX m_X11_torn 3 0 0 0 [(0, .ref 31), (1, .int a1), (2, .int a2), (3, .int a3), (4, .int a4)] [] _ 0 0 _
  obtain ⟨u1, qu1⟩ : ∃ v : Int32, jiv h 41 3 = v := ⟨_, rfl⟩
  have eu1 := (show 0 ≤ u1.toInt ∧ u1.toInt ≤ 20 from qu1 ▸ jrg_f J sg_41_3_4_1_0_1)
  have ou1 := congrArg Int32.toInt qu1
  refine x_iloadn (x := a1) rfl rfl ?_
  refine x_inst (N := m_X11_isBook) (As := [.int a1]) (st := []) (dx9 := 1) (mc := 0) (ms := 0) (host := "") rfl t_X11_isBook ⟨Or.inl q_11_112, s_X11_isBook⟩ rfl (by decide) rfl rfl ⟨by decide, by decide⟩ (zc_X11_isBook rfl (fun v2 ev2 => ?_))
  show jX m_X11_torn 3 0 0 4 [(0, .ref 31), (1, .int a1), (2, .int a2), (3, .int a3), (4, .int a4)] [.int v2] _ 0 0 _
  refine x_ifeq (tgt := 34) rfl rfl (ti_eq rfl jk_0 ⟨fun c3 => ?_, fun c3 => ?_⟩)
  ·
    exact jX.sub (jsb_c rfl jsb_n) (ct_X11_torn_r31p_34 yy_a1 yy_a2 yy_a3 yy_a4 hD hQ  h ⟨rfl, by omega⟩ J Sm)
  ·
    refine x_iloadn (x := a2) rfl rfl ?_
    refine x_inst (N := m_X11_isDay) (As := [.int a2]) (st := []) (dx9 := 1) (mc := 0) (ms := 0) (host := "") rfl t_X11_isDay ⟨Or.inl q_11_115, s_X11_isDay⟩ rfl (by decide) rfl rfl ⟨by decide, by decide⟩ (zc_X11_isDay rfl (fun v4 ev4 => ?_))
    show jX m_X11_torn 3 0 0 11 [(0, .ref 31), (1, .int a1), (2, .int a2), (3, .int a3), (4, .int a4)] [.int v4] _ 0 0 _
    refine x_ifeq (tgt := 34) rfl rfl (ti_eq rfl jk_0 ⟨fun c5 => ?_, fun c5 => ?_⟩)
    ·
      exact jX.sub (jsb_c rfl jsb_n) (ct_X11_torn_r31p_34 yy_a1 yy_a2 yy_a3 yy_a4 hD hQ  h ⟨rfl, by omega⟩ J Sm)
    ·
      refine x_iloadn (x := a3) rfl rfl ?_
      refine x_inst (N := m_X11_isDay) (As := [.int a3]) (st := []) (dx9 := 1) (mc := 0) (ms := 0) (host := "") rfl t_X11_isDay ⟨Or.inl q_11_115, s_X11_isDay⟩ rfl (by decide) rfl rfl ⟨by decide, by decide⟩ (zc_X11_isDay rfl (fun v6 ev6 => ?_))
      show jX m_X11_torn 3 0 0 18 [(0, .ref 31), (1, .int a1), (2, .int a2), (3, .int a3), (4, .int a4)] [.int v6] _ 0 0 _
      refine x_ifeq (tgt := 34) rfl rfl (ti_eq rfl jk_0 ⟨fun c7 => ?_, fun c7 => ?_⟩)
      ·
        exact jX.sub (jsb_c rfl jsb_n) (ct_X11_torn_r31p_34 yy_a1 yy_a2 yy_a3 yy_a4 hD hQ  h ⟨rfl, by omega⟩ J Sm)
      ·
        refine x_iloadn (x := a3) rfl rfl ?_
        refine x_iloadn (x := a2) rfl rfl ?_
        refine x_iclt (tgt := 34) rfl rfl (ti_lt rfl rfl ⟨fun c8 => ?_, fun c8 => ?_⟩)
        ·
          exact jX.sub (jsb_c rfl jsb_n) (ct_X11_torn_r31p_34 yy_a1 yy_a2 yy_a3 yy_a4 hD hQ  h ⟨rfl, by omega⟩ J Sm)
        ·
          refine x_iload (x := a4) rfl rfl ?_
          refine x_inst (N := m_X11_isDay) (As := [.int a4]) (st := []) (dx9 := 1) (mc := 0) (ms := 0) (host := "") rfl t_X11_isDay ⟨Or.inl q_11_115, s_X11_isDay⟩ rfl (by decide) rfl rfl ⟨by decide, by decide⟩ (zc_X11_isDay rfl (fun v9 ev9 => ?_))
          show jX m_X11_torn 3 0 0 31 [(0, .ref 31), (1, .int a1), (2, .int a2), (3, .int a3), (4, .int a4)] [.int v9] _ 0 0 _
          refine x_ifne (tgt := 40) rfl rfl (ti_ne rfl jk_0 ⟨fun c10 => ?_, fun c10 => ?_⟩)
          ·
            refine x_aloadn (x := 31) rfl rfl ?_
            refine z_getR (N := 13) (b := 32) 11 0 rfl f_11_10 rfl J rfl 3968 ⟨rfl, rfl⟩ rfl ?_
            refine z_getR (N := 20) (b := 41) 1 4 rfl f_11_312 rfl J rfl 4100 ⟨rfl, rfl⟩ rfl ?_
            refine x_inv (N := m_X8_isFull) (As := []) (b := 41) (st := []) (dx9 := 2) (mc := 0) (ms := 0) (host := "") 8 rfl t_X8_isFull ⟨Or.inl q_11_130, i_X8_isFull.1, i_X8_isFull.2⟩ ⟨by decide, rfl⟩ (congrArg Prod.fst (J.1.1 41 (8, 4) rfl)) rfl (by decide) rfl rfl ⟨by decide, by decide⟩ (jC.of rfl k_X8_isFull rfl ?_)
            show jX m_X8_isFull 2 0 0 0 [(0, .ref 41)] [] _ 0 0 _
            refine x_aloadn (x := 41) rfl rfl ?_
            refine z_getM (N := 4) (v := u1) 8 3 rfl f_8_7 rfl J rfl qu1 ?_
            refine x_aloadn (x := 41) rfl rfl ?_
            refine z_getC (N := 4) (v := 20) 8 1 rfl f_8_22 rfl J rfl sg_41_1_2_1_0_1 jk_20 ?_
            refine x_iclt (tgt := 15) rfl rfl (ti_lt rfl jk_20 ⟨fun c11 => ?_, fun c11 => ?_⟩)
            ·
              refine x_iconst (v := 0) rfl ki_0 ?_
              refine x_zret rfl rfl (by decide) ?_
              show jX m_X11_torn 3 0 0 50 [(0, .ref 31), (1, .int a1), (2, .int a2), (3, .int a3), (4, .int a4)] [.int 0] _ 0 0 _
              refine x_ifeq (tgt := 60) rfl rfl (ti_eq jk_0 jk_0 (br_t (by omega) ?_))
              refine x_aloadn (x := 31) rfl rfl ?_
              refine z_getR (N := 13) (b := 32) 11 0 rfl f_11_10 rfl J rfl 3968 ⟨rfl, rfl⟩ rfl ?_
              refine z_getR (N := 20) (b := 41) 1 4 rfl f_11_312 rfl J rfl 4100 ⟨rfl, rfl⟩ rfl ?_
              refine x_iload (x := a4) rfl rfl ?_
              refine x_iloadn (x := a2) rfl rfl ?_
              refine x_iloadn (x := a3) rfl rfl ?_
              refine x_iloadn (x := a1) rfl rfl ?_
              refine x_iconst (v := 0) rfl ki_0 ?_
              refine x_iconst (v := 0) rfl ki_0 ?_
              refine x_inv (N := m_X8_add) (As := [.int a4, .int a2, .int a3, .int a1, .int 0, .int 0]) (b := 41) (st := []) (dx9 := 2) (mc := 0) (ms := 0) (host := "") 8 rfl t_X8_add ⟨Or.inl q_11_145, i_X8_add.1, i_X8_add.2⟩ ⟨by decide, rfl⟩ (congrArg Prod.fst (J.1.1 41 (8, 4) rfl)) rfl (by decide) rfl rfl ⟨by decide, by decide⟩ (jC.of rfl k_X8_add rfl ?_)
              show jX m_X8_add 2 0 0 0 [(0, .ref 41), (1, .int a4), (2, .int a2), (3, .int a3), (4, .int a1), (5, .int 0), (6, .int 0)] [] _ 0 0 _
              refine x_aloadn (x := 41) rfl rfl ?_
              refine z_getM (N := 4) (v := u1) 8 3 rfl f_8_7 rfl J rfl qu1 ?_
              refine x_aloadn (x := 41) rfl rfl ?_
              refine z_getC (N := 4) (v := 20) 8 1 rfl f_8_22 rfl J rfl sg_41_1_2_1_0_1 jk_20 ?_
              refine x_iclt (tgt := 12) rfl rfl (ti_lt rfl jk_20 (br_t (by omega) ?_))
              refine x_aloadn (x := 41) rfl rfl ?_
              refine z_getM (N := 4) (v := u1) 8 3 rfl f_8_7 rfl J rfl qu1 ?_
              refine x_istore (lsx9 := [(7, .int u1), (0, .ref 41), (1, .int a4), (2, .int a2), (3, .int a3), (4, .int a1), (5, .int 0), (6, .int 0)]) rfl rfl rfl ?_
              refine x_aloadn (x := 41) rfl rfl ?_
              refine x_iload (x := u1) rfl rfl ?_
              refine x_iconst (v := 1) rfl ki_1 ?_
              refine z_iadd rfl rfl jk_1 (by omega) (fun v12 ev12 => ?_)
              refine z_putI (N := 4) (w := v12.toInt) 8 3 rfl f_8_7 rfl (jfin_no TX8 RX8 4 rfl rfl) hD J Sm rfl rfl rfl (pw_41_3 (by omega)) rfl (fun h w13 J Sm => ?_)
              refine x_aloadn (x := 41) rfl rfl ?_
              refine x_iload (x := u1) rfl rfl ?_
              refine x_iconst (v := 0) rfl ki_0 ?_
              refine x_iloadn (x := a4) rfl rfl ?_
              refine x_inv (N := m_X8_put) (As := [.int u1, .int 0, .int a4]) (b := 41) (st := []) (dx9 := 1) (mc := 0) (ms := 0) (host := "") 8 rfl t_X8_put ⟨Or.inl q_8_29, i_X8_put.1, i_X8_put.2⟩ ⟨by decide, rfl⟩ (congrArg Prod.fst (J.1.1 41 (8, 4) rfl)) rfl (by decide) rfl rfl ⟨by decide, by decide⟩ (jC.of rfl k_X8_put rfl ?_)
              show jX m_X8_put 1 0 0 0 [(0, .ref 41), (1, .int u1), (2, .int 0), (3, .int a4)] [] _ 0 0 _
              refine x_iloadn (x := u1) rfl rfl ?_
              refine x_iflt (tgt := 38) rfl rfl (ti_lt rfl jk_0 (br_f (by omega) ?_))
              refine x_iloadn (x := u1) rfl rfl ?_
              refine x_aloadn (x := 41) rfl rfl ?_
              refine z_getM (N := 4) (v := v12) 8 3 rfl f_8_7 rfl J rfl (jmw w13) ?_
              refine x_icge (tgt := 38) rfl rfl (ti_ge rfl rfl (br_f (by omega) ?_))
              refine x_iloadn (x := 0) rfl rfl ?_
              refine x_iflt (tgt := 38) rfl rfl (ti_lt jk_0 jk_0 (br_f (by omega) ?_))
              refine x_iloadn (x := 0) rfl rfl ?_
              refine x_aloadn (x := 41) rfl rfl ?_
              refine z_getC (N := 4) (v := 4) 8 0 rfl f_8_19 rfl J rfl sg_41_0_1_1_0_1 jk_4 ?_
              refine x_icge (tgt := 38) rfl rfl (ti_ge jk_0 jk_4 (br_f (by omega) ?_))
              refine x_aloadn (x := 41) rfl rfl ?_
              refine z_getR (N := 4) (b := 42) 8 2 rfl f_8_25 rfl J rfl 5250 ⟨rfl, rfl⟩ rfl ?_
              refine x_iloadn (x := u1) rfl rfl ?_
              refine x_aloadn (x := 41) rfl rfl ?_
              refine z_getC (N := 4) (v := 4) 8 0 rfl f_8_19 rfl J rfl sg_41_0_1_1_0_1 jk_4 ?_
              refine z_imul rfl rfl jk_4 (by omega) (fun v14 ev14 => ?_)
              refine x_iloadn (x := 0) rfl rfl ?_
              refine z_iadd rfl rfl jk_0 (by omega) (fun v15 ev15 => ?_)
              refine x_iloadn (x := a4) rfl rfl ?_
              refine z_iast (N := 80) (l := 0) (u := 80) (w := a4.toInt) rfl hD J Sm rfl rfl rfl (by omega) rfl (wr_42 (fun q1 q2 q3 q4 => by omega) (fun q1 q2 q3 q4 => by omega) (fun q1 q2 q3 q4 => by omega) (fun q1 q2 q3 q4 => by omega)) rfl (fun h w16 J Sm => ?_)
              refine x_vret rfl rfl ?_
              show jX m_X8_add 2 0 0 34 [(7, .int u1), (0, .ref 41), (1, .int a4), (2, .int a2), (3, .int a3), (4, .int a1), (5, .int 0), (6, .int 0)] [] _ 0 0 _
              refine x_aloadn (x := 41) rfl rfl ?_
              refine x_iload (x := u1) rfl rfl ?_
              refine x_iconst (v := 1) rfl ki_1 ?_
              refine x_iloadn (x := a2) rfl rfl ?_
              refine x_inv (N := m_X8_put) (As := [.int u1, .int 1, .int a2]) (b := 41) (st := []) (dx9 := 1) (mc := 0) (ms := 0) (host := "") 8 rfl t_X8_put ⟨Or.inl q_8_29, i_X8_put.1, i_X8_put.2⟩ ⟨by decide, rfl⟩ (congrArg Prod.fst (J.1.1 41 (8, 4) rfl)) rfl (by decide) rfl rfl ⟨by decide, by decide⟩ (jC.of rfl k_X8_put rfl ?_)
              show jX m_X8_put 1 0 0 0 [(0, .ref 41), (1, .int u1), (2, .int 1), (3, .int a2)] [] _ 0 0 _
              refine x_iloadn (x := u1) rfl rfl ?_
              refine x_iflt (tgt := 38) rfl rfl (ti_lt rfl jk_0 (br_f (by omega) ?_))
              refine x_iloadn (x := u1) rfl rfl ?_
              refine x_aloadn (x := 41) rfl rfl ?_
              refine z_getM (N := 4) (v := v12) 8 3 rfl f_8_7 rfl J rfl (jmo w16 rfl (jmw w13)) ?_
              refine x_icge (tgt := 38) rfl rfl (ti_ge rfl rfl (br_f (by omega) ?_))
              refine x_iloadn (x := 1) rfl rfl ?_
              refine x_iflt (tgt := 38) rfl rfl (ti_lt jk_1 jk_0 (br_f (by omega) ?_))
              refine x_iloadn (x := 1) rfl rfl ?_
              refine x_aloadn (x := 41) rfl rfl ?_
              refine z_getC (N := 4) (v := 4) 8 0 rfl f_8_19 rfl J rfl sg_41_0_1_1_0_1 jk_4 ?_
              refine x_icge (tgt := 38) rfl rfl (ti_ge jk_1 jk_4 (br_f (by omega) ?_))
              refine x_aloadn (x := 41) rfl rfl ?_
              refine z_getR (N := 4) (b := 42) 8 2 rfl f_8_25 rfl J rfl 5250 ⟨rfl, rfl⟩ rfl ?_
              refine x_iloadn (x := u1) rfl rfl ?_
              refine x_aloadn (x := 41) rfl rfl ?_
              refine z_getC (N := 4) (v := 4) 8 0 rfl f_8_19 rfl J rfl sg_41_0_1_1_0_1 jk_4 ?_
              refine z_imul rfl rfl jk_4 (by omega) (fun v17 ev17 => ?_)
              refine x_iloadn (x := 1) rfl rfl ?_
              refine z_iadd rfl rfl jk_1 (by omega) (fun v18 ev18 => ?_)
              refine x_iloadn (x := a2) rfl rfl ?_
              refine z_iast (N := 80) (l := 0) (u := 80) (w := a2.toInt) rfl hD J Sm rfl rfl rfl (by omega) rfl (wr_42 (fun q1 q2 q3 q4 => by omega) (fun q1 q2 q3 q4 => by omega) (fun q1 q2 q3 q4 => by omega) (fun q1 q2 q3 q4 => by omega)) rfl (fun h w19 J Sm => ?_)
              refine x_vret rfl rfl ?_
              show jX m_X8_add 2 0 0 42 [(7, .int u1), (0, .ref 41), (1, .int a4), (2, .int a2), (3, .int a3), (4, .int a1), (5, .int 0), (6, .int 0)] [] _ 0 0 _
              refine x_aloadn (x := 41) rfl rfl ?_
              refine x_iload (x := u1) rfl rfl ?_
              refine x_iconst (v := 2) rfl ki_2 ?_
              refine x_iloadn (x := a3) rfl rfl ?_
              refine x_inv (N := m_X8_put) (As := [.int u1, .int 2, .int a3]) (b := 41) (st := []) (dx9 := 1) (mc := 0) (ms := 0) (host := "") 8 rfl t_X8_put ⟨Or.inl q_8_29, i_X8_put.1, i_X8_put.2⟩ ⟨by decide, rfl⟩ (congrArg Prod.fst (J.1.1 41 (8, 4) rfl)) rfl (by decide) rfl rfl ⟨by decide, by decide⟩ (jC.of rfl k_X8_put rfl ?_)
              show jX m_X8_put 1 0 0 0 [(0, .ref 41), (1, .int u1), (2, .int 2), (3, .int a3)] [] _ 0 0 _
              refine x_iloadn (x := u1) rfl rfl ?_
              refine x_iflt (tgt := 38) rfl rfl (ti_lt rfl jk_0 (br_f (by omega) ?_))
              refine x_iloadn (x := u1) rfl rfl ?_
              refine x_aloadn (x := 41) rfl rfl ?_
              refine z_getM (N := 4) (v := v12) 8 3 rfl f_8_7 rfl J rfl (jmo w19 rfl (jmo w16 rfl (jmw w13))) ?_
              refine x_icge (tgt := 38) rfl rfl (ti_ge rfl rfl (br_f (by omega) ?_))
              refine x_iloadn (x := 2) rfl rfl ?_
              refine x_iflt (tgt := 38) rfl rfl (ti_lt jk_2 jk_0 (br_f (by omega) ?_))
              refine x_iloadn (x := 2) rfl rfl ?_
              refine x_aloadn (x := 41) rfl rfl ?_
              refine z_getC (N := 4) (v := 4) 8 0 rfl f_8_19 rfl J rfl sg_41_0_1_1_0_1 jk_4 ?_
              refine x_icge (tgt := 38) rfl rfl (ti_ge jk_2 jk_4 (br_f (by omega) ?_))
              refine x_aloadn (x := 41) rfl rfl ?_
              refine z_getR (N := 4) (b := 42) 8 2 rfl f_8_25 rfl J rfl 5250 ⟨rfl, rfl⟩ rfl ?_
              refine x_iloadn (x := u1) rfl rfl ?_
              refine x_aloadn (x := 41) rfl rfl ?_
              refine z_getC (N := 4) (v := 4) 8 0 rfl f_8_19 rfl J rfl sg_41_0_1_1_0_1 jk_4 ?_
              refine z_imul rfl rfl jk_4 (by omega) (fun v20 ev20 => ?_)
              refine x_iloadn (x := 2) rfl rfl ?_
              refine z_iadd rfl rfl jk_2 (by omega) (fun v21 ev21 => ?_)
              refine x_iloadn (x := a3) rfl rfl ?_
              refine z_iast (N := 80) (l := 0) (u := 80) (w := a3.toInt) rfl hD J Sm rfl rfl rfl (by omega) rfl (wr_42 (fun q1 q2 q3 q4 => by omega) (fun q1 q2 q3 q4 => by omega) (fun q1 q2 q3 q4 => by omega) (fun q1 q2 q3 q4 => by omega)) rfl (fun h w22 J Sm => ?_)
              refine x_vret rfl rfl ?_
              show jX m_X8_add 2 0 0 50 [(7, .int u1), (0, .ref 41), (1, .int a4), (2, .int a2), (3, .int a3), (4, .int a1), (5, .int 0), (6, .int 0)] [] _ 0 0 _
              refine x_aloadn (x := 41) rfl rfl ?_
              refine x_iload (x := u1) rfl rfl ?_
              refine x_iconst (v := 3) rfl ki_3 ?_
              refine x_iload (x := a1) rfl rfl ?_
              refine x_inv (N := m_X8_put) (As := [.int u1, .int 3, .int a1]) (b := 41) (st := []) (dx9 := 1) (mc := 0) (ms := 0) (host := "") 8 rfl t_X8_put ⟨Or.inl q_8_29, i_X8_put.1, i_X8_put.2⟩ ⟨by decide, rfl⟩ (congrArg Prod.fst (J.1.1 41 (8, 4) rfl)) rfl (by decide) rfl rfl ⟨by decide, by decide⟩ (jC.of rfl k_X8_put rfl ?_)
              show jX m_X8_put 1 0 0 0 [(0, .ref 41), (1, .int u1), (2, .int 3), (3, .int a1)] [] _ 0 0 _
              refine x_iloadn (x := u1) rfl rfl ?_
              refine x_iflt (tgt := 38) rfl rfl (ti_lt rfl jk_0 (br_f (by omega) ?_))
              refine x_iloadn (x := u1) rfl rfl ?_
              refine x_aloadn (x := 41) rfl rfl ?_
              refine z_getM (N := 4) (v := v12) 8 3 rfl f_8_7 rfl J rfl (jmo w22 rfl (jmo w19 rfl (jmo w16 rfl (jmw w13)))) ?_
              refine x_icge (tgt := 38) rfl rfl (ti_ge rfl rfl (br_f (by omega) ?_))
              refine x_iloadn (x := 3) rfl rfl ?_
              refine x_iflt (tgt := 38) rfl rfl (ti_lt jk_3 jk_0 (br_f (by omega) ?_))
              refine x_iloadn (x := 3) rfl rfl ?_
              refine x_aloadn (x := 41) rfl rfl ?_
              refine z_getC (N := 4) (v := 4) 8 0 rfl f_8_19 rfl J rfl sg_41_0_1_1_0_1 jk_4 ?_
              refine x_icge (tgt := 38) rfl rfl (ti_ge jk_3 jk_4 (br_f (by omega) ?_))
              refine x_aloadn (x := 41) rfl rfl ?_
              refine z_getR (N := 4) (b := 42) 8 2 rfl f_8_25 rfl J rfl 5250 ⟨rfl, rfl⟩ rfl ?_
              refine x_iloadn (x := u1) rfl rfl ?_
              refine x_aloadn (x := 41) rfl rfl ?_
              refine z_getC (N := 4) (v := 4) 8 0 rfl f_8_19 rfl J rfl sg_41_0_1_1_0_1 jk_4 ?_
              refine z_imul rfl rfl jk_4 (by omega) (fun v23 ev23 => ?_)
              refine x_iloadn (x := 3) rfl rfl ?_
              refine z_iadd rfl rfl jk_3 (by omega) (fun v24 ev24 => ?_)
              refine x_iloadn (x := a1) rfl rfl ?_
              refine z_iast (N := 80) (l := 0) (u := 80) (w := a1.toInt) rfl hD J Sm rfl rfl rfl (by omega) rfl (wr_42 (fun q1 q2 q3 q4 => by omega) (fun q1 q2 q3 q4 => by omega) (fun q1 q2 q3 q4 => by omega) (fun q1 q2 q3 q4 => by omega)) rfl (fun h w25 J Sm => ?_)
              refine x_vret rfl rfl ?_
              show jX m_X8_add 2 0 0 59 [(7, .int u1), (0, .ref 41), (1, .int a4), (2, .int a2), (3, .int a3), (4, .int a1), (5, .int 0), (6, .int 0)] [] _ 0 0 _
              refine x_aloadn (x := 41) rfl rfl ?_
              refine x_iload (x := u1) rfl rfl ?_
              refine x_iconst (v := 4) rfl ki_4 ?_
              refine x_iload (x := 0) rfl rfl ?_
              refine x_inv (N := m_X8_put) (As := [.int u1, .int 4, .int 0]) (b := 41) (st := []) (dx9 := 1) (mc := 0) (ms := 0) (host := "") 8 rfl t_X8_put ⟨Or.inl q_8_29, i_X8_put.1, i_X8_put.2⟩ ⟨by decide, rfl⟩ (congrArg Prod.fst (J.1.1 41 (8, 4) rfl)) rfl (by decide) rfl rfl ⟨by decide, by decide⟩ (jC.of rfl k_X8_put rfl ?_)
              show jX m_X8_put 1 0 0 0 [(0, .ref 41), (1, .int u1), (2, .int 4), (3, .int 0)] [] _ 0 0 _
              refine x_iloadn (x := u1) rfl rfl ?_
              refine x_iflt (tgt := 38) rfl rfl (ti_lt rfl jk_0 (br_f (by omega) ?_))
              refine x_iloadn (x := u1) rfl rfl ?_
              refine x_aloadn (x := 41) rfl rfl ?_
              refine z_getM (N := 4) (v := v12) 8 3 rfl f_8_7 rfl J rfl (jmo w25 rfl (jmo w22 rfl (jmo w19 rfl (jmo w16 rfl (jmw w13))))) ?_
              refine x_icge (tgt := 38) rfl rfl (ti_ge rfl rfl (br_f (by omega) ?_))
              refine x_iloadn (x := 4) rfl rfl ?_
              refine x_iflt (tgt := 38) rfl rfl (ti_lt jk_4 jk_0 (br_f (by omega) ?_))
              refine x_iloadn (x := 4) rfl rfl ?_
              refine x_aloadn (x := 41) rfl rfl ?_
              refine z_getC (N := 4) (v := 4) 8 0 rfl f_8_19 rfl J rfl sg_41_0_1_1_0_1 jk_4 ?_
              refine x_icge (tgt := 38) rfl rfl (ti_ge jk_4 jk_4 (br_t (by omega) ?_))
              refine x_vret rfl rfl ?_
              show jX m_X8_add 2 0 0 68 [(7, .int u1), (0, .ref 41), (1, .int a4), (2, .int a2), (3, .int a3), (4, .int a1), (5, .int 0), (6, .int 0)] [] _ 0 0 _
              refine x_aloadn (x := 41) rfl rfl ?_
              refine x_iload (x := u1) rfl rfl ?_
              refine x_iconst (v := 5) rfl ki_5 ?_
              refine x_iload (x := 0) rfl rfl ?_
              refine x_inv (N := m_X8_put) (As := [.int u1, .int 5, .int 0]) (b := 41) (st := []) (dx9 := 1) (mc := 0) (ms := 0) (host := "") 8 rfl t_X8_put ⟨Or.inl q_8_29, i_X8_put.1, i_X8_put.2⟩ ⟨by decide, rfl⟩ (congrArg Prod.fst (J.1.1 41 (8, 4) rfl)) rfl (by decide) rfl rfl ⟨by decide, by decide⟩ (jC.of rfl k_X8_put rfl ?_)
              show jX m_X8_put 1 0 0 0 [(0, .ref 41), (1, .int u1), (2, .int 5), (3, .int 0)] [] _ 0 0 _
              refine x_iloadn (x := u1) rfl rfl ?_
              refine x_iflt (tgt := 38) rfl rfl (ti_lt rfl jk_0 (br_f (by omega) ?_))
              refine x_iloadn (x := u1) rfl rfl ?_
              refine x_aloadn (x := 41) rfl rfl ?_
              refine z_getM (N := 4) (v := v12) 8 3 rfl f_8_7 rfl J rfl (jmo w25 rfl (jmo w22 rfl (jmo w19 rfl (jmo w16 rfl (jmw w13))))) ?_
              refine x_icge (tgt := 38) rfl rfl (ti_ge rfl rfl (br_f (by omega) ?_))
              refine x_iloadn (x := 5) rfl rfl ?_
              refine x_iflt (tgt := 38) rfl rfl (ti_lt jk_5 jk_0 (br_f (by omega) ?_))
              refine x_iloadn (x := 5) rfl rfl ?_
              refine x_aloadn (x := 41) rfl rfl ?_
              refine z_getC (N := 4) (v := 4) 8 0 rfl f_8_19 rfl J rfl sg_41_0_1_1_0_1 jk_4 ?_
              refine x_icge (tgt := 38) rfl rfl (ti_ge jk_5 jk_4 (br_t (by omega) ?_))
              refine x_vret rfl rfl ?_
              show jX m_X8_add 2 0 0 77 [(7, .int u1), (0, .ref 41), (1, .int a4), (2, .int a2), (3, .int a3), (4, .int a1), (5, .int 0), (6, .int 0)] [] _ 0 0 _
              refine x_vret rfl rfl ?_
              show jX m_X11_torn 3 0 0 77 [(0, .ref 31), (1, .int a1), (2, .int a2), (3, .int a3), (4, .int a4)] [] _ 0 0 _
              refine x_aloadn (x := 31) rfl rfl ?_
              refine x_aloadn (x := 31) rfl rfl ?_
              refine z_getR (N := 13) (b := 32) 11 0 rfl f_11_10 rfl J rfl 3968 ⟨rfl, rfl⟩ rfl ?_
              refine z_getR (N := 20) (b := 41) 1 4 rfl f_11_312 rfl J rfl 4100 ⟨rfl, rfl⟩ rfl ?_
              refine z_getM (N := 4) (v := v12) 8 3 rfl f_11_142 rfl J rfl (jmo w25 rfl (jmo w22 rfl (jmo w19 rfl (jmo w16 rfl (jmw w13))))) ?_
              refine x_inv (N := m_X11_accept) (As := [.int v12]) (b := 31) (st := []) (dx9 := 2) (mc := 0) (ms := 0) (host := "") 11 rfl t_X11_accept ⟨Or.inl q_11_165, i_X11_accept.1, i_X11_accept.2⟩ ⟨by decide, rfl⟩ (congrArg Prod.fst (J.1.1 31 (11, 13) rfl)) rfl (by decide) rfl rfl ⟨by decide, by decide⟩ (jC.of rfl k_X11_accept rfl ?_)
              show jX m_X11_accept 2 0 0 0 [(0, .ref 31), (1, .int v12)] [] _ 0 0 _
              refine x_aloadn (x := 31) rfl rfl ?_
              refine x_iconst (v := 0) rfl ki_0 ?_
              refine z_putI (N := 13) (w := 0) 11 12 rfl f_11_94 rfl (jfin_no TX11 RX11 13 rfl rfl) hD J Sm rfl rfl jk_0 (pw_31_12 (by omega)) rfl (fun h w26 J Sm => ?_)
              refine x_aloadn (x := 31) rfl rfl ?_
              refine z_getR (N := 13) (b := 32) 11 0 rfl f_11_10 rfl J rfl 3968 ⟨rfl, rfl⟩ rfl ?_
              refine x_dup rfl rfl ?_
              refine z_getI0 (N := 20) 1 19 rfl f_11_528 rfl J rfl (fun v27 qv27 => ?_)
              have ev27 := jfull v27
              refine x_iconst (v := 1) rfl ki_1 ?_
              refine z_iadd0 rfl (fun v28 => ?_)
              have ev28 := jfull v28
              refine z_putI (N := 20) (w := v28.toInt) 1 19 rfl f_11_528 rfl (jfin_no TX1 RX1 20 rfl rfl) hD J Sm rfl rfl rfl (pw_32_19 trivial) rfl (fun h w29 J Sm => ?_)
              refine x_iloadn (x := v12) rfl rfl ?_
              refine x_iret rfl rfl ?_
              show jX m_X11_torn 3 0 0 91 [(0, .ref 31), (1, .int a1), (2, .int a2), (3, .int a3), (4, .int a4)] [.int v12] _ 0 0 _
              refine x_iret rfl rfl ?_
              exact hQ _ _ (jr_of rfl (by omega)) J Sm (Or.inr (Or.inr ⟨(by omega), (by omega), (by omega), (tw_4 (jmo w29 rfl (jmo w26 rfl (jmo w25 rfl (jmo w22 rfl (jmo w19 rfl (jmo w16 rfl (jmw w13))))))) qu1 (by omega) (by omega) (ov_o w29 rfl (ov_o w26 rfl (ov_w w25 (ov_w w22 (ov_w w19 (ov_w w16 (ov_o w13 rfl rfl))))))) (jix (by omega) (by omega)) (jix (by omega) (by omega)) (jix (by omega) (by omega)) (jix (by omega) (by omega)))⟩))
            ·
              refine x_iconst (v := 1) rfl ki_1 ?_
              refine x_goto (tgt := 16) rfl rfl ?_
              refine x_zret rfl rfl (by decide) ?_
              show jX m_X11_torn 3 0 0 50 [(0, .ref 31), (1, .int a1), (2, .int a2), (3, .int a3), (4, .int a4)] [.int 1] _ 0 0 _
              refine x_ifeq (tgt := 60) rfl rfl (ti_eq jk_1 jk_0 (br_f (by omega) ?_))
              refine x_aloadn (x := 31) rfl rfl ?_
              refine x_bipush (v := (-5)) rfl kb_m5 ?_
              refine x_inv (N := m_X11_refuse) (As := [.int (-5)]) (b := 31) (st := []) (dx9 := 2) (mc := 0) (ms := 0) (host := "") 11 rfl t_X11_refuse ⟨Or.inl q_11_206, i_X11_refuse.1, i_X11_refuse.2⟩ ⟨by decide, rfl⟩ (congrArg Prod.fst (J.1.1 31 (11, 13) rfl)) rfl (by decide) rfl rfl ⟨by decide, by decide⟩ (jC.of rfl k_X11_refuse rfl ?_)
              show jX m_X11_refuse 2 0 0 0 [(0, .ref 31), (1, .int (-5))] [] _ 0 0 _
              refine x_aloadn (x := 31) rfl rfl ?_
              refine x_iloadn (x := (-5)) rfl rfl ?_
              refine z_putI (N := 13) (w := (-5)) 11 12 rfl f_11_94 rfl (jfin_no TX11 RX11 13 rfl rfl) hD J Sm rfl rfl jk_m5 (pw_31_12 (by omega)) rfl (fun h w30 J Sm => ?_)
              refine x_iloadn (x := (-5)) rfl rfl ?_
              refine x_iret rfl rfl ?_
              show jX m_X11_torn 3 0 0 59 [(0, .ref 31), (1, .int a1), (2, .int a2), (3, .int a3), (4, .int a4)] [.int (-5)] _ 0 0 _
              refine x_iret rfl rfl ?_
              exact hQ _ _ (jr_of jk_m5 (by omega)) J Sm (Or.inr (Or.inl ⟨(by omega), (by omega), jk_m5, ⟨congrFun (ov_o w30 rfl rfl) 3, (ov_o w30 rfl rfl)⟩⟩))
          ·
            exact jX.sub (jsb_c rfl jsb_n) (ct_X11_torn_r31p_34 yy_a1 yy_a2 yy_a3 yy_a4 hD hQ  h ⟨rfl, by omega⟩ J Sm)
