def fp_X12_apart_r125 : jFp := [(125, 0, 1), (125, 1, 2), (126, 1, 2), (126, 18020, 18140)]
set_option maxRecDepth 100000 in
set_option maxHeartbeats 4000000 in
theorem ct_X12_apart_r125_21 {Dy : jH → Prop} {h0 : jH} {Q : Option Value → jH → Prop} (hD : jDk Dy) (hQ : ∀ (v : Int32) hx9, jJ jSgM Dy hx9 → jSm fp_X12_apart_r125 h0 hx9 → Q (some (.int v)) hx9) : ∀ (h : jH), jJ jSgM Dy h → jSm fp_X12_apart_r125 h0 h → jX m_X12_apart 4 0 0 21 [(0, .ref 125)] [] h 0 0 Q := by
  intro  h    J Sm
  refine x_aloadn (x := 125) rfl rfl ?_
  refine x_bipush (v := (-2)) rfl kb_m2 ?_
  refine x_inv (N := m_X12_told) (As := [.int (-2)]) (b := 125) (st := []) (dx9 := 1) (mc := 0) (ms := 0) (host := "") 12 rfl t_X12_told ⟨Or.inl q_12_197, i_X12_told.1, i_X12_told.2⟩ ⟨by decide, rfl⟩ (congrArg Prod.fst (J.1.1 125 (12, 92) rfl)) rfl (by decide) rfl rfl ⟨by decide, by decide⟩ (sf_X12_told_r125  hD J  (fun v2 h J S1 => ?_))
  have ev2 := jfull v2
  have Sm := jSm_tr rfl Sm S1
  show jX m_X12_apart 4 0 0 27 [(0, .ref 125)] [.int v2] _ 0 0 _
  refine x_iret rfl rfl ?_
  exact hQ _ _ J Sm
set_option maxRecDepth 100000 in
set_option maxHeartbeats 4000000 in
theorem sf_X12_apart_r125 {Dy : jH → Prop} {h : jH} {Q : Option Value → jH → Prop} {a1 : Int32} {a2 : Int32} (hD : jDk Dy) (J : jJ jSgM Dy h) (hQ : ∀ (v : Int32) hx9, jJ jSgM Dy hx9 → jSm fp_X12_apart_r125 h hx9 → Q (some (.int v)) hx9) : jC m_X12_apart 4 0 0 [.ref 125, .int a1, .int a2] h Q := by
  refine jC.of rfl k_X12_apart rfl ?_
  have Sm := jSm_rf fp_X12_apart_r125 h
  have ea1 := jfull a1
  have ea2 := jfull a2
  show jX m_X12_apart 4 0 0 0 [(0, .ref 125), (1, .int a1), (2, .int a2)] [] _ 0 0 _
  refine x_aloadn (x := 125) rfl rfl ?_
  refine x_iconst (v := 0) rfl ki_0 ?_
  refine z_putI (N := 92) (w := 0) 12 0 rfl f_12_180 rfl (jfin_no TX12 RX12 92 rfl rfl) hD J Sm rfl rfl jk_0 (pw_125_0 (by omega)) rfl (fun h w1 J Sm => ?_)
  refine x_aloadn (x := 125) rfl rfl ?_
  refine x_iloadn (x := a1) rfl rfl ?_
  refine x_inv (N := m_X12_isMention) (As := [.int a1]) (b := 125) (st := []) (dx9 := 3) (mc := 0) (ms := 0) (host := "") 12 rfl t_X12_isMention ⟨Or.inl q_12_322, i_X12_isMention.1, i_X12_isMention.2⟩ ⟨by decide, rfl⟩ (congrArg Prod.fst (J.1.1 125 (12, 92) rfl)) rfl (by decide) rfl rfl ⟨by decide, by decide⟩ (jC.of rfl k_X12_isMention rfl ?_)
  show jX m_X12_isMention 3 0 0 0 [(0, .ref 125), (1, .int a1)] [] _ 0 0 _
  refine x_iloadn (x := a1) rfl rfl ?_
  refine x_iflt (tgt := 34) rfl rfl (ti_lt rfl jk_0 ⟨fun c2 => ?_, fun c2 => ?_⟩)
  ·
    refine x_iconst (v := 0) rfl ki_0 ?_
    refine x_zret rfl rfl (by decide) ?_
    show jX m_X12_apart 4 0 0 10 [(0, .ref 125), (1, .int a1), (2, .int a2)] [.int 0] _ 0 0 _
    refine x_ifeq (tgt := 21) rfl rfl (ti_eq jk_0 jk_0 (br_t (by omega) ?_))
    exact jX.sub (jsb_c rfl jsb_n) (ct_X12_apart_r125_21 hD hQ  h J Sm)
  ·
    refine x_aloadn (x := 125) rfl rfl ?_
    refine x_iloadn (x := a1) rfl rfl ?_
    refine x_iconst (v := 3) rfl ki_3 ?_
    refine z_idiv rfl rfl jk_3 (by omega) (by omega) (fun v3 ev3 => ?_)
    refine x_inv (N := m_X12_isLine) (As := [.int v3]) (b := 125) (st := []) (dx9 := 2) (mc := 0) (ms := 0) (host := "") 12 rfl t_X12_isLine ⟨Or.inl q_12_293, i_X12_isLine.1, i_X12_isLine.2⟩ ⟨by decide, rfl⟩ (congrArg Prod.fst (J.1.1 125 (12, 92) rfl)) rfl (by decide) rfl rfl ⟨by decide, by decide⟩ (jC.of rfl k_X12_isLine rfl ?_)
    show jX m_X12_isLine 2 0 0 0 [(0, .ref 125), (1, .int v3)] [] _ 0 0 _
    refine x_iloadn (x := v3) rfl rfl ?_
    refine z_i2l rfl rfl (fun v4 ev4 => ?_)
    refine x_lconst (v := 0) rfl kl_0 ?_
    refine x_aloadn (x := 125) rfl rfl ?_
    refine z_getR (N := 92) (b := 126) 12 2 rfl f_12_8 rfl J rfl 16002 ⟨rfl, rfl⟩ rfl ?_
    refine x_iconst (v := 0) rfl ki_0 ?_
    refine z_iald (N := 50660) rfl J rfl sg_126_0_1_1_0_1 jk_0 (by omega) (fun v5 qv5 ev5 => ?_)
    refine z_i2l rfl rfl (fun v6 ev6 => ?_)
    refine x_lconst (v := 1) rfl kl_1 ?_
    refine z_lsub rfl rfl jkl_1 (by omega) (fun v7 ev7 => ?_)
    refine x_inst (N := m_X12_in) (As := [.long v4, .long 0, .long v7]) (st := []) (dx9 := 1) (mc := 0) (ms := 0) (host := "") rfl t_X12_in ⟨Or.inl q_12_188, s_X12_in⟩ rfl (by decide) rfl rfl ⟨by decide, by decide⟩ (zc_X12_in rfl jkl_0 rfl (fun v8 ev8 => ?_))
    show jX m_X12_isLine 2 0 0 15 [(0, .ref 125), (1, .int v3)] [.int v8] _ 0 0 _
    refine x_zret rfl rfl (jz01 (by omega)) ?_
    show jX m_X12_isMention 3 0 0 11 [(0, .ref 125), (1, .int a1)] [.int v8] _ 0 0 _
    refine x_ifeq (tgt := 34) rfl rfl (ti_eq rfl jk_0 ⟨fun c9 => ?_, fun c9 => ?_⟩)
    ·
      refine x_iconst (v := 0) rfl ki_0 ?_
      refine x_zret rfl rfl (by decide) ?_
      show jX m_X12_apart 4 0 0 10 [(0, .ref 125), (1, .int a1), (2, .int a2)] [.int 0] _ 0 0 _
      refine x_ifeq (tgt := 21) rfl rfl (ti_eq jk_0 jk_0 (br_t (by omega) ?_))
      exact jX.sub (jsb_c rfl jsb_n) (ct_X12_apart_r125_21 hD hQ  h J Sm)
    ·
      refine x_iloadn (x := a1) rfl rfl ?_
      refine x_iconst (v := 3) rfl ki_3 ?_
      refine z_irem rfl rfl jk_3 (by omega) (by omega) (fun v10 ev10 => ?_)
      refine x_aloadn (x := 125) rfl rfl ?_
      refine x_iloadn (x := a1) rfl rfl ?_
      refine x_iconst (v := 3) rfl ki_3 ?_
      refine z_idiv rfl rfl jk_3 (by omega) (by omega) (fun v11 ev11 => ?_)
      refine x_inv (N := m_X12_bookOf) (As := [.int v11]) (b := 125) (st := [.int v10]) (dx9 := 2) (mc := 0) (ms := 0) (host := "") 12 rfl t_X12_bookOf ⟨Or.inl q_12_299, i_X12_bookOf.1, i_X12_bookOf.2⟩ ⟨by decide, rfl⟩ (congrArg Prod.fst (J.1.1 125 (12, 92) rfl)) rfl (by decide) rfl rfl ⟨by decide, by decide⟩ (jC.of rfl k_X12_bookOf rfl ?_)
      show jX m_X12_bookOf 2 0 0 0 [(0, .ref 125), (1, .int v11)] [] _ 0 0 _
      refine x_aloadn (x := 125) rfl rfl ?_
      refine z_getR (N := 92) (b := 126) 12 2 rfl f_12_8 rfl J rfl 16002 ⟨rfl, rfl⟩ rfl ?_
      refine x_aloadn (x := 125) rfl rfl ?_
      refine x_iloadn (x := v11) rfl rfl ?_
      refine x_inv (N := m_X12_at) (As := [.int v11]) (b := 125) (st := [.ref 126]) (dx9 := 1) (mc := 0) (ms := 0) (host := "") 12 rfl t_X12_at ⟨Or.inl q_12_254, i_X12_at.1, i_X12_at.2⟩ ⟨by decide, rfl⟩ (congrArg Prod.fst (J.1.1 125 (12, 92) rfl)) rfl (by decide) rfl rfl ⟨by decide, by decide⟩ (jC.of rfl k_X12_at rfl ?_)
      show jX m_X12_at 1 0 0 0 [(0, .ref 125), (1, .int v11)] [] _ 0 0 _
      refine x_bipush (v := 20) rfl kb_20 ?_
      refine x_bipush (v := 90) rfl kb_90 ?_
      refine x_iloadn (x := v11) rfl rfl ?_
      refine z_imul rfl jk_90 rfl (by omega) (fun v12 ev12 => ?_)
      refine z_iadd rfl jk_20 rfl (by omega) (fun v13 ev13 => ?_)
      refine x_iret rfl rfl ?_
      show jX m_X12_bookOf 2 0 0 9 [(0, .ref 125), (1, .int v11)] [.int v13, .ref 126] _ 0 0 _
      refine z_iald (N := 50660) rfl J rfl sg_126_20_18020_90_0_1 rfl (by omega) (fun v14 qv14 ev14 => ?_)
      refine x_iret rfl rfl ?_
      show jX m_X12_isMention 3 0 0 24 [(0, .ref 125), (1, .int a1)] [.int v14, .int v10] _ 0 0 _
      refine x_inst (N := m_X12_rolesOf) (As := [.int v14]) (st := [.int v10]) (dx9 := 2) (mc := 0) (ms := 0) (host := "") rfl t_X12_rolesOf ⟨Or.inl q_12_286, s_X12_rolesOf⟩ rfl (by decide) rfl rfl ⟨by decide, by decide⟩ (jC.of rfl k_X12_rolesOf rfl ?_)
      show jX m_X12_rolesOf 2 0 0 0 [(0, .int v14)] [] _ 0 0 _
      refine x_iloadn (x := v14) rfl rfl ?_
      refine x_ifne (tgt := 8) rfl rfl (ti_ne rfl jk_0 ⟨fun c15 => ?_, fun c15 => ?_⟩)
      ·
        refine x_iloadn (x := v14) rfl rfl ?_
        refine x_iconst (v := 1) rfl ki_1 ?_
        refine x_icne (tgt := 17) rfl rfl (ti_ne rfl jk_1 ⟨fun c16 => ?_, fun c16 => ?_⟩)
        ·
          refine x_iconst (v := 1) rfl ki_1 ?_
          refine x_iret rfl rfl ?_
          show jX m_X12_isMention 3 0 0 27 [(0, .ref 125), (1, .int a1)] [.int 1, .int v10] _ 0 0 _
          refine x_icge (tgt := 34) rfl rfl (ti_ge rfl jk_1 ⟨fun c17 => ?_, fun c17 => ?_⟩)
          ·
            refine x_iconst (v := 0) rfl ki_0 ?_
            refine x_zret rfl rfl (by decide) ?_
            show jX m_X12_apart 4 0 0 10 [(0, .ref 125), (1, .int a1), (2, .int a2)] [.int 0] _ 0 0 _
            refine x_ifeq (tgt := 21) rfl rfl (ti_eq jk_0 jk_0 (br_t (by omega) ?_))
            exact jX.sub (jsb_c rfl jsb_n) (ct_X12_apart_r125_21 hD hQ  h J Sm)
          ·
            refine x_iconst (v := 1) rfl ki_1 ?_
            refine x_goto (tgt := 35) rfl rfl ?_
            refine x_zret rfl rfl (by decide) ?_
            show jX m_X12_apart 4 0 0 10 [(0, .ref 125), (1, .int a1), (2, .int a2)] [.int 1] _ 0 0 _
            refine x_ifeq (tgt := 21) rfl rfl (ti_eq jk_1 jk_0 (br_f (by omega) ?_))
            refine x_aloadn (x := 125) rfl rfl ?_
            refine x_iloadn (x := a2) rfl rfl ?_
            refine x_inv (N := m_X12_isMention) (As := [.int a2]) (b := 125) (st := []) (dx9 := 3) (mc := 0) (ms := 0) (host := "") 12 rfl t_X12_isMention ⟨Or.inl q_12_322, i_X12_isMention.1, i_X12_isMention.2⟩ ⟨by decide, rfl⟩ (congrArg Prod.fst (J.1.1 125 (12, 92) rfl)) rfl (by decide) rfl rfl ⟨by decide, by decide⟩ (jC.of rfl k_X12_isMention rfl ?_)
            show jX m_X12_isMention 3 0 0 0 [(0, .ref 125), (1, .int a2)] [] _ 0 0 _
            refine x_iloadn (x := a2) rfl rfl ?_
            refine x_iflt (tgt := 34) rfl rfl (ti_lt rfl jk_0 ⟨fun c18 => ?_, fun c18 => ?_⟩)
            ·
              refine x_iconst (v := 0) rfl ki_0 ?_
              refine x_zret rfl rfl (by decide) ?_
              show jX m_X12_apart 4 0 0 18 [(0, .ref 125), (1, .int a1), (2, .int a2)] [.int 0] _ 0 0 _
              refine x_ifne (tgt := 28) rfl rfl (ti_ne jk_0 jk_0 (bn_f (by omega) ?_))
              exact jX.sub (jsb_c rfl jsb_n) (ct_X12_apart_r125_21 hD hQ  h J Sm)
            ·
              refine x_aloadn (x := 125) rfl rfl ?_
              refine x_iloadn (x := a2) rfl rfl ?_
              refine x_iconst (v := 3) rfl ki_3 ?_
              refine z_idiv rfl rfl jk_3 (by omega) (by omega) (fun v19 ev19 => ?_)
              refine x_inv (N := m_X12_isLine) (As := [.int v19]) (b := 125) (st := []) (dx9 := 2) (mc := 0) (ms := 0) (host := "") 12 rfl t_X12_isLine ⟨Or.inl q_12_293, i_X12_isLine.1, i_X12_isLine.2⟩ ⟨by decide, rfl⟩ (congrArg Prod.fst (J.1.1 125 (12, 92) rfl)) rfl (by decide) rfl rfl ⟨by decide, by decide⟩ (jC.of rfl k_X12_isLine rfl ?_)
              show jX m_X12_isLine 2 0 0 0 [(0, .ref 125), (1, .int v19)] [] _ 0 0 _
              refine x_iloadn (x := v19) rfl rfl ?_
              refine z_i2l rfl rfl (fun v20 ev20 => ?_)
              refine x_lconst (v := 0) rfl kl_0 ?_
              refine x_aloadn (x := 125) rfl rfl ?_
              refine z_getR (N := 92) (b := 126) 12 2 rfl f_12_8 rfl J rfl 16002 ⟨rfl, rfl⟩ rfl ?_
              refine x_iconst (v := 0) rfl ki_0 ?_
              refine z_ialdM (N := 50660) (v := v5) rfl J rfl jk_0 (by omega) qv5 ?_
              refine z_i2l rfl rfl (fun v21 ev21 => ?_)
              refine x_lconst (v := 1) rfl kl_1 ?_
              refine z_lsub rfl rfl jkl_1 (by omega) (fun v22 ev22 => ?_)
              refine x_inst (N := m_X12_in) (As := [.long v20, .long 0, .long v22]) (st := []) (dx9 := 1) (mc := 0) (ms := 0) (host := "") rfl t_X12_in ⟨Or.inl q_12_188, s_X12_in⟩ rfl (by decide) rfl rfl ⟨by decide, by decide⟩ (zc_X12_in rfl jkl_0 rfl (fun v23 ev23 => ?_))
              show jX m_X12_isLine 2 0 0 15 [(0, .ref 125), (1, .int v19)] [.int v23] _ 0 0 _
              refine x_zret rfl rfl (jz01 (by omega)) ?_
              show jX m_X12_isMention 3 0 0 11 [(0, .ref 125), (1, .int a2)] [.int v23] _ 0 0 _
              refine x_ifeq (tgt := 34) rfl rfl (ti_eq rfl jk_0 ⟨fun c24 => ?_, fun c24 => ?_⟩)
              ·
                refine x_iconst (v := 0) rfl ki_0 ?_
                refine x_zret rfl rfl (by decide) ?_
                show jX m_X12_apart 4 0 0 18 [(0, .ref 125), (1, .int a1), (2, .int a2)] [.int 0] _ 0 0 _
                refine x_ifne (tgt := 28) rfl rfl (ti_ne jk_0 jk_0 (bn_f (by omega) ?_))
                exact jX.sub (jsb_c rfl jsb_n) (ct_X12_apart_r125_21 hD hQ  h J Sm)
              ·
                refine x_iloadn (x := a2) rfl rfl ?_
                refine x_iconst (v := 3) rfl ki_3 ?_
                refine z_irem rfl rfl jk_3 (by omega) (by omega) (fun v25 ev25 => ?_)
                refine x_aloadn (x := 125) rfl rfl ?_
                refine x_iloadn (x := a2) rfl rfl ?_
                refine x_iconst (v := 3) rfl ki_3 ?_
                refine z_idiv rfl rfl jk_3 (by omega) (by omega) (fun v26 ev26 => ?_)
                refine x_inv (N := m_X12_bookOf) (As := [.int v26]) (b := 125) (st := [.int v25]) (dx9 := 2) (mc := 0) (ms := 0) (host := "") 12 rfl t_X12_bookOf ⟨Or.inl q_12_299, i_X12_bookOf.1, i_X12_bookOf.2⟩ ⟨by decide, rfl⟩ (congrArg Prod.fst (J.1.1 125 (12, 92) rfl)) rfl (by decide) rfl rfl ⟨by decide, by decide⟩ (jC.of rfl k_X12_bookOf rfl ?_)
                show jX m_X12_bookOf 2 0 0 0 [(0, .ref 125), (1, .int v26)] [] _ 0 0 _
                refine x_aloadn (x := 125) rfl rfl ?_
                refine z_getR (N := 92) (b := 126) 12 2 rfl f_12_8 rfl J rfl 16002 ⟨rfl, rfl⟩ rfl ?_
                refine x_aloadn (x := 125) rfl rfl ?_
                refine x_iloadn (x := v26) rfl rfl ?_
                refine x_inv (N := m_X12_at) (As := [.int v26]) (b := 125) (st := [.ref 126]) (dx9 := 1) (mc := 0) (ms := 0) (host := "") 12 rfl t_X12_at ⟨Or.inl q_12_254, i_X12_at.1, i_X12_at.2⟩ ⟨by decide, rfl⟩ (congrArg Prod.fst (J.1.1 125 (12, 92) rfl)) rfl (by decide) rfl rfl ⟨by decide, by decide⟩ (jC.of rfl k_X12_at rfl ?_)
                show jX m_X12_at 1 0 0 0 [(0, .ref 125), (1, .int v26)] [] _ 0 0 _
                refine x_bipush (v := 20) rfl kb_20 ?_
                refine x_bipush (v := 90) rfl kb_90 ?_
                refine x_iloadn (x := v26) rfl rfl ?_
                refine z_imul rfl jk_90 rfl (by omega) (fun v27 ev27 => ?_)
                refine z_iadd rfl jk_20 rfl (by omega) (fun v28 ev28 => ?_)
                refine x_iret rfl rfl ?_
                show jX m_X12_bookOf 2 0 0 9 [(0, .ref 125), (1, .int v26)] [.int v28, .ref 126] _ 0 0 _
                refine z_iald (N := 50660) rfl J rfl sg_126_20_18020_90_0_1 rfl (by omega) (fun v29 qv29 ev29 => ?_)
                refine x_iret rfl rfl ?_
                show jX m_X12_isMention 3 0 0 24 [(0, .ref 125), (1, .int a2)] [.int v29, .int v25] _ 0 0 _
                refine x_inst (N := m_X12_rolesOf) (As := [.int v29]) (st := [.int v25]) (dx9 := 2) (mc := 0) (ms := 0) (host := "") rfl t_X12_rolesOf ⟨Or.inl q_12_286, s_X12_rolesOf⟩ rfl (by decide) rfl rfl ⟨by decide, by decide⟩ (jC.of rfl k_X12_rolesOf rfl ?_)
                show jX m_X12_rolesOf 2 0 0 0 [(0, .int v29)] [] _ 0 0 _
                refine x_iloadn (x := v29) rfl rfl ?_
                refine x_ifne (tgt := 8) rfl rfl (ti_ne rfl jk_0 ⟨fun c30 => ?_, fun c30 => ?_⟩)
                ·
                  refine x_iloadn (x := v29) rfl rfl ?_
                  refine x_iconst (v := 1) rfl ki_1 ?_
                  refine x_icne (tgt := 17) rfl rfl (ti_ne rfl jk_1 ⟨fun c31 => ?_, fun c31 => ?_⟩)
                  ·
                    refine x_iconst (v := 1) rfl ki_1 ?_
                    refine x_iret rfl rfl ?_
                    show jX m_X12_isMention 3 0 0 27 [(0, .ref 125), (1, .int a2)] [.int 1, .int v25] _ 0 0 _
                    refine x_icge (tgt := 34) rfl rfl (ti_ge rfl jk_1 ⟨fun c32 => ?_, fun c32 => ?_⟩)
                    ·
                      refine x_iconst (v := 0) rfl ki_0 ?_
                      refine x_zret rfl rfl (by decide) ?_
                      show jX m_X12_apart 4 0 0 18 [(0, .ref 125), (1, .int a1), (2, .int a2)] [.int 0] _ 0 0 _
                      refine x_ifne (tgt := 28) rfl rfl (ti_ne jk_0 jk_0 (bn_f (by omega) ?_))
                      exact jX.sub (jsb_c rfl jsb_n) (ct_X12_apart_r125_21 hD hQ  h J Sm)
                    ·
                      refine x_iconst (v := 1) rfl ki_1 ?_
                      refine x_goto (tgt := 35) rfl rfl ?_
                      refine x_zret rfl rfl (by decide) ?_
                      show jX m_X12_apart 4 0 0 18 [(0, .ref 125), (1, .int a1), (2, .int a2)] [.int 1] _ 0 0 _
                      refine x_ifne (tgt := 28) rfl rfl (ti_ne jk_1 jk_0 (bn_t (by omega) ?_))
                      refine x_iloadn (x := a1) rfl rfl ?_
                      refine x_iloadn (x := a2) rfl rfl ?_
                      refine x_icne (tgt := 40) rfl rfl (ti_ne rfl rfl ⟨fun c33 => ?_, fun c33 => ?_⟩)
                      ·
                        refine x_aloadn (x := 125) rfl rfl ?_
                        refine z_getR (N := 92) (b := 126) 12 2 rfl f_12_8 rfl J rfl 16002 ⟨rfl, rfl⟩ rfl ?_
                        refine x_iconst (v := 1) rfl ki_1 ?_
                        refine z_iald (N := 50660) rfl J rfl sg_126_1_2_1_0_1 jk_1 (by omega) (fun v34 qv34 ev34 => ?_)
                        refine x_bipush (v := 60) rfl kb_60 ?_
                        refine x_icne (tgt := 58) rfl rfl (ti_ne rfl jk_60 ⟨fun c35 => ?_, fun c35 => ?_⟩)
                        ·
                          refine x_aloadn (x := 125) rfl rfl ?_
                          refine z_getR (N := 92) (b := 126) 12 2 rfl f_12_8 rfl J rfl 16002 ⟨rfl, rfl⟩ rfl ?_
                          refine x_sipush (v := 18020) rfl ks_18020 ?_
                          refine x_iconst (v := 2) rfl ki_2 ?_
                          refine x_aloadn (x := 125) rfl rfl ?_
                          refine z_getR (N := 92) (b := 126) 12 2 rfl f_12_8 rfl J rfl 16002 ⟨rfl, rfl⟩ rfl ?_
                          refine x_iconst (v := 1) rfl ki_1 ?_
                          refine z_ialdM (N := 50660) (v := v34) rfl J rfl jk_1 (by omega) qv34 ?_
                          refine z_imul rfl jk_2 rfl (by omega) (fun v36 ev36 => ?_)
                          refine z_iadd rfl jk_18020 rfl (by omega) (fun v37 ev37 => ?_)
                          refine x_iloadn (x := a1) rfl rfl ?_
                          refine z_iast (N := 50660) (l := 18020) (u := 18140) (w := a1.toInt) rfl hD J Sm rfl rfl rfl (by omega) rfl (wr_126_18020 (by omega) (fun q1 q2 q3 q4 => by omega) (fun q1 q2 q3 q4 => by omega)) rfl (fun h w38 J Sm => ?_)
                          refine x_aloadn (x := 125) rfl rfl ?_
                          refine z_getR (N := 92) (b := 126) 12 2 rfl f_12_8 rfl J rfl 16002 ⟨rfl, rfl⟩ rfl ?_
                          refine x_sipush (v := 18020) rfl ks_18020 ?_
                          refine x_iconst (v := 2) rfl ki_2 ?_
                          refine x_aloadn (x := 125) rfl rfl ?_
                          refine z_getR (N := 92) (b := 126) 12 2 rfl f_12_8 rfl J rfl 16002 ⟨rfl, rfl⟩ rfl ?_
                          refine x_iconst (v := 1) rfl ki_1 ?_
                          refine z_ialdM (N := 50660) (v := v34) rfl J rfl jk_1 (by omega) (jmo2 w38 rfl jk_1 (by omega) qv34) ?_
                          refine z_imul rfl jk_2 rfl (by omega) (fun v39 ev39 => ?_)
                          refine z_iadd rfl jk_18020 rfl (by omega) (fun v40 ev40 => ?_)
                          refine x_iconst (v := 1) rfl ki_1 ?_
                          refine z_iadd rfl rfl jk_1 (by omega) (fun v41 ev41 => ?_)
                          refine x_iloadn (x := a2) rfl rfl ?_
                          refine z_iast (N := 50660) (l := 18020) (u := 18140) (w := a2.toInt) rfl hD J Sm rfl rfl rfl (by omega) rfl (wr_126_18020 (by omega) (fun q1 q2 q3 q4 => by omega) (fun q1 q2 q3 q4 => by omega)) rfl (fun h w42 J Sm => ?_)
                          refine x_aloadn (x := 125) rfl rfl ?_
                          refine z_getR (N := 92) (b := 126) 12 2 rfl f_12_8 rfl J rfl 16002 ⟨rfl, rfl⟩ rfl ?_
                          refine x_iconst (v := 1) rfl ki_1 ?_
                          refine x_dup2 rfl rfl rfl ?_
                          refine z_ialdM (N := 50660) (v := v34) rfl J rfl jk_1 (by omega) (jmo2 w42 rfl jk_1 (by omega) (jmo2 w38 rfl jk_1 (by omega) qv34)) ?_
                          refine x_iconst (v := 1) rfl ki_1 ?_
                          refine z_iadd rfl rfl jk_1 (by omega) (fun v43 ev43 => ?_)
                          refine z_iast (N := 50660) (l := 1) (u := 2) (w := v43.toInt) rfl hD J Sm rfl rfl jk_1 (by omega) rfl (wr_126_1 (by omega) (fun q1 q2 q3 q4 => by omega)) rfl (fun h w44 J Sm => ?_)
                          refine x_aloadn (x := 125) rfl rfl ?_
                          refine x_iconst (v := 0) rfl ki_0 ?_
                          refine x_inv (N := m_X12_told) (As := [.int 0]) (b := 125) (st := []) (dx9 := 1) (mc := 0) (ms := 0) (host := "") 12 rfl t_X12_told ⟨Or.inl q_12_197, i_X12_told.1, i_X12_told.2⟩ ⟨by decide, rfl⟩ (congrArg Prod.fst (J.1.1 125 (12, 92) rfl)) rfl (by decide) rfl rfl ⟨by decide, by decide⟩ (sf_X12_told_r125  hD J  (fun v46 h J S45 => ?_))
                          have ev46 := jfull v46
                          have Sm := jSm_tr rfl Sm S45
                          show jX m_X12_apart 4 0 0 111 [(0, .ref 125), (1, .int a1), (2, .int a2)] [.int v46] _ 0 0 _
                          refine x_iret rfl rfl ?_
                          exact hQ _ _ J Sm
                        ·
                          refine x_aloadn (x := 125) rfl rfl ?_
                          refine x_bipush (v := (-5)) rfl kb_m5 ?_
                          refine x_inv (N := m_X12_told) (As := [.int (-5)]) (b := 125) (st := []) (dx9 := 1) (mc := 0) (ms := 0) (host := "") 12 rfl t_X12_told ⟨Or.inl q_12_197, i_X12_told.1, i_X12_told.2⟩ ⟨by decide, rfl⟩ (congrArg Prod.fst (J.1.1 125 (12, 92) rfl)) rfl (by decide) rfl rfl ⟨by decide, by decide⟩ (sf_X12_told_r125  hD J  (fun v48 h J S47 => ?_))
                          have ev48 := jfull v48
                          have Sm := jSm_tr rfl Sm S47
                          show jX m_X12_apart 4 0 0 57 [(0, .ref 125), (1, .int a1), (2, .int a2)] [.int v48] _ 0 0 _
                          refine x_iret rfl rfl ?_
                          exact hQ _ _ J Sm
                      ·
                        refine x_aloadn (x := 125) rfl rfl ?_
                        refine x_bipush (v := (-3)) rfl kb_m3 ?_
                        refine x_inv (N := m_X12_told) (As := [.int (-3)]) (b := 125) (st := []) (dx9 := 1) (mc := 0) (ms := 0) (host := "") 12 rfl t_X12_told ⟨Or.inl q_12_197, i_X12_told.1, i_X12_told.2⟩ ⟨by decide, rfl⟩ (congrArg Prod.fst (J.1.1 125 (12, 92) rfl)) rfl (by decide) rfl rfl ⟨by decide, by decide⟩ (sf_X12_told_r125  hD J  (fun v50 h J S49 => ?_))
                        have ev50 := jfull v50
                        have Sm := jSm_tr rfl Sm S49
                        show jX m_X12_apart 4 0 0 39 [(0, .ref 125), (1, .int a1), (2, .int a2)] [.int v50] _ 0 0 _
                        refine x_iret rfl rfl ?_
                        exact hQ _ _ J Sm
                  ·
                    refine x_iconst (v := 2) rfl ki_2 ?_
                    refine x_goto (tgt := 18) rfl rfl ?_
                    refine x_iret rfl rfl ?_
                    show jX m_X12_isMention 3 0 0 27 [(0, .ref 125), (1, .int a2)] [.int 2, .int v25] _ 0 0 _
                    refine x_icge (tgt := 34) rfl rfl (ti_ge rfl jk_2 ⟨fun c51 => ?_, fun c51 => ?_⟩)
                    ·
                      refine x_iconst (v := 0) rfl ki_0 ?_
                      refine x_zret rfl rfl (by decide) ?_
                      show jX m_X12_apart 4 0 0 18 [(0, .ref 125), (1, .int a1), (2, .int a2)] [.int 0] _ 0 0 _
                      refine x_ifne (tgt := 28) rfl rfl (ti_ne jk_0 jk_0 (bn_f (by omega) ?_))
                      exact jX.sub (jsb_c rfl jsb_n) (ct_X12_apart_r125_21 hD hQ  h J Sm)
                    ·
                      refine x_iconst (v := 1) rfl ki_1 ?_
                      refine x_goto (tgt := 35) rfl rfl ?_
                      refine x_zret rfl rfl (by decide) ?_
                      show jX m_X12_apart 4 0 0 18 [(0, .ref 125), (1, .int a1), (2, .int a2)] [.int 1] _ 0 0 _
                      refine x_ifne (tgt := 28) rfl rfl (ti_ne jk_1 jk_0 (bn_t (by omega) ?_))
                      refine x_iloadn (x := a1) rfl rfl ?_
                      refine x_iloadn (x := a2) rfl rfl ?_
                      refine x_icne (tgt := 40) rfl rfl (ti_ne rfl rfl ⟨fun c52 => ?_, fun c52 => ?_⟩)
                      ·
                        refine x_aloadn (x := 125) rfl rfl ?_
                        refine z_getR (N := 92) (b := 126) 12 2 rfl f_12_8 rfl J rfl 16002 ⟨rfl, rfl⟩ rfl ?_
                        refine x_iconst (v := 1) rfl ki_1 ?_
                        refine z_iald (N := 50660) rfl J rfl sg_126_1_2_1_0_1 jk_1 (by omega) (fun v53 qv53 ev53 => ?_)
                        refine x_bipush (v := 60) rfl kb_60 ?_
                        refine x_icne (tgt := 58) rfl rfl (ti_ne rfl jk_60 ⟨fun c54 => ?_, fun c54 => ?_⟩)
                        ·
                          refine x_aloadn (x := 125) rfl rfl ?_
                          refine z_getR (N := 92) (b := 126) 12 2 rfl f_12_8 rfl J rfl 16002 ⟨rfl, rfl⟩ rfl ?_
                          refine x_sipush (v := 18020) rfl ks_18020 ?_
                          refine x_iconst (v := 2) rfl ki_2 ?_
                          refine x_aloadn (x := 125) rfl rfl ?_
                          refine z_getR (N := 92) (b := 126) 12 2 rfl f_12_8 rfl J rfl 16002 ⟨rfl, rfl⟩ rfl ?_
                          refine x_iconst (v := 1) rfl ki_1 ?_
                          refine z_ialdM (N := 50660) (v := v53) rfl J rfl jk_1 (by omega) qv53 ?_
                          refine z_imul rfl jk_2 rfl (by omega) (fun v55 ev55 => ?_)
                          refine z_iadd rfl jk_18020 rfl (by omega) (fun v56 ev56 => ?_)
                          refine x_iloadn (x := a1) rfl rfl ?_
                          refine z_iast (N := 50660) (l := 18020) (u := 18140) (w := a1.toInt) rfl hD J Sm rfl rfl rfl (by omega) rfl (wr_126_18020 (by omega) (fun q1 q2 q3 q4 => by omega) (fun q1 q2 q3 q4 => by omega)) rfl (fun h w57 J Sm => ?_)
                          refine x_aloadn (x := 125) rfl rfl ?_
                          refine z_getR (N := 92) (b := 126) 12 2 rfl f_12_8 rfl J rfl 16002 ⟨rfl, rfl⟩ rfl ?_
                          refine x_sipush (v := 18020) rfl ks_18020 ?_
                          refine x_iconst (v := 2) rfl ki_2 ?_
                          refine x_aloadn (x := 125) rfl rfl ?_
                          refine z_getR (N := 92) (b := 126) 12 2 rfl f_12_8 rfl J rfl 16002 ⟨rfl, rfl⟩ rfl ?_
                          refine x_iconst (v := 1) rfl ki_1 ?_
                          refine z_ialdM (N := 50660) (v := v53) rfl J rfl jk_1 (by omega) (jmo2 w57 rfl jk_1 (by omega) qv53) ?_
                          refine z_imul rfl jk_2 rfl (by omega) (fun v58 ev58 => ?_)
                          refine z_iadd rfl jk_18020 rfl (by omega) (fun v59 ev59 => ?_)
                          refine x_iconst (v := 1) rfl ki_1 ?_
                          refine z_iadd rfl rfl jk_1 (by omega) (fun v60 ev60 => ?_)
                          refine x_iloadn (x := a2) rfl rfl ?_
                          refine z_iast (N := 50660) (l := 18020) (u := 18140) (w := a2.toInt) rfl hD J Sm rfl rfl rfl (by omega) rfl (wr_126_18020 (by omega) (fun q1 q2 q3 q4 => by omega) (fun q1 q2 q3 q4 => by omega)) rfl (fun h w61 J Sm => ?_)
                          refine x_aloadn (x := 125) rfl rfl ?_
                          refine z_getR (N := 92) (b := 126) 12 2 rfl f_12_8 rfl J rfl 16002 ⟨rfl, rfl⟩ rfl ?_
                          refine x_iconst (v := 1) rfl ki_1 ?_
                          refine x_dup2 rfl rfl rfl ?_
                          refine z_ialdM (N := 50660) (v := v53) rfl J rfl jk_1 (by omega) (jmo2 w61 rfl jk_1 (by omega) (jmo2 w57 rfl jk_1 (by omega) qv53)) ?_
                          refine x_iconst (v := 1) rfl ki_1 ?_
                          refine z_iadd rfl rfl jk_1 (by omega) (fun v62 ev62 => ?_)
                          refine z_iast (N := 50660) (l := 1) (u := 2) (w := v62.toInt) rfl hD J Sm rfl rfl jk_1 (by omega) rfl (wr_126_1 (by omega) (fun q1 q2 q3 q4 => by omega)) rfl (fun h w63 J Sm => ?_)
                          refine x_aloadn (x := 125) rfl rfl ?_
                          refine x_iconst (v := 0) rfl ki_0 ?_
                          refine x_inv (N := m_X12_told) (As := [.int 0]) (b := 125) (st := []) (dx9 := 1) (mc := 0) (ms := 0) (host := "") 12 rfl t_X12_told ⟨Or.inl q_12_197, i_X12_told.1, i_X12_told.2⟩ ⟨by decide, rfl⟩ (congrArg Prod.fst (J.1.1 125 (12, 92) rfl)) rfl (by decide) rfl rfl ⟨by decide, by decide⟩ (sf_X12_told_r125  hD J  (fun v65 h J S64 => ?_))
                          have ev65 := jfull v65
                          have Sm := jSm_tr rfl Sm S64
                          show jX m_X12_apart 4 0 0 111 [(0, .ref 125), (1, .int a1), (2, .int a2)] [.int v65] _ 0 0 _
                          refine x_iret rfl rfl ?_
                          exact hQ _ _ J Sm
                        ·
                          refine x_aloadn (x := 125) rfl rfl ?_
                          refine x_bipush (v := (-5)) rfl kb_m5 ?_
                          refine x_inv (N := m_X12_told) (As := [.int (-5)]) (b := 125) (st := []) (dx9 := 1) (mc := 0) (ms := 0) (host := "") 12 rfl t_X12_told ⟨Or.inl q_12_197, i_X12_told.1, i_X12_told.2⟩ ⟨by decide, rfl⟩ (congrArg Prod.fst (J.1.1 125 (12, 92) rfl)) rfl (by decide) rfl rfl ⟨by decide, by decide⟩ (sf_X12_told_r125  hD J  (fun v67 h J S66 => ?_))
                          have ev67 := jfull v67
                          have Sm := jSm_tr rfl Sm S66
                          show jX m_X12_apart 4 0 0 57 [(0, .ref 125), (1, .int a1), (2, .int a2)] [.int v67] _ 0 0 _
                          refine x_iret rfl rfl ?_
                          exact hQ _ _ J Sm
                      ·
                        refine x_aloadn (x := 125) rfl rfl ?_
                        refine x_bipush (v := (-3)) rfl kb_m3 ?_
                        refine x_inv (N := m_X12_told) (As := [.int (-3)]) (b := 125) (st := []) (dx9 := 1) (mc := 0) (ms := 0) (host := "") 12 rfl t_X12_told ⟨Or.inl q_12_197, i_X12_told.1, i_X12_told.2⟩ ⟨by decide, rfl⟩ (congrArg Prod.fst (J.1.1 125 (12, 92) rfl)) rfl (by decide) rfl rfl ⟨by decide, by decide⟩ (sf_X12_told_r125  hD J  (fun v69 h J S68 => ?_))
                        have ev69 := jfull v69
                        have Sm := jSm_tr rfl Sm S68
                        show jX m_X12_apart 4 0 0 39 [(0, .ref 125), (1, .int a1), (2, .int a2)] [.int v69] _ 0 0 _
                        refine x_iret rfl rfl ?_
                        exact hQ _ _ J Sm
                ·
                  refine x_iconst (v := 3) rfl ki_3 ?_
                  refine x_goto (tgt := 18) rfl rfl ?_
                  refine x_iret rfl rfl ?_
                  show jX m_X12_isMention 3 0 0 27 [(0, .ref 125), (1, .int a2)] [.int 3, .int v25] _ 0 0 _
                  refine x_icge (tgt := 34) rfl rfl (ti_ge rfl jk_3 (br_f (by omega) ?_))
                  refine x_iconst (v := 1) rfl ki_1 ?_
                  refine x_goto (tgt := 35) rfl rfl ?_
                  refine x_zret rfl rfl (by decide) ?_
                  show jX m_X12_apart 4 0 0 18 [(0, .ref 125), (1, .int a1), (2, .int a2)] [.int 1] _ 0 0 _
                  refine x_ifne (tgt := 28) rfl rfl (ti_ne jk_1 jk_0 (bn_t (by omega) ?_))
                  refine x_iloadn (x := a1) rfl rfl ?_
                  refine x_iloadn (x := a2) rfl rfl ?_
                  refine x_icne (tgt := 40) rfl rfl (ti_ne rfl rfl ⟨fun c70 => ?_, fun c70 => ?_⟩)
                  ·
                    refine x_aloadn (x := 125) rfl rfl ?_
                    refine z_getR (N := 92) (b := 126) 12 2 rfl f_12_8 rfl J rfl 16002 ⟨rfl, rfl⟩ rfl ?_
                    refine x_iconst (v := 1) rfl ki_1 ?_
                    refine z_iald (N := 50660) rfl J rfl sg_126_1_2_1_0_1 jk_1 (by omega) (fun v71 qv71 ev71 => ?_)
                    refine x_bipush (v := 60) rfl kb_60 ?_
                    refine x_icne (tgt := 58) rfl rfl (ti_ne rfl jk_60 ⟨fun c72 => ?_, fun c72 => ?_⟩)
                    ·
                      refine x_aloadn (x := 125) rfl rfl ?_
                      refine z_getR (N := 92) (b := 126) 12 2 rfl f_12_8 rfl J rfl 16002 ⟨rfl, rfl⟩ rfl ?_
                      refine x_sipush (v := 18020) rfl ks_18020 ?_
                      refine x_iconst (v := 2) rfl ki_2 ?_
                      refine x_aloadn (x := 125) rfl rfl ?_
                      refine z_getR (N := 92) (b := 126) 12 2 rfl f_12_8 rfl J rfl 16002 ⟨rfl, rfl⟩ rfl ?_
                      refine x_iconst (v := 1) rfl ki_1 ?_
                      refine z_ialdM (N := 50660) (v := v71) rfl J rfl jk_1 (by omega) qv71 ?_
                      refine z_imul rfl jk_2 rfl (by omega) (fun v73 ev73 => ?_)
                      refine z_iadd rfl jk_18020 rfl (by omega) (fun v74 ev74 => ?_)
                      refine x_iloadn (x := a1) rfl rfl ?_
                      refine z_iast (N := 50660) (l := 18020) (u := 18140) (w := a1.toInt) rfl hD J Sm rfl rfl rfl (by omega) rfl (wr_126_18020 (by omega) (fun q1 q2 q3 q4 => by omega) (fun q1 q2 q3 q4 => by omega)) rfl (fun h w75 J Sm => ?_)
                      refine x_aloadn (x := 125) rfl rfl ?_
                      refine z_getR (N := 92) (b := 126) 12 2 rfl f_12_8 rfl J rfl 16002 ⟨rfl, rfl⟩ rfl ?_
                      refine x_sipush (v := 18020) rfl ks_18020 ?_
                      refine x_iconst (v := 2) rfl ki_2 ?_
                      refine x_aloadn (x := 125) rfl rfl ?_
                      refine z_getR (N := 92) (b := 126) 12 2 rfl f_12_8 rfl J rfl 16002 ⟨rfl, rfl⟩ rfl ?_
                      refine x_iconst (v := 1) rfl ki_1 ?_
                      refine z_ialdM (N := 50660) (v := v71) rfl J rfl jk_1 (by omega) (jmo2 w75 rfl jk_1 (by omega) qv71) ?_
                      refine z_imul rfl jk_2 rfl (by omega) (fun v76 ev76 => ?_)
                      refine z_iadd rfl jk_18020 rfl (by omega) (fun v77 ev77 => ?_)
                      refine x_iconst (v := 1) rfl ki_1 ?_
                      refine z_iadd rfl rfl jk_1 (by omega) (fun v78 ev78 => ?_)
                      refine x_iloadn (x := a2) rfl rfl ?_
                      refine z_iast (N := 50660) (l := 18020) (u := 18140) (w := a2.toInt) rfl hD J Sm rfl rfl rfl (by omega) rfl (wr_126_18020 (by omega) (fun q1 q2 q3 q4 => by omega) (fun q1 q2 q3 q4 => by omega)) rfl (fun h w79 J Sm => ?_)
                      refine x_aloadn (x := 125) rfl rfl ?_
                      refine z_getR (N := 92) (b := 126) 12 2 rfl f_12_8 rfl J rfl 16002 ⟨rfl, rfl⟩ rfl ?_
                      refine x_iconst (v := 1) rfl ki_1 ?_
                      refine x_dup2 rfl rfl rfl ?_
                      refine z_ialdM (N := 50660) (v := v71) rfl J rfl jk_1 (by omega) (jmo2 w79 rfl jk_1 (by omega) (jmo2 w75 rfl jk_1 (by omega) qv71)) ?_
                      refine x_iconst (v := 1) rfl ki_1 ?_
                      refine z_iadd rfl rfl jk_1 (by omega) (fun v80 ev80 => ?_)
                      refine z_iast (N := 50660) (l := 1) (u := 2) (w := v80.toInt) rfl hD J Sm rfl rfl jk_1 (by omega) rfl (wr_126_1 (by omega) (fun q1 q2 q3 q4 => by omega)) rfl (fun h w81 J Sm => ?_)
                      refine x_aloadn (x := 125) rfl rfl ?_
                      refine x_iconst (v := 0) rfl ki_0 ?_
                      refine x_inv (N := m_X12_told) (As := [.int 0]) (b := 125) (st := []) (dx9 := 1) (mc := 0) (ms := 0) (host := "") 12 rfl t_X12_told ⟨Or.inl q_12_197, i_X12_told.1, i_X12_told.2⟩ ⟨by decide, rfl⟩ (congrArg Prod.fst (J.1.1 125 (12, 92) rfl)) rfl (by decide) rfl rfl ⟨by decide, by decide⟩ (sf_X12_told_r125  hD J  (fun v83 h J S82 => ?_))
                      have ev83 := jfull v83
                      have Sm := jSm_tr rfl Sm S82
                      show jX m_X12_apart 4 0 0 111 [(0, .ref 125), (1, .int a1), (2, .int a2)] [.int v83] _ 0 0 _
                      refine x_iret rfl rfl ?_
                      exact hQ _ _ J Sm
                    ·
                      refine x_aloadn (x := 125) rfl rfl ?_
                      refine x_bipush (v := (-5)) rfl kb_m5 ?_
                      refine x_inv (N := m_X12_told) (As := [.int (-5)]) (b := 125) (st := []) (dx9 := 1) (mc := 0) (ms := 0) (host := "") 12 rfl t_X12_told ⟨Or.inl q_12_197, i_X12_told.1, i_X12_told.2⟩ ⟨by decide, rfl⟩ (congrArg Prod.fst (J.1.1 125 (12, 92) rfl)) rfl (by decide) rfl rfl ⟨by decide, by decide⟩ (sf_X12_told_r125  hD J  (fun v85 h J S84 => ?_))
                      have ev85 := jfull v85
                      have Sm := jSm_tr rfl Sm S84
                      show jX m_X12_apart 4 0 0 57 [(0, .ref 125), (1, .int a1), (2, .int a2)] [.int v85] _ 0 0 _
                      refine x_iret rfl rfl ?_
                      exact hQ _ _ J Sm
                  ·
                    refine x_aloadn (x := 125) rfl rfl ?_
                    refine x_bipush (v := (-3)) rfl kb_m3 ?_
                    refine x_inv (N := m_X12_told) (As := [.int (-3)]) (b := 125) (st := []) (dx9 := 1) (mc := 0) (ms := 0) (host := "") 12 rfl t_X12_told ⟨Or.inl q_12_197, i_X12_told.1, i_X12_told.2⟩ ⟨by decide, rfl⟩ (congrArg Prod.fst (J.1.1 125 (12, 92) rfl)) rfl (by decide) rfl rfl ⟨by decide, by decide⟩ (sf_X12_told_r125  hD J  (fun v87 h J S86 => ?_))
                    have ev87 := jfull v87
                    have Sm := jSm_tr rfl Sm S86
                    show jX m_X12_apart 4 0 0 39 [(0, .ref 125), (1, .int a1), (2, .int a2)] [.int v87] _ 0 0 _
                    refine x_iret rfl rfl ?_
                    exact hQ _ _ J Sm
        ·
          refine x_iconst (v := 2) rfl ki_2 ?_
          refine x_goto (tgt := 18) rfl rfl ?_
          refine x_iret rfl rfl ?_
          show jX m_X12_isMention 3 0 0 27 [(0, .ref 125), (1, .int a1)] [.int 2, .int v10] _ 0 0 _
          refine x_icge (tgt := 34) rfl rfl (ti_ge rfl jk_2 ⟨fun c88 => ?_, fun c88 => ?_⟩)
          ·
            refine x_iconst (v := 0) rfl ki_0 ?_
            refine x_zret rfl rfl (by decide) ?_
            show jX m_X12_apart 4 0 0 10 [(0, .ref 125), (1, .int a1), (2, .int a2)] [.int 0] _ 0 0 _
            refine x_ifeq (tgt := 21) rfl rfl (ti_eq jk_0 jk_0 (br_t (by omega) ?_))
            exact jX.sub (jsb_c rfl jsb_n) (ct_X12_apart_r125_21 hD hQ  h J Sm)
          ·
            refine x_iconst (v := 1) rfl ki_1 ?_
            refine x_goto (tgt := 35) rfl rfl ?_
            refine x_zret rfl rfl (by decide) ?_
            show jX m_X12_apart 4 0 0 10 [(0, .ref 125), (1, .int a1), (2, .int a2)] [.int 1] _ 0 0 _
            refine x_ifeq (tgt := 21) rfl rfl (ti_eq jk_1 jk_0 (br_f (by omega) ?_))
            refine x_aloadn (x := 125) rfl rfl ?_
            refine x_iloadn (x := a2) rfl rfl ?_
            refine x_inv (N := m_X12_isMention) (As := [.int a2]) (b := 125) (st := []) (dx9 := 3) (mc := 0) (ms := 0) (host := "") 12 rfl t_X12_isMention ⟨Or.inl q_12_322, i_X12_isMention.1, i_X12_isMention.2⟩ ⟨by decide, rfl⟩ (congrArg Prod.fst (J.1.1 125 (12, 92) rfl)) rfl (by decide) rfl rfl ⟨by decide, by decide⟩ (jC.of rfl k_X12_isMention rfl ?_)
            show jX m_X12_isMention 3 0 0 0 [(0, .ref 125), (1, .int a2)] [] _ 0 0 _
            refine x_iloadn (x := a2) rfl rfl ?_
            refine x_iflt (tgt := 34) rfl rfl (ti_lt rfl jk_0 ⟨fun c89 => ?_, fun c89 => ?_⟩)
            ·
              refine x_iconst (v := 0) rfl ki_0 ?_
              refine x_zret rfl rfl (by decide) ?_
              show jX m_X12_apart 4 0 0 18 [(0, .ref 125), (1, .int a1), (2, .int a2)] [.int 0] _ 0 0 _
              refine x_ifne (tgt := 28) rfl rfl (ti_ne jk_0 jk_0 (bn_f (by omega) ?_))
              exact jX.sub (jsb_c rfl jsb_n) (ct_X12_apart_r125_21 hD hQ  h J Sm)
            ·
              refine x_aloadn (x := 125) rfl rfl ?_
              refine x_iloadn (x := a2) rfl rfl ?_
              refine x_iconst (v := 3) rfl ki_3 ?_
              refine z_idiv rfl rfl jk_3 (by omega) (by omega) (fun v90 ev90 => ?_)
              refine x_inv (N := m_X12_isLine) (As := [.int v90]) (b := 125) (st := []) (dx9 := 2) (mc := 0) (ms := 0) (host := "") 12 rfl t_X12_isLine ⟨Or.inl q_12_293, i_X12_isLine.1, i_X12_isLine.2⟩ ⟨by decide, rfl⟩ (congrArg Prod.fst (J.1.1 125 (12, 92) rfl)) rfl (by decide) rfl rfl ⟨by decide, by decide⟩ (jC.of rfl k_X12_isLine rfl ?_)
              show jX m_X12_isLine 2 0 0 0 [(0, .ref 125), (1, .int v90)] [] _ 0 0 _
              refine x_iloadn (x := v90) rfl rfl ?_
              refine z_i2l rfl rfl (fun v91 ev91 => ?_)
              refine x_lconst (v := 0) rfl kl_0 ?_
              refine x_aloadn (x := 125) rfl rfl ?_
              refine z_getR (N := 92) (b := 126) 12 2 rfl f_12_8 rfl J rfl 16002 ⟨rfl, rfl⟩ rfl ?_
              refine x_iconst (v := 0) rfl ki_0 ?_
              refine z_ialdM (N := 50660) (v := v5) rfl J rfl jk_0 (by omega) qv5 ?_
              refine z_i2l rfl rfl (fun v92 ev92 => ?_)
              refine x_lconst (v := 1) rfl kl_1 ?_
              refine z_lsub rfl rfl jkl_1 (by omega) (fun v93 ev93 => ?_)
              refine x_inst (N := m_X12_in) (As := [.long v91, .long 0, .long v93]) (st := []) (dx9 := 1) (mc := 0) (ms := 0) (host := "") rfl t_X12_in ⟨Or.inl q_12_188, s_X12_in⟩ rfl (by decide) rfl rfl ⟨by decide, by decide⟩ (zc_X12_in rfl jkl_0 rfl (fun v94 ev94 => ?_))
              show jX m_X12_isLine 2 0 0 15 [(0, .ref 125), (1, .int v90)] [.int v94] _ 0 0 _
              refine x_zret rfl rfl (jz01 (by omega)) ?_
              show jX m_X12_isMention 3 0 0 11 [(0, .ref 125), (1, .int a2)] [.int v94] _ 0 0 _
              refine x_ifeq (tgt := 34) rfl rfl (ti_eq rfl jk_0 ⟨fun c95 => ?_, fun c95 => ?_⟩)
              ·
                refine x_iconst (v := 0) rfl ki_0 ?_
                refine x_zret rfl rfl (by decide) ?_
                show jX m_X12_apart 4 0 0 18 [(0, .ref 125), (1, .int a1), (2, .int a2)] [.int 0] _ 0 0 _
                refine x_ifne (tgt := 28) rfl rfl (ti_ne jk_0 jk_0 (bn_f (by omega) ?_))
                exact jX.sub (jsb_c rfl jsb_n) (ct_X12_apart_r125_21 hD hQ  h J Sm)
              ·
                refine x_iloadn (x := a2) rfl rfl ?_
                refine x_iconst (v := 3) rfl ki_3 ?_
                refine z_irem rfl rfl jk_3 (by omega) (by omega) (fun v96 ev96 => ?_)
                refine x_aloadn (x := 125) rfl rfl ?_
                refine x_iloadn (x := a2) rfl rfl ?_
                refine x_iconst (v := 3) rfl ki_3 ?_
                refine z_idiv rfl rfl jk_3 (by omega) (by omega) (fun v97 ev97 => ?_)
                refine x_inv (N := m_X12_bookOf) (As := [.int v97]) (b := 125) (st := [.int v96]) (dx9 := 2) (mc := 0) (ms := 0) (host := "") 12 rfl t_X12_bookOf ⟨Or.inl q_12_299, i_X12_bookOf.1, i_X12_bookOf.2⟩ ⟨by decide, rfl⟩ (congrArg Prod.fst (J.1.1 125 (12, 92) rfl)) rfl (by decide) rfl rfl ⟨by decide, by decide⟩ (jC.of rfl k_X12_bookOf rfl ?_)
                show jX m_X12_bookOf 2 0 0 0 [(0, .ref 125), (1, .int v97)] [] _ 0 0 _
                refine x_aloadn (x := 125) rfl rfl ?_
                refine z_getR (N := 92) (b := 126) 12 2 rfl f_12_8 rfl J rfl 16002 ⟨rfl, rfl⟩ rfl ?_
                refine x_aloadn (x := 125) rfl rfl ?_
                refine x_iloadn (x := v97) rfl rfl ?_
                refine x_inv (N := m_X12_at) (As := [.int v97]) (b := 125) (st := [.ref 126]) (dx9 := 1) (mc := 0) (ms := 0) (host := "") 12 rfl t_X12_at ⟨Or.inl q_12_254, i_X12_at.1, i_X12_at.2⟩ ⟨by decide, rfl⟩ (congrArg Prod.fst (J.1.1 125 (12, 92) rfl)) rfl (by decide) rfl rfl ⟨by decide, by decide⟩ (jC.of rfl k_X12_at rfl ?_)
                show jX m_X12_at 1 0 0 0 [(0, .ref 125), (1, .int v97)] [] _ 0 0 _
                refine x_bipush (v := 20) rfl kb_20 ?_
                refine x_bipush (v := 90) rfl kb_90 ?_
                refine x_iloadn (x := v97) rfl rfl ?_
                refine z_imul rfl jk_90 rfl (by omega) (fun v98 ev98 => ?_)
                refine z_iadd rfl jk_20 rfl (by omega) (fun v99 ev99 => ?_)
                refine x_iret rfl rfl ?_
                show jX m_X12_bookOf 2 0 0 9 [(0, .ref 125), (1, .int v97)] [.int v99, .ref 126] _ 0 0 _
                refine z_iald (N := 50660) rfl J rfl sg_126_20_18020_90_0_1 rfl (by omega) (fun v100 qv100 ev100 => ?_)
                refine x_iret rfl rfl ?_
                show jX m_X12_isMention 3 0 0 24 [(0, .ref 125), (1, .int a2)] [.int v100, .int v96] _ 0 0 _
                refine x_inst (N := m_X12_rolesOf) (As := [.int v100]) (st := [.int v96]) (dx9 := 2) (mc := 0) (ms := 0) (host := "") rfl t_X12_rolesOf ⟨Or.inl q_12_286, s_X12_rolesOf⟩ rfl (by decide) rfl rfl ⟨by decide, by decide⟩ (jC.of rfl k_X12_rolesOf rfl ?_)
                show jX m_X12_rolesOf 2 0 0 0 [(0, .int v100)] [] _ 0 0 _
                refine x_iloadn (x := v100) rfl rfl ?_
                refine x_ifne (tgt := 8) rfl rfl (ti_ne rfl jk_0 ⟨fun c101 => ?_, fun c101 => ?_⟩)
                ·
                  refine x_iloadn (x := v100) rfl rfl ?_
                  refine x_iconst (v := 1) rfl ki_1 ?_
                  refine x_icne (tgt := 17) rfl rfl (ti_ne rfl jk_1 ⟨fun c102 => ?_, fun c102 => ?_⟩)
                  ·
                    refine x_iconst (v := 1) rfl ki_1 ?_
                    refine x_iret rfl rfl ?_
                    show jX m_X12_isMention 3 0 0 27 [(0, .ref 125), (1, .int a2)] [.int 1, .int v96] _ 0 0 _
                    refine x_icge (tgt := 34) rfl rfl (ti_ge rfl jk_1 ⟨fun c103 => ?_, fun c103 => ?_⟩)
                    ·
                      refine x_iconst (v := 0) rfl ki_0 ?_
                      refine x_zret rfl rfl (by decide) ?_
                      show jX m_X12_apart 4 0 0 18 [(0, .ref 125), (1, .int a1), (2, .int a2)] [.int 0] _ 0 0 _
                      refine x_ifne (tgt := 28) rfl rfl (ti_ne jk_0 jk_0 (bn_f (by omega) ?_))
                      exact jX.sub (jsb_c rfl jsb_n) (ct_X12_apart_r125_21 hD hQ  h J Sm)
                    ·
                      refine x_iconst (v := 1) rfl ki_1 ?_
                      refine x_goto (tgt := 35) rfl rfl ?_
                      refine x_zret rfl rfl (by decide) ?_
                      show jX m_X12_apart 4 0 0 18 [(0, .ref 125), (1, .int a1), (2, .int a2)] [.int 1] _ 0 0 _
                      refine x_ifne (tgt := 28) rfl rfl (ti_ne jk_1 jk_0 (bn_t (by omega) ?_))
                      refine x_iloadn (x := a1) rfl rfl ?_
                      refine x_iloadn (x := a2) rfl rfl ?_
                      refine x_icne (tgt := 40) rfl rfl (ti_ne rfl rfl ⟨fun c104 => ?_, fun c104 => ?_⟩)
                      ·
                        refine x_aloadn (x := 125) rfl rfl ?_
                        refine z_getR (N := 92) (b := 126) 12 2 rfl f_12_8 rfl J rfl 16002 ⟨rfl, rfl⟩ rfl ?_
                        refine x_iconst (v := 1) rfl ki_1 ?_
                        refine z_iald (N := 50660) rfl J rfl sg_126_1_2_1_0_1 jk_1 (by omega) (fun v105 qv105 ev105 => ?_)
                        refine x_bipush (v := 60) rfl kb_60 ?_
                        refine x_icne (tgt := 58) rfl rfl (ti_ne rfl jk_60 ⟨fun c106 => ?_, fun c106 => ?_⟩)
                        ·
                          refine x_aloadn (x := 125) rfl rfl ?_
                          refine z_getR (N := 92) (b := 126) 12 2 rfl f_12_8 rfl J rfl 16002 ⟨rfl, rfl⟩ rfl ?_
                          refine x_sipush (v := 18020) rfl ks_18020 ?_
                          refine x_iconst (v := 2) rfl ki_2 ?_
                          refine x_aloadn (x := 125) rfl rfl ?_
                          refine z_getR (N := 92) (b := 126) 12 2 rfl f_12_8 rfl J rfl 16002 ⟨rfl, rfl⟩ rfl ?_
                          refine x_iconst (v := 1) rfl ki_1 ?_
                          refine z_ialdM (N := 50660) (v := v105) rfl J rfl jk_1 (by omega) qv105 ?_
                          refine z_imul rfl jk_2 rfl (by omega) (fun v107 ev107 => ?_)
                          refine z_iadd rfl jk_18020 rfl (by omega) (fun v108 ev108 => ?_)
                          refine x_iloadn (x := a1) rfl rfl ?_
                          refine z_iast (N := 50660) (l := 18020) (u := 18140) (w := a1.toInt) rfl hD J Sm rfl rfl rfl (by omega) rfl (wr_126_18020 (by omega) (fun q1 q2 q3 q4 => by omega) (fun q1 q2 q3 q4 => by omega)) rfl (fun h w109 J Sm => ?_)
                          refine x_aloadn (x := 125) rfl rfl ?_
                          refine z_getR (N := 92) (b := 126) 12 2 rfl f_12_8 rfl J rfl 16002 ⟨rfl, rfl⟩ rfl ?_
                          refine x_sipush (v := 18020) rfl ks_18020 ?_
                          refine x_iconst (v := 2) rfl ki_2 ?_
                          refine x_aloadn (x := 125) rfl rfl ?_
                          refine z_getR (N := 92) (b := 126) 12 2 rfl f_12_8 rfl J rfl 16002 ⟨rfl, rfl⟩ rfl ?_
                          refine x_iconst (v := 1) rfl ki_1 ?_
                          refine z_ialdM (N := 50660) (v := v105) rfl J rfl jk_1 (by omega) (jmo2 w109 rfl jk_1 (by omega) qv105) ?_
                          refine z_imul rfl jk_2 rfl (by omega) (fun v110 ev110 => ?_)
                          refine z_iadd rfl jk_18020 rfl (by omega) (fun v111 ev111 => ?_)
                          refine x_iconst (v := 1) rfl ki_1 ?_
                          refine z_iadd rfl rfl jk_1 (by omega) (fun v112 ev112 => ?_)
                          refine x_iloadn (x := a2) rfl rfl ?_
                          refine z_iast (N := 50660) (l := 18020) (u := 18140) (w := a2.toInt) rfl hD J Sm rfl rfl rfl (by omega) rfl (wr_126_18020 (by omega) (fun q1 q2 q3 q4 => by omega) (fun q1 q2 q3 q4 => by omega)) rfl (fun h w113 J Sm => ?_)
                          refine x_aloadn (x := 125) rfl rfl ?_
                          refine z_getR (N := 92) (b := 126) 12 2 rfl f_12_8 rfl J rfl 16002 ⟨rfl, rfl⟩ rfl ?_
                          refine x_iconst (v := 1) rfl ki_1 ?_
                          refine x_dup2 rfl rfl rfl ?_
                          refine z_ialdM (N := 50660) (v := v105) rfl J rfl jk_1 (by omega) (jmo2 w113 rfl jk_1 (by omega) (jmo2 w109 rfl jk_1 (by omega) qv105)) ?_
                          refine x_iconst (v := 1) rfl ki_1 ?_
                          refine z_iadd rfl rfl jk_1 (by omega) (fun v114 ev114 => ?_)
                          refine z_iast (N := 50660) (l := 1) (u := 2) (w := v114.toInt) rfl hD J Sm rfl rfl jk_1 (by omega) rfl (wr_126_1 (by omega) (fun q1 q2 q3 q4 => by omega)) rfl (fun h w115 J Sm => ?_)
                          refine x_aloadn (x := 125) rfl rfl ?_
                          refine x_iconst (v := 0) rfl ki_0 ?_
                          refine x_inv (N := m_X12_told) (As := [.int 0]) (b := 125) (st := []) (dx9 := 1) (mc := 0) (ms := 0) (host := "") 12 rfl t_X12_told ⟨Or.inl q_12_197, i_X12_told.1, i_X12_told.2⟩ ⟨by decide, rfl⟩ (congrArg Prod.fst (J.1.1 125 (12, 92) rfl)) rfl (by decide) rfl rfl ⟨by decide, by decide⟩ (sf_X12_told_r125  hD J  (fun v117 h J S116 => ?_))
                          have ev117 := jfull v117
                          have Sm := jSm_tr rfl Sm S116
                          show jX m_X12_apart 4 0 0 111 [(0, .ref 125), (1, .int a1), (2, .int a2)] [.int v117] _ 0 0 _
                          refine x_iret rfl rfl ?_
                          exact hQ _ _ J Sm
                        ·
                          refine x_aloadn (x := 125) rfl rfl ?_
                          refine x_bipush (v := (-5)) rfl kb_m5 ?_
                          refine x_inv (N := m_X12_told) (As := [.int (-5)]) (b := 125) (st := []) (dx9 := 1) (mc := 0) (ms := 0) (host := "") 12 rfl t_X12_told ⟨Or.inl q_12_197, i_X12_told.1, i_X12_told.2⟩ ⟨by decide, rfl⟩ (congrArg Prod.fst (J.1.1 125 (12, 92) rfl)) rfl (by decide) rfl rfl ⟨by decide, by decide⟩ (sf_X12_told_r125  hD J  (fun v119 h J S118 => ?_))
                          have ev119 := jfull v119
                          have Sm := jSm_tr rfl Sm S118
                          show jX m_X12_apart 4 0 0 57 [(0, .ref 125), (1, .int a1), (2, .int a2)] [.int v119] _ 0 0 _
                          refine x_iret rfl rfl ?_
                          exact hQ _ _ J Sm
                      ·
                        refine x_aloadn (x := 125) rfl rfl ?_
                        refine x_bipush (v := (-3)) rfl kb_m3 ?_
                        refine x_inv (N := m_X12_told) (As := [.int (-3)]) (b := 125) (st := []) (dx9 := 1) (mc := 0) (ms := 0) (host := "") 12 rfl t_X12_told ⟨Or.inl q_12_197, i_X12_told.1, i_X12_told.2⟩ ⟨by decide, rfl⟩ (congrArg Prod.fst (J.1.1 125 (12, 92) rfl)) rfl (by decide) rfl rfl ⟨by decide, by decide⟩ (sf_X12_told_r125  hD J  (fun v121 h J S120 => ?_))
                        have ev121 := jfull v121
                        have Sm := jSm_tr rfl Sm S120
                        show jX m_X12_apart 4 0 0 39 [(0, .ref 125), (1, .int a1), (2, .int a2)] [.int v121] _ 0 0 _
                        refine x_iret rfl rfl ?_
                        exact hQ _ _ J Sm
                  ·
                    refine x_iconst (v := 2) rfl ki_2 ?_
                    refine x_goto (tgt := 18) rfl rfl ?_
                    refine x_iret rfl rfl ?_
                    show jX m_X12_isMention 3 0 0 27 [(0, .ref 125), (1, .int a2)] [.int 2, .int v96] _ 0 0 _
                    refine x_icge (tgt := 34) rfl rfl (ti_ge rfl jk_2 ⟨fun c122 => ?_, fun c122 => ?_⟩)
                    ·
                      refine x_iconst (v := 0) rfl ki_0 ?_
                      refine x_zret rfl rfl (by decide) ?_
                      show jX m_X12_apart 4 0 0 18 [(0, .ref 125), (1, .int a1), (2, .int a2)] [.int 0] _ 0 0 _
                      refine x_ifne (tgt := 28) rfl rfl (ti_ne jk_0 jk_0 (bn_f (by omega) ?_))
                      exact jX.sub (jsb_c rfl jsb_n) (ct_X12_apart_r125_21 hD hQ  h J Sm)
                    ·
                      refine x_iconst (v := 1) rfl ki_1 ?_
                      refine x_goto (tgt := 35) rfl rfl ?_
                      refine x_zret rfl rfl (by decide) ?_
                      show jX m_X12_apart 4 0 0 18 [(0, .ref 125), (1, .int a1), (2, .int a2)] [.int 1] _ 0 0 _
                      refine x_ifne (tgt := 28) rfl rfl (ti_ne jk_1 jk_0 (bn_t (by omega) ?_))
                      refine x_iloadn (x := a1) rfl rfl ?_
                      refine x_iloadn (x := a2) rfl rfl ?_
                      refine x_icne (tgt := 40) rfl rfl (ti_ne rfl rfl ⟨fun c123 => ?_, fun c123 => ?_⟩)
                      ·
                        refine x_aloadn (x := 125) rfl rfl ?_
                        refine z_getR (N := 92) (b := 126) 12 2 rfl f_12_8 rfl J rfl 16002 ⟨rfl, rfl⟩ rfl ?_
                        refine x_iconst (v := 1) rfl ki_1 ?_
                        refine z_iald (N := 50660) rfl J rfl sg_126_1_2_1_0_1 jk_1 (by omega) (fun v124 qv124 ev124 => ?_)
                        refine x_bipush (v := 60) rfl kb_60 ?_
                        refine x_icne (tgt := 58) rfl rfl (ti_ne rfl jk_60 ⟨fun c125 => ?_, fun c125 => ?_⟩)
                        ·
                          refine x_aloadn (x := 125) rfl rfl ?_
                          refine z_getR (N := 92) (b := 126) 12 2 rfl f_12_8 rfl J rfl 16002 ⟨rfl, rfl⟩ rfl ?_
                          refine x_sipush (v := 18020) rfl ks_18020 ?_
                          refine x_iconst (v := 2) rfl ki_2 ?_
                          refine x_aloadn (x := 125) rfl rfl ?_
                          refine z_getR (N := 92) (b := 126) 12 2 rfl f_12_8 rfl J rfl 16002 ⟨rfl, rfl⟩ rfl ?_
                          refine x_iconst (v := 1) rfl ki_1 ?_
                          refine z_ialdM (N := 50660) (v := v124) rfl J rfl jk_1 (by omega) qv124 ?_
                          refine z_imul rfl jk_2 rfl (by omega) (fun v126 ev126 => ?_)
                          refine z_iadd rfl jk_18020 rfl (by omega) (fun v127 ev127 => ?_)
                          refine x_iloadn (x := a1) rfl rfl ?_
                          refine z_iast (N := 50660) (l := 18020) (u := 18140) (w := a1.toInt) rfl hD J Sm rfl rfl rfl (by omega) rfl (wr_126_18020 (by omega) (fun q1 q2 q3 q4 => by omega) (fun q1 q2 q3 q4 => by omega)) rfl (fun h w128 J Sm => ?_)
                          refine x_aloadn (x := 125) rfl rfl ?_
                          refine z_getR (N := 92) (b := 126) 12 2 rfl f_12_8 rfl J rfl 16002 ⟨rfl, rfl⟩ rfl ?_
                          refine x_sipush (v := 18020) rfl ks_18020 ?_
                          refine x_iconst (v := 2) rfl ki_2 ?_
                          refine x_aloadn (x := 125) rfl rfl ?_
                          refine z_getR (N := 92) (b := 126) 12 2 rfl f_12_8 rfl J rfl 16002 ⟨rfl, rfl⟩ rfl ?_
                          refine x_iconst (v := 1) rfl ki_1 ?_
                          refine z_ialdM (N := 50660) (v := v124) rfl J rfl jk_1 (by omega) (jmo2 w128 rfl jk_1 (by omega) qv124) ?_
                          refine z_imul rfl jk_2 rfl (by omega) (fun v129 ev129 => ?_)
                          refine z_iadd rfl jk_18020 rfl (by omega) (fun v130 ev130 => ?_)
                          refine x_iconst (v := 1) rfl ki_1 ?_
                          refine z_iadd rfl rfl jk_1 (by omega) (fun v131 ev131 => ?_)
                          refine x_iloadn (x := a2) rfl rfl ?_
                          refine z_iast (N := 50660) (l := 18020) (u := 18140) (w := a2.toInt) rfl hD J Sm rfl rfl rfl (by omega) rfl (wr_126_18020 (by omega) (fun q1 q2 q3 q4 => by omega) (fun q1 q2 q3 q4 => by omega)) rfl (fun h w132 J Sm => ?_)
                          refine x_aloadn (x := 125) rfl rfl ?_
                          refine z_getR (N := 92) (b := 126) 12 2 rfl f_12_8 rfl J rfl 16002 ⟨rfl, rfl⟩ rfl ?_
                          refine x_iconst (v := 1) rfl ki_1 ?_
                          refine x_dup2 rfl rfl rfl ?_
                          refine z_ialdM (N := 50660) (v := v124) rfl J rfl jk_1 (by omega) (jmo2 w132 rfl jk_1 (by omega) (jmo2 w128 rfl jk_1 (by omega) qv124)) ?_
                          refine x_iconst (v := 1) rfl ki_1 ?_
                          refine z_iadd rfl rfl jk_1 (by omega) (fun v133 ev133 => ?_)
                          refine z_iast (N := 50660) (l := 1) (u := 2) (w := v133.toInt) rfl hD J Sm rfl rfl jk_1 (by omega) rfl (wr_126_1 (by omega) (fun q1 q2 q3 q4 => by omega)) rfl (fun h w134 J Sm => ?_)
                          refine x_aloadn (x := 125) rfl rfl ?_
                          refine x_iconst (v := 0) rfl ki_0 ?_
                          refine x_inv (N := m_X12_told) (As := [.int 0]) (b := 125) (st := []) (dx9 := 1) (mc := 0) (ms := 0) (host := "") 12 rfl t_X12_told ⟨Or.inl q_12_197, i_X12_told.1, i_X12_told.2⟩ ⟨by decide, rfl⟩ (congrArg Prod.fst (J.1.1 125 (12, 92) rfl)) rfl (by decide) rfl rfl ⟨by decide, by decide⟩ (sf_X12_told_r125  hD J  (fun v136 h J S135 => ?_))
                          have ev136 := jfull v136
                          have Sm := jSm_tr rfl Sm S135
                          show jX m_X12_apart 4 0 0 111 [(0, .ref 125), (1, .int a1), (2, .int a2)] [.int v136] _ 0 0 _
                          refine x_iret rfl rfl ?_
                          exact hQ _ _ J Sm
                        ·
                          refine x_aloadn (x := 125) rfl rfl ?_
                          refine x_bipush (v := (-5)) rfl kb_m5 ?_
                          refine x_inv (N := m_X12_told) (As := [.int (-5)]) (b := 125) (st := []) (dx9 := 1) (mc := 0) (ms := 0) (host := "") 12 rfl t_X12_told ⟨Or.inl q_12_197, i_X12_told.1, i_X12_told.2⟩ ⟨by decide, rfl⟩ (congrArg Prod.fst (J.1.1 125 (12, 92) rfl)) rfl (by decide) rfl rfl ⟨by decide, by decide⟩ (sf_X12_told_r125  hD J  (fun v138 h J S137 => ?_))
                          have ev138 := jfull v138
                          have Sm := jSm_tr rfl Sm S137
                          show jX m_X12_apart 4 0 0 57 [(0, .ref 125), (1, .int a1), (2, .int a2)] [.int v138] _ 0 0 _
                          refine x_iret rfl rfl ?_
                          exact hQ _ _ J Sm
                      ·
                        refine x_aloadn (x := 125) rfl rfl ?_
                        refine x_bipush (v := (-3)) rfl kb_m3 ?_
                        refine x_inv (N := m_X12_told) (As := [.int (-3)]) (b := 125) (st := []) (dx9 := 1) (mc := 0) (ms := 0) (host := "") 12 rfl t_X12_told ⟨Or.inl q_12_197, i_X12_told.1, i_X12_told.2⟩ ⟨by decide, rfl⟩ (congrArg Prod.fst (J.1.1 125 (12, 92) rfl)) rfl (by decide) rfl rfl ⟨by decide, by decide⟩ (sf_X12_told_r125  hD J  (fun v140 h J S139 => ?_))
                        have ev140 := jfull v140
                        have Sm := jSm_tr rfl Sm S139
                        show jX m_X12_apart 4 0 0 39 [(0, .ref 125), (1, .int a1), (2, .int a2)] [.int v140] _ 0 0 _
                        refine x_iret rfl rfl ?_
                        exact hQ _ _ J Sm
                ·
                  refine x_iconst (v := 3) rfl ki_3 ?_
                  refine x_goto (tgt := 18) rfl rfl ?_
                  refine x_iret rfl rfl ?_
                  show jX m_X12_isMention 3 0 0 27 [(0, .ref 125), (1, .int a2)] [.int 3, .int v96] _ 0 0 _
                  refine x_icge (tgt := 34) rfl rfl (ti_ge rfl jk_3 (br_f (by omega) ?_))
                  refine x_iconst (v := 1) rfl ki_1 ?_
                  refine x_goto (tgt := 35) rfl rfl ?_
                  refine x_zret rfl rfl (by decide) ?_
                  show jX m_X12_apart 4 0 0 18 [(0, .ref 125), (1, .int a1), (2, .int a2)] [.int 1] _ 0 0 _
                  refine x_ifne (tgt := 28) rfl rfl (ti_ne jk_1 jk_0 (bn_t (by omega) ?_))
                  refine x_iloadn (x := a1) rfl rfl ?_
                  refine x_iloadn (x := a2) rfl rfl ?_
                  refine x_icne (tgt := 40) rfl rfl (ti_ne rfl rfl ⟨fun c141 => ?_, fun c141 => ?_⟩)
                  ·
                    refine x_aloadn (x := 125) rfl rfl ?_
                    refine z_getR (N := 92) (b := 126) 12 2 rfl f_12_8 rfl J rfl 16002 ⟨rfl, rfl⟩ rfl ?_
                    refine x_iconst (v := 1) rfl ki_1 ?_
                    refine z_iald (N := 50660) rfl J rfl sg_126_1_2_1_0_1 jk_1 (by omega) (fun v142 qv142 ev142 => ?_)
                    refine x_bipush (v := 60) rfl kb_60 ?_
                    refine x_icne (tgt := 58) rfl rfl (ti_ne rfl jk_60 ⟨fun c143 => ?_, fun c143 => ?_⟩)
                    ·
                      refine x_aloadn (x := 125) rfl rfl ?_
                      refine z_getR (N := 92) (b := 126) 12 2 rfl f_12_8 rfl J rfl 16002 ⟨rfl, rfl⟩ rfl ?_
                      refine x_sipush (v := 18020) rfl ks_18020 ?_
                      refine x_iconst (v := 2) rfl ki_2 ?_
                      refine x_aloadn (x := 125) rfl rfl ?_
                      refine z_getR (N := 92) (b := 126) 12 2 rfl f_12_8 rfl J rfl 16002 ⟨rfl, rfl⟩ rfl ?_
                      refine x_iconst (v := 1) rfl ki_1 ?_
                      refine z_ialdM (N := 50660) (v := v142) rfl J rfl jk_1 (by omega) qv142 ?_
                      refine z_imul rfl jk_2 rfl (by omega) (fun v144 ev144 => ?_)
                      refine z_iadd rfl jk_18020 rfl (by omega) (fun v145 ev145 => ?_)
                      refine x_iloadn (x := a1) rfl rfl ?_
                      refine z_iast (N := 50660) (l := 18020) (u := 18140) (w := a1.toInt) rfl hD J Sm rfl rfl rfl (by omega) rfl (wr_126_18020 (by omega) (fun q1 q2 q3 q4 => by omega) (fun q1 q2 q3 q4 => by omega)) rfl (fun h w146 J Sm => ?_)
                      refine x_aloadn (x := 125) rfl rfl ?_
                      refine z_getR (N := 92) (b := 126) 12 2 rfl f_12_8 rfl J rfl 16002 ⟨rfl, rfl⟩ rfl ?_
                      refine x_sipush (v := 18020) rfl ks_18020 ?_
                      refine x_iconst (v := 2) rfl ki_2 ?_
                      refine x_aloadn (x := 125) rfl rfl ?_
                      refine z_getR (N := 92) (b := 126) 12 2 rfl f_12_8 rfl J rfl 16002 ⟨rfl, rfl⟩ rfl ?_
                      refine x_iconst (v := 1) rfl ki_1 ?_
                      refine z_ialdM (N := 50660) (v := v142) rfl J rfl jk_1 (by omega) (jmo2 w146 rfl jk_1 (by omega) qv142) ?_
                      refine z_imul rfl jk_2 rfl (by omega) (fun v147 ev147 => ?_)
                      refine z_iadd rfl jk_18020 rfl (by omega) (fun v148 ev148 => ?_)
                      refine x_iconst (v := 1) rfl ki_1 ?_
                      refine z_iadd rfl rfl jk_1 (by omega) (fun v149 ev149 => ?_)
                      refine x_iloadn (x := a2) rfl rfl ?_
                      refine z_iast (N := 50660) (l := 18020) (u := 18140) (w := a2.toInt) rfl hD J Sm rfl rfl rfl (by omega) rfl (wr_126_18020 (by omega) (fun q1 q2 q3 q4 => by omega) (fun q1 q2 q3 q4 => by omega)) rfl (fun h w150 J Sm => ?_)
                      refine x_aloadn (x := 125) rfl rfl ?_
                      refine z_getR (N := 92) (b := 126) 12 2 rfl f_12_8 rfl J rfl 16002 ⟨rfl, rfl⟩ rfl ?_
                      refine x_iconst (v := 1) rfl ki_1 ?_
                      refine x_dup2 rfl rfl rfl ?_
                      refine z_ialdM (N := 50660) (v := v142) rfl J rfl jk_1 (by omega) (jmo2 w150 rfl jk_1 (by omega) (jmo2 w146 rfl jk_1 (by omega) qv142)) ?_
                      refine x_iconst (v := 1) rfl ki_1 ?_
                      refine z_iadd rfl rfl jk_1 (by omega) (fun v151 ev151 => ?_)
                      refine z_iast (N := 50660) (l := 1) (u := 2) (w := v151.toInt) rfl hD J Sm rfl rfl jk_1 (by omega) rfl (wr_126_1 (by omega) (fun q1 q2 q3 q4 => by omega)) rfl (fun h w152 J Sm => ?_)
                      refine x_aloadn (x := 125) rfl rfl ?_
                      refine x_iconst (v := 0) rfl ki_0 ?_
                      refine x_inv (N := m_X12_told) (As := [.int 0]) (b := 125) (st := []) (dx9 := 1) (mc := 0) (ms := 0) (host := "") 12 rfl t_X12_told ⟨Or.inl q_12_197, i_X12_told.1, i_X12_told.2⟩ ⟨by decide, rfl⟩ (congrArg Prod.fst (J.1.1 125 (12, 92) rfl)) rfl (by decide) rfl rfl ⟨by decide, by decide⟩ (sf_X12_told_r125  hD J  (fun v154 h J S153 => ?_))
                      have ev154 := jfull v154
                      have Sm := jSm_tr rfl Sm S153
                      show jX m_X12_apart 4 0 0 111 [(0, .ref 125), (1, .int a1), (2, .int a2)] [.int v154] _ 0 0 _
                      refine x_iret rfl rfl ?_
                      exact hQ _ _ J Sm
                    ·
                      refine x_aloadn (x := 125) rfl rfl ?_
                      refine x_bipush (v := (-5)) rfl kb_m5 ?_
                      refine x_inv (N := m_X12_told) (As := [.int (-5)]) (b := 125) (st := []) (dx9 := 1) (mc := 0) (ms := 0) (host := "") 12 rfl t_X12_told ⟨Or.inl q_12_197, i_X12_told.1, i_X12_told.2⟩ ⟨by decide, rfl⟩ (congrArg Prod.fst (J.1.1 125 (12, 92) rfl)) rfl (by decide) rfl rfl ⟨by decide, by decide⟩ (sf_X12_told_r125  hD J  (fun v156 h J S155 => ?_))
                      have ev156 := jfull v156
                      have Sm := jSm_tr rfl Sm S155
                      show jX m_X12_apart 4 0 0 57 [(0, .ref 125), (1, .int a1), (2, .int a2)] [.int v156] _ 0 0 _
                      refine x_iret rfl rfl ?_
                      exact hQ _ _ J Sm
                  ·
                    refine x_aloadn (x := 125) rfl rfl ?_
                    refine x_bipush (v := (-3)) rfl kb_m3 ?_
                    refine x_inv (N := m_X12_told) (As := [.int (-3)]) (b := 125) (st := []) (dx9 := 1) (mc := 0) (ms := 0) (host := "") 12 rfl t_X12_told ⟨Or.inl q_12_197, i_X12_told.1, i_X12_told.2⟩ ⟨by decide, rfl⟩ (congrArg Prod.fst (J.1.1 125 (12, 92) rfl)) rfl (by decide) rfl rfl ⟨by decide, by decide⟩ (sf_X12_told_r125  hD J  (fun v158 h J S157 => ?_))
                    have ev158 := jfull v158
                    have Sm := jSm_tr rfl Sm S157
                    show jX m_X12_apart 4 0 0 39 [(0, .ref 125), (1, .int a1), (2, .int a2)] [.int v158] _ 0 0 _
                    refine x_iret rfl rfl ?_
                    exact hQ _ _ J Sm
      ·
        refine x_iconst (v := 3) rfl ki_3 ?_
        refine x_goto (tgt := 18) rfl rfl ?_
        refine x_iret rfl rfl ?_
        show jX m_X12_isMention 3 0 0 27 [(0, .ref 125), (1, .int a1)] [.int 3, .int v10] _ 0 0 _
        refine x_icge (tgt := 34) rfl rfl (ti_ge rfl jk_3 (br_f (by omega) ?_))
        refine x_iconst (v := 1) rfl ki_1 ?_
        refine x_goto (tgt := 35) rfl rfl ?_
        refine x_zret rfl rfl (by decide) ?_
        show jX m_X12_apart 4 0 0 10 [(0, .ref 125), (1, .int a1), (2, .int a2)] [.int 1] _ 0 0 _
        refine x_ifeq (tgt := 21) rfl rfl (ti_eq jk_1 jk_0 (br_f (by omega) ?_))
        refine x_aloadn (x := 125) rfl rfl ?_
        refine x_iloadn (x := a2) rfl rfl ?_
        refine x_inv (N := m_X12_isMention) (As := [.int a2]) (b := 125) (st := []) (dx9 := 3) (mc := 0) (ms := 0) (host := "") 12 rfl t_X12_isMention ⟨Or.inl q_12_322, i_X12_isMention.1, i_X12_isMention.2⟩ ⟨by decide, rfl⟩ (congrArg Prod.fst (J.1.1 125 (12, 92) rfl)) rfl (by decide) rfl rfl ⟨by decide, by decide⟩ (jC.of rfl k_X12_isMention rfl ?_)
        show jX m_X12_isMention 3 0 0 0 [(0, .ref 125), (1, .int a2)] [] _ 0 0 _
        refine x_iloadn (x := a2) rfl rfl ?_
        refine x_iflt (tgt := 34) rfl rfl (ti_lt rfl jk_0 ⟨fun c159 => ?_, fun c159 => ?_⟩)
        ·
          refine x_iconst (v := 0) rfl ki_0 ?_
          refine x_zret rfl rfl (by decide) ?_
          show jX m_X12_apart 4 0 0 18 [(0, .ref 125), (1, .int a1), (2, .int a2)] [.int 0] _ 0 0 _
          refine x_ifne (tgt := 28) rfl rfl (ti_ne jk_0 jk_0 (bn_f (by omega) ?_))
          exact jX.sub (jsb_c rfl jsb_n) (ct_X12_apart_r125_21 hD hQ  h J Sm)
        ·
          refine x_aloadn (x := 125) rfl rfl ?_
          refine x_iloadn (x := a2) rfl rfl ?_
          refine x_iconst (v := 3) rfl ki_3 ?_
          refine z_idiv rfl rfl jk_3 (by omega) (by omega) (fun v160 ev160 => ?_)
          refine x_inv (N := m_X12_isLine) (As := [.int v160]) (b := 125) (st := []) (dx9 := 2) (mc := 0) (ms := 0) (host := "") 12 rfl t_X12_isLine ⟨Or.inl q_12_293, i_X12_isLine.1, i_X12_isLine.2⟩ ⟨by decide, rfl⟩ (congrArg Prod.fst (J.1.1 125 (12, 92) rfl)) rfl (by decide) rfl rfl ⟨by decide, by decide⟩ (jC.of rfl k_X12_isLine rfl ?_)
          show jX m_X12_isLine 2 0 0 0 [(0, .ref 125), (1, .int v160)] [] _ 0 0 _
          refine x_iloadn (x := v160) rfl rfl ?_
          refine z_i2l rfl rfl (fun v161 ev161 => ?_)
          refine x_lconst (v := 0) rfl kl_0 ?_
          refine x_aloadn (x := 125) rfl rfl ?_
          refine z_getR (N := 92) (b := 126) 12 2 rfl f_12_8 rfl J rfl 16002 ⟨rfl, rfl⟩ rfl ?_
          refine x_iconst (v := 0) rfl ki_0 ?_
          refine z_ialdM (N := 50660) (v := v5) rfl J rfl jk_0 (by omega) qv5 ?_
          refine z_i2l rfl rfl (fun v162 ev162 => ?_)
          refine x_lconst (v := 1) rfl kl_1 ?_
          refine z_lsub rfl rfl jkl_1 (by omega) (fun v163 ev163 => ?_)
          refine x_inst (N := m_X12_in) (As := [.long v161, .long 0, .long v163]) (st := []) (dx9 := 1) (mc := 0) (ms := 0) (host := "") rfl t_X12_in ⟨Or.inl q_12_188, s_X12_in⟩ rfl (by decide) rfl rfl ⟨by decide, by decide⟩ (zc_X12_in rfl jkl_0 rfl (fun v164 ev164 => ?_))
          show jX m_X12_isLine 2 0 0 15 [(0, .ref 125), (1, .int v160)] [.int v164] _ 0 0 _
          refine x_zret rfl rfl (jz01 (by omega)) ?_
          show jX m_X12_isMention 3 0 0 11 [(0, .ref 125), (1, .int a2)] [.int v164] _ 0 0 _
          refine x_ifeq (tgt := 34) rfl rfl (ti_eq rfl jk_0 ⟨fun c165 => ?_, fun c165 => ?_⟩)
          ·
            refine x_iconst (v := 0) rfl ki_0 ?_
            refine x_zret rfl rfl (by decide) ?_
            show jX m_X12_apart 4 0 0 18 [(0, .ref 125), (1, .int a1), (2, .int a2)] [.int 0] _ 0 0 _
            refine x_ifne (tgt := 28) rfl rfl (ti_ne jk_0 jk_0 (bn_f (by omega) ?_))
            exact jX.sub (jsb_c rfl jsb_n) (ct_X12_apart_r125_21 hD hQ  h J Sm)
          ·
            refine x_iloadn (x := a2) rfl rfl ?_
            refine x_iconst (v := 3) rfl ki_3 ?_
            refine z_irem rfl rfl jk_3 (by omega) (by omega) (fun v166 ev166 => ?_)
            refine x_aloadn (x := 125) rfl rfl ?_
            refine x_iloadn (x := a2) rfl rfl ?_
            refine x_iconst (v := 3) rfl ki_3 ?_
            refine z_idiv rfl rfl jk_3 (by omega) (by omega) (fun v167 ev167 => ?_)
            refine x_inv (N := m_X12_bookOf) (As := [.int v167]) (b := 125) (st := [.int v166]) (dx9 := 2) (mc := 0) (ms := 0) (host := "") 12 rfl t_X12_bookOf ⟨Or.inl q_12_299, i_X12_bookOf.1, i_X12_bookOf.2⟩ ⟨by decide, rfl⟩ (congrArg Prod.fst (J.1.1 125 (12, 92) rfl)) rfl (by decide) rfl rfl ⟨by decide, by decide⟩ (jC.of rfl k_X12_bookOf rfl ?_)
            show jX m_X12_bookOf 2 0 0 0 [(0, .ref 125), (1, .int v167)] [] _ 0 0 _
            refine x_aloadn (x := 125) rfl rfl ?_
            refine z_getR (N := 92) (b := 126) 12 2 rfl f_12_8 rfl J rfl 16002 ⟨rfl, rfl⟩ rfl ?_
            refine x_aloadn (x := 125) rfl rfl ?_
            refine x_iloadn (x := v167) rfl rfl ?_
            refine x_inv (N := m_X12_at) (As := [.int v167]) (b := 125) (st := [.ref 126]) (dx9 := 1) (mc := 0) (ms := 0) (host := "") 12 rfl t_X12_at ⟨Or.inl q_12_254, i_X12_at.1, i_X12_at.2⟩ ⟨by decide, rfl⟩ (congrArg Prod.fst (J.1.1 125 (12, 92) rfl)) rfl (by decide) rfl rfl ⟨by decide, by decide⟩ (jC.of rfl k_X12_at rfl ?_)
            show jX m_X12_at 1 0 0 0 [(0, .ref 125), (1, .int v167)] [] _ 0 0 _
            refine x_bipush (v := 20) rfl kb_20 ?_
            refine x_bipush (v := 90) rfl kb_90 ?_
            refine x_iloadn (x := v167) rfl rfl ?_
            refine z_imul rfl jk_90 rfl (by omega) (fun v168 ev168 => ?_)
            refine z_iadd rfl jk_20 rfl (by omega) (fun v169 ev169 => ?_)
            refine x_iret rfl rfl ?_
            show jX m_X12_bookOf 2 0 0 9 [(0, .ref 125), (1, .int v167)] [.int v169, .ref 126] _ 0 0 _
            refine z_iald (N := 50660) rfl J rfl sg_126_20_18020_90_0_1 rfl (by omega) (fun v170 qv170 ev170 => ?_)
            refine x_iret rfl rfl ?_
            show jX m_X12_isMention 3 0 0 24 [(0, .ref 125), (1, .int a2)] [.int v170, .int v166] _ 0 0 _
            refine x_inst (N := m_X12_rolesOf) (As := [.int v170]) (st := [.int v166]) (dx9 := 2) (mc := 0) (ms := 0) (host := "") rfl t_X12_rolesOf ⟨Or.inl q_12_286, s_X12_rolesOf⟩ rfl (by decide) rfl rfl ⟨by decide, by decide⟩ (jC.of rfl k_X12_rolesOf rfl ?_)
            show jX m_X12_rolesOf 2 0 0 0 [(0, .int v170)] [] _ 0 0 _
            refine x_iloadn (x := v170) rfl rfl ?_
            refine x_ifne (tgt := 8) rfl rfl (ti_ne rfl jk_0 ⟨fun c171 => ?_, fun c171 => ?_⟩)
            ·
              refine x_iloadn (x := v170) rfl rfl ?_
              refine x_iconst (v := 1) rfl ki_1 ?_
              refine x_icne (tgt := 17) rfl rfl (ti_ne rfl jk_1 ⟨fun c172 => ?_, fun c172 => ?_⟩)
              ·
                refine x_iconst (v := 1) rfl ki_1 ?_
                refine x_iret rfl rfl ?_
                show jX m_X12_isMention 3 0 0 27 [(0, .ref 125), (1, .int a2)] [.int 1, .int v166] _ 0 0 _
                refine x_icge (tgt := 34) rfl rfl (ti_ge rfl jk_1 ⟨fun c173 => ?_, fun c173 => ?_⟩)
                ·
                  refine x_iconst (v := 0) rfl ki_0 ?_
                  refine x_zret rfl rfl (by decide) ?_
                  show jX m_X12_apart 4 0 0 18 [(0, .ref 125), (1, .int a1), (2, .int a2)] [.int 0] _ 0 0 _
                  refine x_ifne (tgt := 28) rfl rfl (ti_ne jk_0 jk_0 (bn_f (by omega) ?_))
                  exact jX.sub (jsb_c rfl jsb_n) (ct_X12_apart_r125_21 hD hQ  h J Sm)
                ·
                  refine x_iconst (v := 1) rfl ki_1 ?_
                  refine x_goto (tgt := 35) rfl rfl ?_
                  refine x_zret rfl rfl (by decide) ?_
                  show jX m_X12_apart 4 0 0 18 [(0, .ref 125), (1, .int a1), (2, .int a2)] [.int 1] _ 0 0 _
                  refine x_ifne (tgt := 28) rfl rfl (ti_ne jk_1 jk_0 (bn_t (by omega) ?_))
                  refine x_iloadn (x := a1) rfl rfl ?_
                  refine x_iloadn (x := a2) rfl rfl ?_
                  refine x_icne (tgt := 40) rfl rfl (ti_ne rfl rfl ⟨fun c174 => ?_, fun c174 => ?_⟩)
                  ·
                    refine x_aloadn (x := 125) rfl rfl ?_
                    refine z_getR (N := 92) (b := 126) 12 2 rfl f_12_8 rfl J rfl 16002 ⟨rfl, rfl⟩ rfl ?_
                    refine x_iconst (v := 1) rfl ki_1 ?_
                    refine z_iald (N := 50660) rfl J rfl sg_126_1_2_1_0_1 jk_1 (by omega) (fun v175 qv175 ev175 => ?_)
                    refine x_bipush (v := 60) rfl kb_60 ?_
                    refine x_icne (tgt := 58) rfl rfl (ti_ne rfl jk_60 ⟨fun c176 => ?_, fun c176 => ?_⟩)
                    ·
                      refine x_aloadn (x := 125) rfl rfl ?_
                      refine z_getR (N := 92) (b := 126) 12 2 rfl f_12_8 rfl J rfl 16002 ⟨rfl, rfl⟩ rfl ?_
                      refine x_sipush (v := 18020) rfl ks_18020 ?_
                      refine x_iconst (v := 2) rfl ki_2 ?_
                      refine x_aloadn (x := 125) rfl rfl ?_
                      refine z_getR (N := 92) (b := 126) 12 2 rfl f_12_8 rfl J rfl 16002 ⟨rfl, rfl⟩ rfl ?_
                      refine x_iconst (v := 1) rfl ki_1 ?_
                      refine z_ialdM (N := 50660) (v := v175) rfl J rfl jk_1 (by omega) qv175 ?_
                      refine z_imul rfl jk_2 rfl (by omega) (fun v177 ev177 => ?_)
                      refine z_iadd rfl jk_18020 rfl (by omega) (fun v178 ev178 => ?_)
                      refine x_iloadn (x := a1) rfl rfl ?_
                      refine z_iast (N := 50660) (l := 18020) (u := 18140) (w := a1.toInt) rfl hD J Sm rfl rfl rfl (by omega) rfl (wr_126_18020 (by omega) (fun q1 q2 q3 q4 => by omega) (fun q1 q2 q3 q4 => by omega)) rfl (fun h w179 J Sm => ?_)
                      refine x_aloadn (x := 125) rfl rfl ?_
                      refine z_getR (N := 92) (b := 126) 12 2 rfl f_12_8 rfl J rfl 16002 ⟨rfl, rfl⟩ rfl ?_
                      refine x_sipush (v := 18020) rfl ks_18020 ?_
                      refine x_iconst (v := 2) rfl ki_2 ?_
                      refine x_aloadn (x := 125) rfl rfl ?_
                      refine z_getR (N := 92) (b := 126) 12 2 rfl f_12_8 rfl J rfl 16002 ⟨rfl, rfl⟩ rfl ?_
                      refine x_iconst (v := 1) rfl ki_1 ?_
                      refine z_ialdM (N := 50660) (v := v175) rfl J rfl jk_1 (by omega) (jmo2 w179 rfl jk_1 (by omega) qv175) ?_
                      refine z_imul rfl jk_2 rfl (by omega) (fun v180 ev180 => ?_)
                      refine z_iadd rfl jk_18020 rfl (by omega) (fun v181 ev181 => ?_)
                      refine x_iconst (v := 1) rfl ki_1 ?_
                      refine z_iadd rfl rfl jk_1 (by omega) (fun v182 ev182 => ?_)
                      refine x_iloadn (x := a2) rfl rfl ?_
                      refine z_iast (N := 50660) (l := 18020) (u := 18140) (w := a2.toInt) rfl hD J Sm rfl rfl rfl (by omega) rfl (wr_126_18020 (by omega) (fun q1 q2 q3 q4 => by omega) (fun q1 q2 q3 q4 => by omega)) rfl (fun h w183 J Sm => ?_)
                      refine x_aloadn (x := 125) rfl rfl ?_
                      refine z_getR (N := 92) (b := 126) 12 2 rfl f_12_8 rfl J rfl 16002 ⟨rfl, rfl⟩ rfl ?_
                      refine x_iconst (v := 1) rfl ki_1 ?_
                      refine x_dup2 rfl rfl rfl ?_
                      refine z_ialdM (N := 50660) (v := v175) rfl J rfl jk_1 (by omega) (jmo2 w183 rfl jk_1 (by omega) (jmo2 w179 rfl jk_1 (by omega) qv175)) ?_
                      refine x_iconst (v := 1) rfl ki_1 ?_
                      refine z_iadd rfl rfl jk_1 (by omega) (fun v184 ev184 => ?_)
                      refine z_iast (N := 50660) (l := 1) (u := 2) (w := v184.toInt) rfl hD J Sm rfl rfl jk_1 (by omega) rfl (wr_126_1 (by omega) (fun q1 q2 q3 q4 => by omega)) rfl (fun h w185 J Sm => ?_)
                      refine x_aloadn (x := 125) rfl rfl ?_
                      refine x_iconst (v := 0) rfl ki_0 ?_
                      refine x_inv (N := m_X12_told) (As := [.int 0]) (b := 125) (st := []) (dx9 := 1) (mc := 0) (ms := 0) (host := "") 12 rfl t_X12_told ⟨Or.inl q_12_197, i_X12_told.1, i_X12_told.2⟩ ⟨by decide, rfl⟩ (congrArg Prod.fst (J.1.1 125 (12, 92) rfl)) rfl (by decide) rfl rfl ⟨by decide, by decide⟩ (sf_X12_told_r125  hD J  (fun v187 h J S186 => ?_))
                      have ev187 := jfull v187
                      have Sm := jSm_tr rfl Sm S186
                      show jX m_X12_apart 4 0 0 111 [(0, .ref 125), (1, .int a1), (2, .int a2)] [.int v187] _ 0 0 _
                      refine x_iret rfl rfl ?_
                      exact hQ _ _ J Sm
                    ·
                      refine x_aloadn (x := 125) rfl rfl ?_
                      refine x_bipush (v := (-5)) rfl kb_m5 ?_
                      refine x_inv (N := m_X12_told) (As := [.int (-5)]) (b := 125) (st := []) (dx9 := 1) (mc := 0) (ms := 0) (host := "") 12 rfl t_X12_told ⟨Or.inl q_12_197, i_X12_told.1, i_X12_told.2⟩ ⟨by decide, rfl⟩ (congrArg Prod.fst (J.1.1 125 (12, 92) rfl)) rfl (by decide) rfl rfl ⟨by decide, by decide⟩ (sf_X12_told_r125  hD J  (fun v189 h J S188 => ?_))
                      have ev189 := jfull v189
                      have Sm := jSm_tr rfl Sm S188
                      show jX m_X12_apart 4 0 0 57 [(0, .ref 125), (1, .int a1), (2, .int a2)] [.int v189] _ 0 0 _
                      refine x_iret rfl rfl ?_
                      exact hQ _ _ J Sm
                  ·
                    refine x_aloadn (x := 125) rfl rfl ?_
                    refine x_bipush (v := (-3)) rfl kb_m3 ?_
                    refine x_inv (N := m_X12_told) (As := [.int (-3)]) (b := 125) (st := []) (dx9 := 1) (mc := 0) (ms := 0) (host := "") 12 rfl t_X12_told ⟨Or.inl q_12_197, i_X12_told.1, i_X12_told.2⟩ ⟨by decide, rfl⟩ (congrArg Prod.fst (J.1.1 125 (12, 92) rfl)) rfl (by decide) rfl rfl ⟨by decide, by decide⟩ (sf_X12_told_r125  hD J  (fun v191 h J S190 => ?_))
                    have ev191 := jfull v191
                    have Sm := jSm_tr rfl Sm S190
                    show jX m_X12_apart 4 0 0 39 [(0, .ref 125), (1, .int a1), (2, .int a2)] [.int v191] _ 0 0 _
                    refine x_iret rfl rfl ?_
                    exact hQ _ _ J Sm
              ·
                refine x_iconst (v := 2) rfl ki_2 ?_
                refine x_goto (tgt := 18) rfl rfl ?_
                refine x_iret rfl rfl ?_
                show jX m_X12_isMention 3 0 0 27 [(0, .ref 125), (1, .int a2)] [.int 2, .int v166] _ 0 0 _
                refine x_icge (tgt := 34) rfl rfl (ti_ge rfl jk_2 ⟨fun c192 => ?_, fun c192 => ?_⟩)
                ·
                  refine x_iconst (v := 0) rfl ki_0 ?_
                  refine x_zret rfl rfl (by decide) ?_
                  show jX m_X12_apart 4 0 0 18 [(0, .ref 125), (1, .int a1), (2, .int a2)] [.int 0] _ 0 0 _
                  refine x_ifne (tgt := 28) rfl rfl (ti_ne jk_0 jk_0 (bn_f (by omega) ?_))
                  exact jX.sub (jsb_c rfl jsb_n) (ct_X12_apart_r125_21 hD hQ  h J Sm)
                ·
                  refine x_iconst (v := 1) rfl ki_1 ?_
                  refine x_goto (tgt := 35) rfl rfl ?_
                  refine x_zret rfl rfl (by decide) ?_
                  show jX m_X12_apart 4 0 0 18 [(0, .ref 125), (1, .int a1), (2, .int a2)] [.int 1] _ 0 0 _
                  refine x_ifne (tgt := 28) rfl rfl (ti_ne jk_1 jk_0 (bn_t (by omega) ?_))
                  refine x_iloadn (x := a1) rfl rfl ?_
                  refine x_iloadn (x := a2) rfl rfl ?_
                  refine x_icne (tgt := 40) rfl rfl (ti_ne rfl rfl ⟨fun c193 => ?_, fun c193 => ?_⟩)
                  ·
                    refine x_aloadn (x := 125) rfl rfl ?_
                    refine z_getR (N := 92) (b := 126) 12 2 rfl f_12_8 rfl J rfl 16002 ⟨rfl, rfl⟩ rfl ?_
                    refine x_iconst (v := 1) rfl ki_1 ?_
                    refine z_iald (N := 50660) rfl J rfl sg_126_1_2_1_0_1 jk_1 (by omega) (fun v194 qv194 ev194 => ?_)
                    refine x_bipush (v := 60) rfl kb_60 ?_
                    refine x_icne (tgt := 58) rfl rfl (ti_ne rfl jk_60 ⟨fun c195 => ?_, fun c195 => ?_⟩)
                    ·
                      refine x_aloadn (x := 125) rfl rfl ?_
                      refine z_getR (N := 92) (b := 126) 12 2 rfl f_12_8 rfl J rfl 16002 ⟨rfl, rfl⟩ rfl ?_
                      refine x_sipush (v := 18020) rfl ks_18020 ?_
                      refine x_iconst (v := 2) rfl ki_2 ?_
                      refine x_aloadn (x := 125) rfl rfl ?_
                      refine z_getR (N := 92) (b := 126) 12 2 rfl f_12_8 rfl J rfl 16002 ⟨rfl, rfl⟩ rfl ?_
                      refine x_iconst (v := 1) rfl ki_1 ?_
                      refine z_ialdM (N := 50660) (v := v194) rfl J rfl jk_1 (by omega) qv194 ?_
                      refine z_imul rfl jk_2 rfl (by omega) (fun v196 ev196 => ?_)
                      refine z_iadd rfl jk_18020 rfl (by omega) (fun v197 ev197 => ?_)
                      refine x_iloadn (x := a1) rfl rfl ?_
                      refine z_iast (N := 50660) (l := 18020) (u := 18140) (w := a1.toInt) rfl hD J Sm rfl rfl rfl (by omega) rfl (wr_126_18020 (by omega) (fun q1 q2 q3 q4 => by omega) (fun q1 q2 q3 q4 => by omega)) rfl (fun h w198 J Sm => ?_)
                      refine x_aloadn (x := 125) rfl rfl ?_
                      refine z_getR (N := 92) (b := 126) 12 2 rfl f_12_8 rfl J rfl 16002 ⟨rfl, rfl⟩ rfl ?_
                      refine x_sipush (v := 18020) rfl ks_18020 ?_
                      refine x_iconst (v := 2) rfl ki_2 ?_
                      refine x_aloadn (x := 125) rfl rfl ?_
                      refine z_getR (N := 92) (b := 126) 12 2 rfl f_12_8 rfl J rfl 16002 ⟨rfl, rfl⟩ rfl ?_
                      refine x_iconst (v := 1) rfl ki_1 ?_
                      refine z_ialdM (N := 50660) (v := v194) rfl J rfl jk_1 (by omega) (jmo2 w198 rfl jk_1 (by omega) qv194) ?_
                      refine z_imul rfl jk_2 rfl (by omega) (fun v199 ev199 => ?_)
                      refine z_iadd rfl jk_18020 rfl (by omega) (fun v200 ev200 => ?_)
                      refine x_iconst (v := 1) rfl ki_1 ?_
                      refine z_iadd rfl rfl jk_1 (by omega) (fun v201 ev201 => ?_)
                      refine x_iloadn (x := a2) rfl rfl ?_
                      refine z_iast (N := 50660) (l := 18020) (u := 18140) (w := a2.toInt) rfl hD J Sm rfl rfl rfl (by omega) rfl (wr_126_18020 (by omega) (fun q1 q2 q3 q4 => by omega) (fun q1 q2 q3 q4 => by omega)) rfl (fun h w202 J Sm => ?_)
                      refine x_aloadn (x := 125) rfl rfl ?_
                      refine z_getR (N := 92) (b := 126) 12 2 rfl f_12_8 rfl J rfl 16002 ⟨rfl, rfl⟩ rfl ?_
                      refine x_iconst (v := 1) rfl ki_1 ?_
                      refine x_dup2 rfl rfl rfl ?_
                      refine z_ialdM (N := 50660) (v := v194) rfl J rfl jk_1 (by omega) (jmo2 w202 rfl jk_1 (by omega) (jmo2 w198 rfl jk_1 (by omega) qv194)) ?_
                      refine x_iconst (v := 1) rfl ki_1 ?_
                      refine z_iadd rfl rfl jk_1 (by omega) (fun v203 ev203 => ?_)
                      refine z_iast (N := 50660) (l := 1) (u := 2) (w := v203.toInt) rfl hD J Sm rfl rfl jk_1 (by omega) rfl (wr_126_1 (by omega) (fun q1 q2 q3 q4 => by omega)) rfl (fun h w204 J Sm => ?_)
                      refine x_aloadn (x := 125) rfl rfl ?_
                      refine x_iconst (v := 0) rfl ki_0 ?_
                      refine x_inv (N := m_X12_told) (As := [.int 0]) (b := 125) (st := []) (dx9 := 1) (mc := 0) (ms := 0) (host := "") 12 rfl t_X12_told ⟨Or.inl q_12_197, i_X12_told.1, i_X12_told.2⟩ ⟨by decide, rfl⟩ (congrArg Prod.fst (J.1.1 125 (12, 92) rfl)) rfl (by decide) rfl rfl ⟨by decide, by decide⟩ (sf_X12_told_r125  hD J  (fun v206 h J S205 => ?_))
                      have ev206 := jfull v206
                      have Sm := jSm_tr rfl Sm S205
                      show jX m_X12_apart 4 0 0 111 [(0, .ref 125), (1, .int a1), (2, .int a2)] [.int v206] _ 0 0 _
                      refine x_iret rfl rfl ?_
                      exact hQ _ _ J Sm
                    ·
                      refine x_aloadn (x := 125) rfl rfl ?_
                      refine x_bipush (v := (-5)) rfl kb_m5 ?_
                      refine x_inv (N := m_X12_told) (As := [.int (-5)]) (b := 125) (st := []) (dx9 := 1) (mc := 0) (ms := 0) (host := "") 12 rfl t_X12_told ⟨Or.inl q_12_197, i_X12_told.1, i_X12_told.2⟩ ⟨by decide, rfl⟩ (congrArg Prod.fst (J.1.1 125 (12, 92) rfl)) rfl (by decide) rfl rfl ⟨by decide, by decide⟩ (sf_X12_told_r125  hD J  (fun v208 h J S207 => ?_))
                      have ev208 := jfull v208
                      have Sm := jSm_tr rfl Sm S207
                      show jX m_X12_apart 4 0 0 57 [(0, .ref 125), (1, .int a1), (2, .int a2)] [.int v208] _ 0 0 _
                      refine x_iret rfl rfl ?_
                      exact hQ _ _ J Sm
                  ·
                    refine x_aloadn (x := 125) rfl rfl ?_
                    refine x_bipush (v := (-3)) rfl kb_m3 ?_
                    refine x_inv (N := m_X12_told) (As := [.int (-3)]) (b := 125) (st := []) (dx9 := 1) (mc := 0) (ms := 0) (host := "") 12 rfl t_X12_told ⟨Or.inl q_12_197, i_X12_told.1, i_X12_told.2⟩ ⟨by decide, rfl⟩ (congrArg Prod.fst (J.1.1 125 (12, 92) rfl)) rfl (by decide) rfl rfl ⟨by decide, by decide⟩ (sf_X12_told_r125  hD J  (fun v210 h J S209 => ?_))
                    have ev210 := jfull v210
                    have Sm := jSm_tr rfl Sm S209
                    show jX m_X12_apart 4 0 0 39 [(0, .ref 125), (1, .int a1), (2, .int a2)] [.int v210] _ 0 0 _
                    refine x_iret rfl rfl ?_
                    exact hQ _ _ J Sm
            ·
              refine x_iconst (v := 3) rfl ki_3 ?_
              refine x_goto (tgt := 18) rfl rfl ?_
              refine x_iret rfl rfl ?_
              show jX m_X12_isMention 3 0 0 27 [(0, .ref 125), (1, .int a2)] [.int 3, .int v166] _ 0 0 _
              refine x_icge (tgt := 34) rfl rfl (ti_ge rfl jk_3 (br_f (by omega) ?_))
              refine x_iconst (v := 1) rfl ki_1 ?_
              refine x_goto (tgt := 35) rfl rfl ?_
              refine x_zret rfl rfl (by decide) ?_
              show jX m_X12_apart 4 0 0 18 [(0, .ref 125), (1, .int a1), (2, .int a2)] [.int 1] _ 0 0 _
              refine x_ifne (tgt := 28) rfl rfl (ti_ne jk_1 jk_0 (bn_t (by omega) ?_))
              refine x_iloadn (x := a1) rfl rfl ?_
              refine x_iloadn (x := a2) rfl rfl ?_
              refine x_icne (tgt := 40) rfl rfl (ti_ne rfl rfl ⟨fun c211 => ?_, fun c211 => ?_⟩)
              ·
                refine x_aloadn (x := 125) rfl rfl ?_
                refine z_getR (N := 92) (b := 126) 12 2 rfl f_12_8 rfl J rfl 16002 ⟨rfl, rfl⟩ rfl ?_
                refine x_iconst (v := 1) rfl ki_1 ?_
                refine z_iald (N := 50660) rfl J rfl sg_126_1_2_1_0_1 jk_1 (by omega) (fun v212 qv212 ev212 => ?_)
                refine x_bipush (v := 60) rfl kb_60 ?_
                refine x_icne (tgt := 58) rfl rfl (ti_ne rfl jk_60 ⟨fun c213 => ?_, fun c213 => ?_⟩)
                ·
                  refine x_aloadn (x := 125) rfl rfl ?_
                  refine z_getR (N := 92) (b := 126) 12 2 rfl f_12_8 rfl J rfl 16002 ⟨rfl, rfl⟩ rfl ?_
                  refine x_sipush (v := 18020) rfl ks_18020 ?_
                  refine x_iconst (v := 2) rfl ki_2 ?_
                  refine x_aloadn (x := 125) rfl rfl ?_
                  refine z_getR (N := 92) (b := 126) 12 2 rfl f_12_8 rfl J rfl 16002 ⟨rfl, rfl⟩ rfl ?_
                  refine x_iconst (v := 1) rfl ki_1 ?_
                  refine z_ialdM (N := 50660) (v := v212) rfl J rfl jk_1 (by omega) qv212 ?_
                  refine z_imul rfl jk_2 rfl (by omega) (fun v214 ev214 => ?_)
                  refine z_iadd rfl jk_18020 rfl (by omega) (fun v215 ev215 => ?_)
                  refine x_iloadn (x := a1) rfl rfl ?_
                  refine z_iast (N := 50660) (l := 18020) (u := 18140) (w := a1.toInt) rfl hD J Sm rfl rfl rfl (by omega) rfl (wr_126_18020 (by omega) (fun q1 q2 q3 q4 => by omega) (fun q1 q2 q3 q4 => by omega)) rfl (fun h w216 J Sm => ?_)
                  refine x_aloadn (x := 125) rfl rfl ?_
                  refine z_getR (N := 92) (b := 126) 12 2 rfl f_12_8 rfl J rfl 16002 ⟨rfl, rfl⟩ rfl ?_
                  refine x_sipush (v := 18020) rfl ks_18020 ?_
                  refine x_iconst (v := 2) rfl ki_2 ?_
                  refine x_aloadn (x := 125) rfl rfl ?_
                  refine z_getR (N := 92) (b := 126) 12 2 rfl f_12_8 rfl J rfl 16002 ⟨rfl, rfl⟩ rfl ?_
                  refine x_iconst (v := 1) rfl ki_1 ?_
                  refine z_ialdM (N := 50660) (v := v212) rfl J rfl jk_1 (by omega) (jmo2 w216 rfl jk_1 (by omega) qv212) ?_
                  refine z_imul rfl jk_2 rfl (by omega) (fun v217 ev217 => ?_)
                  refine z_iadd rfl jk_18020 rfl (by omega) (fun v218 ev218 => ?_)
                  refine x_iconst (v := 1) rfl ki_1 ?_
                  refine z_iadd rfl rfl jk_1 (by omega) (fun v219 ev219 => ?_)
                  refine x_iloadn (x := a2) rfl rfl ?_
                  refine z_iast (N := 50660) (l := 18020) (u := 18140) (w := a2.toInt) rfl hD J Sm rfl rfl rfl (by omega) rfl (wr_126_18020 (by omega) (fun q1 q2 q3 q4 => by omega) (fun q1 q2 q3 q4 => by omega)) rfl (fun h w220 J Sm => ?_)
                  refine x_aloadn (x := 125) rfl rfl ?_
                  refine z_getR (N := 92) (b := 126) 12 2 rfl f_12_8 rfl J rfl 16002 ⟨rfl, rfl⟩ rfl ?_
                  refine x_iconst (v := 1) rfl ki_1 ?_
                  refine x_dup2 rfl rfl rfl ?_
                  refine z_ialdM (N := 50660) (v := v212) rfl J rfl jk_1 (by omega) (jmo2 w220 rfl jk_1 (by omega) (jmo2 w216 rfl jk_1 (by omega) qv212)) ?_
                  refine x_iconst (v := 1) rfl ki_1 ?_
                  refine z_iadd rfl rfl jk_1 (by omega) (fun v221 ev221 => ?_)
                  refine z_iast (N := 50660) (l := 1) (u := 2) (w := v221.toInt) rfl hD J Sm rfl rfl jk_1 (by omega) rfl (wr_126_1 (by omega) (fun q1 q2 q3 q4 => by omega)) rfl (fun h w222 J Sm => ?_)
                  refine x_aloadn (x := 125) rfl rfl ?_
                  refine x_iconst (v := 0) rfl ki_0 ?_
                  refine x_inv (N := m_X12_told) (As := [.int 0]) (b := 125) (st := []) (dx9 := 1) (mc := 0) (ms := 0) (host := "") 12 rfl t_X12_told ⟨Or.inl q_12_197, i_X12_told.1, i_X12_told.2⟩ ⟨by decide, rfl⟩ (congrArg Prod.fst (J.1.1 125 (12, 92) rfl)) rfl (by decide) rfl rfl ⟨by decide, by decide⟩ (sf_X12_told_r125  hD J  (fun v224 h J S223 => ?_))
                  have ev224 := jfull v224
                  have Sm := jSm_tr rfl Sm S223
                  show jX m_X12_apart 4 0 0 111 [(0, .ref 125), (1, .int a1), (2, .int a2)] [.int v224] _ 0 0 _
                  refine x_iret rfl rfl ?_
                  exact hQ _ _ J Sm
                ·
                  refine x_aloadn (x := 125) rfl rfl ?_
                  refine x_bipush (v := (-5)) rfl kb_m5 ?_
                  refine x_inv (N := m_X12_told) (As := [.int (-5)]) (b := 125) (st := []) (dx9 := 1) (mc := 0) (ms := 0) (host := "") 12 rfl t_X12_told ⟨Or.inl q_12_197, i_X12_told.1, i_X12_told.2⟩ ⟨by decide, rfl⟩ (congrArg Prod.fst (J.1.1 125 (12, 92) rfl)) rfl (by decide) rfl rfl ⟨by decide, by decide⟩ (sf_X12_told_r125  hD J  (fun v226 h J S225 => ?_))
                  have ev226 := jfull v226
                  have Sm := jSm_tr rfl Sm S225
                  show jX m_X12_apart 4 0 0 57 [(0, .ref 125), (1, .int a1), (2, .int a2)] [.int v226] _ 0 0 _
                  refine x_iret rfl rfl ?_
                  exact hQ _ _ J Sm
              ·
                refine x_aloadn (x := 125) rfl rfl ?_
                refine x_bipush (v := (-3)) rfl kb_m3 ?_
                refine x_inv (N := m_X12_told) (As := [.int (-3)]) (b := 125) (st := []) (dx9 := 1) (mc := 0) (ms := 0) (host := "") 12 rfl t_X12_told ⟨Or.inl q_12_197, i_X12_told.1, i_X12_told.2⟩ ⟨by decide, rfl⟩ (congrArg Prod.fst (J.1.1 125 (12, 92) rfl)) rfl (by decide) rfl rfl ⟨by decide, by decide⟩ (sf_X12_told_r125  hD J  (fun v228 h J S227 => ?_))
                have ev228 := jfull v228
                have Sm := jSm_tr rfl Sm S227
                show jX m_X12_apart 4 0 0 39 [(0, .ref 125), (1, .int a1), (2, .int a2)] [.int v228] _ 0 0 _
                refine x_iret rfl rfl ?_
                exact hQ _ _ J Sm
def fp_X12_appeal_r125 : jFp := [(125, 0, 1), (125, 1, 2), (126, 6, 7), (126, 47140, 47260)]
set_option maxRecDepth 100000 in
set_option maxHeartbeats 4000000 in
theorem ct_X12_appeal_r125_19 {Dy : jH → Prop} {h0 : jH} {Q : Option Value → jH → Prop} (hD : jDk Dy) (hQ : ∀ (v : Int32) hx9, jJ jSgM Dy hx9 → jSm fp_X12_appeal_r125 h0 hx9 → Q (some (.int v)) hx9) : ∀ (h : jH), jJ jSgM Dy h → jSm fp_X12_appeal_r125 h0 h → jX m_X12_appeal 3 0 0 19 [(0, .ref 125)] [] h 0 0 Q := by
  intro  h    J Sm
  refine x_aloadn (x := 125) rfl rfl ?_
  refine x_iconst (v := (-1)) rfl ki_m1 ?_
  refine x_inv (N := m_X12_told) (As := [.int (-1)]) (b := 125) (st := []) (dx9 := 1) (mc := 0) (ms := 0) (host := "") 12 rfl t_X12_told ⟨Or.inl q_12_197, i_X12_told.1, i_X12_told.2⟩ ⟨by decide, rfl⟩ (congrArg Prod.fst (J.1.1 125 (12, 92) rfl)) rfl (by decide) rfl rfl ⟨by decide, by decide⟩ (sf_X12_told_r125  hD J  (fun v2 h J S1 => ?_))
  have ev2 := jfull v2
  have Sm := jSm_tr rfl Sm S1
  show jX m_X12_appeal 3 0 0 24 [(0, .ref 125)] [.int v2] _ 0 0 _
  refine x_iret rfl rfl ?_
  exact hQ _ _ J Sm
set_option maxRecDepth 100000 in
set_option maxHeartbeats 4000000 in
theorem ct_X12_appeal_r125_42 {Dy : jH → Prop} {h0 : jH} {Q : Option Value → jH → Prop} (hD : jDk Dy) (hQ : ∀ (v : Int32) hx9, jJ jSgM Dy hx9 → jSm fp_X12_appeal_r125 h0 hx9 → Q (some (.int v)) hx9) : ∀ (h : jH), jJ jSgM Dy h → jSm fp_X12_appeal_r125 h0 h → jX m_X12_appeal 3 0 0 42 [(0, .ref 125)] [] h 0 0 Q := by
  intro  h    J Sm
  refine x_aloadn (x := 125) rfl rfl ?_
  refine x_bipush (v := (-2)) rfl kb_m2 ?_
  refine x_inv (N := m_X12_told) (As := [.int (-2)]) (b := 125) (st := []) (dx9 := 1) (mc := 0) (ms := 0) (host := "") 12 rfl t_X12_told ⟨Or.inl q_12_197, i_X12_told.1, i_X12_told.2⟩ ⟨by decide, rfl⟩ (congrArg Prod.fst (J.1.1 125 (12, 92) rfl)) rfl (by decide) rfl rfl ⟨by decide, by decide⟩ (sf_X12_told_r125  hD J  (fun v2 h J S1 => ?_))
  have ev2 := jfull v2
  have Sm := jSm_tr rfl Sm S1
  show jX m_X12_appeal 3 0 0 48 [(0, .ref 125)] [.int v2] _ 0 0 _
  refine x_iret rfl rfl ?_
  exact hQ _ _ J Sm
set_option maxRecDepth 100000 in
set_option maxHeartbeats 4000000 in
theorem sf_X12_appeal_r125 {Dy : jH → Prop} {h : jH} {Q : Option Value → jH → Prop} {a1 : Int32} {a2 : Int32} {a3 : Int32} (hD : jDk Dy) (J : jJ jSgM Dy h) (hQ : ∀ (v : Int32) hx9, jJ jSgM Dy hx9 → jSm fp_X12_appeal_r125 h hx9 → Q (some (.int v)) hx9) : jC m_X12_appeal 3 0 0 [.ref 125, .int a1, .int a2, .int a3] h Q := by
  refine jC.of rfl k_X12_appeal rfl ?_
  have Sm := jSm_rf fp_X12_appeal_r125 h
  have ea1 := jfull a1
  have ea2 := jfull a2
  have ea3 := jfull a3
  show jX m_X12_appeal 3 0 0 0 [(0, .ref 125), (1, .int a1), (2, .int a2), (3, .int a3)] [] _ 0 0 _
  refine x_aloadn (x := 125) rfl rfl ?_
  refine x_iconst (v := 0) rfl ki_0 ?_
  refine z_putI (N := 92) (w := 0) 12 0 rfl f_12_180 rfl (jfin_no TX12 RX12 92 rfl rfl) hD J Sm rfl rfl jk_0 (pw_125_0 (by omega)) rfl (fun h w1 J Sm => ?_)
  refine x_iloadn (x := a2) rfl rfl ?_
  refine x_inst (N := m_X12_isDay) (As := [.int a2]) (st := []) (dx9 := 2) (mc := 0) (ms := 0) (host := "") rfl t_X12_isDay ⟨Or.inl q_12_273, s_X12_isDay⟩ rfl (by decide) rfl rfl ⟨by decide, by decide⟩ (zc_X12_isDay (d := 1) rfl (fun v2 ev2 => ?_))
  show jX m_X12_appeal 3 0 0 9 [(0, .ref 125), (1, .int a1), (2, .int a2), (3, .int a3)] [.int v2] _ 0 0 _
  refine x_ifeq (tgt := 19) rfl rfl (ti_eq rfl jk_0 ⟨fun c3 => ?_, fun c3 => ?_⟩)
  ·
    exact jX.sub (jsb_c rfl jsb_n) (ct_X12_appeal_r125_19 hD hQ  h J Sm)
  ·
    refine x_iloadn (x := a3) rfl rfl ?_
    refine x_inst (N := m_X12_isDay) (As := [.int a3]) (st := []) (dx9 := 2) (mc := 0) (ms := 0) (host := "") rfl t_X12_isDay ⟨Or.inl q_12_273, s_X12_isDay⟩ rfl (by decide) rfl rfl ⟨by decide, by decide⟩ (zc_X12_isDay (d := 1) rfl (fun v4 ev4 => ?_))
    show jX m_X12_appeal 3 0 0 16 [(0, .ref 125), (1, .int a1), (2, .int a2), (3, .int a3)] [.int v4] _ 0 0 _
    refine x_ifne (tgt := 25) rfl rfl (ti_ne rfl jk_0 ⟨fun c5 => ?_, fun c5 => ?_⟩)
    ·
      refine x_aloadn (x := 125) rfl rfl ?_
      refine x_iloadn (x := a1) rfl rfl ?_
      refine x_inv (N := m_X12_isLine) (As := [.int a1]) (b := 125) (st := []) (dx9 := 2) (mc := 0) (ms := 0) (host := "") 12 rfl t_X12_isLine ⟨Or.inl q_12_293, i_X12_isLine.1, i_X12_isLine.2⟩ ⟨by decide, rfl⟩ (congrArg Prod.fst (J.1.1 125 (12, 92) rfl)) rfl (by decide) rfl rfl ⟨by decide, by decide⟩ (jC.of rfl k_X12_isLine rfl ?_)
      show jX m_X12_isLine 2 0 0 0 [(0, .ref 125), (1, .int a1)] [] _ 0 0 _
      refine x_iloadn (x := a1) rfl rfl ?_
      refine z_i2l rfl rfl (fun v6 ev6 => ?_)
      refine x_lconst (v := 0) rfl kl_0 ?_
      refine x_aloadn (x := 125) rfl rfl ?_
      refine z_getR (N := 92) (b := 126) 12 2 rfl f_12_8 rfl J rfl 16002 ⟨rfl, rfl⟩ rfl ?_
      refine x_iconst (v := 0) rfl ki_0 ?_
      refine z_iald (N := 50660) rfl J rfl sg_126_0_1_1_0_1 jk_0 (by omega) (fun v7 qv7 ev7 => ?_)
      refine z_i2l rfl rfl (fun v8 ev8 => ?_)
      refine x_lconst (v := 1) rfl kl_1 ?_
      refine z_lsub rfl rfl jkl_1 (by omega) (fun v9 ev9 => ?_)
      refine x_inst (N := m_X12_in) (As := [.long v6, .long 0, .long v9]) (st := []) (dx9 := 1) (mc := 0) (ms := 0) (host := "") rfl t_X12_in ⟨Or.inl q_12_188, s_X12_in⟩ rfl (by decide) rfl rfl ⟨by decide, by decide⟩ (zc_X12_in rfl jkl_0 rfl (fun v10 ev10 => ?_))
      show jX m_X12_isLine 2 0 0 15 [(0, .ref 125), (1, .int a1)] [.int v10] _ 0 0 _
      refine x_zret rfl rfl (jz01 (by omega)) ?_
      show jX m_X12_appeal 3 0 0 30 [(0, .ref 125), (1, .int a1), (2, .int a2), (3, .int a3)] [.int v10] _ 0 0 _
      refine x_ifeq (tgt := 42) rfl rfl (ti_eq rfl jk_0 ⟨fun c11 => ?_, fun c11 => ?_⟩)
      ·
        exact jX.sub (jsb_c rfl jsb_n) (ct_X12_appeal_r125_42 hD hQ  h J Sm)
      ·
        refine x_aloadn (x := 125) rfl rfl ?_
        refine x_iloadn (x := a1) rfl rfl ?_
        refine x_inv (N := m_X12_bookOf) (As := [.int a1]) (b := 125) (st := []) (dx9 := 2) (mc := 0) (ms := 0) (host := "") 12 rfl t_X12_bookOf ⟨Or.inl q_12_299, i_X12_bookOf.1, i_X12_bookOf.2⟩ ⟨by decide, rfl⟩ (congrArg Prod.fst (J.1.1 125 (12, 92) rfl)) rfl (by decide) rfl rfl ⟨by decide, by decide⟩ (jC.of rfl k_X12_bookOf rfl ?_)
        show jX m_X12_bookOf 2 0 0 0 [(0, .ref 125), (1, .int a1)] [] _ 0 0 _
        refine x_aloadn (x := 125) rfl rfl ?_
        refine z_getR (N := 92) (b := 126) 12 2 rfl f_12_8 rfl J rfl 16002 ⟨rfl, rfl⟩ rfl ?_
        refine x_aloadn (x := 125) rfl rfl ?_
        refine x_iloadn (x := a1) rfl rfl ?_
        refine x_inv (N := m_X12_at) (As := [.int a1]) (b := 125) (st := [.ref 126]) (dx9 := 1) (mc := 0) (ms := 0) (host := "") 12 rfl t_X12_at ⟨Or.inl q_12_254, i_X12_at.1, i_X12_at.2⟩ ⟨by decide, rfl⟩ (congrArg Prod.fst (J.1.1 125 (12, 92) rfl)) rfl (by decide) rfl rfl ⟨by decide, by decide⟩ (jC.of rfl k_X12_at rfl ?_)
        show jX m_X12_at 1 0 0 0 [(0, .ref 125), (1, .int a1)] [] _ 0 0 _
        refine x_bipush (v := 20) rfl kb_20 ?_
        refine x_bipush (v := 90) rfl kb_90 ?_
        refine x_iloadn (x := a1) rfl rfl ?_
        refine z_imul rfl jk_90 rfl (by omega) (fun v12 ev12 => ?_)
        refine z_iadd rfl jk_20 rfl (by omega) (fun v13 ev13 => ?_)
        refine x_iret rfl rfl ?_
        show jX m_X12_bookOf 2 0 0 9 [(0, .ref 125), (1, .int a1)] [.int v13, .ref 126] _ 0 0 _
        refine z_iald (N := 50660) rfl J rfl sg_126_20_18020_90_0_1 rfl (by omega) (fun v14 qv14 ev14 => ?_)
        refine x_iret rfl rfl ?_
        show jX m_X12_appeal 3 0 0 38 [(0, .ref 125), (1, .int a1), (2, .int a2), (3, .int a3)] [.int v14] _ 0 0 _
        refine x_iconst (v := 5) rfl ki_5 ?_
        refine x_iceq (tgt := 49) rfl rfl (ti_eq rfl jk_5 ⟨fun c15 => ?_, fun c15 => ?_⟩)
        ·
          refine x_iloadn (x := a2) rfl rfl ?_
          refine x_aloadn (x := 125) rfl rfl ?_
          refine x_iloadn (x := a1) rfl rfl ?_
          refine x_inv (N := m_X12_dayOf) (As := [.int a1]) (b := 125) (st := [.int a2]) (dx9 := 2) (mc := 0) (ms := 0) (host := "") 12 rfl t_X12_dayOf ⟨Or.inl q_12_335, i_X12_dayOf.1, i_X12_dayOf.2⟩ ⟨by decide, rfl⟩ (congrArg Prod.fst (J.1.1 125 (12, 92) rfl)) rfl (by decide) rfl rfl ⟨by decide, by decide⟩ (jC.of rfl k_X12_dayOf rfl ?_)
          show jX m_X12_dayOf 2 0 0 0 [(0, .ref 125), (1, .int a1)] [] _ 0 0 _
          refine x_aloadn (x := 125) rfl rfl ?_
          refine z_getR (N := 92) (b := 126) 12 2 rfl f_12_8 rfl J rfl 16002 ⟨rfl, rfl⟩ rfl ?_
          refine x_aloadn (x := 125) rfl rfl ?_
          refine x_iloadn (x := a1) rfl rfl ?_
          refine x_inv (N := m_X12_at) (As := [.int a1]) (b := 125) (st := [.ref 126]) (dx9 := 1) (mc := 0) (ms := 0) (host := "") 12 rfl t_X12_at ⟨Or.inl q_12_254, i_X12_at.1, i_X12_at.2⟩ ⟨by decide, rfl⟩ (congrArg Prod.fst (J.1.1 125 (12, 92) rfl)) rfl (by decide) rfl rfl ⟨by decide, by decide⟩ (jC.of rfl k_X12_at rfl ?_)
          show jX m_X12_at 1 0 0 0 [(0, .ref 125), (1, .int a1)] [] _ 0 0 _
          refine x_bipush (v := 20) rfl kb_20 ?_
          refine x_bipush (v := 90) rfl kb_90 ?_
          refine x_iloadn (x := a1) rfl rfl ?_
          refine z_imul rfl jk_90 rfl (by omega) (fun v16 ev16 => ?_)
          refine z_iadd rfl jk_20 rfl (by omega) (fun v17 ev17 => ?_)
          refine x_iret rfl rfl ?_
          show jX m_X12_dayOf 2 0 0 9 [(0, .ref 125), (1, .int a1)] [.int v17, .ref 126] _ 0 0 _
          refine x_iconst (v := 2) rfl ki_2 ?_
          refine z_iadd rfl rfl jk_2 (by omega) (fun v18 ev18 => ?_)
          refine z_iald (N := 50660) rfl J rfl sg_126_20_18020_90_2_3 rfl (by omega) (fun v19 qv19 ev19 => ?_)
          refine x_iret rfl rfl ?_
          show jX m_X12_appeal 3 0 0 55 [(0, .ref 125), (1, .int a1), (2, .int a2), (3, .int a3)] [.int v19, .int a2] _ 0 0 _
          refine x_icge (tgt := 64) rfl rfl (ti_ge rfl rfl ⟨fun c20 => ?_, fun c20 => ?_⟩)
          ·
            refine x_aloadn (x := 125) rfl rfl ?_
            refine z_getR (N := 92) (b := 126) 12 2 rfl f_12_8 rfl J rfl 16002 ⟨rfl, rfl⟩ rfl ?_
            refine x_bipush (v := 6) rfl kb_6 ?_
            refine z_iald (N := 50660) rfl J rfl sg_126_6_7_1_0_1 jk_6 (by omega) (fun v21 qv21 ev21 => ?_)
            refine x_bipush (v := 40) rfl kb_40 ?_
            refine x_icne (tgt := 83) rfl rfl (ti_ne rfl jk_40 ⟨fun c22 => ?_, fun c22 => ?_⟩)
            ·
              refine x_ldcw (v := 47140) rfl z_12_795 ?_
              refine x_iconst (v := 3) rfl ki_3 ?_
              refine x_aloadn (x := 125) rfl rfl ?_
              refine z_getR (N := 92) (b := 126) 12 2 rfl f_12_8 rfl J rfl 16002 ⟨rfl, rfl⟩ rfl ?_
              refine x_bipush (v := 6) rfl kb_6 ?_
              refine z_ialdM (N := 50660) (v := v21) rfl J rfl jk_6 (by omega) qv21 ?_
              refine z_imul rfl jk_3 rfl (by omega) (fun v23 ev23 => ?_)
              refine z_iadd rfl jk_47140 rfl (by omega) (fun v24 ev24 => ?_)
              refine x_istore (lsx9 := [(4, .int v24), (0, .ref 125), (1, .int a1), (2, .int a2), (3, .int a3)]) rfl rfl rfl ?_
              refine x_aloadn (x := 125) rfl rfl ?_
              refine z_getR (N := 92) (b := 126) 12 2 rfl f_12_8 rfl J rfl 16002 ⟨rfl, rfl⟩ rfl ?_
              refine x_iload (x := v24) rfl rfl ?_
              refine x_iloadn (x := a1) rfl rfl ?_
              refine z_iast (N := 50660) (l := 47140) (u := 47260) (w := a1.toInt) rfl hD J Sm rfl rfl rfl (by omega) rfl (wr_126_47140 (by omega) (fun q1 q2 q3 q4 => by omega) (fun q1 q2 q3 q4 => by omega) (fun q1 q2 q3 q4 => by omega)) rfl (fun h w25 J Sm => ?_)
              refine x_aloadn (x := 125) rfl rfl ?_
              refine z_getR (N := 92) (b := 126) 12 2 rfl f_12_8 rfl J rfl 16002 ⟨rfl, rfl⟩ rfl ?_
              refine x_iload (x := v24) rfl rfl ?_
              refine x_iconst (v := 1) rfl ki_1 ?_
              refine z_iadd rfl rfl jk_1 (by omega) (fun v26 ev26 => ?_)
              refine x_iloadn (x := a2) rfl rfl ?_
              refine z_iast (N := 50660) (l := 47140) (u := 47260) (w := a2.toInt) rfl hD J Sm rfl rfl rfl (by omega) rfl (wr_126_47140 (by omega) (fun q1 q2 q3 q4 => by omega) (fun q1 q2 q3 q4 => by omega) (fun q1 q2 q3 q4 => by omega)) rfl (fun h w27 J Sm => ?_)
              refine x_aloadn (x := 125) rfl rfl ?_
              refine z_getR (N := 92) (b := 126) 12 2 rfl f_12_8 rfl J rfl 16002 ⟨rfl, rfl⟩ rfl ?_
              refine x_iload (x := v24) rfl rfl ?_
              refine x_iconst (v := 2) rfl ki_2 ?_
              refine z_iadd rfl rfl jk_2 (by omega) (fun v28 ev28 => ?_)
              refine x_iloadn (x := a3) rfl rfl ?_
              refine z_iast (N := 50660) (l := 47140) (u := 47260) (w := a3.toInt) rfl hD J Sm rfl rfl rfl (by omega) rfl (wr_126_47140 (by omega) (fun q1 q2 q3 q4 => by omega) (fun q1 q2 q3 q4 => by omega) (fun q1 q2 q3 q4 => by omega)) rfl (fun h w29 J Sm => ?_)
              refine x_aloadn (x := 125) rfl rfl ?_
              refine z_getR (N := 92) (b := 126) 12 2 rfl f_12_8 rfl J rfl 16002 ⟨rfl, rfl⟩ rfl ?_
              refine x_bipush (v := 6) rfl kb_6 ?_
              refine x_dup2 rfl rfl rfl ?_
              refine z_ialdM (N := 50660) (v := v21) rfl J rfl jk_6 (by omega) (jmo2 w29 rfl jk_6 (by omega) (jmo2 w27 rfl jk_6 (by omega) (jmo2 w25 rfl jk_6 (by omega) qv21))) ?_
              refine x_iconst (v := 1) rfl ki_1 ?_
              refine z_iadd rfl rfl jk_1 (by omega) (fun v30 ev30 => ?_)
              refine z_iast (N := 50660) (l := 6) (u := 7) (w := v30.toInt) rfl hD J Sm rfl rfl jk_6 (by omega) rfl (wr_126_6 (by omega) (fun q1 q2 q3 q4 => by omega)) rfl (fun h w31 J Sm => ?_)
              refine x_aloadn (x := 125) rfl rfl ?_
              refine x_aloadn (x := 125) rfl rfl ?_
              refine z_getR (N := 92) (b := 126) 12 2 rfl f_12_8 rfl J rfl 16002 ⟨rfl, rfl⟩ rfl ?_
              refine x_bipush (v := 6) rfl kb_6 ?_
              refine z_ialdM (N := 50660) (v := v30) rfl J rfl jk_6 (by omega) (jmw w31) ?_
              refine x_inv (N := m_X12_told) (As := [.int v30]) (b := 125) (st := []) (dx9 := 1) (mc := 0) (ms := 0) (host := "") 12 rfl t_X12_told ⟨Or.inl q_12_197, i_X12_told.1, i_X12_told.2⟩ ⟨by decide, rfl⟩ (congrArg Prod.fst (J.1.1 125 (12, 92) rfl)) rfl (by decide) rfl rfl ⟨by decide, by decide⟩ (sf_X12_told_r125  hD J  (fun v33 h J S32 => ?_))
              have ev33 := jfull v33
              have Sm := jSm_tr rfl Sm S32
              show jX m_X12_appeal 3 0 0 148 [(4, .int v24), (0, .ref 125), (1, .int a1), (2, .int a2), (3, .int a3)] [.int v33] _ 0 0 _
              refine x_iret rfl rfl ?_
              exact hQ _ _ J Sm
            ·
              refine x_aloadn (x := 125) rfl rfl ?_
              refine x_bipush (v := (-5)) rfl kb_m5 ?_
              refine x_inv (N := m_X12_told) (As := [.int (-5)]) (b := 125) (st := []) (dx9 := 1) (mc := 0) (ms := 0) (host := "") 12 rfl t_X12_told ⟨Or.inl q_12_197, i_X12_told.1, i_X12_told.2⟩ ⟨by decide, rfl⟩ (congrArg Prod.fst (J.1.1 125 (12, 92) rfl)) rfl (by decide) rfl rfl ⟨by decide, by decide⟩ (sf_X12_told_r125  hD J  (fun v35 h J S34 => ?_))
              have ev35 := jfull v35
              have Sm := jSm_tr rfl Sm S34
              show jX m_X12_appeal 3 0 0 82 [(0, .ref 125), (1, .int a1), (2, .int a2), (3, .int a3)] [.int v35] _ 0 0 _
              refine x_iret rfl rfl ?_
              exact hQ _ _ J Sm
          ·
            refine x_aloadn (x := 125) rfl rfl ?_
            refine x_iconst (v := (-1)) rfl ki_m1 ?_
            refine x_inv (N := m_X12_told) (As := [.int (-1)]) (b := 125) (st := []) (dx9 := 1) (mc := 0) (ms := 0) (host := "") 12 rfl t_X12_told ⟨Or.inl q_12_197, i_X12_told.1, i_X12_told.2⟩ ⟨by decide, rfl⟩ (congrArg Prod.fst (J.1.1 125 (12, 92) rfl)) rfl (by decide) rfl rfl ⟨by decide, by decide⟩ (sf_X12_told_r125  hD J  (fun v37 h J S36 => ?_))
            have ev37 := jfull v37
            have Sm := jSm_tr rfl Sm S36
            show jX m_X12_appeal 3 0 0 63 [(0, .ref 125), (1, .int a1), (2, .int a2), (3, .int a3)] [.int v37] _ 0 0 _
            refine x_iret rfl rfl ?_
            exact hQ _ _ J Sm
        ·
          exact jX.sub (jsb_c rfl jsb_n) (ct_X12_appeal_r125_42 hD hQ  h J Sm)
    ·
      exact jX.sub (jsb_c rfl jsb_n) (ct_X12_appeal_r125_19 hD hQ  h J Sm)
def fp_X12_areKin_r125 : jFp := [(137, 0, 80), (138, 0, 2)]
set_option maxRecDepth 100000 in
set_option maxHeartbeats 4000000 in
theorem ct_X12_areKin_r125_300158 {Dy : jH → Prop} {h0 : jH} {Q : Option Value → jH → Prop} {R5 : Int} {R23 : Int} (hD : jDk Dy) (hQ : ∀ (v : Int32) hx9, 0 ≤ v.toInt ∧ v.toInt ≤ 1 → jJ jSgM Dy hx9 → jSm fp_X12_areKin_r125 h0 hx9 → Q (some (.int v)) hx9) (k5 : ∀ (l1 : Int32) (l2 : Int32) (l3 : Int32) (l4 : Int32) (h : jH), 3 - l4.toInt < R5 → 0 ≤ l1.toInt ∧ l1.toInt ≤ 599 → 0 ≤ l2.toInt ∧ l2.toInt ≤ 599 → 0 ≤ l3.toInt ∧ l3.toInt ≤ 1 → 0 ≤ l4.toInt ∧ l4.toInt ≤ 3 → jJ jSgM Dy h → jSm fp_X12_areKin_r125 h0 h → jX m_X12_areKin 7 0 0 5 [(0, .ref 125), (1, .int l1), (2, .int l2), (3, .int l3), (4, .int l4)] [] h 0 0 Q) (k23 : ∀ (l1 : Int32) (l2 : Int32) (l3 : Int32) (l4 : Int32) (l5 : Int32) (h : jH), 3 - l5.toInt < R23 → 0 ≤ l1.toInt ∧ l1.toInt ≤ 599 → 0 ≤ l2.toInt ∧ l2.toInt ≤ 599 → 0 ≤ l3.toInt ∧ l3.toInt ≤ 1 → 0 ≤ l4.toInt ∧ l4.toInt ≤ 2 → 0 ≤ l5.toInt ∧ l5.toInt ≤ 3 → 3 - l4.toInt ≤ R5 → jJ jSgM Dy h → jSm fp_X12_areKin_r125 h0 h → jX m_X12_areKin 7 0 0 23 [(0, .ref 125), (1, .int l1), (2, .int l2), (3, .int l3), (4, .int l4), (5, .int l5)] [] h 0 0 Q) : ∀ (l1 : Int32) (l2 : Int32) (l4 : Int32) (l5 : Int32) (h : jH), 0 ≤ l1.toInt ∧ l1.toInt ≤ 599 → 0 ≤ l2.toInt ∧ l2.toInt ≤ 599 → 0 ≤ l4.toInt ∧ l4.toInt ≤ 2 → 0 ≤ l5.toInt ∧ l5.toInt ≤ 2 → 3 - l4.toInt ≤ R5 → 3 - l5.toInt ≤ R23 → jJ jSgM Dy h → jSm fp_X12_areKin_r125 h0 h → jX m_X12_areKin 7 0 0 158 [(0, .ref 125), (1, .int l1), (2, .int l2), (4, .int l4), (5, .int l5)] [.int 1] h 0 0 Q := by
  intro l1 l2 l4 l5 h y0 y1 y2 y3  m5 m23 J Sm
  refine x_istoren (lsx9 := [(3, .int 1), (0, .ref 125), (1, .int l1), (2, .int l2), (4, .int l4), (5, .int l5)]) rfl rfl rfl ?_
  refine z_iinc (x := l5) (lsx9 := fun v1 => [(5, .int v1), (3, .int 1), (0, .ref 125), (1, .int l1), (2, .int l2), (4, .int l4)]) rfl rfl rfl jko_1 (by omega) rfl (fun _ => rfl) (fun v1 ev1 => ?_)
  refine x_goto (tgt := 23) rfl rfl ?_
  exact jX.sub (jsb_c rfl (jsb_c rfl (jsb_c rfl (jsb_c rfl (jsb_c rfl (jsb_c rfl jsb_n)))))) (k23 l1 l2 1 l4 v1 h (by omega) (jr_of rfl (by omega)) (jr_of rfl (by omega)) (jr_of jk_1 (by omega)) (jr_of rfl (by omega)) (jr_of rfl (by omega)) (by omega) J Sm)
set_option maxRecDepth 100000 in
set_option maxHeartbeats 4000000 in
theorem ct_X12_areKin_r125_200158 {Dy : jH → Prop} {h0 : jH} {Q : Option Value → jH → Prop} {R5 : Int} {R23 : Int} (hD : jDk Dy) (hQ : ∀ (v : Int32) hx9, 0 ≤ v.toInt ∧ v.toInt ≤ 1 → jJ jSgM Dy hx9 → jSm fp_X12_areKin_r125 h0 hx9 → Q (some (.int v)) hx9) (k5 : ∀ (l1 : Int32) (l2 : Int32) (l3 : Int32) (l4 : Int32) (h : jH), 3 - l4.toInt < R5 → 0 ≤ l1.toInt ∧ l1.toInt ≤ 599 → 0 ≤ l2.toInt ∧ l2.toInt ≤ 599 → 0 ≤ l3.toInt ∧ l3.toInt ≤ 1 → 0 ≤ l4.toInt ∧ l4.toInt ≤ 3 → jJ jSgM Dy h → jSm fp_X12_areKin_r125 h0 h → jX m_X12_areKin 7 0 0 5 [(0, .ref 125), (1, .int l1), (2, .int l2), (3, .int l3), (4, .int l4)] [] h 0 0 Q) (k23 : ∀ (l1 : Int32) (l2 : Int32) (l3 : Int32) (l4 : Int32) (l5 : Int32) (h : jH), 3 - l5.toInt < R23 → 0 ≤ l1.toInt ∧ l1.toInt ≤ 599 → 0 ≤ l2.toInt ∧ l2.toInt ≤ 599 → 0 ≤ l3.toInt ∧ l3.toInt ≤ 1 → 0 ≤ l4.toInt ∧ l4.toInt ≤ 2 → 0 ≤ l5.toInt ∧ l5.toInt ≤ 3 → 3 - l4.toInt ≤ R5 → jJ jSgM Dy h → jSm fp_X12_areKin_r125 h0 h → jX m_X12_areKin 7 0 0 23 [(0, .ref 125), (1, .int l1), (2, .int l2), (3, .int l3), (4, .int l4), (5, .int l5)] [] h 0 0 Q) : ∀ (l1 : Int32) (l2 : Int32) (l4 : Int32) (l5 : Int32) (h : jH), 0 ≤ l1.toInt ∧ l1.toInt ≤ 599 → 0 ≤ l2.toInt ∧ l2.toInt ≤ 599 → 0 ≤ l4.toInt ∧ l4.toInt ≤ 2 → 0 ≤ l5.toInt ∧ l5.toInt ≤ 2 → 3 - l4.toInt ≤ R5 → 3 - l5.toInt ≤ R23 → jJ jSgM Dy h → jSm fp_X12_areKin_r125 h0 h → jX m_X12_areKin 7 0 0 158 [(0, .ref 125), (1, .int l1), (2, .int l2), (4, .int l4), (5, .int l5)] [.int 0] h 0 0 Q := by
  intro l1 l2 l4 l5 h y0 y1 y2 y3  m5 m23 J Sm
  refine x_istoren (lsx9 := [(3, .int 0), (0, .ref 125), (1, .int l1), (2, .int l2), (4, .int l4), (5, .int l5)]) rfl rfl rfl ?_
  refine z_iinc (x := l5) (lsx9 := fun v1 => [(5, .int v1), (3, .int 0), (0, .ref 125), (1, .int l1), (2, .int l2), (4, .int l4)]) rfl rfl rfl jko_1 (by omega) rfl (fun _ => rfl) (fun v1 ev1 => ?_)
  refine x_goto (tgt := 23) rfl rfl ?_
  exact jX.sub (jsb_c rfl (jsb_c rfl (jsb_c rfl (jsb_c rfl (jsb_c rfl (jsb_c rfl jsb_n)))))) (k23 l1 l2 0 l4 v1 h (by omega) (jr_of rfl (by omega)) (jr_of rfl (by omega)) (jr_of jk_0 (by omega)) (jr_of rfl (by omega)) (jr_of rfl (by omega)) (by omega) J Sm)
set_option maxRecDepth 100000 in
set_option maxHeartbeats 4000000 in
theorem ct_X12_areKin_r125_153 {Dy : jH → Prop} {h0 : jH} {Q : Option Value → jH → Prop} {R5 : Int} {R23 : Int} (hD : jDk Dy) (hQ : ∀ (v : Int32) hx9, 0 ≤ v.toInt ∧ v.toInt ≤ 1 → jJ jSgM Dy hx9 → jSm fp_X12_areKin_r125 h0 hx9 → Q (some (.int v)) hx9) (k5 : ∀ (l1 : Int32) (l2 : Int32) (l3 : Int32) (l4 : Int32) (h : jH), 3 - l4.toInt < R5 → 0 ≤ l1.toInt ∧ l1.toInt ≤ 599 → 0 ≤ l2.toInt ∧ l2.toInt ≤ 599 → 0 ≤ l3.toInt ∧ l3.toInt ≤ 1 → 0 ≤ l4.toInt ∧ l4.toInt ≤ 3 → jJ jSgM Dy h → jSm fp_X12_areKin_r125 h0 h → jX m_X12_areKin 7 0 0 5 [(0, .ref 125), (1, .int l1), (2, .int l2), (3, .int l3), (4, .int l4)] [] h 0 0 Q) (k23 : ∀ (l1 : Int32) (l2 : Int32) (l3 : Int32) (l4 : Int32) (l5 : Int32) (h : jH), 3 - l5.toInt < R23 → 0 ≤ l1.toInt ∧ l1.toInt ≤ 599 → 0 ≤ l2.toInt ∧ l2.toInt ≤ 599 → 0 ≤ l3.toInt ∧ l3.toInt ≤ 1 → 0 ≤ l4.toInt ∧ l4.toInt ≤ 2 → 0 ≤ l5.toInt ∧ l5.toInt ≤ 3 → 3 - l4.toInt ≤ R5 → jJ jSgM Dy h → jSm fp_X12_areKin_r125 h0 h → jX m_X12_areKin 7 0 0 23 [(0, .ref 125), (1, .int l1), (2, .int l2), (3, .int l3), (4, .int l4), (5, .int l5)] [] h 0 0 Q) : ∀ (l1 : Int32) (l2 : Int32) (l4 : Int32) (l5 : Int32) (h : jH), 0 ≤ l1.toInt ∧ l1.toInt ≤ 599 → 0 ≤ l2.toInt ∧ l2.toInt ≤ 599 → 0 ≤ l4.toInt ∧ l4.toInt ≤ 2 → 0 ≤ l5.toInt ∧ l5.toInt ≤ 2 → 3 - l4.toInt ≤ R5 → 3 - l5.toInt ≤ R23 → jJ jSgM Dy h → jSm fp_X12_areKin_r125 h0 h → jX m_X12_areKin 7 0 0 153 [(0, .ref 125), (1, .int l1), (2, .int l2), (4, .int l4), (5, .int l5)] [] h 0 0 Q := by
  intro l1 l2 l4 l5 h y0 y1 y2 y3  m5 m23 J Sm
  refine x_iconst (v := 1) rfl ki_1 ?_
  refine x_goto (tgt := 158) rfl rfl ?_
  exact jX.sub (jsb_c rfl (jsb_c rfl (jsb_c rfl (jsb_c rfl (jsb_c rfl jsb_n))))) (ct_X12_areKin_r125_300158 hD hQ k5 k23 l1 l2 l4 l5 h (jr_of rfl (by omega)) (jr_of rfl (by omega)) (jr_of rfl (by omega)) (jr_of rfl (by omega)) (by omega) (by omega) J Sm)
set_option maxRecDepth 100000 in
set_option maxHeartbeats 4000000 in
theorem ct_X12_areKin_r125_157 {Dy : jH → Prop} {h0 : jH} {Q : Option Value → jH → Prop} {R5 : Int} {R23 : Int} (hD : jDk Dy) (hQ : ∀ (v : Int32) hx9, 0 ≤ v.toInt ∧ v.toInt ≤ 1 → jJ jSgM Dy hx9 → jSm fp_X12_areKin_r125 h0 hx9 → Q (some (.int v)) hx9) (k5 : ∀ (l1 : Int32) (l2 : Int32) (l3 : Int32) (l4 : Int32) (h : jH), 3 - l4.toInt < R5 → 0 ≤ l1.toInt ∧ l1.toInt ≤ 599 → 0 ≤ l2.toInt ∧ l2.toInt ≤ 599 → 0 ≤ l3.toInt ∧ l3.toInt ≤ 1 → 0 ≤ l4.toInt ∧ l4.toInt ≤ 3 → jJ jSgM Dy h → jSm fp_X12_areKin_r125 h0 h → jX m_X12_areKin 7 0 0 5 [(0, .ref 125), (1, .int l1), (2, .int l2), (3, .int l3), (4, .int l4)] [] h 0 0 Q) (k23 : ∀ (l1 : Int32) (l2 : Int32) (l3 : Int32) (l4 : Int32) (l5 : Int32) (h : jH), 3 - l5.toInt < R23 → 0 ≤ l1.toInt ∧ l1.toInt ≤ 599 → 0 ≤ l2.toInt ∧ l2.toInt ≤ 599 → 0 ≤ l3.toInt ∧ l3.toInt ≤ 1 → 0 ≤ l4.toInt ∧ l4.toInt ≤ 2 → 0 ≤ l5.toInt ∧ l5.toInt ≤ 3 → 3 - l4.toInt ≤ R5 → jJ jSgM Dy h → jSm fp_X12_areKin_r125 h0 h → jX m_X12_areKin 7 0 0 23 [(0, .ref 125), (1, .int l1), (2, .int l2), (3, .int l3), (4, .int l4), (5, .int l5)] [] h 0 0 Q) : ∀ (l1 : Int32) (l2 : Int32) (l4 : Int32) (l5 : Int32) (h : jH), 0 ≤ l1.toInt ∧ l1.toInt ≤ 599 → 0 ≤ l2.toInt ∧ l2.toInt ≤ 599 → 0 ≤ l4.toInt ∧ l4.toInt ≤ 2 → 0 ≤ l5.toInt ∧ l5.toInt ≤ 2 → 3 - l4.toInt ≤ R5 → 3 - l5.toInt ≤ R23 → jJ jSgM Dy h → jSm fp_X12_areKin_r125 h0 h → jX m_X12_areKin 7 0 0 157 [(0, .ref 125), (1, .int l1), (2, .int l2), (4, .int l4), (5, .int l5)] [] h 0 0 Q := by
  intro l1 l2 l4 l5 h y0 y1 y2 y3  m5 m23 J Sm
  refine x_iconst (v := 0) rfl ki_0 ?_
  exact jX.sub (jsb_c rfl (jsb_c rfl (jsb_c rfl (jsb_c rfl (jsb_c rfl jsb_n))))) (ct_X12_areKin_r125_200158 hD hQ k5 k23 l1 l2 l4 l5 h (jr_of rfl (by omega)) (jr_of rfl (by omega)) (jr_of rfl (by omega)) (jr_of rfl (by omega)) (by omega) (by omega) J Sm)
set_option maxRecDepth 100000 in
set_option maxHeartbeats 4000000 in
theorem ct_X12_areKin_r125_300119 {Dy : jH → Prop} {h0 : jH} {Q : Option Value → jH → Prop} {R5 : Int} {R23 : Int} (hD : jDk Dy) (hQ : ∀ (v : Int32) hx9, 0 ≤ v.toInt ∧ v.toInt ≤ 1 → jJ jSgM Dy hx9 → jSm fp_X12_areKin_r125 h0 hx9 → Q (some (.int v)) hx9) (k5 : ∀ (l1 : Int32) (l2 : Int32) (l3 : Int32) (l4 : Int32) (h : jH), 3 - l4.toInt < R5 → 0 ≤ l1.toInt ∧ l1.toInt ≤ 599 → 0 ≤ l2.toInt ∧ l2.toInt ≤ 599 → 0 ≤ l3.toInt ∧ l3.toInt ≤ 1 → 0 ≤ l4.toInt ∧ l4.toInt ≤ 3 → jJ jSgM Dy h → jSm fp_X12_areKin_r125 h0 h → jX m_X12_areKin 7 0 0 5 [(0, .ref 125), (1, .int l1), (2, .int l2), (3, .int l3), (4, .int l4)] [] h 0 0 Q) (k23 : ∀ (l1 : Int32) (l2 : Int32) (l3 : Int32) (l4 : Int32) (l5 : Int32) (h : jH), 3 - l5.toInt < R23 → 0 ≤ l1.toInt ∧ l1.toInt ≤ 599 → 0 ≤ l2.toInt ∧ l2.toInt ≤ 599 → 0 ≤ l3.toInt ∧ l3.toInt ≤ 1 → 0 ≤ l4.toInt ∧ l4.toInt ≤ 2 → 0 ≤ l5.toInt ∧ l5.toInt ≤ 3 → 3 - l4.toInt ≤ R5 → jJ jSgM Dy h → jSm fp_X12_areKin_r125 h0 h → jX m_X12_areKin 7 0 0 23 [(0, .ref 125), (1, .int l1), (2, .int l2), (3, .int l3), (4, .int l4), (5, .int l5)] [] h 0 0 Q) : ∀ (l1 : Int32) (l2 : Int32) (l3 : Int32) (l4 : Int32) (l5 : Int32) (l6 : Int32) (l7 : Int32) (h : jH), 0 ≤ l1.toInt ∧ l1.toInt ≤ 599 → 0 ≤ l2.toInt ∧ l2.toInt ≤ 599 → 0 ≤ l3.toInt ∧ l3.toInt ≤ 0 → 0 ≤ l4.toInt ∧ l4.toInt ≤ 2 → 0 ≤ l5.toInt ∧ l5.toInt ≤ 2 → 0 ≤ l6.toInt ∧ l6.toInt ≤ 599 → 0 ≤ l7.toInt ∧ l7.toInt ≤ 599 → 3 - l4.toInt ≤ R5 → 3 - l5.toInt ≤ R23 → jJ jSgM Dy h → jSm fp_X12_areKin_r125 h0 h → jX m_X12_areKin 7 0 0 119 [(0, .ref 125), (1, .int l1), (2, .int l2), (3, .int l3), (4, .int l4), (5, .int l5), (6, .int l6), (7, .int l7)] [.int 1] h 0 0 Q := by
  intro l1 l2 l3 l4 l5 l6 l7 h y0 y1 y2 y3 y4 y5 y6  m5 m23 J Sm
  refine x_istore (lsx9 := [(8, .int 1), (0, .ref 125), (1, .int l1), (2, .int l2), (3, .int l3), (4, .int l4), (5, .int l5), (6, .int l6), (7, .int l7)]) rfl rfl rfl ?_
  refine x_iloadn (x := l3) rfl rfl ?_
  refine x_ifne (tgt := 153) rfl rfl (ti_ne rfl jk_0 (bn_f (by omega) ?_))
  refine x_iload (x := 1) rfl rfl ?_
  refine x_ifeq (tgt := 157) rfl rfl (ti_eq jk_1 jk_0 (br_f (by omega) ?_))
  refine x_aloadn (x := 125) rfl rfl ?_
  refine x_iload (x := l6) rfl rfl ?_
  refine x_iload (x := l7) rfl rfl ?_
  refine x_iconst (v := 1) rfl ki_1 ?_
  refine x_inv (N := m_X12_areAlike) (As := [.int l6, .int l7, .int 1]) (b := 125) (st := []) (dx9 := 4) (mc := 0) (ms := 0) (host := "") 12 rfl t_X12_areAlike ⟨Or.inl q_12_358, i_X12_areAlike.1, i_X12_areAlike.2⟩ ⟨by decide, rfl⟩ (congrArg Prod.fst (J.1.1 125 (12, 92) rfl)) rfl (by decide) rfl rfl ⟨by decide, by decide⟩ (sf_X12_areAlike_r125 (jr_of rfl (by omega)) (jr_of rfl (by omega)) (jr_of jk_1 (by omega)) hD J  (fun v2 h ev2 J S1 => ?_))
  have Sm := jSm_tr rfl Sm S1
  show jX m_X12_areKin 7 0 0 139 [(8, .int 1), (0, .ref 125), (1, .int l1), (2, .int l2), (3, .int l3), (4, .int l4), (5, .int l5), (6, .int l6), (7, .int l7)] [.int v2] _ 0 0 _
  refine x_ifeq (tgt := 157) rfl rfl (ti_eq rfl jk_0 ⟨fun c3 => ?_, fun c3 => ?_⟩)
  ·
    exact jX.sub (jsb_c rfl (jsb_c rfl (jsb_c rfl (jsb_c rfl (jsb_c rfl jsb_n))))) (ct_X12_areKin_r125_157 hD hQ k5 k23 l1 l2 l4 l5 h (jr_of rfl (by omega)) (jr_of rfl (by omega)) (jr_of rfl (by omega)) (jr_of rfl (by omega)) (by omega) (by omega) J Sm)
  ·
    refine x_aloadn (x := 125) rfl rfl ?_
    refine x_iload (x := l6) rfl rfl ?_
    refine x_iload (x := l7) rfl rfl ?_
    refine x_inv (N := m_X12_why) (As := [.int l6, .int l7]) (b := 125) (st := []) (dx9 := 6) (mc := 0) (ms := 0) (host := "") 12 rfl t_X12_why ⟨Or.inl q_12_368, i_X12_why.1, i_X12_why.2⟩ ⟨by decide, rfl⟩ (congrArg Prod.fst (J.1.1 125 (12, 92) rfl)) rfl (by decide) rfl rfl ⟨by decide, by decide⟩ (sf_X12_why_r125 (jr_of rfl (by omega)) (jr_of rfl (by omega)) hD J  (fun v5 h ev5 J S4 => ?_))
    have Sm := jSm_tr rfl Sm S4
    show jX m_X12_areKin 7 0 0 150 [(8, .int 1), (0, .ref 125), (1, .int l1), (2, .int l2), (3, .int l3), (4, .int l4), (5, .int l5), (6, .int l6), (7, .int l7)] [.int v5] _ 0 0 _
    refine x_ifne (tgt := 157) rfl rfl (ti_ne rfl jk_0 ⟨fun c6 => ?_, fun c6 => ?_⟩)
    ·
      exact jX.sub (jsb_c rfl (jsb_c rfl (jsb_c rfl (jsb_c rfl (jsb_c rfl jsb_n))))) (ct_X12_areKin_r125_157 hD hQ k5 k23 l1 l2 l4 l5 h (jr_of rfl (by omega)) (jr_of rfl (by omega)) (jr_of rfl (by omega)) (jr_of rfl (by omega)) (by omega) (by omega) J Sm)
    ·
      exact jX.sub (jsb_c rfl (jsb_c rfl (jsb_c rfl (jsb_c rfl (jsb_c rfl jsb_n))))) (ct_X12_areKin_r125_153 hD hQ k5 k23 l1 l2 l4 l5 h (jr_of rfl (by omega)) (jr_of rfl (by omega)) (jr_of rfl (by omega)) (jr_of rfl (by omega)) (by omega) (by omega) J Sm)
set_option maxRecDepth 100000 in
set_option maxHeartbeats 4000000 in
theorem ct_X12_areKin_r125_200119 {Dy : jH → Prop} {h0 : jH} {Q : Option Value → jH → Prop} {R5 : Int} {R23 : Int} (hD : jDk Dy) (hQ : ∀ (v : Int32) hx9, 0 ≤ v.toInt ∧ v.toInt ≤ 1 → jJ jSgM Dy hx9 → jSm fp_X12_areKin_r125 h0 hx9 → Q (some (.int v)) hx9) (k5 : ∀ (l1 : Int32) (l2 : Int32) (l3 : Int32) (l4 : Int32) (h : jH), 3 - l4.toInt < R5 → 0 ≤ l1.toInt ∧ l1.toInt ≤ 599 → 0 ≤ l2.toInt ∧ l2.toInt ≤ 599 → 0 ≤ l3.toInt ∧ l3.toInt ≤ 1 → 0 ≤ l4.toInt ∧ l4.toInt ≤ 3 → jJ jSgM Dy h → jSm fp_X12_areKin_r125 h0 h → jX m_X12_areKin 7 0 0 5 [(0, .ref 125), (1, .int l1), (2, .int l2), (3, .int l3), (4, .int l4)] [] h 0 0 Q) (k23 : ∀ (l1 : Int32) (l2 : Int32) (l3 : Int32) (l4 : Int32) (l5 : Int32) (h : jH), 3 - l5.toInt < R23 → 0 ≤ l1.toInt ∧ l1.toInt ≤ 599 → 0 ≤ l2.toInt ∧ l2.toInt ≤ 599 → 0 ≤ l3.toInt ∧ l3.toInt ≤ 1 → 0 ≤ l4.toInt ∧ l4.toInt ≤ 2 → 0 ≤ l5.toInt ∧ l5.toInt ≤ 3 → 3 - l4.toInt ≤ R5 → jJ jSgM Dy h → jSm fp_X12_areKin_r125 h0 h → jX m_X12_areKin 7 0 0 23 [(0, .ref 125), (1, .int l1), (2, .int l2), (3, .int l3), (4, .int l4), (5, .int l5)] [] h 0 0 Q) : ∀ (l1 : Int32) (l2 : Int32) (l3 : Int32) (l4 : Int32) (l5 : Int32) (l6 : Int32) (l7 : Int32) (h : jH), 0 ≤ l1.toInt ∧ l1.toInt ≤ 599 → 0 ≤ l2.toInt ∧ l2.toInt ≤ 599 → 0 ≤ l3.toInt ∧ l3.toInt ≤ 1 → 0 ≤ l4.toInt ∧ l4.toInt ≤ 2 → 0 ≤ l5.toInt ∧ l5.toInt ≤ 2 → 0 ≤ l6.toInt ∧ l6.toInt ≤ 599 → 0 ≤ l7.toInt ∧ l7.toInt ≤ 599 → 3 - l4.toInt ≤ R5 → 3 - l5.toInt ≤ R23 → jJ jSgM Dy h → jSm fp_X12_areKin_r125 h0 h → jX m_X12_areKin 7 0 0 119 [(0, .ref 125), (1, .int l1), (2, .int l2), (3, .int l3), (4, .int l4), (5, .int l5), (6, .int l6), (7, .int l7)] [.int 0] h 0 0 Q := by
  intro l1 l2 l3 l4 l5 l6 l7 h y0 y1 y2 y3 y4 y5 y6  m5 m23 J Sm
  refine x_istore (lsx9 := [(8, .int 0), (0, .ref 125), (1, .int l1), (2, .int l2), (3, .int l3), (4, .int l4), (5, .int l5), (6, .int l6), (7, .int l7)]) rfl rfl rfl ?_
  refine x_iloadn (x := l3) rfl rfl ?_
  refine x_ifne (tgt := 153) rfl rfl (ti_ne rfl jk_0 ⟨fun c1 => ?_, fun c1 => ?_⟩)
  ·
    exact jX.sub (jsb_c rfl (jsb_c rfl (jsb_c rfl (jsb_c rfl (jsb_c rfl jsb_n))))) (ct_X12_areKin_r125_153 hD hQ k5 k23 l1 l2 l4 l5 h (jr_of rfl (by omega)) (jr_of rfl (by omega)) (jr_of rfl (by omega)) (jr_of rfl (by omega)) (by omega) (by omega) J Sm)
  ·
    refine x_iload (x := 0) rfl rfl ?_
    refine x_ifeq (tgt := 157) rfl rfl (ti_eq jk_0 jk_0 (br_t (by omega) ?_))
    exact jX.sub (jsb_c rfl (jsb_c rfl (jsb_c rfl (jsb_c rfl (jsb_c rfl jsb_n))))) (ct_X12_areKin_r125_157 hD hQ k5 k23 l1 l2 l4 l5 h (jr_of rfl (by omega)) (jr_of rfl (by omega)) (jr_of rfl (by omega)) (jr_of rfl (by omega)) (by omega) (by omega) J Sm)
set_option maxRecDepth 100000 in
set_option maxHeartbeats 4000000 in
theorem ct_X12_areKin_r125_118 {Dy : jH → Prop} {h0 : jH} {Q : Option Value → jH → Prop} {R5 : Int} {R23 : Int} (hD : jDk Dy) (hQ : ∀ (v : Int32) hx9, 0 ≤ v.toInt ∧ v.toInt ≤ 1 → jJ jSgM Dy hx9 → jSm fp_X12_areKin_r125 h0 hx9 → Q (some (.int v)) hx9) (k5 : ∀ (l1 : Int32) (l2 : Int32) (l3 : Int32) (l4 : Int32) (h : jH), 3 - l4.toInt < R5 → 0 ≤ l1.toInt ∧ l1.toInt ≤ 599 → 0 ≤ l2.toInt ∧ l2.toInt ≤ 599 → 0 ≤ l3.toInt ∧ l3.toInt ≤ 1 → 0 ≤ l4.toInt ∧ l4.toInt ≤ 3 → jJ jSgM Dy h → jSm fp_X12_areKin_r125 h0 h → jX m_X12_areKin 7 0 0 5 [(0, .ref 125), (1, .int l1), (2, .int l2), (3, .int l3), (4, .int l4)] [] h 0 0 Q) (k23 : ∀ (l1 : Int32) (l2 : Int32) (l3 : Int32) (l4 : Int32) (l5 : Int32) (h : jH), 3 - l5.toInt < R23 → 0 ≤ l1.toInt ∧ l1.toInt ≤ 599 → 0 ≤ l2.toInt ∧ l2.toInt ≤ 599 → 0 ≤ l3.toInt ∧ l3.toInt ≤ 1 → 0 ≤ l4.toInt ∧ l4.toInt ≤ 2 → 0 ≤ l5.toInt ∧ l5.toInt ≤ 3 → 3 - l4.toInt ≤ R5 → jJ jSgM Dy h → jSm fp_X12_areKin_r125 h0 h → jX m_X12_areKin 7 0 0 23 [(0, .ref 125), (1, .int l1), (2, .int l2), (3, .int l3), (4, .int l4), (5, .int l5)] [] h 0 0 Q) : ∀ (l1 : Int32) (l2 : Int32) (l3 : Int32) (l4 : Int32) (l5 : Int32) (l6 : Int32) (l7 : Int32) (h : jH), 0 ≤ l1.toInt ∧ l1.toInt ≤ 599 → 0 ≤ l2.toInt ∧ l2.toInt ≤ 599 → 0 ≤ l3.toInt ∧ l3.toInt ≤ 1 → 0 ≤ l4.toInt ∧ l4.toInt ≤ 2 → 0 ≤ l5.toInt ∧ l5.toInt ≤ 2 → 0 ≤ l6.toInt ∧ l6.toInt ≤ 599 → 0 ≤ l7.toInt ∧ l7.toInt ≤ 599 → 3 - l4.toInt ≤ R5 → 3 - l5.toInt ≤ R23 → jJ jSgM Dy h → jSm fp_X12_areKin_r125 h0 h → jX m_X12_areKin 7 0 0 118 [(0, .ref 125), (1, .int l1), (2, .int l2), (3, .int l3), (4, .int l4), (5, .int l5), (6, .int l6), (7, .int l7)] [] h 0 0 Q := by
  intro l1 l2 l3 l4 l5 l6 l7 h y0 y1 y2 y3 y4 y5 y6  m5 m23 J Sm
  refine x_iconst (v := 0) rfl ki_0 ?_
  exact jX.sub (jsb_c rfl (jsb_c rfl (jsb_c rfl (jsb_c rfl (jsb_c rfl (jsb_c rfl (jsb_c rfl (jsb_c rfl jsb_n)))))))) (ct_X12_areKin_r125_200119 hD hQ k5 k23 l1 l2 l3 l4 l5 l6 l7 h (jr_of rfl (by omega)) (jr_of rfl (by omega)) (jr_of rfl (by omega)) (jr_of rfl (by omega)) (jr_of rfl (by omega)) (jr_of rfl (by omega)) (jr_of rfl (by omega)) (by omega) (by omega) J Sm)
set_option maxRecDepth 100000 in
set_option maxHeartbeats 4000000 in
theorem ct_X12_areKin_r125_23 {Dy : jH → Prop} {h0 : jH} {Q : Option Value → jH → Prop} {R5 : Int} (hD : jDk Dy) (hQ : ∀ (v : Int32) hx9, 0 ≤ v.toInt ∧ v.toInt ≤ 1 → jJ jSgM Dy hx9 → jSm fp_X12_areKin_r125 h0 hx9 → Q (some (.int v)) hx9) (k5 : ∀ (l1 : Int32) (l2 : Int32) (l3 : Int32) (l4 : Int32) (h : jH), 3 - l4.toInt < R5 → 0 ≤ l1.toInt ∧ l1.toInt ≤ 599 → 0 ≤ l2.toInt ∧ l2.toInt ≤ 599 → 0 ≤ l3.toInt ∧ l3.toInt ≤ 1 → 0 ≤ l4.toInt ∧ l4.toInt ≤ 3 → jJ jSgM Dy h → jSm fp_X12_areKin_r125 h0 h → jX m_X12_areKin 7 0 0 5 [(0, .ref 125), (1, .int l1), (2, .int l2), (3, .int l3), (4, .int l4)] [] h 0 0 Q) : ∀ r : Nat, ∀ (l1 : Int32) (l2 : Int32) (l3 : Int32) (l4 : Int32) (l5 : Int32) (h : jH), 3 - l5.toInt < (r : Int) → 0 ≤ l1.toInt ∧ l1.toInt ≤ 599 → 0 ≤ l2.toInt ∧ l2.toInt ≤ 599 → 0 ≤ l3.toInt ∧ l3.toInt ≤ 1 → 0 ≤ l4.toInt ∧ l4.toInt ≤ 2 → 0 ≤ l5.toInt ∧ l5.toInt ≤ 3 → 3 - l4.toInt ≤ R5 → jJ jSgM Dy h → jSm fp_X12_areKin_r125 h0 h → jX m_X12_areKin 7 0 0 23 [(0, .ref 125), (1, .int l1), (2, .int l2), (3, .int l3), (4, .int l4), (5, .int l5)] [] h 0 0 Q := by
  intro r
  induction r with
  | zero =>
    intro l1 l2 l3 l4 l5 h hm y0 y1 y2 y3 y4  m5 J Sm
    exfalso
    omega
  | succ r ih =>
    intro l1 l2 l3 l4 l5 h hm y0 y1 y2 y3 y4  m5 J Sm
    refine x_iload (x := l5) rfl rfl ?_
    refine x_aloadn (x := 125) rfl rfl ?_
    refine x_iloadn (x := l2) rfl rfl ?_
    refine x_iconst (v := 3) rfl ki_3 ?_
    refine z_idiv rfl rfl jk_3 (by omega) (by omega) (fun v1 ev1 => ?_)
    refine x_inv (N := m_X12_bookOf) (As := [.int v1]) (b := 125) (st := [.int l5]) (dx9 := 6) (mc := 0) (ms := 0) (host := "") 12 rfl t_X12_bookOf ⟨Or.inl q_12_299, i_X12_bookOf.1, i_X12_bookOf.2⟩ ⟨by decide, rfl⟩ (congrArg Prod.fst (J.1.1 125 (12, 92) rfl)) rfl (by decide) rfl rfl ⟨by decide, by decide⟩ (jC.of rfl k_X12_bookOf rfl ?_)
    show jX m_X12_bookOf 6 0 0 0 [(0, .ref 125), (1, .int v1)] [] _ 0 0 _
    refine x_aloadn (x := 125) rfl rfl ?_
    refine z_getR (N := 92) (b := 126) 12 2 rfl f_12_8 rfl J rfl 16002 ⟨rfl, rfl⟩ rfl ?_
    refine x_aloadn (x := 125) rfl rfl ?_
    refine x_iloadn (x := v1) rfl rfl ?_
    refine x_inv (N := m_X12_at) (As := [.int v1]) (b := 125) (st := [.ref 126]) (dx9 := 5) (mc := 0) (ms := 0) (host := "") 12 rfl t_X12_at ⟨Or.inl q_12_254, i_X12_at.1, i_X12_at.2⟩ ⟨by decide, rfl⟩ (congrArg Prod.fst (J.1.1 125 (12, 92) rfl)) rfl (by decide) rfl rfl ⟨by decide, by decide⟩ (jC.of rfl k_X12_at rfl ?_)
    show jX m_X12_at 5 0 0 0 [(0, .ref 125), (1, .int v1)] [] _ 0 0 _
    refine x_bipush (v := 20) rfl kb_20 ?_
    refine x_bipush (v := 90) rfl kb_90 ?_
    refine x_iloadn (x := v1) rfl rfl ?_
    refine z_imul rfl jk_90 rfl (by omega) (fun v2 ev2 => ?_)
    refine z_iadd rfl jk_20 rfl (by omega) (fun v3 ev3 => ?_)
    refine x_iret rfl rfl ?_
    show jX m_X12_bookOf 6 0 0 9 [(0, .ref 125), (1, .int v1)] [.int v3, .ref 126] _ 0 0 _
    refine z_iald (N := 50660) rfl J rfl sg_126_20_18020_90_0_1 rfl (by omega) (fun v4 qv4 ev4 => ?_)
    refine x_iret rfl rfl ?_
    show jX m_X12_areKin 7 0 0 32 [(0, .ref 125), (1, .int l1), (2, .int l2), (3, .int l3), (4, .int l4), (5, .int l5)] [.int v4, .int l5] _ 0 0 _
    refine x_inst (N := m_X12_rolesOf) (As := [.int v4]) (st := [.int l5]) (dx9 := 6) (mc := 0) (ms := 0) (host := "") rfl t_X12_rolesOf ⟨Or.inl q_12_286, s_X12_rolesOf⟩ rfl (by decide) rfl rfl ⟨by decide, by decide⟩ (jC.of rfl k_X12_rolesOf rfl ?_)
    show jX m_X12_rolesOf 6 0 0 0 [(0, .int v4)] [] _ 0 0 _
    refine x_iloadn (x := v4) rfl rfl ?_
    refine x_ifne (tgt := 8) rfl rfl (ti_ne rfl jk_0 ⟨fun c5 => ?_, fun c5 => ?_⟩)
    ·
      refine x_iloadn (x := v4) rfl rfl ?_
      refine x_iconst (v := 1) rfl ki_1 ?_
      refine x_icne (tgt := 17) rfl rfl (ti_ne rfl jk_1 ⟨fun c6 => ?_, fun c6 => ?_⟩)
      ·
        refine x_iconst (v := 1) rfl ki_1 ?_
        refine x_iret rfl rfl ?_
        show jX m_X12_areKin 7 0 0 35 [(0, .ref 125), (1, .int l1), (2, .int l2), (3, .int l3), (4, .int l4), (5, .int l5)] [.int 1, .int l5] _ 0 0 _
        refine x_icge (tgt := 165) rfl rfl (ti_ge rfl jk_1 ⟨fun c7 => ?_, fun c7 => ?_⟩)
        ·
          refine z_iinc (x := l4) (lsx9 := fun v8 => [(4, .int v8), (0, .ref 125), (1, .int l1), (2, .int l2), (3, .int l3), (5, .int l5)]) rfl rfl rfl jko_1 (by omega) rfl (fun _ => rfl) (fun v8 ev8 => ?_)
          refine x_goto (tgt := 5) rfl rfl ?_
          exact jX.sub (jsb_c rfl (jsb_c rfl (jsb_c rfl (jsb_c rfl (jsb_c rfl jsb_n))))) (k5 l1 l2 l3 v8 h (by omega) (jr_of rfl (by omega)) (jr_of rfl (by omega)) (jr_of rfl (by omega)) (jr_of rfl (by omega)) J Sm)
        ·
          refine x_iloadn (x := l1) rfl rfl ?_
          refine x_iconst (v := 3) rfl ki_3 ?_
          refine z_idiv rfl rfl jk_3 (by omega) (by omega) (fun v9 ev9 => ?_)
          refine x_iconst (v := 3) rfl ki_3 ?_
          refine z_imul rfl rfl jk_3 (by omega) (fun v10 ev10 => ?_)
          refine x_iload (x := l4) rfl rfl ?_
          refine z_iadd rfl rfl rfl (by omega) (fun v11 ev11 => ?_)
          refine x_istore (lsx9 := [(6, .int v11), (0, .ref 125), (1, .int l1), (2, .int l2), (3, .int l3), (4, .int l4), (5, .int l5)]) rfl rfl rfl ?_
          refine x_iloadn (x := l2) rfl rfl ?_
          refine x_iconst (v := 3) rfl ki_3 ?_
          refine z_idiv rfl rfl jk_3 (by omega) (by omega) (fun v12 ev12 => ?_)
          refine x_iconst (v := 3) rfl ki_3 ?_
          refine z_imul rfl rfl jk_3 (by omega) (fun v13 ev13 => ?_)
          refine x_iload (x := l5) rfl rfl ?_
          refine z_iadd rfl rfl rfl (by omega) (fun v14 ev14 => ?_)
          refine x_istore (lsx9 := [(7, .int v14), (6, .int v11), (0, .ref 125), (1, .int l1), (2, .int l2), (3, .int l3), (4, .int l4), (5, .int l5)]) rfl rfl rfl ?_
          refine x_iloadn (x := l3) rfl rfl ?_
          refine x_ifne (tgt := 118) rfl rfl (ti_ne rfl jk_0 ⟨fun c15 => ?_, fun c15 => ?_⟩)
          ·
            exact jX.sub (jsb_c rfl (jsb_c rfl (jsb_c rfl (jsb_c rfl (jsb_c rfl (jsb_c rfl (jsb_c rfl (jsb_c rfl jsb_n)))))))) (ct_X12_areKin_r125_118 hD hQ k5 ih l1 l2 l3 l4 l5 v11 v14 h (jr_of rfl (by omega)) (jr_of rfl (by omega)) (jr_of rfl (by omega)) (jr_of rfl (by omega)) (jr_of rfl (by omega)) (jr_of rfl (by omega)) (jr_of rfl (by omega)) (by omega) (by omega) J Sm)
          ·
            refine x_iload (x := v11) rfl rfl ?_
            refine x_iloadn (x := l1) rfl rfl ?_
            refine x_iceq (tgt := 118) rfl rfl (ti_eq rfl rfl ⟨fun c16 => ?_, fun c16 => ?_⟩)
            ·
              exact jX.sub (jsb_c rfl (jsb_c rfl (jsb_c rfl (jsb_c rfl (jsb_c rfl (jsb_c rfl (jsb_c rfl (jsb_c rfl jsb_n)))))))) (ct_X12_areKin_r125_118 hD hQ k5 ih l1 l2 l3 l4 l5 v11 v14 h (jr_of rfl (by omega)) (jr_of rfl (by omega)) (jr_of rfl (by omega)) (jr_of rfl (by omega)) (jr_of rfl (by omega)) (jr_of rfl (by omega)) (jr_of rfl (by omega)) (by omega) (by omega) J Sm)
            ·
              refine x_iload (x := v14) rfl rfl ?_
              refine x_iloadn (x := l2) rfl rfl ?_
              refine x_iceq (tgt := 118) rfl rfl (ti_eq rfl rfl ⟨fun c17 => ?_, fun c17 => ?_⟩)
              ·
                exact jX.sub (jsb_c rfl (jsb_c rfl (jsb_c rfl (jsb_c rfl (jsb_c rfl (jsb_c rfl (jsb_c rfl (jsb_c rfl jsb_n)))))))) (ct_X12_areKin_r125_118 hD hQ k5 ih l1 l2 l3 l4 l5 v11 v14 h (jr_of rfl (by omega)) (jr_of rfl (by omega)) (jr_of rfl (by omega)) (jr_of rfl (by omega)) (jr_of rfl (by omega)) (jr_of rfl (by omega)) (jr_of rfl (by omega)) (by omega) (by omega) J Sm)
              ·
                refine x_aloadn (x := 125) rfl rfl ?_
                refine x_iload (x := v11) rfl rfl ?_
                refine x_iconst (v := 0) rfl ki_0 ?_
                refine x_inv (N := m_X12_isNamed) (As := [.int v11, .int 0]) (b := 125) (st := []) (dx9 := 6) (mc := 0) (ms := 0) (host := "") 12 rfl t_X12_isNamed ⟨Or.inl q_12_315, i_X12_isNamed.1, i_X12_isNamed.2⟩ ⟨by decide, rfl⟩ (congrArg Prod.fst (J.1.1 125 (12, 92) rfl)) rfl (by decide) rfl rfl ⟨by decide, by decide⟩ (jC.of rfl k_X12_isNamed rfl ?_)
                show jX m_X12_isNamed 6 0 0 0 [(0, .ref 125), (1, .int v11), (2, .int 0)] [] _ 0 0 _
                refine x_aloadn (x := 125) rfl rfl ?_
                refine z_getR (N := 92) (b := 126) 12 2 rfl f_12_8 rfl J rfl 16002 ⟨rfl, rfl⟩ rfl ?_
                refine x_aloadn (x := 125) rfl rfl ?_
                refine x_iloadn (x := v11) rfl rfl ?_
                refine x_iloadn (x := 0) rfl rfl ?_
                refine x_inv (N := m_X12_nameAt) (As := [.int v11, .int 0]) (b := 125) (st := [.ref 126]) (dx9 := 5) (mc := 0) (ms := 0) (host := "") 12 rfl t_X12_nameAt ⟨Or.inl q_12_311, i_X12_nameAt.1, i_X12_nameAt.2⟩ ⟨by decide, rfl⟩ (congrArg Prod.fst (J.1.1 125 (12, 92) rfl)) rfl (by decide) rfl rfl ⟨by decide, by decide⟩ (jC.of rfl k_X12_nameAt rfl ?_)
                show jX m_X12_nameAt 5 0 0 0 [(0, .ref 125), (1, .int v11), (2, .int 0)] [] _ 0 0 _
                refine x_aloadn (x := 125) rfl rfl ?_
                refine x_iloadn (x := v11) rfl rfl ?_
                refine x_iconst (v := 3) rfl ki_3 ?_
                refine z_idiv rfl rfl jk_3 (by omega) (by omega) (fun v18 ev18 => ?_)
                refine x_inv (N := m_X12_at) (As := [.int v18]) (b := 125) (st := []) (dx9 := 4) (mc := 0) (ms := 0) (host := "") 12 rfl t_X12_at ⟨Or.inl q_12_254, i_X12_at.1, i_X12_at.2⟩ ⟨by decide, rfl⟩ (congrArg Prod.fst (J.1.1 125 (12, 92) rfl)) rfl (by decide) rfl rfl ⟨by decide, by decide⟩ (jC.of rfl k_X12_at rfl ?_)
                show jX m_X12_at 4 0 0 0 [(0, .ref 125), (1, .int v18)] [] _ 0 0 _
                refine x_bipush (v := 20) rfl kb_20 ?_
                refine x_bipush (v := 90) rfl kb_90 ?_
                refine x_iloadn (x := v18) rfl rfl ?_
                refine z_imul rfl jk_90 rfl (by omega) (fun v19 ev19 => ?_)
                refine z_iadd rfl jk_20 rfl (by omega) (fun v20 ev20 => ?_)
                refine x_iret rfl rfl ?_
                show jX m_X12_nameAt 5 0 0 7 [(0, .ref 125), (1, .int v11), (2, .int 0)] [.int v20] _ 0 0 _
                refine x_bipush (v := 6) rfl kb_6 ?_
                refine z_iadd rfl rfl jk_6 (by omega) (fun v21 ev21 => ?_)
                refine x_bipush (v := 28) rfl kb_28 ?_
                refine x_iloadn (x := v11) rfl rfl ?_
                refine x_iconst (v := 3) rfl ki_3 ?_
                refine z_irem rfl rfl jk_3 (by omega) (by omega) (fun v22 ev22 => ?_)
                refine z_imul rfl jk_28 rfl (by omega) (fun v23 ev23 => ?_)
                refine z_iadd rfl rfl rfl (by omega) (fun v24 ev24 => ?_)
                refine x_bipush (v := 14) rfl kb_14 ?_
                refine x_iloadn (x := 0) rfl rfl ?_
                refine y_imul (v := 0) rfl (by decide) ?_
                refine z_iadd rfl rfl jk_0 (by omega) (fun v25 ev25 => ?_)
                have rnv25 := jnam (m := v11.toInt) (w := 0) (v := v25.toInt) (by omega) (by omega) (by omega)
                refine x_iret rfl rfl ?_
                show jX m_X12_isNamed 6 0 0 10 [(0, .ref 125), (1, .int v11), (2, .int 0)] [.int v25, .ref 126] _ 0 0 _
                refine z_ialdU (N := 50660) (lo := 0) (hi := 12) rfl J rfl rfl (by omega) ((show (v25.toInt - 20) % 90 = 6 ∨ (v25.toInt - 20) % 90 = 34 ∨ (v25.toInt - 20) % 90 = 62 from by omega).elim (fun q => (jrg_w (jrg_c J sg_126_20_18020_90_6_7 rfl (by omega)) (by decide))) (fun q => q.elim (fun q => (jrg_w (jrg_c J sg_126_20_18020_90_34_35 rfl (by omega)) (by decide))) (fun q => (jrg_w (jrg_c J sg_126_20_18020_90_62_63 rfl (by omega)) (by decide))))) (fun v26 qv26 ev26 => ?_)
                refine x_ifle (tgt := 18) rfl rfl (ti_le rfl jk_0 ⟨fun c27 => ?_, fun c27 => ?_⟩)
                ·
                  refine x_iconst (v := 0) rfl ki_0 ?_
                  refine x_zret rfl rfl (by decide) ?_
                  show jX m_X12_areKin 7 0 0 81 [(7, .int v14), (6, .int v11), (0, .ref 125), (1, .int l1), (2, .int l2), (3, .int l3), (4, .int l4), (5, .int l5)] [.int 0] _ 0 0 _
                  refine x_ifeq (tgt := 118) rfl rfl (ti_eq jk_0 jk_0 (br_t (by omega) ?_))
                  exact jX.sub (jsb_c rfl (jsb_c rfl (jsb_c rfl (jsb_c rfl (jsb_c rfl (jsb_c rfl (jsb_c rfl (jsb_c rfl jsb_n)))))))) (ct_X12_areKin_r125_118 hD hQ k5 ih l1 l2 l3 l4 l5 v11 v14 h (jr_of rfl (by omega)) (jr_of rfl (by omega)) (jr_of rfl (by omega)) (jr_of rfl (by omega)) (jr_of rfl (by omega)) (jr_of rfl (by omega)) (jr_of rfl (by omega)) (by omega) (by omega) J Sm)
                ·
                  refine x_iconst (v := 1) rfl ki_1 ?_
                  refine x_goto (tgt := 19) rfl rfl ?_
                  refine x_zret rfl rfl (by decide) ?_
                  show jX m_X12_areKin 7 0 0 81 [(7, .int v14), (6, .int v11), (0, .ref 125), (1, .int l1), (2, .int l2), (3, .int l3), (4, .int l4), (5, .int l5)] [.int 1] _ 0 0 _
                  refine x_ifeq (tgt := 118) rfl rfl (ti_eq jk_1 jk_0 (br_f (by omega) ?_))
                  refine x_aloadn (x := 125) rfl rfl ?_
                  refine x_iload (x := v11) rfl rfl ?_
                  refine x_iconst (v := 1) rfl ki_1 ?_
                  refine x_inv (N := m_X12_isNamed) (As := [.int v11, .int 1]) (b := 125) (st := []) (dx9 := 6) (mc := 0) (ms := 0) (host := "") 12 rfl t_X12_isNamed ⟨Or.inl q_12_315, i_X12_isNamed.1, i_X12_isNamed.2⟩ ⟨by decide, rfl⟩ (congrArg Prod.fst (J.1.1 125 (12, 92) rfl)) rfl (by decide) rfl rfl ⟨by decide, by decide⟩ (jC.of rfl k_X12_isNamed rfl ?_)
                  show jX m_X12_isNamed 6 0 0 0 [(0, .ref 125), (1, .int v11), (2, .int 1)] [] _ 0 0 _
                  refine x_aloadn (x := 125) rfl rfl ?_
                  refine z_getR (N := 92) (b := 126) 12 2 rfl f_12_8 rfl J rfl 16002 ⟨rfl, rfl⟩ rfl ?_
                  refine x_aloadn (x := 125) rfl rfl ?_
                  refine x_iloadn (x := v11) rfl rfl ?_
                  refine x_iloadn (x := 1) rfl rfl ?_
                  refine x_inv (N := m_X12_nameAt) (As := [.int v11, .int 1]) (b := 125) (st := [.ref 126]) (dx9 := 5) (mc := 0) (ms := 0) (host := "") 12 rfl t_X12_nameAt ⟨Or.inl q_12_311, i_X12_nameAt.1, i_X12_nameAt.2⟩ ⟨by decide, rfl⟩ (congrArg Prod.fst (J.1.1 125 (12, 92) rfl)) rfl (by decide) rfl rfl ⟨by decide, by decide⟩ (jC.of rfl k_X12_nameAt rfl ?_)
                  show jX m_X12_nameAt 5 0 0 0 [(0, .ref 125), (1, .int v11), (2, .int 1)] [] _ 0 0 _
                  refine x_aloadn (x := 125) rfl rfl ?_
                  refine x_iloadn (x := v11) rfl rfl ?_
                  refine x_iconst (v := 3) rfl ki_3 ?_
                  refine z_idiv rfl rfl jk_3 (by omega) (by omega) (fun v28 ev28 => ?_)
                  refine x_inv (N := m_X12_at) (As := [.int v28]) (b := 125) (st := []) (dx9 := 4) (mc := 0) (ms := 0) (host := "") 12 rfl t_X12_at ⟨Or.inl q_12_254, i_X12_at.1, i_X12_at.2⟩ ⟨by decide, rfl⟩ (congrArg Prod.fst (J.1.1 125 (12, 92) rfl)) rfl (by decide) rfl rfl ⟨by decide, by decide⟩ (jC.of rfl k_X12_at rfl ?_)
                  show jX m_X12_at 4 0 0 0 [(0, .ref 125), (1, .int v28)] [] _ 0 0 _
                  refine x_bipush (v := 20) rfl kb_20 ?_
                  refine x_bipush (v := 90) rfl kb_90 ?_
                  refine x_iloadn (x := v28) rfl rfl ?_
                  refine z_imul rfl jk_90 rfl (by omega) (fun v29 ev29 => ?_)
                  refine z_iadd rfl jk_20 rfl (by omega) (fun v30 ev30 => ?_)
                  refine x_iret rfl rfl ?_
                  show jX m_X12_nameAt 5 0 0 7 [(0, .ref 125), (1, .int v11), (2, .int 1)] [.int v30] _ 0 0 _
                  refine x_bipush (v := 6) rfl kb_6 ?_
                  refine z_iadd rfl rfl jk_6 (by omega) (fun v31 ev31 => ?_)
                  refine x_bipush (v := 28) rfl kb_28 ?_
                  refine x_iloadn (x := v11) rfl rfl ?_
                  refine x_iconst (v := 3) rfl ki_3 ?_
                  refine z_irem rfl rfl jk_3 (by omega) (by omega) (fun v32 ev32 => ?_)
                  refine z_imul rfl jk_28 rfl (by omega) (fun v33 ev33 => ?_)
                  refine z_iadd rfl rfl rfl (by omega) (fun v34 ev34 => ?_)
                  refine x_bipush (v := 14) rfl kb_14 ?_
                  refine x_iloadn (x := 1) rfl rfl ?_
                  refine y_imul (v := 14) rfl (by decide) ?_
                  refine z_iadd rfl rfl jk_14 (by omega) (fun v35 ev35 => ?_)
                  have rnv35 := jnam (m := v11.toInt) (w := 1) (v := v35.toInt) (by omega) (by omega) (by omega)
                  refine x_iret rfl rfl ?_
                  show jX m_X12_isNamed 6 0 0 10 [(0, .ref 125), (1, .int v11), (2, .int 1)] [.int v35, .ref 126] _ 0 0 _
                  refine z_ialdU (N := 50660) (lo := 0) (hi := 12) rfl J rfl rfl (by omega) ((show (v35.toInt - 20) % 90 = 20 ∨ (v35.toInt - 20) % 90 = 48 ∨ (v35.toInt - 20) % 90 = 76 from by omega).elim (fun q => (jrg_w (jrg_c J sg_126_20_18020_90_20_21 rfl (by omega)) (by decide))) (fun q => q.elim (fun q => (jrg_w (jrg_c J sg_126_20_18020_90_48_49 rfl (by omega)) (by decide))) (fun q => (jrg_w (jrg_c J sg_126_20_18020_90_76_77 rfl (by omega)) (by decide))))) (fun v36 qv36 ev36 => ?_)
                  refine x_ifle (tgt := 18) rfl rfl (ti_le rfl jk_0 ⟨fun c37 => ?_, fun c37 => ?_⟩)
                  ·
                    refine x_iconst (v := 0) rfl ki_0 ?_
                    refine x_zret rfl rfl (by decide) ?_
                    show jX m_X12_areKin 7 0 0 91 [(7, .int v14), (6, .int v11), (0, .ref 125), (1, .int l1), (2, .int l2), (3, .int l3), (4, .int l4), (5, .int l5)] [.int 0] _ 0 0 _
                    refine x_ifeq (tgt := 118) rfl rfl (ti_eq jk_0 jk_0 (br_t (by omega) ?_))
                    exact jX.sub (jsb_c rfl (jsb_c rfl (jsb_c rfl (jsb_c rfl (jsb_c rfl (jsb_c rfl (jsb_c rfl (jsb_c rfl jsb_n)))))))) (ct_X12_areKin_r125_118 hD hQ k5 ih l1 l2 l3 l4 l5 v11 v14 h (jr_of rfl (by omega)) (jr_of rfl (by omega)) (jr_of rfl (by omega)) (jr_of rfl (by omega)) (jr_of rfl (by omega)) (jr_of rfl (by omega)) (jr_of rfl (by omega)) (by omega) (by omega) J Sm)
                  ·
                    refine x_iconst (v := 1) rfl ki_1 ?_
                    refine x_goto (tgt := 19) rfl rfl ?_
                    refine x_zret rfl rfl (by decide) ?_
                    show jX m_X12_areKin 7 0 0 91 [(7, .int v14), (6, .int v11), (0, .ref 125), (1, .int l1), (2, .int l2), (3, .int l3), (4, .int l4), (5, .int l5)] [.int 1] _ 0 0 _
                    refine x_ifeq (tgt := 118) rfl rfl (ti_eq jk_1 jk_0 (br_f (by omega) ?_))
                    refine x_aloadn (x := 125) rfl rfl ?_
                    refine x_iload (x := v14) rfl rfl ?_
                    refine x_iconst (v := 0) rfl ki_0 ?_
                    refine x_inv (N := m_X12_isNamed) (As := [.int v14, .int 0]) (b := 125) (st := []) (dx9 := 6) (mc := 0) (ms := 0) (host := "") 12 rfl t_X12_isNamed ⟨Or.inl q_12_315, i_X12_isNamed.1, i_X12_isNamed.2⟩ ⟨by decide, rfl⟩ (congrArg Prod.fst (J.1.1 125 (12, 92) rfl)) rfl (by decide) rfl rfl ⟨by decide, by decide⟩ (jC.of rfl k_X12_isNamed rfl ?_)
                    show jX m_X12_isNamed 6 0 0 0 [(0, .ref 125), (1, .int v14), (2, .int 0)] [] _ 0 0 _
                    refine x_aloadn (x := 125) rfl rfl ?_
                    refine z_getR (N := 92) (b := 126) 12 2 rfl f_12_8 rfl J rfl 16002 ⟨rfl, rfl⟩ rfl ?_
                    refine x_aloadn (x := 125) rfl rfl ?_
                    refine x_iloadn (x := v14) rfl rfl ?_
                    refine x_iloadn (x := 0) rfl rfl ?_
                    refine x_inv (N := m_X12_nameAt) (As := [.int v14, .int 0]) (b := 125) (st := [.ref 126]) (dx9 := 5) (mc := 0) (ms := 0) (host := "") 12 rfl t_X12_nameAt ⟨Or.inl q_12_311, i_X12_nameAt.1, i_X12_nameAt.2⟩ ⟨by decide, rfl⟩ (congrArg Prod.fst (J.1.1 125 (12, 92) rfl)) rfl (by decide) rfl rfl ⟨by decide, by decide⟩ (jC.of rfl k_X12_nameAt rfl ?_)
                    show jX m_X12_nameAt 5 0 0 0 [(0, .ref 125), (1, .int v14), (2, .int 0)] [] _ 0 0 _
                    refine x_aloadn (x := 125) rfl rfl ?_
                    refine x_iloadn (x := v14) rfl rfl ?_
                    refine x_iconst (v := 3) rfl ki_3 ?_
                    refine z_idiv rfl rfl jk_3 (by omega) (by omega) (fun v38 ev38 => ?_)
                    refine x_inv (N := m_X12_at) (As := [.int v38]) (b := 125) (st := []) (dx9 := 4) (mc := 0) (ms := 0) (host := "") 12 rfl t_X12_at ⟨Or.inl q_12_254, i_X12_at.1, i_X12_at.2⟩ ⟨by decide, rfl⟩ (congrArg Prod.fst (J.1.1 125 (12, 92) rfl)) rfl (by decide) rfl rfl ⟨by decide, by decide⟩ (jC.of rfl k_X12_at rfl ?_)
                    show jX m_X12_at 4 0 0 0 [(0, .ref 125), (1, .int v38)] [] _ 0 0 _
                    refine x_bipush (v := 20) rfl kb_20 ?_
                    refine x_bipush (v := 90) rfl kb_90 ?_
                    refine x_iloadn (x := v38) rfl rfl ?_
                    refine z_imul rfl jk_90 rfl (by omega) (fun v39 ev39 => ?_)
                    refine z_iadd rfl jk_20 rfl (by omega) (fun v40 ev40 => ?_)
                    refine x_iret rfl rfl ?_
                    show jX m_X12_nameAt 5 0 0 7 [(0, .ref 125), (1, .int v14), (2, .int 0)] [.int v40] _ 0 0 _
                    refine x_bipush (v := 6) rfl kb_6 ?_
                    refine z_iadd rfl rfl jk_6 (by omega) (fun v41 ev41 => ?_)
                    refine x_bipush (v := 28) rfl kb_28 ?_
                    refine x_iloadn (x := v14) rfl rfl ?_
                    refine x_iconst (v := 3) rfl ki_3 ?_
                    refine z_irem rfl rfl jk_3 (by omega) (by omega) (fun v42 ev42 => ?_)
                    refine z_imul rfl jk_28 rfl (by omega) (fun v43 ev43 => ?_)
                    refine z_iadd rfl rfl rfl (by omega) (fun v44 ev44 => ?_)
                    refine x_bipush (v := 14) rfl kb_14 ?_
                    refine x_iloadn (x := 0) rfl rfl ?_
                    refine y_imul (v := 0) rfl (by decide) ?_
                    refine z_iadd rfl rfl jk_0 (by omega) (fun v45 ev45 => ?_)
                    have rnv45 := jnam (m := v14.toInt) (w := 0) (v := v45.toInt) (by omega) (by omega) (by omega)
                    refine x_iret rfl rfl ?_
                    show jX m_X12_isNamed 6 0 0 10 [(0, .ref 125), (1, .int v14), (2, .int 0)] [.int v45, .ref 126] _ 0 0 _
                    refine z_ialdU (N := 50660) (lo := 0) (hi := 12) rfl J rfl rfl (by omega) ((show (v45.toInt - 20) % 90 = 6 ∨ (v45.toInt - 20) % 90 = 34 ∨ (v45.toInt - 20) % 90 = 62 from by omega).elim (fun q => (jrg_w (jrg_c J sg_126_20_18020_90_6_7 rfl (by omega)) (by decide))) (fun q => q.elim (fun q => (jrg_w (jrg_c J sg_126_20_18020_90_34_35 rfl (by omega)) (by decide))) (fun q => (jrg_w (jrg_c J sg_126_20_18020_90_62_63 rfl (by omega)) (by decide))))) (fun v46 qv46 ev46 => ?_)
                    refine x_ifle (tgt := 18) rfl rfl (ti_le rfl jk_0 ⟨fun c47 => ?_, fun c47 => ?_⟩)
                    ·
                      refine x_iconst (v := 0) rfl ki_0 ?_
                      refine x_zret rfl rfl (by decide) ?_
                      show jX m_X12_areKin 7 0 0 101 [(7, .int v14), (6, .int v11), (0, .ref 125), (1, .int l1), (2, .int l2), (3, .int l3), (4, .int l4), (5, .int l5)] [.int 0] _ 0 0 _
                      refine x_ifeq (tgt := 118) rfl rfl (ti_eq jk_0 jk_0 (br_t (by omega) ?_))
                      exact jX.sub (jsb_c rfl (jsb_c rfl (jsb_c rfl (jsb_c rfl (jsb_c rfl (jsb_c rfl (jsb_c rfl (jsb_c rfl jsb_n)))))))) (ct_X12_areKin_r125_118 hD hQ k5 ih l1 l2 l3 l4 l5 v11 v14 h (jr_of rfl (by omega)) (jr_of rfl (by omega)) (jr_of rfl (by omega)) (jr_of rfl (by omega)) (jr_of rfl (by omega)) (jr_of rfl (by omega)) (jr_of rfl (by omega)) (by omega) (by omega) J Sm)
                    ·
                      refine x_iconst (v := 1) rfl ki_1 ?_
                      refine x_goto (tgt := 19) rfl rfl ?_
                      refine x_zret rfl rfl (by decide) ?_
                      show jX m_X12_areKin 7 0 0 101 [(7, .int v14), (6, .int v11), (0, .ref 125), (1, .int l1), (2, .int l2), (3, .int l3), (4, .int l4), (5, .int l5)] [.int 1] _ 0 0 _
                      refine x_ifeq (tgt := 118) rfl rfl (ti_eq jk_1 jk_0 (br_f (by omega) ?_))
                      refine x_aloadn (x := 125) rfl rfl ?_
                      refine x_iload (x := v14) rfl rfl ?_
                      refine x_iconst (v := 1) rfl ki_1 ?_
                      refine x_inv (N := m_X12_isNamed) (As := [.int v14, .int 1]) (b := 125) (st := []) (dx9 := 6) (mc := 0) (ms := 0) (host := "") 12 rfl t_X12_isNamed ⟨Or.inl q_12_315, i_X12_isNamed.1, i_X12_isNamed.2⟩ ⟨by decide, rfl⟩ (congrArg Prod.fst (J.1.1 125 (12, 92) rfl)) rfl (by decide) rfl rfl ⟨by decide, by decide⟩ (jC.of rfl k_X12_isNamed rfl ?_)
                      show jX m_X12_isNamed 6 0 0 0 [(0, .ref 125), (1, .int v14), (2, .int 1)] [] _ 0 0 _
                      refine x_aloadn (x := 125) rfl rfl ?_
                      refine z_getR (N := 92) (b := 126) 12 2 rfl f_12_8 rfl J rfl 16002 ⟨rfl, rfl⟩ rfl ?_
                      refine x_aloadn (x := 125) rfl rfl ?_
                      refine x_iloadn (x := v14) rfl rfl ?_
                      refine x_iloadn (x := 1) rfl rfl ?_
                      refine x_inv (N := m_X12_nameAt) (As := [.int v14, .int 1]) (b := 125) (st := [.ref 126]) (dx9 := 5) (mc := 0) (ms := 0) (host := "") 12 rfl t_X12_nameAt ⟨Or.inl q_12_311, i_X12_nameAt.1, i_X12_nameAt.2⟩ ⟨by decide, rfl⟩ (congrArg Prod.fst (J.1.1 125 (12, 92) rfl)) rfl (by decide) rfl rfl ⟨by decide, by decide⟩ (jC.of rfl k_X12_nameAt rfl ?_)
                      show jX m_X12_nameAt 5 0 0 0 [(0, .ref 125), (1, .int v14), (2, .int 1)] [] _ 0 0 _
                      refine x_aloadn (x := 125) rfl rfl ?_
                      refine x_iloadn (x := v14) rfl rfl ?_
                      refine x_iconst (v := 3) rfl ki_3 ?_
                      refine z_idiv rfl rfl jk_3 (by omega) (by omega) (fun v48 ev48 => ?_)
                      refine x_inv (N := m_X12_at) (As := [.int v48]) (b := 125) (st := []) (dx9 := 4) (mc := 0) (ms := 0) (host := "") 12 rfl t_X12_at ⟨Or.inl q_12_254, i_X12_at.1, i_X12_at.2⟩ ⟨by decide, rfl⟩ (congrArg Prod.fst (J.1.1 125 (12, 92) rfl)) rfl (by decide) rfl rfl ⟨by decide, by decide⟩ (jC.of rfl k_X12_at rfl ?_)
                      show jX m_X12_at 4 0 0 0 [(0, .ref 125), (1, .int v48)] [] _ 0 0 _
                      refine x_bipush (v := 20) rfl kb_20 ?_
                      refine x_bipush (v := 90) rfl kb_90 ?_
                      refine x_iloadn (x := v48) rfl rfl ?_
                      refine z_imul rfl jk_90 rfl (by omega) (fun v49 ev49 => ?_)
                      refine z_iadd rfl jk_20 rfl (by omega) (fun v50 ev50 => ?_)
                      refine x_iret rfl rfl ?_
                      show jX m_X12_nameAt 5 0 0 7 [(0, .ref 125), (1, .int v14), (2, .int 1)] [.int v50] _ 0 0 _
                      refine x_bipush (v := 6) rfl kb_6 ?_
                      refine z_iadd rfl rfl jk_6 (by omega) (fun v51 ev51 => ?_)
                      refine x_bipush (v := 28) rfl kb_28 ?_
                      refine x_iloadn (x := v14) rfl rfl ?_
                      refine x_iconst (v := 3) rfl ki_3 ?_
                      refine z_irem rfl rfl jk_3 (by omega) (by omega) (fun v52 ev52 => ?_)
                      refine z_imul rfl jk_28 rfl (by omega) (fun v53 ev53 => ?_)
                      refine z_iadd rfl rfl rfl (by omega) (fun v54 ev54 => ?_)
                      refine x_bipush (v := 14) rfl kb_14 ?_
                      refine x_iloadn (x := 1) rfl rfl ?_
                      refine y_imul (v := 14) rfl (by decide) ?_
                      refine z_iadd rfl rfl jk_14 (by omega) (fun v55 ev55 => ?_)
                      have rnv55 := jnam (m := v14.toInt) (w := 1) (v := v55.toInt) (by omega) (by omega) (by omega)
                      refine x_iret rfl rfl ?_
                      show jX m_X12_isNamed 6 0 0 10 [(0, .ref 125), (1, .int v14), (2, .int 1)] [.int v55, .ref 126] _ 0 0 _
                      refine z_ialdU (N := 50660) (lo := 0) (hi := 12) rfl J rfl rfl (by omega) ((show (v55.toInt - 20) % 90 = 20 ∨ (v55.toInt - 20) % 90 = 48 ∨ (v55.toInt - 20) % 90 = 76 from by omega).elim (fun q => (jrg_w (jrg_c J sg_126_20_18020_90_20_21 rfl (by omega)) (by decide))) (fun q => q.elim (fun q => (jrg_w (jrg_c J sg_126_20_18020_90_48_49 rfl (by omega)) (by decide))) (fun q => (jrg_w (jrg_c J sg_126_20_18020_90_76_77 rfl (by omega)) (by decide))))) (fun v56 qv56 ev56 => ?_)
                      refine x_ifle (tgt := 18) rfl rfl (ti_le rfl jk_0 ⟨fun c57 => ?_, fun c57 => ?_⟩)
                      ·
                        refine x_iconst (v := 0) rfl ki_0 ?_
                        refine x_zret rfl rfl (by decide) ?_
                        show jX m_X12_areKin 7 0 0 111 [(7, .int v14), (6, .int v11), (0, .ref 125), (1, .int l1), (2, .int l2), (3, .int l3), (4, .int l4), (5, .int l5)] [.int 0] _ 0 0 _
                        refine x_ifeq (tgt := 118) rfl rfl (ti_eq jk_0 jk_0 (br_t (by omega) ?_))
                        exact jX.sub (jsb_c rfl (jsb_c rfl (jsb_c rfl (jsb_c rfl (jsb_c rfl (jsb_c rfl (jsb_c rfl (jsb_c rfl jsb_n)))))))) (ct_X12_areKin_r125_118 hD hQ k5 ih l1 l2 l3 l4 l5 v11 v14 h (jr_of rfl (by omega)) (jr_of rfl (by omega)) (jr_of rfl (by omega)) (jr_of rfl (by omega)) (jr_of rfl (by omega)) (jr_of rfl (by omega)) (jr_of rfl (by omega)) (by omega) (by omega) J Sm)
                      ·
                        refine x_iconst (v := 1) rfl ki_1 ?_
                        refine x_goto (tgt := 19) rfl rfl ?_
                        refine x_zret rfl rfl (by decide) ?_
                        show jX m_X12_areKin 7 0 0 111 [(7, .int v14), (6, .int v11), (0, .ref 125), (1, .int l1), (2, .int l2), (3, .int l3), (4, .int l4), (5, .int l5)] [.int 1] _ 0 0 _
                        refine x_ifeq (tgt := 118) rfl rfl (ti_eq jk_1 jk_0 (br_f (by omega) ?_))
                        refine x_iconst (v := 1) rfl ki_1 ?_
                        refine x_goto (tgt := 119) rfl rfl ?_
                        exact jX.sub (jsb_c rfl (jsb_c rfl (jsb_c rfl (jsb_c rfl (jsb_c rfl (jsb_c rfl (jsb_c rfl (jsb_c rfl jsb_n)))))))) (ct_X12_areKin_r125_300119 hD hQ k5 ih l1 l2 l3 l4 l5 v11 v14 h (jr_of rfl (by omega)) (jr_of rfl (by omega)) (jr_of rfl (by omega)) (jr_of rfl (by omega)) (jr_of rfl (by omega)) (jr_of rfl (by omega)) (jr_of rfl (by omega)) (by omega) (by omega) J Sm)
      ·
        refine x_iconst (v := 2) rfl ki_2 ?_
        refine x_goto (tgt := 18) rfl rfl ?_
        refine x_iret rfl rfl ?_
        show jX m_X12_areKin 7 0 0 35 [(0, .ref 125), (1, .int l1), (2, .int l2), (3, .int l3), (4, .int l4), (5, .int l5)] [.int 2, .int l5] _ 0 0 _
        refine x_icge (tgt := 165) rfl rfl (ti_ge rfl jk_2 ⟨fun c58 => ?_, fun c58 => ?_⟩)
        ·
          refine z_iinc (x := l4) (lsx9 := fun v59 => [(4, .int v59), (0, .ref 125), (1, .int l1), (2, .int l2), (3, .int l3), (5, .int l5)]) rfl rfl rfl jko_1 (by omega) rfl (fun _ => rfl) (fun v59 ev59 => ?_)
          refine x_goto (tgt := 5) rfl rfl ?_
          exact jX.sub (jsb_c rfl (jsb_c rfl (jsb_c rfl (jsb_c rfl (jsb_c rfl jsb_n))))) (k5 l1 l2 l3 v59 h (by omega) (jr_of rfl (by omega)) (jr_of rfl (by omega)) (jr_of rfl (by omega)) (jr_of rfl (by omega)) J Sm)
        ·
          refine x_iloadn (x := l1) rfl rfl ?_
          refine x_iconst (v := 3) rfl ki_3 ?_
          refine z_idiv rfl rfl jk_3 (by omega) (by omega) (fun v60 ev60 => ?_)
          refine x_iconst (v := 3) rfl ki_3 ?_
          refine z_imul rfl rfl jk_3 (by omega) (fun v61 ev61 => ?_)
          refine x_iload (x := l4) rfl rfl ?_
          refine z_iadd rfl rfl rfl (by omega) (fun v62 ev62 => ?_)
          refine x_istore (lsx9 := [(6, .int v62), (0, .ref 125), (1, .int l1), (2, .int l2), (3, .int l3), (4, .int l4), (5, .int l5)]) rfl rfl rfl ?_
          refine x_iloadn (x := l2) rfl rfl ?_
          refine x_iconst (v := 3) rfl ki_3 ?_
          refine z_idiv rfl rfl jk_3 (by omega) (by omega) (fun v63 ev63 => ?_)
          refine x_iconst (v := 3) rfl ki_3 ?_
          refine z_imul rfl rfl jk_3 (by omega) (fun v64 ev64 => ?_)
          refine x_iload (x := l5) rfl rfl ?_
          refine z_iadd rfl rfl rfl (by omega) (fun v65 ev65 => ?_)
          refine x_istore (lsx9 := [(7, .int v65), (6, .int v62), (0, .ref 125), (1, .int l1), (2, .int l2), (3, .int l3), (4, .int l4), (5, .int l5)]) rfl rfl rfl ?_
          refine x_iloadn (x := l3) rfl rfl ?_
          refine x_ifne (tgt := 118) rfl rfl (ti_ne rfl jk_0 ⟨fun c66 => ?_, fun c66 => ?_⟩)
          ·
            exact jX.sub (jsb_c rfl (jsb_c rfl (jsb_c rfl (jsb_c rfl (jsb_c rfl (jsb_c rfl (jsb_c rfl (jsb_c rfl jsb_n)))))))) (ct_X12_areKin_r125_118 hD hQ k5 ih l1 l2 l3 l4 l5 v62 v65 h (jr_of rfl (by omega)) (jr_of rfl (by omega)) (jr_of rfl (by omega)) (jr_of rfl (by omega)) (jr_of rfl (by omega)) (jr_of rfl (by omega)) (jr_of rfl (by omega)) (by omega) (by omega) J Sm)
          ·
            refine x_iload (x := v62) rfl rfl ?_
            refine x_iloadn (x := l1) rfl rfl ?_
            refine x_iceq (tgt := 118) rfl rfl (ti_eq rfl rfl ⟨fun c67 => ?_, fun c67 => ?_⟩)
            ·
              exact jX.sub (jsb_c rfl (jsb_c rfl (jsb_c rfl (jsb_c rfl (jsb_c rfl (jsb_c rfl (jsb_c rfl (jsb_c rfl jsb_n)))))))) (ct_X12_areKin_r125_118 hD hQ k5 ih l1 l2 l3 l4 l5 v62 v65 h (jr_of rfl (by omega)) (jr_of rfl (by omega)) (jr_of rfl (by omega)) (jr_of rfl (by omega)) (jr_of rfl (by omega)) (jr_of rfl (by omega)) (jr_of rfl (by omega)) (by omega) (by omega) J Sm)
            ·
              refine x_iload (x := v65) rfl rfl ?_
              refine x_iloadn (x := l2) rfl rfl ?_
              refine x_iceq (tgt := 118) rfl rfl (ti_eq rfl rfl ⟨fun c68 => ?_, fun c68 => ?_⟩)
              ·
                exact jX.sub (jsb_c rfl (jsb_c rfl (jsb_c rfl (jsb_c rfl (jsb_c rfl (jsb_c rfl (jsb_c rfl (jsb_c rfl jsb_n)))))))) (ct_X12_areKin_r125_118 hD hQ k5 ih l1 l2 l3 l4 l5 v62 v65 h (jr_of rfl (by omega)) (jr_of rfl (by omega)) (jr_of rfl (by omega)) (jr_of rfl (by omega)) (jr_of rfl (by omega)) (jr_of rfl (by omega)) (jr_of rfl (by omega)) (by omega) (by omega) J Sm)
              ·
                refine x_aloadn (x := 125) rfl rfl ?_
                refine x_iload (x := v62) rfl rfl ?_
                refine x_iconst (v := 0) rfl ki_0 ?_
                refine x_inv (N := m_X12_isNamed) (As := [.int v62, .int 0]) (b := 125) (st := []) (dx9 := 6) (mc := 0) (ms := 0) (host := "") 12 rfl t_X12_isNamed ⟨Or.inl q_12_315, i_X12_isNamed.1, i_X12_isNamed.2⟩ ⟨by decide, rfl⟩ (congrArg Prod.fst (J.1.1 125 (12, 92) rfl)) rfl (by decide) rfl rfl ⟨by decide, by decide⟩ (jC.of rfl k_X12_isNamed rfl ?_)
                show jX m_X12_isNamed 6 0 0 0 [(0, .ref 125), (1, .int v62), (2, .int 0)] [] _ 0 0 _
                refine x_aloadn (x := 125) rfl rfl ?_
                refine z_getR (N := 92) (b := 126) 12 2 rfl f_12_8 rfl J rfl 16002 ⟨rfl, rfl⟩ rfl ?_
                refine x_aloadn (x := 125) rfl rfl ?_
                refine x_iloadn (x := v62) rfl rfl ?_
                refine x_iloadn (x := 0) rfl rfl ?_
                refine x_inv (N := m_X12_nameAt) (As := [.int v62, .int 0]) (b := 125) (st := [.ref 126]) (dx9 := 5) (mc := 0) (ms := 0) (host := "") 12 rfl t_X12_nameAt ⟨Or.inl q_12_311, i_X12_nameAt.1, i_X12_nameAt.2⟩ ⟨by decide, rfl⟩ (congrArg Prod.fst (J.1.1 125 (12, 92) rfl)) rfl (by decide) rfl rfl ⟨by decide, by decide⟩ (jC.of rfl k_X12_nameAt rfl ?_)
                show jX m_X12_nameAt 5 0 0 0 [(0, .ref 125), (1, .int v62), (2, .int 0)] [] _ 0 0 _
                refine x_aloadn (x := 125) rfl rfl ?_
                refine x_iloadn (x := v62) rfl rfl ?_
                refine x_iconst (v := 3) rfl ki_3 ?_
                refine z_idiv rfl rfl jk_3 (by omega) (by omega) (fun v69 ev69 => ?_)
                refine x_inv (N := m_X12_at) (As := [.int v69]) (b := 125) (st := []) (dx9 := 4) (mc := 0) (ms := 0) (host := "") 12 rfl t_X12_at ⟨Or.inl q_12_254, i_X12_at.1, i_X12_at.2⟩ ⟨by decide, rfl⟩ (congrArg Prod.fst (J.1.1 125 (12, 92) rfl)) rfl (by decide) rfl rfl ⟨by decide, by decide⟩ (jC.of rfl k_X12_at rfl ?_)
                show jX m_X12_at 4 0 0 0 [(0, .ref 125), (1, .int v69)] [] _ 0 0 _
                refine x_bipush (v := 20) rfl kb_20 ?_
                refine x_bipush (v := 90) rfl kb_90 ?_
                refine x_iloadn (x := v69) rfl rfl ?_
                refine z_imul rfl jk_90 rfl (by omega) (fun v70 ev70 => ?_)
                refine z_iadd rfl jk_20 rfl (by omega) (fun v71 ev71 => ?_)
                refine x_iret rfl rfl ?_
                show jX m_X12_nameAt 5 0 0 7 [(0, .ref 125), (1, .int v62), (2, .int 0)] [.int v71] _ 0 0 _
                refine x_bipush (v := 6) rfl kb_6 ?_
                refine z_iadd rfl rfl jk_6 (by omega) (fun v72 ev72 => ?_)
                refine x_bipush (v := 28) rfl kb_28 ?_
                refine x_iloadn (x := v62) rfl rfl ?_
                refine x_iconst (v := 3) rfl ki_3 ?_
                refine z_irem rfl rfl jk_3 (by omega) (by omega) (fun v73 ev73 => ?_)
                refine z_imul rfl jk_28 rfl (by omega) (fun v74 ev74 => ?_)
                refine z_iadd rfl rfl rfl (by omega) (fun v75 ev75 => ?_)
                refine x_bipush (v := 14) rfl kb_14 ?_
                refine x_iloadn (x := 0) rfl rfl ?_
                refine y_imul (v := 0) rfl (by decide) ?_
                refine z_iadd rfl rfl jk_0 (by omega) (fun v76 ev76 => ?_)
                have rnv76 := jnam (m := v62.toInt) (w := 0) (v := v76.toInt) (by omega) (by omega) (by omega)
                refine x_iret rfl rfl ?_
                show jX m_X12_isNamed 6 0 0 10 [(0, .ref 125), (1, .int v62), (2, .int 0)] [.int v76, .ref 126] _ 0 0 _
                refine z_ialdU (N := 50660) (lo := 0) (hi := 12) rfl J rfl rfl (by omega) ((show (v76.toInt - 20) % 90 = 6 ∨ (v76.toInt - 20) % 90 = 34 ∨ (v76.toInt - 20) % 90 = 62 from by omega).elim (fun q => (jrg_w (jrg_c J sg_126_20_18020_90_6_7 rfl (by omega)) (by decide))) (fun q => q.elim (fun q => (jrg_w (jrg_c J sg_126_20_18020_90_34_35 rfl (by omega)) (by decide))) (fun q => (jrg_w (jrg_c J sg_126_20_18020_90_62_63 rfl (by omega)) (by decide))))) (fun v77 qv77 ev77 => ?_)
                refine x_ifle (tgt := 18) rfl rfl (ti_le rfl jk_0 ⟨fun c78 => ?_, fun c78 => ?_⟩)
                ·
                  refine x_iconst (v := 0) rfl ki_0 ?_
                  refine x_zret rfl rfl (by decide) ?_
                  show jX m_X12_areKin 7 0 0 81 [(7, .int v65), (6, .int v62), (0, .ref 125), (1, .int l1), (2, .int l2), (3, .int l3), (4, .int l4), (5, .int l5)] [.int 0] _ 0 0 _
                  refine x_ifeq (tgt := 118) rfl rfl (ti_eq jk_0 jk_0 (br_t (by omega) ?_))
                  exact jX.sub (jsb_c rfl (jsb_c rfl (jsb_c rfl (jsb_c rfl (jsb_c rfl (jsb_c rfl (jsb_c rfl (jsb_c rfl jsb_n)))))))) (ct_X12_areKin_r125_118 hD hQ k5 ih l1 l2 l3 l4 l5 v62 v65 h (jr_of rfl (by omega)) (jr_of rfl (by omega)) (jr_of rfl (by omega)) (jr_of rfl (by omega)) (jr_of rfl (by omega)) (jr_of rfl (by omega)) (jr_of rfl (by omega)) (by omega) (by omega) J Sm)
                ·
                  refine x_iconst (v := 1) rfl ki_1 ?_
                  refine x_goto (tgt := 19) rfl rfl ?_
                  refine x_zret rfl rfl (by decide) ?_
                  show jX m_X12_areKin 7 0 0 81 [(7, .int v65), (6, .int v62), (0, .ref 125), (1, .int l1), (2, .int l2), (3, .int l3), (4, .int l4), (5, .int l5)] [.int 1] _ 0 0 _
                  refine x_ifeq (tgt := 118) rfl rfl (ti_eq jk_1 jk_0 (br_f (by omega) ?_))
                  refine x_aloadn (x := 125) rfl rfl ?_
                  refine x_iload (x := v62) rfl rfl ?_
                  refine x_iconst (v := 1) rfl ki_1 ?_
                  refine x_inv (N := m_X12_isNamed) (As := [.int v62, .int 1]) (b := 125) (st := []) (dx9 := 6) (mc := 0) (ms := 0) (host := "") 12 rfl t_X12_isNamed ⟨Or.inl q_12_315, i_X12_isNamed.1, i_X12_isNamed.2⟩ ⟨by decide, rfl⟩ (congrArg Prod.fst (J.1.1 125 (12, 92) rfl)) rfl (by decide) rfl rfl ⟨by decide, by decide⟩ (jC.of rfl k_X12_isNamed rfl ?_)
                  show jX m_X12_isNamed 6 0 0 0 [(0, .ref 125), (1, .int v62), (2, .int 1)] [] _ 0 0 _
                  refine x_aloadn (x := 125) rfl rfl ?_
                  refine z_getR (N := 92) (b := 126) 12 2 rfl f_12_8 rfl J rfl 16002 ⟨rfl, rfl⟩ rfl ?_
                  refine x_aloadn (x := 125) rfl rfl ?_
                  refine x_iloadn (x := v62) rfl rfl ?_
                  refine x_iloadn (x := 1) rfl rfl ?_
                  refine x_inv (N := m_X12_nameAt) (As := [.int v62, .int 1]) (b := 125) (st := [.ref 126]) (dx9 := 5) (mc := 0) (ms := 0) (host := "") 12 rfl t_X12_nameAt ⟨Or.inl q_12_311, i_X12_nameAt.1, i_X12_nameAt.2⟩ ⟨by decide, rfl⟩ (congrArg Prod.fst (J.1.1 125 (12, 92) rfl)) rfl (by decide) rfl rfl ⟨by decide, by decide⟩ (jC.of rfl k_X12_nameAt rfl ?_)
                  show jX m_X12_nameAt 5 0 0 0 [(0, .ref 125), (1, .int v62), (2, .int 1)] [] _ 0 0 _
                  refine x_aloadn (x := 125) rfl rfl ?_
                  refine x_iloadn (x := v62) rfl rfl ?_
                  refine x_iconst (v := 3) rfl ki_3 ?_
                  refine z_idiv rfl rfl jk_3 (by omega) (by omega) (fun v79 ev79 => ?_)
                  refine x_inv (N := m_X12_at) (As := [.int v79]) (b := 125) (st := []) (dx9 := 4) (mc := 0) (ms := 0) (host := "") 12 rfl t_X12_at ⟨Or.inl q_12_254, i_X12_at.1, i_X12_at.2⟩ ⟨by decide, rfl⟩ (congrArg Prod.fst (J.1.1 125 (12, 92) rfl)) rfl (by decide) rfl rfl ⟨by decide, by decide⟩ (jC.of rfl k_X12_at rfl ?_)
                  show jX m_X12_at 4 0 0 0 [(0, .ref 125), (1, .int v79)] [] _ 0 0 _
                  refine x_bipush (v := 20) rfl kb_20 ?_
                  refine x_bipush (v := 90) rfl kb_90 ?_
                  refine x_iloadn (x := v79) rfl rfl ?_
                  refine z_imul rfl jk_90 rfl (by omega) (fun v80 ev80 => ?_)
                  refine z_iadd rfl jk_20 rfl (by omega) (fun v81 ev81 => ?_)
                  refine x_iret rfl rfl ?_
                  show jX m_X12_nameAt 5 0 0 7 [(0, .ref 125), (1, .int v62), (2, .int 1)] [.int v81] _ 0 0 _
                  refine x_bipush (v := 6) rfl kb_6 ?_
                  refine z_iadd rfl rfl jk_6 (by omega) (fun v82 ev82 => ?_)
                  refine x_bipush (v := 28) rfl kb_28 ?_
                  refine x_iloadn (x := v62) rfl rfl ?_
                  refine x_iconst (v := 3) rfl ki_3 ?_
                  refine z_irem rfl rfl jk_3 (by omega) (by omega) (fun v83 ev83 => ?_)
                  refine z_imul rfl jk_28 rfl (by omega) (fun v84 ev84 => ?_)
                  refine z_iadd rfl rfl rfl (by omega) (fun v85 ev85 => ?_)
                  refine x_bipush (v := 14) rfl kb_14 ?_
                  refine x_iloadn (x := 1) rfl rfl ?_
                  refine y_imul (v := 14) rfl (by decide) ?_
                  refine z_iadd rfl rfl jk_14 (by omega) (fun v86 ev86 => ?_)
                  have rnv86 := jnam (m := v62.toInt) (w := 1) (v := v86.toInt) (by omega) (by omega) (by omega)
                  refine x_iret rfl rfl ?_
                  show jX m_X12_isNamed 6 0 0 10 [(0, .ref 125), (1, .int v62), (2, .int 1)] [.int v86, .ref 126] _ 0 0 _
                  refine z_ialdU (N := 50660) (lo := 0) (hi := 12) rfl J rfl rfl (by omega) ((show (v86.toInt - 20) % 90 = 20 ∨ (v86.toInt - 20) % 90 = 48 ∨ (v86.toInt - 20) % 90 = 76 from by omega).elim (fun q => (jrg_w (jrg_c J sg_126_20_18020_90_20_21 rfl (by omega)) (by decide))) (fun q => q.elim (fun q => (jrg_w (jrg_c J sg_126_20_18020_90_48_49 rfl (by omega)) (by decide))) (fun q => (jrg_w (jrg_c J sg_126_20_18020_90_76_77 rfl (by omega)) (by decide))))) (fun v87 qv87 ev87 => ?_)
                  refine x_ifle (tgt := 18) rfl rfl (ti_le rfl jk_0 ⟨fun c88 => ?_, fun c88 => ?_⟩)
                  ·
                    refine x_iconst (v := 0) rfl ki_0 ?_
                    refine x_zret rfl rfl (by decide) ?_
                    show jX m_X12_areKin 7 0 0 91 [(7, .int v65), (6, .int v62), (0, .ref 125), (1, .int l1), (2, .int l2), (3, .int l3), (4, .int l4), (5, .int l5)] [.int 0] _ 0 0 _
                    refine x_ifeq (tgt := 118) rfl rfl (ti_eq jk_0 jk_0 (br_t (by omega) ?_))
                    exact jX.sub (jsb_c rfl (jsb_c rfl (jsb_c rfl (jsb_c rfl (jsb_c rfl (jsb_c rfl (jsb_c rfl (jsb_c rfl jsb_n)))))))) (ct_X12_areKin_r125_118 hD hQ k5 ih l1 l2 l3 l4 l5 v62 v65 h (jr_of rfl (by omega)) (jr_of rfl (by omega)) (jr_of rfl (by omega)) (jr_of rfl (by omega)) (jr_of rfl (by omega)) (jr_of rfl (by omega)) (jr_of rfl (by omega)) (by omega) (by omega) J Sm)
                  ·
                    refine x_iconst (v := 1) rfl ki_1 ?_
                    refine x_goto (tgt := 19) rfl rfl ?_
                    refine x_zret rfl rfl (by decide) ?_
                    show jX m_X12_areKin 7 0 0 91 [(7, .int v65), (6, .int v62), (0, .ref 125), (1, .int l1), (2, .int l2), (3, .int l3), (4, .int l4), (5, .int l5)] [.int 1] _ 0 0 _
                    refine x_ifeq (tgt := 118) rfl rfl (ti_eq jk_1 jk_0 (br_f (by omega) ?_))
                    refine x_aloadn (x := 125) rfl rfl ?_
                    refine x_iload (x := v65) rfl rfl ?_
                    refine x_iconst (v := 0) rfl ki_0 ?_
                    refine x_inv (N := m_X12_isNamed) (As := [.int v65, .int 0]) (b := 125) (st := []) (dx9 := 6) (mc := 0) (ms := 0) (host := "") 12 rfl t_X12_isNamed ⟨Or.inl q_12_315, i_X12_isNamed.1, i_X12_isNamed.2⟩ ⟨by decide, rfl⟩ (congrArg Prod.fst (J.1.1 125 (12, 92) rfl)) rfl (by decide) rfl rfl ⟨by decide, by decide⟩ (jC.of rfl k_X12_isNamed rfl ?_)
                    show jX m_X12_isNamed 6 0 0 0 [(0, .ref 125), (1, .int v65), (2, .int 0)] [] _ 0 0 _
                    refine x_aloadn (x := 125) rfl rfl ?_
                    refine z_getR (N := 92) (b := 126) 12 2 rfl f_12_8 rfl J rfl 16002 ⟨rfl, rfl⟩ rfl ?_
                    refine x_aloadn (x := 125) rfl rfl ?_
                    refine x_iloadn (x := v65) rfl rfl ?_
                    refine x_iloadn (x := 0) rfl rfl ?_
                    refine x_inv (N := m_X12_nameAt) (As := [.int v65, .int 0]) (b := 125) (st := [.ref 126]) (dx9 := 5) (mc := 0) (ms := 0) (host := "") 12 rfl t_X12_nameAt ⟨Or.inl q_12_311, i_X12_nameAt.1, i_X12_nameAt.2⟩ ⟨by decide, rfl⟩ (congrArg Prod.fst (J.1.1 125 (12, 92) rfl)) rfl (by decide) rfl rfl ⟨by decide, by decide⟩ (jC.of rfl k_X12_nameAt rfl ?_)
                    show jX m_X12_nameAt 5 0 0 0 [(0, .ref 125), (1, .int v65), (2, .int 0)] [] _ 0 0 _
                    refine x_aloadn (x := 125) rfl rfl ?_
                    refine x_iloadn (x := v65) rfl rfl ?_
                    refine x_iconst (v := 3) rfl ki_3 ?_
                    refine z_idiv rfl rfl jk_3 (by omega) (by omega) (fun v89 ev89 => ?_)
                    refine x_inv (N := m_X12_at) (As := [.int v89]) (b := 125) (st := []) (dx9 := 4) (mc := 0) (ms := 0) (host := "") 12 rfl t_X12_at ⟨Or.inl q_12_254, i_X12_at.1, i_X12_at.2⟩ ⟨by decide, rfl⟩ (congrArg Prod.fst (J.1.1 125 (12, 92) rfl)) rfl (by decide) rfl rfl ⟨by decide, by decide⟩ (jC.of rfl k_X12_at rfl ?_)
                    show jX m_X12_at 4 0 0 0 [(0, .ref 125), (1, .int v89)] [] _ 0 0 _
                    refine x_bipush (v := 20) rfl kb_20 ?_
                    refine x_bipush (v := 90) rfl kb_90 ?_
                    refine x_iloadn (x := v89) rfl rfl ?_
                    refine z_imul rfl jk_90 rfl (by omega) (fun v90 ev90 => ?_)
                    refine z_iadd rfl jk_20 rfl (by omega) (fun v91 ev91 => ?_)
                    refine x_iret rfl rfl ?_
                    show jX m_X12_nameAt 5 0 0 7 [(0, .ref 125), (1, .int v65), (2, .int 0)] [.int v91] _ 0 0 _
                    refine x_bipush (v := 6) rfl kb_6 ?_
                    refine z_iadd rfl rfl jk_6 (by omega) (fun v92 ev92 => ?_)
                    refine x_bipush (v := 28) rfl kb_28 ?_
                    refine x_iloadn (x := v65) rfl rfl ?_
                    refine x_iconst (v := 3) rfl ki_3 ?_
                    refine z_irem rfl rfl jk_3 (by omega) (by omega) (fun v93 ev93 => ?_)
                    refine z_imul rfl jk_28 rfl (by omega) (fun v94 ev94 => ?_)
                    refine z_iadd rfl rfl rfl (by omega) (fun v95 ev95 => ?_)
                    refine x_bipush (v := 14) rfl kb_14 ?_
                    refine x_iloadn (x := 0) rfl rfl ?_
                    refine y_imul (v := 0) rfl (by decide) ?_
                    refine z_iadd rfl rfl jk_0 (by omega) (fun v96 ev96 => ?_)
                    have rnv96 := jnam (m := v65.toInt) (w := 0) (v := v96.toInt) (by omega) (by omega) (by omega)
                    refine x_iret rfl rfl ?_
                    show jX m_X12_isNamed 6 0 0 10 [(0, .ref 125), (1, .int v65), (2, .int 0)] [.int v96, .ref 126] _ 0 0 _
                    refine z_ialdU (N := 50660) (lo := 0) (hi := 12) rfl J rfl rfl (by omega) ((show (v96.toInt - 20) % 90 = 6 ∨ (v96.toInt - 20) % 90 = 34 ∨ (v96.toInt - 20) % 90 = 62 from by omega).elim (fun q => (jrg_w (jrg_c J sg_126_20_18020_90_6_7 rfl (by omega)) (by decide))) (fun q => q.elim (fun q => (jrg_w (jrg_c J sg_126_20_18020_90_34_35 rfl (by omega)) (by decide))) (fun q => (jrg_w (jrg_c J sg_126_20_18020_90_62_63 rfl (by omega)) (by decide))))) (fun v97 qv97 ev97 => ?_)
                    refine x_ifle (tgt := 18) rfl rfl (ti_le rfl jk_0 ⟨fun c98 => ?_, fun c98 => ?_⟩)
                    ·
                      refine x_iconst (v := 0) rfl ki_0 ?_
                      refine x_zret rfl rfl (by decide) ?_
                      show jX m_X12_areKin 7 0 0 101 [(7, .int v65), (6, .int v62), (0, .ref 125), (1, .int l1), (2, .int l2), (3, .int l3), (4, .int l4), (5, .int l5)] [.int 0] _ 0 0 _
                      refine x_ifeq (tgt := 118) rfl rfl (ti_eq jk_0 jk_0 (br_t (by omega) ?_))
                      exact jX.sub (jsb_c rfl (jsb_c rfl (jsb_c rfl (jsb_c rfl (jsb_c rfl (jsb_c rfl (jsb_c rfl (jsb_c rfl jsb_n)))))))) (ct_X12_areKin_r125_118 hD hQ k5 ih l1 l2 l3 l4 l5 v62 v65 h (jr_of rfl (by omega)) (jr_of rfl (by omega)) (jr_of rfl (by omega)) (jr_of rfl (by omega)) (jr_of rfl (by omega)) (jr_of rfl (by omega)) (jr_of rfl (by omega)) (by omega) (by omega) J Sm)
                    ·
                      refine x_iconst (v := 1) rfl ki_1 ?_
                      refine x_goto (tgt := 19) rfl rfl ?_
                      refine x_zret rfl rfl (by decide) ?_
                      show jX m_X12_areKin 7 0 0 101 [(7, .int v65), (6, .int v62), (0, .ref 125), (1, .int l1), (2, .int l2), (3, .int l3), (4, .int l4), (5, .int l5)] [.int 1] _ 0 0 _
                      refine x_ifeq (tgt := 118) rfl rfl (ti_eq jk_1 jk_0 (br_f (by omega) ?_))
                      refine x_aloadn (x := 125) rfl rfl ?_
                      refine x_iload (x := v65) rfl rfl ?_
                      refine x_iconst (v := 1) rfl ki_1 ?_
                      refine x_inv (N := m_X12_isNamed) (As := [.int v65, .int 1]) (b := 125) (st := []) (dx9 := 6) (mc := 0) (ms := 0) (host := "") 12 rfl t_X12_isNamed ⟨Or.inl q_12_315, i_X12_isNamed.1, i_X12_isNamed.2⟩ ⟨by decide, rfl⟩ (congrArg Prod.fst (J.1.1 125 (12, 92) rfl)) rfl (by decide) rfl rfl ⟨by decide, by decide⟩ (jC.of rfl k_X12_isNamed rfl ?_)
                      show jX m_X12_isNamed 6 0 0 0 [(0, .ref 125), (1, .int v65), (2, .int 1)] [] _ 0 0 _
                      refine x_aloadn (x := 125) rfl rfl ?_
                      refine z_getR (N := 92) (b := 126) 12 2 rfl f_12_8 rfl J rfl 16002 ⟨rfl, rfl⟩ rfl ?_
                      refine x_aloadn (x := 125) rfl rfl ?_
                      refine x_iloadn (x := v65) rfl rfl ?_
                      refine x_iloadn (x := 1) rfl rfl ?_
                      refine x_inv (N := m_X12_nameAt) (As := [.int v65, .int 1]) (b := 125) (st := [.ref 126]) (dx9 := 5) (mc := 0) (ms := 0) (host := "") 12 rfl t_X12_nameAt ⟨Or.inl q_12_311, i_X12_nameAt.1, i_X12_nameAt.2⟩ ⟨by decide, rfl⟩ (congrArg Prod.fst (J.1.1 125 (12, 92) rfl)) rfl (by decide) rfl rfl ⟨by decide, by decide⟩ (jC.of rfl k_X12_nameAt rfl ?_)
                      show jX m_X12_nameAt 5 0 0 0 [(0, .ref 125), (1, .int v65), (2, .int 1)] [] _ 0 0 _
                      refine x_aloadn (x := 125) rfl rfl ?_
                      refine x_iloadn (x := v65) rfl rfl ?_
                      refine x_iconst (v := 3) rfl ki_3 ?_
                      refine z_idiv rfl rfl jk_3 (by omega) (by omega) (fun v99 ev99 => ?_)
                      refine x_inv (N := m_X12_at) (As := [.int v99]) (b := 125) (st := []) (dx9 := 4) (mc := 0) (ms := 0) (host := "") 12 rfl t_X12_at ⟨Or.inl q_12_254, i_X12_at.1, i_X12_at.2⟩ ⟨by decide, rfl⟩ (congrArg Prod.fst (J.1.1 125 (12, 92) rfl)) rfl (by decide) rfl rfl ⟨by decide, by decide⟩ (jC.of rfl k_X12_at rfl ?_)
                      show jX m_X12_at 4 0 0 0 [(0, .ref 125), (1, .int v99)] [] _ 0 0 _
                      refine x_bipush (v := 20) rfl kb_20 ?_
                      refine x_bipush (v := 90) rfl kb_90 ?_
                      refine x_iloadn (x := v99) rfl rfl ?_
                      refine z_imul rfl jk_90 rfl (by omega) (fun v100 ev100 => ?_)
                      refine z_iadd rfl jk_20 rfl (by omega) (fun v101 ev101 => ?_)
                      refine x_iret rfl rfl ?_
                      show jX m_X12_nameAt 5 0 0 7 [(0, .ref 125), (1, .int v65), (2, .int 1)] [.int v101] _ 0 0 _
                      refine x_bipush (v := 6) rfl kb_6 ?_
                      refine z_iadd rfl rfl jk_6 (by omega) (fun v102 ev102 => ?_)
                      refine x_bipush (v := 28) rfl kb_28 ?_
                      refine x_iloadn (x := v65) rfl rfl ?_
                      refine x_iconst (v := 3) rfl ki_3 ?_
                      refine z_irem rfl rfl jk_3 (by omega) (by omega) (fun v103 ev103 => ?_)
                      refine z_imul rfl jk_28 rfl (by omega) (fun v104 ev104 => ?_)
                      refine z_iadd rfl rfl rfl (by omega) (fun v105 ev105 => ?_)
                      refine x_bipush (v := 14) rfl kb_14 ?_
                      refine x_iloadn (x := 1) rfl rfl ?_
                      refine y_imul (v := 14) rfl (by decide) ?_
                      refine z_iadd rfl rfl jk_14 (by omega) (fun v106 ev106 => ?_)
                      have rnv106 := jnam (m := v65.toInt) (w := 1) (v := v106.toInt) (by omega) (by omega) (by omega)
                      refine x_iret rfl rfl ?_
                      show jX m_X12_isNamed 6 0 0 10 [(0, .ref 125), (1, .int v65), (2, .int 1)] [.int v106, .ref 126] _ 0 0 _
                      refine z_ialdU (N := 50660) (lo := 0) (hi := 12) rfl J rfl rfl (by omega) ((show (v106.toInt - 20) % 90 = 20 ∨ (v106.toInt - 20) % 90 = 48 ∨ (v106.toInt - 20) % 90 = 76 from by omega).elim (fun q => (jrg_w (jrg_c J sg_126_20_18020_90_20_21 rfl (by omega)) (by decide))) (fun q => q.elim (fun q => (jrg_w (jrg_c J sg_126_20_18020_90_48_49 rfl (by omega)) (by decide))) (fun q => (jrg_w (jrg_c J sg_126_20_18020_90_76_77 rfl (by omega)) (by decide))))) (fun v107 qv107 ev107 => ?_)
                      refine x_ifle (tgt := 18) rfl rfl (ti_le rfl jk_0 ⟨fun c108 => ?_, fun c108 => ?_⟩)
                      ·
                        refine x_iconst (v := 0) rfl ki_0 ?_
                        refine x_zret rfl rfl (by decide) ?_
                        show jX m_X12_areKin 7 0 0 111 [(7, .int v65), (6, .int v62), (0, .ref 125), (1, .int l1), (2, .int l2), (3, .int l3), (4, .int l4), (5, .int l5)] [.int 0] _ 0 0 _
                        refine x_ifeq (tgt := 118) rfl rfl (ti_eq jk_0 jk_0 (br_t (by omega) ?_))
                        exact jX.sub (jsb_c rfl (jsb_c rfl (jsb_c rfl (jsb_c rfl (jsb_c rfl (jsb_c rfl (jsb_c rfl (jsb_c rfl jsb_n)))))))) (ct_X12_areKin_r125_118 hD hQ k5 ih l1 l2 l3 l4 l5 v62 v65 h (jr_of rfl (by omega)) (jr_of rfl (by omega)) (jr_of rfl (by omega)) (jr_of rfl (by omega)) (jr_of rfl (by omega)) (jr_of rfl (by omega)) (jr_of rfl (by omega)) (by omega) (by omega) J Sm)
                      ·
                        refine x_iconst (v := 1) rfl ki_1 ?_
                        refine x_goto (tgt := 19) rfl rfl ?_
                        refine x_zret rfl rfl (by decide) ?_
                        show jX m_X12_areKin 7 0 0 111 [(7, .int v65), (6, .int v62), (0, .ref 125), (1, .int l1), (2, .int l2), (3, .int l3), (4, .int l4), (5, .int l5)] [.int 1] _ 0 0 _
                        refine x_ifeq (tgt := 118) rfl rfl (ti_eq jk_1 jk_0 (br_f (by omega) ?_))
                        refine x_iconst (v := 1) rfl ki_1 ?_
                        refine x_goto (tgt := 119) rfl rfl ?_
                        exact jX.sub (jsb_c rfl (jsb_c rfl (jsb_c rfl (jsb_c rfl (jsb_c rfl (jsb_c rfl (jsb_c rfl (jsb_c rfl jsb_n)))))))) (ct_X12_areKin_r125_300119 hD hQ k5 ih l1 l2 l3 l4 l5 v62 v65 h (jr_of rfl (by omega)) (jr_of rfl (by omega)) (jr_of rfl (by omega)) (jr_of rfl (by omega)) (jr_of rfl (by omega)) (jr_of rfl (by omega)) (jr_of rfl (by omega)) (by omega) (by omega) J Sm)
    ·
      refine x_iconst (v := 3) rfl ki_3 ?_
      refine x_goto (tgt := 18) rfl rfl ?_
      refine x_iret rfl rfl ?_
      show jX m_X12_areKin 7 0 0 35 [(0, .ref 125), (1, .int l1), (2, .int l2), (3, .int l3), (4, .int l4), (5, .int l5)] [.int 3, .int l5] _ 0 0 _
      refine x_icge (tgt := 165) rfl rfl (ti_ge rfl jk_3 ⟨fun c109 => ?_, fun c109 => ?_⟩)
      ·
        refine z_iinc (x := l4) (lsx9 := fun v110 => [(4, .int v110), (0, .ref 125), (1, .int l1), (2, .int l2), (3, .int l3), (5, .int l5)]) rfl rfl rfl jko_1 (by omega) rfl (fun _ => rfl) (fun v110 ev110 => ?_)
        refine x_goto (tgt := 5) rfl rfl ?_
        exact jX.sub (jsb_c rfl (jsb_c rfl (jsb_c rfl (jsb_c rfl (jsb_c rfl jsb_n))))) (k5 l1 l2 l3 v110 h (by omega) (jr_of rfl (by omega)) (jr_of rfl (by omega)) (jr_of rfl (by omega)) (jr_of rfl (by omega)) J Sm)
      ·
        refine x_iloadn (x := l1) rfl rfl ?_
        refine x_iconst (v := 3) rfl ki_3 ?_
        refine z_idiv rfl rfl jk_3 (by omega) (by omega) (fun v111 ev111 => ?_)
        refine x_iconst (v := 3) rfl ki_3 ?_
        refine z_imul rfl rfl jk_3 (by omega) (fun v112 ev112 => ?_)
        refine x_iload (x := l4) rfl rfl ?_
        refine z_iadd rfl rfl rfl (by omega) (fun v113 ev113 => ?_)
        refine x_istore (lsx9 := [(6, .int v113), (0, .ref 125), (1, .int l1), (2, .int l2), (3, .int l3), (4, .int l4), (5, .int l5)]) rfl rfl rfl ?_
        refine x_iloadn (x := l2) rfl rfl ?_
        refine x_iconst (v := 3) rfl ki_3 ?_
        refine z_idiv rfl rfl jk_3 (by omega) (by omega) (fun v114 ev114 => ?_)
        refine x_iconst (v := 3) rfl ki_3 ?_
        refine z_imul rfl rfl jk_3 (by omega) (fun v115 ev115 => ?_)
        refine x_iload (x := l5) rfl rfl ?_
        refine z_iadd rfl rfl rfl (by omega) (fun v116 ev116 => ?_)
        refine x_istore (lsx9 := [(7, .int v116), (6, .int v113), (0, .ref 125), (1, .int l1), (2, .int l2), (3, .int l3), (4, .int l4), (5, .int l5)]) rfl rfl rfl ?_
        refine x_iloadn (x := l3) rfl rfl ?_
        refine x_ifne (tgt := 118) rfl rfl (ti_ne rfl jk_0 ⟨fun c117 => ?_, fun c117 => ?_⟩)
        ·
          exact jX.sub (jsb_c rfl (jsb_c rfl (jsb_c rfl (jsb_c rfl (jsb_c rfl (jsb_c rfl (jsb_c rfl (jsb_c rfl jsb_n)))))))) (ct_X12_areKin_r125_118 hD hQ k5 ih l1 l2 l3 l4 l5 v113 v116 h (jr_of rfl (by omega)) (jr_of rfl (by omega)) (jr_of rfl (by omega)) (jr_of rfl (by omega)) (jr_of rfl (by omega)) (jr_of rfl (by omega)) (jr_of rfl (by omega)) (by omega) (by omega) J Sm)
        ·
          refine x_iload (x := v113) rfl rfl ?_
          refine x_iloadn (x := l1) rfl rfl ?_
          refine x_iceq (tgt := 118) rfl rfl (ti_eq rfl rfl ⟨fun c118 => ?_, fun c118 => ?_⟩)
          ·
            exact jX.sub (jsb_c rfl (jsb_c rfl (jsb_c rfl (jsb_c rfl (jsb_c rfl (jsb_c rfl (jsb_c rfl (jsb_c rfl jsb_n)))))))) (ct_X12_areKin_r125_118 hD hQ k5 ih l1 l2 l3 l4 l5 v113 v116 h (jr_of rfl (by omega)) (jr_of rfl (by omega)) (jr_of rfl (by omega)) (jr_of rfl (by omega)) (jr_of rfl (by omega)) (jr_of rfl (by omega)) (jr_of rfl (by omega)) (by omega) (by omega) J Sm)
          ·
            refine x_iload (x := v116) rfl rfl ?_
            refine x_iloadn (x := l2) rfl rfl ?_
            refine x_iceq (tgt := 118) rfl rfl (ti_eq rfl rfl ⟨fun c119 => ?_, fun c119 => ?_⟩)
            ·
              exact jX.sub (jsb_c rfl (jsb_c rfl (jsb_c rfl (jsb_c rfl (jsb_c rfl (jsb_c rfl (jsb_c rfl (jsb_c rfl jsb_n)))))))) (ct_X12_areKin_r125_118 hD hQ k5 ih l1 l2 l3 l4 l5 v113 v116 h (jr_of rfl (by omega)) (jr_of rfl (by omega)) (jr_of rfl (by omega)) (jr_of rfl (by omega)) (jr_of rfl (by omega)) (jr_of rfl (by omega)) (jr_of rfl (by omega)) (by omega) (by omega) J Sm)
            ·
              refine x_aloadn (x := 125) rfl rfl ?_
              refine x_iload (x := v113) rfl rfl ?_
              refine x_iconst (v := 0) rfl ki_0 ?_
              refine x_inv (N := m_X12_isNamed) (As := [.int v113, .int 0]) (b := 125) (st := []) (dx9 := 6) (mc := 0) (ms := 0) (host := "") 12 rfl t_X12_isNamed ⟨Or.inl q_12_315, i_X12_isNamed.1, i_X12_isNamed.2⟩ ⟨by decide, rfl⟩ (congrArg Prod.fst (J.1.1 125 (12, 92) rfl)) rfl (by decide) rfl rfl ⟨by decide, by decide⟩ (jC.of rfl k_X12_isNamed rfl ?_)
              show jX m_X12_isNamed 6 0 0 0 [(0, .ref 125), (1, .int v113), (2, .int 0)] [] _ 0 0 _
              refine x_aloadn (x := 125) rfl rfl ?_
              refine z_getR (N := 92) (b := 126) 12 2 rfl f_12_8 rfl J rfl 16002 ⟨rfl, rfl⟩ rfl ?_
              refine x_aloadn (x := 125) rfl rfl ?_
              refine x_iloadn (x := v113) rfl rfl ?_
              refine x_iloadn (x := 0) rfl rfl ?_
              refine x_inv (N := m_X12_nameAt) (As := [.int v113, .int 0]) (b := 125) (st := [.ref 126]) (dx9 := 5) (mc := 0) (ms := 0) (host := "") 12 rfl t_X12_nameAt ⟨Or.inl q_12_311, i_X12_nameAt.1, i_X12_nameAt.2⟩ ⟨by decide, rfl⟩ (congrArg Prod.fst (J.1.1 125 (12, 92) rfl)) rfl (by decide) rfl rfl ⟨by decide, by decide⟩ (jC.of rfl k_X12_nameAt rfl ?_)
              show jX m_X12_nameAt 5 0 0 0 [(0, .ref 125), (1, .int v113), (2, .int 0)] [] _ 0 0 _
              refine x_aloadn (x := 125) rfl rfl ?_
              refine x_iloadn (x := v113) rfl rfl ?_
              refine x_iconst (v := 3) rfl ki_3 ?_
              refine z_idiv rfl rfl jk_3 (by omega) (by omega) (fun v120 ev120 => ?_)
              refine x_inv (N := m_X12_at) (As := [.int v120]) (b := 125) (st := []) (dx9 := 4) (mc := 0) (ms := 0) (host := "") 12 rfl t_X12_at ⟨Or.inl q_12_254, i_X12_at.1, i_X12_at.2⟩ ⟨by decide, rfl⟩ (congrArg Prod.fst (J.1.1 125 (12, 92) rfl)) rfl (by decide) rfl rfl ⟨by decide, by decide⟩ (jC.of rfl k_X12_at rfl ?_)
              show jX m_X12_at 4 0 0 0 [(0, .ref 125), (1, .int v120)] [] _ 0 0 _
              refine x_bipush (v := 20) rfl kb_20 ?_
              refine x_bipush (v := 90) rfl kb_90 ?_
              refine x_iloadn (x := v120) rfl rfl ?_
              refine z_imul rfl jk_90 rfl (by omega) (fun v121 ev121 => ?_)
              refine z_iadd rfl jk_20 rfl (by omega) (fun v122 ev122 => ?_)
              refine x_iret rfl rfl ?_
              show jX m_X12_nameAt 5 0 0 7 [(0, .ref 125), (1, .int v113), (2, .int 0)] [.int v122] _ 0 0 _
              refine x_bipush (v := 6) rfl kb_6 ?_
              refine z_iadd rfl rfl jk_6 (by omega) (fun v123 ev123 => ?_)
              refine x_bipush (v := 28) rfl kb_28 ?_
              refine x_iloadn (x := v113) rfl rfl ?_
              refine x_iconst (v := 3) rfl ki_3 ?_
              refine z_irem rfl rfl jk_3 (by omega) (by omega) (fun v124 ev124 => ?_)
              refine z_imul rfl jk_28 rfl (by omega) (fun v125 ev125 => ?_)
              refine z_iadd rfl rfl rfl (by omega) (fun v126 ev126 => ?_)
              refine x_bipush (v := 14) rfl kb_14 ?_
              refine x_iloadn (x := 0) rfl rfl ?_
              refine y_imul (v := 0) rfl (by decide) ?_
              refine z_iadd rfl rfl jk_0 (by omega) (fun v127 ev127 => ?_)
              have rnv127 := jnam (m := v113.toInt) (w := 0) (v := v127.toInt) (by omega) (by omega) (by omega)
              refine x_iret rfl rfl ?_
              show jX m_X12_isNamed 6 0 0 10 [(0, .ref 125), (1, .int v113), (2, .int 0)] [.int v127, .ref 126] _ 0 0 _
              refine z_ialdU (N := 50660) (lo := 0) (hi := 12) rfl J rfl rfl (by omega) ((show (v127.toInt - 20) % 90 = 6 ∨ (v127.toInt - 20) % 90 = 34 ∨ (v127.toInt - 20) % 90 = 62 from by omega).elim (fun q => (jrg_w (jrg_c J sg_126_20_18020_90_6_7 rfl (by omega)) (by decide))) (fun q => q.elim (fun q => (jrg_w (jrg_c J sg_126_20_18020_90_34_35 rfl (by omega)) (by decide))) (fun q => (jrg_w (jrg_c J sg_126_20_18020_90_62_63 rfl (by omega)) (by decide))))) (fun v128 qv128 ev128 => ?_)
              refine x_ifle (tgt := 18) rfl rfl (ti_le rfl jk_0 ⟨fun c129 => ?_, fun c129 => ?_⟩)
              ·
                refine x_iconst (v := 0) rfl ki_0 ?_
                refine x_zret rfl rfl (by decide) ?_
                show jX m_X12_areKin 7 0 0 81 [(7, .int v116), (6, .int v113), (0, .ref 125), (1, .int l1), (2, .int l2), (3, .int l3), (4, .int l4), (5, .int l5)] [.int 0] _ 0 0 _
                refine x_ifeq (tgt := 118) rfl rfl (ti_eq jk_0 jk_0 (br_t (by omega) ?_))
                exact jX.sub (jsb_c rfl (jsb_c rfl (jsb_c rfl (jsb_c rfl (jsb_c rfl (jsb_c rfl (jsb_c rfl (jsb_c rfl jsb_n)))))))) (ct_X12_areKin_r125_118 hD hQ k5 ih l1 l2 l3 l4 l5 v113 v116 h (jr_of rfl (by omega)) (jr_of rfl (by omega)) (jr_of rfl (by omega)) (jr_of rfl (by omega)) (jr_of rfl (by omega)) (jr_of rfl (by omega)) (jr_of rfl (by omega)) (by omega) (by omega) J Sm)
              ·
                refine x_iconst (v := 1) rfl ki_1 ?_
                refine x_goto (tgt := 19) rfl rfl ?_
                refine x_zret rfl rfl (by decide) ?_
                show jX m_X12_areKin 7 0 0 81 [(7, .int v116), (6, .int v113), (0, .ref 125), (1, .int l1), (2, .int l2), (3, .int l3), (4, .int l4), (5, .int l5)] [.int 1] _ 0 0 _
                refine x_ifeq (tgt := 118) rfl rfl (ti_eq jk_1 jk_0 (br_f (by omega) ?_))
                refine x_aloadn (x := 125) rfl rfl ?_
                refine x_iload (x := v113) rfl rfl ?_
                refine x_iconst (v := 1) rfl ki_1 ?_
                refine x_inv (N := m_X12_isNamed) (As := [.int v113, .int 1]) (b := 125) (st := []) (dx9 := 6) (mc := 0) (ms := 0) (host := "") 12 rfl t_X12_isNamed ⟨Or.inl q_12_315, i_X12_isNamed.1, i_X12_isNamed.2⟩ ⟨by decide, rfl⟩ (congrArg Prod.fst (J.1.1 125 (12, 92) rfl)) rfl (by decide) rfl rfl ⟨by decide, by decide⟩ (jC.of rfl k_X12_isNamed rfl ?_)
                show jX m_X12_isNamed 6 0 0 0 [(0, .ref 125), (1, .int v113), (2, .int 1)] [] _ 0 0 _
                refine x_aloadn (x := 125) rfl rfl ?_
                refine z_getR (N := 92) (b := 126) 12 2 rfl f_12_8 rfl J rfl 16002 ⟨rfl, rfl⟩ rfl ?_
                refine x_aloadn (x := 125) rfl rfl ?_
                refine x_iloadn (x := v113) rfl rfl ?_
                refine x_iloadn (x := 1) rfl rfl ?_
                refine x_inv (N := m_X12_nameAt) (As := [.int v113, .int 1]) (b := 125) (st := [.ref 126]) (dx9 := 5) (mc := 0) (ms := 0) (host := "") 12 rfl t_X12_nameAt ⟨Or.inl q_12_311, i_X12_nameAt.1, i_X12_nameAt.2⟩ ⟨by decide, rfl⟩ (congrArg Prod.fst (J.1.1 125 (12, 92) rfl)) rfl (by decide) rfl rfl ⟨by decide, by decide⟩ (jC.of rfl k_X12_nameAt rfl ?_)
                show jX m_X12_nameAt 5 0 0 0 [(0, .ref 125), (1, .int v113), (2, .int 1)] [] _ 0 0 _
                refine x_aloadn (x := 125) rfl rfl ?_
                refine x_iloadn (x := v113) rfl rfl ?_
                refine x_iconst (v := 3) rfl ki_3 ?_
                refine z_idiv rfl rfl jk_3 (by omega) (by omega) (fun v130 ev130 => ?_)
                refine x_inv (N := m_X12_at) (As := [.int v130]) (b := 125) (st := []) (dx9 := 4) (mc := 0) (ms := 0) (host := "") 12 rfl t_X12_at ⟨Or.inl q_12_254, i_X12_at.1, i_X12_at.2⟩ ⟨by decide, rfl⟩ (congrArg Prod.fst (J.1.1 125 (12, 92) rfl)) rfl (by decide) rfl rfl ⟨by decide, by decide⟩ (jC.of rfl k_X12_at rfl ?_)
                show jX m_X12_at 4 0 0 0 [(0, .ref 125), (1, .int v130)] [] _ 0 0 _
                refine x_bipush (v := 20) rfl kb_20 ?_
                refine x_bipush (v := 90) rfl kb_90 ?_
                refine x_iloadn (x := v130) rfl rfl ?_
                refine z_imul rfl jk_90 rfl (by omega) (fun v131 ev131 => ?_)
                refine z_iadd rfl jk_20 rfl (by omega) (fun v132 ev132 => ?_)
                refine x_iret rfl rfl ?_
                show jX m_X12_nameAt 5 0 0 7 [(0, .ref 125), (1, .int v113), (2, .int 1)] [.int v132] _ 0 0 _
                refine x_bipush (v := 6) rfl kb_6 ?_
                refine z_iadd rfl rfl jk_6 (by omega) (fun v133 ev133 => ?_)
                refine x_bipush (v := 28) rfl kb_28 ?_
                refine x_iloadn (x := v113) rfl rfl ?_
                refine x_iconst (v := 3) rfl ki_3 ?_
                refine z_irem rfl rfl jk_3 (by omega) (by omega) (fun v134 ev134 => ?_)
                refine z_imul rfl jk_28 rfl (by omega) (fun v135 ev135 => ?_)
                refine z_iadd rfl rfl rfl (by omega) (fun v136 ev136 => ?_)
                refine x_bipush (v := 14) rfl kb_14 ?_
                refine x_iloadn (x := 1) rfl rfl ?_
                refine y_imul (v := 14) rfl (by decide) ?_
                refine z_iadd rfl rfl jk_14 (by omega) (fun v137 ev137 => ?_)
                have rnv137 := jnam (m := v113.toInt) (w := 1) (v := v137.toInt) (by omega) (by omega) (by omega)
                refine x_iret rfl rfl ?_
                show jX m_X12_isNamed 6 0 0 10 [(0, .ref 125), (1, .int v113), (2, .int 1)] [.int v137, .ref 126] _ 0 0 _
                refine z_ialdU (N := 50660) (lo := 0) (hi := 12) rfl J rfl rfl (by omega) ((show (v137.toInt - 20) % 90 = 20 ∨ (v137.toInt - 20) % 90 = 48 ∨ (v137.toInt - 20) % 90 = 76 from by omega).elim (fun q => (jrg_w (jrg_c J sg_126_20_18020_90_20_21 rfl (by omega)) (by decide))) (fun q => q.elim (fun q => (jrg_w (jrg_c J sg_126_20_18020_90_48_49 rfl (by omega)) (by decide))) (fun q => (jrg_w (jrg_c J sg_126_20_18020_90_76_77 rfl (by omega)) (by decide))))) (fun v138 qv138 ev138 => ?_)
                refine x_ifle (tgt := 18) rfl rfl (ti_le rfl jk_0 ⟨fun c139 => ?_, fun c139 => ?_⟩)
                ·
                  refine x_iconst (v := 0) rfl ki_0 ?_
                  refine x_zret rfl rfl (by decide) ?_
                  show jX m_X12_areKin 7 0 0 91 [(7, .int v116), (6, .int v113), (0, .ref 125), (1, .int l1), (2, .int l2), (3, .int l3), (4, .int l4), (5, .int l5)] [.int 0] _ 0 0 _
                  refine x_ifeq (tgt := 118) rfl rfl (ti_eq jk_0 jk_0 (br_t (by omega) ?_))
                  exact jX.sub (jsb_c rfl (jsb_c rfl (jsb_c rfl (jsb_c rfl (jsb_c rfl (jsb_c rfl (jsb_c rfl (jsb_c rfl jsb_n)))))))) (ct_X12_areKin_r125_118 hD hQ k5 ih l1 l2 l3 l4 l5 v113 v116 h (jr_of rfl (by omega)) (jr_of rfl (by omega)) (jr_of rfl (by omega)) (jr_of rfl (by omega)) (jr_of rfl (by omega)) (jr_of rfl (by omega)) (jr_of rfl (by omega)) (by omega) (by omega) J Sm)
                ·
                  refine x_iconst (v := 1) rfl ki_1 ?_
                  refine x_goto (tgt := 19) rfl rfl ?_
                  refine x_zret rfl rfl (by decide) ?_
                  show jX m_X12_areKin 7 0 0 91 [(7, .int v116), (6, .int v113), (0, .ref 125), (1, .int l1), (2, .int l2), (3, .int l3), (4, .int l4), (5, .int l5)] [.int 1] _ 0 0 _
                  refine x_ifeq (tgt := 118) rfl rfl (ti_eq jk_1 jk_0 (br_f (by omega) ?_))
                  refine x_aloadn (x := 125) rfl rfl ?_
                  refine x_iload (x := v116) rfl rfl ?_
                  refine x_iconst (v := 0) rfl ki_0 ?_
                  refine x_inv (N := m_X12_isNamed) (As := [.int v116, .int 0]) (b := 125) (st := []) (dx9 := 6) (mc := 0) (ms := 0) (host := "") 12 rfl t_X12_isNamed ⟨Or.inl q_12_315, i_X12_isNamed.1, i_X12_isNamed.2⟩ ⟨by decide, rfl⟩ (congrArg Prod.fst (J.1.1 125 (12, 92) rfl)) rfl (by decide) rfl rfl ⟨by decide, by decide⟩ (jC.of rfl k_X12_isNamed rfl ?_)
                  show jX m_X12_isNamed 6 0 0 0 [(0, .ref 125), (1, .int v116), (2, .int 0)] [] _ 0 0 _
                  refine x_aloadn (x := 125) rfl rfl ?_
                  refine z_getR (N := 92) (b := 126) 12 2 rfl f_12_8 rfl J rfl 16002 ⟨rfl, rfl⟩ rfl ?_
                  refine x_aloadn (x := 125) rfl rfl ?_
                  refine x_iloadn (x := v116) rfl rfl ?_
                  refine x_iloadn (x := 0) rfl rfl ?_
                  refine x_inv (N := m_X12_nameAt) (As := [.int v116, .int 0]) (b := 125) (st := [.ref 126]) (dx9 := 5) (mc := 0) (ms := 0) (host := "") 12 rfl t_X12_nameAt ⟨Or.inl q_12_311, i_X12_nameAt.1, i_X12_nameAt.2⟩ ⟨by decide, rfl⟩ (congrArg Prod.fst (J.1.1 125 (12, 92) rfl)) rfl (by decide) rfl rfl ⟨by decide, by decide⟩ (jC.of rfl k_X12_nameAt rfl ?_)
                  show jX m_X12_nameAt 5 0 0 0 [(0, .ref 125), (1, .int v116), (2, .int 0)] [] _ 0 0 _
                  refine x_aloadn (x := 125) rfl rfl ?_
                  refine x_iloadn (x := v116) rfl rfl ?_
                  refine x_iconst (v := 3) rfl ki_3 ?_
                  refine z_idiv rfl rfl jk_3 (by omega) (by omega) (fun v140 ev140 => ?_)
                  refine x_inv (N := m_X12_at) (As := [.int v140]) (b := 125) (st := []) (dx9 := 4) (mc := 0) (ms := 0) (host := "") 12 rfl t_X12_at ⟨Or.inl q_12_254, i_X12_at.1, i_X12_at.2⟩ ⟨by decide, rfl⟩ (congrArg Prod.fst (J.1.1 125 (12, 92) rfl)) rfl (by decide) rfl rfl ⟨by decide, by decide⟩ (jC.of rfl k_X12_at rfl ?_)
                  show jX m_X12_at 4 0 0 0 [(0, .ref 125), (1, .int v140)] [] _ 0 0 _
                  refine x_bipush (v := 20) rfl kb_20 ?_
                  refine x_bipush (v := 90) rfl kb_90 ?_
                  refine x_iloadn (x := v140) rfl rfl ?_
                  refine z_imul rfl jk_90 rfl (by omega) (fun v141 ev141 => ?_)
                  refine z_iadd rfl jk_20 rfl (by omega) (fun v142 ev142 => ?_)
                  refine x_iret rfl rfl ?_
                  show jX m_X12_nameAt 5 0 0 7 [(0, .ref 125), (1, .int v116), (2, .int 0)] [.int v142] _ 0 0 _
                  refine x_bipush (v := 6) rfl kb_6 ?_
                  refine z_iadd rfl rfl jk_6 (by omega) (fun v143 ev143 => ?_)
                  refine x_bipush (v := 28) rfl kb_28 ?_
                  refine x_iloadn (x := v116) rfl rfl ?_
                  refine x_iconst (v := 3) rfl ki_3 ?_
                  refine z_irem rfl rfl jk_3 (by omega) (by omega) (fun v144 ev144 => ?_)
                  refine z_imul rfl jk_28 rfl (by omega) (fun v145 ev145 => ?_)
                  refine z_iadd rfl rfl rfl (by omega) (fun v146 ev146 => ?_)
                  refine x_bipush (v := 14) rfl kb_14 ?_
                  refine x_iloadn (x := 0) rfl rfl ?_
                  refine y_imul (v := 0) rfl (by decide) ?_
                  refine z_iadd rfl rfl jk_0 (by omega) (fun v147 ev147 => ?_)
                  have rnv147 := jnam (m := v116.toInt) (w := 0) (v := v147.toInt) (by omega) (by omega) (by omega)
                  refine x_iret rfl rfl ?_
                  show jX m_X12_isNamed 6 0 0 10 [(0, .ref 125), (1, .int v116), (2, .int 0)] [.int v147, .ref 126] _ 0 0 _
                  refine z_ialdU (N := 50660) (lo := 0) (hi := 12) rfl J rfl rfl (by omega) ((show (v147.toInt - 20) % 90 = 6 ∨ (v147.toInt - 20) % 90 = 34 ∨ (v147.toInt - 20) % 90 = 62 from by omega).elim (fun q => (jrg_w (jrg_c J sg_126_20_18020_90_6_7 rfl (by omega)) (by decide))) (fun q => q.elim (fun q => (jrg_w (jrg_c J sg_126_20_18020_90_34_35 rfl (by omega)) (by decide))) (fun q => (jrg_w (jrg_c J sg_126_20_18020_90_62_63 rfl (by omega)) (by decide))))) (fun v148 qv148 ev148 => ?_)
                  refine x_ifle (tgt := 18) rfl rfl (ti_le rfl jk_0 ⟨fun c149 => ?_, fun c149 => ?_⟩)
                  ·
                    refine x_iconst (v := 0) rfl ki_0 ?_
                    refine x_zret rfl rfl (by decide) ?_
                    show jX m_X12_areKin 7 0 0 101 [(7, .int v116), (6, .int v113), (0, .ref 125), (1, .int l1), (2, .int l2), (3, .int l3), (4, .int l4), (5, .int l5)] [.int 0] _ 0 0 _
                    refine x_ifeq (tgt := 118) rfl rfl (ti_eq jk_0 jk_0 (br_t (by omega) ?_))
                    exact jX.sub (jsb_c rfl (jsb_c rfl (jsb_c rfl (jsb_c rfl (jsb_c rfl (jsb_c rfl (jsb_c rfl (jsb_c rfl jsb_n)))))))) (ct_X12_areKin_r125_118 hD hQ k5 ih l1 l2 l3 l4 l5 v113 v116 h (jr_of rfl (by omega)) (jr_of rfl (by omega)) (jr_of rfl (by omega)) (jr_of rfl (by omega)) (jr_of rfl (by omega)) (jr_of rfl (by omega)) (jr_of rfl (by omega)) (by omega) (by omega) J Sm)
                  ·
                    refine x_iconst (v := 1) rfl ki_1 ?_
                    refine x_goto (tgt := 19) rfl rfl ?_
                    refine x_zret rfl rfl (by decide) ?_
                    show jX m_X12_areKin 7 0 0 101 [(7, .int v116), (6, .int v113), (0, .ref 125), (1, .int l1), (2, .int l2), (3, .int l3), (4, .int l4), (5, .int l5)] [.int 1] _ 0 0 _
                    refine x_ifeq (tgt := 118) rfl rfl (ti_eq jk_1 jk_0 (br_f (by omega) ?_))
                    refine x_aloadn (x := 125) rfl rfl ?_
                    refine x_iload (x := v116) rfl rfl ?_
                    refine x_iconst (v := 1) rfl ki_1 ?_
                    refine x_inv (N := m_X12_isNamed) (As := [.int v116, .int 1]) (b := 125) (st := []) (dx9 := 6) (mc := 0) (ms := 0) (host := "") 12 rfl t_X12_isNamed ⟨Or.inl q_12_315, i_X12_isNamed.1, i_X12_isNamed.2⟩ ⟨by decide, rfl⟩ (congrArg Prod.fst (J.1.1 125 (12, 92) rfl)) rfl (by decide) rfl rfl ⟨by decide, by decide⟩ (jC.of rfl k_X12_isNamed rfl ?_)
                    show jX m_X12_isNamed 6 0 0 0 [(0, .ref 125), (1, .int v116), (2, .int 1)] [] _ 0 0 _
                    refine x_aloadn (x := 125) rfl rfl ?_
                    refine z_getR (N := 92) (b := 126) 12 2 rfl f_12_8 rfl J rfl 16002 ⟨rfl, rfl⟩ rfl ?_
                    refine x_aloadn (x := 125) rfl rfl ?_
                    refine x_iloadn (x := v116) rfl rfl ?_
                    refine x_iloadn (x := 1) rfl rfl ?_
                    refine x_inv (N := m_X12_nameAt) (As := [.int v116, .int 1]) (b := 125) (st := [.ref 126]) (dx9 := 5) (mc := 0) (ms := 0) (host := "") 12 rfl t_X12_nameAt ⟨Or.inl q_12_311, i_X12_nameAt.1, i_X12_nameAt.2⟩ ⟨by decide, rfl⟩ (congrArg Prod.fst (J.1.1 125 (12, 92) rfl)) rfl (by decide) rfl rfl ⟨by decide, by decide⟩ (jC.of rfl k_X12_nameAt rfl ?_)
                    show jX m_X12_nameAt 5 0 0 0 [(0, .ref 125), (1, .int v116), (2, .int 1)] [] _ 0 0 _
                    refine x_aloadn (x := 125) rfl rfl ?_
                    refine x_iloadn (x := v116) rfl rfl ?_
                    refine x_iconst (v := 3) rfl ki_3 ?_
                    refine z_idiv rfl rfl jk_3 (by omega) (by omega) (fun v150 ev150 => ?_)
                    refine x_inv (N := m_X12_at) (As := [.int v150]) (b := 125) (st := []) (dx9 := 4) (mc := 0) (ms := 0) (host := "") 12 rfl t_X12_at ⟨Or.inl q_12_254, i_X12_at.1, i_X12_at.2⟩ ⟨by decide, rfl⟩ (congrArg Prod.fst (J.1.1 125 (12, 92) rfl)) rfl (by decide) rfl rfl ⟨by decide, by decide⟩ (jC.of rfl k_X12_at rfl ?_)
                    show jX m_X12_at 4 0 0 0 [(0, .ref 125), (1, .int v150)] [] _ 0 0 _
                    refine x_bipush (v := 20) rfl kb_20 ?_
                    refine x_bipush (v := 90) rfl kb_90 ?_
                    refine x_iloadn (x := v150) rfl rfl ?_
                    refine z_imul rfl jk_90 rfl (by omega) (fun v151 ev151 => ?_)
                    refine z_iadd rfl jk_20 rfl (by omega) (fun v152 ev152 => ?_)
                    refine x_iret rfl rfl ?_
                    show jX m_X12_nameAt 5 0 0 7 [(0, .ref 125), (1, .int v116), (2, .int 1)] [.int v152] _ 0 0 _
                    refine x_bipush (v := 6) rfl kb_6 ?_
                    refine z_iadd rfl rfl jk_6 (by omega) (fun v153 ev153 => ?_)
                    refine x_bipush (v := 28) rfl kb_28 ?_
                    refine x_iloadn (x := v116) rfl rfl ?_
                    refine x_iconst (v := 3) rfl ki_3 ?_
                    refine z_irem rfl rfl jk_3 (by omega) (by omega) (fun v154 ev154 => ?_)
                    refine z_imul rfl jk_28 rfl (by omega) (fun v155 ev155 => ?_)
                    refine z_iadd rfl rfl rfl (by omega) (fun v156 ev156 => ?_)
                    refine x_bipush (v := 14) rfl kb_14 ?_
                    refine x_iloadn (x := 1) rfl rfl ?_
                    refine y_imul (v := 14) rfl (by decide) ?_
                    refine z_iadd rfl rfl jk_14 (by omega) (fun v157 ev157 => ?_)
                    have rnv157 := jnam (m := v116.toInt) (w := 1) (v := v157.toInt) (by omega) (by omega) (by omega)
                    refine x_iret rfl rfl ?_
                    show jX m_X12_isNamed 6 0 0 10 [(0, .ref 125), (1, .int v116), (2, .int 1)] [.int v157, .ref 126] _ 0 0 _
                    refine z_ialdU (N := 50660) (lo := 0) (hi := 12) rfl J rfl rfl (by omega) ((show (v157.toInt - 20) % 90 = 20 ∨ (v157.toInt - 20) % 90 = 48 ∨ (v157.toInt - 20) % 90 = 76 from by omega).elim (fun q => (jrg_w (jrg_c J sg_126_20_18020_90_20_21 rfl (by omega)) (by decide))) (fun q => q.elim (fun q => (jrg_w (jrg_c J sg_126_20_18020_90_48_49 rfl (by omega)) (by decide))) (fun q => (jrg_w (jrg_c J sg_126_20_18020_90_76_77 rfl (by omega)) (by decide))))) (fun v158 qv158 ev158 => ?_)
                    refine x_ifle (tgt := 18) rfl rfl (ti_le rfl jk_0 ⟨fun c159 => ?_, fun c159 => ?_⟩)
                    ·
                      refine x_iconst (v := 0) rfl ki_0 ?_
                      refine x_zret rfl rfl (by decide) ?_
                      show jX m_X12_areKin 7 0 0 111 [(7, .int v116), (6, .int v113), (0, .ref 125), (1, .int l1), (2, .int l2), (3, .int l3), (4, .int l4), (5, .int l5)] [.int 0] _ 0 0 _
                      refine x_ifeq (tgt := 118) rfl rfl (ti_eq jk_0 jk_0 (br_t (by omega) ?_))
                      exact jX.sub (jsb_c rfl (jsb_c rfl (jsb_c rfl (jsb_c rfl (jsb_c rfl (jsb_c rfl (jsb_c rfl (jsb_c rfl jsb_n)))))))) (ct_X12_areKin_r125_118 hD hQ k5 ih l1 l2 l3 l4 l5 v113 v116 h (jr_of rfl (by omega)) (jr_of rfl (by omega)) (jr_of rfl (by omega)) (jr_of rfl (by omega)) (jr_of rfl (by omega)) (jr_of rfl (by omega)) (jr_of rfl (by omega)) (by omega) (by omega) J Sm)
                    ·
                      refine x_iconst (v := 1) rfl ki_1 ?_
                      refine x_goto (tgt := 19) rfl rfl ?_
                      refine x_zret rfl rfl (by decide) ?_
                      show jX m_X12_areKin 7 0 0 111 [(7, .int v116), (6, .int v113), (0, .ref 125), (1, .int l1), (2, .int l2), (3, .int l3), (4, .int l4), (5, .int l5)] [.int 1] _ 0 0 _
                      refine x_ifeq (tgt := 118) rfl rfl (ti_eq jk_1 jk_0 (br_f (by omega) ?_))
                      refine x_iconst (v := 1) rfl ki_1 ?_
                      refine x_goto (tgt := 119) rfl rfl ?_
                      exact jX.sub (jsb_c rfl (jsb_c rfl (jsb_c rfl (jsb_c rfl (jsb_c rfl (jsb_c rfl (jsb_c rfl (jsb_c rfl jsb_n)))))))) (ct_X12_areKin_r125_300119 hD hQ k5 ih l1 l2 l3 l4 l5 v113 v116 h (jr_of rfl (by omega)) (jr_of rfl (by omega)) (jr_of rfl (by omega)) (jr_of rfl (by omega)) (jr_of rfl (by omega)) (jr_of rfl (by omega)) (jr_of rfl (by omega)) (by omega) (by omega) J Sm)
set_option maxRecDepth 100000 in
set_option maxHeartbeats 4000000 in
theorem ct_X12_areKin_r125_5 {Dy : jH → Prop} {h0 : jH} {Q : Option Value → jH → Prop} (hD : jDk Dy) (hQ : ∀ (v : Int32) hx9, 0 ≤ v.toInt ∧ v.toInt ≤ 1 → jJ jSgM Dy hx9 → jSm fp_X12_areKin_r125 h0 hx9 → Q (some (.int v)) hx9) : ∀ r : Nat, ∀ (l1 : Int32) (l2 : Int32) (l3 : Int32) (l4 : Int32) (h : jH), 3 - l4.toInt < (r : Int) → 0 ≤ l1.toInt ∧ l1.toInt ≤ 599 → 0 ≤ l2.toInt ∧ l2.toInt ≤ 599 → 0 ≤ l3.toInt ∧ l3.toInt ≤ 1 → 0 ≤ l4.toInt ∧ l4.toInt ≤ 3 → jJ jSgM Dy h → jSm fp_X12_areKin_r125 h0 h → jX m_X12_areKin 7 0 0 5 [(0, .ref 125), (1, .int l1), (2, .int l2), (3, .int l3), (4, .int l4)] [] h 0 0 Q := by
  intro r
  induction r with
  | zero =>
    intro l1 l2 l3 l4 h hm y0 y1 y2 y3   J Sm
    exfalso
    omega
  | succ r ih =>
    intro l1 l2 l3 l4 h hm y0 y1 y2 y3   J Sm
    refine x_iload (x := l4) rfl rfl ?_
    refine x_aloadn (x := 125) rfl rfl ?_
    refine x_iloadn (x := l1) rfl rfl ?_
    refine x_iconst (v := 3) rfl ki_3 ?_
    refine z_idiv rfl rfl jk_3 (by omega) (by omega) (fun v1 ev1 => ?_)
    refine x_inv (N := m_X12_bookOf) (As := [.int v1]) (b := 125) (st := [.int l4]) (dx9 := 6) (mc := 0) (ms := 0) (host := "") 12 rfl t_X12_bookOf ⟨Or.inl q_12_299, i_X12_bookOf.1, i_X12_bookOf.2⟩ ⟨by decide, rfl⟩ (congrArg Prod.fst (J.1.1 125 (12, 92) rfl)) rfl (by decide) rfl rfl ⟨by decide, by decide⟩ (jC.of rfl k_X12_bookOf rfl ?_)
    show jX m_X12_bookOf 6 0 0 0 [(0, .ref 125), (1, .int v1)] [] _ 0 0 _
    refine x_aloadn (x := 125) rfl rfl ?_
    refine z_getR (N := 92) (b := 126) 12 2 rfl f_12_8 rfl J rfl 16002 ⟨rfl, rfl⟩ rfl ?_
    refine x_aloadn (x := 125) rfl rfl ?_
    refine x_iloadn (x := v1) rfl rfl ?_
    refine x_inv (N := m_X12_at) (As := [.int v1]) (b := 125) (st := [.ref 126]) (dx9 := 5) (mc := 0) (ms := 0) (host := "") 12 rfl t_X12_at ⟨Or.inl q_12_254, i_X12_at.1, i_X12_at.2⟩ ⟨by decide, rfl⟩ (congrArg Prod.fst (J.1.1 125 (12, 92) rfl)) rfl (by decide) rfl rfl ⟨by decide, by decide⟩ (jC.of rfl k_X12_at rfl ?_)
    show jX m_X12_at 5 0 0 0 [(0, .ref 125), (1, .int v1)] [] _ 0 0 _
    refine x_bipush (v := 20) rfl kb_20 ?_
    refine x_bipush (v := 90) rfl kb_90 ?_
    refine x_iloadn (x := v1) rfl rfl ?_
    refine z_imul rfl jk_90 rfl (by omega) (fun v2 ev2 => ?_)
    refine z_iadd rfl jk_20 rfl (by omega) (fun v3 ev3 => ?_)
    refine x_iret rfl rfl ?_
    show jX m_X12_bookOf 6 0 0 9 [(0, .ref 125), (1, .int v1)] [.int v3, .ref 126] _ 0 0 _
    refine z_iald (N := 50660) rfl J rfl sg_126_20_18020_90_0_1 rfl (by omega) (fun v4 qv4 ev4 => ?_)
    refine x_iret rfl rfl ?_
    show jX m_X12_areKin 7 0 0 14 [(0, .ref 125), (1, .int l1), (2, .int l2), (3, .int l3), (4, .int l4)] [.int v4, .int l4] _ 0 0 _
    refine x_inst (N := m_X12_rolesOf) (As := [.int v4]) (st := [.int l4]) (dx9 := 6) (mc := 0) (ms := 0) (host := "") rfl t_X12_rolesOf ⟨Or.inl q_12_286, s_X12_rolesOf⟩ rfl (by decide) rfl rfl ⟨by decide, by decide⟩ (jC.of rfl k_X12_rolesOf rfl ?_)
    show jX m_X12_rolesOf 6 0 0 0 [(0, .int v4)] [] _ 0 0 _
    refine x_iloadn (x := v4) rfl rfl ?_
    refine x_ifne (tgt := 8) rfl rfl (ti_ne rfl jk_0 ⟨fun c5 => ?_, fun c5 => ?_⟩)
    ·
      refine x_iloadn (x := v4) rfl rfl ?_
      refine x_iconst (v := 1) rfl ki_1 ?_
      refine x_icne (tgt := 17) rfl rfl (ti_ne rfl jk_1 ⟨fun c6 => ?_, fun c6 => ?_⟩)
      ·
        refine x_iconst (v := 1) rfl ki_1 ?_
        refine x_iret rfl rfl ?_
        show jX m_X12_areKin 7 0 0 17 [(0, .ref 125), (1, .int l1), (2, .int l2), (3, .int l3), (4, .int l4)] [.int 1, .int l4] _ 0 0 _
        refine x_icge (tgt := 171) rfl rfl (ti_ge rfl jk_1 ⟨fun c7 => ?_, fun c7 => ?_⟩)
        ·
          refine x_iloadn (x := l3) rfl rfl ?_
          refine x_zret rfl rfl (jz01 (by omega)) ?_
          exact hQ _ _ (jr_of rfl (by omega)) J Sm
        ·
          refine x_iconst (v := 0) rfl ki_0 ?_
          refine x_istore (lsx9 := [(5, .int 0), (0, .ref 125), (1, .int l1), (2, .int l2), (3, .int l3), (4, .int l4)]) rfl rfl rfl ?_
          exact jX.sub (jsb_c rfl (jsb_c rfl (jsb_c rfl (jsb_c rfl (jsb_c rfl (jsb_c rfl jsb_n)))))) (ct_X12_areKin_r125_23 hD hQ ih 4 l1 l2 l3 l4 0 h (by have := jk_0; omega) (jr_of rfl (by omega)) (jr_of rfl (by omega)) (jr_of rfl (by omega)) (jr_of rfl (by omega)) (jr_of jk_0 (by omega)) (by omega) J Sm)
      ·
        refine x_iconst (v := 2) rfl ki_2 ?_
        refine x_goto (tgt := 18) rfl rfl ?_
        refine x_iret rfl rfl ?_
        show jX m_X12_areKin 7 0 0 17 [(0, .ref 125), (1, .int l1), (2, .int l2), (3, .int l3), (4, .int l4)] [.int 2, .int l4] _ 0 0 _
        refine x_icge (tgt := 171) rfl rfl (ti_ge rfl jk_2 ⟨fun c8 => ?_, fun c8 => ?_⟩)
        ·
          refine x_iloadn (x := l3) rfl rfl ?_
          refine x_zret rfl rfl (jz01 (by omega)) ?_
          exact hQ _ _ (jr_of rfl (by omega)) J Sm
        ·
          refine x_iconst (v := 0) rfl ki_0 ?_
          refine x_istore (lsx9 := [(5, .int 0), (0, .ref 125), (1, .int l1), (2, .int l2), (3, .int l3), (4, .int l4)]) rfl rfl rfl ?_
          exact jX.sub (jsb_c rfl (jsb_c rfl (jsb_c rfl (jsb_c rfl (jsb_c rfl (jsb_c rfl jsb_n)))))) (ct_X12_areKin_r125_23 hD hQ ih 4 l1 l2 l3 l4 0 h (by have := jk_0; omega) (jr_of rfl (by omega)) (jr_of rfl (by omega)) (jr_of rfl (by omega)) (jr_of rfl (by omega)) (jr_of jk_0 (by omega)) (by omega) J Sm)
    ·
      refine x_iconst (v := 3) rfl ki_3 ?_
      refine x_goto (tgt := 18) rfl rfl ?_
      refine x_iret rfl rfl ?_
      show jX m_X12_areKin 7 0 0 17 [(0, .ref 125), (1, .int l1), (2, .int l2), (3, .int l3), (4, .int l4)] [.int 3, .int l4] _ 0 0 _
      refine x_icge (tgt := 171) rfl rfl (ti_ge rfl jk_3 ⟨fun c9 => ?_, fun c9 => ?_⟩)
      ·
        refine x_iloadn (x := l3) rfl rfl ?_
        refine x_zret rfl rfl (jz01 (by omega)) ?_
        exact hQ _ _ (jr_of rfl (by omega)) J Sm
      ·
        refine x_iconst (v := 0) rfl ki_0 ?_
        refine x_istore (lsx9 := [(5, .int 0), (0, .ref 125), (1, .int l1), (2, .int l2), (3, .int l3), (4, .int l4)]) rfl rfl rfl ?_
        exact jX.sub (jsb_c rfl (jsb_c rfl (jsb_c rfl (jsb_c rfl (jsb_c rfl (jsb_c rfl jsb_n)))))) (ct_X12_areKin_r125_23 hD hQ ih 4 l1 l2 l3 l4 0 h (by have := jk_0; omega) (jr_of rfl (by omega)) (jr_of rfl (by omega)) (jr_of rfl (by omega)) (jr_of rfl (by omega)) (jr_of jk_0 (by omega)) (by omega) J Sm)
set_option maxRecDepth 100000 in
set_option maxHeartbeats 4000000 in
theorem sf_X12_areKin_r125 {Dy : jH → Prop} {h : jH} {Q : Option Value → jH → Prop} {a1 : Int32} {a2 : Int32} (y1 : 0 ≤ a1.toInt ∧ a1.toInt ≤ 599) (y2 : 0 ≤ a2.toInt ∧ a2.toInt ≤ 599) (hD : jDk Dy) (J : jJ jSgM Dy h) (hQ : ∀ (v : Int32) hx9, 0 ≤ v.toInt ∧ v.toInt ≤ 1 → jJ jSgM Dy hx9 → jSm fp_X12_areKin_r125 h hx9 → Q (some (.int v)) hx9) : jC m_X12_areKin 7 0 0 [.ref 125, .int a1, .int a2] h Q := by
  refine jC.of rfl k_X12_areKin rfl ?_
  have Sm := jSm_rf fp_X12_areKin_r125 h
  show jX m_X12_areKin 7 0 0 0 [(0, .ref 125), (1, .int a1), (2, .int a2)] [] _ 0 0 _
  refine x_iconst (v := 0) rfl ki_0 ?_
  refine x_istoren (lsx9 := [(3, .int 0), (0, .ref 125), (1, .int a1), (2, .int a2)]) rfl rfl rfl ?_
  refine x_iconst (v := 0) rfl ki_0 ?_
  refine x_istore (lsx9 := [(4, .int 0), (3, .int 0), (0, .ref 125), (1, .int a1), (2, .int a2)]) rfl rfl rfl ?_
  exact jX.sub (jsb_c rfl (jsb_c rfl (jsb_c rfl (jsb_c rfl (jsb_c rfl jsb_n))))) (ct_X12_areKin_r125_5 hD hQ  4 a1 a2 0 0 h (by have := jk_0; omega) (jr_of rfl (by omega)) (jr_of rfl (by omega)) (jr_of jk_0 (by omega)) (jr_of jk_0 (by omega)) J Sm)
def fp_X12_findForce_r125 : jFp := [(125, 57, 58), (152, 0, 360), (153, 0, 30)]
set_option maxRecDepth 100000 in
set_option maxHeartbeats 4000000 in
theorem ct_X12_findForce_r125_198 {Dy : jH → Prop} {h0 : jH} {Q : Option Value → jH → Prop} {R45 : Int} (hD : jDk Dy) (hQ : ∀ hx9, jJ jSgM Dy hx9 → jSm fp_X12_findForce_r125 h0 hx9 → Q none hx9) (k45 : ∀ (l1 : Int32) (l2 : Int32) (h : jH), l2.toInt - (-1) < R45 → 0 ≤ l1.toInt ∧ l1.toInt ≤ 146399 → (-1) ≤ l2.toInt ∧ l2.toInt ≤ 29 → jJ jSgM Dy h → jSm fp_X12_findForce_r125 h0 h → jX m_X12_findForce 3 0 0 45 [(0, .ref 125), (1, .int l1), (2, .int l2)] [] h 0 0 Q) : ∀ (l1 : Int32) (l2 : Int32) (h : jH), 0 ≤ l1.toInt ∧ l1.toInt ≤ 146399 → 0 ≤ l2.toInt ∧ l2.toInt ≤ 29 → l2.toInt - (-1) ≤ R45 → jJ jSgM Dy h → jSm fp_X12_findForce_r125 h0 h → jX m_X12_findForce 3 0 0 198 [(0, .ref 125), (1, .int l1), (2, .int l2)] [] h 0 0 Q := by
  intro l1 l2 h y0 y1  m45 J Sm
  refine z_iinc (x := l2) (lsx9 := fun v1 => [(2, .int v1), (0, .ref 125), (1, .int l1)]) rfl rfl rfl jko_m1 (by omega) rfl (fun _ => rfl) (fun v1 ev1 => ?_)
  refine x_goto (tgt := 45) rfl rfl ?_
  exact jX.sub (jsb_c rfl (jsb_c rfl (jsb_c rfl jsb_n))) (k45 l1 v1 h (by omega) (jr_of rfl (by omega)) (jr_of rfl (by omega)) J Sm)
set_option maxRecDepth 100000 in
set_option maxHeartbeats 4000000 in
theorem ct_X12_findForce_r125_192 {Dy : jH → Prop} {h0 : jH} {Q : Option Value → jH → Prop} {R45 : Int} {R95 : Int} (hD : jDk Dy) (hQ : ∀ hx9, jJ jSgM Dy hx9 → jSm fp_X12_findForce_r125 h0 hx9 → Q none hx9) (k45 : ∀ (l1 : Int32) (l2 : Int32) (h : jH), l2.toInt - (-1) < R45 → 0 ≤ l1.toInt ∧ l1.toInt ≤ 146399 → (-1) ≤ l2.toInt ∧ l2.toInt ≤ 29 → jJ jSgM Dy h → jSm fp_X12_findForce_r125 h0 h → jX m_X12_findForce 3 0 0 45 [(0, .ref 125), (1, .int l1), (2, .int l2)] [] h 0 0 Q) (k95 : ∀ (l1 : Int32) (l2 : Int32) (l3 : Int32) (l4 : Int32) (h : jH), 12 - l4.toInt < R95 → 0 ≤ l1.toInt ∧ l1.toInt ≤ 146399 → 0 ≤ l2.toInt ∧ l2.toInt ≤ 29 → 18820 ≤ l3.toInt ∧ l3.toInt ≤ 45616 → l3.toInt % 924 = 340 → 0 ≤ l4.toInt ∧ l4.toInt ≤ 12 → l3.toInt = 18820 + 924 * l2.toInt → l2.toInt - (-1) ≤ R45 → jJ jSgM Dy h → jSm fp_X12_findForce_r125 h0 h → jX m_X12_findForce 3 0 0 95 [(0, .ref 125), (1, .int l1), (2, .int l2), (3, .int l3), (4, .int l4)] [] h 0 0 Q) : ∀ (l1 : Int32) (l2 : Int32) (l3 : Int32) (l4 : Int32) (h : jH), 0 ≤ l1.toInt ∧ l1.toInt ≤ 146399 → 0 ≤ l2.toInt ∧ l2.toInt ≤ 29 → 18820 ≤ l3.toInt ∧ l3.toInt ≤ 45616 → l3.toInt % 924 = 340 → 0 ≤ l4.toInt ∧ l4.toInt ≤ 11 → l3.toInt = 18820 + 924 * l2.toInt → l2.toInt - (-1) ≤ R45 → 12 - l4.toInt ≤ R95 → jJ jSgM Dy h → jSm fp_X12_findForce_r125 h0 h → jX m_X12_findForce 3 0 0 192 [(0, .ref 125), (1, .int l1), (2, .int l2), (3, .int l3), (4, .int l4)] [] h 0 0 Q := by
  intro l1 l2 l3 l4 h y0 y1 y2 y3 y4 y5  m45 m95 J Sm
  refine z_iinc (x := l4) (lsx9 := fun v1 => [(4, .int v1), (0, .ref 125), (1, .int l1), (2, .int l2), (3, .int l3)]) rfl rfl rfl jko_1 (by omega) rfl (fun _ => rfl) (fun v1 ev1 => ?_)
  refine x_goto (tgt := 95) rfl rfl ?_
  exact jX.sub (jsb_c rfl (jsb_c rfl (jsb_c rfl (jsb_c rfl (jsb_c rfl jsb_n))))) (k95 l1 l2 l3 v1 h (by omega) (jr_of rfl (by omega)) (jr_of rfl (by omega)) (jr_of rfl (by omega)) (jr_mod rfl (by omega)) (jr_of rfl (by omega)) (by omega) (by omega) J Sm)
set_option maxRecDepth 100000 in
set_option maxHeartbeats 4000000 in
theorem ct_X12_findForce_r125_95 {Dy : jH → Prop} {h0 : jH} {Q : Option Value → jH → Prop} {R45 : Int} (hD : jDk Dy) (hQ : ∀ hx9, jJ jSgM Dy hx9 → jSm fp_X12_findForce_r125 h0 hx9 → Q none hx9) (k45 : ∀ (l1 : Int32) (l2 : Int32) (h : jH), l2.toInt - (-1) < R45 → 0 ≤ l1.toInt ∧ l1.toInt ≤ 146399 → (-1) ≤ l2.toInt ∧ l2.toInt ≤ 29 → jJ jSgM Dy h → jSm fp_X12_findForce_r125 h0 h → jX m_X12_findForce 3 0 0 45 [(0, .ref 125), (1, .int l1), (2, .int l2)] [] h 0 0 Q) : ∀ r : Nat, ∀ (l1 : Int32) (l2 : Int32) (l3 : Int32) (l4 : Int32) (h : jH), 12 - l4.toInt < (r : Int) → 0 ≤ l1.toInt ∧ l1.toInt ≤ 146399 → 0 ≤ l2.toInt ∧ l2.toInt ≤ 29 → 18820 ≤ l3.toInt ∧ l3.toInt ≤ 45616 → l3.toInt % 924 = 340 → 0 ≤ l4.toInt ∧ l4.toInt ≤ 12 → l3.toInt = 18820 + 924 * l2.toInt → l2.toInt - (-1) ≤ R45 → jJ jSgM Dy h → jSm fp_X12_findForce_r125 h0 h → jX m_X12_findForce 3 0 0 95 [(0, .ref 125), (1, .int l1), (2, .int l2), (3, .int l3), (4, .int l4)] [] h 0 0 Q := by
  intro r
  induction r with
  | zero =>
    intro l1 l2 l3 l4 h hm y0 y1 y2 y3 y4 y5  m45 J Sm
    exfalso
    omega
  | succ r ih =>
    intro l1 l2 l3 l4 h hm y0 y1 y2 y3 y4 y5  m45 J Sm
    refine x_iload (x := l4) rfl rfl ?_
    refine x_aloadn (x := 125) rfl rfl ?_
    refine z_getR (N := 92) (b := 126) 12 2 rfl f_12_8 rfl J rfl 16002 ⟨rfl, rfl⟩ rfl ?_
    refine x_iloadn (x := l3) rfl rfl ?_
    refine x_iconst (v := 3) rfl ki_3 ?_
    refine z_iadd rfl rfl jk_3 (by omega) (fun v1 ev1 => ?_)
    refine z_iald (N := 50660) rfl J rfl sg_126_18820_46540_924_3_4 rfl (by omega) (fun v2 qv2 ev2 => ?_)
    refine x_icge (tgt := 198) rfl rfl (ti_ge rfl rfl ⟨fun c3 => ?_, fun c3 => ?_⟩)
    ·
      exact jX.sub (jsb_c rfl (jsb_c rfl (jsb_c rfl jsb_n))) (ct_X12_findForce_r125_198 hD hQ k45 l1 l2 h (jr_of rfl (by omega)) (jr_of rfl (by omega)) (by omega) J Sm)
    ·
      refine x_aloadn (x := 125) rfl rfl ?_
      refine z_getR (N := 92) (b := 153) 12 59 rfl f_12_117 rfl J rfl 16059 ⟨rfl, rfl⟩ rfl ?_
      refine x_iloadn (x := l2) rfl rfl ?_
      refine z_zald (N := 30) rfl J rfl sg_153_0_30_1_0_1 rfl (by omega) (fun v4 qv4 ev4 => ?_)
      refine x_ifeq (tgt := 198) rfl rfl (ti_eq rfl jk_0 ⟨fun c5 => ?_, fun c5 => ?_⟩)
      ·
        exact jX.sub (jsb_c rfl (jsb_c rfl (jsb_c rfl jsb_n))) (ct_X12_findForce_r125_198 hD hQ k45 l1 l2 h (jr_of rfl (by omega)) (jr_of rfl (by omega)) (by omega) J Sm)
      ·
        refine x_aloadn (x := 125) rfl rfl ?_
        refine x_iloadn (x := l2) rfl rfl ?_
        refine x_iload (x := l4) rfl rfl ?_
        refine x_inv (N := m_X12_clauseAt) (As := [.int l2, .int l4]) (b := 125) (st := []) (dx9 := 2) (mc := 0) (ms := 0) (host := "") 12 rfl t_X12_clauseAt ⟨Or.inl q_12_679, i_X12_clauseAt.1, i_X12_clauseAt.2⟩ ⟨by decide, rfl⟩ (congrArg Prod.fst (J.1.1 125 (12, 92) rfl)) rfl (by decide) rfl rfl ⟨by decide, by decide⟩ (jC.of rfl k_X12_clauseAt rfl ?_)
        show jX m_X12_clauseAt 2 0 0 0 [(0, .ref 125), (1, .int l2), (2, .int l4)] [] _ 0 0 _
        refine x_iloadn (x := l2) rfl rfl ?_
        refine x_inst (N := m_X12_textAt) (As := [.int l2]) (st := []) (dx9 := 1) (mc := 0) (ms := 0) (host := "") rfl t_X12_textAt ⟨Or.inl q_12_676, s_X12_textAt⟩ rfl (by decide) rfl rfl ⟨by decide, by decide⟩ (jC.of rfl k_X12_textAt rfl ?_)
        show jX m_X12_textAt 1 0 0 0 [(0, .int l2)] [] _ 0 0 _
        refine x_sipush (v := 18820) rfl ks_18820 ?_
        refine x_sipush (v := 924) rfl ks_924 ?_
        refine x_iloadn (x := l2) rfl rfl ?_
        refine z_imul rfl jk_924 rfl (by omega) (fun v6 ev6 => ?_)
        refine z_iadd rfl jk_18820 rfl (by omega) (fun v7 ev7 => ?_)
        refine x_iret rfl rfl ?_
        show jX m_X12_clauseAt 2 0 0 4 [(0, .ref 125), (1, .int l2), (2, .int l4)] [.int v7] _ 0 0 _
        refine x_iconst (v := 4) rfl ki_4 ?_
        refine z_iadd rfl rfl jk_4 (by omega) (fun v8 ev8 => ?_)
        refine x_bipush (v := 10) rfl kb_10 ?_
        refine x_iloadn (x := l4) rfl rfl ?_
        refine z_imul rfl jk_10 rfl (by omega) (fun v9 ev9 => ?_)
        refine z_iadd rfl rfl rfl (by omega) (fun v10 ev10 => ?_)
        refine x_iret rfl rfl ?_
        show jX m_X12_findForce 3 0 0 124 [(0, .ref 125), (1, .int l1), (2, .int l2), (3, .int l3), (4, .int l4)] [.int v10] _ 0 0 _
        refine x_istore (lsx9 := [(5, .int v10), (0, .ref 125), (1, .int l1), (2, .int l2), (3, .int l3), (4, .int l4)]) rfl rfl rfl ?_
        refine x_aloadn (x := 125) rfl rfl ?_
        refine z_getR (N := 92) (b := 126) 12 2 rfl f_12_8 rfl J rfl 16002 ⟨rfl, rfl⟩ rfl ?_
        refine x_iload (x := v10) rfl rfl ?_
        refine z_iald0 (N := 50660) rfl J rfl rfl (by omega) (fun v11 qv11 => ?_)
        have ev11 := jfull v11
        refine x_ifne (tgt := 192) rfl rfl (ti_ne rfl jk_0 ⟨fun c12 => ?_, fun c12 => ?_⟩)
        ·
          exact jX.sub (jsb_c rfl (jsb_c rfl (jsb_c rfl (jsb_c rfl (jsb_c rfl jsb_n))))) (ct_X12_findForce_r125_192 hD hQ k45 ih l1 l2 l3 l4 h (jr_of rfl (by omega)) (jr_of rfl (by omega)) (jr_of rfl (by omega)) (jr_mod rfl (by omega)) (jr_of rfl (by omega)) (by omega) (by omega) (by omega) J Sm)
        ·
          refine x_aloadn (x := 125) rfl rfl ?_
          refine z_getR (N := 92) (b := 152) 12 58 rfl f_12_114 rfl J rfl 16058 ⟨rfl, rfl⟩ rfl ?_
          refine x_bipush (v := 12) rfl kb_12 ?_
          refine x_iloadn (x := l2) rfl rfl ?_
          refine z_imul rfl jk_12 rfl (by omega) (fun v13 ev13 => ?_)
          refine x_iload (x := l4) rfl rfl ?_
          refine z_iadd rfl rfl rfl (by omega) (fun v14 ev14 => ?_)
          refine z_zald (N := 360) rfl J rfl sg_152_0_360_1_0_1 rfl (by omega) (fun v15 qv15 ev15 => ?_)
          refine x_ifne (tgt := 192) rfl rfl (ti_ne rfl jk_0 ⟨fun c16 => ?_, fun c16 => ?_⟩)
          ·
            exact jX.sub (jsb_c rfl (jsb_c rfl (jsb_c rfl (jsb_c rfl (jsb_c rfl jsb_n))))) (ct_X12_findForce_r125_192 hD hQ k45 ih l1 l2 l3 l4 h (jr_of rfl (by omega)) (jr_of rfl (by omega)) (jr_of rfl (by omega)) (jr_mod rfl (by omega)) (jr_of rfl (by omega)) (by omega) (by omega) (by omega) J Sm)
          ·
            refine x_aloadn (x := 125) rfl rfl ?_
            refine z_getR (N := 92) (b := 126) 12 2 rfl f_12_8 rfl J rfl 16002 ⟨rfl, rfl⟩ rfl ?_
            refine x_iload (x := v10) rfl rfl ?_
            refine x_iconst (v := 2) rfl ki_2 ?_
            refine z_iadd rfl rfl jk_2 (by omega) (fun v17 ev17 => ?_)
            refine z_iald0 (N := 50660) rfl J rfl rfl (by omega) (fun v18 qv18 => ?_)
            have ev18 := jfull v18
            have sv18 := jwv_s2 (t := l2.toInt) (c := l4.toInt) hD J (by omega) (by omega) (jcn qv2 (by omega) (by omega) (by omega)) (by omega) qv18 (by omega) qv11 (by omega)
            refine x_iloadn (x := l2) rfl rfl ?_
            refine x_icge (tgt := 192) rfl rfl (ti_ge rfl rfl ⟨fun c19 => ?_, fun c19 => ?_⟩)
            ·
              exact jX.sub (jsb_c rfl (jsb_c rfl (jsb_c rfl (jsb_c rfl (jsb_c rfl jsb_n))))) (ct_X12_findForce_r125_192 hD hQ k45 ih l1 l2 l3 l4 h (jr_of rfl (by omega)) (jr_of rfl (by omega)) (jr_of rfl (by omega)) (jr_mod rfl (by omega)) (jr_of rfl (by omega)) (by omega) (by omega) (by omega) J Sm)
            ·
              refine x_aloadn (x := 125) rfl rfl ?_
              refine z_getR (N := 92) (b := 152) 12 58 rfl f_12_114 rfl J rfl 16058 ⟨rfl, rfl⟩ rfl ?_
              refine x_bipush (v := 12) rfl kb_12 ?_
              refine x_aloadn (x := 125) rfl rfl ?_
              refine z_getR (N := 92) (b := 126) 12 2 rfl f_12_8 rfl J rfl 16002 ⟨rfl, rfl⟩ rfl ?_
              refine x_iload (x := v10) rfl rfl ?_
              refine x_iconst (v := 2) rfl ki_2 ?_
              refine z_iadd rfl rfl jk_2 (by omega) (fun v20 ev20 => ?_)
              refine z_iald0 (N := 50660) rfl J rfl rfl (by omega) (fun v21 qv21 => ?_)
              have ev21 := jfull v21
              have sv21 := jwv_s2 (t := l2.toInt) (c := l4.toInt) hD J (by omega) (by omega) (jcn qv2 (by omega) (by omega) (by omega)) (by omega) qv21 (by omega) qv11 (by omega)
              refine z_imul rfl jk_12 rfl (by omega) (fun v22 ev22 => ?_)
              refine x_aloadn (x := 125) rfl rfl ?_
              refine z_getR (N := 92) (b := 126) 12 2 rfl f_12_8 rfl J rfl 16002 ⟨rfl, rfl⟩ rfl ?_
              refine x_iload (x := v10) rfl rfl ?_
              refine x_iconst (v := 3) rfl ki_3 ?_
              refine z_iadd rfl rfl jk_3 (by omega) (fun v23 ev23 => ?_)
              refine z_iald0 (N := 50660) rfl J rfl rfl (by omega) (fun v24 qv24 => ?_)
              have ev24 := jfull v24
              have sv24 := jwv_s3 (t := l2.toInt) (c := l4.toInt) hD J (by omega) (by omega) (jcn qv2 (by omega) (by omega) (by omega)) (by omega) qv24 (by omega) qv11 (by omega)
              refine z_iadd rfl rfl rfl (by omega) (fun v25 ev25 => ?_)
              refine x_iconst (v := 1) rfl ki_1 ?_
              refine z_zast (N := 360) (l := 0) (u := 360) (w := 1) rfl hD J Sm rfl rfl rfl (by omega) jk_1 (by omega) (wr_152 (fun q1 q2 q3 q4 => by omega)) rfl (fun h w26 J Sm => ?_)
              exact jX.sub (jsb_c rfl (jsb_c rfl (jsb_c rfl (jsb_c rfl (jsb_c rfl jsb_n))))) (ct_X12_findForce_r125_192 hD hQ k45 ih l1 l2 l3 l4 h (jr_of rfl (by omega)) (jr_of rfl (by omega)) (jr_of rfl (by omega)) (jr_mod rfl (by omega)) (jr_of rfl (by omega)) (by omega) (by omega) (by omega) J Sm)
set_option maxRecDepth 100000 in
set_option maxHeartbeats 4000000 in
theorem ct_X12_findForce_r125_300091 {Dy : jH → Prop} {h0 : jH} {Q : Option Value → jH → Prop} {R45 : Int} (hD : jDk Dy) (hQ : ∀ hx9, jJ jSgM Dy hx9 → jSm fp_X12_findForce_r125 h0 hx9 → Q none hx9) (k45 : ∀ (l1 : Int32) (l2 : Int32) (h : jH), l2.toInt - (-1) < R45 → 0 ≤ l1.toInt ∧ l1.toInt ≤ 146399 → (-1) ≤ l2.toInt ∧ l2.toInt ≤ 29 → jJ jSgM Dy h → jSm fp_X12_findForce_r125 h0 h → jX m_X12_findForce 3 0 0 45 [(0, .ref 125), (1, .int l1), (2, .int l2)] [] h 0 0 Q) : ∀ (l1 : Int32) (l2 : Int32) (l3 : Int32) (s1 : Int32) (h : jH), 0 ≤ l1.toInt ∧ l1.toInt ≤ 146399 → 0 ≤ l2.toInt ∧ l2.toInt ≤ 29 → 18820 ≤ l3.toInt ∧ l3.toInt ≤ 45616 → l3.toInt % 924 = 340 → 0 ≤ s1.toInt ∧ s1.toInt ≤ 29 → l3.toInt = 18820 + 924 * l2.toInt → l2.toInt - (-1) ≤ R45 → jJ jSgM Dy h → jSm fp_X12_findForce_r125 h0 h → jX m_X12_findForce 3 0 0 91 [(0, .ref 125), (1, .int l1), (2, .int l2), (3, .int l3)] [.int 1, .int s1, .ref 153] h 0 0 Q := by
  intro l1 l2 l3 s1 h y0 y1 y2 y3 y4 y5  m45 J Sm
  refine z_zast (N := 30) (l := 0) (u := 30) (w := 1) rfl hD J Sm rfl rfl rfl (by omega) jk_1 (by omega) (wr_153 (fun q1 q2 q3 q4 => by omega)) rfl (fun h w1 J Sm => ?_)
  refine x_iconst (v := 0) rfl ki_0 ?_
  refine x_istore (lsx9 := [(4, .int 0), (0, .ref 125), (1, .int l1), (2, .int l2), (3, .int l3)]) rfl rfl rfl ?_
  exact jX.sub (jsb_c rfl (jsb_c rfl (jsb_c rfl (jsb_c rfl (jsb_c rfl jsb_n))))) (ct_X12_findForce_r125_95 hD hQ k45 13 l1 l2 l3 0 h (by have := jk_0; omega) (jr_of rfl (by omega)) (jr_of rfl (by omega)) (jr_of rfl (by omega)) (jr_mod rfl (by omega)) (jr_of jk_0 (by omega)) (by omega) (by omega) J Sm)
set_option maxRecDepth 100000 in
set_option maxHeartbeats 4000000 in
theorem ct_X12_findForce_r125_200091 {Dy : jH → Prop} {h0 : jH} {Q : Option Value → jH → Prop} {R45 : Int} (hD : jDk Dy) (hQ : ∀ hx9, jJ jSgM Dy hx9 → jSm fp_X12_findForce_r125 h0 hx9 → Q none hx9) (k45 : ∀ (l1 : Int32) (l2 : Int32) (h : jH), l2.toInt - (-1) < R45 → 0 ≤ l1.toInt ∧ l1.toInt ≤ 146399 → (-1) ≤ l2.toInt ∧ l2.toInt ≤ 29 → jJ jSgM Dy h → jSm fp_X12_findForce_r125 h0 h → jX m_X12_findForce 3 0 0 45 [(0, .ref 125), (1, .int l1), (2, .int l2)] [] h 0 0 Q) : ∀ (l1 : Int32) (l2 : Int32) (l3 : Int32) (s1 : Int32) (h : jH), 0 ≤ l1.toInt ∧ l1.toInt ≤ 146399 → 0 ≤ l2.toInt ∧ l2.toInt ≤ 29 → 18820 ≤ l3.toInt ∧ l3.toInt ≤ 45616 → l3.toInt % 924 = 340 → 0 ≤ s1.toInt ∧ s1.toInt ≤ 29 → l3.toInt = 18820 + 924 * l2.toInt → l2.toInt - (-1) ≤ R45 → jJ jSgM Dy h → jSm fp_X12_findForce_r125 h0 h → jX m_X12_findForce 3 0 0 91 [(0, .ref 125), (1, .int l1), (2, .int l2), (3, .int l3)] [.int 0, .int s1, .ref 153] h 0 0 Q := by
  intro l1 l2 l3 s1 h y0 y1 y2 y3 y4 y5  m45 J Sm
  refine z_zast (N := 30) (l := 0) (u := 30) (w := 0) rfl hD J Sm rfl rfl rfl (by omega) jk_0 (by omega) (wr_153 (fun q1 q2 q3 q4 => by omega)) rfl (fun h w1 J Sm => ?_)
  refine x_iconst (v := 0) rfl ki_0 ?_
  refine x_istore (lsx9 := [(4, .int 0), (0, .ref 125), (1, .int l1), (2, .int l2), (3, .int l3)]) rfl rfl rfl ?_
  exact jX.sub (jsb_c rfl (jsb_c rfl (jsb_c rfl (jsb_c rfl (jsb_c rfl jsb_n))))) (ct_X12_findForce_r125_95 hD hQ k45 13 l1 l2 l3 0 h (by have := jk_0; omega) (jr_of rfl (by omega)) (jr_of rfl (by omega)) (jr_of rfl (by omega)) (jr_mod rfl (by omega)) (jr_of jk_0 (by omega)) (by omega) (by omega) J Sm)
set_option maxRecDepth 100000 in
set_option maxHeartbeats 4000000 in
theorem ct_X12_findForce_r125_90 {Dy : jH → Prop} {h0 : jH} {Q : Option Value → jH → Prop} {R45 : Int} (hD : jDk Dy) (hQ : ∀ hx9, jJ jSgM Dy hx9 → jSm fp_X12_findForce_r125 h0 hx9 → Q none hx9) (k45 : ∀ (l1 : Int32) (l2 : Int32) (h : jH), l2.toInt - (-1) < R45 → 0 ≤ l1.toInt ∧ l1.toInt ≤ 146399 → (-1) ≤ l2.toInt ∧ l2.toInt ≤ 29 → jJ jSgM Dy h → jSm fp_X12_findForce_r125 h0 h → jX m_X12_findForce 3 0 0 45 [(0, .ref 125), (1, .int l1), (2, .int l2)] [] h 0 0 Q) : ∀ (l1 : Int32) (l2 : Int32) (l3 : Int32) (s0 : Int32) (h : jH), 0 ≤ l1.toInt ∧ l1.toInt ≤ 146399 → 0 ≤ l2.toInt ∧ l2.toInt ≤ 29 → 18820 ≤ l3.toInt ∧ l3.toInt ≤ 45616 → l3.toInt % 924 = 340 → 0 ≤ s0.toInt ∧ s0.toInt ≤ 29 → l3.toInt = 18820 + 924 * l2.toInt → l2.toInt - (-1) ≤ R45 → jJ jSgM Dy h → jSm fp_X12_findForce_r125 h0 h → jX m_X12_findForce 3 0 0 90 [(0, .ref 125), (1, .int l1), (2, .int l2), (3, .int l3)] [.int s0, .ref 153] h 0 0 Q := by
  intro l1 l2 l3 s0 h y0 y1 y2 y3 y4 y5  m45 J Sm
  refine x_iconst (v := 0) rfl ki_0 ?_
  exact jX.sub (jsb_c rfl (jsb_c rfl (jsb_c rfl (jsb_c rfl jsb_n)))) (ct_X12_findForce_r125_200091 hD hQ k45 l1 l2 l3 s0 h (jr_of rfl (by omega)) (jr_of rfl (by omega)) (jr_of rfl (by omega)) (jr_mod rfl (by omega)) (jr_of rfl (by omega)) (by omega) (by omega) J Sm)
set_option maxRecDepth 100000 in
set_option maxHeartbeats 4000000 in
theorem ct_X12_findForce_r125_45 {Dy : jH → Prop} {h0 : jH} {Q : Option Value → jH → Prop} (hD : jDk Dy) (hQ : ∀ hx9, jJ jSgM Dy hx9 → jSm fp_X12_findForce_r125 h0 hx9 → Q none hx9) : ∀ r : Nat, ∀ (l1 : Int32) (l2 : Int32) (h : jH), l2.toInt - (-1) < (r : Int) → 0 ≤ l1.toInt ∧ l1.toInt ≤ 146399 → (-1) ≤ l2.toInt ∧ l2.toInt ≤ 29 → jJ jSgM Dy h → jSm fp_X12_findForce_r125 h0 h → jX m_X12_findForce 3 0 0 45 [(0, .ref 125), (1, .int l1), (2, .int l2)] [] h 0 0 Q := by
  intro r
  induction r with
  | zero =>
    intro l1 l2 h hm y0 y1   J Sm
    exfalso
    omega
  | succ r ih =>
    intro l1 l2 h hm y0 y1   J Sm
    refine x_iloadn (x := l2) rfl rfl ?_
    refine x_iflt (tgt := 204) rfl rfl (ti_lt rfl jk_0 ⟨fun c1 => ?_, fun c1 => ?_⟩)
    ·
      refine x_vret rfl rfl ?_
      exact hQ _ J Sm
    ·
      refine x_iloadn (x := l2) rfl rfl ?_
      refine x_inst (N := m_X12_textAt) (As := [.int l2]) (st := []) (dx9 := 2) (mc := 0) (ms := 0) (host := "") rfl t_X12_textAt ⟨Or.inl q_12_676, s_X12_textAt⟩ rfl (by decide) rfl rfl ⟨by decide, by decide⟩ (jC.of rfl k_X12_textAt rfl ?_)
      show jX m_X12_textAt 2 0 0 0 [(0, .int l2)] [] _ 0 0 _
      refine x_sipush (v := 18820) rfl ks_18820 ?_
      refine x_sipush (v := 924) rfl ks_924 ?_
      refine x_iloadn (x := l2) rfl rfl ?_
      refine z_imul rfl jk_924 rfl (by omega) (fun v2 ev2 => ?_)
      refine z_iadd rfl jk_18820 rfl (by omega) (fun v3 ev3 => ?_)
      refine x_iret rfl rfl ?_
      show jX m_X12_findForce 3 0 0 53 [(0, .ref 125), (1, .int l1), (2, .int l2)] [.int v3] _ 0 0 _
      refine x_istoren (lsx9 := [(3, .int v3), (0, .ref 125), (1, .int l1), (2, .int l2)]) rfl rfl rfl ?_
      refine x_aloadn (x := 125) rfl rfl ?_
      refine z_getR (N := 92) (b := 153) 12 59 rfl f_12_117 rfl J rfl 16059 ⟨rfl, rfl⟩ rfl ?_
      refine x_iloadn (x := l2) rfl rfl ?_
      refine x_aloadn (x := 125) rfl rfl ?_
      refine z_getR (N := 92) (b := 126) 12 2 rfl f_12_8 rfl J rfl 16002 ⟨rfl, rfl⟩ rfl ?_
      refine x_iloadn (x := v3) rfl rfl ?_
      refine x_iconst (v := 2) rfl ki_2 ?_
      refine z_iadd rfl rfl jk_2 (by omega) (fun v4 ev4 => ?_)
      refine z_iald (N := 50660) rfl J rfl sg_126_18820_46540_924_2_3 rfl (by omega) (fun v5 qv5 ev5 => ?_)
      refine x_aloadn (x := 125) rfl rfl ?_
      refine z_getI (N := 92) 12 28 rfl f_12_377 rfl J rfl sg_125_28_29_1_0_1 (fun v6 qv6 ev6 => ?_)
      refine x_icgt (tgt := 90) rfl rfl (ti_gt rfl rfl ⟨fun c7 => ?_, fun c7 => ?_⟩)
      ·
        exact jX.sub (jsb_c rfl (jsb_c rfl (jsb_c rfl (jsb_c rfl jsb_n)))) (ct_X12_findForce_r125_90 hD hQ ih l1 l2 v3 l2 h (jr_of rfl (by omega)) (jr_of rfl (by omega)) (jr_of rfl (by omega)) (jr_mod rfl (by omega)) (jr_of rfl (by omega)) (by omega) (by omega) J Sm)
      ·
        refine x_aloadn (x := 125) rfl rfl ?_
        refine z_getR (N := 92) (b := 126) 12 2 rfl f_12_8 rfl J rfl 16002 ⟨rfl, rfl⟩ rfl ?_
        refine x_iloadn (x := v3) rfl rfl ?_
        refine x_iconst (v := 1) rfl ki_1 ?_
        refine z_iadd rfl rfl jk_1 (by omega) (fun v8 ev8 => ?_)
        refine z_iald (N := 50660) rfl J rfl sg_126_18820_46540_924_1_2 rfl (by omega) (fun v9 qv9 ev9 => ?_)
        refine x_iloadn (x := l1) rfl rfl ?_
        refine x_icgt (tgt := 90) rfl rfl (ti_gt rfl rfl ⟨fun c10 => ?_, fun c10 => ?_⟩)
        ·
          exact jX.sub (jsb_c rfl (jsb_c rfl (jsb_c rfl (jsb_c rfl jsb_n)))) (ct_X12_findForce_r125_90 hD hQ ih l1 l2 v3 l2 h (jr_of rfl (by omega)) (jr_of rfl (by omega)) (jr_of rfl (by omega)) (jr_mod rfl (by omega)) (jr_of rfl (by omega)) (by omega) (by omega) J Sm)
        ·
          refine x_iconst (v := 1) rfl ki_1 ?_
          refine x_goto (tgt := 91) rfl rfl ?_
          exact jX.sub (jsb_c rfl (jsb_c rfl (jsb_c rfl (jsb_c rfl jsb_n)))) (ct_X12_findForce_r125_300091 hD hQ ih l1 l2 v3 l2 h (jr_of rfl (by omega)) (jr_of rfl (by omega)) (jr_of rfl (by omega)) (jr_mod rfl (by omega)) (jr_of rfl (by omega)) (by omega) (by omega) J Sm)
set_option maxRecDepth 100000 in
set_option maxHeartbeats 4000000 in
theorem ct_X12_findForce_r125_16 {Dy : jH → Prop} {h0 : jH} {Q : Option Value → jH → Prop} (hD : jDk Dy) (hQ : ∀ hx9, jJ jSgM Dy hx9 → jSm fp_X12_findForce_r125 h0 hx9 → Q none hx9) : ∀ r : Nat, ∀ (l1 : Int32) (l2 : Int32) (h : jH), 360 - l2.toInt < (r : Int) → 0 ≤ l1.toInt ∧ l1.toInt ≤ 146399 → 0 ≤ l2.toInt ∧ l2.toInt ≤ 360 → jJ jSgM Dy h → jSm fp_X12_findForce_r125 h0 h → jX m_X12_findForce 3 0 0 16 [(0, .ref 125), (1, .int l1), (2, .int l2)] [] h 0 0 Q := by
  intro r
  induction r with
  | zero =>
    intro l1 l2 h hm y0 y1   J Sm
    exfalso
    omega
  | succ r ih =>
    intro l1 l2 h hm y0 y1   J Sm
    refine x_iloadn (x := l2) rfl rfl ?_
    refine x_sipush (v := 360) rfl ks_360 ?_
    refine x_icge (tgt := 36) rfl rfl (ti_ge rfl jk_360 ⟨fun c1 => ?_, fun c1 => ?_⟩)
    ·
      refine x_aloadn (x := 125) rfl rfl ?_
      refine z_getR (N := 92) (b := 126) 12 2 rfl f_12_8 rfl J rfl 16002 ⟨rfl, rfl⟩ rfl ?_
      refine x_iconst (v := 4) rfl ki_4 ?_
      refine z_iald (N := 50660) rfl J rfl sg_126_4_5_1_0_1 jk_4 (by omega) (fun v2 qv2 ev2 => ?_)
      refine x_iconst (v := 1) rfl ki_1 ?_
      refine z_isub rfl rfl jk_1 (by omega) (fun v3 ev3 => ?_)
      refine x_istoren (lsx9 := [(2, .int v3), (0, .ref 125), (1, .int l1)]) rfl rfl rfl ?_
      exact jX.sub (jsb_c rfl (jsb_c rfl (jsb_c rfl jsb_n))) (ct_X12_findForce_r125_45 hD hQ  31 l1 v3 h (by omega) (jr_of rfl (by omega)) (jr_of rfl (by omega)) J Sm)
    ·
      refine x_aloadn (x := 125) rfl rfl ?_
      refine z_getR (N := 92) (b := 152) 12 58 rfl f_12_114 rfl J rfl 16058 ⟨rfl, rfl⟩ rfl ?_
      refine x_iloadn (x := l2) rfl rfl ?_
      refine x_iconst (v := 0) rfl ki_0 ?_
      refine z_zast (N := 360) (l := 0) (u := 360) (w := 0) rfl hD J Sm rfl rfl rfl (by omega) jk_0 (by omega) (wr_152 (fun q1 q2 q3 q4 => by omega)) rfl (fun h w4 J Sm => ?_)
      refine z_iinc (x := l2) (lsx9 := fun v5 => [(2, .int v5), (0, .ref 125), (1, .int l1)]) rfl rfl rfl jko_1 (by omega) rfl (fun _ => rfl) (fun v5 ev5 => ?_)
      refine x_goto (tgt := 16) rfl rfl ?_
      exact jX.sub (jsb_c rfl (jsb_c rfl (jsb_c rfl jsb_n))) (ih l1 v5 h (by omega) (jr_of rfl (by omega)) (jr_of rfl (by omega)) J Sm)
set_option maxRecDepth 100000 in
set_option maxHeartbeats 4000000 in
theorem sf_X12_findForce_r125 {Dy : jH → Prop} {h : jH} {Q : Option Value → jH → Prop} {a1 : Int32} (y1 : 0 ≤ a1.toInt ∧ a1.toInt ≤ 146399) (hD : jDk Dy) (J : jJ jSgM Dy h) (hQ : ∀ hx9, jJ jSgM Dy hx9 → jSm fp_X12_findForce_r125 h hx9 → Q none hx9) : jC m_X12_findForce 3 0 0 [.ref 125, .int a1] h Q := by
  refine jC.of rfl k_X12_findForce rfl ?_
  have Sm := jSm_rf fp_X12_findForce_r125 h
  show jX m_X12_findForce 3 0 0 0 [(0, .ref 125), (1, .int a1)] [] _ 0 0 _
  refine x_aloadn (x := 125) rfl rfl ?_
  refine z_getI (N := 92) 12 57 rfl f_12_111 rfl J rfl sg_125_57_58_1_0_1 (fun v1 qv1 ev1 => ?_)
  refine x_iloadn (x := a1) rfl rfl ?_
  refine x_icne (tgt := 9) rfl rfl (ti_ne rfl rfl ⟨fun c2 => ?_, fun c2 => ?_⟩)
  ·
    refine x_aloadn (x := 125) rfl rfl ?_
    refine x_iloadn (x := a1) rfl rfl ?_
    refine z_putI (N := 92) (w := a1.toInt) 12 57 rfl f_12_111 rfl (jfin_no TX12 RX12 92 rfl rfl) hD J Sm rfl rfl rfl (pw_125_57 (by omega)) rfl (fun h w3 J Sm => ?_)
    refine x_iconst (v := 0) rfl ki_0 ?_
    refine x_istoren (lsx9 := [(2, .int 0), (0, .ref 125), (1, .int a1)]) rfl rfl rfl ?_
    exact jX.sub (jsb_c rfl (jsb_c rfl (jsb_c rfl jsb_n))) (ct_X12_findForce_r125_16 hD hQ  361 a1 0 h (by have := jk_0; omega) (jr_of rfl (by omega)) (jr_of jk_0 (by omega)) J Sm)
  ·
    refine x_vret rfl rfl ?_
    exact hQ _ J Sm
def fp_X12_reckon_r125 : jFp := [(125, 61, 62)]
set_option maxRecDepth 100000 in
set_option maxHeartbeats 4000000 in
theorem ct_X12_reckon_r125_131 {Dy : jH → Prop} {h0 : jH} {Q : Option Value → jH → Prop} (hD : jDk Dy) (hQ : ∀ (v : Int64) hx9, jJ jSgM Dy hx9 → jSm fp_X12_reckon_r125 h0 hx9 → Q (some (.long v)) hx9) : ∀ (s0 : Int64) (h : jH), jJ jSgM Dy h → jSm fp_X12_reckon_r125 h0 h → jX m_X12_reckon 1 0 0 131 [] [.long s0] h 0 0 Q := by
  intro s0 h    J Sm
  have es0 := jfullL s0
  refine x_lret rfl rfl ?_
  exact hQ _ _ J Sm
set_option maxRecDepth 100000 in
set_option maxHeartbeats 4000000 in
theorem ct_X12_reckon_r125_5000131 {Dy : jH → Prop} {h0 : jH} {Q : Option Value → jH → Prop} (hD : jDk Dy) (hQ : ∀ (v : Int64) hx9, jJ jSgM Dy hx9 → jSm fp_X12_reckon_r125 h0 hx9 → Q (some (.long v)) hx9) : ∀ (h : jH), jJ jSgM Dy h → jSm fp_X12_reckon_r125 h0 h → jX m_X12_reckon 1 0 0 131 [] [.long 1000000000001] h 0 0 Q := by
  intro  h    J Sm
  refine x_lret rfl rfl ?_
  exact hQ _ _ J Sm
set_option maxRecDepth 100000 in
set_option maxHeartbeats 4000000 in
theorem ct_X12_reckon_r125_127 {Dy : jH → Prop} {h0 : jH} {Q : Option Value → jH → Prop} (hD : jDk Dy) (hQ : ∀ (v : Int64) hx9, jJ jSgM Dy hx9 → jSm fp_X12_reckon_r125 h0 hx9 → Q (some (.long v)) hx9) : ∀ (l2 : Int64) (l4 : Int64) (h : jH), jJ jSgM Dy h → jSm fp_X12_reckon_r125 h0 h → jX m_X12_reckon 1 0 0 127 [(2, .long l2), (4, .long l4)] [] h 0 0 Q := by
  intro l2 l4 h    J Sm
  have el2 := jfullL l2
  have el4 := jfullL l4
  refine x_lloadn (x := l2) rfl rfl ?_
  refine x_lload (x := l4) rfl rfl ?_
  refine z_lmul0 rfl (fun v1 => ?_)
  have ev1 := jfullL v1
  exact jX.sub jsb_n (ct_X12_reckon_r125_131 hD hQ  v1 h J Sm)
set_option maxRecDepth 100000 in
set_option maxHeartbeats 4000000 in
theorem ct_X12_reckon_r125_121 {Dy : jH → Prop} {h0 : jH} {Q : Option Value → jH → Prop} (hD : jDk Dy) (hQ : ∀ (v : Int64) hx9, jJ jSgM Dy hx9 → jSm fp_X12_reckon_r125 h0 hx9 → Q (some (.long v)) hx9) : ∀ (h : jH), jJ jSgM Dy h → jSm fp_X12_reckon_r125 h0 h → jX m_X12_reckon 1 0 0 121 [] [] h 0 0 Q := by
  intro  h    J Sm
  refine x_ldc2 (v := 1000000000001) rfl z_12_731 ?_
  refine x_goto (tgt := 131) rfl rfl ?_
  exact jX.sub jsb_n (ct_X12_reckon_r125_5000131 hD hQ  h J Sm)
set_option maxRecDepth 100000 in
set_option maxHeartbeats 4000000 in
theorem ct_X12_reckon_r125_116 {Dy : jH → Prop} {h0 : jH} {Q : Option Value → jH → Prop} (hD : jDk Dy) (hQ : ∀ (v : Int64) hx9, jJ jSgM Dy hx9 → jSm fp_X12_reckon_r125 h0 hx9 → Q (some (.long v)) hx9) : ∀ (l2 : Int64) (l4 : Int64) (s0 : Int64) (s2 : Int64) (h : jH), l2.toInt ≠ 0 → s0.toInt ≠ 0 → jJ jSgM Dy h → jSm fp_X12_reckon_r125 h0 h → jX m_X12_reckon 1 0 0 116 [(2, .long l2), (4, .long l4)] [.long s0, .long 1000000000000, .long s2] h 0 0 Q := by
  intro l2 l4 s0 s2 h y0 y1   J Sm
  have el2 := jfullL l2
  have el4 := jfullL l4
  have es0 := jfullL s0
  have es2 := jfullL s2
  refine z_ldiv0 rfl rfl (by omega) (fun v1 => ?_)
  have ev1 := jfullL v1
  refine z_lcmp rfl rfl rfl (fun v2 ev2 => ?_)
  refine x_ifle (tgt := 127) rfl rfl (ti_le rfl jk_0 ⟨fun c3 => ?_, fun c3 => ?_⟩)
  ·
    exact jX.sub (jsb_c rfl (jsb_c rfl jsb_n)) (ct_X12_reckon_r125_127 hD hQ  l2 l4 h J Sm)
  ·
    exact jX.sub jsb_n (ct_X12_reckon_r125_121 hD hQ  h J Sm)
set_option maxRecDepth 100000 in
set_option maxHeartbeats 4000000 in
theorem ct_X12_reckon_r125_93 {Dy : jH → Prop} {h0 : jH} {Q : Option Value → jH → Prop} (hD : jDk Dy) (hQ : ∀ (v : Int64) hx9, jJ jSgM Dy hx9 → jSm fp_X12_reckon_r125 h0 hx9 → Q (some (.long v)) hx9) : ∀ (l2 : Int64) (l4 : Int64) (s0 : Int64) (s2 : Int64) (h : jH), l2.toInt ≠ 0 → s0.toInt ≠ 0 → jJ jSgM Dy h → jSm fp_X12_reckon_r125 h0 h → jX m_X12_reckon 1 0 0 93 [(2, .long l2), (4, .long l4)] [.long s0, .long 1000000000000, .long s2] h 0 0 Q := by
  intro l2 l4 s0 s2 h y0 y1   J Sm
  have el2 := jfullL l2
  have el4 := jfullL l4
  have es0 := jfullL s0
  have es2 := jfullL s2
  refine z_ldiv0 rfl rfl (by omega) (fun v1 => ?_)
  have ev1 := jfullL v1
  refine z_lcmp rfl rfl rfl (fun v2 ev2 => ?_)
  refine x_ifgt (tgt := 121) rfl rfl (ti_gt rfl jk_0 ⟨fun c3 => ?_, fun c3 => ?_⟩)
  ·
    exact jX.sub jsb_n (ct_X12_reckon_r125_121 hD hQ  h J Sm)
  ·
    refine x_lload (x := l4) rfl rfl ?_
    refine z_lneg0 rfl (fun v4 => ?_)
    refine x_ldc2 (v := 1000000000000) rfl z_12_729 ?_
    refine x_lloadn (x := l2) rfl rfl ?_
    refine x_lconst (v := 0) rfl kl_0 ?_
    refine z_lcmp rfl rfl jkl_0 (fun v5 ev5 => ?_)
    refine x_ifge (tgt := 115) rfl rfl (ti_ge rfl jk_0 ⟨fun c6 => ?_, fun c6 => ?_⟩)
    ·
      refine x_lloadn (x := l2) rfl rfl ?_
      exact jX.sub (jsb_c rfl (jsb_c rfl jsb_n)) (ct_X12_reckon_r125_116 hD hQ  l2 l4 l2 v4 h (by omega) (by omega) J Sm)
    ·
      refine x_lloadn (x := l2) rfl rfl ?_
      refine z_lneg1 rfl rfl (by omega) (fun v7 nv7 => ?_)
      have ev7 := jfullL v7
      refine x_goto (tgt := 116) rfl rfl ?_
      exact jX.sub (jsb_c rfl (jsb_c rfl jsb_n)) (ct_X12_reckon_r125_116 hD hQ  l2 l4 v7 v4 h (by omega) (by omega) J Sm)
set_option maxRecDepth 100000 in
set_option maxHeartbeats 4000000 in
theorem ct_X12_reckon_r125_5000149 {Dy : jH → Prop} {h0 : jH} {Q : Option Value → jH → Prop} (hD : jDk Dy) (hQ : ∀ (v : Int64) hx9, jJ jSgM Dy hx9 → jSm fp_X12_reckon_r125 h0 hx9 → Q (some (.long v)) hx9) : ∀ (s0 : Int64) (h : jH), 0 ≤ s0.toInt ∧ s0.toInt ≤ 1 → jJ jSgM Dy h → jSm fp_X12_reckon_r125 h0 h → jX m_X12_reckon 1 0 0 149 [] [.long s0] h 0 0 Q := by
  intro s0 h y0   J Sm
  refine x_lret rfl rfl ?_
  exact hQ _ _ J Sm
set_option maxRecDepth 100000 in
set_option maxHeartbeats 4000000 in
theorem ct_X12_reckon_r125_5000162 {Dy : jH → Prop} {h0 : jH} {Q : Option Value → jH → Prop} (hD : jDk Dy) (hQ : ∀ (v : Int64) hx9, jJ jSgM Dy hx9 → jSm fp_X12_reckon_r125 h0 hx9 → Q (some (.long v)) hx9) : ∀ (s0 : Int64) (h : jH), 0 ≤ s0.toInt ∧ s0.toInt ≤ 1 → jJ jSgM Dy h → jSm fp_X12_reckon_r125 h0 h → jX m_X12_reckon 1 0 0 162 [] [.long s0] h 0 0 Q := by
  intro s0 h y0   J Sm
  refine x_lret rfl rfl ?_
  exact hQ _ _ J Sm
set_option maxRecDepth 100000 in
set_option maxHeartbeats 4000000 in
theorem ct_X12_reckon_r125_5000175 {Dy : jH → Prop} {h0 : jH} {Q : Option Value → jH → Prop} (hD : jDk Dy) (hQ : ∀ (v : Int64) hx9, jJ jSgM Dy hx9 → jSm fp_X12_reckon_r125 h0 hx9 → Q (some (.long v)) hx9) : ∀ (s0 : Int64) (h : jH), 0 ≤ s0.toInt ∧ s0.toInt ≤ 1 → jJ jSgM Dy h → jSm fp_X12_reckon_r125 h0 h → jX m_X12_reckon 1 0 0 175 [] [.long s0] h 0 0 Q := by
  intro s0 h y0   J Sm
  refine x_lret rfl rfl ?_
  exact hQ _ _ J Sm
set_option maxRecDepth 100000 in
set_option maxHeartbeats 4000000 in
theorem ct_X12_reckon_r125_20 {Dy : jH → Prop} {h0 : jH} {Q : Option Value → jH → Prop} (hD : jDk Dy) (hQ : ∀ (v : Int64) hx9, jJ jSgM Dy hx9 → jSm fp_X12_reckon_r125 h0 hx9 → Q (some (.long v)) hx9) : ∀ (l1 : Int32) (l2 : Int64) (l4 : Int64) (h : jH), 6 ≤ l1.toInt ∧ l1.toInt ≤ 12 → (l1.toInt ≠ 9 ∨ l4.toInt ≠ 0) → jJ jSgM Dy h → jSm fp_X12_reckon_r125 h0 h → jX m_X12_reckon 1 0 0 20 [(1, .int l1), (2, .long l2), (4, .long l4)] [] h 0 0 Q := by
  intro l1 l2 l4 h y0 y1   J Sm
  have el2 := jfullL l2
  have el4 := jfullL l4
  refine x_iloadn (x := l1) rfl rfl ?_
  by_cases c1 : l1.toInt = 6
  ·
    refine x_tableIn (tgt := 60) 6 rfl c1 (by decide) (by decide) rfl rfl ?_
    refine x_lloadn (x := l2) rfl rfl ?_
    refine x_lload (x := l4) rfl rfl ?_
    refine z_ladd0 rfl (fun v2 => ?_)
    have ev2 := jfullL v2
    refine x_lret rfl rfl ?_
    exact hQ _ _ J Sm
  by_cases c3 : l1.toInt = 7
  ·
    refine x_tableIn (tgt := 65) 7 rfl c3 (by decide) (by decide) rfl rfl ?_
    refine x_lloadn (x := l2) rfl rfl ?_
    refine x_lload (x := l4) rfl rfl ?_
    refine z_lsub0 rfl (fun v4 => ?_)
    have ev4 := jfullL v4
    refine x_lret rfl rfl ?_
    exact hQ _ _ J Sm
  by_cases c5 : l1.toInt = 8
  ·
    refine x_tableIn (tgt := 70) 8 rfl c5 (by decide) (by decide) rfl rfl ?_
    refine x_lloadn (x := l2) rfl rfl ?_
    refine x_lconst (v := 0) rfl kl_0 ?_
    refine z_lcmp rfl rfl jkl_0 (fun v6 ev6 => ?_)
    refine x_ifeq (tgt := 127) rfl rfl (ti_eq rfl jk_0 ⟨fun c7 => ?_, fun c7 => ?_⟩)
    ·
      exact jX.sub (jsb_c rfl (jsb_c rfl jsb_n)) (ct_X12_reckon_r125_127 hD hQ  l2 l4 h J Sm)
    ·
      refine x_lload (x := l4) rfl rfl ?_
      refine x_ldc2 (v := 1000000000000) rfl z_12_729 ?_
      refine x_lloadn (x := l2) rfl rfl ?_
      refine x_lconst (v := 0) rfl kl_0 ?_
      refine z_lcmp rfl rfl jkl_0 (fun v8 ev8 => ?_)
      refine x_ifge (tgt := 92) rfl rfl (ti_ge rfl jk_0 ⟨fun c9 => ?_, fun c9 => ?_⟩)
      ·
        refine x_lloadn (x := l2) rfl rfl ?_
        exact jX.sub (jsb_c rfl (jsb_c rfl jsb_n)) (ct_X12_reckon_r125_93 hD hQ  l2 l4 l2 l4 h (by omega) (by omega) J Sm)
      ·
        refine x_lloadn (x := l2) rfl rfl ?_
        refine z_lneg1 rfl rfl (by omega) (fun v10 nv10 => ?_)
        have ev10 := jfullL v10
        refine x_goto (tgt := 93) rfl rfl ?_
        exact jX.sub (jsb_c rfl (jsb_c rfl jsb_n)) (ct_X12_reckon_r125_93 hD hQ  l2 l4 v10 l4 h (by omega) (by omega) J Sm)
  by_cases c11 : l1.toInt = 9
  ·
    refine x_tableIn (tgt := 132) 9 rfl c11 (by decide) (by decide) rfl rfl ?_
    refine x_lloadn (x := l2) rfl rfl ?_
    refine x_lload (x := l4) rfl rfl ?_
    refine z_ldiv0 rfl rfl (by omega) (fun v12 => ?_)
    have ev12 := jfullL v12
    refine x_lret rfl rfl ?_
    exact hQ _ _ J Sm
  by_cases c13 : l1.toInt = 10
  ·
    refine x_tableIn (tgt := 137) 10 rfl c13 (by decide) (by decide) rfl rfl ?_
    refine x_lloadn (x := l2) rfl rfl ?_
    refine x_lload (x := l4) rfl rfl ?_
    refine z_lcmp rfl rfl rfl (fun v14 ev14 => ?_)
    refine x_ifge (tgt := 148) rfl rfl (ti_ge rfl jk_0 ⟨fun c15 => ?_, fun c15 => ?_⟩)
    ·
      refine x_lconst (v := 0) rfl kl_0 ?_
      exact jX.sub jsb_n (ct_X12_reckon_r125_5000149 hD hQ  0 h (jr_ofl jkl_0 (by omega)) J Sm)
    ·
      refine x_lconst (v := 1) rfl kl_1 ?_
      refine x_goto (tgt := 149) rfl rfl ?_
      exact jX.sub jsb_n (ct_X12_reckon_r125_5000149 hD hQ  1 h (jr_ofl jkl_1 (by omega)) J Sm)
  by_cases c16 : l1.toInt = 11
  ·
    refine x_tableIn (tgt := 150) 11 rfl c16 (by decide) (by decide) rfl rfl ?_
    refine x_lloadn (x := l2) rfl rfl ?_
    refine x_lload (x := l4) rfl rfl ?_
    refine z_lcmp rfl rfl rfl (fun v17 ev17 => ?_)
    refine x_ifle (tgt := 161) rfl rfl (ti_le rfl jk_0 ⟨fun c18 => ?_, fun c18 => ?_⟩)
    ·
      refine x_lconst (v := 0) rfl kl_0 ?_
      exact jX.sub jsb_n (ct_X12_reckon_r125_5000162 hD hQ  0 h (jr_ofl jkl_0 (by omega)) J Sm)
    ·
      refine x_lconst (v := 1) rfl kl_1 ?_
      refine x_goto (tgt := 162) rfl rfl ?_
      exact jX.sub jsb_n (ct_X12_reckon_r125_5000162 hD hQ  1 h (jr_ofl jkl_1 (by omega)) J Sm)
  refine x_tableOut (tgt := 163) rfl (by omega) rfl ?_
  refine x_lloadn (x := l2) rfl rfl ?_
  refine x_lload (x := l4) rfl rfl ?_
  refine z_lcmp rfl rfl rfl (fun v19 ev19 => ?_)
  refine x_ifne (tgt := 174) rfl rfl (ti_ne rfl jk_0 ⟨fun c20 => ?_, fun c20 => ?_⟩)
  ·
    refine x_lconst (v := 0) rfl kl_0 ?_
    exact jX.sub jsb_n (ct_X12_reckon_r125_5000175 hD hQ  0 h (jr_ofl jkl_0 (by omega)) J Sm)
  ·
    refine x_lconst (v := 1) rfl kl_1 ?_
    refine x_goto (tgt := 175) rfl rfl ?_
    exact jX.sub jsb_n (ct_X12_reckon_r125_5000175 hD hQ  1 h (jr_ofl jkl_1 (by omega)) J Sm)
set_option maxRecDepth 100000 in
set_option maxHeartbeats 4000000 in
theorem sf_X12_reckon_r125 {Dy : jH → Prop} {h : jH} {Q : Option Value → jH → Prop} {a1 : Int32} {a2 : Int64} {a3 : Int64} (y1 : 6 ≤ a1.toInt ∧ a1.toInt ≤ 12) (hD : jDk Dy) (J : jJ jSgM Dy h) (hQ : ∀ (v : Int64) hx9, jJ jSgM Dy hx9 → jSm fp_X12_reckon_r125 h hx9 → Q (some (.long v)) hx9) : jC m_X12_reckon 1 0 0 [.ref 125, .int a1, .long a2, .long a3] h Q := by
  refine jC.of rfl k_X12_reckon rfl ?_
  have Sm := jSm_rf fp_X12_reckon_r125 h
  have ea2 := jfullL a2
  have ea3 := jfullL a3
  show jX m_X12_reckon 1 0 0 0 [(0, .ref 125), (1, .int a1), (2, .long a2), (4, .long a3)] [] _ 0 0 _
  refine x_iloadn (x := a1) rfl rfl ?_
  refine x_bipush (v := 9) rfl kb_9 ?_
  refine x_icne (tgt := 20) rfl rfl (ti_ne rfl jk_9 ⟨fun c1 => ?_, fun c1 => ?_⟩)
  ·
    exact jX.sub (jsb_c rfl (jsb_c rfl (jsb_c rfl jsb_n))) (ct_X12_reckon_r125_20 hD hQ  a1 a2 a3 h (jr_of rfl (by omega)) (by omega) J Sm)
  ·
    refine x_lload (x := a3) rfl rfl ?_
    refine x_lconst (v := 0) rfl kl_0 ?_
    refine z_lcmp rfl rfl jkl_0 (fun v2 ev2 => ?_)
    refine x_ifne (tgt := 20) rfl rfl (ti_ne rfl jk_0 ⟨fun c3 => ?_, fun c3 => ?_⟩)
    ·
      exact jX.sub (jsb_c rfl (jsb_c rfl (jsb_c rfl jsb_n))) (ct_X12_reckon_r125_20 hD hQ  a1 a2 a3 h (jr_of rfl (by omega)) (by omega) J Sm)
    ·
      refine x_aloadn (x := 125) rfl rfl ?_
      refine x_iconst (v := 1) rfl ki_1 ?_
      refine z_putZ (N := 92) (w := 1) 12 61 rfl f_12_726 rfl (jfin_no TX12 RX12 92 rfl rfl) hD J Sm rfl rfl jk_1 (by omega) (pw_125_61 (by omega)) rfl (fun h w4 J Sm => ?_)
      refine x_lconst (v := 0) rfl kl_0 ?_
      refine x_lret rfl rfl ?_
      exact hQ _ _ J Sm
def fp_X12_run_r125 : jFp := [(125, 32, 33), (125, 33, 34), (125, 34, 35), (125, 35, 36), (125, 61, 62), (125, 62, 63), (154, 0, 400), (162, 0, 40), (163, 0, 40), (164, 0, 40)]
set_option maxRecDepth 100000 in
set_option maxHeartbeats 4000000 in
theorem ct_X12_run_r125_5000320 {Dy : jH → Prop} {h0 : jH} {Q : Option Value → jH → Prop} {T A B : Nat} {F : Nat → Int32} (hT : T < 30) (hB : B ≤ 400) (hP : jPc F T A B) (hF : ∀ i, 18820 ≤ i → i < 46540 → jiv h0 126 i = F i) (hD : jDk Dy) (hQ : ∀ hx9, jJ jSgM Dy hx9 → jSm fp_X12_run_r125 h0 hx9 → Q none hx9) : ∀ (h : jH), jJ jSgM Dy h → jSm fp_X12_run_r125 h0 h → jX m_X12_run 9 0 0 320 [] [.long 0, .ref 125] h 0 0 Q := by
  intro  h    J Sm
  refine z_putL (N := 92) 12 62 rfl f_12_739 rfl (jfin_no TX12 RX12 92 rfl rfl) hD J Sm rfl rfl rfl (fun h w1 J Sm => ?_)
  refine x_vret rfl rfl ?_
  exact hQ _ J Sm
set_option maxRecDepth 100000 in
set_option maxHeartbeats 4000000 in
theorem ct_X12_run_r125_320 {Dy : jH → Prop} {h0 : jH} {Q : Option Value → jH → Prop} {T A B : Nat} {F : Nat → Int32} (hT : T < 30) (hB : B ≤ 400) (hP : jPc F T A B) (hF : ∀ i, 18820 ≤ i → i < 46540 → jiv h0 126 i = F i) (hD : jDk Dy) (hQ : ∀ hx9, jJ jSgM Dy hx9 → jSm fp_X12_run_r125 h0 hx9 → Q none hx9) : ∀ (s0 : Int64) (h : jH), jJ jSgM Dy h → jSm fp_X12_run_r125 h0 h → jX m_X12_run 9 0 0 320 [] [.long s0, .ref 125] h 0 0 Q := by
  intro s0 h    J Sm
  have es0 := jfullL s0
  refine z_putL (N := 92) 12 62 rfl f_12_739 rfl (jfin_no TX12 RX12 92 rfl rfl) hD J Sm rfl rfl rfl (fun h w1 J Sm => ?_)
  refine x_vret rfl rfl ?_
  exact hQ _ J Sm
set_option maxRecDepth 100000 in
set_option maxHeartbeats 4000000 in
theorem ct_X12_run_r125_304 {Dy : jH → Prop} {h0 : jH} {Q : Option Value → jH → Prop} {T A B : Nat} {F : Nat → Int32} (hT : T < 30) (hB : B ≤ 400) (hP : jPc F T A B) (hF : ∀ i, 18820 ≤ i → i < 46540 → jiv h0 126 i = F i) (hD : jDk Dy) (hQ : ∀ hx9, jJ jSgM Dy hx9 → jSm fp_X12_run_r125 h0 hx9 → Q none hx9) : ∀ (l6 : Int32) (h : jH), 0 ≤ l6.toInt ∧ l6.toInt ≤ 400 → jJ jSgM Dy h → jSm fp_X12_run_r125 h0 h → jX m_X12_run 9 0 0 304 [(0, .ref 125), (6, .int l6)] [] h 0 0 Q := by
  intro l6 h y0   J Sm
  refine x_aloadn (x := 125) rfl rfl ?_
  refine x_iload (x := l6) rfl rfl ?_
  refine x_ifle (tgt := 319) rfl rfl (ti_le rfl jk_0 ⟨fun c1 => ?_, fun c1 => ?_⟩)
  ·
    refine x_lconst (v := 0) rfl kl_0 ?_
    exact jX.sub jsb_n (ct_X12_run_r125_5000320 hT hB hP hF hD hQ  h J Sm)
  ·
    refine x_aloadn (x := 125) rfl rfl ?_
    refine z_getR (N := 92) (b := 154) 12 60 rfl f_12_120 rfl J rfl 16060 ⟨rfl, rfl⟩ rfl ?_
    refine x_iconst (v := 0) rfl ki_0 ?_
    refine z_lald0 (N := 400) rfl J rfl jk_0 (by omega) (fun v2 => ?_)
    have ev2 := jfullL v2
    refine x_goto (tgt := 320) rfl rfl ?_
    exact jX.sub jsb_n (ct_X12_run_r125_320 hT hB hP hF hD hQ  v2 h J Sm)
set_option maxRecDepth 100000 in
set_option maxHeartbeats 4000000 in
theorem ct_X12_run_r125_301 {Dy : jH → Prop} {h0 : jH} {Q : Option Value → jH → Prop} {R11 : Int} {T A B : Nat} {F : Nat → Int32} (hT : T < 30) (hB : B ≤ 400) (hP : jPc F T A B) (hF : ∀ i, 18820 ≤ i → i < 46540 → jiv h0 126 i = F i) (hD : jDk Dy) (hQ : ∀ hx9, jJ jSgM Dy hx9 → jSm fp_X12_run_r125 h0 hx9 → Q none hx9) (k11 : ∀ (l1 : Int32) (l3 : Int32) (l4 : Int32) (l5 : Int32) (l6 : Int32) (l7 : Int32) (g0 : Int32) (h : jH), 2147483647 - l7.toInt < R11 → 0 ≤ l1.toInt ∧ l1.toInt ≤ 29 → (-1) ≤ l4.toInt ∧ l4.toInt ≤ 599 → 0 ≤ l5.toInt ∧ l5.toInt ≤ 146399 → 0 ≤ l6.toInt ∧ l6.toInt ≤ 400 → 0 ≤ g0.toInt ∧ g0.toInt ≤ 1 → ((A : Int) ≤ l7.toInt ∧ (l7.toInt ≤ (B : Int) ∨ l7.toInt = (A : Int)) ∧ l6.toInt = jht F T A (l7.toInt - (A : Int)).toNat) → l1.toInt = (T : Int) → l3.toInt = (B : Int) → jiv h 125 61 = g0 → jJ jSgM Dy h → jSm fp_X12_run_r125 h0 h → jX m_X12_run 9 0 0 11 [(0, .ref 125), (1, .int l1), (3, .int l3), (4, .int l4), (5, .int l5), (6, .int l6), (7, .int l7)] [] h 0 0 Q) : ∀ (l1 : Int32) (l3 : Int32) (l4 : Int32) (l5 : Int32) (l6 : Int32) (l7 : Int32) (g0 : Int32) (h : jH), 0 ≤ l1.toInt ∧ l1.toInt ≤ 29 → 1 ≤ l3.toInt ∧ l3.toInt ≤ 400 → (-1) ≤ l4.toInt ∧ l4.toInt ≤ 599 → 0 ≤ l5.toInt ∧ l5.toInt ≤ 146399 → 0 ≤ l6.toInt ∧ l6.toInt ≤ 400 → 0 ≤ g0.toInt ∧ g0.toInt ≤ 1 → ((A : Int) ≤ l7.toInt ∧ (l7.toInt ≤ (B : Int) ∨ l7.toInt = (A : Int)) ∧ l6.toInt = jht F T A (l7.toInt - (A : Int)).toNat) → l1.toInt = (T : Int) → l3.toInt = (B : Int) → jiv h 125 61 = g0 → 2147483647 - l7.toInt < R11 → jJ jSgM Dy h → jSm fp_X12_run_r125 h0 h → jX m_X12_run 9 0 0 301 [(0, .ref 125), (1, .int l1), (3, .int l3), (4, .int l4), (5, .int l5), (6, .int l6), (7, .int l7)] [] h 0 0 Q := by
  intro l1 l3 l4 l5 l6 l7 g0 h y0 y1 y2 y3 y4 y5 C0 y7 y8 z0 m11 J Sm
  have el7 := jfull l7
  refine x_goto (tgt := 11) rfl rfl ?_
  exact jX.sub (jsb_c rfl (jsb_c rfl (jsb_c rfl (jsb_c rfl (jsb_c rfl (jsb_c rfl (jsb_c rfl jsb_n))))))) (k11 l1 l3 l4 l5 l6 l7 g0 h (by omega) (jr_of rfl (by omega)) (jr_of rfl (by omega)) (jr_of rfl (by omega)) (jr_of rfl (by omega)) (jr_of rfl (by omega)) C0 (by omega) (by omega) z0 J Sm)
set_option maxRecDepth 100000 in
set_option maxHeartbeats 4000000 in
theorem ct_X12_run_r125_5000287 {Dy : jH → Prop} {h0 : jH} {Q : Option Value → jH → Prop} {R11 : Int} {T A B : Nat} {F : Nat → Int32} (hT : T < 30) (hB : B ≤ 400) (hP : jPc F T A B) (hF : ∀ i, 18820 ≤ i → i < 46540 → jiv h0 126 i = F i) (hD : jDk Dy) (hQ : ∀ hx9, jJ jSgM Dy hx9 → jSm fp_X12_run_r125 h0 hx9 → Q none hx9) (k11 : ∀ (l1 : Int32) (l3 : Int32) (l4 : Int32) (l5 : Int32) (l6 : Int32) (l7 : Int32) (g0 : Int32) (h : jH), 2147483647 - l7.toInt < R11 → 0 ≤ l1.toInt ∧ l1.toInt ≤ 29 → (-1) ≤ l4.toInt ∧ l4.toInt ≤ 599 → 0 ≤ l5.toInt ∧ l5.toInt ≤ 146399 → 0 ≤ l6.toInt ∧ l6.toInt ≤ 400 → 0 ≤ g0.toInt ∧ g0.toInt ≤ 1 → ((A : Int) ≤ l7.toInt ∧ (l7.toInt ≤ (B : Int) ∨ l7.toInt = (A : Int)) ∧ l6.toInt = jht F T A (l7.toInt - (A : Int)).toNat) → l1.toInt = (T : Int) → l3.toInt = (B : Int) → jiv h 125 61 = g0 → jJ jSgM Dy h → jSm fp_X12_run_r125 h0 h → jX m_X12_run 9 0 0 11 [(0, .ref 125), (1, .int l1), (3, .int l3), (4, .int l4), (5, .int l5), (6, .int l6), (7, .int l7)] [] h 0 0 Q) : ∀ (l1 : Int32) (l3 : Int32) (l4 : Int32) (l5 : Int32) (l6 : Int32) (l7 : Int32) (l9 : Int32) (s0 : Int64) (s1 : Int64) (g0 : Int32) (h : jH), 0 ≤ l1.toInt ∧ l1.toInt ≤ 29 → 1 ≤ l3.toInt ∧ l3.toInt ≤ 400 → (-1) ≤ l4.toInt ∧ l4.toInt ≤ 599 → 0 ≤ l5.toInt ∧ l5.toInt ≤ 146399 → 1 ≤ l6.toInt ∧ l6.toInt ≤ 400 → 1 ≤ l7.toInt ∧ l7.toInt ≤ 400 → 0 ≤ s0.toInt ∧ s0.toInt ≤ 1 → 0 ≤ g0.toInt ∧ g0.toInt ≤ 0 → ((A : Int) ≤ l7.toInt ∧ l7.toInt ≤ (B : Int) ∧ l6.toInt - 1 = jht F T A (l7.toInt - (A : Int)).toNat ∧ l7.toInt ≤ l9.toInt ∧ l9.toInt ≤ (B : Int) ∧ l6.toInt = jht F T A (l9.toInt - (A : Int)).toNat) → l1.toInt = (T : Int) → l3.toInt = (B : Int) → jiv h 125 61 = g0 → 2147483647 - l7.toInt < R11 → jJ jSgM Dy h → jSm fp_X12_run_r125 h0 h → jX m_X12_run 9 0 0 287 [(0, .ref 125), (1, .int l1), (3, .int l3), (4, .int l4), (5, .int l5), (6, .int l6), (7, .int l7), (9, .int l9)] [.long s0, .long s1] h 0 0 Q := by
  intro l1 l3 l4 l5 l6 l7 l9 s0 s1 g0 h y0 y1 y2 y3 y4 y5 y6 y7 C0 y9 y10 z0 m11 J Sm
  have el9 := jfull l9
  have es1 := jfullL s1
  refine z_lcmp rfl rfl rfl (fun v1 ev1 => ?_)
  refine x_ifne (tgt := 298) rfl rfl (ti_ne rfl jk_0 ⟨fun c2 => ?_, fun c2 => ?_⟩)
  ·
    refine z_iinc (x := l6) (lsx9 := fun v3 => [(6, .int v3), (0, .ref 125), (1, .int l1), (3, .int l3), (4, .int l4), (5, .int l5), (7, .int l7), (9, .int l9)]) rfl rfl rfl jko_m1 (by omega) rfl (fun _ => rfl) (fun v3 ev3 => ?_)
    exact jX.sub (jsb_c rfl (jsb_c rfl (jsb_c rfl (jsb_c rfl (jsb_c rfl (jsb_c rfl (jsb_c rfl jsb_n))))))) (ct_X12_run_r125_301 hT hB hP hF hD hQ k11 l1 l3 l4 l5 v3 l7 g0 h (jr_of rfl (by omega)) (jr_of rfl (by omega)) (jr_of rfl (by omega)) (jr_of rfl (by omega)) (jr_of rfl (by omega)) (jr_of rfl (by omega)) (by omega) (by omega) (by omega) z0 (by omega) J Sm)
  ·
    refine x_iload (x := l9) rfl rfl ?_
    refine x_istore (lsx9 := [(7, .int l9), (0, .ref 125), (1, .int l1), (3, .int l3), (4, .int l4), (5, .int l5), (6, .int l6), (9, .int l9)]) rfl rfl rfl ?_
    refine x_goto (tgt := 301) rfl rfl ?_
    exact jX.sub (jsb_c rfl (jsb_c rfl (jsb_c rfl (jsb_c rfl (jsb_c rfl (jsb_c rfl (jsb_c rfl jsb_n))))))) (ct_X12_run_r125_301 hT hB hP hF hD hQ k11 l1 l3 l4 l5 l6 l9 g0 h (jr_of rfl (by omega)) (jr_of rfl (by omega)) (jr_of rfl (by omega)) (jr_of rfl (by omega)) (jr_of rfl (by omega)) (jr_of rfl (by omega)) (by omega) (by omega) (by omega) z0 (by omega) J Sm)
set_option maxRecDepth 100000 in
set_option maxHeartbeats 4000000 in
theorem ct_X12_run_r125_200195 {Dy : jH → Prop} {h0 : jH} {Q : Option Value → jH → Prop} {R11 : Int} {T A B : Nat} {F : Nat → Int32} (hT : T < 30) (hB : B ≤ 400) (hP : jPc F T A B) (hF : ∀ i, 18820 ≤ i → i < 46540 → jiv h0 126 i = F i) (hD : jDk Dy) (hQ : ∀ hx9, jJ jSgM Dy hx9 → jSm fp_X12_run_r125 h0 hx9 → Q none hx9) (k11 : ∀ (l1 : Int32) (l3 : Int32) (l4 : Int32) (l5 : Int32) (l6 : Int32) (l7 : Int32) (g0 : Int32) (h : jH), 2147483647 - l7.toInt < R11 → 0 ≤ l1.toInt ∧ l1.toInt ≤ 29 → (-1) ≤ l4.toInt ∧ l4.toInt ≤ 599 → 0 ≤ l5.toInt ∧ l5.toInt ≤ 146399 → 0 ≤ l6.toInt ∧ l6.toInt ≤ 400 → 0 ≤ g0.toInt ∧ g0.toInt ≤ 1 → ((A : Int) ≤ l7.toInt ∧ (l7.toInt ≤ (B : Int) ∨ l7.toInt = (A : Int)) ∧ l6.toInt = jht F T A (l7.toInt - (A : Int)).toNat) → l1.toInt = (T : Int) → l3.toInt = (B : Int) → jiv h 125 61 = g0 → jJ jSgM Dy h → jSm fp_X12_run_r125 h0 h → jX m_X12_run 9 0 0 11 [(0, .ref 125), (1, .int l1), (3, .int l3), (4, .int l4), (5, .int l5), (6, .int l6), (7, .int l7)] [] h 0 0 Q) : ∀ (l1 : Int32) (l3 : Int32) (l4 : Int32) (l5 : Int32) (l6 : Int32) (l7 : Int32) (h : jH), 0 ≤ l1.toInt ∧ l1.toInt ≤ 29 → 1 ≤ l3.toInt ∧ l3.toInt ≤ 400 → (-1) ≤ l4.toInt ∧ l4.toInt ≤ 599 → 0 ≤ l5.toInt ∧ l5.toInt ≤ 146399 → 1 ≤ l6.toInt ∧ l6.toInt ≤ 399 → 1 ≤ l7.toInt ∧ l7.toInt ≤ 400 → ((A : Int) ≤ l7.toInt ∧ (l7.toInt ≤ (B : Int) ∨ l7.toInt = (A : Int)) ∧ l6.toInt = jht F T A (l7.toInt - (A : Int)).toNat) → l1.toInt = (T : Int) → l3.toInt = (B : Int) → 2147483647 - l7.toInt < R11 → jJ jSgM Dy h → jSm fp_X12_run_r125 h0 h → jX m_X12_run 9 0 0 195 [(0, .ref 125), (1, .int l1), (3, .int l3), (4, .int l4), (5, .int l5), (6, .int l6), (7, .int l7)] [.int 0, .ref 125] h 0 0 Q := by
  intro l1 l3 l4 l5 l6 l7 h y0 y1 y2 y3 y4 y5 C0 y7 y8  m11 J Sm
  refine z_putZ (N := 92) (w := 0) 12 61 rfl f_12_726 rfl (jfin_no TX12 RX12 92 rfl rfl) hD J Sm rfl rfl jk_0 (by omega) (pw_125_61 (by omega)) rfl (fun h w1 J Sm => ?_)
  refine x_goto (tgt := 301) rfl rfl ?_
  exact jX.sub (jsb_c rfl (jsb_c rfl (jsb_c rfl (jsb_c rfl (jsb_c rfl (jsb_c rfl (jsb_c rfl jsb_n))))))) (ct_X12_run_r125_301 hT hB hP hF hD hQ k11 l1 l3 l4 l5 l6 l7 0 h (jr_of rfl (by omega)) (jr_of rfl (by omega)) (jr_of rfl (by omega)) (jr_of rfl (by omega)) (jr_of rfl (by omega)) (jr_of jk_0 (by omega)) C0 (by omega) (by omega) (jmw w1) (by omega) J Sm)
set_option maxRecDepth 100000 in
set_option maxHeartbeats 4000000 in
theorem ct_X12_run_r125_300195 {Dy : jH → Prop} {h0 : jH} {Q : Option Value → jH → Prop} {R11 : Int} {T A B : Nat} {F : Nat → Int32} (hT : T < 30) (hB : B ≤ 400) (hP : jPc F T A B) (hF : ∀ i, 18820 ≤ i → i < 46540 → jiv h0 126 i = F i) (hD : jDk Dy) (hQ : ∀ hx9, jJ jSgM Dy hx9 → jSm fp_X12_run_r125 h0 hx9 → Q none hx9) (k11 : ∀ (l1 : Int32) (l3 : Int32) (l4 : Int32) (l5 : Int32) (l6 : Int32) (l7 : Int32) (g0 : Int32) (h : jH), 2147483647 - l7.toInt < R11 → 0 ≤ l1.toInt ∧ l1.toInt ≤ 29 → (-1) ≤ l4.toInt ∧ l4.toInt ≤ 599 → 0 ≤ l5.toInt ∧ l5.toInt ≤ 146399 → 0 ≤ l6.toInt ∧ l6.toInt ≤ 400 → 0 ≤ g0.toInt ∧ g0.toInt ≤ 1 → ((A : Int) ≤ l7.toInt ∧ (l7.toInt ≤ (B : Int) ∨ l7.toInt = (A : Int)) ∧ l6.toInt = jht F T A (l7.toInt - (A : Int)).toNat) → l1.toInt = (T : Int) → l3.toInt = (B : Int) → jiv h 125 61 = g0 → jJ jSgM Dy h → jSm fp_X12_run_r125 h0 h → jX m_X12_run 9 0 0 11 [(0, .ref 125), (1, .int l1), (3, .int l3), (4, .int l4), (5, .int l5), (6, .int l6), (7, .int l7)] [] h 0 0 Q) : ∀ (l1 : Int32) (l3 : Int32) (l4 : Int32) (l5 : Int32) (l6 : Int32) (l7 : Int32) (h : jH), 0 ≤ l1.toInt ∧ l1.toInt ≤ 29 → 1 ≤ l3.toInt ∧ l3.toInt ≤ 400 → (-1) ≤ l4.toInt ∧ l4.toInt ≤ 599 → 0 ≤ l5.toInt ∧ l5.toInt ≤ 146399 → 1 ≤ l6.toInt ∧ l6.toInt ≤ 399 → 1 ≤ l7.toInt ∧ l7.toInt ≤ 400 → ((A : Int) ≤ l7.toInt ∧ (l7.toInt ≤ (B : Int) ∨ l7.toInt = (A : Int)) ∧ l6.toInt = jht F T A (l7.toInt - (A : Int)).toNat) → l1.toInt = (T : Int) → l3.toInt = (B : Int) → 2147483647 - l7.toInt < R11 → jJ jSgM Dy h → jSm fp_X12_run_r125 h0 h → jX m_X12_run 9 0 0 195 [(0, .ref 125), (1, .int l1), (3, .int l3), (4, .int l4), (5, .int l5), (6, .int l6), (7, .int l7)] [.int 1, .ref 125] h 0 0 Q := by
  intro l1 l3 l4 l5 l6 l7 h y0 y1 y2 y3 y4 y5 C0 y7 y8  m11 J Sm
  refine z_putZ (N := 92) (w := 1) 12 61 rfl f_12_726 rfl (jfin_no TX12 RX12 92 rfl rfl) hD J Sm rfl rfl jk_1 (by omega) (pw_125_61 (by omega)) rfl (fun h w1 J Sm => ?_)
  refine x_goto (tgt := 301) rfl rfl ?_
  exact jX.sub (jsb_c rfl (jsb_c rfl (jsb_c rfl (jsb_c rfl (jsb_c rfl (jsb_c rfl (jsb_c rfl jsb_n))))))) (ct_X12_run_r125_301 hT hB hP hF hD hQ k11 l1 l3 l4 l5 l6 l7 1 h (jr_of rfl (by omega)) (jr_of rfl (by omega)) (jr_of rfl (by omega)) (jr_of rfl (by omega)) (jr_of rfl (by omega)) (jr_of jk_1 (by omega)) C0 (by omega) (by omega) (jmw w1) (by omega) J Sm)
set_option maxRecDepth 100000 in
set_option maxHeartbeats 4000000 in
theorem ct_X12_run_r125_190 {Dy : jH → Prop} {h0 : jH} {Q : Option Value → jH → Prop} {R11 : Int} {T A B : Nat} {F : Nat → Int32} (hT : T < 30) (hB : B ≤ 400) (hP : jPc F T A B) (hF : ∀ i, 18820 ≤ i → i < 46540 → jiv h0 126 i = F i) (hD : jDk Dy) (hQ : ∀ hx9, jJ jSgM Dy hx9 → jSm fp_X12_run_r125 h0 hx9 → Q none hx9) (k11 : ∀ (l1 : Int32) (l3 : Int32) (l4 : Int32) (l5 : Int32) (l6 : Int32) (l7 : Int32) (g0 : Int32) (h : jH), 2147483647 - l7.toInt < R11 → 0 ≤ l1.toInt ∧ l1.toInt ≤ 29 → (-1) ≤ l4.toInt ∧ l4.toInt ≤ 599 → 0 ≤ l5.toInt ∧ l5.toInt ≤ 146399 → 0 ≤ l6.toInt ∧ l6.toInt ≤ 400 → 0 ≤ g0.toInt ∧ g0.toInt ≤ 1 → ((A : Int) ≤ l7.toInt ∧ (l7.toInt ≤ (B : Int) ∨ l7.toInt = (A : Int)) ∧ l6.toInt = jht F T A (l7.toInt - (A : Int)).toNat) → l1.toInt = (T : Int) → l3.toInt = (B : Int) → jiv h 125 61 = g0 → jJ jSgM Dy h → jSm fp_X12_run_r125 h0 h → jX m_X12_run 9 0 0 11 [(0, .ref 125), (1, .int l1), (3, .int l3), (4, .int l4), (5, .int l5), (6, .int l6), (7, .int l7)] [] h 0 0 Q) : ∀ (l1 : Int32) (l3 : Int32) (l4 : Int32) (l5 : Int32) (l6 : Int32) (l7 : Int32) (h : jH), 0 ≤ l1.toInt ∧ l1.toInt ≤ 29 → 1 ≤ l3.toInt ∧ l3.toInt ≤ 400 → (-1) ≤ l4.toInt ∧ l4.toInt ≤ 599 → 0 ≤ l5.toInt ∧ l5.toInt ≤ 146399 → 1 ≤ l6.toInt ∧ l6.toInt ≤ 399 → 1 ≤ l7.toInt ∧ l7.toInt ≤ 400 → ((A : Int) ≤ l7.toInt ∧ (l7.toInt ≤ (B : Int) ∨ l7.toInt = (A : Int)) ∧ l6.toInt = jht F T A (l7.toInt - (A : Int)).toNat) → l1.toInt = (T : Int) → l3.toInt = (B : Int) → 2147483647 - l7.toInt < R11 → jJ jSgM Dy h → jSm fp_X12_run_r125 h0 h → jX m_X12_run 9 0 0 190 [(0, .ref 125), (1, .int l1), (3, .int l3), (4, .int l4), (5, .int l5), (6, .int l6), (7, .int l7)] [.ref 125] h 0 0 Q := by
  intro l1 l3 l4 l5 l6 l7 h y0 y1 y2 y3 y4 y5 C0 y7 y8  m11 J Sm
  refine x_iconst (v := 1) rfl ki_1 ?_
  refine x_goto (tgt := 195) rfl rfl ?_
  exact jX.sub (jsb_c rfl (jsb_c rfl (jsb_c rfl (jsb_c rfl (jsb_c rfl (jsb_c rfl (jsb_c rfl jsb_n))))))) (ct_X12_run_r125_300195 hT hB hP hF hD hQ k11 l1 l3 l4 l5 l6 l7 h (jr_of rfl (by omega)) (jr_of rfl (by omega)) (jr_of rfl (by omega)) (jr_of rfl (by omega)) (jr_of rfl (by omega)) (jr_of rfl (by omega)) C0 (by omega) (by omega) (by omega) J Sm)
set_option maxRecDepth 100000 in
set_option maxHeartbeats 4000000 in
theorem ct_X12_run_r125_11 {Dy : jH → Prop} {h0 : jH} {Q : Option Value → jH → Prop} {T A B : Nat} {F : Nat → Int32} (hT : T < 30) (hB : B ≤ 400) (hP : jPc F T A B) (hF : ∀ i, 18820 ≤ i → i < 46540 → jiv h0 126 i = F i) (hD : jDk Dy) (hQ : ∀ hx9, jJ jSgM Dy hx9 → jSm fp_X12_run_r125 h0 hx9 → Q none hx9) : ∀ r : Nat, ∀ (l1 : Int32) (l3 : Int32) (l4 : Int32) (l5 : Int32) (l6 : Int32) (l7 : Int32) (g0 : Int32) (h : jH), 2147483647 - l7.toInt < (r : Int) → 0 ≤ l1.toInt ∧ l1.toInt ≤ 29 → (-1) ≤ l4.toInt ∧ l4.toInt ≤ 599 → 0 ≤ l5.toInt ∧ l5.toInt ≤ 146399 → 0 ≤ l6.toInt ∧ l6.toInt ≤ 400 → 0 ≤ g0.toInt ∧ g0.toInt ≤ 1 → ((A : Int) ≤ l7.toInt ∧ (l7.toInt ≤ (B : Int) ∨ l7.toInt = (A : Int)) ∧ l6.toInt = jht F T A (l7.toInt - (A : Int)).toNat) → l1.toInt = (T : Int) → l3.toInt = (B : Int) → jiv h 125 61 = g0 → jJ jSgM Dy h → jSm fp_X12_run_r125 h0 h → jX m_X12_run 9 0 0 11 [(0, .ref 125), (1, .int l1), (3, .int l3), (4, .int l4), (5, .int l5), (6, .int l6), (7, .int l7)] [] h 0 0 Q := by
  intro r
  induction r with
  | zero =>
    intro l1 l3 l4 l5 l6 l7 g0 h hm y0 y1 y2 y3 y4 C0 y6 y7 z0  J Sm
    exfalso
    have el3 := jfull l3
    have el7 := jfull l7
    omega
  | succ r ih =>
    intro l1 l3 l4 l5 l6 l7 g0 h hm y0 y1 y2 y3 y4 C0 y6 y7 z0  J Sm
    have el3 := jfull l3
    have el7 := jfull l7
    refine x_iload (x := l7) rfl rfl ?_
    refine x_iloadn (x := l3) rfl rfl ?_
    refine x_icge (tgt := 304) rfl rfl (ti_ge rfl rfl ⟨fun c1 => ?_, fun c1 => ?_⟩)
    ·
      exact jX.sub (jsb_c rfl (jsb_c rfl jsb_n)) (ct_X12_run_r125_304 hT hB hP hF hD hQ  l6 h (jr_of rfl (by omega)) J Sm)
    ·
      refine x_aloadn (x := 125) rfl rfl ?_
      refine z_getM (N := 92) (v := g0) 12 61 rfl f_12_726 rfl J rfl z0 ?_
      refine x_ifne (tgt := 304) rfl rfl (ti_ne rfl jk_0 ⟨fun c2 => ?_, fun c2 => ?_⟩)
      ·
        exact jX.sub (jsb_c rfl (jsb_c rfl jsb_n)) (ct_X12_run_r125_304 hT hB hP hF hD hQ  l6 h (jr_of rfl (by omega)) J Sm)
      ·
        refine x_aloadn (x := 125) rfl rfl ?_
        refine z_getR (N := 92) (b := 126) 12 2 rfl f_12_8 rfl J rfl 16002 ⟨rfl, rfl⟩ rfl ?_
        refine x_iloadn (x := l1) rfl rfl ?_
        refine x_inst (N := m_X12_textAt) (As := [.int l1]) (st := [.ref 126]) (dx9 := 8) (mc := 0) (ms := 0) (host := "") rfl t_X12_textAt ⟨Or.inl q_12_676, s_X12_textAt⟩ rfl (by decide) rfl rfl ⟨by decide, by decide⟩ (jC.of rfl k_X12_textAt rfl ?_)
        show jX m_X12_textAt 8 0 0 0 [(0, .int l1)] [] _ 0 0 _
        refine x_sipush (v := 18820) rfl ks_18820 ?_
        refine x_sipush (v := 924) rfl ks_924 ?_
        refine x_iloadn (x := l1) rfl rfl ?_
        refine z_imul rfl jk_924 rfl (by omega) (fun v3 ev3 => ?_)
        refine z_iadd rfl jk_18820 rfl (by omega) (fun v4 ev4 => ?_)
        refine x_iret rfl rfl ?_
        show jX m_X12_run 9 0 0 32 [(0, .ref 125), (1, .int l1), (3, .int l3), (4, .int l4), (5, .int l5), (6, .int l6), (7, .int l7)] [.int v4, .ref 126] _ 0 0 _
        refine x_bipush (v := 124) rfl kb_124 ?_
        refine z_iadd rfl rfl jk_124 (by omega) (fun v5 ev5 => ?_)
        refine x_iconst (v := 2) rfl ki_2 ?_
        refine x_iload (x := l7) rfl rfl ?_
        refine z_imul rfl jk_2 rfl (by omega) (fun v6 ev6 => ?_)
        refine z_iadd rfl rfl rfl (by omega) (fun v7 ev7 => ?_)
        refine z_iald0 (N := 50660) rfl J rfl rfl (by omega) (fun v8 qv8 => ?_)
        have ev8 := jfull v8
        refine x_istore (lsx9 := [(8, .int v8), (0, .ref 125), (1, .int l1), (3, .int l3), (4, .int l4), (5, .int l5), (6, .int l6), (7, .int l7)]) rfl rfl rfl ?_
        refine x_aloadn (x := 125) rfl rfl ?_
        refine z_getR (N := 92) (b := 126) 12 2 rfl f_12_8 rfl J rfl 16002 ⟨rfl, rfl⟩ rfl ?_
        refine x_iloadn (x := l1) rfl rfl ?_
        refine x_inst (N := m_X12_textAt) (As := [.int l1]) (st := [.ref 126]) (dx9 := 8) (mc := 0) (ms := 0) (host := "") rfl t_X12_textAt ⟨Or.inl q_12_676, s_X12_textAt⟩ rfl (by decide) rfl rfl ⟨by decide, by decide⟩ (jC.of rfl k_X12_textAt rfl ?_)
        show jX m_X12_textAt 8 0 0 0 [(0, .int l1)] [] _ 0 0 _
        refine x_sipush (v := 18820) rfl ks_18820 ?_
        refine x_sipush (v := 924) rfl ks_924 ?_
        refine x_iloadn (x := l1) rfl rfl ?_
        refine z_imul rfl jk_924 rfl (by omega) (fun v9 ev9 => ?_)
        refine z_iadd rfl jk_18820 rfl (by omega) (fun v10 ev10 => ?_)
        refine x_iret rfl rfl ?_
        show jX m_X12_run 9 0 0 51 [(8, .int v8), (0, .ref 125), (1, .int l1), (3, .int l3), (4, .int l4), (5, .int l5), (6, .int l6), (7, .int l7)] [.int v10, .ref 126] _ 0 0 _
        refine x_bipush (v := 124) rfl kb_124 ?_
        refine z_iadd rfl rfl jk_124 (by omega) (fun v11 ev11 => ?_)
        refine x_iconst (v := 2) rfl ki_2 ?_
        refine x_iload (x := l7) rfl rfl ?_
        refine z_imul rfl jk_2 rfl (by omega) (fun v12 ev12 => ?_)
        refine z_iadd rfl rfl rfl (by omega) (fun v13 ev13 => ?_)
        refine x_iconst (v := 1) rfl ki_1 ?_
        refine z_iadd rfl rfl jk_1 (by omega) (fun v14 ev14 => ?_)
        refine z_iald0 (N := 50660) rfl J rfl rfl (by omega) (fun v15 qv15 => ?_)
        have ev15 := jfull v15
        have xr := jrun (x := l1) (n := l6) (k := l7) hT hP hF Sm rfl C0 (by omega) (by omega) (by omega) qv8 (by omega) qv15
        refine x_istore (lsx9 := [(9, .int v15), (8, .int v8), (0, .ref 125), (1, .int l1), (3, .int l3), (4, .int l4), (5, .int l5), (6, .int l6), (7, .int l7)]) rfl rfl rfl ?_
        refine z_iinc (x := l7) (lsx9 := fun v16 => [(7, .int v16), (9, .int v15), (8, .int v8), (0, .ref 125), (1, .int l1), (3, .int l3), (4, .int l4), (5, .int l5), (6, .int l6)]) rfl rfl rfl jko_1 (by omega) rfl (fun _ => rfl) (fun v16 ev16 => ?_)
        refine x_iload (x := v8) rfl rfl ?_
        refine x_ifne (tgt := 88) rfl rfl (ti_ne rfl jk_0 ⟨fun c17 => ?_, fun c17 => ?_⟩)
        ·
          refine x_iload (x := v8) rfl rfl ?_
          refine x_bipush (v := 6) rfl kb_6 ?_
          refine x_icge (tgt := 120) rfl rfl (ti_ge rfl jk_6 ⟨fun c18 => ?_, fun c18 => ?_⟩)
          ·
            refine x_iload (x := v8) rfl rfl ?_
            refine x_bipush (v := 12) rfl kb_12 ?_
            refine x_icgt (tgt := 201) rfl rfl (ti_gt rfl jk_12 ⟨fun c19 => ?_, fun c19 => ?_⟩)
            ·
              refine x_iload (x := v8) rfl rfl ?_
              refine x_bipush (v := 18) rfl kb_18 ?_
              refine x_icge (tgt := 236) rfl rfl (ti_ge rfl jk_18 ⟨fun c20 => ?_, fun c20 => ?_⟩)
              ·
                refine x_iload (x := v8) rfl rfl ?_
                refine x_bipush (v := 18) rfl kb_18 ?_
                refine x_icne (tgt := 266) rfl rfl (ti_ne rfl jk_18 ⟨fun c21 => ?_, fun c21 => ?_⟩)
                ·
                  refine x_aloadn (x := 125) rfl rfl ?_
                  refine z_getR (N := 92) (b := 154) 12 60 rfl f_12_120 rfl J rfl 16060 ⟨rfl, rfl⟩ rfl ?_
                  refine x_iload (x := l6) rfl rfl ?_
                  refine x_iconst (v := 1) rfl ki_1 ?_
                  refine z_isub rfl rfl jk_1 (by omega) (fun v22 ev22 => ?_)
                  refine z_lald0 (N := 400) rfl J rfl rfl (by omega) (fun v23 => ?_)
                  have ev23 := jfullL v23
                  refine x_iload (x := v8) rfl rfl ?_
                  refine x_bipush (v := 19) rfl kb_19 ?_
                  refine x_icne (tgt := 286) rfl rfl (ti_ne rfl jk_19 ⟨fun c24 => ?_, fun c24 => ?_⟩)
                  ·
                    refine x_lconst (v := 1) rfl kl_1 ?_
                    exact jX.sub (jsb_c rfl (jsb_c rfl (jsb_c rfl (jsb_c rfl (jsb_c rfl (jsb_c rfl (jsb_c rfl (jsb_c rfl jsb_n)))))))) (ct_X12_run_r125_5000287 hT hB hP hF hD hQ ih l1 l3 l4 l5 l6 v16 v15 1 v23 g0 h (jr_of rfl (by omega)) (jr_of rfl (by omega)) (jr_of rfl (by omega)) (jr_of rfl (by omega)) (jr_of rfl (by omega)) (jr_of rfl (by omega)) (jr_ofl jkl_1 (by omega)) (jr_of rfl (by omega)) (by rw [show (v16.toInt - (A : Int)).toNat = (l7.toInt + 1 - (A : Int)).toNat from by omega]; omega) (by omega) (by omega) z0 (by omega) J Sm)
                  ·
                    refine x_lconst (v := 0) rfl kl_0 ?_
                    refine x_goto (tgt := 287) rfl rfl ?_
                    exact jX.sub (jsb_c rfl (jsb_c rfl (jsb_c rfl (jsb_c rfl (jsb_c rfl (jsb_c rfl (jsb_c rfl (jsb_c rfl jsb_n)))))))) (ct_X12_run_r125_5000287 hT hB hP hF hD hQ ih l1 l3 l4 l5 l6 v16 v15 0 v23 g0 h (jr_of rfl (by omega)) (jr_of rfl (by omega)) (jr_of rfl (by omega)) (jr_of rfl (by omega)) (jr_of rfl (by omega)) (jr_of rfl (by omega)) (jr_ofl jkl_0 (by omega)) (jr_of rfl (by omega)) (by rw [show (v16.toInt - (A : Int)).toNat = (l7.toInt + 1 - (A : Int)).toNat from by omega]; omega) (by omega) (by omega) z0 (by omega) J Sm)
                ·
                  refine x_aloadn (x := 125) rfl rfl ?_
                  refine z_getR (N := 92) (b := 154) 12 60 rfl f_12_120 rfl J rfl 16060 ⟨rfl, rfl⟩ rfl ?_
                  refine x_iload (x := l6) rfl rfl ?_
                  refine x_iconst (v := 1) rfl ki_1 ?_
                  refine z_isub rfl rfl jk_1 (by omega) (fun v25 ev25 => ?_)
                  refine x_lconst (v := 1) rfl kl_1 ?_
                  refine x_aloadn (x := 125) rfl rfl ?_
                  refine z_getR (N := 92) (b := 154) 12 60 rfl f_12_120 rfl J rfl 16060 ⟨rfl, rfl⟩ rfl ?_
                  refine x_iload (x := l6) rfl rfl ?_
                  refine x_iconst (v := 1) rfl ki_1 ?_
                  refine z_isub rfl rfl jk_1 (by omega) (fun v26 ev26 => ?_)
                  refine z_lald0 (N := 400) rfl J rfl rfl (by omega) (fun v27 => ?_)
                  have ev27 := jfullL v27
                  refine z_lsub0 rfl (fun v28 => ?_)
                  have ev28 := jfullL v28
                  refine z_last (N := 400) (l := 0) (u := 400) rfl hD J Sm rfl rfl rfl (by omega) rfl (fun h w29 J Sm => ?_)
                  refine x_goto (tgt := 301) rfl rfl ?_
                  exact jX.sub (jsb_c rfl (jsb_c rfl (jsb_c rfl (jsb_c rfl (jsb_c rfl (jsb_c rfl (jsb_c rfl jsb_n))))))) (ct_X12_run_r125_301 hT hB hP hF hD hQ ih l1 l3 l4 l5 l6 v16 g0 h (jr_of rfl (by omega)) (jr_of rfl (by omega)) (jr_of rfl (by omega)) (jr_of rfl (by omega)) (jr_of rfl (by omega)) (jr_of rfl (by omega)) (by rw [show (v16.toInt - (A : Int)).toNat = (l7.toInt + 1 - (A : Int)).toNat from by omega]; omega) (by omega) (by omega) (jml w29 z0) (by omega) J Sm)
              ·
                refine x_aloadn (x := 125) rfl rfl ?_
                refine z_getR (N := 92) (b := 154) 12 60 rfl f_12_120 rfl J rfl 16060 ⟨rfl, rfl⟩ rfl ?_
                refine x_iload (x := l6) rfl rfl ?_
                refine x_aloadn (x := 125) rfl rfl ?_
                refine x_iload (x := l4) rfl rfl ?_
                refine x_iload (x := l5) rfl rfl ?_
                refine x_iload (x := v8) rfl rfl ?_
                refine x_bipush (v := 13) rfl kb_13 ?_
                refine z_isub rfl rfl jk_13 (by omega) (fun v30 ev30 => ?_)
                refine x_iconst (v := 5) rfl ki_5 ?_
                refine z_iadd rfl rfl jk_5 (by omega) (fun v31 ev31 => ?_)
                refine x_inv (N := m_X12_fact2) (As := [.int l4, .int l5, .int v31]) (b := 125) (st := [.int l6, .ref 154]) (dx9 := 8) (mc := 0) (ms := 0) (host := "") 12 rfl t_X12_fact2 ⟨Or.inl q_12_722, i_X12_fact2.1, i_X12_fact2.2⟩ ⟨by decide, rfl⟩ (congrArg Prod.fst (J.1.1 125 (12, 92) rfl)) rfl (by decide) rfl rfl ⟨by decide, by decide⟩ (sf_X12_fact2_r125 (jr_of rfl (by omega)) (jr_of rfl (by omega)) hD J  (fun v33 h J S32 => ?_))
                have ev33 := jfullL v33
                have Sm := jSm_tr rfl Sm S32
                show jX m_X12_run 9 0 0 229 [(7, .int v16), (9, .int v15), (8, .int v8), (0, .ref 125), (1, .int l1), (3, .int l3), (4, .int l4), (5, .int l5), (6, .int l6)] [.long v33, .int l6, .ref 154] _ 0 0 _
                refine z_last (N := 400) (l := 0) (u := 400) rfl hD J Sm rfl rfl rfl (by omega) rfl (fun h w34 J Sm => ?_)
                refine z_iinc (x := l6) (lsx9 := fun v35 => [(6, .int v35), (7, .int v16), (9, .int v15), (8, .int v8), (0, .ref 125), (1, .int l1), (3, .int l3), (4, .int l4), (5, .int l5)]) rfl rfl rfl jko_1 (by omega) rfl (fun _ => rfl) (fun v35 ev35 => ?_)
                refine x_goto (tgt := 301) rfl rfl ?_
                exact jX.sub (jsb_c rfl (jsb_c rfl (jsb_c rfl (jsb_c rfl (jsb_c rfl (jsb_c rfl (jsb_c rfl jsb_n))))))) (ct_X12_run_r125_301 hT hB hP hF hD hQ ih l1 l3 l4 l5 v35 v16 g0 h (jr_of rfl (by omega)) (jr_of rfl (by omega)) (jr_of rfl (by omega)) (jr_of rfl (by omega)) (jr_of rfl (by omega)) (jr_of rfl (by omega)) (by rw [show (v16.toInt - (A : Int)).toNat = (l7.toInt + 1 - (A : Int)).toNat from by omega]; omega) (by omega) (by omega) (jml w34 (jmc S32 rfl z0)) (by omega) J Sm)
            ·
              refine z_iinc (x := l6) (lsx9 := fun v36 => [(6, .int v36), (7, .int v16), (9, .int v15), (8, .int v8), (0, .ref 125), (1, .int l1), (3, .int l3), (4, .int l4), (5, .int l5)]) rfl rfl rfl jko_m1 (by omega) rfl (fun _ => rfl) (fun v36 ev36 => ?_)
              refine x_aloadn (x := 125) rfl rfl ?_
              refine z_getR (N := 92) (b := 154) 12 60 rfl f_12_120 rfl J rfl 16060 ⟨rfl, rfl⟩ rfl ?_
              refine x_iload (x := v36) rfl rfl ?_
              refine x_iconst (v := 1) rfl ki_1 ?_
              refine z_isub rfl rfl jk_1 (by omega) (fun v37 ev37 => ?_)
              refine x_aloadn (x := 125) rfl rfl ?_
              refine x_iload (x := v8) rfl rfl ?_
              refine x_aloadn (x := 125) rfl rfl ?_
              refine z_getR (N := 92) (b := 154) 12 60 rfl f_12_120 rfl J rfl 16060 ⟨rfl, rfl⟩ rfl ?_
              refine x_iload (x := v36) rfl rfl ?_
              refine x_iconst (v := 1) rfl ki_1 ?_
              refine z_isub rfl rfl jk_1 (by omega) (fun v38 ev38 => ?_)
              refine z_lald0 (N := 400) rfl J rfl rfl (by omega) (fun v39 => ?_)
              have ev39 := jfullL v39
              refine x_aloadn (x := 125) rfl rfl ?_
              refine z_getR (N := 92) (b := 154) 12 60 rfl f_12_120 rfl J rfl 16060 ⟨rfl, rfl⟩ rfl ?_
              refine x_iload (x := v36) rfl rfl ?_
              refine z_lald0 (N := 400) rfl J rfl rfl (by omega) (fun v40 => ?_)
              have ev40 := jfullL v40
              refine x_inv (N := m_X12_reckon) (As := [.int v8, .long v39, .long v40]) (b := 125) (st := [.int v37, .ref 154]) (dx9 := 1) (mc := 0) (ms := 0) (host := "") 12 rfl t_X12_reckon ⟨Or.inl q_12_733, i_X12_reckon.1, i_X12_reckon.2⟩ ⟨by decide, rfl⟩ (congrArg Prod.fst (J.1.1 125 (12, 92) rfl)) rfl (by decide) rfl rfl ⟨by decide, by decide⟩ (sf_X12_reckon_r125 (jr_of rfl (by omega)) hD J  (fun v42 h J S41 => ?_))
              have ev42 := jfullL v42
              have Sm := jSm_tr rfl Sm S41
              show jX m_X12_run 9 0 0 160 [(6, .int v36), (7, .int v16), (9, .int v15), (8, .int v8), (0, .ref 125), (1, .int l1), (3, .int l3), (4, .int l4), (5, .int l5)] [.long v42, .int v37, .ref 154] _ 0 0 _
              refine z_last (N := 400) (l := 0) (u := 400) rfl hD J Sm rfl rfl rfl (by omega) rfl (fun h w43 J Sm => ?_)
              refine x_aloadn (x := 125) rfl rfl ?_
              refine x_aloadn (x := 125) rfl rfl ?_
              refine z_getI (N := 92) 12 61 rfl f_12_726 rfl J rfl sg_125_61_62_1_0_1 (fun v44 qv44 ev44 => ?_)
              refine x_ifne (tgt := 190) rfl rfl (ti_ne rfl jk_0 ⟨fun c45 => ?_, fun c45 => ?_⟩)
              ·
                exact jX.sub (jsb_c rfl (jsb_c rfl (jsb_c rfl (jsb_c rfl (jsb_c rfl (jsb_c rfl (jsb_c rfl jsb_n))))))) (ct_X12_run_r125_190 hT hB hP hF hD hQ ih l1 l3 l4 l5 v36 v16 h (jr_of rfl (by omega)) (jr_of rfl (by omega)) (jr_of rfl (by omega)) (jr_of rfl (by omega)) (jr_of rfl (by omega)) (jr_of rfl (by omega)) (by rw [show (v16.toInt - (A : Int)).toNat = (l7.toInt + 1 - (A : Int)).toNat from by omega]; omega) (by omega) (by omega) (by omega) J Sm)
              ·
                refine x_aloadn (x := 125) rfl rfl ?_
                refine z_getR (N := 92) (b := 154) 12 60 rfl f_12_120 rfl J rfl 16060 ⟨rfl, rfl⟩ rfl ?_
                refine x_iload (x := v36) rfl rfl ?_
                refine x_iconst (v := 1) rfl ki_1 ?_
                refine z_isub rfl rfl jk_1 (by omega) (fun v46 ev46 => ?_)
                refine z_lald0 (N := 400) rfl J rfl rfl (by omega) (fun v47 => ?_)
                have ev47 := jfullL v47
                refine x_ldc2 (v := (-1000000000000)) rfl z_12_737 ?_
                refine x_ldc2 (v := 1000000000000) rfl z_12_729 ?_
                refine x_inst (N := m_X12_in) (As := [.long v47, .long (-1000000000000), .long 1000000000000]) (st := [.ref 125]) (dx9 := 1) (mc := 0) (ms := 0) (host := "") rfl t_X12_in ⟨Or.inl q_12_188, s_X12_in⟩ rfl (by decide) rfl rfl ⟨by decide, by decide⟩ (zc_X12_in rfl jkl_m1000000000000 jkl_1000000000000 (fun v48 ev48 => ?_))
                show jX m_X12_run 9 0 0 187 [(6, .int v36), (7, .int v16), (9, .int v15), (8, .int v8), (0, .ref 125), (1, .int l1), (3, .int l3), (4, .int l4), (5, .int l5)] [.int v48, .ref 125] _ 0 0 _
                refine x_ifne (tgt := 194) rfl rfl (ti_ne rfl jk_0 ⟨fun c49 => ?_, fun c49 => ?_⟩)
                ·
                  refine x_iconst (v := 0) rfl ki_0 ?_
                  exact jX.sub (jsb_c rfl (jsb_c rfl (jsb_c rfl (jsb_c rfl (jsb_c rfl (jsb_c rfl (jsb_c rfl jsb_n))))))) (ct_X12_run_r125_200195 hT hB hP hF hD hQ ih l1 l3 l4 l5 v36 v16 h (jr_of rfl (by omega)) (jr_of rfl (by omega)) (jr_of rfl (by omega)) (jr_of rfl (by omega)) (jr_of rfl (by omega)) (jr_of rfl (by omega)) (by rw [show (v16.toInt - (A : Int)).toNat = (l7.toInt + 1 - (A : Int)).toNat from by omega]; omega) (by omega) (by omega) (by omega) J Sm)
                ·
                  exact jX.sub (jsb_c rfl (jsb_c rfl (jsb_c rfl (jsb_c rfl (jsb_c rfl (jsb_c rfl (jsb_c rfl jsb_n))))))) (ct_X12_run_r125_190 hT hB hP hF hD hQ ih l1 l3 l4 l5 v36 v16 h (jr_of rfl (by omega)) (jr_of rfl (by omega)) (jr_of rfl (by omega)) (jr_of rfl (by omega)) (jr_of rfl (by omega)) (jr_of rfl (by omega)) (by rw [show (v16.toInt - (A : Int)).toNat = (l7.toInt + 1 - (A : Int)).toNat from by omega]; omega) (by omega) (by omega) (by omega) J Sm)
          ·
            refine x_aloadn (x := 125) rfl rfl ?_
            refine z_getR (N := 92) (b := 154) 12 60 rfl f_12_120 rfl J rfl 16060 ⟨rfl, rfl⟩ rfl ?_
            refine x_iload (x := l6) rfl rfl ?_
            refine x_aloadn (x := 125) rfl rfl ?_
            refine x_iload (x := l4) rfl rfl ?_
            refine x_iload (x := l5) rfl rfl ?_
            refine x_iload (x := v8) rfl rfl ?_
            refine x_iconst (v := 1) rfl ki_1 ?_
            refine z_isub0 rfl (fun v50 => ?_)
            have ev50 := jfull v50
            refine x_inv (N := m_X12_fact2) (As := [.int l4, .int l5, .int v50]) (b := 125) (st := [.int l6, .ref 154]) (dx9 := 8) (mc := 0) (ms := 0) (host := "") 12 rfl t_X12_fact2 ⟨Or.inl q_12_722, i_X12_fact2.1, i_X12_fact2.2⟩ ⟨by decide, rfl⟩ (congrArg Prod.fst (J.1.1 125 (12, 92) rfl)) rfl (by decide) rfl rfl ⟨by decide, by decide⟩ (sf_X12_fact2_r125 (jr_of rfl (by omega)) (jr_of rfl (by omega)) hD J  (fun v52 h J S51 => ?_))
            have ev52 := jfullL v52
            have Sm := jSm_tr rfl Sm S51
            show jX m_X12_run 9 0 0 113 [(7, .int v16), (9, .int v15), (8, .int v8), (0, .ref 125), (1, .int l1), (3, .int l3), (4, .int l4), (5, .int l5), (6, .int l6)] [.long v52, .int l6, .ref 154] _ 0 0 _
            refine z_last (N := 400) (l := 0) (u := 400) rfl hD J Sm rfl rfl rfl (by omega) rfl (fun h w53 J Sm => ?_)
            refine z_iinc (x := l6) (lsx9 := fun v54 => [(6, .int v54), (7, .int v16), (9, .int v15), (8, .int v8), (0, .ref 125), (1, .int l1), (3, .int l3), (4, .int l4), (5, .int l5)]) rfl rfl rfl jko_1 (by omega) rfl (fun _ => rfl) (fun v54 ev54 => ?_)
            refine x_goto (tgt := 301) rfl rfl ?_
            exact jX.sub (jsb_c rfl (jsb_c rfl (jsb_c rfl (jsb_c rfl (jsb_c rfl (jsb_c rfl (jsb_c rfl jsb_n))))))) (ct_X12_run_r125_301 hT hB hP hF hD hQ ih l1 l3 l4 l5 v54 v16 g0 h (jr_of rfl (by omega)) (jr_of rfl (by omega)) (jr_of rfl (by omega)) (jr_of rfl (by omega)) (jr_of rfl (by omega)) (jr_of rfl (by omega)) (by rw [show (v16.toInt - (A : Int)).toNat = (l7.toInt + 1 - (A : Int)).toNat from by omega]; omega) (by omega) (by omega) (jml w53 (jmc S51 rfl z0)) (by omega) J Sm)
        ·
          refine x_aloadn (x := 125) rfl rfl ?_
          refine z_getR (N := 92) (b := 154) 12 60 rfl f_12_120 rfl J rfl 16060 ⟨rfl, rfl⟩ rfl ?_
          refine x_iload (x := l6) rfl rfl ?_
          refine x_iload (x := v15) rfl rfl ?_
          refine z_i2l rfl rfl (fun v55 ev55 => ?_)
          refine z_last (N := 400) (l := 0) (u := 400) rfl hD J Sm rfl rfl rfl (by omega) rfl (fun h w56 J Sm => ?_)
          refine z_iinc (x := l6) (lsx9 := fun v57 => [(6, .int v57), (7, .int v16), (9, .int v15), (8, .int v8), (0, .ref 125), (1, .int l1), (3, .int l3), (4, .int l4), (5, .int l5)]) rfl rfl rfl jko_1 (by omega) rfl (fun _ => rfl) (fun v57 ev57 => ?_)
          refine x_goto (tgt := 301) rfl rfl ?_
          exact jX.sub (jsb_c rfl (jsb_c rfl (jsb_c rfl (jsb_c rfl (jsb_c rfl (jsb_c rfl (jsb_c rfl jsb_n))))))) (ct_X12_run_r125_301 hT hB hP hF hD hQ ih l1 l3 l4 l5 v57 v16 g0 h (jr_of rfl (by omega)) (jr_of rfl (by omega)) (jr_of rfl (by omega)) (jr_of rfl (by omega)) (jr_of rfl (by omega)) (jr_of rfl (by omega)) (by rw [show (v16.toInt - (A : Int)).toNat = (l7.toInt + 1 - (A : Int)).toNat from by omega]; omega) (by omega) (by omega) (jml w56 z0) (by omega) J Sm)
set_option maxRecDepth 100000 in
set_option maxHeartbeats 4000000 in
theorem sf_X12_run_r125 {Dy : jH → Prop} {h : jH} {Q : Option Value → jH → Prop} {a1 : Int32} {a2 : Int32} {a3 : Int32} {a4 : Int32} {a5 : Int32} (y1 : 0 ≤ a1.toInt ∧ a1.toInt ≤ 29) (y4 : (-1) ≤ a4.toInt ∧ a4.toInt ≤ 599) (y5 : 0 ≤ a5.toInt ∧ a5.toInt ≤ 146399) {T A B : Nat} (hT : T < 30) (hB : B ≤ 400) (hP : jPc (jiv h 126) T A B) (x1 : a1.toInt = (T : Int)) (x2 : a2.toInt = (A : Int)) (x3 : a3.toInt = (B : Int)) (hD : jDk Dy) (J : jJ jSgM Dy h) (hQ : ∀ hx9, jJ jSgM Dy hx9 → jSm fp_X12_run_r125 h hx9 → Q none hx9) : jC m_X12_run 9 0 0 [.ref 125, .int a1, .int a2, .int a3, .int a4, .int a5] h Q := by
  refine jC.of rfl k_X12_run rfl ?_
  have Sm := jSm_rf fp_X12_run_r125 h
  have hF : ∀ i, 18820 ≤ i → i < 46540 → jiv h 126 i = jiv h 126 i := fun _ _ _ => rfl
  have ea2 := jfull a2
  have ea3 := jfull a3
  show jX m_X12_run 9 0 0 0 [(0, .ref 125), (1, .int a1), (2, .int a2), (3, .int a3), (4, .int a4), (5, .int a5)] [] _ 0 0 _
  refine x_aloadn (x := 125) rfl rfl ?_
  refine x_iconst (v := 0) rfl ki_0 ?_
  refine z_putZ (N := 92) (w := 0) 12 61 rfl f_12_726 rfl (jfin_no TX12 RX12 92 rfl rfl) hD J Sm rfl rfl jk_0 (by omega) (pw_125_61 (by omega)) rfl (fun h w1 J Sm => ?_)
  refine x_iconst (v := 0) rfl ki_0 ?_
  refine x_istore (lsx9 := [(6, .int 0), (0, .ref 125), (1, .int a1), (2, .int a2), (3, .int a3), (4, .int a4), (5, .int a5)]) rfl rfl rfl ?_
  refine x_iloadn (x := a2) rfl rfl ?_
  refine x_istore (lsx9 := [(7, .int a2), (6, .int 0), (0, .ref 125), (1, .int a1), (2, .int a2), (3, .int a3), (4, .int a4), (5, .int a5)]) rfl rfl rfl ?_
  exact jX.sub (jsb_c rfl (jsb_c rfl (jsb_c rfl (jsb_c rfl (jsb_c rfl (jsb_c rfl (jsb_c rfl jsb_n))))))) (ct_X12_run_r125_11 hT hB hP hF hD hQ  4294967296 a1 a3 a4 a5 0 a2 0 h (by omega) (jr_of rfl (by omega)) (jr_of rfl (by omega)) (jr_of rfl (by omega)) (jr_of jk_0 (by omega)) (jr_of jk_0 (by omega)) (jrun_0 x2) (by omega) (by omega) (jmw w1) J Sm)
def fp_X12_holdsFor_r125 : jFp := [(125, 32, 33), (125, 33, 34), (125, 34, 35), (125, 35, 36), (125, 57, 58), (125, 61, 62), (125, 62, 63), (125, 63, 64), (152, 0, 360), (153, 0, 30), (154, 0, 400), (162, 0, 40), (163, 0, 40), (164, 0, 40)]
set_option maxRecDepth 100000 in
set_option maxHeartbeats 4000000 in
theorem ct_X12_holdsFor_r125_29 {Dy : jH → Prop} {h0 : jH} {Q : Option Value → jH → Prop} {a1 : Int32} (yy_a1 : 0 ≤ a1.toInt ∧ a1.toInt ≤ 29) {a2 : Int32} (yy_a2 : 0 ≤ a2.toInt ∧ a2.toInt ≤ 11) (hN : jCn h0 a1.toInt a2.toInt) (hD : jDk Dy) (hQ : ∀ (v : Int32) hx9, 0 ≤ v.toInt ∧ v.toInt ≤ 1 → jJ jSgM Dy hx9 → jSm fp_X12_holdsFor_r125 h0 hx9 → Q (some (.int v)) hx9) : ∀ (h : jH), jJ jSgM Dy h → jSm fp_X12_holdsFor_r125 h0 h → jX m_X12_holdsFor 10 0 0 29 [] [] h 0 0 Q := by
  intro  h    J Sm
  refine x_iconst (v := 0) rfl ki_0 ?_
  refine x_zret rfl rfl (by decide) ?_
  exact hQ _ _ (jr_of jk_0 (by omega)) J Sm
set_option maxRecDepth 100000 in
set_option maxHeartbeats 4000000 in
theorem ct_X12_holdsFor_r125_200241 {Dy : jH → Prop} {h0 : jH} {Q : Option Value → jH → Prop} {a1 : Int32} (yy_a1 : 0 ≤ a1.toInt ∧ a1.toInt ≤ 29) {a2 : Int32} (yy_a2 : 0 ≤ a2.toInt ∧ a2.toInt ≤ 11) (hN : jCn h0 a1.toInt a2.toInt) (hD : jDk Dy) (hQ : ∀ (v : Int32) hx9, 0 ≤ v.toInt ∧ v.toInt ≤ 1 → jJ jSgM Dy hx9 → jSm fp_X12_holdsFor_r125 h0 hx9 → Q (some (.int v)) hx9) : ∀ (h : jH), jJ jSgM Dy h → jSm fp_X12_holdsFor_r125 h0 h → jX m_X12_holdsFor 10 0 0 241 [] [.int 0] h 0 0 Q := by
  intro  h    J Sm
  refine x_zret rfl rfl (by decide) ?_
  exact hQ _ _ (jr_of jk_0 (by omega)) J Sm
set_option maxRecDepth 100000 in
set_option maxHeartbeats 4000000 in
theorem ct_X12_holdsFor_r125_300241 {Dy : jH → Prop} {h0 : jH} {Q : Option Value → jH → Prop} {a1 : Int32} (yy_a1 : 0 ≤ a1.toInt ∧ a1.toInt ≤ 29) {a2 : Int32} (yy_a2 : 0 ≤ a2.toInt ∧ a2.toInt ≤ 11) (hN : jCn h0 a1.toInt a2.toInt) (hD : jDk Dy) (hQ : ∀ (v : Int32) hx9, 0 ≤ v.toInt ∧ v.toInt ≤ 1 → jJ jSgM Dy hx9 → jSm fp_X12_holdsFor_r125 h0 hx9 → Q (some (.int v)) hx9) : ∀ (h : jH), jJ jSgM Dy h → jSm fp_X12_holdsFor_r125 h0 h → jX m_X12_holdsFor 10 0 0 241 [] [.int 1] h 0 0 Q := by
  intro  h    J Sm
  refine x_zret rfl rfl (by decide) ?_
  exact hQ _ _ (jr_of jk_1 (by omega)) J Sm
set_option maxRecDepth 100000 in
set_option maxHeartbeats 4000000 in
theorem ct_X12_holdsFor_r125_169 {Dy : jH → Prop} {h0 : jH} {Q : Option Value → jH → Prop} {a1 : Int32} (yy_a1 : 0 ≤ a1.toInt ∧ a1.toInt ≤ 29) {a2 : Int32} (yy_a2 : 0 ≤ a2.toInt ∧ a2.toInt ≤ 11) (hN : jCn h0 a1.toInt a2.toInt) (hD : jDk Dy) (hQ : ∀ (v : Int32) hx9, 0 ≤ v.toInt ∧ v.toInt ≤ 1 → jJ jSgM Dy hx9 → jSm fp_X12_holdsFor_r125 h0 hx9 → Q (some (.int v)) hx9) : ∀ (l3 : Int32) (l4 : Int32) (l5 : Int32) (h : jH), (-1) ≤ l3.toInt ∧ l3.toInt ≤ 599 → 0 ≤ l4.toInt ∧ l4.toInt ≤ 146399 → 18824 ≤ l5.toInt ∧ l5.toInt ≤ 45730 → l5.toInt % 2 = 0 → l5.toInt = 18824 + 924 * a1.toInt + 10 * a2.toInt → jJ jSgM Dy h → jSm fp_X12_holdsFor_r125 h0 h → jX m_X12_holdsFor 10 0 0 169 [(0, .ref 125), (1, .int a1), (3, .int l3), (4, .int l4), (5, .int l5)] [] h 0 0 Q := by
  intro l3 l4 l5 h y0 y1 y2 y3 y4   J Sm
  refine x_aloadn (x := 125) rfl rfl ?_
  refine x_lconst (v := 0) rfl kl_0 ?_
  refine z_putL (N := 92) 12 63 rfl f_12_746 rfl (jfin_no TX12 RX12 92 rfl rfl) hD J Sm rfl rfl rfl (fun h w1 J Sm => ?_)
  refine x_aloadn (x := 125) rfl rfl ?_
  refine z_getR (N := 92) (b := 126) 12 2 rfl f_12_8 rfl J rfl 16002 ⟨rfl, rfl⟩ rfl ?_
  refine x_iload (x := l5) rfl rfl ?_
  refine x_iconst (v := 4) rfl ki_4 ?_
  refine z_iadd rfl rfl jk_4 (by omega) (fun v2 ev2 => ?_)
  refine z_iald0 (N := 50660) rfl J rfl rfl (by omega) (fun v3 qv3 => ?_)
  have ev3 := jfull v3
  refine x_aloadn (x := 125) rfl rfl ?_
  refine z_getR (N := 92) (b := 126) 12 2 rfl f_12_8 rfl J rfl 16002 ⟨rfl, rfl⟩ rfl ?_
  refine x_iload (x := l5) rfl rfl ?_
  refine x_iconst (v := 5) rfl ki_5 ?_
  refine z_iadd rfl rfl jk_5 (by omega) (fun v4 ev4 => ?_)
  refine z_iald0 (N := 50660) rfl J rfl rfl (by omega) (fun v5 qv5 => ?_)
  have ev5 := jfull v5
  refine x_icge (tgt := 242) rfl rfl (ti_ge rfl rfl ⟨fun c6 => ?_, fun c6 => ?_⟩)
  ·
    refine x_iconst (v := 1) rfl ki_1 ?_
    refine x_zret rfl rfl (by decide) ?_
    exact hQ _ _ (jr_of jk_1 (by omega)) J Sm
  ·
    refine x_aloadn (x := 125) rfl rfl ?_
    refine x_iloadn (x := a1) rfl rfl ?_
    refine x_aloadn (x := 125) rfl rfl ?_
    refine z_getR (N := 92) (b := 126) 12 2 rfl f_12_8 rfl J rfl 16002 ⟨rfl, rfl⟩ rfl ?_
    refine x_iload (x := l5) rfl rfl ?_
    refine x_iconst (v := 4) rfl ki_4 ?_
    refine z_iadd rfl rfl jk_4 (by omega) (fun v7 ev7 => ?_)
    refine z_iald0 (N := 50660) rfl J rfl rfl (by omega) (fun v8 qv8 => ?_)
    have ev8 := jfull v8
    refine x_aloadn (x := 125) rfl rfl ?_
    refine z_getR (N := 92) (b := 126) 12 2 rfl f_12_8 rfl J rfl 16002 ⟨rfl, rfl⟩ rfl ?_
    refine x_iload (x := l5) rfl rfl ?_
    refine x_iconst (v := 5) rfl ki_5 ?_
    refine z_iadd rfl rfl jk_5 (by omega) (fun v9 ev9 => ?_)
    refine z_iald0 (N := 50660) rfl J rfl rfl (by omega) (fun v10 qv10 => ?_)
    have ev10 := jfull v10
    refine x_iloadn (x := l3) rfl rfl ?_
    refine x_iload (x := l4) rfl rfl ?_
    obtain ⟨AP11, BP11, xAP11, xBP11, xPP11⟩ := jwv_p (e := 4) (t := a1.toInt) (c := a2.toInt) hD J (by omega) (by omega) (jcn_s Sm rfl hN) (by omega) (by omega) qv8 (by omega) qv10
    refine x_inv (N := m_X12_run) (As := [.int a1, .int v8, .int v10, .int l3, .int l4]) (b := 125) (st := []) (dx9 := 9) (mc := 0) (ms := 0) (host := "") 12 rfl t_X12_run ⟨Or.inl q_12_742, i_X12_run.1, i_X12_run.2⟩ ⟨by decide, rfl⟩ (congrArg Prod.fst (J.1.1 125 (12, 92) rfl)) rfl (by decide) rfl rfl ⟨by decide, by decide⟩ (sf_X12_run_r125 (jr_of rfl (by omega)) (jr_of rfl (by omega)) (jr_of rfl (by omega)) (by omega) xPP11.1 xPP11 (by omega) xAP11 xBP11 hD J  (fun h J S12 => ?_))
    have Sm := jSm_tr rfl Sm S12
    show jX m_X12_holdsFor 10 0 0 221 [(0, .ref 125), (1, .int a1), (3, .int l3), (4, .int l4), (5, .int l5)] [] _ 0 0 _
    refine x_aloadn (x := 125) rfl rfl ?_
    refine x_aloadn (x := 125) rfl rfl ?_
    refine z_getL0 (N := 92) 12 62 rfl f_12_739 rfl J rfl (fun v13 => ?_)
    have ev13 := jfullL v13
    refine z_putL (N := 92) 12 63 rfl f_12_746 rfl (jfin_no TX12 RX12 92 rfl rfl) hD J Sm rfl rfl rfl (fun h w14 J Sm => ?_)
    refine x_aloadn (x := 125) rfl rfl ?_
    refine z_getI (N := 92) 12 61 rfl f_12_726 rfl J rfl sg_125_61_62_1_0_1 (fun v15 qv15 ev15 => ?_)
    refine x_ifne (tgt := 240) rfl rfl (ti_ne rfl jk_0 ⟨fun c16 => ?_, fun c16 => ?_⟩)
    ·
      refine x_iconst (v := 0) rfl ki_0 ?_
      exact jX.sub jsb_n (ct_X12_holdsFor_r125_200241 yy_a1 yy_a2 hN hD hQ  h J Sm)
    ·
      refine x_iconst (v := 1) rfl ki_1 ?_
      refine x_goto (tgt := 241) rfl rfl ?_
      exact jX.sub jsb_n (ct_X12_holdsFor_r125_300241 yy_a1 yy_a2 hN hD hQ  h J Sm)
set_option maxRecDepth 100000 in
set_option maxHeartbeats 4000000 in
theorem ct_X12_holdsFor_r125_167 {Dy : jH → Prop} {h0 : jH} {Q : Option Value → jH → Prop} {a1 : Int32} (yy_a1 : 0 ≤ a1.toInt ∧ a1.toInt ≤ 29) {a2 : Int32} (yy_a2 : 0 ≤ a2.toInt ∧ a2.toInt ≤ 11) (hN : jCn h0 a1.toInt a2.toInt) (hD : jDk Dy) (hQ : ∀ (v : Int32) hx9, 0 ≤ v.toInt ∧ v.toInt ≤ 1 → jJ jSgM Dy hx9 → jSm fp_X12_holdsFor_r125 h0 hx9 → Q (some (.int v)) hx9) : ∀ (h : jH), jJ jSgM Dy h → jSm fp_X12_holdsFor_r125 h0 h → jX m_X12_holdsFor 10 0 0 167 [] [] h 0 0 Q := by
  intro  h    J Sm
  refine x_iconst (v := 0) rfl ki_0 ?_
  refine x_zret rfl rfl (by decide) ?_
  exact hQ _ _ (jr_of jk_0 (by omega)) J Sm
set_option maxRecDepth 100000 in
set_option maxHeartbeats 4000000 in
theorem ct_X12_holdsFor_r125_100 {Dy : jH → Prop} {h0 : jH} {Q : Option Value → jH → Prop} {a1 : Int32} (yy_a1 : 0 ≤ a1.toInt ∧ a1.toInt ≤ 29) {a2 : Int32} (yy_a2 : 0 ≤ a2.toInt ∧ a2.toInt ≤ 11) (hN : jCn h0 a1.toInt a2.toInt) (hD : jDk Dy) (hQ : ∀ (v : Int32) hx9, 0 ≤ v.toInt ∧ v.toInt ≤ 1 → jJ jSgM Dy hx9 → jSm fp_X12_holdsFor_r125 h0 hx9 → Q (some (.int v)) hx9) : ∀ (l3 : Int32) (l4 : Int32) (l5 : Int32) (h : jH), (-1) ≤ l3.toInt ∧ l3.toInt ≤ 599 → 0 ≤ l4.toInt ∧ l4.toInt ≤ 146399 → 18824 ≤ l5.toInt ∧ l5.toInt ≤ 45730 → l5.toInt % 2 = 0 → l5.toInt = 18824 + 924 * a1.toInt + 10 * a2.toInt → jJ jSgM Dy h → jSm fp_X12_holdsFor_r125 h0 h → jX m_X12_holdsFor 10 0 0 100 [(0, .ref 125), (1, .int a1), (3, .int l3), (4, .int l4), (5, .int l5)] [] h 0 0 Q := by
  intro l3 l4 l5 h y0 y1 y2 y3 y4   J Sm
  refine x_aloadn (x := 125) rfl rfl ?_
  refine z_getR (N := 92) (b := 126) 12 2 rfl f_12_8 rfl J rfl 16002 ⟨rfl, rfl⟩ rfl ?_
  refine x_iload (x := l5) rfl rfl ?_
  refine x_bipush (v := 8) rfl kb_8 ?_
  refine z_iadd rfl rfl jk_8 (by omega) (fun v1 ev1 => ?_)
  refine z_iald0 (N := 50660) rfl J rfl rfl (by omega) (fun v2 qv2 => ?_)
  have ev2 := jfull v2
  refine x_aloadn (x := 125) rfl rfl ?_
  refine z_getR (N := 92) (b := 126) 12 2 rfl f_12_8 rfl J rfl 16002 ⟨rfl, rfl⟩ rfl ?_
  refine x_iload (x := l5) rfl rfl ?_
  refine x_bipush (v := 9) rfl kb_9 ?_
  refine z_iadd rfl rfl jk_9 (by omega) (fun v3 ev3 => ?_)
  refine z_iald0 (N := 50660) rfl J rfl rfl (by omega) (fun v4 qv4 => ?_)
  have ev4 := jfull v4
  refine x_icge (tgt := 169) rfl rfl (ti_ge rfl rfl ⟨fun c5 => ?_, fun c5 => ?_⟩)
  ·
    exact jX.sub (jsb_c rfl (jsb_c rfl (jsb_c rfl (jsb_c rfl (jsb_c rfl jsb_n))))) (ct_X12_holdsFor_r125_169 yy_a1 yy_a2 hN hD hQ  l3 l4 l5 h (jr_of rfl (by omega)) (jr_of rfl (by omega)) (jr_of rfl (by omega)) (jr_mod rfl (by omega)) (by omega) J Sm)
  ·
    refine x_aloadn (x := 125) rfl rfl ?_
    refine x_iloadn (x := a1) rfl rfl ?_
    refine x_aloadn (x := 125) rfl rfl ?_
    refine z_getR (N := 92) (b := 126) 12 2 rfl f_12_8 rfl J rfl 16002 ⟨rfl, rfl⟩ rfl ?_
    refine x_iload (x := l5) rfl rfl ?_
    refine x_bipush (v := 8) rfl kb_8 ?_
    refine z_iadd rfl rfl jk_8 (by omega) (fun v6 ev6 => ?_)
    refine z_iald0 (N := 50660) rfl J rfl rfl (by omega) (fun v7 qv7 => ?_)
    have ev7 := jfull v7
    refine x_aloadn (x := 125) rfl rfl ?_
    refine z_getR (N := 92) (b := 126) 12 2 rfl f_12_8 rfl J rfl 16002 ⟨rfl, rfl⟩ rfl ?_
    refine x_iload (x := l5) rfl rfl ?_
    refine x_bipush (v := 9) rfl kb_9 ?_
    refine z_iadd rfl rfl jk_9 (by omega) (fun v8 ev8 => ?_)
    refine z_iald0 (N := 50660) rfl J rfl rfl (by omega) (fun v9 qv9 => ?_)
    have ev9 := jfull v9
    refine x_iloadn (x := l3) rfl rfl ?_
    refine x_iload (x := l4) rfl rfl ?_
    obtain ⟨AP10, BP10, xAP10, xBP10, xPP10⟩ := jwv_p (e := 8) (t := a1.toInt) (c := a2.toInt) hD J (by omega) (by omega) (jcn_s Sm rfl hN) (by omega) (by omega) qv7 (by omega) qv9
    refine x_inv (N := m_X12_run) (As := [.int a1, .int v7, .int v9, .int l3, .int l4]) (b := 125) (st := []) (dx9 := 9) (mc := 0) (ms := 0) (host := "") 12 rfl t_X12_run ⟨Or.inl q_12_742, i_X12_run.1, i_X12_run.2⟩ ⟨by decide, rfl⟩ (congrArg Prod.fst (J.1.1 125 (12, 92) rfl)) rfl (by decide) rfl rfl ⟨by decide, by decide⟩ (sf_X12_run_r125 (jr_of rfl (by omega)) (jr_of rfl (by omega)) (jr_of rfl (by omega)) (by omega) xPP10.1 xPP10 (by omega) xAP10 xBP10 hD J  (fun h J S11 => ?_))
    have Sm := jSm_tr rfl Sm S11
    show jX m_X12_holdsFor 10 0 0 151 [(0, .ref 125), (1, .int a1), (3, .int l3), (4, .int l4), (5, .int l5)] [] _ 0 0 _
    refine x_aloadn (x := 125) rfl rfl ?_
    refine z_getI (N := 92) 12 61 rfl f_12_726 rfl J rfl sg_125_61_62_1_0_1 (fun v12 qv12 ev12 => ?_)
    refine x_ifne (tgt := 167) rfl rfl (ti_ne rfl jk_0 ⟨fun c13 => ?_, fun c13 => ?_⟩)
    ·
      exact jX.sub jsb_n (ct_X12_holdsFor_r125_167 yy_a1 yy_a2 hN hD hQ  h J Sm)
    ·
      refine x_aloadn (x := 125) rfl rfl ?_
      refine z_getL0 (N := 92) 12 62 rfl f_12_739 rfl J rfl (fun v14 => ?_)
      have ev14 := jfullL v14
      refine x_lconst (v := 0) rfl kl_0 ?_
      refine z_lcmp rfl rfl jkl_0 (fun v15 ev15 => ?_)
      refine x_ifeq (tgt := 169) rfl rfl (ti_eq rfl jk_0 ⟨fun c16 => ?_, fun c16 => ?_⟩)
      ·
        exact jX.sub (jsb_c rfl (jsb_c rfl (jsb_c rfl (jsb_c rfl (jsb_c rfl jsb_n))))) (ct_X12_holdsFor_r125_169 yy_a1 yy_a2 hN hD hQ  l3 l4 l5 h (jr_of rfl (by omega)) (jr_of rfl (by omega)) (jr_of rfl (by omega)) (jr_mod rfl (by omega)) (by omega) J Sm)
      ·
        exact jX.sub jsb_n (ct_X12_holdsFor_r125_167 yy_a1 yy_a2 hN hD hQ  h J Sm)
set_option maxRecDepth 100000 in
set_option maxHeartbeats 4000000 in
theorem ct_X12_holdsFor_r125_98 {Dy : jH → Prop} {h0 : jH} {Q : Option Value → jH → Prop} {a1 : Int32} (yy_a1 : 0 ≤ a1.toInt ∧ a1.toInt ≤ 29) {a2 : Int32} (yy_a2 : 0 ≤ a2.toInt ∧ a2.toInt ≤ 11) (hN : jCn h0 a1.toInt a2.toInt) (hD : jDk Dy) (hQ : ∀ (v : Int32) hx9, 0 ≤ v.toInt ∧ v.toInt ≤ 1 → jJ jSgM Dy hx9 → jSm fp_X12_holdsFor_r125 h0 hx9 → Q (some (.int v)) hx9) : ∀ (h : jH), jJ jSgM Dy h → jSm fp_X12_holdsFor_r125 h0 h → jX m_X12_holdsFor 10 0 0 98 [] [] h 0 0 Q := by
  intro  h    J Sm
  refine x_iconst (v := 0) rfl ki_0 ?_
  refine x_zret rfl rfl (by decide) ?_
  exact hQ _ _ (jr_of jk_0 (by omega)) J Sm
set_option maxRecDepth 100000 in
set_option maxHeartbeats 4000000 in
theorem sf_X12_holdsFor_r125 {Dy : jH → Prop} {h : jH} {Q : Option Value → jH → Prop} {a1 : Int32} {a2 : Int32} {a3 : Int32} {a4 : Int32} (y1 : 0 ≤ a1.toInt ∧ a1.toInt ≤ 29) (y2 : 0 ≤ a2.toInt ∧ a2.toInt ≤ 11) (y3 : (-1) ≤ a3.toInt ∧ a3.toInt ≤ 599) (y4 : 0 ≤ a4.toInt ∧ a4.toInt ≤ 146399) (hN : jCn h a1.toInt a2.toInt) (hD : jDk Dy) (J : jJ jSgM Dy h) (hQ : ∀ (v : Int32) hx9, 0 ≤ v.toInt ∧ v.toInt ≤ 1 → jJ jSgM Dy hx9 → jSm fp_X12_holdsFor_r125 h hx9 → Q (some (.int v)) hx9) : jC m_X12_holdsFor 10 0 0 [.ref 125, .int a1, .int a2, .int a3, .int a4] h Q := by
  refine jC.of rfl k_X12_holdsFor rfl ?_
  have Sm := jSm_rf fp_X12_holdsFor_r125 h
  skip
  have yy_a1 := y1
  have yy_a2 := y2
  show jX m_X12_holdsFor 10 0 0 0 [(0, .ref 125), (1, .int a1), (2, .int a2), (3, .int a3), (4, .int a4)] [] _ 0 0 _
  refine x_aloadn (x := 125) rfl rfl ?_
  refine x_iloadn (x := a1) rfl rfl ?_
  refine x_iloadn (x := a2) rfl rfl ?_
  refine x_inv (N := m_X12_clauseAt) (As := [.int a1, .int a2]) (b := 125) (st := []) (dx9 := 9) (mc := 0) (ms := 0) (host := "") 12 rfl t_X12_clauseAt ⟨Or.inl q_12_679, i_X12_clauseAt.1, i_X12_clauseAt.2⟩ ⟨by decide, rfl⟩ (congrArg Prod.fst (J.1.1 125 (12, 92) rfl)) rfl (by decide) rfl rfl ⟨by decide, by decide⟩ (jC.of rfl k_X12_clauseAt rfl ?_)
  show jX m_X12_clauseAt 9 0 0 0 [(0, .ref 125), (1, .int a1), (2, .int a2)] [] _ 0 0 _
  refine x_iloadn (x := a1) rfl rfl ?_
  refine x_inst (N := m_X12_textAt) (As := [.int a1]) (st := []) (dx9 := 8) (mc := 0) (ms := 0) (host := "") rfl t_X12_textAt ⟨Or.inl q_12_676, s_X12_textAt⟩ rfl (by decide) rfl rfl ⟨by decide, by decide⟩ (jC.of rfl k_X12_textAt rfl ?_)
  show jX m_X12_textAt 8 0 0 0 [(0, .int a1)] [] _ 0 0 _
  refine x_sipush (v := 18820) rfl ks_18820 ?_
  refine x_sipush (v := 924) rfl ks_924 ?_
  refine x_iloadn (x := a1) rfl rfl ?_
  refine z_imul rfl jk_924 rfl (by omega) (fun v1 ev1 => ?_)
  refine z_iadd rfl jk_18820 rfl (by omega) (fun v2 ev2 => ?_)
  refine x_iret rfl rfl ?_
  show jX m_X12_clauseAt 9 0 0 4 [(0, .ref 125), (1, .int a1), (2, .int a2)] [.int v2] _ 0 0 _
  refine x_iconst (v := 4) rfl ki_4 ?_
  refine z_iadd rfl rfl jk_4 (by omega) (fun v3 ev3 => ?_)
  refine x_bipush (v := 10) rfl kb_10 ?_
  refine x_iloadn (x := a2) rfl rfl ?_
  refine z_imul rfl jk_10 rfl (by omega) (fun v4 ev4 => ?_)
  refine z_iadd rfl rfl rfl (by omega) (fun v5 ev5 => ?_)
  refine x_iret rfl rfl ?_
  show jX m_X12_holdsFor 10 0 0 6 [(0, .ref 125), (1, .int a1), (2, .int a2), (3, .int a3), (4, .int a4)] [.int v5] _ 0 0 _
  refine x_istore (lsx9 := [(5, .int v5), (0, .ref 125), (1, .int a1), (2, .int a2), (3, .int a3), (4, .int a4)]) rfl rfl rfl ?_
  refine x_aloadn (x := 125) rfl rfl ?_
  refine z_getR (N := 92) (b := 126) 12 2 rfl f_12_8 rfl J rfl 16002 ⟨rfl, rfl⟩ rfl ?_
  refine x_iload (x := v5) rfl rfl ?_
  refine z_iald0 (N := 50660) rfl J rfl rfl (by omega) (fun v6 qv6 => ?_)
  have ev6 := jfull v6
  refine x_ifeq (tgt := 29) rfl rfl (ti_eq rfl jk_0 ⟨fun c7 => ?_, fun c7 => ?_⟩)
  ·
    exact jX.sub jsb_n (ct_X12_holdsFor_r125_29 yy_a1 yy_a2 hN hD hQ  h J Sm)
  ·
    refine x_aloadn (x := 125) rfl rfl ?_
    refine x_iloadn (x := a1) rfl rfl ?_
    refine x_iloadn (x := a2) rfl rfl ?_
    refine x_iload (x := a4) rfl rfl ?_
    refine x_inv (N := m_X12_isForce) (As := [.int a1, .int a2, .int a4]) (b := 125) (st := []) (dx9 := 9) (mc := 0) (ms := 0) (host := "") 12 rfl t_X12_isForce ⟨Or.inl q_12_688, i_X12_isForce.1, i_X12_isForce.2⟩ ⟨by decide, rfl⟩ (congrArg Prod.fst (J.1.1 125 (12, 92) rfl)) rfl (by decide) rfl rfl ⟨by decide, by decide⟩ (jC.of rfl k_X12_isForce rfl ?_)
    show jX m_X12_isForce 9 0 0 0 [(0, .ref 125), (1, .int a1), (2, .int a2), (3, .int a4)] [] _ 0 0 _
    refine x_aloadn (x := 125) rfl rfl ?_
    refine x_iloadn (x := a4) rfl rfl ?_
    refine x_inv (N := m_X12_findForce) (As := [.int a4]) (b := 125) (st := []) (dx9 := 3) (mc := 0) (ms := 0) (host := "") 12 rfl t_X12_findForce ⟨Or.inl q_12_682, i_X12_findForce.1, i_X12_findForce.2⟩ ⟨by decide, rfl⟩ (congrArg Prod.fst (J.1.1 125 (12, 92) rfl)) rfl (by decide) rfl rfl ⟨by decide, by decide⟩ (sf_X12_findForce_r125 (jr_of rfl (by omega)) hD J  (fun h J S8 => ?_))
    have Sm := jSm_tr rfl Sm S8
    show jX m_X12_isForce 9 0 0 5 [(0, .ref 125), (1, .int a1), (2, .int a2), (3, .int a4)] [] _ 0 0 _
    refine x_aloadn (x := 125) rfl rfl ?_
    refine z_getR (N := 92) (b := 153) 12 59 rfl f_12_117 rfl J rfl 16059 ⟨rfl, rfl⟩ rfl ?_
    refine x_iloadn (x := a1) rfl rfl ?_
    refine z_zald (N := 30) rfl J rfl sg_153_0_30_1_0_1 rfl (by omega) (fun v9 qv9 ev9 => ?_)
    refine x_ifeq (tgt := 32) rfl rfl (ti_eq rfl jk_0 ⟨fun c10 => ?_, fun c10 => ?_⟩)
    ·
      refine x_iconst (v := 0) rfl ki_0 ?_
      refine x_zret rfl rfl (by decide) ?_
      show jX m_X12_holdsFor 10 0 0 26 [(5, .int v5), (0, .ref 125), (1, .int a1), (2, .int a2), (3, .int a3), (4, .int a4)] [.int 0] _ 0 0 _
      refine x_ifne (tgt := 31) rfl rfl (ti_ne jk_0 jk_0 (bn_f (by omega) ?_))
      exact jX.sub jsb_n (ct_X12_holdsFor_r125_29 yy_a1 yy_a2 hN hD hQ  h J Sm)
    ·
      refine x_aloadn (x := 125) rfl rfl ?_
      refine z_getR (N := 92) (b := 152) 12 58 rfl f_12_114 rfl J rfl 16058 ⟨rfl, rfl⟩ rfl ?_
      refine x_bipush (v := 12) rfl kb_12 ?_
      refine x_iloadn (x := a1) rfl rfl ?_
      refine z_imul rfl jk_12 rfl (by omega) (fun v11 ev11 => ?_)
      refine x_iloadn (x := a2) rfl rfl ?_
      refine z_iadd rfl rfl rfl (by omega) (fun v12 ev12 => ?_)
      refine z_zald (N := 360) rfl J rfl sg_152_0_360_1_0_1 rfl (by omega) (fun v13 qv13 ev13 => ?_)
      refine x_ifne (tgt := 32) rfl rfl (ti_ne rfl jk_0 ⟨fun c14 => ?_, fun c14 => ?_⟩)
      ·
        refine x_iconst (v := 0) rfl ki_0 ?_
        refine x_zret rfl rfl (by decide) ?_
        show jX m_X12_holdsFor 10 0 0 26 [(5, .int v5), (0, .ref 125), (1, .int a1), (2, .int a2), (3, .int a3), (4, .int a4)] [.int 0] _ 0 0 _
        refine x_ifne (tgt := 31) rfl rfl (ti_ne jk_0 jk_0 (bn_f (by omega) ?_))
        exact jX.sub jsb_n (ct_X12_holdsFor_r125_29 yy_a1 yy_a2 hN hD hQ  h J Sm)
      ·
        refine x_iconst (v := 1) rfl ki_1 ?_
        refine x_goto (tgt := 33) rfl rfl ?_
        refine x_zret rfl rfl (by decide) ?_
        show jX m_X12_holdsFor 10 0 0 26 [(5, .int v5), (0, .ref 125), (1, .int a1), (2, .int a2), (3, .int a3), (4, .int a4)] [.int 1] _ 0 0 _
        refine x_ifne (tgt := 31) rfl rfl (ti_ne jk_1 jk_0 (bn_t (by omega) ?_))
        refine x_aloadn (x := 125) rfl rfl ?_
        refine z_getR (N := 92) (b := 126) 12 2 rfl f_12_8 rfl J rfl 16002 ⟨rfl, rfl⟩ rfl ?_
        refine x_iload (x := v5) rfl rfl ?_
        refine x_bipush (v := 6) rfl kb_6 ?_
        refine z_iadd rfl rfl jk_6 (by omega) (fun v15 ev15 => ?_)
        refine z_iald0 (N := 50660) rfl J rfl rfl (by omega) (fun v16 qv16 => ?_)
        have ev16 := jfull v16
        refine x_aloadn (x := 125) rfl rfl ?_
        refine z_getR (N := 92) (b := 126) 12 2 rfl f_12_8 rfl J rfl 16002 ⟨rfl, rfl⟩ rfl ?_
        refine x_iload (x := v5) rfl rfl ?_
        refine x_bipush (v := 7) rfl kb_7 ?_
        refine z_iadd rfl rfl jk_7 (by omega) (fun v17 ev17 => ?_)
        refine z_iald0 (N := 50660) rfl J rfl rfl (by omega) (fun v18 qv18 => ?_)
        have ev18 := jfull v18
        refine x_icge (tgt := 100) rfl rfl (ti_ge rfl rfl ⟨fun c19 => ?_, fun c19 => ?_⟩)
        ·
          exact jX.sub (jsb_c rfl (jsb_c rfl (jsb_c rfl (jsb_c rfl (jsb_c rfl jsb_n))))) (ct_X12_holdsFor_r125_100 yy_a1 yy_a2 hN hD hQ  a3 a4 v5 h (jr_of rfl (by omega)) (jr_of rfl (by omega)) (jr_of rfl (by omega)) (jr_mod rfl (by omega)) (by omega) J Sm)
        ·
          refine x_aloadn (x := 125) rfl rfl ?_
          refine x_iloadn (x := a1) rfl rfl ?_
          refine x_aloadn (x := 125) rfl rfl ?_
          refine z_getR (N := 92) (b := 126) 12 2 rfl f_12_8 rfl J rfl 16002 ⟨rfl, rfl⟩ rfl ?_
          refine x_iload (x := v5) rfl rfl ?_
          refine x_bipush (v := 6) rfl kb_6 ?_
          refine z_iadd rfl rfl jk_6 (by omega) (fun v20 ev20 => ?_)
          refine z_iald0 (N := 50660) rfl J rfl rfl (by omega) (fun v21 qv21 => ?_)
          have ev21 := jfull v21
          refine x_aloadn (x := 125) rfl rfl ?_
          refine z_getR (N := 92) (b := 126) 12 2 rfl f_12_8 rfl J rfl 16002 ⟨rfl, rfl⟩ rfl ?_
          refine x_iload (x := v5) rfl rfl ?_
          refine x_bipush (v := 7) rfl kb_7 ?_
          refine z_iadd rfl rfl jk_7 (by omega) (fun v22 ev22 => ?_)
          refine z_iald0 (N := 50660) rfl J rfl rfl (by omega) (fun v23 qv23 => ?_)
          have ev23 := jfull v23
          refine x_iloadn (x := a3) rfl rfl ?_
          refine x_iload (x := a4) rfl rfl ?_
          obtain ⟨AP24, BP24, xAP24, xBP24, xPP24⟩ := jwv_p (e := 6) (t := a1.toInt) (c := a2.toInt) hD J (by omega) (by omega) (jcn_s Sm rfl hN) (by omega) (by omega) qv21 (by omega) qv23
          refine x_inv (N := m_X12_run) (As := [.int a1, .int v21, .int v23, .int a3, .int a4]) (b := 125) (st := []) (dx9 := 9) (mc := 0) (ms := 0) (host := "") 12 rfl t_X12_run ⟨Or.inl q_12_742, i_X12_run.1, i_X12_run.2⟩ ⟨by decide, rfl⟩ (congrArg Prod.fst (J.1.1 125 (12, 92) rfl)) rfl (by decide) rfl rfl ⟨by decide, by decide⟩ (sf_X12_run_r125 (jr_of rfl (by omega)) (jr_of rfl (by omega)) (jr_of rfl (by omega)) (by omega) xPP24.1 xPP24 (by omega) xAP24 xBP24 hD J  (fun h J S25 => ?_))
          have Sm := jSm_tr rfl Sm S25
          show jX m_X12_holdsFor 10 0 0 82 [(5, .int v5), (0, .ref 125), (1, .int a1), (2, .int a2), (3, .int a3), (4, .int a4)] [] _ 0 0 _
          refine x_aloadn (x := 125) rfl rfl ?_
          refine z_getI (N := 92) 12 61 rfl f_12_726 rfl J rfl sg_125_61_62_1_0_1 (fun v26 qv26 ev26 => ?_)
          refine x_ifne (tgt := 98) rfl rfl (ti_ne rfl jk_0 ⟨fun c27 => ?_, fun c27 => ?_⟩)
          ·
            exact jX.sub jsb_n (ct_X12_holdsFor_r125_98 yy_a1 yy_a2 hN hD hQ  h J Sm)
          ·
            refine x_aloadn (x := 125) rfl rfl ?_
            refine z_getL0 (N := 92) 12 62 rfl f_12_739 rfl J rfl (fun v28 => ?_)
            have ev28 := jfullL v28
            refine x_lconst (v := 0) rfl kl_0 ?_
            refine z_lcmp rfl rfl jkl_0 (fun v29 ev29 => ?_)
            refine x_ifne (tgt := 100) rfl rfl (ti_ne rfl jk_0 ⟨fun c30 => ?_, fun c30 => ?_⟩)
            ·
              exact jX.sub (jsb_c rfl (jsb_c rfl (jsb_c rfl (jsb_c rfl (jsb_c rfl jsb_n))))) (ct_X12_holdsFor_r125_100 yy_a1 yy_a2 hN hD hQ  a3 a4 v5 h (jr_of rfl (by omega)) (jr_of rfl (by omega)) (jr_of rfl (by omega)) (jr_mod rfl (by omega)) (by omega) J Sm)
            ·
              exact jX.sub jsb_n (ct_X12_holdsFor_r125_98 yy_a1 yy_a2 hN hD hQ  h J Sm)
