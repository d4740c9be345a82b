def fp_X12_apart_r125d : jFp := [(125, 0, 1), (125, 1, 2), (126, 1, 2), (126, 18020, 18140)]
set_option maxRecDepth 100000 in
set_option maxHeartbeats 4000000 in
theorem ct_X12_apart_r125d_21 {Dy : jH → Prop} {h0 : jH} {Q : Option Value → jH → Prop} {dr : (Int × jW)} (hD : jDk Dy) (hQ : ∀ (v : Int32) hx9, jJ jSgM Dy hx9 → jSm fp_X12_apart_r125d h0 hx9 → dr.1 = v.toInt → dr.2 = vw hx9 → Q (some (.int v)) hx9) : ∀ (h : jH), jJ jSgM Dy h → jSm fp_X12_apart_r125d h0 h → d_X12_apart_r125d_21  (vw h) = dr → jX m_X12_apart 4 0 0 21 [(0, .ref 125)] [] h 0 0 Q := by
  intro  h    J Sm D
  unfold d_X12_apart_r125d_21 at D
  refine x_aloadn (x := 125) rfl rfl ?_
  refine x_bipush (v := (-2)) rfl kb_m2 ?_
  refine x_inv (N := m_X12_told) (As := [.int (-2)]) (b := 125) (st := []) (dx9 := 1) (mc := 0) (ms := 0) (host := "") 12 rfl t_X12_told ⟨Or.inl q_12_197, i_X12_told.1, i_X12_told.2⟩ ⟨by decide, rfl⟩ (congrArg Prod.fst (J.1.1 125 (12, 92) rfl)) rfl (by decide) rfl rfl ⟨by decide, by decide⟩ (sf_X12_told_r125d  hD J rfl  (fun v4 h J S1 X2 X3 => ?_))
  have ev4 := jfull v4
  have Sm := jSm_tr rfl Sm S1
  try rw [jk_m2] at X2
  try rw [jk_m2] at X3
  try rw [X2] at D
  try rw [X3] at D
  show jX m_X12_apart 4 0 0 27 [(0, .ref 125)] [.int v4] _ 0 0 _
  refine x_iret rfl rfl ?_
  exact hQ _ _ J Sm ((congrArg Prod.fst D).symm.trans X2) ((congrArg Prod.snd D).symm.trans X3)
set_option maxRecDepth 100000 in
set_option maxHeartbeats 4000000 in
theorem sf_X12_apart_r125d {Dy : jH → Prop} {h : jH} {Q : Option Value → jH → Prop} {dr : (Int × jW)} {a1 : Int32} {a2 : Int32} (hD : jDk Dy) (J : jJ jSgM Dy h) (D : d_X12_apart_r125d a1.toInt a2.toInt (vw h) = dr) (hQ : ∀ (v : Int32) hx9, jJ jSgM Dy hx9 → jSm fp_X12_apart_r125d h hx9 → dr.1 = v.toInt → dr.2 = vw hx9 → Q (some (.int v)) hx9) : jC m_X12_apart 4 0 0 [.ref 125, .int a1, .int a2] h Q := by
  refine jC.of rfl k_X12_apart rfl ?_
  have Sm := jSm_rf fp_X12_apart_r125d h
  have ea1 := jfull a1
  have ea2 := jfull a2
  show jX m_X12_apart 4 0 0 0 [(0, .ref 125), (1, .int a1), (2, .int a2)] [] _ 0 0 _
  unfold d_X12_apart_r125d at D
  refine x_aloadn (x := 125) rfl rfl ?_
  refine x_iconst (v := 0) rfl ki_0 ?_
  refine z_putI (N := 92) (w := 0) 12 0 rfl f_12_180 rfl (jfin_no TX12 RX12 92 rfl rfl) hD J Sm rfl rfl jk_0 (pw_125_0 (by omega)) rfl (fun h w1 J Sm => ?_)
  rw [vwf w1 (show 0 = (0 : Int32).toInt from by have := jk_0; omega)] at D
  refine x_aloadn (x := 125) rfl rfl ?_
  refine x_iloadn (x := a1) rfl rfl ?_
  refine x_inv (N := m_X12_isMention) (As := [.int a1]) (b := 125) (st := []) (dx9 := 3) (mc := 0) (ms := 0) (host := "") 12 rfl t_X12_isMention ⟨Or.inl q_12_322, i_X12_isMention.1, i_X12_isMention.2⟩ ⟨by decide, rfl⟩ (congrArg Prod.fst (J.1.1 125 (12, 92) rfl)) rfl (by decide) rfl rfl ⟨by decide, by decide⟩ (jC.of rfl k_X12_isMention rfl ?_)
  show jX m_X12_isMention 3 0 0 0 [(0, .ref 125), (1, .int a1)] [] _ 0 0 _
  refine x_iloadn (x := a1) rfl rfl ?_
  refine x_iflt (tgt := 34) rfl rfl (ti_lt rfl jk_0 ⟨fun c2 => ?_, fun c2 => ?_⟩)
  ·
    rw [if_pos (by omega)] at D
    refine x_iconst (v := 0) rfl ki_0 ?_
    refine x_zret rfl rfl (by decide) ?_
    show jX m_X12_apart 4 0 0 10 [(0, .ref 125), (1, .int a1), (2, .int a2)] [.int 0] _ 0 0 _
    refine x_ifeq (tgt := 21) rfl rfl (ti_eq jk_0 jk_0 (br_t (by omega) ?_))
    exact jX.sub (jsb_c rfl jsb_n) (ct_X12_apart_r125d_21 hD hQ  h J Sm D)
  ·
    rw [if_neg (by omega)] at D
    refine x_aloadn (x := 125) rfl rfl ?_
    refine x_iloadn (x := a1) rfl rfl ?_
    refine x_iconst (v := 3) rfl ki_3 ?_
    refine z_idiv rfl rfl jk_3 (by omega) (by omega) (fun v3 ev3 => ?_)
    refine x_inv (N := m_X12_isLine) (As := [.int v3]) (b := 125) (st := []) (dx9 := 2) (mc := 0) (ms := 0) (host := "") 12 rfl t_X12_isLine ⟨Or.inl q_12_293, i_X12_isLine.1, i_X12_isLine.2⟩ ⟨by decide, rfl⟩ (congrArg Prod.fst (J.1.1 125 (12, 92) rfl)) rfl (by decide) rfl rfl ⟨by decide, by decide⟩ (jC.of rfl k_X12_isLine rfl ?_)
    show jX m_X12_isLine 2 0 0 0 [(0, .ref 125), (1, .int v3)] [] _ 0 0 _
    refine x_iloadn (x := v3) rfl rfl ?_
    refine z_i2l rfl rfl (fun v4 ev4 => ?_)
    refine x_lconst (v := 0) rfl kl_0 ?_
    refine x_aloadn (x := 125) rfl rfl ?_
    refine z_getR (N := 92) (b := 126) 12 2 rfl f_12_8 rfl J rfl 16002 ⟨rfl, rfl⟩ rfl ?_
    refine x_iconst (v := 0) rfl ki_0 ?_
    refine z_iald (N := 50660) rfl J rfl sg_126_0_1_1_0_1 jk_0 (by omega) (fun v5 qv5 ev5 => ?_)
    try rw [vrn (n := 0) (by decide) (jmb_w w1 qv5 rfl)] at D
    refine z_i2l rfl rfl (fun v6 ev6 => ?_)
    refine x_lconst (v := 1) rfl kl_1 ?_
    refine z_lsub rfl rfl jkl_1 (by omega) (fun v7 ev7 => ?_)
    refine x_inst (N := m_X12_in) (As := [.long v4, .long 0, .long v7]) (st := []) (dx9 := 1) (mc := 0) (ms := 0) (host := "") rfl t_X12_in ⟨Or.inl q_12_188, s_X12_in⟩ rfl (by decide) rfl rfl ⟨by decide, by decide⟩ (zc_X12_in rfl jkl_0 rfl (fun v8 ev8 => ?_))
    show jX m_X12_isLine 2 0 0 15 [(0, .ref 125), (1, .int v3)] [.int v8] _ 0 0 _
    refine x_zret rfl rfl (jz01 (by omega)) ?_
    show jX m_X12_isMention 3 0 0 11 [(0, .ref 125), (1, .int a1)] [.int v8] _ 0 0 _
    refine x_ifeq (tgt := 34) rfl rfl (ti_eq rfl jk_0 ⟨fun c9 => ?_, fun c9 => ?_⟩)
    ·
      rw [if_neg (by omega)] at D
      refine x_iconst (v := 0) rfl ki_0 ?_
      refine x_zret rfl rfl (by decide) ?_
      show jX m_X12_apart 4 0 0 10 [(0, .ref 125), (1, .int a1), (2, .int a2)] [.int 0] _ 0 0 _
      refine x_ifeq (tgt := 21) rfl rfl (ti_eq jk_0 jk_0 (br_t (by omega) ?_))
      exact jX.sub (jsb_c rfl jsb_n) (ct_X12_apart_r125d_21 hD hQ  h J Sm D)
    ·
      rw [if_pos (by omega)] at D
      refine x_iloadn (x := a1) rfl rfl ?_
      refine x_iconst (v := 3) rfl ki_3 ?_
      refine z_irem rfl rfl jk_3 (by omega) (by omega) (fun v10 ev10 => ?_)
      refine x_aloadn (x := 125) rfl rfl ?_
      refine x_iloadn (x := a1) rfl rfl ?_
      refine x_iconst (v := 3) rfl ki_3 ?_
      refine z_idiv rfl rfl jk_3 (by omega) (by omega) (fun v11 ev11 => ?_)
      refine x_inv (N := m_X12_bookOf) (As := [.int v11]) (b := 125) (st := [.int v10]) (dx9 := 2) (mc := 0) (ms := 0) (host := "") 12 rfl t_X12_bookOf ⟨Or.inl q_12_299, i_X12_bookOf.1, i_X12_bookOf.2⟩ ⟨by decide, rfl⟩ (congrArg Prod.fst (J.1.1 125 (12, 92) rfl)) rfl (by decide) rfl rfl ⟨by decide, by decide⟩ (jC.of rfl k_X12_bookOf rfl ?_)
      show jX m_X12_bookOf 2 0 0 0 [(0, .ref 125), (1, .int v11)] [] _ 0 0 _
      refine x_aloadn (x := 125) rfl rfl ?_
      refine z_getR (N := 92) (b := 126) 12 2 rfl f_12_8 rfl J rfl 16002 ⟨rfl, rfl⟩ rfl ?_
      refine x_aloadn (x := 125) rfl rfl ?_
      refine x_iloadn (x := v11) rfl rfl ?_
      refine x_inv (N := m_X12_at) (As := [.int v11]) (b := 125) (st := [.ref 126]) (dx9 := 1) (mc := 0) (ms := 0) (host := "") 12 rfl t_X12_at ⟨Or.inl q_12_254, i_X12_at.1, i_X12_at.2⟩ ⟨by decide, rfl⟩ (congrArg Prod.fst (J.1.1 125 (12, 92) rfl)) rfl (by decide) rfl rfl ⟨by decide, by decide⟩ (jC.of rfl k_X12_at rfl ?_)
      show jX m_X12_at 1 0 0 0 [(0, .ref 125), (1, .int v11)] [] _ 0 0 _
      refine x_bipush (v := 20) rfl kb_20 ?_
      refine x_bipush (v := 90) rfl kb_90 ?_
      refine x_iloadn (x := v11) rfl rfl ?_
      refine z_imul rfl jk_90 rfl (by omega) (fun v12 ev12 => ?_)
      refine z_iadd rfl jk_20 rfl (by omega) (fun v13 ev13 => ?_)
      refine x_iret rfl rfl ?_
      show jX m_X12_bookOf 2 0 0 9 [(0, .ref 125), (1, .int v11)] [.int v13, .ref 126] _ 0 0 _
      refine z_iald (N := 50660) rfl J rfl sg_126_20_18020_90_0_1 rfl (by omega) (fun v14 qv14 ev14 => ?_)
      try rw [vrd (jmb_w w1 qv14 rfl) (show (20 + (90 * (a1.toInt / 3))) = v13.toInt from by omega)] at D
      refine x_iret rfl rfl ?_
      show jX m_X12_isMention 3 0 0 24 [(0, .ref 125), (1, .int a1)] [.int v14, .int v10] _ 0 0 _
      refine x_inst (N := m_X12_rolesOf) (As := [.int v14]) (st := [.int v10]) (dx9 := 2) (mc := 0) (ms := 0) (host := "") rfl t_X12_rolesOf ⟨Or.inl q_12_286, s_X12_rolesOf⟩ rfl (by decide) rfl rfl ⟨by decide, by decide⟩ (jC.of rfl k_X12_rolesOf rfl ?_)
      show jX m_X12_rolesOf 2 0 0 0 [(0, .int v14)] [] _ 0 0 _
      refine x_iloadn (x := v14) rfl rfl ?_
      refine x_ifne (tgt := 8) rfl rfl (ti_ne rfl jk_0 ⟨fun c15 => ?_, fun c15 => ?_⟩)
      ·
        rw [if_neg (by omega)] at D
        refine x_iloadn (x := v14) rfl rfl ?_
        refine x_iconst (v := 1) rfl ki_1 ?_
        refine x_icne (tgt := 17) rfl rfl (ti_ne rfl jk_1 ⟨fun c16 => ?_, fun c16 => ?_⟩)
        ·
          rw [if_neg (by omega)] at D
          refine x_iconst (v := 1) rfl ki_1 ?_
          refine x_iret rfl rfl ?_
          show jX m_X12_isMention 3 0 0 27 [(0, .ref 125), (1, .int a1)] [.int 1, .int v10] _ 0 0 _
          refine x_icge (tgt := 34) rfl rfl (ti_ge rfl jk_1 ⟨fun c17 => ?_, fun c17 => ?_⟩)
          ·
            rw [if_pos (by omega)] at D
            refine x_iconst (v := 0) rfl ki_0 ?_
            refine x_zret rfl rfl (by decide) ?_
            show jX m_X12_apart 4 0 0 10 [(0, .ref 125), (1, .int a1), (2, .int a2)] [.int 0] _ 0 0 _
            refine x_ifeq (tgt := 21) rfl rfl (ti_eq jk_0 jk_0 (br_t (by omega) ?_))
            exact jX.sub (jsb_c rfl jsb_n) (ct_X12_apart_r125d_21 hD hQ  h J Sm D)
          ·
            rw [if_neg (by omega)] at D
            refine x_iconst (v := 1) rfl ki_1 ?_
            refine x_goto (tgt := 35) rfl rfl ?_
            refine x_zret rfl rfl (by decide) ?_
            show jX m_X12_apart 4 0 0 10 [(0, .ref 125), (1, .int a1), (2, .int a2)] [.int 1] _ 0 0 _
            refine x_ifeq (tgt := 21) rfl rfl (ti_eq jk_1 jk_0 (br_f (by omega) ?_))
            refine x_aloadn (x := 125) rfl rfl ?_
            refine x_iloadn (x := a2) rfl rfl ?_
            refine x_inv (N := m_X12_isMention) (As := [.int a2]) (b := 125) (st := []) (dx9 := 3) (mc := 0) (ms := 0) (host := "") 12 rfl t_X12_isMention ⟨Or.inl q_12_322, i_X12_isMention.1, i_X12_isMention.2⟩ ⟨by decide, rfl⟩ (congrArg Prod.fst (J.1.1 125 (12, 92) rfl)) rfl (by decide) rfl rfl ⟨by decide, by decide⟩ (jC.of rfl k_X12_isMention rfl ?_)
            show jX m_X12_isMention 3 0 0 0 [(0, .ref 125), (1, .int a2)] [] _ 0 0 _
            refine x_iloadn (x := a2) rfl rfl ?_
            refine x_iflt (tgt := 34) rfl rfl (ti_lt rfl jk_0 ⟨fun c18 => ?_, fun c18 => ?_⟩)
            ·
              rw [if_pos (by omega)] at D
              refine x_iconst (v := 0) rfl ki_0 ?_
              refine x_zret rfl rfl (by decide) ?_
              show jX m_X12_apart 4 0 0 18 [(0, .ref 125), (1, .int a1), (2, .int a2)] [.int 0] _ 0 0 _
              refine x_ifne (tgt := 28) rfl rfl (ti_ne jk_0 jk_0 (bn_f (by omega) ?_))
              exact jX.sub (jsb_c rfl jsb_n) (ct_X12_apart_r125d_21 hD hQ  h J Sm D)
            ·
              rw [if_neg (by omega)] at D
              refine x_aloadn (x := 125) rfl rfl ?_
              refine x_iloadn (x := a2) rfl rfl ?_
              refine x_iconst (v := 3) rfl ki_3 ?_
              refine z_idiv rfl rfl jk_3 (by omega) (by omega) (fun v19 ev19 => ?_)
              refine x_inv (N := m_X12_isLine) (As := [.int v19]) (b := 125) (st := []) (dx9 := 2) (mc := 0) (ms := 0) (host := "") 12 rfl t_X12_isLine ⟨Or.inl q_12_293, i_X12_isLine.1, i_X12_isLine.2⟩ ⟨by decide, rfl⟩ (congrArg Prod.fst (J.1.1 125 (12, 92) rfl)) rfl (by decide) rfl rfl ⟨by decide, by decide⟩ (jC.of rfl k_X12_isLine rfl ?_)
              show jX m_X12_isLine 2 0 0 0 [(0, .ref 125), (1, .int v19)] [] _ 0 0 _
              refine x_iloadn (x := v19) rfl rfl ?_
              refine z_i2l rfl rfl (fun v20 ev20 => ?_)
              refine x_lconst (v := 0) rfl kl_0 ?_
              refine x_aloadn (x := 125) rfl rfl ?_
              refine z_getR (N := 92) (b := 126) 12 2 rfl f_12_8 rfl J rfl 16002 ⟨rfl, rfl⟩ rfl ?_
              refine x_iconst (v := 0) rfl ki_0 ?_
              refine z_ialdM (N := 50660) (v := v5) rfl J rfl jk_0 (by omega) qv5 ?_
              refine z_i2l rfl rfl (fun v21 ev21 => ?_)
              refine x_lconst (v := 1) rfl kl_1 ?_
              refine z_lsub rfl rfl jkl_1 (by omega) (fun v22 ev22 => ?_)
              refine x_inst (N := m_X12_in) (As := [.long v20, .long 0, .long v22]) (st := []) (dx9 := 1) (mc := 0) (ms := 0) (host := "") rfl t_X12_in ⟨Or.inl q_12_188, s_X12_in⟩ rfl (by decide) rfl rfl ⟨by decide, by decide⟩ (zc_X12_in rfl jkl_0 rfl (fun v23 ev23 => ?_))
              show jX m_X12_isLine 2 0 0 15 [(0, .ref 125), (1, .int v19)] [.int v23] _ 0 0 _
              refine x_zret rfl rfl (jz01 (by omega)) ?_
              show jX m_X12_isMention 3 0 0 11 [(0, .ref 125), (1, .int a2)] [.int v23] _ 0 0 _
              refine x_ifeq (tgt := 34) rfl rfl (ti_eq rfl jk_0 ⟨fun c24 => ?_, fun c24 => ?_⟩)
              ·
                rw [if_neg (by omega)] at D
                refine x_iconst (v := 0) rfl ki_0 ?_
                refine x_zret rfl rfl (by decide) ?_
                show jX m_X12_apart 4 0 0 18 [(0, .ref 125), (1, .int a1), (2, .int a2)] [.int 0] _ 0 0 _
                refine x_ifne (tgt := 28) rfl rfl (ti_ne jk_0 jk_0 (bn_f (by omega) ?_))
                exact jX.sub (jsb_c rfl jsb_n) (ct_X12_apart_r125d_21 hD hQ  h J Sm D)
              ·
                rw [if_pos (by omega)] at D
                refine x_iloadn (x := a2) rfl rfl ?_
                refine x_iconst (v := 3) rfl ki_3 ?_
                refine z_irem rfl rfl jk_3 (by omega) (by omega) (fun v25 ev25 => ?_)
                refine x_aloadn (x := 125) rfl rfl ?_
                refine x_iloadn (x := a2) rfl rfl ?_
                refine x_iconst (v := 3) rfl ki_3 ?_
                refine z_idiv rfl rfl jk_3 (by omega) (by omega) (fun v26 ev26 => ?_)
                refine x_inv (N := m_X12_bookOf) (As := [.int v26]) (b := 125) (st := [.int v25]) (dx9 := 2) (mc := 0) (ms := 0) (host := "") 12 rfl t_X12_bookOf ⟨Or.inl q_12_299, i_X12_bookOf.1, i_X12_bookOf.2⟩ ⟨by decide, rfl⟩ (congrArg Prod.fst (J.1.1 125 (12, 92) rfl)) rfl (by decide) rfl rfl ⟨by decide, by decide⟩ (jC.of rfl k_X12_bookOf rfl ?_)
                show jX m_X12_bookOf 2 0 0 0 [(0, .ref 125), (1, .int v26)] [] _ 0 0 _
                refine x_aloadn (x := 125) rfl rfl ?_
                refine z_getR (N := 92) (b := 126) 12 2 rfl f_12_8 rfl J rfl 16002 ⟨rfl, rfl⟩ rfl ?_
                refine x_aloadn (x := 125) rfl rfl ?_
                refine x_iloadn (x := v26) rfl rfl ?_
                refine x_inv (N := m_X12_at) (As := [.int v26]) (b := 125) (st := [.ref 126]) (dx9 := 1) (mc := 0) (ms := 0) (host := "") 12 rfl t_X12_at ⟨Or.inl q_12_254, i_X12_at.1, i_X12_at.2⟩ ⟨by decide, rfl⟩ (congrArg Prod.fst (J.1.1 125 (12, 92) rfl)) rfl (by decide) rfl rfl ⟨by decide, by decide⟩ (jC.of rfl k_X12_at rfl ?_)
                show jX m_X12_at 1 0 0 0 [(0, .ref 125), (1, .int v26)] [] _ 0 0 _
                refine x_bipush (v := 20) rfl kb_20 ?_
                refine x_bipush (v := 90) rfl kb_90 ?_
                refine x_iloadn (x := v26) rfl rfl ?_
                refine z_imul rfl jk_90 rfl (by omega) (fun v27 ev27 => ?_)
                refine z_iadd rfl jk_20 rfl (by omega) (fun v28 ev28 => ?_)
                refine x_iret rfl rfl ?_
                show jX m_X12_bookOf 2 0 0 9 [(0, .ref 125), (1, .int v26)] [.int v28, .ref 126] _ 0 0 _
                refine z_iald (N := 50660) rfl J rfl sg_126_20_18020_90_0_1 rfl (by omega) (fun v29 qv29 ev29 => ?_)
                try rw [vrd (jmb_w w1 qv29 rfl) (show (20 + (90 * (a2.toInt / 3))) = v28.toInt from by omega)] at D
                refine x_iret rfl rfl ?_
                show jX m_X12_isMention 3 0 0 24 [(0, .ref 125), (1, .int a2)] [.int v29, .int v25] _ 0 0 _
                refine x_inst (N := m_X12_rolesOf) (As := [.int v29]) (st := [.int v25]) (dx9 := 2) (mc := 0) (ms := 0) (host := "") rfl t_X12_rolesOf ⟨Or.inl q_12_286, s_X12_rolesOf⟩ rfl (by decide) rfl rfl ⟨by decide, by decide⟩ (jC.of rfl k_X12_rolesOf rfl ?_)
                show jX m_X12_rolesOf 2 0 0 0 [(0, .int v29)] [] _ 0 0 _
                refine x_iloadn (x := v29) rfl rfl ?_
                refine x_ifne (tgt := 8) rfl rfl (ti_ne rfl jk_0 ⟨fun c30 => ?_, fun c30 => ?_⟩)
                ·
                  rw [if_neg (by omega)] at D
                  refine x_iloadn (x := v29) rfl rfl ?_
                  refine x_iconst (v := 1) rfl ki_1 ?_
                  refine x_icne (tgt := 17) rfl rfl (ti_ne rfl jk_1 ⟨fun c31 => ?_, fun c31 => ?_⟩)
                  ·
                    rw [if_neg (by omega)] at D
                    refine x_iconst (v := 1) rfl ki_1 ?_
                    refine x_iret rfl rfl ?_
                    show jX m_X12_isMention 3 0 0 27 [(0, .ref 125), (1, .int a2)] [.int 1, .int v25] _ 0 0 _
                    refine x_icge (tgt := 34) rfl rfl (ti_ge rfl jk_1 ⟨fun c32 => ?_, fun c32 => ?_⟩)
                    ·
                      rw [if_pos (by omega)] at D
                      refine x_iconst (v := 0) rfl ki_0 ?_
                      refine x_zret rfl rfl (by decide) ?_
                      show jX m_X12_apart 4 0 0 18 [(0, .ref 125), (1, .int a1), (2, .int a2)] [.int 0] _ 0 0 _
                      refine x_ifne (tgt := 28) rfl rfl (ti_ne jk_0 jk_0 (bn_f (by omega) ?_))
                      exact jX.sub (jsb_c rfl jsb_n) (ct_X12_apart_r125d_21 hD hQ  h J Sm D)
                    ·
                      rw [if_neg (by omega)] at D
                      refine x_iconst (v := 1) rfl ki_1 ?_
                      refine x_goto (tgt := 35) rfl rfl ?_
                      refine x_zret rfl rfl (by decide) ?_
                      show jX m_X12_apart 4 0 0 18 [(0, .ref 125), (1, .int a1), (2, .int a2)] [.int 1] _ 0 0 _
                      refine x_ifne (tgt := 28) rfl rfl (ti_ne jk_1 jk_0 (bn_t (by omega) ?_))
                      refine x_iloadn (x := a1) rfl rfl ?_
                      refine x_iloadn (x := a2) rfl rfl ?_
                      refine x_icne (tgt := 40) rfl rfl (ti_ne rfl rfl ⟨fun c33 => ?_, fun c33 => ?_⟩)
                      ·
                        rw [if_neg (by omega)] at D
                        refine x_aloadn (x := 125) rfl rfl ?_
                        refine z_getR (N := 92) (b := 126) 12 2 rfl f_12_8 rfl J rfl 16002 ⟨rfl, rfl⟩ rfl ?_
                        refine x_iconst (v := 1) rfl ki_1 ?_
                        refine z_iald (N := 50660) rfl J rfl sg_126_1_2_1_0_1 jk_1 (by omega) (fun v34 qv34 ev34 => ?_)
                        try rw [vrn (n := 1) (by decide) (jmb_w w1 qv34 rfl)] at D
                        refine x_bipush (v := 60) rfl kb_60 ?_
                        refine x_icne (tgt := 58) rfl rfl (ti_ne rfl jk_60 ⟨fun c35 => ?_, fun c35 => ?_⟩)
                        ·
                          rw [if_neg (by omega)] at D
                          refine x_aloadn (x := 125) rfl rfl ?_
                          refine z_getR (N := 92) (b := 126) 12 2 rfl f_12_8 rfl J rfl 16002 ⟨rfl, rfl⟩ rfl ?_
                          refine x_sipush (v := 18020) rfl ks_18020 ?_
                          refine x_iconst (v := 2) rfl ki_2 ?_
                          refine x_aloadn (x := 125) rfl rfl ?_
                          refine z_getR (N := 92) (b := 126) 12 2 rfl f_12_8 rfl J rfl 16002 ⟨rfl, rfl⟩ rfl ?_
                          refine x_iconst (v := 1) rfl ki_1 ?_
                          refine z_ialdM (N := 50660) (v := v34) rfl J rfl jk_1 (by omega) qv34 ?_
                          refine z_imul rfl jk_2 rfl (by omega) (fun v36 ev36 => ?_)
                          refine z_iadd rfl jk_18020 rfl (by omega) (fun v37 ev37 => ?_)
                          refine x_iloadn (x := a1) rfl rfl ?_
                          refine z_iast (N := 50660) (l := 18020) (u := 18140) (w := a1.toInt) rfl hD J Sm rfl rfl rfl (by omega) rfl (wr_126_18020 (by omega) (fun q1 q2 q3 q4 => by omega) (fun q1 q2 q3 q4 => by omega)) rfl (fun h w38 J Sm => ?_)
                          rw [vww w38 (show (18020 + (2 * v34.toInt)) = v37.toInt from by omega) (show a1.toInt = a1.toInt from by omega)] at D
                          refine x_aloadn (x := 125) rfl rfl ?_
                          refine z_getR (N := 92) (b := 126) 12 2 rfl f_12_8 rfl J rfl 16002 ⟨rfl, rfl⟩ rfl ?_
                          refine x_sipush (v := 18020) rfl ks_18020 ?_
                          refine x_iconst (v := 2) rfl ki_2 ?_
                          refine x_aloadn (x := 125) rfl rfl ?_
                          refine z_getR (N := 92) (b := 126) 12 2 rfl f_12_8 rfl J rfl 16002 ⟨rfl, rfl⟩ rfl ?_
                          refine x_iconst (v := 1) rfl ki_1 ?_
                          refine z_ialdM (N := 50660) (v := v34) rfl J rfl jk_1 (by omega) (jmo2 w38 rfl jk_1 (by omega) qv34) ?_
                          refine z_imul rfl jk_2 rfl (by omega) (fun v39 ev39 => ?_)
                          refine z_iadd rfl jk_18020 rfl (by omega) (fun v40 ev40 => ?_)
                          refine x_iconst (v := 1) rfl ki_1 ?_
                          refine z_iadd rfl rfl jk_1 (by omega) (fun v41 ev41 => ?_)
                          refine x_iloadn (x := a2) rfl rfl ?_
                          refine z_iast (N := 50660) (l := 18020) (u := 18140) (w := a2.toInt) rfl hD J Sm rfl rfl rfl (by omega) rfl (wr_126_18020 (by omega) (fun q1 q2 q3 q4 => by omega) (fun q1 q2 q3 q4 => by omega)) rfl (fun h w42 J Sm => ?_)
                          rw [vww w42 (show ((18020 + (2 * v34.toInt)) + 1) = v41.toInt from by omega) (show a2.toInt = a2.toInt from by omega)] at D
                          refine x_aloadn (x := 125) rfl rfl ?_
                          refine z_getR (N := 92) (b := 126) 12 2 rfl f_12_8 rfl J rfl 16002 ⟨rfl, rfl⟩ rfl ?_
                          refine x_iconst (v := 1) rfl ki_1 ?_
                          refine x_dup2 rfl rfl rfl ?_
                          refine z_ialdM (N := 50660) (v := v34) rfl J rfl jk_1 (by omega) (jmo2 w42 rfl jk_1 (by omega) (jmo2 w38 rfl jk_1 (by omega) qv34)) ?_
                          refine x_iconst (v := 1) rfl ki_1 ?_
                          refine z_iadd rfl rfl jk_1 (by omega) (fun v43 ev43 => ?_)
                          refine z_iast (N := 50660) (l := 1) (u := 2) (w := v43.toInt) rfl hD J Sm rfl rfl jk_1 (by omega) rfl (wr_126_1 (by omega) (fun q1 q2 q3 q4 => by omega)) rfl (fun h w44 J Sm => ?_)
                          rw [vwn (n := 1) (by decide) w44 (show (v34.toInt + 1) = v43.toInt from by omega)] at D
                          refine x_aloadn (x := 125) rfl rfl ?_
                          refine x_iconst (v := 0) rfl ki_0 ?_
                          refine x_inv (N := m_X12_told) (As := [.int 0]) (b := 125) (st := []) (dx9 := 1) (mc := 0) (ms := 0) (host := "") 12 rfl t_X12_told ⟨Or.inl q_12_197, i_X12_told.1, i_X12_told.2⟩ ⟨by decide, rfl⟩ (congrArg Prod.fst (J.1.1 125 (12, 92) rfl)) rfl (by decide) rfl rfl ⟨by decide, by decide⟩ (sf_X12_told_r125d  hD J rfl  (fun v48 h J S45 X46 X47 => ?_))
                          have ev48 := jfull v48
                          have Sm := jSm_tr rfl Sm S45
                          try rw [jk_0] at X46
                          try rw [jk_0] at X47
                          try rw [X46] at D
                          try rw [X47] at D
                          show jX m_X12_apart 4 0 0 111 [(0, .ref 125), (1, .int a1), (2, .int a2)] [.int v48] _ 0 0 _
                          refine x_iret rfl rfl ?_
                          exact hQ _ _ J Sm ((congrArg Prod.fst D).symm.trans X46) ((congrArg Prod.snd D).symm.trans X47)
                        ·
                          rw [if_pos (by omega)] at D
                          refine x_aloadn (x := 125) rfl rfl ?_
                          refine x_bipush (v := (-5)) rfl kb_m5 ?_
                          refine x_inv (N := m_X12_told) (As := [.int (-5)]) (b := 125) (st := []) (dx9 := 1) (mc := 0) (ms := 0) (host := "") 12 rfl t_X12_told ⟨Or.inl q_12_197, i_X12_told.1, i_X12_told.2⟩ ⟨by decide, rfl⟩ (congrArg Prod.fst (J.1.1 125 (12, 92) rfl)) rfl (by decide) rfl rfl ⟨by decide, by decide⟩ (sf_X12_told_r125d  hD J rfl  (fun v52 h J S49 X50 X51 => ?_))
                          have ev52 := jfull v52
                          have Sm := jSm_tr rfl Sm S49
                          try rw [jk_m5] at X50
                          try rw [jk_m5] at X51
                          try rw [X50] at D
                          try rw [X51] at D
                          show jX m_X12_apart 4 0 0 57 [(0, .ref 125), (1, .int a1), (2, .int a2)] [.int v52] _ 0 0 _
                          refine x_iret rfl rfl ?_
                          exact hQ _ _ J Sm ((congrArg Prod.fst D).symm.trans X50) ((congrArg Prod.snd D).symm.trans X51)
                      ·
                        rw [if_pos (by omega)] at D
                        refine x_aloadn (x := 125) rfl rfl ?_
                        refine x_bipush (v := (-3)) rfl kb_m3 ?_
                        refine x_inv (N := m_X12_told) (As := [.int (-3)]) (b := 125) (st := []) (dx9 := 1) (mc := 0) (ms := 0) (host := "") 12 rfl t_X12_told ⟨Or.inl q_12_197, i_X12_told.1, i_X12_told.2⟩ ⟨by decide, rfl⟩ (congrArg Prod.fst (J.1.1 125 (12, 92) rfl)) rfl (by decide) rfl rfl ⟨by decide, by decide⟩ (sf_X12_told_r125d  hD J rfl  (fun v56 h J S53 X54 X55 => ?_))
                        have ev56 := jfull v56
                        have Sm := jSm_tr rfl Sm S53
                        try rw [jk_m3] at X54
                        try rw [jk_m3] at X55
                        try rw [X54] at D
                        try rw [X55] at D
                        show jX m_X12_apart 4 0 0 39 [(0, .ref 125), (1, .int a1), (2, .int a2)] [.int v56] _ 0 0 _
                        refine x_iret rfl rfl ?_
                        exact hQ _ _ J Sm ((congrArg Prod.fst D).symm.trans X54) ((congrArg Prod.snd D).symm.trans X55)
                  ·
                    rw [if_pos (by omega)] at D
                    refine x_iconst (v := 2) rfl ki_2 ?_
                    refine x_goto (tgt := 18) rfl rfl ?_
                    refine x_iret rfl rfl ?_
                    show jX m_X12_isMention 3 0 0 27 [(0, .ref 125), (1, .int a2)] [.int 2, .int v25] _ 0 0 _
                    refine x_icge (tgt := 34) rfl rfl (ti_ge rfl jk_2 ⟨fun c57 => ?_, fun c57 => ?_⟩)
                    ·
                      rw [if_pos (by omega)] at D
                      refine x_iconst (v := 0) rfl ki_0 ?_
                      refine x_zret rfl rfl (by decide) ?_
                      show jX m_X12_apart 4 0 0 18 [(0, .ref 125), (1, .int a1), (2, .int a2)] [.int 0] _ 0 0 _
                      refine x_ifne (tgt := 28) rfl rfl (ti_ne jk_0 jk_0 (bn_f (by omega) ?_))
                      exact jX.sub (jsb_c rfl jsb_n) (ct_X12_apart_r125d_21 hD hQ  h J Sm D)
                    ·
                      rw [if_neg (by omega)] at D
                      refine x_iconst (v := 1) rfl ki_1 ?_
                      refine x_goto (tgt := 35) rfl rfl ?_
                      refine x_zret rfl rfl (by decide) ?_
                      show jX m_X12_apart 4 0 0 18 [(0, .ref 125), (1, .int a1), (2, .int a2)] [.int 1] _ 0 0 _
                      refine x_ifne (tgt := 28) rfl rfl (ti_ne jk_1 jk_0 (bn_t (by omega) ?_))
                      refine x_iloadn (x := a1) rfl rfl ?_
                      refine x_iloadn (x := a2) rfl rfl ?_
                      refine x_icne (tgt := 40) rfl rfl (ti_ne rfl rfl ⟨fun c58 => ?_, fun c58 => ?_⟩)
                      ·
                        rw [if_neg (by omega)] at D
                        refine x_aloadn (x := 125) rfl rfl ?_
                        refine z_getR (N := 92) (b := 126) 12 2 rfl f_12_8 rfl J rfl 16002 ⟨rfl, rfl⟩ rfl ?_
                        refine x_iconst (v := 1) rfl ki_1 ?_
                        refine z_iald (N := 50660) rfl J rfl sg_126_1_2_1_0_1 jk_1 (by omega) (fun v59 qv59 ev59 => ?_)
                        try rw [vrn (n := 1) (by decide) (jmb_w w1 qv59 rfl)] at D
                        refine x_bipush (v := 60) rfl kb_60 ?_
                        refine x_icne (tgt := 58) rfl rfl (ti_ne rfl jk_60 ⟨fun c60 => ?_, fun c60 => ?_⟩)
                        ·
                          rw [if_neg (by omega)] at D
                          refine x_aloadn (x := 125) rfl rfl ?_
                          refine z_getR (N := 92) (b := 126) 12 2 rfl f_12_8 rfl J rfl 16002 ⟨rfl, rfl⟩ rfl ?_
                          refine x_sipush (v := 18020) rfl ks_18020 ?_
                          refine x_iconst (v := 2) rfl ki_2 ?_
                          refine x_aloadn (x := 125) rfl rfl ?_
                          refine z_getR (N := 92) (b := 126) 12 2 rfl f_12_8 rfl J rfl 16002 ⟨rfl, rfl⟩ rfl ?_
                          refine x_iconst (v := 1) rfl ki_1 ?_
                          refine z_ialdM (N := 50660) (v := v59) rfl J rfl jk_1 (by omega) qv59 ?_
                          refine z_imul rfl jk_2 rfl (by omega) (fun v61 ev61 => ?_)
                          refine z_iadd rfl jk_18020 rfl (by omega) (fun v62 ev62 => ?_)
                          refine x_iloadn (x := a1) rfl rfl ?_
                          refine z_iast (N := 50660) (l := 18020) (u := 18140) (w := a1.toInt) rfl hD J Sm rfl rfl rfl (by omega) rfl (wr_126_18020 (by omega) (fun q1 q2 q3 q4 => by omega) (fun q1 q2 q3 q4 => by omega)) rfl (fun h w63 J Sm => ?_)
                          rw [vww w63 (show (18020 + (2 * v59.toInt)) = v62.toInt from by omega) (show a1.toInt = a1.toInt from by omega)] at D
                          refine x_aloadn (x := 125) rfl rfl ?_
                          refine z_getR (N := 92) (b := 126) 12 2 rfl f_12_8 rfl J rfl 16002 ⟨rfl, rfl⟩ rfl ?_
                          refine x_sipush (v := 18020) rfl ks_18020 ?_
                          refine x_iconst (v := 2) rfl ki_2 ?_
                          refine x_aloadn (x := 125) rfl rfl ?_
                          refine z_getR (N := 92) (b := 126) 12 2 rfl f_12_8 rfl J rfl 16002 ⟨rfl, rfl⟩ rfl ?_
                          refine x_iconst (v := 1) rfl ki_1 ?_
                          refine z_ialdM (N := 50660) (v := v59) rfl J rfl jk_1 (by omega) (jmo2 w63 rfl jk_1 (by omega) qv59) ?_
                          refine z_imul rfl jk_2 rfl (by omega) (fun v64 ev64 => ?_)
                          refine z_iadd rfl jk_18020 rfl (by omega) (fun v65 ev65 => ?_)
                          refine x_iconst (v := 1) rfl ki_1 ?_
                          refine z_iadd rfl rfl jk_1 (by omega) (fun v66 ev66 => ?_)
                          refine x_iloadn (x := a2) rfl rfl ?_
                          refine z_iast (N := 50660) (l := 18020) (u := 18140) (w := a2.toInt) rfl hD J Sm rfl rfl rfl (by omega) rfl (wr_126_18020 (by omega) (fun q1 q2 q3 q4 => by omega) (fun q1 q2 q3 q4 => by omega)) rfl (fun h w67 J Sm => ?_)
                          rw [vww w67 (show ((18020 + (2 * v59.toInt)) + 1) = v66.toInt from by omega) (show a2.toInt = a2.toInt from by omega)] at D
                          refine x_aloadn (x := 125) rfl rfl ?_
                          refine z_getR (N := 92) (b := 126) 12 2 rfl f_12_8 rfl J rfl 16002 ⟨rfl, rfl⟩ rfl ?_
                          refine x_iconst (v := 1) rfl ki_1 ?_
                          refine x_dup2 rfl rfl rfl ?_
                          refine z_ialdM (N := 50660) (v := v59) rfl J rfl jk_1 (by omega) (jmo2 w67 rfl jk_1 (by omega) (jmo2 w63 rfl jk_1 (by omega) qv59)) ?_
                          refine x_iconst (v := 1) rfl ki_1 ?_
                          refine z_iadd rfl rfl jk_1 (by omega) (fun v68 ev68 => ?_)
                          refine z_iast (N := 50660) (l := 1) (u := 2) (w := v68.toInt) rfl hD J Sm rfl rfl jk_1 (by omega) rfl (wr_126_1 (by omega) (fun q1 q2 q3 q4 => by omega)) rfl (fun h w69 J Sm => ?_)
                          rw [vwn (n := 1) (by decide) w69 (show (v59.toInt + 1) = v68.toInt from by omega)] at D
                          refine x_aloadn (x := 125) rfl rfl ?_
                          refine x_iconst (v := 0) rfl ki_0 ?_
                          refine x_inv (N := m_X12_told) (As := [.int 0]) (b := 125) (st := []) (dx9 := 1) (mc := 0) (ms := 0) (host := "") 12 rfl t_X12_told ⟨Or.inl q_12_197, i_X12_told.1, i_X12_told.2⟩ ⟨by decide, rfl⟩ (congrArg Prod.fst (J.1.1 125 (12, 92) rfl)) rfl (by decide) rfl rfl ⟨by decide, by decide⟩ (sf_X12_told_r125d  hD J rfl  (fun v73 h J S70 X71 X72 => ?_))
                          have ev73 := jfull v73
                          have Sm := jSm_tr rfl Sm S70
                          try rw [jk_0] at X71
                          try rw [jk_0] at X72
                          try rw [X71] at D
                          try rw [X72] at D
                          show jX m_X12_apart 4 0 0 111 [(0, .ref 125), (1, .int a1), (2, .int a2)] [.int v73] _ 0 0 _
                          refine x_iret rfl rfl ?_
                          exact hQ _ _ J Sm ((congrArg Prod.fst D).symm.trans X71) ((congrArg Prod.snd D).symm.trans X72)
                        ·
                          rw [if_pos (by omega)] at D
                          refine x_aloadn (x := 125) rfl rfl ?_
                          refine x_bipush (v := (-5)) rfl kb_m5 ?_
                          refine x_inv (N := m_X12_told) (As := [.int (-5)]) (b := 125) (st := []) (dx9 := 1) (mc := 0) (ms := 0) (host := "") 12 rfl t_X12_told ⟨Or.inl q_12_197, i_X12_told.1, i_X12_told.2⟩ ⟨by decide, rfl⟩ (congrArg Prod.fst (J.1.1 125 (12, 92) rfl)) rfl (by decide) rfl rfl ⟨by decide, by decide⟩ (sf_X12_told_r125d  hD J rfl  (fun v77 h J S74 X75 X76 => ?_))
                          have ev77 := jfull v77
                          have Sm := jSm_tr rfl Sm S74
                          try rw [jk_m5] at X75
                          try rw [jk_m5] at X76
                          try rw [X75] at D
                          try rw [X76] at D
                          show jX m_X12_apart 4 0 0 57 [(0, .ref 125), (1, .int a1), (2, .int a2)] [.int v77] _ 0 0 _
                          refine x_iret rfl rfl ?_
                          exact hQ _ _ J Sm ((congrArg Prod.fst D).symm.trans X75) ((congrArg Prod.snd D).symm.trans X76)
                      ·
                        rw [if_pos (by omega)] at D
                        refine x_aloadn (x := 125) rfl rfl ?_
                        refine x_bipush (v := (-3)) rfl kb_m3 ?_
                        refine x_inv (N := m_X12_told) (As := [.int (-3)]) (b := 125) (st := []) (dx9 := 1) (mc := 0) (ms := 0) (host := "") 12 rfl t_X12_told ⟨Or.inl q_12_197, i_X12_told.1, i_X12_told.2⟩ ⟨by decide, rfl⟩ (congrArg Prod.fst (J.1.1 125 (12, 92) rfl)) rfl (by decide) rfl rfl ⟨by decide, by decide⟩ (sf_X12_told_r125d  hD J rfl  (fun v81 h J S78 X79 X80 => ?_))
                        have ev81 := jfull v81
                        have Sm := jSm_tr rfl Sm S78
                        try rw [jk_m3] at X79
                        try rw [jk_m3] at X80
                        try rw [X79] at D
                        try rw [X80] at D
                        show jX m_X12_apart 4 0 0 39 [(0, .ref 125), (1, .int a1), (2, .int a2)] [.int v81] _ 0 0 _
                        refine x_iret rfl rfl ?_
                        exact hQ _ _ J Sm ((congrArg Prod.fst D).symm.trans X79) ((congrArg Prod.snd D).symm.trans X80)
                ·
                  rw [if_pos (by omega)] at D
                  refine x_iconst (v := 3) rfl ki_3 ?_
                  refine x_goto (tgt := 18) rfl rfl ?_
                  refine x_iret rfl rfl ?_
                  show jX m_X12_isMention 3 0 0 27 [(0, .ref 125), (1, .int a2)] [.int 3, .int v25] _ 0 0 _
                  refine x_icge (tgt := 34) rfl rfl (ti_ge rfl jk_3 (br_f (by omega) ?_))
                  refine x_iconst (v := 1) rfl ki_1 ?_
                  refine x_goto (tgt := 35) rfl rfl ?_
                  refine x_zret rfl rfl (by decide) ?_
                  show jX m_X12_apart 4 0 0 18 [(0, .ref 125), (1, .int a1), (2, .int a2)] [.int 1] _ 0 0 _
                  refine x_ifne (tgt := 28) rfl rfl (ti_ne jk_1 jk_0 (bn_t (by omega) ?_))
                  refine x_iloadn (x := a1) rfl rfl ?_
                  refine x_iloadn (x := a2) rfl rfl ?_
                  refine x_icne (tgt := 40) rfl rfl (ti_ne rfl rfl ⟨fun c82 => ?_, fun c82 => ?_⟩)
                  ·
                    rw [if_neg (by omega)] at D
                    refine x_aloadn (x := 125) rfl rfl ?_
                    refine z_getR (N := 92) (b := 126) 12 2 rfl f_12_8 rfl J rfl 16002 ⟨rfl, rfl⟩ rfl ?_
                    refine x_iconst (v := 1) rfl ki_1 ?_
                    refine z_iald (N := 50660) rfl J rfl sg_126_1_2_1_0_1 jk_1 (by omega) (fun v83 qv83 ev83 => ?_)
                    try rw [vrn (n := 1) (by decide) (jmb_w w1 qv83 rfl)] at D
                    refine x_bipush (v := 60) rfl kb_60 ?_
                    refine x_icne (tgt := 58) rfl rfl (ti_ne rfl jk_60 ⟨fun c84 => ?_, fun c84 => ?_⟩)
                    ·
                      rw [if_neg (by omega)] at D
                      refine x_aloadn (x := 125) rfl rfl ?_
                      refine z_getR (N := 92) (b := 126) 12 2 rfl f_12_8 rfl J rfl 16002 ⟨rfl, rfl⟩ rfl ?_
                      refine x_sipush (v := 18020) rfl ks_18020 ?_
                      refine x_iconst (v := 2) rfl ki_2 ?_
                      refine x_aloadn (x := 125) rfl rfl ?_
                      refine z_getR (N := 92) (b := 126) 12 2 rfl f_12_8 rfl J rfl 16002 ⟨rfl, rfl⟩ rfl ?_
                      refine x_iconst (v := 1) rfl ki_1 ?_
                      refine z_ialdM (N := 50660) (v := v83) rfl J rfl jk_1 (by omega) qv83 ?_
                      refine z_imul rfl jk_2 rfl (by omega) (fun v85 ev85 => ?_)
                      refine z_iadd rfl jk_18020 rfl (by omega) (fun v86 ev86 => ?_)
                      refine x_iloadn (x := a1) rfl rfl ?_
                      refine z_iast (N := 50660) (l := 18020) (u := 18140) (w := a1.toInt) rfl hD J Sm rfl rfl rfl (by omega) rfl (wr_126_18020 (by omega) (fun q1 q2 q3 q4 => by omega) (fun q1 q2 q3 q4 => by omega)) rfl (fun h w87 J Sm => ?_)
                      rw [vww w87 (show (18020 + (2 * v83.toInt)) = v86.toInt from by omega) (show a1.toInt = a1.toInt from by omega)] at D
                      refine x_aloadn (x := 125) rfl rfl ?_
                      refine z_getR (N := 92) (b := 126) 12 2 rfl f_12_8 rfl J rfl 16002 ⟨rfl, rfl⟩ rfl ?_
                      refine x_sipush (v := 18020) rfl ks_18020 ?_
                      refine x_iconst (v := 2) rfl ki_2 ?_
                      refine x_aloadn (x := 125) rfl rfl ?_
                      refine z_getR (N := 92) (b := 126) 12 2 rfl f_12_8 rfl J rfl 16002 ⟨rfl, rfl⟩ rfl ?_
                      refine x_iconst (v := 1) rfl ki_1 ?_
                      refine z_ialdM (N := 50660) (v := v83) rfl J rfl jk_1 (by omega) (jmo2 w87 rfl jk_1 (by omega) qv83) ?_
                      refine z_imul rfl jk_2 rfl (by omega) (fun v88 ev88 => ?_)
                      refine z_iadd rfl jk_18020 rfl (by omega) (fun v89 ev89 => ?_)
                      refine x_iconst (v := 1) rfl ki_1 ?_
                      refine z_iadd rfl rfl jk_1 (by omega) (fun v90 ev90 => ?_)
                      refine x_iloadn (x := a2) rfl rfl ?_
                      refine z_iast (N := 50660) (l := 18020) (u := 18140) (w := a2.toInt) rfl hD J Sm rfl rfl rfl (by omega) rfl (wr_126_18020 (by omega) (fun q1 q2 q3 q4 => by omega) (fun q1 q2 q3 q4 => by omega)) rfl (fun h w91 J Sm => ?_)
                      rw [vww w91 (show ((18020 + (2 * v83.toInt)) + 1) = v90.toInt from by omega) (show a2.toInt = a2.toInt from by omega)] at D
                      refine x_aloadn (x := 125) rfl rfl ?_
                      refine z_getR (N := 92) (b := 126) 12 2 rfl f_12_8 rfl J rfl 16002 ⟨rfl, rfl⟩ rfl ?_
                      refine x_iconst (v := 1) rfl ki_1 ?_
                      refine x_dup2 rfl rfl rfl ?_
                      refine z_ialdM (N := 50660) (v := v83) rfl J rfl jk_1 (by omega) (jmo2 w91 rfl jk_1 (by omega) (jmo2 w87 rfl jk_1 (by omega) qv83)) ?_
                      refine x_iconst (v := 1) rfl ki_1 ?_
                      refine z_iadd rfl rfl jk_1 (by omega) (fun v92 ev92 => ?_)
                      refine z_iast (N := 50660) (l := 1) (u := 2) (w := v92.toInt) rfl hD J Sm rfl rfl jk_1 (by omega) rfl (wr_126_1 (by omega) (fun q1 q2 q3 q4 => by omega)) rfl (fun h w93 J Sm => ?_)
                      rw [vwn (n := 1) (by decide) w93 (show (v83.toInt + 1) = v92.toInt from by omega)] at D
                      refine x_aloadn (x := 125) rfl rfl ?_
                      refine x_iconst (v := 0) rfl ki_0 ?_
                      refine x_inv (N := m_X12_told) (As := [.int 0]) (b := 125) (st := []) (dx9 := 1) (mc := 0) (ms := 0) (host := "") 12 rfl t_X12_told ⟨Or.inl q_12_197, i_X12_told.1, i_X12_told.2⟩ ⟨by decide, rfl⟩ (congrArg Prod.fst (J.1.1 125 (12, 92) rfl)) rfl (by decide) rfl rfl ⟨by decide, by decide⟩ (sf_X12_told_r125d  hD J rfl  (fun v97 h J S94 X95 X96 => ?_))
                      have ev97 := jfull v97
                      have Sm := jSm_tr rfl Sm S94
                      try rw [jk_0] at X95
                      try rw [jk_0] at X96
                      try rw [X95] at D
                      try rw [X96] at D
                      show jX m_X12_apart 4 0 0 111 [(0, .ref 125), (1, .int a1), (2, .int a2)] [.int v97] _ 0 0 _
                      refine x_iret rfl rfl ?_
                      exact hQ _ _ J Sm ((congrArg Prod.fst D).symm.trans X95) ((congrArg Prod.snd D).symm.trans X96)
                    ·
                      rw [if_pos (by omega)] at D
                      refine x_aloadn (x := 125) rfl rfl ?_
                      refine x_bipush (v := (-5)) rfl kb_m5 ?_
                      refine x_inv (N := m_X12_told) (As := [.int (-5)]) (b := 125) (st := []) (dx9 := 1) (mc := 0) (ms := 0) (host := "") 12 rfl t_X12_told ⟨Or.inl q_12_197, i_X12_told.1, i_X12_told.2⟩ ⟨by decide, rfl⟩ (congrArg Prod.fst (J.1.1 125 (12, 92) rfl)) rfl (by decide) rfl rfl ⟨by decide, by decide⟩ (sf_X12_told_r125d  hD J rfl  (fun v101 h J S98 X99 X100 => ?_))
                      have ev101 := jfull v101
                      have Sm := jSm_tr rfl Sm S98
                      try rw [jk_m5] at X99
                      try rw [jk_m5] at X100
                      try rw [X99] at D
                      try rw [X100] at D
                      show jX m_X12_apart 4 0 0 57 [(0, .ref 125), (1, .int a1), (2, .int a2)] [.int v101] _ 0 0 _
                      refine x_iret rfl rfl ?_
                      exact hQ _ _ J Sm ((congrArg Prod.fst D).symm.trans X99) ((congrArg Prod.snd D).symm.trans X100)
                  ·
                    rw [if_pos (by omega)] at D
                    refine x_aloadn (x := 125) rfl rfl ?_
                    refine x_bipush (v := (-3)) rfl kb_m3 ?_
                    refine x_inv (N := m_X12_told) (As := [.int (-3)]) (b := 125) (st := []) (dx9 := 1) (mc := 0) (ms := 0) (host := "") 12 rfl t_X12_told ⟨Or.inl q_12_197, i_X12_told.1, i_X12_told.2⟩ ⟨by decide, rfl⟩ (congrArg Prod.fst (J.1.1 125 (12, 92) rfl)) rfl (by decide) rfl rfl ⟨by decide, by decide⟩ (sf_X12_told_r125d  hD J rfl  (fun v105 h J S102 X103 X104 => ?_))
                    have ev105 := jfull v105
                    have Sm := jSm_tr rfl Sm S102
                    try rw [jk_m3] at X103
                    try rw [jk_m3] at X104
                    try rw [X103] at D
                    try rw [X104] at D
                    show jX m_X12_apart 4 0 0 39 [(0, .ref 125), (1, .int a1), (2, .int a2)] [.int v105] _ 0 0 _
                    refine x_iret rfl rfl ?_
                    exact hQ _ _ J Sm ((congrArg Prod.fst D).symm.trans X103) ((congrArg Prod.snd D).symm.trans X104)
        ·
          rw [if_pos (by omega)] at D
          refine x_iconst (v := 2) rfl ki_2 ?_
          refine x_goto (tgt := 18) rfl rfl ?_
          refine x_iret rfl rfl ?_
          show jX m_X12_isMention 3 0 0 27 [(0, .ref 125), (1, .int a1)] [.int 2, .int v10] _ 0 0 _
          refine x_icge (tgt := 34) rfl rfl (ti_ge rfl jk_2 ⟨fun c106 => ?_, fun c106 => ?_⟩)
          ·
            rw [if_pos (by omega)] at D
            refine x_iconst (v := 0) rfl ki_0 ?_
            refine x_zret rfl rfl (by decide) ?_
            show jX m_X12_apart 4 0 0 10 [(0, .ref 125), (1, .int a1), (2, .int a2)] [.int 0] _ 0 0 _
            refine x_ifeq (tgt := 21) rfl rfl (ti_eq jk_0 jk_0 (br_t (by omega) ?_))
            exact jX.sub (jsb_c rfl jsb_n) (ct_X12_apart_r125d_21 hD hQ  h J Sm D)
          ·
            rw [if_neg (by omega)] at D
            refine x_iconst (v := 1) rfl ki_1 ?_
            refine x_goto (tgt := 35) rfl rfl ?_
            refine x_zret rfl rfl (by decide) ?_
            show jX m_X12_apart 4 0 0 10 [(0, .ref 125), (1, .int a1), (2, .int a2)] [.int 1] _ 0 0 _
            refine x_ifeq (tgt := 21) rfl rfl (ti_eq jk_1 jk_0 (br_f (by omega) ?_))
            refine x_aloadn (x := 125) rfl rfl ?_
            refine x_iloadn (x := a2) rfl rfl ?_
            refine x_inv (N := m_X12_isMention) (As := [.int a2]) (b := 125) (st := []) (dx9 := 3) (mc := 0) (ms := 0) (host := "") 12 rfl t_X12_isMention ⟨Or.inl q_12_322, i_X12_isMention.1, i_X12_isMention.2⟩ ⟨by decide, rfl⟩ (congrArg Prod.fst (J.1.1 125 (12, 92) rfl)) rfl (by decide) rfl rfl ⟨by decide, by decide⟩ (jC.of rfl k_X12_isMention rfl ?_)
            show jX m_X12_isMention 3 0 0 0 [(0, .ref 125), (1, .int a2)] [] _ 0 0 _
            refine x_iloadn (x := a2) rfl rfl ?_
            refine x_iflt (tgt := 34) rfl rfl (ti_lt rfl jk_0 ⟨fun c107 => ?_, fun c107 => ?_⟩)
            ·
              rw [if_pos (by omega)] at D
              refine x_iconst (v := 0) rfl ki_0 ?_
              refine x_zret rfl rfl (by decide) ?_
              show jX m_X12_apart 4 0 0 18 [(0, .ref 125), (1, .int a1), (2, .int a2)] [.int 0] _ 0 0 _
              refine x_ifne (tgt := 28) rfl rfl (ti_ne jk_0 jk_0 (bn_f (by omega) ?_))
              exact jX.sub (jsb_c rfl jsb_n) (ct_X12_apart_r125d_21 hD hQ  h J Sm D)
            ·
              rw [if_neg (by omega)] at D
              refine x_aloadn (x := 125) rfl rfl ?_
              refine x_iloadn (x := a2) rfl rfl ?_
              refine x_iconst (v := 3) rfl ki_3 ?_
              refine z_idiv rfl rfl jk_3 (by omega) (by omega) (fun v108 ev108 => ?_)
              refine x_inv (N := m_X12_isLine) (As := [.int v108]) (b := 125) (st := []) (dx9 := 2) (mc := 0) (ms := 0) (host := "") 12 rfl t_X12_isLine ⟨Or.inl q_12_293, i_X12_isLine.1, i_X12_isLine.2⟩ ⟨by decide, rfl⟩ (congrArg Prod.fst (J.1.1 125 (12, 92) rfl)) rfl (by decide) rfl rfl ⟨by decide, by decide⟩ (jC.of rfl k_X12_isLine rfl ?_)
              show jX m_X12_isLine 2 0 0 0 [(0, .ref 125), (1, .int v108)] [] _ 0 0 _
              refine x_iloadn (x := v108) rfl rfl ?_
              refine z_i2l rfl rfl (fun v109 ev109 => ?_)
              refine x_lconst (v := 0) rfl kl_0 ?_
              refine x_aloadn (x := 125) rfl rfl ?_
              refine z_getR (N := 92) (b := 126) 12 2 rfl f_12_8 rfl J rfl 16002 ⟨rfl, rfl⟩ rfl ?_
              refine x_iconst (v := 0) rfl ki_0 ?_
              refine z_ialdM (N := 50660) (v := v5) rfl J rfl jk_0 (by omega) qv5 ?_
              refine z_i2l rfl rfl (fun v110 ev110 => ?_)
              refine x_lconst (v := 1) rfl kl_1 ?_
              refine z_lsub rfl rfl jkl_1 (by omega) (fun v111 ev111 => ?_)
              refine x_inst (N := m_X12_in) (As := [.long v109, .long 0, .long v111]) (st := []) (dx9 := 1) (mc := 0) (ms := 0) (host := "") rfl t_X12_in ⟨Or.inl q_12_188, s_X12_in⟩ rfl (by decide) rfl rfl ⟨by decide, by decide⟩ (zc_X12_in rfl jkl_0 rfl (fun v112 ev112 => ?_))
              show jX m_X12_isLine 2 0 0 15 [(0, .ref 125), (1, .int v108)] [.int v112] _ 0 0 _
              refine x_zret rfl rfl (jz01 (by omega)) ?_
              show jX m_X12_isMention 3 0 0 11 [(0, .ref 125), (1, .int a2)] [.int v112] _ 0 0 _
              refine x_ifeq (tgt := 34) rfl rfl (ti_eq rfl jk_0 ⟨fun c113 => ?_, fun c113 => ?_⟩)
              ·
                rw [if_neg (by omega)] at D
                refine x_iconst (v := 0) rfl ki_0 ?_
                refine x_zret rfl rfl (by decide) ?_
                show jX m_X12_apart 4 0 0 18 [(0, .ref 125), (1, .int a1), (2, .int a2)] [.int 0] _ 0 0 _
                refine x_ifne (tgt := 28) rfl rfl (ti_ne jk_0 jk_0 (bn_f (by omega) ?_))
                exact jX.sub (jsb_c rfl jsb_n) (ct_X12_apart_r125d_21 hD hQ  h J Sm D)
              ·
                rw [if_pos (by omega)] at D
                refine x_iloadn (x := a2) rfl rfl ?_
                refine x_iconst (v := 3) rfl ki_3 ?_
                refine z_irem rfl rfl jk_3 (by omega) (by omega) (fun v114 ev114 => ?_)
                refine x_aloadn (x := 125) rfl rfl ?_
                refine x_iloadn (x := a2) rfl rfl ?_
                refine x_iconst (v := 3) rfl ki_3 ?_
                refine z_idiv rfl rfl jk_3 (by omega) (by omega) (fun v115 ev115 => ?_)
                refine x_inv (N := m_X12_bookOf) (As := [.int v115]) (b := 125) (st := [.int v114]) (dx9 := 2) (mc := 0) (ms := 0) (host := "") 12 rfl t_X12_bookOf ⟨Or.inl q_12_299, i_X12_bookOf.1, i_X12_bookOf.2⟩ ⟨by decide, rfl⟩ (congrArg Prod.fst (J.1.1 125 (12, 92) rfl)) rfl (by decide) rfl rfl ⟨by decide, by decide⟩ (jC.of rfl k_X12_bookOf rfl ?_)
                show jX m_X12_bookOf 2 0 0 0 [(0, .ref 125), (1, .int v115)] [] _ 0 0 _
                refine x_aloadn (x := 125) rfl rfl ?_
                refine z_getR (N := 92) (b := 126) 12 2 rfl f_12_8 rfl J rfl 16002 ⟨rfl, rfl⟩ rfl ?_
                refine x_aloadn (x := 125) rfl rfl ?_
                refine x_iloadn (x := v115) rfl rfl ?_
                refine x_inv (N := m_X12_at) (As := [.int v115]) (b := 125) (st := [.ref 126]) (dx9 := 1) (mc := 0) (ms := 0) (host := "") 12 rfl t_X12_at ⟨Or.inl q_12_254, i_X12_at.1, i_X12_at.2⟩ ⟨by decide, rfl⟩ (congrArg Prod.fst (J.1.1 125 (12, 92) rfl)) rfl (by decide) rfl rfl ⟨by decide, by decide⟩ (jC.of rfl k_X12_at rfl ?_)
                show jX m_X12_at 1 0 0 0 [(0, .ref 125), (1, .int v115)] [] _ 0 0 _
                refine x_bipush (v := 20) rfl kb_20 ?_
                refine x_bipush (v := 90) rfl kb_90 ?_
                refine x_iloadn (x := v115) rfl rfl ?_
                refine z_imul rfl jk_90 rfl (by omega) (fun v116 ev116 => ?_)
                refine z_iadd rfl jk_20 rfl (by omega) (fun v117 ev117 => ?_)
                refine x_iret rfl rfl ?_
                show jX m_X12_bookOf 2 0 0 9 [(0, .ref 125), (1, .int v115)] [.int v117, .ref 126] _ 0 0 _
                refine z_iald (N := 50660) rfl J rfl sg_126_20_18020_90_0_1 rfl (by omega) (fun v118 qv118 ev118 => ?_)
                try rw [vrd (jmb_w w1 qv118 rfl) (show (20 + (90 * (a2.toInt / 3))) = v117.toInt from by omega)] at D
                refine x_iret rfl rfl ?_
                show jX m_X12_isMention 3 0 0 24 [(0, .ref 125), (1, .int a2)] [.int v118, .int v114] _ 0 0 _
                refine x_inst (N := m_X12_rolesOf) (As := [.int v118]) (st := [.int v114]) (dx9 := 2) (mc := 0) (ms := 0) (host := "") rfl t_X12_rolesOf ⟨Or.inl q_12_286, s_X12_rolesOf⟩ rfl (by decide) rfl rfl ⟨by decide, by decide⟩ (jC.of rfl k_X12_rolesOf rfl ?_)
                show jX m_X12_rolesOf 2 0 0 0 [(0, .int v118)] [] _ 0 0 _
                refine x_iloadn (x := v118) rfl rfl ?_
                refine x_ifne (tgt := 8) rfl rfl (ti_ne rfl jk_0 ⟨fun c119 => ?_, fun c119 => ?_⟩)
                ·
                  rw [if_neg (by omega)] at D
                  refine x_iloadn (x := v118) rfl rfl ?_
                  refine x_iconst (v := 1) rfl ki_1 ?_
                  refine x_icne (tgt := 17) rfl rfl (ti_ne rfl jk_1 ⟨fun c120 => ?_, fun c120 => ?_⟩)
                  ·
                    rw [if_neg (by omega)] at D
                    refine x_iconst (v := 1) rfl ki_1 ?_
                    refine x_iret rfl rfl ?_
                    show jX m_X12_isMention 3 0 0 27 [(0, .ref 125), (1, .int a2)] [.int 1, .int v114] _ 0 0 _
                    refine x_icge (tgt := 34) rfl rfl (ti_ge rfl jk_1 ⟨fun c121 => ?_, fun c121 => ?_⟩)
                    ·
                      rw [if_pos (by omega)] at D
                      refine x_iconst (v := 0) rfl ki_0 ?_
                      refine x_zret rfl rfl (by decide) ?_
                      show jX m_X12_apart 4 0 0 18 [(0, .ref 125), (1, .int a1), (2, .int a2)] [.int 0] _ 0 0 _
                      refine x_ifne (tgt := 28) rfl rfl (ti_ne jk_0 jk_0 (bn_f (by omega) ?_))
                      exact jX.sub (jsb_c rfl jsb_n) (ct_X12_apart_r125d_21 hD hQ  h J Sm D)
                    ·
                      rw [if_neg (by omega)] at D
                      refine x_iconst (v := 1) rfl ki_1 ?_
                      refine x_goto (tgt := 35) rfl rfl ?_
                      refine x_zret rfl rfl (by decide) ?_
                      show jX m_X12_apart 4 0 0 18 [(0, .ref 125), (1, .int a1), (2, .int a2)] [.int 1] _ 0 0 _
                      refine x_ifne (tgt := 28) rfl rfl (ti_ne jk_1 jk_0 (bn_t (by omega) ?_))
                      refine x_iloadn (x := a1) rfl rfl ?_
                      refine x_iloadn (x := a2) rfl rfl ?_
                      refine x_icne (tgt := 40) rfl rfl (ti_ne rfl rfl ⟨fun c122 => ?_, fun c122 => ?_⟩)
                      ·
                        rw [if_neg (by omega)] at D
                        refine x_aloadn (x := 125) rfl rfl ?_
                        refine z_getR (N := 92) (b := 126) 12 2 rfl f_12_8 rfl J rfl 16002 ⟨rfl, rfl⟩ rfl ?_
                        refine x_iconst (v := 1) rfl ki_1 ?_
                        refine z_iald (N := 50660) rfl J rfl sg_126_1_2_1_0_1 jk_1 (by omega) (fun v123 qv123 ev123 => ?_)
                        try rw [vrn (n := 1) (by decide) (jmb_w w1 qv123 rfl)] at D
                        refine x_bipush (v := 60) rfl kb_60 ?_
                        refine x_icne (tgt := 58) rfl rfl (ti_ne rfl jk_60 ⟨fun c124 => ?_, fun c124 => ?_⟩)
                        ·
                          rw [if_neg (by omega)] at D
                          refine x_aloadn (x := 125) rfl rfl ?_
                          refine z_getR (N := 92) (b := 126) 12 2 rfl f_12_8 rfl J rfl 16002 ⟨rfl, rfl⟩ rfl ?_
                          refine x_sipush (v := 18020) rfl ks_18020 ?_
                          refine x_iconst (v := 2) rfl ki_2 ?_
                          refine x_aloadn (x := 125) rfl rfl ?_
                          refine z_getR (N := 92) (b := 126) 12 2 rfl f_12_8 rfl J rfl 16002 ⟨rfl, rfl⟩ rfl ?_
                          refine x_iconst (v := 1) rfl ki_1 ?_
                          refine z_ialdM (N := 50660) (v := v123) rfl J rfl jk_1 (by omega) qv123 ?_
                          refine z_imul rfl jk_2 rfl (by omega) (fun v125 ev125 => ?_)
                          refine z_iadd rfl jk_18020 rfl (by omega) (fun v126 ev126 => ?_)
                          refine x_iloadn (x := a1) rfl rfl ?_
                          refine z_iast (N := 50660) (l := 18020) (u := 18140) (w := a1.toInt) rfl hD J Sm rfl rfl rfl (by omega) rfl (wr_126_18020 (by omega) (fun q1 q2 q3 q4 => by omega) (fun q1 q2 q3 q4 => by omega)) rfl (fun h w127 J Sm => ?_)
                          rw [vww w127 (show (18020 + (2 * v123.toInt)) = v126.toInt from by omega) (show a1.toInt = a1.toInt from by omega)] at D
                          refine x_aloadn (x := 125) rfl rfl ?_
                          refine z_getR (N := 92) (b := 126) 12 2 rfl f_12_8 rfl J rfl 16002 ⟨rfl, rfl⟩ rfl ?_
                          refine x_sipush (v := 18020) rfl ks_18020 ?_
                          refine x_iconst (v := 2) rfl ki_2 ?_
                          refine x_aloadn (x := 125) rfl rfl ?_
                          refine z_getR (N := 92) (b := 126) 12 2 rfl f_12_8 rfl J rfl 16002 ⟨rfl, rfl⟩ rfl ?_
                          refine x_iconst (v := 1) rfl ki_1 ?_
                          refine z_ialdM (N := 50660) (v := v123) rfl J rfl jk_1 (by omega) (jmo2 w127 rfl jk_1 (by omega) qv123) ?_
                          refine z_imul rfl jk_2 rfl (by omega) (fun v128 ev128 => ?_)
                          refine z_iadd rfl jk_18020 rfl (by omega) (fun v129 ev129 => ?_)
                          refine x_iconst (v := 1) rfl ki_1 ?_
                          refine z_iadd rfl rfl jk_1 (by omega) (fun v130 ev130 => ?_)
                          refine x_iloadn (x := a2) rfl rfl ?_
                          refine z_iast (N := 50660) (l := 18020) (u := 18140) (w := a2.toInt) rfl hD J Sm rfl rfl rfl (by omega) rfl (wr_126_18020 (by omega) (fun q1 q2 q3 q4 => by omega) (fun q1 q2 q3 q4 => by omega)) rfl (fun h w131 J Sm => ?_)
                          rw [vww w131 (show ((18020 + (2 * v123.toInt)) + 1) = v130.toInt from by omega) (show a2.toInt = a2.toInt from by omega)] at D
                          refine x_aloadn (x := 125) rfl rfl ?_
                          refine z_getR (N := 92) (b := 126) 12 2 rfl f_12_8 rfl J rfl 16002 ⟨rfl, rfl⟩ rfl ?_
                          refine x_iconst (v := 1) rfl ki_1 ?_
                          refine x_dup2 rfl rfl rfl ?_
                          refine z_ialdM (N := 50660) (v := v123) rfl J rfl jk_1 (by omega) (jmo2 w131 rfl jk_1 (by omega) (jmo2 w127 rfl jk_1 (by omega) qv123)) ?_
                          refine x_iconst (v := 1) rfl ki_1 ?_
                          refine z_iadd rfl rfl jk_1 (by omega) (fun v132 ev132 => ?_)
                          refine z_iast (N := 50660) (l := 1) (u := 2) (w := v132.toInt) rfl hD J Sm rfl rfl jk_1 (by omega) rfl (wr_126_1 (by omega) (fun q1 q2 q3 q4 => by omega)) rfl (fun h w133 J Sm => ?_)
                          rw [vwn (n := 1) (by decide) w133 (show (v123.toInt + 1) = v132.toInt from by omega)] at D
                          refine x_aloadn (x := 125) rfl rfl ?_
                          refine x_iconst (v := 0) rfl ki_0 ?_
                          refine x_inv (N := m_X12_told) (As := [.int 0]) (b := 125) (st := []) (dx9 := 1) (mc := 0) (ms := 0) (host := "") 12 rfl t_X12_told ⟨Or.inl q_12_197, i_X12_told.1, i_X12_told.2⟩ ⟨by decide, rfl⟩ (congrArg Prod.fst (J.1.1 125 (12, 92) rfl)) rfl (by decide) rfl rfl ⟨by decide, by decide⟩ (sf_X12_told_r125d  hD J rfl  (fun v137 h J S134 X135 X136 => ?_))
                          have ev137 := jfull v137
                          have Sm := jSm_tr rfl Sm S134
                          try rw [jk_0] at X135
                          try rw [jk_0] at X136
                          try rw [X135] at D
                          try rw [X136] at D
                          show jX m_X12_apart 4 0 0 111 [(0, .ref 125), (1, .int a1), (2, .int a2)] [.int v137] _ 0 0 _
                          refine x_iret rfl rfl ?_
                          exact hQ _ _ J Sm ((congrArg Prod.fst D).symm.trans X135) ((congrArg Prod.snd D).symm.trans X136)
                        ·
                          rw [if_pos (by omega)] at D
                          refine x_aloadn (x := 125) rfl rfl ?_
                          refine x_bipush (v := (-5)) rfl kb_m5 ?_
                          refine x_inv (N := m_X12_told) (As := [.int (-5)]) (b := 125) (st := []) (dx9 := 1) (mc := 0) (ms := 0) (host := "") 12 rfl t_X12_told ⟨Or.inl q_12_197, i_X12_told.1, i_X12_told.2⟩ ⟨by decide, rfl⟩ (congrArg Prod.fst (J.1.1 125 (12, 92) rfl)) rfl (by decide) rfl rfl ⟨by decide, by decide⟩ (sf_X12_told_r125d  hD J rfl  (fun v141 h J S138 X139 X140 => ?_))
                          have ev141 := jfull v141
                          have Sm := jSm_tr rfl Sm S138
                          try rw [jk_m5] at X139
                          try rw [jk_m5] at X140
                          try rw [X139] at D
                          try rw [X140] at D
                          show jX m_X12_apart 4 0 0 57 [(0, .ref 125), (1, .int a1), (2, .int a2)] [.int v141] _ 0 0 _
                          refine x_iret rfl rfl ?_
                          exact hQ _ _ J Sm ((congrArg Prod.fst D).symm.trans X139) ((congrArg Prod.snd D).symm.trans X140)
                      ·
                        rw [if_pos (by omega)] at D
                        refine x_aloadn (x := 125) rfl rfl ?_
                        refine x_bipush (v := (-3)) rfl kb_m3 ?_
                        refine x_inv (N := m_X12_told) (As := [.int (-3)]) (b := 125) (st := []) (dx9 := 1) (mc := 0) (ms := 0) (host := "") 12 rfl t_X12_told ⟨Or.inl q_12_197, i_X12_told.1, i_X12_told.2⟩ ⟨by decide, rfl⟩ (congrArg Prod.fst (J.1.1 125 (12, 92) rfl)) rfl (by decide) rfl rfl ⟨by decide, by decide⟩ (sf_X12_told_r125d  hD J rfl  (fun v145 h J S142 X143 X144 => ?_))
                        have ev145 := jfull v145
                        have Sm := jSm_tr rfl Sm S142
                        try rw [jk_m3] at X143
                        try rw [jk_m3] at X144
                        try rw [X143] at D
                        try rw [X144] at D
                        show jX m_X12_apart 4 0 0 39 [(0, .ref 125), (1, .int a1), (2, .int a2)] [.int v145] _ 0 0 _
                        refine x_iret rfl rfl ?_
                        exact hQ _ _ J Sm ((congrArg Prod.fst D).symm.trans X143) ((congrArg Prod.snd D).symm.trans X144)
                  ·
                    rw [if_pos (by omega)] at D
                    refine x_iconst (v := 2) rfl ki_2 ?_
                    refine x_goto (tgt := 18) rfl rfl ?_
                    refine x_iret rfl rfl ?_
                    show jX m_X12_isMention 3 0 0 27 [(0, .ref 125), (1, .int a2)] [.int 2, .int v114] _ 0 0 _
                    refine x_icge (tgt := 34) rfl rfl (ti_ge rfl jk_2 ⟨fun c146 => ?_, fun c146 => ?_⟩)
                    ·
                      rw [if_pos (by omega)] at D
                      refine x_iconst (v := 0) rfl ki_0 ?_
                      refine x_zret rfl rfl (by decide) ?_
                      show jX m_X12_apart 4 0 0 18 [(0, .ref 125), (1, .int a1), (2, .int a2)] [.int 0] _ 0 0 _
                      refine x_ifne (tgt := 28) rfl rfl (ti_ne jk_0 jk_0 (bn_f (by omega) ?_))
                      exact jX.sub (jsb_c rfl jsb_n) (ct_X12_apart_r125d_21 hD hQ  h J Sm D)
                    ·
                      rw [if_neg (by omega)] at D
                      refine x_iconst (v := 1) rfl ki_1 ?_
                      refine x_goto (tgt := 35) rfl rfl ?_
                      refine x_zret rfl rfl (by decide) ?_
                      show jX m_X12_apart 4 0 0 18 [(0, .ref 125), (1, .int a1), (2, .int a2)] [.int 1] _ 0 0 _
                      refine x_ifne (tgt := 28) rfl rfl (ti_ne jk_1 jk_0 (bn_t (by omega) ?_))
                      refine x_iloadn (x := a1) rfl rfl ?_
                      refine x_iloadn (x := a2) rfl rfl ?_
                      refine x_icne (tgt := 40) rfl rfl (ti_ne rfl rfl ⟨fun c147 => ?_, fun c147 => ?_⟩)
                      ·
                        rw [if_neg (by omega)] at D
                        refine x_aloadn (x := 125) rfl rfl ?_
                        refine z_getR (N := 92) (b := 126) 12 2 rfl f_12_8 rfl J rfl 16002 ⟨rfl, rfl⟩ rfl ?_
                        refine x_iconst (v := 1) rfl ki_1 ?_
                        refine z_iald (N := 50660) rfl J rfl sg_126_1_2_1_0_1 jk_1 (by omega) (fun v148 qv148 ev148 => ?_)
                        try rw [vrn (n := 1) (by decide) (jmb_w w1 qv148 rfl)] at D
                        refine x_bipush (v := 60) rfl kb_60 ?_
                        refine x_icne (tgt := 58) rfl rfl (ti_ne rfl jk_60 ⟨fun c149 => ?_, fun c149 => ?_⟩)
                        ·
                          rw [if_neg (by omega)] at D
                          refine x_aloadn (x := 125) rfl rfl ?_
                          refine z_getR (N := 92) (b := 126) 12 2 rfl f_12_8 rfl J rfl 16002 ⟨rfl, rfl⟩ rfl ?_
                          refine x_sipush (v := 18020) rfl ks_18020 ?_
                          refine x_iconst (v := 2) rfl ki_2 ?_
                          refine x_aloadn (x := 125) rfl rfl ?_
                          refine z_getR (N := 92) (b := 126) 12 2 rfl f_12_8 rfl J rfl 16002 ⟨rfl, rfl⟩ rfl ?_
                          refine x_iconst (v := 1) rfl ki_1 ?_
                          refine z_ialdM (N := 50660) (v := v148) rfl J rfl jk_1 (by omega) qv148 ?_
                          refine z_imul rfl jk_2 rfl (by omega) (fun v150 ev150 => ?_)
                          refine z_iadd rfl jk_18020 rfl (by omega) (fun v151 ev151 => ?_)
                          refine x_iloadn (x := a1) rfl rfl ?_
                          refine z_iast (N := 50660) (l := 18020) (u := 18140) (w := a1.toInt) rfl hD J Sm rfl rfl rfl (by omega) rfl (wr_126_18020 (by omega) (fun q1 q2 q3 q4 => by omega) (fun q1 q2 q3 q4 => by omega)) rfl (fun h w152 J Sm => ?_)
                          rw [vww w152 (show (18020 + (2 * v148.toInt)) = v151.toInt from by omega) (show a1.toInt = a1.toInt from by omega)] at D
                          refine x_aloadn (x := 125) rfl rfl ?_
                          refine z_getR (N := 92) (b := 126) 12 2 rfl f_12_8 rfl J rfl 16002 ⟨rfl, rfl⟩ rfl ?_
                          refine x_sipush (v := 18020) rfl ks_18020 ?_
                          refine x_iconst (v := 2) rfl ki_2 ?_
                          refine x_aloadn (x := 125) rfl rfl ?_
                          refine z_getR (N := 92) (b := 126) 12 2 rfl f_12_8 rfl J rfl 16002 ⟨rfl, rfl⟩ rfl ?_
                          refine x_iconst (v := 1) rfl ki_1 ?_
                          refine z_ialdM (N := 50660) (v := v148) rfl J rfl jk_1 (by omega) (jmo2 w152 rfl jk_1 (by omega) qv148) ?_
                          refine z_imul rfl jk_2 rfl (by omega) (fun v153 ev153 => ?_)
                          refine z_iadd rfl jk_18020 rfl (by omega) (fun v154 ev154 => ?_)
                          refine x_iconst (v := 1) rfl ki_1 ?_
                          refine z_iadd rfl rfl jk_1 (by omega) (fun v155 ev155 => ?_)
                          refine x_iloadn (x := a2) rfl rfl ?_
                          refine z_iast (N := 50660) (l := 18020) (u := 18140) (w := a2.toInt) rfl hD J Sm rfl rfl rfl (by omega) rfl (wr_126_18020 (by omega) (fun q1 q2 q3 q4 => by omega) (fun q1 q2 q3 q4 => by omega)) rfl (fun h w156 J Sm => ?_)
                          rw [vww w156 (show ((18020 + (2 * v148.toInt)) + 1) = v155.toInt from by omega) (show a2.toInt = a2.toInt from by omega)] at D
                          refine x_aloadn (x := 125) rfl rfl ?_
                          refine z_getR (N := 92) (b := 126) 12 2 rfl f_12_8 rfl J rfl 16002 ⟨rfl, rfl⟩ rfl ?_
                          refine x_iconst (v := 1) rfl ki_1 ?_
                          refine x_dup2 rfl rfl rfl ?_
                          refine z_ialdM (N := 50660) (v := v148) rfl J rfl jk_1 (by omega) (jmo2 w156 rfl jk_1 (by omega) (jmo2 w152 rfl jk_1 (by omega) qv148)) ?_
                          refine x_iconst (v := 1) rfl ki_1 ?_
                          refine z_iadd rfl rfl jk_1 (by omega) (fun v157 ev157 => ?_)
                          refine z_iast (N := 50660) (l := 1) (u := 2) (w := v157.toInt) rfl hD J Sm rfl rfl jk_1 (by omega) rfl (wr_126_1 (by omega) (fun q1 q2 q3 q4 => by omega)) rfl (fun h w158 J Sm => ?_)
                          rw [vwn (n := 1) (by decide) w158 (show (v148.toInt + 1) = v157.toInt from by omega)] at D
                          refine x_aloadn (x := 125) rfl rfl ?_
                          refine x_iconst (v := 0) rfl ki_0 ?_
                          refine x_inv (N := m_X12_told) (As := [.int 0]) (b := 125) (st := []) (dx9 := 1) (mc := 0) (ms := 0) (host := "") 12 rfl t_X12_told ⟨Or.inl q_12_197, i_X12_told.1, i_X12_told.2⟩ ⟨by decide, rfl⟩ (congrArg Prod.fst (J.1.1 125 (12, 92) rfl)) rfl (by decide) rfl rfl ⟨by decide, by decide⟩ (sf_X12_told_r125d  hD J rfl  (fun v162 h J S159 X160 X161 => ?_))
                          have ev162 := jfull v162
                          have Sm := jSm_tr rfl Sm S159
                          try rw [jk_0] at X160
                          try rw [jk_0] at X161
                          try rw [X160] at D
                          try rw [X161] at D
                          show jX m_X12_apart 4 0 0 111 [(0, .ref 125), (1, .int a1), (2, .int a2)] [.int v162] _ 0 0 _
                          refine x_iret rfl rfl ?_
                          exact hQ _ _ J Sm ((congrArg Prod.fst D).symm.trans X160) ((congrArg Prod.snd D).symm.trans X161)
                        ·
                          rw [if_pos (by omega)] at D
                          refine x_aloadn (x := 125) rfl rfl ?_
                          refine x_bipush (v := (-5)) rfl kb_m5 ?_
                          refine x_inv (N := m_X12_told) (As := [.int (-5)]) (b := 125) (st := []) (dx9 := 1) (mc := 0) (ms := 0) (host := "") 12 rfl t_X12_told ⟨Or.inl q_12_197, i_X12_told.1, i_X12_told.2⟩ ⟨by decide, rfl⟩ (congrArg Prod.fst (J.1.1 125 (12, 92) rfl)) rfl (by decide) rfl rfl ⟨by decide, by decide⟩ (sf_X12_told_r125d  hD J rfl  (fun v166 h J S163 X164 X165 => ?_))
                          have ev166 := jfull v166
                          have Sm := jSm_tr rfl Sm S163
                          try rw [jk_m5] at X164
                          try rw [jk_m5] at X165
                          try rw [X164] at D
                          try rw [X165] at D
                          show jX m_X12_apart 4 0 0 57 [(0, .ref 125), (1, .int a1), (2, .int a2)] [.int v166] _ 0 0 _
                          refine x_iret rfl rfl ?_
                          exact hQ _ _ J Sm ((congrArg Prod.fst D).symm.trans X164) ((congrArg Prod.snd D).symm.trans X165)
                      ·
                        rw [if_pos (by omega)] at D
                        refine x_aloadn (x := 125) rfl rfl ?_
                        refine x_bipush (v := (-3)) rfl kb_m3 ?_
                        refine x_inv (N := m_X12_told) (As := [.int (-3)]) (b := 125) (st := []) (dx9 := 1) (mc := 0) (ms := 0) (host := "") 12 rfl t_X12_told ⟨Or.inl q_12_197, i_X12_told.1, i_X12_told.2⟩ ⟨by decide, rfl⟩ (congrArg Prod.fst (J.1.1 125 (12, 92) rfl)) rfl (by decide) rfl rfl ⟨by decide, by decide⟩ (sf_X12_told_r125d  hD J rfl  (fun v170 h J S167 X168 X169 => ?_))
                        have ev170 := jfull v170
                        have Sm := jSm_tr rfl Sm S167
                        try rw [jk_m3] at X168
                        try rw [jk_m3] at X169
                        try rw [X168] at D
                        try rw [X169] at D
                        show jX m_X12_apart 4 0 0 39 [(0, .ref 125), (1, .int a1), (2, .int a2)] [.int v170] _ 0 0 _
                        refine x_iret rfl rfl ?_
                        exact hQ _ _ J Sm ((congrArg Prod.fst D).symm.trans X168) ((congrArg Prod.snd D).symm.trans X169)
                ·
                  rw [if_pos (by omega)] at D
                  refine x_iconst (v := 3) rfl ki_3 ?_
                  refine x_goto (tgt := 18) rfl rfl ?_
                  refine x_iret rfl rfl ?_
                  show jX m_X12_isMention 3 0 0 27 [(0, .ref 125), (1, .int a2)] [.int 3, .int v114] _ 0 0 _
                  refine x_icge (tgt := 34) rfl rfl (ti_ge rfl jk_3 (br_f (by omega) ?_))
                  refine x_iconst (v := 1) rfl ki_1 ?_
                  refine x_goto (tgt := 35) rfl rfl ?_
                  refine x_zret rfl rfl (by decide) ?_
                  show jX m_X12_apart 4 0 0 18 [(0, .ref 125), (1, .int a1), (2, .int a2)] [.int 1] _ 0 0 _
                  refine x_ifne (tgt := 28) rfl rfl (ti_ne jk_1 jk_0 (bn_t (by omega) ?_))
                  refine x_iloadn (x := a1) rfl rfl ?_
                  refine x_iloadn (x := a2) rfl rfl ?_
                  refine x_icne (tgt := 40) rfl rfl (ti_ne rfl rfl ⟨fun c171 => ?_, fun c171 => ?_⟩)
                  ·
                    rw [if_neg (by omega)] at D
                    refine x_aloadn (x := 125) rfl rfl ?_
                    refine z_getR (N := 92) (b := 126) 12 2 rfl f_12_8 rfl J rfl 16002 ⟨rfl, rfl⟩ rfl ?_
                    refine x_iconst (v := 1) rfl ki_1 ?_
                    refine z_iald (N := 50660) rfl J rfl sg_126_1_2_1_0_1 jk_1 (by omega) (fun v172 qv172 ev172 => ?_)
                    try rw [vrn (n := 1) (by decide) (jmb_w w1 qv172 rfl)] at D
                    refine x_bipush (v := 60) rfl kb_60 ?_
                    refine x_icne (tgt := 58) rfl rfl (ti_ne rfl jk_60 ⟨fun c173 => ?_, fun c173 => ?_⟩)
                    ·
                      rw [if_neg (by omega)] at D
                      refine x_aloadn (x := 125) rfl rfl ?_
                      refine z_getR (N := 92) (b := 126) 12 2 rfl f_12_8 rfl J rfl 16002 ⟨rfl, rfl⟩ rfl ?_
                      refine x_sipush (v := 18020) rfl ks_18020 ?_
                      refine x_iconst (v := 2) rfl ki_2 ?_
                      refine x_aloadn (x := 125) rfl rfl ?_
                      refine z_getR (N := 92) (b := 126) 12 2 rfl f_12_8 rfl J rfl 16002 ⟨rfl, rfl⟩ rfl ?_
                      refine x_iconst (v := 1) rfl ki_1 ?_
                      refine z_ialdM (N := 50660) (v := v172) rfl J rfl jk_1 (by omega) qv172 ?_
                      refine z_imul rfl jk_2 rfl (by omega) (fun v174 ev174 => ?_)
                      refine z_iadd rfl jk_18020 rfl (by omega) (fun v175 ev175 => ?_)
                      refine x_iloadn (x := a1) rfl rfl ?_
                      refine z_iast (N := 50660) (l := 18020) (u := 18140) (w := a1.toInt) rfl hD J Sm rfl rfl rfl (by omega) rfl (wr_126_18020 (by omega) (fun q1 q2 q3 q4 => by omega) (fun q1 q2 q3 q4 => by omega)) rfl (fun h w176 J Sm => ?_)
                      rw [vww w176 (show (18020 + (2 * v172.toInt)) = v175.toInt from by omega) (show a1.toInt = a1.toInt from by omega)] at D
                      refine x_aloadn (x := 125) rfl rfl ?_
                      refine z_getR (N := 92) (b := 126) 12 2 rfl f_12_8 rfl J rfl 16002 ⟨rfl, rfl⟩ rfl ?_
                      refine x_sipush (v := 18020) rfl ks_18020 ?_
                      refine x_iconst (v := 2) rfl ki_2 ?_
                      refine x_aloadn (x := 125) rfl rfl ?_
                      refine z_getR (N := 92) (b := 126) 12 2 rfl f_12_8 rfl J rfl 16002 ⟨rfl, rfl⟩ rfl ?_
                      refine x_iconst (v := 1) rfl ki_1 ?_
                      refine z_ialdM (N := 50660) (v := v172) rfl J rfl jk_1 (by omega) (jmo2 w176 rfl jk_1 (by omega) qv172) ?_
                      refine z_imul rfl jk_2 rfl (by omega) (fun v177 ev177 => ?_)
                      refine z_iadd rfl jk_18020 rfl (by omega) (fun v178 ev178 => ?_)
                      refine x_iconst (v := 1) rfl ki_1 ?_
                      refine z_iadd rfl rfl jk_1 (by omega) (fun v179 ev179 => ?_)
                      refine x_iloadn (x := a2) rfl rfl ?_
                      refine z_iast (N := 50660) (l := 18020) (u := 18140) (w := a2.toInt) rfl hD J Sm rfl rfl rfl (by omega) rfl (wr_126_18020 (by omega) (fun q1 q2 q3 q4 => by omega) (fun q1 q2 q3 q4 => by omega)) rfl (fun h w180 J Sm => ?_)
                      rw [vww w180 (show ((18020 + (2 * v172.toInt)) + 1) = v179.toInt from by omega) (show a2.toInt = a2.toInt from by omega)] at D
                      refine x_aloadn (x := 125) rfl rfl ?_
                      refine z_getR (N := 92) (b := 126) 12 2 rfl f_12_8 rfl J rfl 16002 ⟨rfl, rfl⟩ rfl ?_
                      refine x_iconst (v := 1) rfl ki_1 ?_
                      refine x_dup2 rfl rfl rfl ?_
                      refine z_ialdM (N := 50660) (v := v172) rfl J rfl jk_1 (by omega) (jmo2 w180 rfl jk_1 (by omega) (jmo2 w176 rfl jk_1 (by omega) qv172)) ?_
                      refine x_iconst (v := 1) rfl ki_1 ?_
                      refine z_iadd rfl rfl jk_1 (by omega) (fun v181 ev181 => ?_)
                      refine z_iast (N := 50660) (l := 1) (u := 2) (w := v181.toInt) rfl hD J Sm rfl rfl jk_1 (by omega) rfl (wr_126_1 (by omega) (fun q1 q2 q3 q4 => by omega)) rfl (fun h w182 J Sm => ?_)
                      rw [vwn (n := 1) (by decide) w182 (show (v172.toInt + 1) = v181.toInt from by omega)] at D
                      refine x_aloadn (x := 125) rfl rfl ?_
                      refine x_iconst (v := 0) rfl ki_0 ?_
                      refine x_inv (N := m_X12_told) (As := [.int 0]) (b := 125) (st := []) (dx9 := 1) (mc := 0) (ms := 0) (host := "") 12 rfl t_X12_told ⟨Or.inl q_12_197, i_X12_told.1, i_X12_told.2⟩ ⟨by decide, rfl⟩ (congrArg Prod.fst (J.1.1 125 (12, 92) rfl)) rfl (by decide) rfl rfl ⟨by decide, by decide⟩ (sf_X12_told_r125d  hD J rfl  (fun v186 h J S183 X184 X185 => ?_))
                      have ev186 := jfull v186
                      have Sm := jSm_tr rfl Sm S183
                      try rw [jk_0] at X184
                      try rw [jk_0] at X185
                      try rw [X184] at D
                      try rw [X185] at D
                      show jX m_X12_apart 4 0 0 111 [(0, .ref 125), (1, .int a1), (2, .int a2)] [.int v186] _ 0 0 _
                      refine x_iret rfl rfl ?_
                      exact hQ _ _ J Sm ((congrArg Prod.fst D).symm.trans X184) ((congrArg Prod.snd D).symm.trans X185)
                    ·
                      rw [if_pos (by omega)] at D
                      refine x_aloadn (x := 125) rfl rfl ?_
                      refine x_bipush (v := (-5)) rfl kb_m5 ?_
                      refine x_inv (N := m_X12_told) (As := [.int (-5)]) (b := 125) (st := []) (dx9 := 1) (mc := 0) (ms := 0) (host := "") 12 rfl t_X12_told ⟨Or.inl q_12_197, i_X12_told.1, i_X12_told.2⟩ ⟨by decide, rfl⟩ (congrArg Prod.fst (J.1.1 125 (12, 92) rfl)) rfl (by decide) rfl rfl ⟨by decide, by decide⟩ (sf_X12_told_r125d  hD J rfl  (fun v190 h J S187 X188 X189 => ?_))
                      have ev190 := jfull v190
                      have Sm := jSm_tr rfl Sm S187
                      try rw [jk_m5] at X188
                      try rw [jk_m5] at X189
                      try rw [X188] at D
                      try rw [X189] at D
                      show jX m_X12_apart 4 0 0 57 [(0, .ref 125), (1, .int a1), (2, .int a2)] [.int v190] _ 0 0 _
                      refine x_iret rfl rfl ?_
                      exact hQ _ _ J Sm ((congrArg Prod.fst D).symm.trans X188) ((congrArg Prod.snd D).symm.trans X189)
                  ·
                    rw [if_pos (by omega)] at D
                    refine x_aloadn (x := 125) rfl rfl ?_
                    refine x_bipush (v := (-3)) rfl kb_m3 ?_
                    refine x_inv (N := m_X12_told) (As := [.int (-3)]) (b := 125) (st := []) (dx9 := 1) (mc := 0) (ms := 0) (host := "") 12 rfl t_X12_told ⟨Or.inl q_12_197, i_X12_told.1, i_X12_told.2⟩ ⟨by decide, rfl⟩ (congrArg Prod.fst (J.1.1 125 (12, 92) rfl)) rfl (by decide) rfl rfl ⟨by decide, by decide⟩ (sf_X12_told_r125d  hD J rfl  (fun v194 h J S191 X192 X193 => ?_))
                    have ev194 := jfull v194
                    have Sm := jSm_tr rfl Sm S191
                    try rw [jk_m3] at X192
                    try rw [jk_m3] at X193
                    try rw [X192] at D
                    try rw [X193] at D
                    show jX m_X12_apart 4 0 0 39 [(0, .ref 125), (1, .int a1), (2, .int a2)] [.int v194] _ 0 0 _
                    refine x_iret rfl rfl ?_
                    exact hQ _ _ J Sm ((congrArg Prod.fst D).symm.trans X192) ((congrArg Prod.snd D).symm.trans X193)
      ·
        rw [if_pos (by omega)] at D
        refine x_iconst (v := 3) rfl ki_3 ?_
        refine x_goto (tgt := 18) rfl rfl ?_
        refine x_iret rfl rfl ?_
        show jX m_X12_isMention 3 0 0 27 [(0, .ref 125), (1, .int a1)] [.int 3, .int v10] _ 0 0 _
        refine x_icge (tgt := 34) rfl rfl (ti_ge rfl jk_3 (br_f (by omega) ?_))
        refine x_iconst (v := 1) rfl ki_1 ?_
        refine x_goto (tgt := 35) rfl rfl ?_
        refine x_zret rfl rfl (by decide) ?_
        show jX m_X12_apart 4 0 0 10 [(0, .ref 125), (1, .int a1), (2, .int a2)] [.int 1] _ 0 0 _
        refine x_ifeq (tgt := 21) rfl rfl (ti_eq jk_1 jk_0 (br_f (by omega) ?_))
        refine x_aloadn (x := 125) rfl rfl ?_
        refine x_iloadn (x := a2) rfl rfl ?_
        refine x_inv (N := m_X12_isMention) (As := [.int a2]) (b := 125) (st := []) (dx9 := 3) (mc := 0) (ms := 0) (host := "") 12 rfl t_X12_isMention ⟨Or.inl q_12_322, i_X12_isMention.1, i_X12_isMention.2⟩ ⟨by decide, rfl⟩ (congrArg Prod.fst (J.1.1 125 (12, 92) rfl)) rfl (by decide) rfl rfl ⟨by decide, by decide⟩ (jC.of rfl k_X12_isMention rfl ?_)
        show jX m_X12_isMention 3 0 0 0 [(0, .ref 125), (1, .int a2)] [] _ 0 0 _
        refine x_iloadn (x := a2) rfl rfl ?_
        refine x_iflt (tgt := 34) rfl rfl (ti_lt rfl jk_0 ⟨fun c195 => ?_, fun c195 => ?_⟩)
        ·
          rw [if_pos (by omega)] at D
          refine x_iconst (v := 0) rfl ki_0 ?_
          refine x_zret rfl rfl (by decide) ?_
          show jX m_X12_apart 4 0 0 18 [(0, .ref 125), (1, .int a1), (2, .int a2)] [.int 0] _ 0 0 _
          refine x_ifne (tgt := 28) rfl rfl (ti_ne jk_0 jk_0 (bn_f (by omega) ?_))
          exact jX.sub (jsb_c rfl jsb_n) (ct_X12_apart_r125d_21 hD hQ  h J Sm D)
        ·
          rw [if_neg (by omega)] at D
          refine x_aloadn (x := 125) rfl rfl ?_
          refine x_iloadn (x := a2) rfl rfl ?_
          refine x_iconst (v := 3) rfl ki_3 ?_
          refine z_idiv rfl rfl jk_3 (by omega) (by omega) (fun v196 ev196 => ?_)
          refine x_inv (N := m_X12_isLine) (As := [.int v196]) (b := 125) (st := []) (dx9 := 2) (mc := 0) (ms := 0) (host := "") 12 rfl t_X12_isLine ⟨Or.inl q_12_293, i_X12_isLine.1, i_X12_isLine.2⟩ ⟨by decide, rfl⟩ (congrArg Prod.fst (J.1.1 125 (12, 92) rfl)) rfl (by decide) rfl rfl ⟨by decide, by decide⟩ (jC.of rfl k_X12_isLine rfl ?_)
          show jX m_X12_isLine 2 0 0 0 [(0, .ref 125), (1, .int v196)] [] _ 0 0 _
          refine x_iloadn (x := v196) rfl rfl ?_
          refine z_i2l rfl rfl (fun v197 ev197 => ?_)
          refine x_lconst (v := 0) rfl kl_0 ?_
          refine x_aloadn (x := 125) rfl rfl ?_
          refine z_getR (N := 92) (b := 126) 12 2 rfl f_12_8 rfl J rfl 16002 ⟨rfl, rfl⟩ rfl ?_
          refine x_iconst (v := 0) rfl ki_0 ?_
          refine z_ialdM (N := 50660) (v := v5) rfl J rfl jk_0 (by omega) qv5 ?_
          refine z_i2l rfl rfl (fun v198 ev198 => ?_)
          refine x_lconst (v := 1) rfl kl_1 ?_
          refine z_lsub rfl rfl jkl_1 (by omega) (fun v199 ev199 => ?_)
          refine x_inst (N := m_X12_in) (As := [.long v197, .long 0, .long v199]) (st := []) (dx9 := 1) (mc := 0) (ms := 0) (host := "") rfl t_X12_in ⟨Or.inl q_12_188, s_X12_in⟩ rfl (by decide) rfl rfl ⟨by decide, by decide⟩ (zc_X12_in rfl jkl_0 rfl (fun v200 ev200 => ?_))
          show jX m_X12_isLine 2 0 0 15 [(0, .ref 125), (1, .int v196)] [.int v200] _ 0 0 _
          refine x_zret rfl rfl (jz01 (by omega)) ?_
          show jX m_X12_isMention 3 0 0 11 [(0, .ref 125), (1, .int a2)] [.int v200] _ 0 0 _
          refine x_ifeq (tgt := 34) rfl rfl (ti_eq rfl jk_0 ⟨fun c201 => ?_, fun c201 => ?_⟩)
          ·
            rw [if_neg (by omega)] at D
            refine x_iconst (v := 0) rfl ki_0 ?_
            refine x_zret rfl rfl (by decide) ?_
            show jX m_X12_apart 4 0 0 18 [(0, .ref 125), (1, .int a1), (2, .int a2)] [.int 0] _ 0 0 _
            refine x_ifne (tgt := 28) rfl rfl (ti_ne jk_0 jk_0 (bn_f (by omega) ?_))
            exact jX.sub (jsb_c rfl jsb_n) (ct_X12_apart_r125d_21 hD hQ  h J Sm D)
          ·
            rw [if_pos (by omega)] at D
            refine x_iloadn (x := a2) rfl rfl ?_
            refine x_iconst (v := 3) rfl ki_3 ?_
            refine z_irem rfl rfl jk_3 (by omega) (by omega) (fun v202 ev202 => ?_)
            refine x_aloadn (x := 125) rfl rfl ?_
            refine x_iloadn (x := a2) rfl rfl ?_
            refine x_iconst (v := 3) rfl ki_3 ?_
            refine z_idiv rfl rfl jk_3 (by omega) (by omega) (fun v203 ev203 => ?_)
            refine x_inv (N := m_X12_bookOf) (As := [.int v203]) (b := 125) (st := [.int v202]) (dx9 := 2) (mc := 0) (ms := 0) (host := "") 12 rfl t_X12_bookOf ⟨Or.inl q_12_299, i_X12_bookOf.1, i_X12_bookOf.2⟩ ⟨by decide, rfl⟩ (congrArg Prod.fst (J.1.1 125 (12, 92) rfl)) rfl (by decide) rfl rfl ⟨by decide, by decide⟩ (jC.of rfl k_X12_bookOf rfl ?_)
            show jX m_X12_bookOf 2 0 0 0 [(0, .ref 125), (1, .int v203)] [] _ 0 0 _
            refine x_aloadn (x := 125) rfl rfl ?_
            refine z_getR (N := 92) (b := 126) 12 2 rfl f_12_8 rfl J rfl 16002 ⟨rfl, rfl⟩ rfl ?_
            refine x_aloadn (x := 125) rfl rfl ?_
            refine x_iloadn (x := v203) rfl rfl ?_
            refine x_inv (N := m_X12_at) (As := [.int v203]) (b := 125) (st := [.ref 126]) (dx9 := 1) (mc := 0) (ms := 0) (host := "") 12 rfl t_X12_at ⟨Or.inl q_12_254, i_X12_at.1, i_X12_at.2⟩ ⟨by decide, rfl⟩ (congrArg Prod.fst (J.1.1 125 (12, 92) rfl)) rfl (by decide) rfl rfl ⟨by decide, by decide⟩ (jC.of rfl k_X12_at rfl ?_)
            show jX m_X12_at 1 0 0 0 [(0, .ref 125), (1, .int v203)] [] _ 0 0 _
            refine x_bipush (v := 20) rfl kb_20 ?_
            refine x_bipush (v := 90) rfl kb_90 ?_
            refine x_iloadn (x := v203) rfl rfl ?_
            refine z_imul rfl jk_90 rfl (by omega) (fun v204 ev204 => ?_)
            refine z_iadd rfl jk_20 rfl (by omega) (fun v205 ev205 => ?_)
            refine x_iret rfl rfl ?_
            show jX m_X12_bookOf 2 0 0 9 [(0, .ref 125), (1, .int v203)] [.int v205, .ref 126] _ 0 0 _
            refine z_iald (N := 50660) rfl J rfl sg_126_20_18020_90_0_1 rfl (by omega) (fun v206 qv206 ev206 => ?_)
            try rw [vrd (jmb_w w1 qv206 rfl) (show (20 + (90 * (a2.toInt / 3))) = v205.toInt from by omega)] at D
            refine x_iret rfl rfl ?_
            show jX m_X12_isMention 3 0 0 24 [(0, .ref 125), (1, .int a2)] [.int v206, .int v202] _ 0 0 _
            refine x_inst (N := m_X12_rolesOf) (As := [.int v206]) (st := [.int v202]) (dx9 := 2) (mc := 0) (ms := 0) (host := "") rfl t_X12_rolesOf ⟨Or.inl q_12_286, s_X12_rolesOf⟩ rfl (by decide) rfl rfl ⟨by decide, by decide⟩ (jC.of rfl k_X12_rolesOf rfl ?_)
            show jX m_X12_rolesOf 2 0 0 0 [(0, .int v206)] [] _ 0 0 _
            refine x_iloadn (x := v206) rfl rfl ?_
            refine x_ifne (tgt := 8) rfl rfl (ti_ne rfl jk_0 ⟨fun c207 => ?_, fun c207 => ?_⟩)
            ·
              rw [if_neg (by omega)] at D
              refine x_iloadn (x := v206) rfl rfl ?_
              refine x_iconst (v := 1) rfl ki_1 ?_
              refine x_icne (tgt := 17) rfl rfl (ti_ne rfl jk_1 ⟨fun c208 => ?_, fun c208 => ?_⟩)
              ·
                rw [if_neg (by omega)] at D
                refine x_iconst (v := 1) rfl ki_1 ?_
                refine x_iret rfl rfl ?_
                show jX m_X12_isMention 3 0 0 27 [(0, .ref 125), (1, .int a2)] [.int 1, .int v202] _ 0 0 _
                refine x_icge (tgt := 34) rfl rfl (ti_ge rfl jk_1 ⟨fun c209 => ?_, fun c209 => ?_⟩)
                ·
                  rw [if_pos (by omega)] at D
                  refine x_iconst (v := 0) rfl ki_0 ?_
                  refine x_zret rfl rfl (by decide) ?_
                  show jX m_X12_apart 4 0 0 18 [(0, .ref 125), (1, .int a1), (2, .int a2)] [.int 0] _ 0 0 _
                  refine x_ifne (tgt := 28) rfl rfl (ti_ne jk_0 jk_0 (bn_f (by omega) ?_))
                  exact jX.sub (jsb_c rfl jsb_n) (ct_X12_apart_r125d_21 hD hQ  h J Sm D)
                ·
                  rw [if_neg (by omega)] at D
                  refine x_iconst (v := 1) rfl ki_1 ?_
                  refine x_goto (tgt := 35) rfl rfl ?_
                  refine x_zret rfl rfl (by decide) ?_
                  show jX m_X12_apart 4 0 0 18 [(0, .ref 125), (1, .int a1), (2, .int a2)] [.int 1] _ 0 0 _
                  refine x_ifne (tgt := 28) rfl rfl (ti_ne jk_1 jk_0 (bn_t (by omega) ?_))
                  refine x_iloadn (x := a1) rfl rfl ?_
                  refine x_iloadn (x := a2) rfl rfl ?_
                  refine x_icne (tgt := 40) rfl rfl (ti_ne rfl rfl ⟨fun c210 => ?_, fun c210 => ?_⟩)
                  ·
                    rw [if_neg (by omega)] at D
                    refine x_aloadn (x := 125) rfl rfl ?_
                    refine z_getR (N := 92) (b := 126) 12 2 rfl f_12_8 rfl J rfl 16002 ⟨rfl, rfl⟩ rfl ?_
                    refine x_iconst (v := 1) rfl ki_1 ?_
                    refine z_iald (N := 50660) rfl J rfl sg_126_1_2_1_0_1 jk_1 (by omega) (fun v211 qv211 ev211 => ?_)
                    try rw [vrn (n := 1) (by decide) (jmb_w w1 qv211 rfl)] at D
                    refine x_bipush (v := 60) rfl kb_60 ?_
                    refine x_icne (tgt := 58) rfl rfl (ti_ne rfl jk_60 ⟨fun c212 => ?_, fun c212 => ?_⟩)
                    ·
                      rw [if_neg (by omega)] at D
                      refine x_aloadn (x := 125) rfl rfl ?_
                      refine z_getR (N := 92) (b := 126) 12 2 rfl f_12_8 rfl J rfl 16002 ⟨rfl, rfl⟩ rfl ?_
                      refine x_sipush (v := 18020) rfl ks_18020 ?_
                      refine x_iconst (v := 2) rfl ki_2 ?_
                      refine x_aloadn (x := 125) rfl rfl ?_
                      refine z_getR (N := 92) (b := 126) 12 2 rfl f_12_8 rfl J rfl 16002 ⟨rfl, rfl⟩ rfl ?_
                      refine x_iconst (v := 1) rfl ki_1 ?_
                      refine z_ialdM (N := 50660) (v := v211) rfl J rfl jk_1 (by omega) qv211 ?_
                      refine z_imul rfl jk_2 rfl (by omega) (fun v213 ev213 => ?_)
                      refine z_iadd rfl jk_18020 rfl (by omega) (fun v214 ev214 => ?_)
                      refine x_iloadn (x := a1) rfl rfl ?_
                      refine z_iast (N := 50660) (l := 18020) (u := 18140) (w := a1.toInt) rfl hD J Sm rfl rfl rfl (by omega) rfl (wr_126_18020 (by omega) (fun q1 q2 q3 q4 => by omega) (fun q1 q2 q3 q4 => by omega)) rfl (fun h w215 J Sm => ?_)
                      rw [vww w215 (show (18020 + (2 * v211.toInt)) = v214.toInt from by omega) (show a1.toInt = a1.toInt from by omega)] at D
                      refine x_aloadn (x := 125) rfl rfl ?_
                      refine z_getR (N := 92) (b := 126) 12 2 rfl f_12_8 rfl J rfl 16002 ⟨rfl, rfl⟩ rfl ?_
                      refine x_sipush (v := 18020) rfl ks_18020 ?_
                      refine x_iconst (v := 2) rfl ki_2 ?_
                      refine x_aloadn (x := 125) rfl rfl ?_
                      refine z_getR (N := 92) (b := 126) 12 2 rfl f_12_8 rfl J rfl 16002 ⟨rfl, rfl⟩ rfl ?_
                      refine x_iconst (v := 1) rfl ki_1 ?_
                      refine z_ialdM (N := 50660) (v := v211) rfl J rfl jk_1 (by omega) (jmo2 w215 rfl jk_1 (by omega) qv211) ?_
                      refine z_imul rfl jk_2 rfl (by omega) (fun v216 ev216 => ?_)
                      refine z_iadd rfl jk_18020 rfl (by omega) (fun v217 ev217 => ?_)
                      refine x_iconst (v := 1) rfl ki_1 ?_
                      refine z_iadd rfl rfl jk_1 (by omega) (fun v218 ev218 => ?_)
                      refine x_iloadn (x := a2) rfl rfl ?_
                      refine z_iast (N := 50660) (l := 18020) (u := 18140) (w := a2.toInt) rfl hD J Sm rfl rfl rfl (by omega) rfl (wr_126_18020 (by omega) (fun q1 q2 q3 q4 => by omega) (fun q1 q2 q3 q4 => by omega)) rfl (fun h w219 J Sm => ?_)
                      rw [vww w219 (show ((18020 + (2 * v211.toInt)) + 1) = v218.toInt from by omega) (show a2.toInt = a2.toInt from by omega)] at D
                      refine x_aloadn (x := 125) rfl rfl ?_
                      refine z_getR (N := 92) (b := 126) 12 2 rfl f_12_8 rfl J rfl 16002 ⟨rfl, rfl⟩ rfl ?_
                      refine x_iconst (v := 1) rfl ki_1 ?_
                      refine x_dup2 rfl rfl rfl ?_
                      refine z_ialdM (N := 50660) (v := v211) rfl J rfl jk_1 (by omega) (jmo2 w219 rfl jk_1 (by omega) (jmo2 w215 rfl jk_1 (by omega) qv211)) ?_
                      refine x_iconst (v := 1) rfl ki_1 ?_
                      refine z_iadd rfl rfl jk_1 (by omega) (fun v220 ev220 => ?_)
                      refine z_iast (N := 50660) (l := 1) (u := 2) (w := v220.toInt) rfl hD J Sm rfl rfl jk_1 (by omega) rfl (wr_126_1 (by omega) (fun q1 q2 q3 q4 => by omega)) rfl (fun h w221 J Sm => ?_)
                      rw [vwn (n := 1) (by decide) w221 (show (v211.toInt + 1) = v220.toInt from by omega)] at D
                      refine x_aloadn (x := 125) rfl rfl ?_
                      refine x_iconst (v := 0) rfl ki_0 ?_
                      refine x_inv (N := m_X12_told) (As := [.int 0]) (b := 125) (st := []) (dx9 := 1) (mc := 0) (ms := 0) (host := "") 12 rfl t_X12_told ⟨Or.inl q_12_197, i_X12_told.1, i_X12_told.2⟩ ⟨by decide, rfl⟩ (congrArg Prod.fst (J.1.1 125 (12, 92) rfl)) rfl (by decide) rfl rfl ⟨by decide, by decide⟩ (sf_X12_told_r125d  hD J rfl  (fun v225 h J S222 X223 X224 => ?_))
                      have ev225 := jfull v225
                      have Sm := jSm_tr rfl Sm S222
                      try rw [jk_0] at X223
                      try rw [jk_0] at X224
                      try rw [X223] at D
                      try rw [X224] at D
                      show jX m_X12_apart 4 0 0 111 [(0, .ref 125), (1, .int a1), (2, .int a2)] [.int v225] _ 0 0 _
                      refine x_iret rfl rfl ?_
                      exact hQ _ _ J Sm ((congrArg Prod.fst D).symm.trans X223) ((congrArg Prod.snd D).symm.trans X224)
                    ·
                      rw [if_pos (by omega)] at D
                      refine x_aloadn (x := 125) rfl rfl ?_
                      refine x_bipush (v := (-5)) rfl kb_m5 ?_
                      refine x_inv (N := m_X12_told) (As := [.int (-5)]) (b := 125) (st := []) (dx9 := 1) (mc := 0) (ms := 0) (host := "") 12 rfl t_X12_told ⟨Or.inl q_12_197, i_X12_told.1, i_X12_told.2⟩ ⟨by decide, rfl⟩ (congrArg Prod.fst (J.1.1 125 (12, 92) rfl)) rfl (by decide) rfl rfl ⟨by decide, by decide⟩ (sf_X12_told_r125d  hD J rfl  (fun v229 h J S226 X227 X228 => ?_))
                      have ev229 := jfull v229
                      have Sm := jSm_tr rfl Sm S226
                      try rw [jk_m5] at X227
                      try rw [jk_m5] at X228
                      try rw [X227] at D
                      try rw [X228] at D
                      show jX m_X12_apart 4 0 0 57 [(0, .ref 125), (1, .int a1), (2, .int a2)] [.int v229] _ 0 0 _
                      refine x_iret rfl rfl ?_
                      exact hQ _ _ J Sm ((congrArg Prod.fst D).symm.trans X227) ((congrArg Prod.snd D).symm.trans X228)
                  ·
                    rw [if_pos (by omega)] at D
                    refine x_aloadn (x := 125) rfl rfl ?_
                    refine x_bipush (v := (-3)) rfl kb_m3 ?_
                    refine x_inv (N := m_X12_told) (As := [.int (-3)]) (b := 125) (st := []) (dx9 := 1) (mc := 0) (ms := 0) (host := "") 12 rfl t_X12_told ⟨Or.inl q_12_197, i_X12_told.1, i_X12_told.2⟩ ⟨by decide, rfl⟩ (congrArg Prod.fst (J.1.1 125 (12, 92) rfl)) rfl (by decide) rfl rfl ⟨by decide, by decide⟩ (sf_X12_told_r125d  hD J rfl  (fun v233 h J S230 X231 X232 => ?_))
                    have ev233 := jfull v233
                    have Sm := jSm_tr rfl Sm S230
                    try rw [jk_m3] at X231
                    try rw [jk_m3] at X232
                    try rw [X231] at D
                    try rw [X232] at D
                    show jX m_X12_apart 4 0 0 39 [(0, .ref 125), (1, .int a1), (2, .int a2)] [.int v233] _ 0 0 _
                    refine x_iret rfl rfl ?_
                    exact hQ _ _ J Sm ((congrArg Prod.fst D).symm.trans X231) ((congrArg Prod.snd D).symm.trans X232)
              ·
                rw [if_pos (by omega)] at D
                refine x_iconst (v := 2) rfl ki_2 ?_
                refine x_goto (tgt := 18) rfl rfl ?_
                refine x_iret rfl rfl ?_
                show jX m_X12_isMention 3 0 0 27 [(0, .ref 125), (1, .int a2)] [.int 2, .int v202] _ 0 0 _
                refine x_icge (tgt := 34) rfl rfl (ti_ge rfl jk_2 ⟨fun c234 => ?_, fun c234 => ?_⟩)
                ·
                  rw [if_pos (by omega)] at D
                  refine x_iconst (v := 0) rfl ki_0 ?_
                  refine x_zret rfl rfl (by decide) ?_
                  show jX m_X12_apart 4 0 0 18 [(0, .ref 125), (1, .int a1), (2, .int a2)] [.int 0] _ 0 0 _
                  refine x_ifne (tgt := 28) rfl rfl (ti_ne jk_0 jk_0 (bn_f (by omega) ?_))
                  exact jX.sub (jsb_c rfl jsb_n) (ct_X12_apart_r125d_21 hD hQ  h J Sm D)
                ·
                  rw [if_neg (by omega)] at D
                  refine x_iconst (v := 1) rfl ki_1 ?_
                  refine x_goto (tgt := 35) rfl rfl ?_
                  refine x_zret rfl rfl (by decide) ?_
                  show jX m_X12_apart 4 0 0 18 [(0, .ref 125), (1, .int a1), (2, .int a2)] [.int 1] _ 0 0 _
                  refine x_ifne (tgt := 28) rfl rfl (ti_ne jk_1 jk_0 (bn_t (by omega) ?_))
                  refine x_iloadn (x := a1) rfl rfl ?_
                  refine x_iloadn (x := a2) rfl rfl ?_
                  refine x_icne (tgt := 40) rfl rfl (ti_ne rfl rfl ⟨fun c235 => ?_, fun c235 => ?_⟩)
                  ·
                    rw [if_neg (by omega)] at D
                    refine x_aloadn (x := 125) rfl rfl ?_
                    refine z_getR (N := 92) (b := 126) 12 2 rfl f_12_8 rfl J rfl 16002 ⟨rfl, rfl⟩ rfl ?_
                    refine x_iconst (v := 1) rfl ki_1 ?_
                    refine z_iald (N := 50660) rfl J rfl sg_126_1_2_1_0_1 jk_1 (by omega) (fun v236 qv236 ev236 => ?_)
                    try rw [vrn (n := 1) (by decide) (jmb_w w1 qv236 rfl)] at D
                    refine x_bipush (v := 60) rfl kb_60 ?_
                    refine x_icne (tgt := 58) rfl rfl (ti_ne rfl jk_60 ⟨fun c237 => ?_, fun c237 => ?_⟩)
                    ·
                      rw [if_neg (by omega)] at D
                      refine x_aloadn (x := 125) rfl rfl ?_
                      refine z_getR (N := 92) (b := 126) 12 2 rfl f_12_8 rfl J rfl 16002 ⟨rfl, rfl⟩ rfl ?_
                      refine x_sipush (v := 18020) rfl ks_18020 ?_
                      refine x_iconst (v := 2) rfl ki_2 ?_
                      refine x_aloadn (x := 125) rfl rfl ?_
                      refine z_getR (N := 92) (b := 126) 12 2 rfl f_12_8 rfl J rfl 16002 ⟨rfl, rfl⟩ rfl ?_
                      refine x_iconst (v := 1) rfl ki_1 ?_
                      refine z_ialdM (N := 50660) (v := v236) rfl J rfl jk_1 (by omega) qv236 ?_
                      refine z_imul rfl jk_2 rfl (by omega) (fun v238 ev238 => ?_)
                      refine z_iadd rfl jk_18020 rfl (by omega) (fun v239 ev239 => ?_)
                      refine x_iloadn (x := a1) rfl rfl ?_
                      refine z_iast (N := 50660) (l := 18020) (u := 18140) (w := a1.toInt) rfl hD J Sm rfl rfl rfl (by omega) rfl (wr_126_18020 (by omega) (fun q1 q2 q3 q4 => by omega) (fun q1 q2 q3 q4 => by omega)) rfl (fun h w240 J Sm => ?_)
                      rw [vww w240 (show (18020 + (2 * v236.toInt)) = v239.toInt from by omega) (show a1.toInt = a1.toInt from by omega)] at D
                      refine x_aloadn (x := 125) rfl rfl ?_
                      refine z_getR (N := 92) (b := 126) 12 2 rfl f_12_8 rfl J rfl 16002 ⟨rfl, rfl⟩ rfl ?_
                      refine x_sipush (v := 18020) rfl ks_18020 ?_
                      refine x_iconst (v := 2) rfl ki_2 ?_
                      refine x_aloadn (x := 125) rfl rfl ?_
                      refine z_getR (N := 92) (b := 126) 12 2 rfl f_12_8 rfl J rfl 16002 ⟨rfl, rfl⟩ rfl ?_
                      refine x_iconst (v := 1) rfl ki_1 ?_
                      refine z_ialdM (N := 50660) (v := v236) rfl J rfl jk_1 (by omega) (jmo2 w240 rfl jk_1 (by omega) qv236) ?_
                      refine z_imul rfl jk_2 rfl (by omega) (fun v241 ev241 => ?_)
                      refine z_iadd rfl jk_18020 rfl (by omega) (fun v242 ev242 => ?_)
                      refine x_iconst (v := 1) rfl ki_1 ?_
                      refine z_iadd rfl rfl jk_1 (by omega) (fun v243 ev243 => ?_)
                      refine x_iloadn (x := a2) rfl rfl ?_
                      refine z_iast (N := 50660) (l := 18020) (u := 18140) (w := a2.toInt) rfl hD J Sm rfl rfl rfl (by omega) rfl (wr_126_18020 (by omega) (fun q1 q2 q3 q4 => by omega) (fun q1 q2 q3 q4 => by omega)) rfl (fun h w244 J Sm => ?_)
                      rw [vww w244 (show ((18020 + (2 * v236.toInt)) + 1) = v243.toInt from by omega) (show a2.toInt = a2.toInt from by omega)] at D
                      refine x_aloadn (x := 125) rfl rfl ?_
                      refine z_getR (N := 92) (b := 126) 12 2 rfl f_12_8 rfl J rfl 16002 ⟨rfl, rfl⟩ rfl ?_
                      refine x_iconst (v := 1) rfl ki_1 ?_
                      refine x_dup2 rfl rfl rfl ?_
                      refine z_ialdM (N := 50660) (v := v236) rfl J rfl jk_1 (by omega) (jmo2 w244 rfl jk_1 (by omega) (jmo2 w240 rfl jk_1 (by omega) qv236)) ?_
                      refine x_iconst (v := 1) rfl ki_1 ?_
                      refine z_iadd rfl rfl jk_1 (by omega) (fun v245 ev245 => ?_)
                      refine z_iast (N := 50660) (l := 1) (u := 2) (w := v245.toInt) rfl hD J Sm rfl rfl jk_1 (by omega) rfl (wr_126_1 (by omega) (fun q1 q2 q3 q4 => by omega)) rfl (fun h w246 J Sm => ?_)
                      rw [vwn (n := 1) (by decide) w246 (show (v236.toInt + 1) = v245.toInt from by omega)] at D
                      refine x_aloadn (x := 125) rfl rfl ?_
                      refine x_iconst (v := 0) rfl ki_0 ?_
                      refine x_inv (N := m_X12_told) (As := [.int 0]) (b := 125) (st := []) (dx9 := 1) (mc := 0) (ms := 0) (host := "") 12 rfl t_X12_told ⟨Or.inl q_12_197, i_X12_told.1, i_X12_told.2⟩ ⟨by decide, rfl⟩ (congrArg Prod.fst (J.1.1 125 (12, 92) rfl)) rfl (by decide) rfl rfl ⟨by decide, by decide⟩ (sf_X12_told_r125d  hD J rfl  (fun v250 h J S247 X248 X249 => ?_))
                      have ev250 := jfull v250
                      have Sm := jSm_tr rfl Sm S247
                      try rw [jk_0] at X248
                      try rw [jk_0] at X249
                      try rw [X248] at D
                      try rw [X249] at D
                      show jX m_X12_apart 4 0 0 111 [(0, .ref 125), (1, .int a1), (2, .int a2)] [.int v250] _ 0 0 _
                      refine x_iret rfl rfl ?_
                      exact hQ _ _ J Sm ((congrArg Prod.fst D).symm.trans X248) ((congrArg Prod.snd D).symm.trans X249)
                    ·
                      rw [if_pos (by omega)] at D
                      refine x_aloadn (x := 125) rfl rfl ?_
                      refine x_bipush (v := (-5)) rfl kb_m5 ?_
                      refine x_inv (N := m_X12_told) (As := [.int (-5)]) (b := 125) (st := []) (dx9 := 1) (mc := 0) (ms := 0) (host := "") 12 rfl t_X12_told ⟨Or.inl q_12_197, i_X12_told.1, i_X12_told.2⟩ ⟨by decide, rfl⟩ (congrArg Prod.fst (J.1.1 125 (12, 92) rfl)) rfl (by decide) rfl rfl ⟨by decide, by decide⟩ (sf_X12_told_r125d  hD J rfl  (fun v254 h J S251 X252 X253 => ?_))
                      have ev254 := jfull v254
                      have Sm := jSm_tr rfl Sm S251
                      try rw [jk_m5] at X252
                      try rw [jk_m5] at X253
                      try rw [X252] at D
                      try rw [X253] at D
                      show jX m_X12_apart 4 0 0 57 [(0, .ref 125), (1, .int a1), (2, .int a2)] [.int v254] _ 0 0 _
                      refine x_iret rfl rfl ?_
                      exact hQ _ _ J Sm ((congrArg Prod.fst D).symm.trans X252) ((congrArg Prod.snd D).symm.trans X253)
                  ·
                    rw [if_pos (by omega)] at D
                    refine x_aloadn (x := 125) rfl rfl ?_
                    refine x_bipush (v := (-3)) rfl kb_m3 ?_
                    refine x_inv (N := m_X12_told) (As := [.int (-3)]) (b := 125) (st := []) (dx9 := 1) (mc := 0) (ms := 0) (host := "") 12 rfl t_X12_told ⟨Or.inl q_12_197, i_X12_told.1, i_X12_told.2⟩ ⟨by decide, rfl⟩ (congrArg Prod.fst (J.1.1 125 (12, 92) rfl)) rfl (by decide) rfl rfl ⟨by decide, by decide⟩ (sf_X12_told_r125d  hD J rfl  (fun v258 h J S255 X256 X257 => ?_))
                    have ev258 := jfull v258
                    have Sm := jSm_tr rfl Sm S255
                    try rw [jk_m3] at X256
                    try rw [jk_m3] at X257
                    try rw [X256] at D
                    try rw [X257] at D
                    show jX m_X12_apart 4 0 0 39 [(0, .ref 125), (1, .int a1), (2, .int a2)] [.int v258] _ 0 0 _
                    refine x_iret rfl rfl ?_
                    exact hQ _ _ J Sm ((congrArg Prod.fst D).symm.trans X256) ((congrArg Prod.snd D).symm.trans X257)
            ·
              rw [if_pos (by omega)] at D
              refine x_iconst (v := 3) rfl ki_3 ?_
              refine x_goto (tgt := 18) rfl rfl ?_
              refine x_iret rfl rfl ?_
              show jX m_X12_isMention 3 0 0 27 [(0, .ref 125), (1, .int a2)] [.int 3, .int v202] _ 0 0 _
              refine x_icge (tgt := 34) rfl rfl (ti_ge rfl jk_3 (br_f (by omega) ?_))
              refine x_iconst (v := 1) rfl ki_1 ?_
              refine x_goto (tgt := 35) rfl rfl ?_
              refine x_zret rfl rfl (by decide) ?_
              show jX m_X12_apart 4 0 0 18 [(0, .ref 125), (1, .int a1), (2, .int a2)] [.int 1] _ 0 0 _
              refine x_ifne (tgt := 28) rfl rfl (ti_ne jk_1 jk_0 (bn_t (by omega) ?_))
              refine x_iloadn (x := a1) rfl rfl ?_
              refine x_iloadn (x := a2) rfl rfl ?_
              refine x_icne (tgt := 40) rfl rfl (ti_ne rfl rfl ⟨fun c259 => ?_, fun c259 => ?_⟩)
              ·
                rw [if_neg (by omega)] at D
                refine x_aloadn (x := 125) rfl rfl ?_
                refine z_getR (N := 92) (b := 126) 12 2 rfl f_12_8 rfl J rfl 16002 ⟨rfl, rfl⟩ rfl ?_
                refine x_iconst (v := 1) rfl ki_1 ?_
                refine z_iald (N := 50660) rfl J rfl sg_126_1_2_1_0_1 jk_1 (by omega) (fun v260 qv260 ev260 => ?_)
                try rw [vrn (n := 1) (by decide) (jmb_w w1 qv260 rfl)] at D
                refine x_bipush (v := 60) rfl kb_60 ?_
                refine x_icne (tgt := 58) rfl rfl (ti_ne rfl jk_60 ⟨fun c261 => ?_, fun c261 => ?_⟩)
                ·
                  rw [if_neg (by omega)] at D
                  refine x_aloadn (x := 125) rfl rfl ?_
                  refine z_getR (N := 92) (b := 126) 12 2 rfl f_12_8 rfl J rfl 16002 ⟨rfl, rfl⟩ rfl ?_
                  refine x_sipush (v := 18020) rfl ks_18020 ?_
                  refine x_iconst (v := 2) rfl ki_2 ?_
                  refine x_aloadn (x := 125) rfl rfl ?_
                  refine z_getR (N := 92) (b := 126) 12 2 rfl f_12_8 rfl J rfl 16002 ⟨rfl, rfl⟩ rfl ?_
                  refine x_iconst (v := 1) rfl ki_1 ?_
                  refine z_ialdM (N := 50660) (v := v260) rfl J rfl jk_1 (by omega) qv260 ?_
                  refine z_imul rfl jk_2 rfl (by omega) (fun v262 ev262 => ?_)
                  refine z_iadd rfl jk_18020 rfl (by omega) (fun v263 ev263 => ?_)
                  refine x_iloadn (x := a1) rfl rfl ?_
                  refine z_iast (N := 50660) (l := 18020) (u := 18140) (w := a1.toInt) rfl hD J Sm rfl rfl rfl (by omega) rfl (wr_126_18020 (by omega) (fun q1 q2 q3 q4 => by omega) (fun q1 q2 q3 q4 => by omega)) rfl (fun h w264 J Sm => ?_)
                  rw [vww w264 (show (18020 + (2 * v260.toInt)) = v263.toInt from by omega) (show a1.toInt = a1.toInt from by omega)] at D
                  refine x_aloadn (x := 125) rfl rfl ?_
                  refine z_getR (N := 92) (b := 126) 12 2 rfl f_12_8 rfl J rfl 16002 ⟨rfl, rfl⟩ rfl ?_
                  refine x_sipush (v := 18020) rfl ks_18020 ?_
                  refine x_iconst (v := 2) rfl ki_2 ?_
                  refine x_aloadn (x := 125) rfl rfl ?_
                  refine z_getR (N := 92) (b := 126) 12 2 rfl f_12_8 rfl J rfl 16002 ⟨rfl, rfl⟩ rfl ?_
                  refine x_iconst (v := 1) rfl ki_1 ?_
                  refine z_ialdM (N := 50660) (v := v260) rfl J rfl jk_1 (by omega) (jmo2 w264 rfl jk_1 (by omega) qv260) ?_
                  refine z_imul rfl jk_2 rfl (by omega) (fun v265 ev265 => ?_)
                  refine z_iadd rfl jk_18020 rfl (by omega) (fun v266 ev266 => ?_)
                  refine x_iconst (v := 1) rfl ki_1 ?_
                  refine z_iadd rfl rfl jk_1 (by omega) (fun v267 ev267 => ?_)
                  refine x_iloadn (x := a2) rfl rfl ?_
                  refine z_iast (N := 50660) (l := 18020) (u := 18140) (w := a2.toInt) rfl hD J Sm rfl rfl rfl (by omega) rfl (wr_126_18020 (by omega) (fun q1 q2 q3 q4 => by omega) (fun q1 q2 q3 q4 => by omega)) rfl (fun h w268 J Sm => ?_)
                  rw [vww w268 (show ((18020 + (2 * v260.toInt)) + 1) = v267.toInt from by omega) (show a2.toInt = a2.toInt from by omega)] at D
                  refine x_aloadn (x := 125) rfl rfl ?_
                  refine z_getR (N := 92) (b := 126) 12 2 rfl f_12_8 rfl J rfl 16002 ⟨rfl, rfl⟩ rfl ?_
                  refine x_iconst (v := 1) rfl ki_1 ?_
                  refine x_dup2 rfl rfl rfl ?_
                  refine z_ialdM (N := 50660) (v := v260) rfl J rfl jk_1 (by omega) (jmo2 w268 rfl jk_1 (by omega) (jmo2 w264 rfl jk_1 (by omega) qv260)) ?_
                  refine x_iconst (v := 1) rfl ki_1 ?_
                  refine z_iadd rfl rfl jk_1 (by omega) (fun v269 ev269 => ?_)
                  refine z_iast (N := 50660) (l := 1) (u := 2) (w := v269.toInt) rfl hD J Sm rfl rfl jk_1 (by omega) rfl (wr_126_1 (by omega) (fun q1 q2 q3 q4 => by omega)) rfl (fun h w270 J Sm => ?_)
                  rw [vwn (n := 1) (by decide) w270 (show (v260.toInt + 1) = v269.toInt from by omega)] at D
                  refine x_aloadn (x := 125) rfl rfl ?_
                  refine x_iconst (v := 0) rfl ki_0 ?_
                  refine x_inv (N := m_X12_told) (As := [.int 0]) (b := 125) (st := []) (dx9 := 1) (mc := 0) (ms := 0) (host := "") 12 rfl t_X12_told ⟨Or.inl q_12_197, i_X12_told.1, i_X12_told.2⟩ ⟨by decide, rfl⟩ (congrArg Prod.fst (J.1.1 125 (12, 92) rfl)) rfl (by decide) rfl rfl ⟨by decide, by decide⟩ (sf_X12_told_r125d  hD J rfl  (fun v274 h J S271 X272 X273 => ?_))
                  have ev274 := jfull v274
                  have Sm := jSm_tr rfl Sm S271
                  try rw [jk_0] at X272
                  try rw [jk_0] at X273
                  try rw [X272] at D
                  try rw [X273] at D
                  show jX m_X12_apart 4 0 0 111 [(0, .ref 125), (1, .int a1), (2, .int a2)] [.int v274] _ 0 0 _
                  refine x_iret rfl rfl ?_
                  exact hQ _ _ J Sm ((congrArg Prod.fst D).symm.trans X272) ((congrArg Prod.snd D).symm.trans X273)
                ·
                  rw [if_pos (by omega)] at D
                  refine x_aloadn (x := 125) rfl rfl ?_
                  refine x_bipush (v := (-5)) rfl kb_m5 ?_
                  refine x_inv (N := m_X12_told) (As := [.int (-5)]) (b := 125) (st := []) (dx9 := 1) (mc := 0) (ms := 0) (host := "") 12 rfl t_X12_told ⟨Or.inl q_12_197, i_X12_told.1, i_X12_told.2⟩ ⟨by decide, rfl⟩ (congrArg Prod.fst (J.1.1 125 (12, 92) rfl)) rfl (by decide) rfl rfl ⟨by decide, by decide⟩ (sf_X12_told_r125d  hD J rfl  (fun v278 h J S275 X276 X277 => ?_))
                  have ev278 := jfull v278
                  have Sm := jSm_tr rfl Sm S275
                  try rw [jk_m5] at X276
                  try rw [jk_m5] at X277
                  try rw [X276] at D
                  try rw [X277] at D
                  show jX m_X12_apart 4 0 0 57 [(0, .ref 125), (1, .int a1), (2, .int a2)] [.int v278] _ 0 0 _
                  refine x_iret rfl rfl ?_
                  exact hQ _ _ J Sm ((congrArg Prod.fst D).symm.trans X276) ((congrArg Prod.snd D).symm.trans X277)
              ·
                rw [if_pos (by omega)] at D
                refine x_aloadn (x := 125) rfl rfl ?_
                refine x_bipush (v := (-3)) rfl kb_m3 ?_
                refine x_inv (N := m_X12_told) (As := [.int (-3)]) (b := 125) (st := []) (dx9 := 1) (mc := 0) (ms := 0) (host := "") 12 rfl t_X12_told ⟨Or.inl q_12_197, i_X12_told.1, i_X12_told.2⟩ ⟨by decide, rfl⟩ (congrArg Prod.fst (J.1.1 125 (12, 92) rfl)) rfl (by decide) rfl rfl ⟨by decide, by decide⟩ (sf_X12_told_r125d  hD J rfl  (fun v282 h J S279 X280 X281 => ?_))
                have ev282 := jfull v282
                have Sm := jSm_tr rfl Sm S279
                try rw [jk_m3] at X280
                try rw [jk_m3] at X281
                try rw [X280] at D
                try rw [X281] at D
                show jX m_X12_apart 4 0 0 39 [(0, .ref 125), (1, .int a1), (2, .int a2)] [.int v282] _ 0 0 _
                refine x_iret rfl rfl ?_
                exact hQ _ _ J Sm ((congrArg Prod.fst D).symm.trans X280) ((congrArg Prod.snd D).symm.trans X281)
def fp_X12_appeal_r125d : jFp := [(125, 0, 1), (125, 1, 2), (126, 6, 7), (126, 47140, 47260)]
set_option maxRecDepth 100000 in
set_option maxHeartbeats 4000000 in
theorem ct_X12_appeal_r125d_19 {Dy : jH → Prop} {h0 : jH} {Q : Option Value → jH → Prop} {dr : (Int × jW)} (hD : jDk Dy) (hQ : ∀ (v : Int32) hx9, jJ jSgM Dy hx9 → jSm fp_X12_appeal_r125d h0 hx9 → dr.1 = v.toInt → dr.2 = vw hx9 → Q (some (.int v)) hx9) : ∀ (h : jH), jJ jSgM Dy h → jSm fp_X12_appeal_r125d h0 h → d_X12_appeal_r125d_19  (vw h) = dr → jX m_X12_appeal 3 0 0 19 [(0, .ref 125)] [] h 0 0 Q := by
  intro  h    J Sm D
  unfold d_X12_appeal_r125d_19 at D
  refine x_aloadn (x := 125) rfl rfl ?_
  refine x_iconst (v := (-1)) rfl ki_m1 ?_
  refine x_inv (N := m_X12_told) (As := [.int (-1)]) (b := 125) (st := []) (dx9 := 1) (mc := 0) (ms := 0) (host := "") 12 rfl t_X12_told ⟨Or.inl q_12_197, i_X12_told.1, i_X12_told.2⟩ ⟨by decide, rfl⟩ (congrArg Prod.fst (J.1.1 125 (12, 92) rfl)) rfl (by decide) rfl rfl ⟨by decide, by decide⟩ (sf_X12_told_r125d  hD J rfl  (fun v4 h J S1 X2 X3 => ?_))
  have ev4 := jfull v4
  have Sm := jSm_tr rfl Sm S1
  try rw [jk_m1] at X2
  try rw [jk_m1] at X3
  try rw [X2] at D
  try rw [X3] at D
  show jX m_X12_appeal 3 0 0 24 [(0, .ref 125)] [.int v4] _ 0 0 _
  refine x_iret rfl rfl ?_
  exact hQ _ _ J Sm ((congrArg Prod.fst D).symm.trans X2) ((congrArg Prod.snd D).symm.trans X3)
set_option maxRecDepth 100000 in
set_option maxHeartbeats 4000000 in
theorem ct_X12_appeal_r125d_42 {Dy : jH → Prop} {h0 : jH} {Q : Option Value → jH → Prop} {dr : (Int × jW)} (hD : jDk Dy) (hQ : ∀ (v : Int32) hx9, jJ jSgM Dy hx9 → jSm fp_X12_appeal_r125d h0 hx9 → dr.1 = v.toInt → dr.2 = vw hx9 → Q (some (.int v)) hx9) : ∀ (h : jH), jJ jSgM Dy h → jSm fp_X12_appeal_r125d h0 h → d_X12_appeal_r125d_42  (vw h) = dr → jX m_X12_appeal 3 0 0 42 [(0, .ref 125)] [] h 0 0 Q := by
  intro  h    J Sm D
  unfold d_X12_appeal_r125d_42 at D
  refine x_aloadn (x := 125) rfl rfl ?_
  refine x_bipush (v := (-2)) rfl kb_m2 ?_
  refine x_inv (N := m_X12_told) (As := [.int (-2)]) (b := 125) (st := []) (dx9 := 1) (mc := 0) (ms := 0) (host := "") 12 rfl t_X12_told ⟨Or.inl q_12_197, i_X12_told.1, i_X12_told.2⟩ ⟨by decide, rfl⟩ (congrArg Prod.fst (J.1.1 125 (12, 92) rfl)) rfl (by decide) rfl rfl ⟨by decide, by decide⟩ (sf_X12_told_r125d  hD J rfl  (fun v4 h J S1 X2 X3 => ?_))
  have ev4 := jfull v4
  have Sm := jSm_tr rfl Sm S1
  try rw [jk_m2] at X2
  try rw [jk_m2] at X3
  try rw [X2] at D
  try rw [X3] at D
  show jX m_X12_appeal 3 0 0 48 [(0, .ref 125)] [.int v4] _ 0 0 _
  refine x_iret rfl rfl ?_
  exact hQ _ _ J Sm ((congrArg Prod.fst D).symm.trans X2) ((congrArg Prod.snd D).symm.trans X3)
set_option maxRecDepth 100000 in
set_option maxHeartbeats 4000000 in
theorem sf_X12_appeal_r125d {Dy : jH → Prop} {h : jH} {Q : Option Value → jH → Prop} {dr : (Int × jW)} {a1 : Int32} {a2 : Int32} {a3 : Int32} (hD : jDk Dy) (J : jJ jSgM Dy h) (D : d_X12_appeal_r125d a1.toInt a2.toInt a3.toInt (vw h) = dr) (hQ : ∀ (v : Int32) hx9, jJ jSgM Dy hx9 → jSm fp_X12_appeal_r125d h hx9 → dr.1 = v.toInt → dr.2 = vw hx9 → Q (some (.int v)) hx9) : jC m_X12_appeal 3 0 0 [.ref 125, .int a1, .int a2, .int a3] h Q := by
  refine jC.of rfl k_X12_appeal rfl ?_
  have Sm := jSm_rf fp_X12_appeal_r125d h
  have ea1 := jfull a1
  have ea2 := jfull a2
  have ea3 := jfull a3
  show jX m_X12_appeal 3 0 0 0 [(0, .ref 125), (1, .int a1), (2, .int a2), (3, .int a3)] [] _ 0 0 _
  unfold d_X12_appeal_r125d at D
  refine x_aloadn (x := 125) rfl rfl ?_
  refine x_iconst (v := 0) rfl ki_0 ?_
  refine z_putI (N := 92) (w := 0) 12 0 rfl f_12_180 rfl (jfin_no TX12 RX12 92 rfl rfl) hD J Sm rfl rfl jk_0 (pw_125_0 (by omega)) rfl (fun h w1 J Sm => ?_)
  rw [vwf w1 (show 0 = (0 : Int32).toInt from by have := jk_0; omega)] at D
  refine x_iloadn (x := a2) rfl rfl ?_
  refine x_inst (N := m_X12_isDay) (As := [.int a2]) (st := []) (dx9 := 2) (mc := 0) (ms := 0) (host := "") rfl t_X12_isDay ⟨Or.inl q_12_273, s_X12_isDay⟩ rfl (by decide) rfl rfl ⟨by decide, by decide⟩ (zc_X12_isDay (d := 1) rfl (fun v2 ev2 => ?_))
  show jX m_X12_appeal 3 0 0 9 [(0, .ref 125), (1, .int a1), (2, .int a2), (3, .int a3)] [.int v2] _ 0 0 _
  refine x_ifeq (tgt := 19) rfl rfl (ti_eq rfl jk_0 ⟨fun c3 => ?_, fun c3 => ?_⟩)
  ·
    rw [if_neg (by omega)] at D
    exact jX.sub (jsb_c rfl jsb_n) (ct_X12_appeal_r125d_19 hD hQ  h J Sm D)
  ·
    rw [if_pos (by omega)] at D
    refine x_iloadn (x := a3) rfl rfl ?_
    refine x_inst (N := m_X12_isDay) (As := [.int a3]) (st := []) (dx9 := 2) (mc := 0) (ms := 0) (host := "") rfl t_X12_isDay ⟨Or.inl q_12_273, s_X12_isDay⟩ rfl (by decide) rfl rfl ⟨by decide, by decide⟩ (zc_X12_isDay (d := 1) rfl (fun v4 ev4 => ?_))
    show jX m_X12_appeal 3 0 0 16 [(0, .ref 125), (1, .int a1), (2, .int a2), (3, .int a3)] [.int v4] _ 0 0 _
    refine x_ifne (tgt := 25) rfl rfl (ti_ne rfl jk_0 ⟨fun c5 => ?_, fun c5 => ?_⟩)
    ·
      rw [if_pos (by omega)] at D
      refine x_aloadn (x := 125) rfl rfl ?_
      refine x_iloadn (x := a1) rfl rfl ?_
      refine x_inv (N := m_X12_isLine) (As := [.int a1]) (b := 125) (st := []) (dx9 := 2) (mc := 0) (ms := 0) (host := "") 12 rfl t_X12_isLine ⟨Or.inl q_12_293, i_X12_isLine.1, i_X12_isLine.2⟩ ⟨by decide, rfl⟩ (congrArg Prod.fst (J.1.1 125 (12, 92) rfl)) rfl (by decide) rfl rfl ⟨by decide, by decide⟩ (jC.of rfl k_X12_isLine rfl ?_)
      show jX m_X12_isLine 2 0 0 0 [(0, .ref 125), (1, .int a1)] [] _ 0 0 _
      refine x_iloadn (x := a1) rfl rfl ?_
      refine z_i2l rfl rfl (fun v6 ev6 => ?_)
      refine x_lconst (v := 0) rfl kl_0 ?_
      refine x_aloadn (x := 125) rfl rfl ?_
      refine z_getR (N := 92) (b := 126) 12 2 rfl f_12_8 rfl J rfl 16002 ⟨rfl, rfl⟩ rfl ?_
      refine x_iconst (v := 0) rfl ki_0 ?_
      refine z_iald (N := 50660) rfl J rfl sg_126_0_1_1_0_1 jk_0 (by omega) (fun v7 qv7 ev7 => ?_)
      try rw [vrn (n := 0) (by decide) (jmb_w w1 qv7 rfl)] at D
      refine z_i2l rfl rfl (fun v8 ev8 => ?_)
      refine x_lconst (v := 1) rfl kl_1 ?_
      refine z_lsub rfl rfl jkl_1 (by omega) (fun v9 ev9 => ?_)
      refine x_inst (N := m_X12_in) (As := [.long v6, .long 0, .long v9]) (st := []) (dx9 := 1) (mc := 0) (ms := 0) (host := "") rfl t_X12_in ⟨Or.inl q_12_188, s_X12_in⟩ rfl (by decide) rfl rfl ⟨by decide, by decide⟩ (zc_X12_in rfl jkl_0 rfl (fun v10 ev10 => ?_))
      show jX m_X12_isLine 2 0 0 15 [(0, .ref 125), (1, .int a1)] [.int v10] _ 0 0 _
      refine x_zret rfl rfl (jz01 (by omega)) ?_
      show jX m_X12_appeal 3 0 0 30 [(0, .ref 125), (1, .int a1), (2, .int a2), (3, .int a3)] [.int v10] _ 0 0 _
      refine x_ifeq (tgt := 42) rfl rfl (ti_eq rfl jk_0 ⟨fun c11 => ?_, fun c11 => ?_⟩)
      ·
        rw [if_neg (by omega)] at D
        exact jX.sub (jsb_c rfl jsb_n) (ct_X12_appeal_r125d_42 hD hQ  h J Sm D)
      ·
        rw [if_pos (by omega)] at D
        refine x_aloadn (x := 125) rfl rfl ?_
        refine x_iloadn (x := a1) rfl rfl ?_
        refine x_inv (N := m_X12_bookOf) (As := [.int a1]) (b := 125) (st := []) (dx9 := 2) (mc := 0) (ms := 0) (host := "") 12 rfl t_X12_bookOf ⟨Or.inl q_12_299, i_X12_bookOf.1, i_X12_bookOf.2⟩ ⟨by decide, rfl⟩ (congrArg Prod.fst (J.1.1 125 (12, 92) rfl)) rfl (by decide) rfl rfl ⟨by decide, by decide⟩ (jC.of rfl k_X12_bookOf rfl ?_)
        show jX m_X12_bookOf 2 0 0 0 [(0, .ref 125), (1, .int a1)] [] _ 0 0 _
        refine x_aloadn (x := 125) rfl rfl ?_
        refine z_getR (N := 92) (b := 126) 12 2 rfl f_12_8 rfl J rfl 16002 ⟨rfl, rfl⟩ rfl ?_
        refine x_aloadn (x := 125) rfl rfl ?_
        refine x_iloadn (x := a1) rfl rfl ?_
        refine x_inv (N := m_X12_at) (As := [.int a1]) (b := 125) (st := [.ref 126]) (dx9 := 1) (mc := 0) (ms := 0) (host := "") 12 rfl t_X12_at ⟨Or.inl q_12_254, i_X12_at.1, i_X12_at.2⟩ ⟨by decide, rfl⟩ (congrArg Prod.fst (J.1.1 125 (12, 92) rfl)) rfl (by decide) rfl rfl ⟨by decide, by decide⟩ (jC.of rfl k_X12_at rfl ?_)
        show jX m_X12_at 1 0 0 0 [(0, .ref 125), (1, .int a1)] [] _ 0 0 _
        refine x_bipush (v := 20) rfl kb_20 ?_
        refine x_bipush (v := 90) rfl kb_90 ?_
        refine x_iloadn (x := a1) rfl rfl ?_
        refine z_imul rfl jk_90 rfl (by omega) (fun v12 ev12 => ?_)
        refine z_iadd rfl jk_20 rfl (by omega) (fun v13 ev13 => ?_)
        refine x_iret rfl rfl ?_
        show jX m_X12_bookOf 2 0 0 9 [(0, .ref 125), (1, .int a1)] [.int v13, .ref 126] _ 0 0 _
        refine z_iald (N := 50660) rfl J rfl sg_126_20_18020_90_0_1 rfl (by omega) (fun v14 qv14 ev14 => ?_)
        try rw [vrd (jmb_w w1 qv14 rfl) (show (20 + (90 * a1.toInt)) = v13.toInt from by omega)] at D
        refine x_iret rfl rfl ?_
        show jX m_X12_appeal 3 0 0 38 [(0, .ref 125), (1, .int a1), (2, .int a2), (3, .int a3)] [.int v14] _ 0 0 _
        refine x_iconst (v := 5) rfl ki_5 ?_
        refine x_iceq (tgt := 49) rfl rfl (ti_eq rfl jk_5 ⟨fun c15 => ?_, fun c15 => ?_⟩)
        ·
          rw [if_pos (by omega)] at D
          refine x_iloadn (x := a2) rfl rfl ?_
          refine x_aloadn (x := 125) rfl rfl ?_
          refine x_iloadn (x := a1) rfl rfl ?_
          refine x_inv (N := m_X12_dayOf) (As := [.int a1]) (b := 125) (st := [.int a2]) (dx9 := 2) (mc := 0) (ms := 0) (host := "") 12 rfl t_X12_dayOf ⟨Or.inl q_12_335, i_X12_dayOf.1, i_X12_dayOf.2⟩ ⟨by decide, rfl⟩ (congrArg Prod.fst (J.1.1 125 (12, 92) rfl)) rfl (by decide) rfl rfl ⟨by decide, by decide⟩ (jC.of rfl k_X12_dayOf rfl ?_)
          show jX m_X12_dayOf 2 0 0 0 [(0, .ref 125), (1, .int a1)] [] _ 0 0 _
          refine x_aloadn (x := 125) rfl rfl ?_
          refine z_getR (N := 92) (b := 126) 12 2 rfl f_12_8 rfl J rfl 16002 ⟨rfl, rfl⟩ rfl ?_
          refine x_aloadn (x := 125) rfl rfl ?_
          refine x_iloadn (x := a1) rfl rfl ?_
          refine x_inv (N := m_X12_at) (As := [.int a1]) (b := 125) (st := [.ref 126]) (dx9 := 1) (mc := 0) (ms := 0) (host := "") 12 rfl t_X12_at ⟨Or.inl q_12_254, i_X12_at.1, i_X12_at.2⟩ ⟨by decide, rfl⟩ (congrArg Prod.fst (J.1.1 125 (12, 92) rfl)) rfl (by decide) rfl rfl ⟨by decide, by decide⟩ (jC.of rfl k_X12_at rfl ?_)
          show jX m_X12_at 1 0 0 0 [(0, .ref 125), (1, .int a1)] [] _ 0 0 _
          refine x_bipush (v := 20) rfl kb_20 ?_
          refine x_bipush (v := 90) rfl kb_90 ?_
          refine x_iloadn (x := a1) rfl rfl ?_
          refine z_imul rfl jk_90 rfl (by omega) (fun v16 ev16 => ?_)
          refine z_iadd rfl jk_20 rfl (by omega) (fun v17 ev17 => ?_)
          refine x_iret rfl rfl ?_
          show jX m_X12_dayOf 2 0 0 9 [(0, .ref 125), (1, .int a1)] [.int v17, .ref 126] _ 0 0 _
          refine x_iconst (v := 2) rfl ki_2 ?_
          refine z_iadd rfl rfl jk_2 (by omega) (fun v18 ev18 => ?_)
          refine z_iald (N := 50660) rfl J rfl sg_126_20_18020_90_2_3 rfl (by omega) (fun v19 qv19 ev19 => ?_)
          try rw [vrd (jmb_w w1 qv19 rfl) (show ((20 + (90 * a1.toInt)) + 2) = v18.toInt from by omega)] at D
          refine x_iret rfl rfl ?_
          show jX m_X12_appeal 3 0 0 55 [(0, .ref 125), (1, .int a1), (2, .int a2), (3, .int a3)] [.int v19, .int a2] _ 0 0 _
          refine x_icge (tgt := 64) rfl rfl (ti_ge rfl rfl ⟨fun c20 => ?_, fun c20 => ?_⟩)
          ·
            rw [if_pos (by omega)] at D
            refine x_aloadn (x := 125) rfl rfl ?_
            refine z_getR (N := 92) (b := 126) 12 2 rfl f_12_8 rfl J rfl 16002 ⟨rfl, rfl⟩ rfl ?_
            refine x_bipush (v := 6) rfl kb_6 ?_
            refine z_iald (N := 50660) rfl J rfl sg_126_6_7_1_0_1 jk_6 (by omega) (fun v21 qv21 ev21 => ?_)
            try rw [vrn (n := 6) (by decide) (jmb_w w1 qv21 rfl)] at D
            refine x_bipush (v := 40) rfl kb_40 ?_
            refine x_icne (tgt := 83) rfl rfl (ti_ne rfl jk_40 ⟨fun c22 => ?_, fun c22 => ?_⟩)
            ·
              rw [if_neg (by omega)] at D
              refine x_ldcw (v := 47140) rfl z_12_795 ?_
              refine x_iconst (v := 3) rfl ki_3 ?_
              refine x_aloadn (x := 125) rfl rfl ?_
              refine z_getR (N := 92) (b := 126) 12 2 rfl f_12_8 rfl J rfl 16002 ⟨rfl, rfl⟩ rfl ?_
              refine x_bipush (v := 6) rfl kb_6 ?_
              refine z_ialdM (N := 50660) (v := v21) rfl J rfl jk_6 (by omega) qv21 ?_
              refine z_imul rfl jk_3 rfl (by omega) (fun v23 ev23 => ?_)
              refine z_iadd rfl jk_47140 rfl (by omega) (fun v24 ev24 => ?_)
              refine x_istore (lsx9 := [(4, .int v24), (0, .ref 125), (1, .int a1), (2, .int a2), (3, .int a3)]) rfl rfl rfl ?_
              refine x_aloadn (x := 125) rfl rfl ?_
              refine z_getR (N := 92) (b := 126) 12 2 rfl f_12_8 rfl J rfl 16002 ⟨rfl, rfl⟩ rfl ?_
              refine x_iload (x := v24) rfl rfl ?_
              refine x_iloadn (x := a1) rfl rfl ?_
              refine z_iast (N := 50660) (l := 47140) (u := 47260) (w := a1.toInt) rfl hD J Sm rfl rfl rfl (by omega) rfl (wr_126_47140 (by omega) (fun q1 q2 q3 q4 => by omega) (fun q1 q2 q3 q4 => by omega) (fun q1 q2 q3 q4 => by omega)) rfl (fun h w25 J Sm => ?_)
              rw [vww w25 (show (47140 + (3 * v21.toInt)) = v24.toInt from by omega) (show a1.toInt = a1.toInt from by omega)] at D
              refine x_aloadn (x := 125) rfl rfl ?_
              refine z_getR (N := 92) (b := 126) 12 2 rfl f_12_8 rfl J rfl 16002 ⟨rfl, rfl⟩ rfl ?_
              refine x_iload (x := v24) rfl rfl ?_
              refine x_iconst (v := 1) rfl ki_1 ?_
              refine z_iadd rfl rfl jk_1 (by omega) (fun v26 ev26 => ?_)
              refine x_iloadn (x := a2) rfl rfl ?_
              refine z_iast (N := 50660) (l := 47140) (u := 47260) (w := a2.toInt) rfl hD J Sm rfl rfl rfl (by omega) rfl (wr_126_47140 (by omega) (fun q1 q2 q3 q4 => by omega) (fun q1 q2 q3 q4 => by omega) (fun q1 q2 q3 q4 => by omega)) rfl (fun h w27 J Sm => ?_)
              rw [vww w27 (show ((47140 + (3 * v21.toInt)) + 1) = v26.toInt from by omega) (show a2.toInt = a2.toInt from by omega)] at D
              refine x_aloadn (x := 125) rfl rfl ?_
              refine z_getR (N := 92) (b := 126) 12 2 rfl f_12_8 rfl J rfl 16002 ⟨rfl, rfl⟩ rfl ?_
              refine x_iload (x := v24) rfl rfl ?_
              refine x_iconst (v := 2) rfl ki_2 ?_
              refine z_iadd rfl rfl jk_2 (by omega) (fun v28 ev28 => ?_)
              refine x_iloadn (x := a3) rfl rfl ?_
              refine z_iast (N := 50660) (l := 47140) (u := 47260) (w := a3.toInt) rfl hD J Sm rfl rfl rfl (by omega) rfl (wr_126_47140 (by omega) (fun q1 q2 q3 q4 => by omega) (fun q1 q2 q3 q4 => by omega) (fun q1 q2 q3 q4 => by omega)) rfl (fun h w29 J Sm => ?_)
              rw [vww w29 (show ((47140 + (3 * v21.toInt)) + 2) = v28.toInt from by omega) (show a3.toInt = a3.toInt from by omega)] at D
              refine x_aloadn (x := 125) rfl rfl ?_
              refine z_getR (N := 92) (b := 126) 12 2 rfl f_12_8 rfl J rfl 16002 ⟨rfl, rfl⟩ rfl ?_
              refine x_bipush (v := 6) rfl kb_6 ?_
              refine x_dup2 rfl rfl rfl ?_
              refine z_ialdM (N := 50660) (v := v21) rfl J rfl jk_6 (by omega) (jmo2 w29 rfl jk_6 (by omega) (jmo2 w27 rfl jk_6 (by omega) (jmo2 w25 rfl jk_6 (by omega) qv21))) ?_
              refine x_iconst (v := 1) rfl ki_1 ?_
              refine z_iadd rfl rfl jk_1 (by omega) (fun v30 ev30 => ?_)
              refine z_iast (N := 50660) (l := 6) (u := 7) (w := v30.toInt) rfl hD J Sm rfl rfl jk_6 (by omega) rfl (wr_126_6 (by omega) (fun q1 q2 q3 q4 => by omega)) rfl (fun h w31 J Sm => ?_)
              rw [vwn (n := 6) (by decide) w31 (show (v21.toInt + 1) = v30.toInt from by omega)] at D
              refine x_aloadn (x := 125) rfl rfl ?_
              refine x_aloadn (x := 125) rfl rfl ?_
              refine z_getR (N := 92) (b := 126) 12 2 rfl f_12_8 rfl J rfl 16002 ⟨rfl, rfl⟩ rfl ?_
              refine x_bipush (v := 6) rfl kb_6 ?_
              refine z_ialdM (N := 50660) (v := v30) rfl J rfl jk_6 (by omega) (jmw w31) ?_
              try rw [show (v21.toInt + 1) = v30.toInt from by omega] at D
              refine x_inv (N := m_X12_told) (As := [.int v30]) (b := 125) (st := []) (dx9 := 1) (mc := 0) (ms := 0) (host := "") 12 rfl t_X12_told ⟨Or.inl q_12_197, i_X12_told.1, i_X12_told.2⟩ ⟨by decide, rfl⟩ (congrArg Prod.fst (J.1.1 125 (12, 92) rfl)) rfl (by decide) rfl rfl ⟨by decide, by decide⟩ (sf_X12_told_r125d  hD J rfl  (fun v35 h J S32 X33 X34 => ?_))
              have ev35 := jfull v35
              have Sm := jSm_tr rfl Sm S32
              try rw [X33] at D
              try rw [X34] at D
              show jX m_X12_appeal 3 0 0 148 [(4, .int v24), (0, .ref 125), (1, .int a1), (2, .int a2), (3, .int a3)] [.int v35] _ 0 0 _
              refine x_iret rfl rfl ?_
              exact hQ _ _ J Sm ((congrArg Prod.fst D).symm.trans X33) ((congrArg Prod.snd D).symm.trans X34)
            ·
              rw [if_pos (by omega)] at D
              refine x_aloadn (x := 125) rfl rfl ?_
              refine x_bipush (v := (-5)) rfl kb_m5 ?_
              refine x_inv (N := m_X12_told) (As := [.int (-5)]) (b := 125) (st := []) (dx9 := 1) (mc := 0) (ms := 0) (host := "") 12 rfl t_X12_told ⟨Or.inl q_12_197, i_X12_told.1, i_X12_told.2⟩ ⟨by decide, rfl⟩ (congrArg Prod.fst (J.1.1 125 (12, 92) rfl)) rfl (by decide) rfl rfl ⟨by decide, by decide⟩ (sf_X12_told_r125d  hD J rfl  (fun v39 h J S36 X37 X38 => ?_))
              have ev39 := jfull v39
              have Sm := jSm_tr rfl Sm S36
              try rw [jk_m5] at X37
              try rw [jk_m5] at X38
              try rw [X37] at D
              try rw [X38] at D
              show jX m_X12_appeal 3 0 0 82 [(0, .ref 125), (1, .int a1), (2, .int a2), (3, .int a3)] [.int v39] _ 0 0 _
              refine x_iret rfl rfl ?_
              exact hQ _ _ J Sm ((congrArg Prod.fst D).symm.trans X37) ((congrArg Prod.snd D).symm.trans X38)
          ·
            rw [if_neg (by omega)] at D
            refine x_aloadn (x := 125) rfl rfl ?_
            refine x_iconst (v := (-1)) rfl ki_m1 ?_
            refine x_inv (N := m_X12_told) (As := [.int (-1)]) (b := 125) (st := []) (dx9 := 1) (mc := 0) (ms := 0) (host := "") 12 rfl t_X12_told ⟨Or.inl q_12_197, i_X12_told.1, i_X12_told.2⟩ ⟨by decide, rfl⟩ (congrArg Prod.fst (J.1.1 125 (12, 92) rfl)) rfl (by decide) rfl rfl ⟨by decide, by decide⟩ (sf_X12_told_r125d  hD J rfl  (fun v43 h J S40 X41 X42 => ?_))
            have ev43 := jfull v43
            have Sm := jSm_tr rfl Sm S40
            try rw [jk_m1] at X41
            try rw [jk_m1] at X42
            try rw [X41] at D
            try rw [X42] at D
            show jX m_X12_appeal 3 0 0 63 [(0, .ref 125), (1, .int a1), (2, .int a2), (3, .int a3)] [.int v43] _ 0 0 _
            refine x_iret rfl rfl ?_
            exact hQ _ _ J Sm ((congrArg Prod.fst D).symm.trans X41) ((congrArg Prod.snd D).symm.trans X42)
        ·
          rw [if_neg (by omega)] at D
          exact jX.sub (jsb_c rfl jsb_n) (ct_X12_appeal_r125d_42 hD hQ  h J Sm D)
    ·
      rw [if_neg (by omega)] at D
      exact jX.sub (jsb_c rfl jsb_n) (ct_X12_appeal_r125d_19 hD hQ  h J Sm D)
def fp_X12_areKin_r125d : jFp := [(137, 0, 80), (138, 0, 2)]
set_option maxRecDepth 100000 in
set_option maxHeartbeats 4000000 in
theorem ct_X12_areKin_r125d_300158 {Dy : jH → Prop} {h0 : jH} {Q : Option Value → jH → Prop} {dr : (Int × jW)} {K5 : Int → Int → Int → Int → jW → (Int × jW)} {K23 : Int → Int → Int → Int → Int → jW → (Int × jW)} {R5 : Int} {R23 : Int} (hD : jDk Dy) (hQ : ∀ (v : Int32) hx9, 0 ≤ v.toInt ∧ v.toInt ≤ 1 → jJ jSgM Dy hx9 → jSm fp_X12_areKin_r125d h0 hx9 → dr.1 = v.toInt → dr.2 = vw hx9 → Q (some (.int v)) hx9) (k5 : ∀ (l1 : Int32) (l2 : Int32) (l3 : Int32) (l4 : Int32) (h : jH), 3 - l4.toInt < R5 → 0 ≤ l1.toInt ∧ l1.toInt ≤ 599 → 0 ≤ l2.toInt ∧ l2.toInt ≤ 599 → 0 ≤ l3.toInt ∧ l3.toInt ≤ 1 → 0 ≤ l4.toInt ∧ l4.toInt ≤ 3 → jJ jSgM Dy h → jSm fp_X12_areKin_r125d h0 h → K5 l1.toInt l2.toInt l3.toInt l4.toInt (vw h) = dr → jX m_X12_areKin 7 0 0 5 [(0, .ref 125), (1, .int l1), (2, .int l2), (3, .int l3), (4, .int l4)] [] h 0 0 Q) (k23 : ∀ (l1 : Int32) (l2 : Int32) (l3 : Int32) (l4 : Int32) (l5 : Int32) (h : jH), 3 - l5.toInt < R23 → 0 ≤ l1.toInt ∧ l1.toInt ≤ 599 → 0 ≤ l2.toInt ∧ l2.toInt ≤ 599 → 0 ≤ l3.toInt ∧ l3.toInt ≤ 1 → 0 ≤ l4.toInt ∧ l4.toInt ≤ 2 → 0 ≤ l5.toInt ∧ l5.toInt ≤ 3 → 3 - l4.toInt ≤ R5 → jJ jSgM Dy h → jSm fp_X12_areKin_r125d h0 h → K23 l1.toInt l2.toInt l3.toInt l4.toInt l5.toInt (vw h) = dr → jX m_X12_areKin 7 0 0 23 [(0, .ref 125), (1, .int l1), (2, .int l2), (3, .int l3), (4, .int l4), (5, .int l5)] [] h 0 0 Q) : ∀ (l1 : Int32) (l2 : Int32) (l4 : Int32) (l5 : Int32) (h : jH), 0 ≤ l1.toInt ∧ l1.toInt ≤ 599 → 0 ≤ l2.toInt ∧ l2.toInt ≤ 599 → 0 ≤ l4.toInt ∧ l4.toInt ≤ 2 → 0 ≤ l5.toInt ∧ l5.toInt ≤ 2 → 3 - l4.toInt ≤ R5 → 3 - l5.toInt ≤ R23 → jJ jSgM Dy h → jSm fp_X12_areKin_r125d h0 h → d_X12_areKin_r125d_300158 K5 K23  l1.toInt l2.toInt l4.toInt l5.toInt (vw h) = dr → jX m_X12_areKin 7 0 0 158 [(0, .ref 125), (1, .int l1), (2, .int l2), (4, .int l4), (5, .int l5)] [.int 1] h 0 0 Q := by
  intro l1 l2 l4 l5 h y0 y1 y2 y3  m5 m23 J Sm D
  unfold d_X12_areKin_r125d_300158 at D
  refine x_istoren (lsx9 := [(3, .int 1), (0, .ref 125), (1, .int l1), (2, .int l2), (4, .int l4), (5, .int l5)]) rfl rfl rfl ?_
  refine z_iinc (x := l5) (lsx9 := fun v1 => [(5, .int v1), (3, .int 1), (0, .ref 125), (1, .int l1), (2, .int l2), (4, .int l4)]) rfl rfl rfl jko_1 (by omega) rfl (fun _ => rfl) (fun v1 ev1 => ?_)
  refine x_goto (tgt := 23) rfl rfl ?_
  try rw [show (l5.toInt + 1) = v1.toInt from by omega] at D
  exact jX.sub (jsb_c rfl (jsb_c rfl (jsb_c rfl (jsb_c rfl (jsb_c rfl (jsb_c rfl jsb_n)))))) (k23 l1 l2 1 l4 v1 h (by omega) (jr_of rfl (by omega)) (jr_of rfl (by omega)) (jr_of jk_1 (by omega)) (jr_of rfl (by omega)) (jr_of rfl (by omega)) (by omega) J Sm (by rw [jk_1]; exact D))
set_option maxRecDepth 100000 in
set_option maxHeartbeats 4000000 in
theorem ct_X12_areKin_r125d_200158 {Dy : jH → Prop} {h0 : jH} {Q : Option Value → jH → Prop} {dr : (Int × jW)} {K5 : Int → Int → Int → Int → jW → (Int × jW)} {K23 : Int → Int → Int → Int → Int → jW → (Int × jW)} {R5 : Int} {R23 : Int} (hD : jDk Dy) (hQ : ∀ (v : Int32) hx9, 0 ≤ v.toInt ∧ v.toInt ≤ 1 → jJ jSgM Dy hx9 → jSm fp_X12_areKin_r125d h0 hx9 → dr.1 = v.toInt → dr.2 = vw hx9 → Q (some (.int v)) hx9) (k5 : ∀ (l1 : Int32) (l2 : Int32) (l3 : Int32) (l4 : Int32) (h : jH), 3 - l4.toInt < R5 → 0 ≤ l1.toInt ∧ l1.toInt ≤ 599 → 0 ≤ l2.toInt ∧ l2.toInt ≤ 599 → 0 ≤ l3.toInt ∧ l3.toInt ≤ 1 → 0 ≤ l4.toInt ∧ l4.toInt ≤ 3 → jJ jSgM Dy h → jSm fp_X12_areKin_r125d h0 h → K5 l1.toInt l2.toInt l3.toInt l4.toInt (vw h) = dr → jX m_X12_areKin 7 0 0 5 [(0, .ref 125), (1, .int l1), (2, .int l2), (3, .int l3), (4, .int l4)] [] h 0 0 Q) (k23 : ∀ (l1 : Int32) (l2 : Int32) (l3 : Int32) (l4 : Int32) (l5 : Int32) (h : jH), 3 - l5.toInt < R23 → 0 ≤ l1.toInt ∧ l1.toInt ≤ 599 → 0 ≤ l2.toInt ∧ l2.toInt ≤ 599 → 0 ≤ l3.toInt ∧ l3.toInt ≤ 1 → 0 ≤ l4.toInt ∧ l4.toInt ≤ 2 → 0 ≤ l5.toInt ∧ l5.toInt ≤ 3 → 3 - l4.toInt ≤ R5 → jJ jSgM Dy h → jSm fp_X12_areKin_r125d h0 h → K23 l1.toInt l2.toInt l3.toInt l4.toInt l5.toInt (vw h) = dr → jX m_X12_areKin 7 0 0 23 [(0, .ref 125), (1, .int l1), (2, .int l2), (3, .int l3), (4, .int l4), (5, .int l5)] [] h 0 0 Q) : ∀ (l1 : Int32) (l2 : Int32) (l4 : Int32) (l5 : Int32) (h : jH), 0 ≤ l1.toInt ∧ l1.toInt ≤ 599 → 0 ≤ l2.toInt ∧ l2.toInt ≤ 599 → 0 ≤ l4.toInt ∧ l4.toInt ≤ 2 → 0 ≤ l5.toInt ∧ l5.toInt ≤ 2 → 3 - l4.toInt ≤ R5 → 3 - l5.toInt ≤ R23 → jJ jSgM Dy h → jSm fp_X12_areKin_r125d h0 h → d_X12_areKin_r125d_200158 K5 K23  l1.toInt l2.toInt l4.toInt l5.toInt (vw h) = dr → jX m_X12_areKin 7 0 0 158 [(0, .ref 125), (1, .int l1), (2, .int l2), (4, .int l4), (5, .int l5)] [.int 0] h 0 0 Q := by
  intro l1 l2 l4 l5 h y0 y1 y2 y3  m5 m23 J Sm D
  unfold d_X12_areKin_r125d_200158 at D
  refine x_istoren (lsx9 := [(3, .int 0), (0, .ref 125), (1, .int l1), (2, .int l2), (4, .int l4), (5, .int l5)]) rfl rfl rfl ?_
  refine z_iinc (x := l5) (lsx9 := fun v1 => [(5, .int v1), (3, .int 0), (0, .ref 125), (1, .int l1), (2, .int l2), (4, .int l4)]) rfl rfl rfl jko_1 (by omega) rfl (fun _ => rfl) (fun v1 ev1 => ?_)
  refine x_goto (tgt := 23) rfl rfl ?_
  try rw [show (l5.toInt + 1) = v1.toInt from by omega] at D
  exact jX.sub (jsb_c rfl (jsb_c rfl (jsb_c rfl (jsb_c rfl (jsb_c rfl (jsb_c rfl jsb_n)))))) (k23 l1 l2 0 l4 v1 h (by omega) (jr_of rfl (by omega)) (jr_of rfl (by omega)) (jr_of jk_0 (by omega)) (jr_of rfl (by omega)) (jr_of rfl (by omega)) (by omega) J Sm (by rw [jk_0]; exact D))
set_option maxRecDepth 100000 in
set_option maxHeartbeats 4000000 in
theorem ct_X12_areKin_r125d_153 {Dy : jH → Prop} {h0 : jH} {Q : Option Value → jH → Prop} {dr : (Int × jW)} {K5 : Int → Int → Int → Int → jW → (Int × jW)} {K23 : Int → Int → Int → Int → Int → jW → (Int × jW)} {R5 : Int} {R23 : Int} (hD : jDk Dy) (hQ : ∀ (v : Int32) hx9, 0 ≤ v.toInt ∧ v.toInt ≤ 1 → jJ jSgM Dy hx9 → jSm fp_X12_areKin_r125d h0 hx9 → dr.1 = v.toInt → dr.2 = vw hx9 → Q (some (.int v)) hx9) (k5 : ∀ (l1 : Int32) (l2 : Int32) (l3 : Int32) (l4 : Int32) (h : jH), 3 - l4.toInt < R5 → 0 ≤ l1.toInt ∧ l1.toInt ≤ 599 → 0 ≤ l2.toInt ∧ l2.toInt ≤ 599 → 0 ≤ l3.toInt ∧ l3.toInt ≤ 1 → 0 ≤ l4.toInt ∧ l4.toInt ≤ 3 → jJ jSgM Dy h → jSm fp_X12_areKin_r125d h0 h → K5 l1.toInt l2.toInt l3.toInt l4.toInt (vw h) = dr → jX m_X12_areKin 7 0 0 5 [(0, .ref 125), (1, .int l1), (2, .int l2), (3, .int l3), (4, .int l4)] [] h 0 0 Q) (k23 : ∀ (l1 : Int32) (l2 : Int32) (l3 : Int32) (l4 : Int32) (l5 : Int32) (h : jH), 3 - l5.toInt < R23 → 0 ≤ l1.toInt ∧ l1.toInt ≤ 599 → 0 ≤ l2.toInt ∧ l2.toInt ≤ 599 → 0 ≤ l3.toInt ∧ l3.toInt ≤ 1 → 0 ≤ l4.toInt ∧ l4.toInt ≤ 2 → 0 ≤ l5.toInt ∧ l5.toInt ≤ 3 → 3 - l4.toInt ≤ R5 → jJ jSgM Dy h → jSm fp_X12_areKin_r125d h0 h → K23 l1.toInt l2.toInt l3.toInt l4.toInt l5.toInt (vw h) = dr → jX m_X12_areKin 7 0 0 23 [(0, .ref 125), (1, .int l1), (2, .int l2), (3, .int l3), (4, .int l4), (5, .int l5)] [] h 0 0 Q) : ∀ (l1 : Int32) (l2 : Int32) (l4 : Int32) (l5 : Int32) (h : jH), 0 ≤ l1.toInt ∧ l1.toInt ≤ 599 → 0 ≤ l2.toInt ∧ l2.toInt ≤ 599 → 0 ≤ l4.toInt ∧ l4.toInt ≤ 2 → 0 ≤ l5.toInt ∧ l5.toInt ≤ 2 → 3 - l4.toInt ≤ R5 → 3 - l5.toInt ≤ R23 → jJ jSgM Dy h → jSm fp_X12_areKin_r125d h0 h → d_X12_areKin_r125d_153 K5 K23  l1.toInt l2.toInt l4.toInt l5.toInt (vw h) = dr → jX m_X12_areKin 7 0 0 153 [(0, .ref 125), (1, .int l1), (2, .int l2), (4, .int l4), (5, .int l5)] [] h 0 0 Q := by
  intro l1 l2 l4 l5 h y0 y1 y2 y3  m5 m23 J Sm D
  unfold d_X12_areKin_r125d_153 at D
  refine x_iconst (v := 1) rfl ki_1 ?_
  refine x_goto (tgt := 158) rfl rfl ?_
  exact jX.sub (jsb_c rfl (jsb_c rfl (jsb_c rfl (jsb_c rfl (jsb_c rfl jsb_n))))) (ct_X12_areKin_r125d_300158 hD hQ k5 k23 l1 l2 l4 l5 h (jr_of rfl (by omega)) (jr_of rfl (by omega)) (jr_of rfl (by omega)) (jr_of rfl (by omega)) (by omega) (by omega) J Sm D)
set_option maxRecDepth 100000 in
set_option maxHeartbeats 4000000 in
theorem ct_X12_areKin_r125d_157 {Dy : jH → Prop} {h0 : jH} {Q : Option Value → jH → Prop} {dr : (Int × jW)} {K5 : Int → Int → Int → Int → jW → (Int × jW)} {K23 : Int → Int → Int → Int → Int → jW → (Int × jW)} {R5 : Int} {R23 : Int} (hD : jDk Dy) (hQ : ∀ (v : Int32) hx9, 0 ≤ v.toInt ∧ v.toInt ≤ 1 → jJ jSgM Dy hx9 → jSm fp_X12_areKin_r125d h0 hx9 → dr.1 = v.toInt → dr.2 = vw hx9 → Q (some (.int v)) hx9) (k5 : ∀ (l1 : Int32) (l2 : Int32) (l3 : Int32) (l4 : Int32) (h : jH), 3 - l4.toInt < R5 → 0 ≤ l1.toInt ∧ l1.toInt ≤ 599 → 0 ≤ l2.toInt ∧ l2.toInt ≤ 599 → 0 ≤ l3.toInt ∧ l3.toInt ≤ 1 → 0 ≤ l4.toInt ∧ l4.toInt ≤ 3 → jJ jSgM Dy h → jSm fp_X12_areKin_r125d h0 h → K5 l1.toInt l2.toInt l3.toInt l4.toInt (vw h) = dr → jX m_X12_areKin 7 0 0 5 [(0, .ref 125), (1, .int l1), (2, .int l2), (3, .int l3), (4, .int l4)] [] h 0 0 Q) (k23 : ∀ (l1 : Int32) (l2 : Int32) (l3 : Int32) (l4 : Int32) (l5 : Int32) (h : jH), 3 - l5.toInt < R23 → 0 ≤ l1.toInt ∧ l1.toInt ≤ 599 → 0 ≤ l2.toInt ∧ l2.toInt ≤ 599 → 0 ≤ l3.toInt ∧ l3.toInt ≤ 1 → 0 ≤ l4.toInt ∧ l4.toInt ≤ 2 → 0 ≤ l5.toInt ∧ l5.toInt ≤ 3 → 3 - l4.toInt ≤ R5 → jJ jSgM Dy h → jSm fp_X12_areKin_r125d h0 h → K23 l1.toInt l2.toInt l3.toInt l4.toInt l5.toInt (vw h) = dr → jX m_X12_areKin 7 0 0 23 [(0, .ref 125), (1, .int l1), (2, .int l2), (3, .int l3), (4, .int l4), (5, .int l5)] [] h 0 0 Q) : ∀ (l1 : Int32) (l2 : Int32) (l4 : Int32) (l5 : Int32) (h : jH), 0 ≤ l1.toInt ∧ l1.toInt ≤ 599 → 0 ≤ l2.toInt ∧ l2.toInt ≤ 599 → 0 ≤ l4.toInt ∧ l4.toInt ≤ 2 → 0 ≤ l5.toInt ∧ l5.toInt ≤ 2 → 3 - l4.toInt ≤ R5 → 3 - l5.toInt ≤ R23 → jJ jSgM Dy h → jSm fp_X12_areKin_r125d h0 h → d_X12_areKin_r125d_157 K5 K23  l1.toInt l2.toInt l4.toInt l5.toInt (vw h) = dr → jX m_X12_areKin 7 0 0 157 [(0, .ref 125), (1, .int l1), (2, .int l2), (4, .int l4), (5, .int l5)] [] h 0 0 Q := by
  intro l1 l2 l4 l5 h y0 y1 y2 y3  m5 m23 J Sm D
  unfold d_X12_areKin_r125d_157 at D
  refine x_iconst (v := 0) rfl ki_0 ?_
  exact jX.sub (jsb_c rfl (jsb_c rfl (jsb_c rfl (jsb_c rfl (jsb_c rfl jsb_n))))) (ct_X12_areKin_r125d_200158 hD hQ k5 k23 l1 l2 l4 l5 h (jr_of rfl (by omega)) (jr_of rfl (by omega)) (jr_of rfl (by omega)) (jr_of rfl (by omega)) (by omega) (by omega) J Sm D)
set_option maxRecDepth 100000 in
set_option maxHeartbeats 4000000 in
theorem ct_X12_areKin_r125d_300119 {Dy : jH → Prop} {h0 : jH} {Q : Option Value → jH → Prop} {dr : (Int × jW)} {K5 : Int → Int → Int → Int → jW → (Int × jW)} {K23 : Int → Int → Int → Int → Int → jW → (Int × jW)} {R5 : Int} {R23 : Int} (hD : jDk Dy) (hQ : ∀ (v : Int32) hx9, 0 ≤ v.toInt ∧ v.toInt ≤ 1 → jJ jSgM Dy hx9 → jSm fp_X12_areKin_r125d h0 hx9 → dr.1 = v.toInt → dr.2 = vw hx9 → Q (some (.int v)) hx9) (k5 : ∀ (l1 : Int32) (l2 : Int32) (l3 : Int32) (l4 : Int32) (h : jH), 3 - l4.toInt < R5 → 0 ≤ l1.toInt ∧ l1.toInt ≤ 599 → 0 ≤ l2.toInt ∧ l2.toInt ≤ 599 → 0 ≤ l3.toInt ∧ l3.toInt ≤ 1 → 0 ≤ l4.toInt ∧ l4.toInt ≤ 3 → jJ jSgM Dy h → jSm fp_X12_areKin_r125d h0 h → K5 l1.toInt l2.toInt l3.toInt l4.toInt (vw h) = dr → jX m_X12_areKin 7 0 0 5 [(0, .ref 125), (1, .int l1), (2, .int l2), (3, .int l3), (4, .int l4)] [] h 0 0 Q) (k23 : ∀ (l1 : Int32) (l2 : Int32) (l3 : Int32) (l4 : Int32) (l5 : Int32) (h : jH), 3 - l5.toInt < R23 → 0 ≤ l1.toInt ∧ l1.toInt ≤ 599 → 0 ≤ l2.toInt ∧ l2.toInt ≤ 599 → 0 ≤ l3.toInt ∧ l3.toInt ≤ 1 → 0 ≤ l4.toInt ∧ l4.toInt ≤ 2 → 0 ≤ l5.toInt ∧ l5.toInt ≤ 3 → 3 - l4.toInt ≤ R5 → jJ jSgM Dy h → jSm fp_X12_areKin_r125d h0 h → K23 l1.toInt l2.toInt l3.toInt l4.toInt l5.toInt (vw h) = dr → jX m_X12_areKin 7 0 0 23 [(0, .ref 125), (1, .int l1), (2, .int l2), (3, .int l3), (4, .int l4), (5, .int l5)] [] h 0 0 Q) : ∀ (l1 : Int32) (l2 : Int32) (l3 : Int32) (l4 : Int32) (l5 : Int32) (l6 : Int32) (l7 : Int32) (h : jH), 0 ≤ l1.toInt ∧ l1.toInt ≤ 599 → 0 ≤ l2.toInt ∧ l2.toInt ≤ 599 → 0 ≤ l3.toInt ∧ l3.toInt ≤ 0 → 0 ≤ l4.toInt ∧ l4.toInt ≤ 2 → 0 ≤ l5.toInt ∧ l5.toInt ≤ 2 → 0 ≤ l6.toInt ∧ l6.toInt ≤ 599 → 0 ≤ l7.toInt ∧ l7.toInt ≤ 599 → 3 - l4.toInt ≤ R5 → 3 - l5.toInt ≤ R23 → jJ jSgM Dy h → jSm fp_X12_areKin_r125d h0 h → d_X12_areKin_r125d_300119 K5 K23  l1.toInt l2.toInt l3.toInt l4.toInt l5.toInt l6.toInt l7.toInt (vw h) = dr → jX m_X12_areKin 7 0 0 119 [(0, .ref 125), (1, .int l1), (2, .int l2), (3, .int l3), (4, .int l4), (5, .int l5), (6, .int l6), (7, .int l7)] [.int 1] h 0 0 Q := by
  intro l1 l2 l3 l4 l5 l6 l7 h y0 y1 y2 y3 y4 y5 y6  m5 m23 J Sm D
  unfold d_X12_areKin_r125d_300119 at D
  refine x_istore (lsx9 := [(8, .int 1), (0, .ref 125), (1, .int l1), (2, .int l2), (3, .int l3), (4, .int l4), (5, .int l5), (6, .int l6), (7, .int l7)]) rfl rfl rfl ?_
  refine x_iloadn (x := l3) rfl rfl ?_
  refine x_ifne (tgt := 153) rfl rfl (ti_ne rfl jk_0 (bn_f (by omega) ?_))
  refine x_iload (x := 1) rfl rfl ?_
  refine x_ifeq (tgt := 157) rfl rfl (ti_eq jk_1 jk_0 (br_f (by omega) ?_))
  refine x_aloadn (x := 125) rfl rfl ?_
  refine x_iload (x := l6) rfl rfl ?_
  refine x_iload (x := l7) rfl rfl ?_
  refine x_iconst (v := 1) rfl ki_1 ?_
  refine x_inv (N := m_X12_areAlike) (As := [.int l6, .int l7, .int 1]) (b := 125) (st := []) (dx9 := 4) (mc := 0) (ms := 0) (host := "") 12 rfl t_X12_areAlike ⟨Or.inl q_12_358, i_X12_areAlike.1, i_X12_areAlike.2⟩ ⟨by decide, rfl⟩ (congrArg Prod.fst (J.1.1 125 (12, 92) rfl)) rfl (by decide) rfl rfl ⟨by decide, by decide⟩ (sf_X12_areAlike_r125d (jr_of rfl (by omega)) (jr_of rfl (by omega)) (jr_of jk_1 (by omega)) hD J rfl  (fun v4 h ev4 J S1 X2 X3 => ?_))
  have Sm := jSm_tr rfl Sm S1
  try rw [jk_1] at X2
  try rw [jk_1] at X3
  try rw [X2] at D
  try rw [X3] at D
  show jX m_X12_areKin 7 0 0 139 [(8, .int 1), (0, .ref 125), (1, .int l1), (2, .int l2), (3, .int l3), (4, .int l4), (5, .int l5), (6, .int l6), (7, .int l7)] [.int v4] _ 0 0 _
  refine x_ifeq (tgt := 157) rfl rfl (ti_eq rfl jk_0 ⟨fun c5 => ?_, fun c5 => ?_⟩)
  ·
    rw [if_pos (by omega)] at D
    exact jX.sub (jsb_c rfl (jsb_c rfl (jsb_c rfl (jsb_c rfl (jsb_c rfl jsb_n))))) (ct_X12_areKin_r125d_157 hD hQ k5 k23 l1 l2 l4 l5 h (jr_of rfl (by omega)) (jr_of rfl (by omega)) (jr_of rfl (by omega)) (jr_of rfl (by omega)) (by omega) (by omega) J Sm D)
  ·
    rw [if_neg (by omega)] at D
    refine x_aloadn (x := 125) rfl rfl ?_
    refine x_iload (x := l6) rfl rfl ?_
    refine x_iload (x := l7) rfl rfl ?_
    refine x_inv (N := m_X12_why) (As := [.int l6, .int l7]) (b := 125) (st := []) (dx9 := 6) (mc := 0) (ms := 0) (host := "") 12 rfl t_X12_why ⟨Or.inl q_12_368, i_X12_why.1, i_X12_why.2⟩ ⟨by decide, rfl⟩ (congrArg Prod.fst (J.1.1 125 (12, 92) rfl)) rfl (by decide) rfl rfl ⟨by decide, by decide⟩ (sf_X12_why_r125d (jr_of rfl (by omega)) (jr_of rfl (by omega)) hD J rfl  (fun v9 h ev9 J S6 X7 X8 => ?_))
    have Sm := jSm_tr rfl Sm S6
    try rw [X7] at D
    try rw [X8] at D
    show jX m_X12_areKin 7 0 0 150 [(8, .int 1), (0, .ref 125), (1, .int l1), (2, .int l2), (3, .int l3), (4, .int l4), (5, .int l5), (6, .int l6), (7, .int l7)] [.int v9] _ 0 0 _
    refine x_ifne (tgt := 157) rfl rfl (ti_ne rfl jk_0 ⟨fun c10 => ?_, fun c10 => ?_⟩)
    ·
      rw [if_neg (by omega)] at D
      exact jX.sub (jsb_c rfl (jsb_c rfl (jsb_c rfl (jsb_c rfl (jsb_c rfl jsb_n))))) (ct_X12_areKin_r125d_157 hD hQ k5 k23 l1 l2 l4 l5 h (jr_of rfl (by omega)) (jr_of rfl (by omega)) (jr_of rfl (by omega)) (jr_of rfl (by omega)) (by omega) (by omega) J Sm D)
    ·
      rw [if_pos (by omega)] at D
      exact jX.sub (jsb_c rfl (jsb_c rfl (jsb_c rfl (jsb_c rfl (jsb_c rfl jsb_n))))) (ct_X12_areKin_r125d_153 hD hQ k5 k23 l1 l2 l4 l5 h (jr_of rfl (by omega)) (jr_of rfl (by omega)) (jr_of rfl (by omega)) (jr_of rfl (by omega)) (by omega) (by omega) J Sm D)
set_option maxRecDepth 100000 in
set_option maxHeartbeats 4000000 in
theorem ct_X12_areKin_r125d_200119 {Dy : jH → Prop} {h0 : jH} {Q : Option Value → jH → Prop} {dr : (Int × jW)} {K5 : Int → Int → Int → Int → jW → (Int × jW)} {K23 : Int → Int → Int → Int → Int → jW → (Int × jW)} {R5 : Int} {R23 : Int} (hD : jDk Dy) (hQ : ∀ (v : Int32) hx9, 0 ≤ v.toInt ∧ v.toInt ≤ 1 → jJ jSgM Dy hx9 → jSm fp_X12_areKin_r125d h0 hx9 → dr.1 = v.toInt → dr.2 = vw hx9 → Q (some (.int v)) hx9) (k5 : ∀ (l1 : Int32) (l2 : Int32) (l3 : Int32) (l4 : Int32) (h : jH), 3 - l4.toInt < R5 → 0 ≤ l1.toInt ∧ l1.toInt ≤ 599 → 0 ≤ l2.toInt ∧ l2.toInt ≤ 599 → 0 ≤ l3.toInt ∧ l3.toInt ≤ 1 → 0 ≤ l4.toInt ∧ l4.toInt ≤ 3 → jJ jSgM Dy h → jSm fp_X12_areKin_r125d h0 h → K5 l1.toInt l2.toInt l3.toInt l4.toInt (vw h) = dr → jX m_X12_areKin 7 0 0 5 [(0, .ref 125), (1, .int l1), (2, .int l2), (3, .int l3), (4, .int l4)] [] h 0 0 Q) (k23 : ∀ (l1 : Int32) (l2 : Int32) (l3 : Int32) (l4 : Int32) (l5 : Int32) (h : jH), 3 - l5.toInt < R23 → 0 ≤ l1.toInt ∧ l1.toInt ≤ 599 → 0 ≤ l2.toInt ∧ l2.toInt ≤ 599 → 0 ≤ l3.toInt ∧ l3.toInt ≤ 1 → 0 ≤ l4.toInt ∧ l4.toInt ≤ 2 → 0 ≤ l5.toInt ∧ l5.toInt ≤ 3 → 3 - l4.toInt ≤ R5 → jJ jSgM Dy h → jSm fp_X12_areKin_r125d h0 h → K23 l1.toInt l2.toInt l3.toInt l4.toInt l5.toInt (vw h) = dr → jX m_X12_areKin 7 0 0 23 [(0, .ref 125), (1, .int l1), (2, .int l2), (3, .int l3), (4, .int l4), (5, .int l5)] [] h 0 0 Q) : ∀ (l1 : Int32) (l2 : Int32) (l3 : Int32) (l4 : Int32) (l5 : Int32) (l6 : Int32) (l7 : Int32) (h : jH), 0 ≤ l1.toInt ∧ l1.toInt ≤ 599 → 0 ≤ l2.toInt ∧ l2.toInt ≤ 599 → 0 ≤ l3.toInt ∧ l3.toInt ≤ 1 → 0 ≤ l4.toInt ∧ l4.toInt ≤ 2 → 0 ≤ l5.toInt ∧ l5.toInt ≤ 2 → 0 ≤ l6.toInt ∧ l6.toInt ≤ 599 → 0 ≤ l7.toInt ∧ l7.toInt ≤ 599 → 3 - l4.toInt ≤ R5 → 3 - l5.toInt ≤ R23 → jJ jSgM Dy h → jSm fp_X12_areKin_r125d h0 h → d_X12_areKin_r125d_200119 K5 K23  l1.toInt l2.toInt l3.toInt l4.toInt l5.toInt l6.toInt l7.toInt (vw h) = dr → jX m_X12_areKin 7 0 0 119 [(0, .ref 125), (1, .int l1), (2, .int l2), (3, .int l3), (4, .int l4), (5, .int l5), (6, .int l6), (7, .int l7)] [.int 0] h 0 0 Q := by
  intro l1 l2 l3 l4 l5 l6 l7 h y0 y1 y2 y3 y4 y5 y6  m5 m23 J Sm D
  unfold d_X12_areKin_r125d_200119 at D
  refine x_istore (lsx9 := [(8, .int 0), (0, .ref 125), (1, .int l1), (2, .int l2), (3, .int l3), (4, .int l4), (5, .int l5), (6, .int l6), (7, .int l7)]) rfl rfl rfl ?_
  refine x_iloadn (x := l3) rfl rfl ?_
  refine x_ifne (tgt := 153) rfl rfl (ti_ne rfl jk_0 ⟨fun c1 => ?_, fun c1 => ?_⟩)
  ·
    rw [if_neg (by omega)] at D
    exact jX.sub (jsb_c rfl (jsb_c rfl (jsb_c rfl (jsb_c rfl (jsb_c rfl jsb_n))))) (ct_X12_areKin_r125d_153 hD hQ k5 k23 l1 l2 l4 l5 h (jr_of rfl (by omega)) (jr_of rfl (by omega)) (jr_of rfl (by omega)) (jr_of rfl (by omega)) (by omega) (by omega) J Sm D)
  ·
    rw [if_pos (by omega)] at D
    refine x_iload (x := 0) rfl rfl ?_
    refine x_ifeq (tgt := 157) rfl rfl (ti_eq jk_0 jk_0 (br_t (by omega) ?_))
    exact jX.sub (jsb_c rfl (jsb_c rfl (jsb_c rfl (jsb_c rfl (jsb_c rfl jsb_n))))) (ct_X12_areKin_r125d_157 hD hQ k5 k23 l1 l2 l4 l5 h (jr_of rfl (by omega)) (jr_of rfl (by omega)) (jr_of rfl (by omega)) (jr_of rfl (by omega)) (by omega) (by omega) J Sm D)
set_option maxRecDepth 100000 in
set_option maxHeartbeats 4000000 in
theorem ct_X12_areKin_r125d_118 {Dy : jH → Prop} {h0 : jH} {Q : Option Value → jH → Prop} {dr : (Int × jW)} {K5 : Int → Int → Int → Int → jW → (Int × jW)} {K23 : Int → Int → Int → Int → Int → jW → (Int × jW)} {R5 : Int} {R23 : Int} (hD : jDk Dy) (hQ : ∀ (v : Int32) hx9, 0 ≤ v.toInt ∧ v.toInt ≤ 1 → jJ jSgM Dy hx9 → jSm fp_X12_areKin_r125d h0 hx9 → dr.1 = v.toInt → dr.2 = vw hx9 → Q (some (.int v)) hx9) (k5 : ∀ (l1 : Int32) (l2 : Int32) (l3 : Int32) (l4 : Int32) (h : jH), 3 - l4.toInt < R5 → 0 ≤ l1.toInt ∧ l1.toInt ≤ 599 → 0 ≤ l2.toInt ∧ l2.toInt ≤ 599 → 0 ≤ l3.toInt ∧ l3.toInt ≤ 1 → 0 ≤ l4.toInt ∧ l4.toInt ≤ 3 → jJ jSgM Dy h → jSm fp_X12_areKin_r125d h0 h → K5 l1.toInt l2.toInt l3.toInt l4.toInt (vw h) = dr → jX m_X12_areKin 7 0 0 5 [(0, .ref 125), (1, .int l1), (2, .int l2), (3, .int l3), (4, .int l4)] [] h 0 0 Q) (k23 : ∀ (l1 : Int32) (l2 : Int32) (l3 : Int32) (l4 : Int32) (l5 : Int32) (h : jH), 3 - l5.toInt < R23 → 0 ≤ l1.toInt ∧ l1.toInt ≤ 599 → 0 ≤ l2.toInt ∧ l2.toInt ≤ 599 → 0 ≤ l3.toInt ∧ l3.toInt ≤ 1 → 0 ≤ l4.toInt ∧ l4.toInt ≤ 2 → 0 ≤ l5.toInt ∧ l5.toInt ≤ 3 → 3 - l4.toInt ≤ R5 → jJ jSgM Dy h → jSm fp_X12_areKin_r125d h0 h → K23 l1.toInt l2.toInt l3.toInt l4.toInt l5.toInt (vw h) = dr → jX m_X12_areKin 7 0 0 23 [(0, .ref 125), (1, .int l1), (2, .int l2), (3, .int l3), (4, .int l4), (5, .int l5)] [] h 0 0 Q) : ∀ (l1 : Int32) (l2 : Int32) (l3 : Int32) (l4 : Int32) (l5 : Int32) (l6 : Int32) (l7 : Int32) (h : jH), 0 ≤ l1.toInt ∧ l1.toInt ≤ 599 → 0 ≤ l2.toInt ∧ l2.toInt ≤ 599 → 0 ≤ l3.toInt ∧ l3.toInt ≤ 1 → 0 ≤ l4.toInt ∧ l4.toInt ≤ 2 → 0 ≤ l5.toInt ∧ l5.toInt ≤ 2 → 0 ≤ l6.toInt ∧ l6.toInt ≤ 599 → 0 ≤ l7.toInt ∧ l7.toInt ≤ 599 → 3 - l4.toInt ≤ R5 → 3 - l5.toInt ≤ R23 → jJ jSgM Dy h → jSm fp_X12_areKin_r125d h0 h → d_X12_areKin_r125d_118 K5 K23  l1.toInt l2.toInt l3.toInt l4.toInt l5.toInt l6.toInt l7.toInt (vw h) = dr → jX m_X12_areKin 7 0 0 118 [(0, .ref 125), (1, .int l1), (2, .int l2), (3, .int l3), (4, .int l4), (5, .int l5), (6, .int l6), (7, .int l7)] [] h 0 0 Q := by
  intro l1 l2 l3 l4 l5 l6 l7 h y0 y1 y2 y3 y4 y5 y6  m5 m23 J Sm D
  unfold d_X12_areKin_r125d_118 at D
  refine x_iconst (v := 0) rfl ki_0 ?_
  exact jX.sub (jsb_c rfl (jsb_c rfl (jsb_c rfl (jsb_c rfl (jsb_c rfl (jsb_c rfl (jsb_c rfl (jsb_c rfl jsb_n)))))))) (ct_X12_areKin_r125d_200119 hD hQ k5 k23 l1 l2 l3 l4 l5 l6 l7 h (jr_of rfl (by omega)) (jr_of rfl (by omega)) (jr_of rfl (by omega)) (jr_of rfl (by omega)) (jr_of rfl (by omega)) (jr_of rfl (by omega)) (jr_of rfl (by omega)) (by omega) (by omega) J Sm D)
set_option maxRecDepth 100000 in
set_option maxHeartbeats 4000000 in
theorem ct_X12_areKin_r125d_23 {Dy : jH → Prop} {h0 : jH} {Q : Option Value → jH → Prop} {dr : (Int × jW)} {K5 : Int → Int → Int → Int → jW → (Int × jW)} {R5 : Int} (hD : jDk Dy) (hQ : ∀ (v : Int32) hx9, 0 ≤ v.toInt ∧ v.toInt ≤ 1 → jJ jSgM Dy hx9 → jSm fp_X12_areKin_r125d h0 hx9 → dr.1 = v.toInt → dr.2 = vw hx9 → Q (some (.int v)) hx9) (k5 : ∀ (l1 : Int32) (l2 : Int32) (l3 : Int32) (l4 : Int32) (h : jH), 3 - l4.toInt < R5 → 0 ≤ l1.toInt ∧ l1.toInt ≤ 599 → 0 ≤ l2.toInt ∧ l2.toInt ≤ 599 → 0 ≤ l3.toInt ∧ l3.toInt ≤ 1 → 0 ≤ l4.toInt ∧ l4.toInt ≤ 3 → jJ jSgM Dy h → jSm fp_X12_areKin_r125d h0 h → K5 l1.toInt l2.toInt l3.toInt l4.toInt (vw h) = dr → jX m_X12_areKin 7 0 0 5 [(0, .ref 125), (1, .int l1), (2, .int l2), (3, .int l3), (4, .int l4)] [] h 0 0 Q) : ∀ r : Nat, ∀ (l1 : Int32) (l2 : Int32) (l3 : Int32) (l4 : Int32) (l5 : Int32) (h : jH), 3 - l5.toInt < (r : Int) → 0 ≤ l1.toInt ∧ l1.toInt ≤ 599 → 0 ≤ l2.toInt ∧ l2.toInt ≤ 599 → 0 ≤ l3.toInt ∧ l3.toInt ≤ 1 → 0 ≤ l4.toInt ∧ l4.toInt ≤ 2 → 0 ≤ l5.toInt ∧ l5.toInt ≤ 3 → 3 - l4.toInt ≤ R5 → jJ jSgM Dy h → jSm fp_X12_areKin_r125d h0 h → d_X12_areKin_r125d_23 K5 r l1.toInt l2.toInt l3.toInt l4.toInt l5.toInt (vw h) = dr → jX m_X12_areKin 7 0 0 23 [(0, .ref 125), (1, .int l1), (2, .int l2), (3, .int l3), (4, .int l4), (5, .int l5)] [] h 0 0 Q := by
  intro r
  induction r with
  | zero =>
    intro l1 l2 l3 l4 l5 h hm y0 y1 y2 y3 y4  m5 J Sm D
    exfalso
    omega
  | succ r ih =>
    intro l1 l2 l3 l4 l5 h hm y0 y1 y2 y3 y4  m5 J Sm D
    rw [d_X12_areKin_r125d_23.eq_2] at D
    refine x_iload (x := l5) rfl rfl ?_
    refine x_aloadn (x := 125) rfl rfl ?_
    refine x_iloadn (x := l2) rfl rfl ?_
    refine x_iconst (v := 3) rfl ki_3 ?_
    refine z_idiv rfl rfl jk_3 (by omega) (by omega) (fun v1 ev1 => ?_)
    refine x_inv (N := m_X12_bookOf) (As := [.int v1]) (b := 125) (st := [.int l5]) (dx9 := 6) (mc := 0) (ms := 0) (host := "") 12 rfl t_X12_bookOf ⟨Or.inl q_12_299, i_X12_bookOf.1, i_X12_bookOf.2⟩ ⟨by decide, rfl⟩ (congrArg Prod.fst (J.1.1 125 (12, 92) rfl)) rfl (by decide) rfl rfl ⟨by decide, by decide⟩ (jC.of rfl k_X12_bookOf rfl ?_)
    show jX m_X12_bookOf 6 0 0 0 [(0, .ref 125), (1, .int v1)] [] _ 0 0 _
    refine x_aloadn (x := 125) rfl rfl ?_
    refine z_getR (N := 92) (b := 126) 12 2 rfl f_12_8 rfl J rfl 16002 ⟨rfl, rfl⟩ rfl ?_
    refine x_aloadn (x := 125) rfl rfl ?_
    refine x_iloadn (x := v1) rfl rfl ?_
    refine x_inv (N := m_X12_at) (As := [.int v1]) (b := 125) (st := [.ref 126]) (dx9 := 5) (mc := 0) (ms := 0) (host := "") 12 rfl t_X12_at ⟨Or.inl q_12_254, i_X12_at.1, i_X12_at.2⟩ ⟨by decide, rfl⟩ (congrArg Prod.fst (J.1.1 125 (12, 92) rfl)) rfl (by decide) rfl rfl ⟨by decide, by decide⟩ (jC.of rfl k_X12_at rfl ?_)
    show jX m_X12_at 5 0 0 0 [(0, .ref 125), (1, .int v1)] [] _ 0 0 _
    refine x_bipush (v := 20) rfl kb_20 ?_
    refine x_bipush (v := 90) rfl kb_90 ?_
    refine x_iloadn (x := v1) rfl rfl ?_
    refine z_imul rfl jk_90 rfl (by omega) (fun v2 ev2 => ?_)
    refine z_iadd rfl jk_20 rfl (by omega) (fun v3 ev3 => ?_)
    refine x_iret rfl rfl ?_
    show jX m_X12_bookOf 6 0 0 9 [(0, .ref 125), (1, .int v1)] [.int v3, .ref 126] _ 0 0 _
    refine z_iald (N := 50660) rfl J rfl sg_126_20_18020_90_0_1 rfl (by omega) (fun v4 qv4 ev4 => ?_)
    try rw [vrd qv4 (show (20 + (90 * (l2.toInt / 3))) = v3.toInt from by omega)] at D
    refine x_iret rfl rfl ?_
    show jX m_X12_areKin 7 0 0 32 [(0, .ref 125), (1, .int l1), (2, .int l2), (3, .int l3), (4, .int l4), (5, .int l5)] [.int v4, .int l5] _ 0 0 _
    refine x_inst (N := m_X12_rolesOf) (As := [.int v4]) (st := [.int l5]) (dx9 := 6) (mc := 0) (ms := 0) (host := "") rfl t_X12_rolesOf ⟨Or.inl q_12_286, s_X12_rolesOf⟩ rfl (by decide) rfl rfl ⟨by decide, by decide⟩ (jC.of rfl k_X12_rolesOf rfl ?_)
    show jX m_X12_rolesOf 6 0 0 0 [(0, .int v4)] [] _ 0 0 _
    refine x_iloadn (x := v4) rfl rfl ?_
    refine x_ifne (tgt := 8) rfl rfl (ti_ne rfl jk_0 ⟨fun c5 => ?_, fun c5 => ?_⟩)
    ·
      rw [if_neg (by omega)] at D
      refine x_iloadn (x := v4) rfl rfl ?_
      refine x_iconst (v := 1) rfl ki_1 ?_
      refine x_icne (tgt := 17) rfl rfl (ti_ne rfl jk_1 ⟨fun c6 => ?_, fun c6 => ?_⟩)
      ·
        rw [if_neg (by omega)] at D
        refine x_iconst (v := 1) rfl ki_1 ?_
        refine x_iret rfl rfl ?_
        show jX m_X12_areKin 7 0 0 35 [(0, .ref 125), (1, .int l1), (2, .int l2), (3, .int l3), (4, .int l4), (5, .int l5)] [.int 1, .int l5] _ 0 0 _
        refine x_icge (tgt := 165) rfl rfl (ti_ge rfl jk_1 ⟨fun c7 => ?_, fun c7 => ?_⟩)
        ·
          rw [if_pos (by omega)] at D
          refine z_iinc (x := l4) (lsx9 := fun v8 => [(4, .int v8), (0, .ref 125), (1, .int l1), (2, .int l2), (3, .int l3), (5, .int l5)]) rfl rfl rfl jko_1 (by omega) rfl (fun _ => rfl) (fun v8 ev8 => ?_)
          refine x_goto (tgt := 5) rfl rfl ?_
          try rw [show (l4.toInt + 1) = v8.toInt from by omega] at D
          exact jX.sub (jsb_c rfl (jsb_c rfl (jsb_c rfl (jsb_c rfl (jsb_c rfl jsb_n))))) (k5 l1 l2 l3 v8 h (by omega) (jr_of rfl (by omega)) (jr_of rfl (by omega)) (jr_of rfl (by omega)) (jr_of rfl (by omega)) J Sm D)
        ·
          rw [if_neg (by omega)] at D
          refine x_iloadn (x := l1) rfl rfl ?_
          refine x_iconst (v := 3) rfl ki_3 ?_
          refine z_idiv rfl rfl jk_3 (by omega) (by omega) (fun v9 ev9 => ?_)
          refine x_iconst (v := 3) rfl ki_3 ?_
          refine z_imul rfl rfl jk_3 (by omega) (fun v10 ev10 => ?_)
          refine x_iload (x := l4) rfl rfl ?_
          refine z_iadd rfl rfl rfl (by omega) (fun v11 ev11 => ?_)
          refine x_istore (lsx9 := [(6, .int v11), (0, .ref 125), (1, .int l1), (2, .int l2), (3, .int l3), (4, .int l4), (5, .int l5)]) rfl rfl rfl ?_
          refine x_iloadn (x := l2) rfl rfl ?_
          refine x_iconst (v := 3) rfl ki_3 ?_
          refine z_idiv rfl rfl jk_3 (by omega) (by omega) (fun v12 ev12 => ?_)
          refine x_iconst (v := 3) rfl ki_3 ?_
          refine z_imul rfl rfl jk_3 (by omega) (fun v13 ev13 => ?_)
          refine x_iload (x := l5) rfl rfl ?_
          refine z_iadd rfl rfl rfl (by omega) (fun v14 ev14 => ?_)
          refine x_istore (lsx9 := [(7, .int v14), (6, .int v11), (0, .ref 125), (1, .int l1), (2, .int l2), (3, .int l3), (4, .int l4), (5, .int l5)]) rfl rfl rfl ?_
          refine x_iloadn (x := l3) rfl rfl ?_
          refine x_ifne (tgt := 118) rfl rfl (ti_ne rfl jk_0 ⟨fun c15 => ?_, fun c15 => ?_⟩)
          ·
            rw [if_neg (by omega)] at D
            try rw [show (((l1.toInt / 3) * 3) + l4.toInt) = v11.toInt from by omega] at D
            try rw [show (((l2.toInt / 3) * 3) + l5.toInt) = v14.toInt from by omega] at D
            exact jX.sub (jsb_c rfl (jsb_c rfl (jsb_c rfl (jsb_c rfl (jsb_c rfl (jsb_c rfl (jsb_c rfl (jsb_c rfl jsb_n)))))))) (ct_X12_areKin_r125d_118 hD hQ k5 ih l1 l2 l3 l4 l5 v11 v14 h (jr_of rfl (by omega)) (jr_of rfl (by omega)) (jr_of rfl (by omega)) (jr_of rfl (by omega)) (jr_of rfl (by omega)) (jr_of rfl (by omega)) (jr_of rfl (by omega)) (by omega) (by omega) J Sm D)
          ·
            rw [if_pos (by omega)] at D
            refine x_iload (x := v11) rfl rfl ?_
            refine x_iloadn (x := l1) rfl rfl ?_
            refine x_iceq (tgt := 118) rfl rfl (ti_eq rfl rfl ⟨fun c16 => ?_, fun c16 => ?_⟩)
            ·
              rw [if_pos (by omega)] at D
              try rw [show (((l1.toInt / 3) * 3) + l4.toInt) = v11.toInt from by omega] at D
              try rw [show (((l2.toInt / 3) * 3) + l5.toInt) = v14.toInt from by omega] at D
              exact jX.sub (jsb_c rfl (jsb_c rfl (jsb_c rfl (jsb_c rfl (jsb_c rfl (jsb_c rfl (jsb_c rfl (jsb_c rfl jsb_n)))))))) (ct_X12_areKin_r125d_118 hD hQ k5 ih l1 l2 l3 l4 l5 v11 v14 h (jr_of rfl (by omega)) (jr_of rfl (by omega)) (jr_of rfl (by omega)) (jr_of rfl (by omega)) (jr_of rfl (by omega)) (jr_of rfl (by omega)) (jr_of rfl (by omega)) (by omega) (by omega) J Sm D)
            ·
              rw [if_neg (by omega)] at D
              refine x_iload (x := v14) rfl rfl ?_
              refine x_iloadn (x := l2) rfl rfl ?_
              refine x_iceq (tgt := 118) rfl rfl (ti_eq rfl rfl ⟨fun c17 => ?_, fun c17 => ?_⟩)
              ·
                rw [if_pos (by omega)] at D
                try rw [show (((l1.toInt / 3) * 3) + l4.toInt) = v11.toInt from by omega] at D
                try rw [show (((l2.toInt / 3) * 3) + l5.toInt) = v14.toInt from by omega] at D
                exact jX.sub (jsb_c rfl (jsb_c rfl (jsb_c rfl (jsb_c rfl (jsb_c rfl (jsb_c rfl (jsb_c rfl (jsb_c rfl jsb_n)))))))) (ct_X12_areKin_r125d_118 hD hQ k5 ih l1 l2 l3 l4 l5 v11 v14 h (jr_of rfl (by omega)) (jr_of rfl (by omega)) (jr_of rfl (by omega)) (jr_of rfl (by omega)) (jr_of rfl (by omega)) (jr_of rfl (by omega)) (jr_of rfl (by omega)) (by omega) (by omega) J Sm D)
              ·
                rw [if_neg (by omega)] at D
                refine x_aloadn (x := 125) rfl rfl ?_
                refine x_iload (x := v11) rfl rfl ?_
                refine x_iconst (v := 0) rfl ki_0 ?_
                refine x_inv (N := m_X12_isNamed) (As := [.int v11, .int 0]) (b := 125) (st := []) (dx9 := 6) (mc := 0) (ms := 0) (host := "") 12 rfl t_X12_isNamed ⟨Or.inl q_12_315, i_X12_isNamed.1, i_X12_isNamed.2⟩ ⟨by decide, rfl⟩ (congrArg Prod.fst (J.1.1 125 (12, 92) rfl)) rfl (by decide) rfl rfl ⟨by decide, by decide⟩ (jC.of rfl k_X12_isNamed rfl ?_)
                show jX m_X12_isNamed 6 0 0 0 [(0, .ref 125), (1, .int v11), (2, .int 0)] [] _ 0 0 _
                refine x_aloadn (x := 125) rfl rfl ?_
                refine z_getR (N := 92) (b := 126) 12 2 rfl f_12_8 rfl J rfl 16002 ⟨rfl, rfl⟩ rfl ?_
                refine x_aloadn (x := 125) rfl rfl ?_
                refine x_iloadn (x := v11) rfl rfl ?_
                refine x_iloadn (x := 0) rfl rfl ?_
                refine x_inv (N := m_X12_nameAt) (As := [.int v11, .int 0]) (b := 125) (st := [.ref 126]) (dx9 := 5) (mc := 0) (ms := 0) (host := "") 12 rfl t_X12_nameAt ⟨Or.inl q_12_311, i_X12_nameAt.1, i_X12_nameAt.2⟩ ⟨by decide, rfl⟩ (congrArg Prod.fst (J.1.1 125 (12, 92) rfl)) rfl (by decide) rfl rfl ⟨by decide, by decide⟩ (jC.of rfl k_X12_nameAt rfl ?_)
                show jX m_X12_nameAt 5 0 0 0 [(0, .ref 125), (1, .int v11), (2, .int 0)] [] _ 0 0 _
                refine x_aloadn (x := 125) rfl rfl ?_
                refine x_iloadn (x := v11) rfl rfl ?_
                refine x_iconst (v := 3) rfl ki_3 ?_
                refine z_idiv rfl rfl jk_3 (by omega) (by omega) (fun v18 ev18 => ?_)
                refine x_inv (N := m_X12_at) (As := [.int v18]) (b := 125) (st := []) (dx9 := 4) (mc := 0) (ms := 0) (host := "") 12 rfl t_X12_at ⟨Or.inl q_12_254, i_X12_at.1, i_X12_at.2⟩ ⟨by decide, rfl⟩ (congrArg Prod.fst (J.1.1 125 (12, 92) rfl)) rfl (by decide) rfl rfl ⟨by decide, by decide⟩ (jC.of rfl k_X12_at rfl ?_)
                show jX m_X12_at 4 0 0 0 [(0, .ref 125), (1, .int v18)] [] _ 0 0 _
                refine x_bipush (v := 20) rfl kb_20 ?_
                refine x_bipush (v := 90) rfl kb_90 ?_
                refine x_iloadn (x := v18) rfl rfl ?_
                refine z_imul rfl jk_90 rfl (by omega) (fun v19 ev19 => ?_)
                refine z_iadd rfl jk_20 rfl (by omega) (fun v20 ev20 => ?_)
                refine x_iret rfl rfl ?_
                show jX m_X12_nameAt 5 0 0 7 [(0, .ref 125), (1, .int v11), (2, .int 0)] [.int v20] _ 0 0 _
                refine x_bipush (v := 6) rfl kb_6 ?_
                refine z_iadd rfl rfl jk_6 (by omega) (fun v21 ev21 => ?_)
                refine x_bipush (v := 28) rfl kb_28 ?_
                refine x_iloadn (x := v11) rfl rfl ?_
                refine x_iconst (v := 3) rfl ki_3 ?_
                refine z_irem rfl rfl jk_3 (by omega) (by omega) (fun v22 ev22 => ?_)
                refine z_imul rfl jk_28 rfl (by omega) (fun v23 ev23 => ?_)
                refine z_iadd rfl rfl rfl (by omega) (fun v24 ev24 => ?_)
                refine x_bipush (v := 14) rfl kb_14 ?_
                refine x_iloadn (x := 0) rfl rfl ?_
                refine y_imul (v := 0) rfl (by decide) ?_
                refine z_iadd rfl rfl jk_0 (by omega) (fun v25 ev25 => ?_)
                have rnv25 := jnam (m := v11.toInt) (w := 0) (v := v25.toInt) (by omega) (by omega) (by omega)
                refine x_iret rfl rfl ?_
                show jX m_X12_isNamed 6 0 0 10 [(0, .ref 125), (1, .int v11), (2, .int 0)] [.int v25, .ref 126] _ 0 0 _
                refine z_ialdU (N := 50660) (lo := 0) (hi := 12) rfl J rfl rfl (by omega) ((show (v25.toInt - 20) % 90 = 6 ∨ (v25.toInt - 20) % 90 = 34 ∨ (v25.toInt - 20) % 90 = 62 from by omega).elim (fun q => (jrg_w (jrg_c J sg_126_20_18020_90_6_7 rfl (by omega)) (by decide))) (fun q => q.elim (fun q => (jrg_w (jrg_c J sg_126_20_18020_90_34_35 rfl (by omega)) (by decide))) (fun q => (jrg_w (jrg_c J sg_126_20_18020_90_62_63 rfl (by omega)) (by decide))))) (fun v26 qv26 ev26 => ?_)
                try rw [vrd qv26 (show ((((20 + (90 * ((((l1.toInt / 3) * 3) + l4.toInt) / 3))) + 6) + (28 * ((((l1.toInt / 3) * 3) + l4.toInt) % 3))) + 0) = v25.toInt from by omega)] at D
                refine x_ifle (tgt := 18) rfl rfl (ti_le rfl jk_0 ⟨fun c27 => ?_, fun c27 => ?_⟩)
                ·
                  rw [if_pos (by omega)] at D
                  refine x_iconst (v := 0) rfl ki_0 ?_
                  refine x_zret rfl rfl (by decide) ?_
                  show jX m_X12_areKin 7 0 0 81 [(7, .int v14), (6, .int v11), (0, .ref 125), (1, .int l1), (2, .int l2), (3, .int l3), (4, .int l4), (5, .int l5)] [.int 0] _ 0 0 _
                  refine x_ifeq (tgt := 118) rfl rfl (ti_eq jk_0 jk_0 (br_t (by omega) ?_))
                  try rw [show (((l1.toInt / 3) * 3) + l4.toInt) = v11.toInt from by omega] at D
                  try rw [show (((l2.toInt / 3) * 3) + l5.toInt) = v14.toInt from by omega] at D
                  exact jX.sub (jsb_c rfl (jsb_c rfl (jsb_c rfl (jsb_c rfl (jsb_c rfl (jsb_c rfl (jsb_c rfl (jsb_c rfl jsb_n)))))))) (ct_X12_areKin_r125d_118 hD hQ k5 ih l1 l2 l3 l4 l5 v11 v14 h (jr_of rfl (by omega)) (jr_of rfl (by omega)) (jr_of rfl (by omega)) (jr_of rfl (by omega)) (jr_of rfl (by omega)) (jr_of rfl (by omega)) (jr_of rfl (by omega)) (by omega) (by omega) J Sm D)
                ·
                  rw [if_neg (by omega)] at D
                  refine x_iconst (v := 1) rfl ki_1 ?_
                  refine x_goto (tgt := 19) rfl rfl ?_
                  refine x_zret rfl rfl (by decide) ?_
                  show jX m_X12_areKin 7 0 0 81 [(7, .int v14), (6, .int v11), (0, .ref 125), (1, .int l1), (2, .int l2), (3, .int l3), (4, .int l4), (5, .int l5)] [.int 1] _ 0 0 _
                  refine x_ifeq (tgt := 118) rfl rfl (ti_eq jk_1 jk_0 (br_f (by omega) ?_))
                  refine x_aloadn (x := 125) rfl rfl ?_
                  refine x_iload (x := v11) rfl rfl ?_
                  refine x_iconst (v := 1) rfl ki_1 ?_
                  refine x_inv (N := m_X12_isNamed) (As := [.int v11, .int 1]) (b := 125) (st := []) (dx9 := 6) (mc := 0) (ms := 0) (host := "") 12 rfl t_X12_isNamed ⟨Or.inl q_12_315, i_X12_isNamed.1, i_X12_isNamed.2⟩ ⟨by decide, rfl⟩ (congrArg Prod.fst (J.1.1 125 (12, 92) rfl)) rfl (by decide) rfl rfl ⟨by decide, by decide⟩ (jC.of rfl k_X12_isNamed rfl ?_)
                  show jX m_X12_isNamed 6 0 0 0 [(0, .ref 125), (1, .int v11), (2, .int 1)] [] _ 0 0 _
                  refine x_aloadn (x := 125) rfl rfl ?_
                  refine z_getR (N := 92) (b := 126) 12 2 rfl f_12_8 rfl J rfl 16002 ⟨rfl, rfl⟩ rfl ?_
                  refine x_aloadn (x := 125) rfl rfl ?_
                  refine x_iloadn (x := v11) rfl rfl ?_
                  refine x_iloadn (x := 1) rfl rfl ?_
                  refine x_inv (N := m_X12_nameAt) (As := [.int v11, .int 1]) (b := 125) (st := [.ref 126]) (dx9 := 5) (mc := 0) (ms := 0) (host := "") 12 rfl t_X12_nameAt ⟨Or.inl q_12_311, i_X12_nameAt.1, i_X12_nameAt.2⟩ ⟨by decide, rfl⟩ (congrArg Prod.fst (J.1.1 125 (12, 92) rfl)) rfl (by decide) rfl rfl ⟨by decide, by decide⟩ (jC.of rfl k_X12_nameAt rfl ?_)
                  show jX m_X12_nameAt 5 0 0 0 [(0, .ref 125), (1, .int v11), (2, .int 1)] [] _ 0 0 _
                  refine x_aloadn (x := 125) rfl rfl ?_
                  refine x_iloadn (x := v11) rfl rfl ?_
                  refine x_iconst (v := 3) rfl ki_3 ?_
                  refine z_idiv rfl rfl jk_3 (by omega) (by omega) (fun v28 ev28 => ?_)
                  refine x_inv (N := m_X12_at) (As := [.int v28]) (b := 125) (st := []) (dx9 := 4) (mc := 0) (ms := 0) (host := "") 12 rfl t_X12_at ⟨Or.inl q_12_254, i_X12_at.1, i_X12_at.2⟩ ⟨by decide, rfl⟩ (congrArg Prod.fst (J.1.1 125 (12, 92) rfl)) rfl (by decide) rfl rfl ⟨by decide, by decide⟩ (jC.of rfl k_X12_at rfl ?_)
                  show jX m_X12_at 4 0 0 0 [(0, .ref 125), (1, .int v28)] [] _ 0 0 _
                  refine x_bipush (v := 20) rfl kb_20 ?_
                  refine x_bipush (v := 90) rfl kb_90 ?_
                  refine x_iloadn (x := v28) rfl rfl ?_
                  refine z_imul rfl jk_90 rfl (by omega) (fun v29 ev29 => ?_)
                  refine z_iadd rfl jk_20 rfl (by omega) (fun v30 ev30 => ?_)
                  refine x_iret rfl rfl ?_
                  show jX m_X12_nameAt 5 0 0 7 [(0, .ref 125), (1, .int v11), (2, .int 1)] [.int v30] _ 0 0 _
                  refine x_bipush (v := 6) rfl kb_6 ?_
                  refine z_iadd rfl rfl jk_6 (by omega) (fun v31 ev31 => ?_)
                  refine x_bipush (v := 28) rfl kb_28 ?_
                  refine x_iloadn (x := v11) rfl rfl ?_
                  refine x_iconst (v := 3) rfl ki_3 ?_
                  refine z_irem rfl rfl jk_3 (by omega) (by omega) (fun v32 ev32 => ?_)
                  refine z_imul rfl jk_28 rfl (by omega) (fun v33 ev33 => ?_)
                  refine z_iadd rfl rfl rfl (by omega) (fun v34 ev34 => ?_)
                  refine x_bipush (v := 14) rfl kb_14 ?_
                  refine x_iloadn (x := 1) rfl rfl ?_
                  refine y_imul (v := 14) rfl (by decide) ?_
                  refine z_iadd rfl rfl jk_14 (by omega) (fun v35 ev35 => ?_)
                  have rnv35 := jnam (m := v11.toInt) (w := 1) (v := v35.toInt) (by omega) (by omega) (by omega)
                  refine x_iret rfl rfl ?_
                  show jX m_X12_isNamed 6 0 0 10 [(0, .ref 125), (1, .int v11), (2, .int 1)] [.int v35, .ref 126] _ 0 0 _
                  refine z_ialdU (N := 50660) (lo := 0) (hi := 12) rfl J rfl rfl (by omega) ((show (v35.toInt - 20) % 90 = 20 ∨ (v35.toInt - 20) % 90 = 48 ∨ (v35.toInt - 20) % 90 = 76 from by omega).elim (fun q => (jrg_w (jrg_c J sg_126_20_18020_90_20_21 rfl (by omega)) (by decide))) (fun q => q.elim (fun q => (jrg_w (jrg_c J sg_126_20_18020_90_48_49 rfl (by omega)) (by decide))) (fun q => (jrg_w (jrg_c J sg_126_20_18020_90_76_77 rfl (by omega)) (by decide))))) (fun v36 qv36 ev36 => ?_)
                  try rw [vrd qv36 (show ((((20 + (90 * ((((l1.toInt / 3) * 3) + l4.toInt) / 3))) + 6) + (28 * ((((l1.toInt / 3) * 3) + l4.toInt) % 3))) + 14) = v35.toInt from by omega)] at D
                  refine x_ifle (tgt := 18) rfl rfl (ti_le rfl jk_0 ⟨fun c37 => ?_, fun c37 => ?_⟩)
                  ·
                    rw [if_pos (by omega)] at D
                    refine x_iconst (v := 0) rfl ki_0 ?_
                    refine x_zret rfl rfl (by decide) ?_
                    show jX m_X12_areKin 7 0 0 91 [(7, .int v14), (6, .int v11), (0, .ref 125), (1, .int l1), (2, .int l2), (3, .int l3), (4, .int l4), (5, .int l5)] [.int 0] _ 0 0 _
                    refine x_ifeq (tgt := 118) rfl rfl (ti_eq jk_0 jk_0 (br_t (by omega) ?_))
                    try rw [show (((l1.toInt / 3) * 3) + l4.toInt) = v11.toInt from by omega] at D
                    try rw [show (((l2.toInt / 3) * 3) + l5.toInt) = v14.toInt from by omega] at D
                    exact jX.sub (jsb_c rfl (jsb_c rfl (jsb_c rfl (jsb_c rfl (jsb_c rfl (jsb_c rfl (jsb_c rfl (jsb_c rfl jsb_n)))))))) (ct_X12_areKin_r125d_118 hD hQ k5 ih l1 l2 l3 l4 l5 v11 v14 h (jr_of rfl (by omega)) (jr_of rfl (by omega)) (jr_of rfl (by omega)) (jr_of rfl (by omega)) (jr_of rfl (by omega)) (jr_of rfl (by omega)) (jr_of rfl (by omega)) (by omega) (by omega) J Sm D)
                  ·
                    rw [if_neg (by omega)] at D
                    refine x_iconst (v := 1) rfl ki_1 ?_
                    refine x_goto (tgt := 19) rfl rfl ?_
                    refine x_zret rfl rfl (by decide) ?_
                    show jX m_X12_areKin 7 0 0 91 [(7, .int v14), (6, .int v11), (0, .ref 125), (1, .int l1), (2, .int l2), (3, .int l3), (4, .int l4), (5, .int l5)] [.int 1] _ 0 0 _
                    refine x_ifeq (tgt := 118) rfl rfl (ti_eq jk_1 jk_0 (br_f (by omega) ?_))
                    refine x_aloadn (x := 125) rfl rfl ?_
                    refine x_iload (x := v14) rfl rfl ?_
                    refine x_iconst (v := 0) rfl ki_0 ?_
                    refine x_inv (N := m_X12_isNamed) (As := [.int v14, .int 0]) (b := 125) (st := []) (dx9 := 6) (mc := 0) (ms := 0) (host := "") 12 rfl t_X12_isNamed ⟨Or.inl q_12_315, i_X12_isNamed.1, i_X12_isNamed.2⟩ ⟨by decide, rfl⟩ (congrArg Prod.fst (J.1.1 125 (12, 92) rfl)) rfl (by decide) rfl rfl ⟨by decide, by decide⟩ (jC.of rfl k_X12_isNamed rfl ?_)
                    show jX m_X12_isNamed 6 0 0 0 [(0, .ref 125), (1, .int v14), (2, .int 0)] [] _ 0 0 _
                    refine x_aloadn (x := 125) rfl rfl ?_
                    refine z_getR (N := 92) (b := 126) 12 2 rfl f_12_8 rfl J rfl 16002 ⟨rfl, rfl⟩ rfl ?_
                    refine x_aloadn (x := 125) rfl rfl ?_
                    refine x_iloadn (x := v14) rfl rfl ?_
                    refine x_iloadn (x := 0) rfl rfl ?_
                    refine x_inv (N := m_X12_nameAt) (As := [.int v14, .int 0]) (b := 125) (st := [.ref 126]) (dx9 := 5) (mc := 0) (ms := 0) (host := "") 12 rfl t_X12_nameAt ⟨Or.inl q_12_311, i_X12_nameAt.1, i_X12_nameAt.2⟩ ⟨by decide, rfl⟩ (congrArg Prod.fst (J.1.1 125 (12, 92) rfl)) rfl (by decide) rfl rfl ⟨by decide, by decide⟩ (jC.of rfl k_X12_nameAt rfl ?_)
                    show jX m_X12_nameAt 5 0 0 0 [(0, .ref 125), (1, .int v14), (2, .int 0)] [] _ 0 0 _
                    refine x_aloadn (x := 125) rfl rfl ?_
                    refine x_iloadn (x := v14) rfl rfl ?_
                    refine x_iconst (v := 3) rfl ki_3 ?_
                    refine z_idiv rfl rfl jk_3 (by omega) (by omega) (fun v38 ev38 => ?_)
                    refine x_inv (N := m_X12_at) (As := [.int v38]) (b := 125) (st := []) (dx9 := 4) (mc := 0) (ms := 0) (host := "") 12 rfl t_X12_at ⟨Or.inl q_12_254, i_X12_at.1, i_X12_at.2⟩ ⟨by decide, rfl⟩ (congrArg Prod.fst (J.1.1 125 (12, 92) rfl)) rfl (by decide) rfl rfl ⟨by decide, by decide⟩ (jC.of rfl k_X12_at rfl ?_)
                    show jX m_X12_at 4 0 0 0 [(0, .ref 125), (1, .int v38)] [] _ 0 0 _
                    refine x_bipush (v := 20) rfl kb_20 ?_
                    refine x_bipush (v := 90) rfl kb_90 ?_
                    refine x_iloadn (x := v38) rfl rfl ?_
                    refine z_imul rfl jk_90 rfl (by omega) (fun v39 ev39 => ?_)
                    refine z_iadd rfl jk_20 rfl (by omega) (fun v40 ev40 => ?_)
                    refine x_iret rfl rfl ?_
                    show jX m_X12_nameAt 5 0 0 7 [(0, .ref 125), (1, .int v14), (2, .int 0)] [.int v40] _ 0 0 _
                    refine x_bipush (v := 6) rfl kb_6 ?_
                    refine z_iadd rfl rfl jk_6 (by omega) (fun v41 ev41 => ?_)
                    refine x_bipush (v := 28) rfl kb_28 ?_
                    refine x_iloadn (x := v14) rfl rfl ?_
                    refine x_iconst (v := 3) rfl ki_3 ?_
                    refine z_irem rfl rfl jk_3 (by omega) (by omega) (fun v42 ev42 => ?_)
                    refine z_imul rfl jk_28 rfl (by omega) (fun v43 ev43 => ?_)
                    refine z_iadd rfl rfl rfl (by omega) (fun v44 ev44 => ?_)
                    refine x_bipush (v := 14) rfl kb_14 ?_
                    refine x_iloadn (x := 0) rfl rfl ?_
                    refine y_imul (v := 0) rfl (by decide) ?_
                    refine z_iadd rfl rfl jk_0 (by omega) (fun v45 ev45 => ?_)
                    have rnv45 := jnam (m := v14.toInt) (w := 0) (v := v45.toInt) (by omega) (by omega) (by omega)
                    refine x_iret rfl rfl ?_
                    show jX m_X12_isNamed 6 0 0 10 [(0, .ref 125), (1, .int v14), (2, .int 0)] [.int v45, .ref 126] _ 0 0 _
                    refine z_ialdU (N := 50660) (lo := 0) (hi := 12) rfl J rfl rfl (by omega) ((show (v45.toInt - 20) % 90 = 6 ∨ (v45.toInt - 20) % 90 = 34 ∨ (v45.toInt - 20) % 90 = 62 from by omega).elim (fun q => (jrg_w (jrg_c J sg_126_20_18020_90_6_7 rfl (by omega)) (by decide))) (fun q => q.elim (fun q => (jrg_w (jrg_c J sg_126_20_18020_90_34_35 rfl (by omega)) (by decide))) (fun q => (jrg_w (jrg_c J sg_126_20_18020_90_62_63 rfl (by omega)) (by decide))))) (fun v46 qv46 ev46 => ?_)
                    try rw [vrd qv46 (show ((((20 + (90 * ((((l2.toInt / 3) * 3) + l5.toInt) / 3))) + 6) + (28 * ((((l2.toInt / 3) * 3) + l5.toInt) % 3))) + 0) = v45.toInt from by omega)] at D
                    refine x_ifle (tgt := 18) rfl rfl (ti_le rfl jk_0 ⟨fun c47 => ?_, fun c47 => ?_⟩)
                    ·
                      rw [if_pos (by omega)] at D
                      refine x_iconst (v := 0) rfl ki_0 ?_
                      refine x_zret rfl rfl (by decide) ?_
                      show jX m_X12_areKin 7 0 0 101 [(7, .int v14), (6, .int v11), (0, .ref 125), (1, .int l1), (2, .int l2), (3, .int l3), (4, .int l4), (5, .int l5)] [.int 0] _ 0 0 _
                      refine x_ifeq (tgt := 118) rfl rfl (ti_eq jk_0 jk_0 (br_t (by omega) ?_))
                      try rw [show (((l1.toInt / 3) * 3) + l4.toInt) = v11.toInt from by omega] at D
                      try rw [show (((l2.toInt / 3) * 3) + l5.toInt) = v14.toInt from by omega] at D
                      exact jX.sub (jsb_c rfl (jsb_c rfl (jsb_c rfl (jsb_c rfl (jsb_c rfl (jsb_c rfl (jsb_c rfl (jsb_c rfl jsb_n)))))))) (ct_X12_areKin_r125d_118 hD hQ k5 ih l1 l2 l3 l4 l5 v11 v14 h (jr_of rfl (by omega)) (jr_of rfl (by omega)) (jr_of rfl (by omega)) (jr_of rfl (by omega)) (jr_of rfl (by omega)) (jr_of rfl (by omega)) (jr_of rfl (by omega)) (by omega) (by omega) J Sm D)
                    ·
                      rw [if_neg (by omega)] at D
                      refine x_iconst (v := 1) rfl ki_1 ?_
                      refine x_goto (tgt := 19) rfl rfl ?_
                      refine x_zret rfl rfl (by decide) ?_
                      show jX m_X12_areKin 7 0 0 101 [(7, .int v14), (6, .int v11), (0, .ref 125), (1, .int l1), (2, .int l2), (3, .int l3), (4, .int l4), (5, .int l5)] [.int 1] _ 0 0 _
                      refine x_ifeq (tgt := 118) rfl rfl (ti_eq jk_1 jk_0 (br_f (by omega) ?_))
                      refine x_aloadn (x := 125) rfl rfl ?_
                      refine x_iload (x := v14) rfl rfl ?_
                      refine x_iconst (v := 1) rfl ki_1 ?_
                      refine x_inv (N := m_X12_isNamed) (As := [.int v14, .int 1]) (b := 125) (st := []) (dx9 := 6) (mc := 0) (ms := 0) (host := "") 12 rfl t_X12_isNamed ⟨Or.inl q_12_315, i_X12_isNamed.1, i_X12_isNamed.2⟩ ⟨by decide, rfl⟩ (congrArg Prod.fst (J.1.1 125 (12, 92) rfl)) rfl (by decide) rfl rfl ⟨by decide, by decide⟩ (jC.of rfl k_X12_isNamed rfl ?_)
                      show jX m_X12_isNamed 6 0 0 0 [(0, .ref 125), (1, .int v14), (2, .int 1)] [] _ 0 0 _
                      refine x_aloadn (x := 125) rfl rfl ?_
                      refine z_getR (N := 92) (b := 126) 12 2 rfl f_12_8 rfl J rfl 16002 ⟨rfl, rfl⟩ rfl ?_
                      refine x_aloadn (x := 125) rfl rfl ?_
                      refine x_iloadn (x := v14) rfl rfl ?_
                      refine x_iloadn (x := 1) rfl rfl ?_
                      refine x_inv (N := m_X12_nameAt) (As := [.int v14, .int 1]) (b := 125) (st := [.ref 126]) (dx9 := 5) (mc := 0) (ms := 0) (host := "") 12 rfl t_X12_nameAt ⟨Or.inl q_12_311, i_X12_nameAt.1, i_X12_nameAt.2⟩ ⟨by decide, rfl⟩ (congrArg Prod.fst (J.1.1 125 (12, 92) rfl)) rfl (by decide) rfl rfl ⟨by decide, by decide⟩ (jC.of rfl k_X12_nameAt rfl ?_)
                      show jX m_X12_nameAt 5 0 0 0 [(0, .ref 125), (1, .int v14), (2, .int 1)] [] _ 0 0 _
                      refine x_aloadn (x := 125) rfl rfl ?_
                      refine x_iloadn (x := v14) rfl rfl ?_
                      refine x_iconst (v := 3) rfl ki_3 ?_
                      refine z_idiv rfl rfl jk_3 (by omega) (by omega) (fun v48 ev48 => ?_)
                      refine x_inv (N := m_X12_at) (As := [.int v48]) (b := 125) (st := []) (dx9 := 4) (mc := 0) (ms := 0) (host := "") 12 rfl t_X12_at ⟨Or.inl q_12_254, i_X12_at.1, i_X12_at.2⟩ ⟨by decide, rfl⟩ (congrArg Prod.fst (J.1.1 125 (12, 92) rfl)) rfl (by decide) rfl rfl ⟨by decide, by decide⟩ (jC.of rfl k_X12_at rfl ?_)
                      show jX m_X12_at 4 0 0 0 [(0, .ref 125), (1, .int v48)] [] _ 0 0 _
                      refine x_bipush (v := 20) rfl kb_20 ?_
                      refine x_bipush (v := 90) rfl kb_90 ?_
                      refine x_iloadn (x := v48) rfl rfl ?_
                      refine z_imul rfl jk_90 rfl (by omega) (fun v49 ev49 => ?_)
                      refine z_iadd rfl jk_20 rfl (by omega) (fun v50 ev50 => ?_)
                      refine x_iret rfl rfl ?_
                      show jX m_X12_nameAt 5 0 0 7 [(0, .ref 125), (1, .int v14), (2, .int 1)] [.int v50] _ 0 0 _
                      refine x_bipush (v := 6) rfl kb_6 ?_
                      refine z_iadd rfl rfl jk_6 (by omega) (fun v51 ev51 => ?_)
                      refine x_bipush (v := 28) rfl kb_28 ?_
                      refine x_iloadn (x := v14) rfl rfl ?_
                      refine x_iconst (v := 3) rfl ki_3 ?_
                      refine z_irem rfl rfl jk_3 (by omega) (by omega) (fun v52 ev52 => ?_)
                      refine z_imul rfl jk_28 rfl (by omega) (fun v53 ev53 => ?_)
                      refine z_iadd rfl rfl rfl (by omega) (fun v54 ev54 => ?_)
                      refine x_bipush (v := 14) rfl kb_14 ?_
                      refine x_iloadn (x := 1) rfl rfl ?_
                      refine y_imul (v := 14) rfl (by decide) ?_
                      refine z_iadd rfl rfl jk_14 (by omega) (fun v55 ev55 => ?_)
                      have rnv55 := jnam (m := v14.toInt) (w := 1) (v := v55.toInt) (by omega) (by omega) (by omega)
                      refine x_iret rfl rfl ?_
                      show jX m_X12_isNamed 6 0 0 10 [(0, .ref 125), (1, .int v14), (2, .int 1)] [.int v55, .ref 126] _ 0 0 _
                      refine z_ialdU (N := 50660) (lo := 0) (hi := 12) rfl J rfl rfl (by omega) ((show (v55.toInt - 20) % 90 = 20 ∨ (v55.toInt - 20) % 90 = 48 ∨ (v55.toInt - 20) % 90 = 76 from by omega).elim (fun q => (jrg_w (jrg_c J sg_126_20_18020_90_20_21 rfl (by omega)) (by decide))) (fun q => q.elim (fun q => (jrg_w (jrg_c J sg_126_20_18020_90_48_49 rfl (by omega)) (by decide))) (fun q => (jrg_w (jrg_c J sg_126_20_18020_90_76_77 rfl (by omega)) (by decide))))) (fun v56 qv56 ev56 => ?_)
                      try rw [vrd qv56 (show ((((20 + (90 * ((((l2.toInt / 3) * 3) + l5.toInt) / 3))) + 6) + (28 * ((((l2.toInt / 3) * 3) + l5.toInt) % 3))) + 14) = v55.toInt from by omega)] at D
                      refine x_ifle (tgt := 18) rfl rfl (ti_le rfl jk_0 ⟨fun c57 => ?_, fun c57 => ?_⟩)
                      ·
                        rw [if_pos (by omega)] at D
                        refine x_iconst (v := 0) rfl ki_0 ?_
                        refine x_zret rfl rfl (by decide) ?_
                        show jX m_X12_areKin 7 0 0 111 [(7, .int v14), (6, .int v11), (0, .ref 125), (1, .int l1), (2, .int l2), (3, .int l3), (4, .int l4), (5, .int l5)] [.int 0] _ 0 0 _
                        refine x_ifeq (tgt := 118) rfl rfl (ti_eq jk_0 jk_0 (br_t (by omega) ?_))
                        try rw [show (((l1.toInt / 3) * 3) + l4.toInt) = v11.toInt from by omega] at D
                        try rw [show (((l2.toInt / 3) * 3) + l5.toInt) = v14.toInt from by omega] at D
                        exact jX.sub (jsb_c rfl (jsb_c rfl (jsb_c rfl (jsb_c rfl (jsb_c rfl (jsb_c rfl (jsb_c rfl (jsb_c rfl jsb_n)))))))) (ct_X12_areKin_r125d_118 hD hQ k5 ih l1 l2 l3 l4 l5 v11 v14 h (jr_of rfl (by omega)) (jr_of rfl (by omega)) (jr_of rfl (by omega)) (jr_of rfl (by omega)) (jr_of rfl (by omega)) (jr_of rfl (by omega)) (jr_of rfl (by omega)) (by omega) (by omega) J Sm D)
                      ·
                        rw [if_neg (by omega)] at D
                        refine x_iconst (v := 1) rfl ki_1 ?_
                        refine x_goto (tgt := 19) rfl rfl ?_
                        refine x_zret rfl rfl (by decide) ?_
                        show jX m_X12_areKin 7 0 0 111 [(7, .int v14), (6, .int v11), (0, .ref 125), (1, .int l1), (2, .int l2), (3, .int l3), (4, .int l4), (5, .int l5)] [.int 1] _ 0 0 _
                        refine x_ifeq (tgt := 118) rfl rfl (ti_eq jk_1 jk_0 (br_f (by omega) ?_))
                        refine x_iconst (v := 1) rfl ki_1 ?_
                        refine x_goto (tgt := 119) rfl rfl ?_
                        try rw [show (((l1.toInt / 3) * 3) + l4.toInt) = v11.toInt from by omega] at D
                        try rw [show (((l2.toInt / 3) * 3) + l5.toInt) = v14.toInt from by omega] at D
                        exact jX.sub (jsb_c rfl (jsb_c rfl (jsb_c rfl (jsb_c rfl (jsb_c rfl (jsb_c rfl (jsb_c rfl (jsb_c rfl jsb_n)))))))) (ct_X12_areKin_r125d_300119 hD hQ k5 ih l1 l2 l3 l4 l5 v11 v14 h (jr_of rfl (by omega)) (jr_of rfl (by omega)) (jr_of rfl (by omega)) (jr_of rfl (by omega)) (jr_of rfl (by omega)) (jr_of rfl (by omega)) (jr_of rfl (by omega)) (by omega) (by omega) J Sm D)
      ·
        rw [if_pos (by omega)] at D
        refine x_iconst (v := 2) rfl ki_2 ?_
        refine x_goto (tgt := 18) rfl rfl ?_
        refine x_iret rfl rfl ?_
        show jX m_X12_areKin 7 0 0 35 [(0, .ref 125), (1, .int l1), (2, .int l2), (3, .int l3), (4, .int l4), (5, .int l5)] [.int 2, .int l5] _ 0 0 _
        refine x_icge (tgt := 165) rfl rfl (ti_ge rfl jk_2 ⟨fun c58 => ?_, fun c58 => ?_⟩)
        ·
          rw [if_pos (by omega)] at D
          refine z_iinc (x := l4) (lsx9 := fun v59 => [(4, .int v59), (0, .ref 125), (1, .int l1), (2, .int l2), (3, .int l3), (5, .int l5)]) rfl rfl rfl jko_1 (by omega) rfl (fun _ => rfl) (fun v59 ev59 => ?_)
          refine x_goto (tgt := 5) rfl rfl ?_
          try rw [show (l4.toInt + 1) = v59.toInt from by omega] at D
          exact jX.sub (jsb_c rfl (jsb_c rfl (jsb_c rfl (jsb_c rfl (jsb_c rfl jsb_n))))) (k5 l1 l2 l3 v59 h (by omega) (jr_of rfl (by omega)) (jr_of rfl (by omega)) (jr_of rfl (by omega)) (jr_of rfl (by omega)) J Sm D)
        ·
          rw [if_neg (by omega)] at D
          refine x_iloadn (x := l1) rfl rfl ?_
          refine x_iconst (v := 3) rfl ki_3 ?_
          refine z_idiv rfl rfl jk_3 (by omega) (by omega) (fun v60 ev60 => ?_)
          refine x_iconst (v := 3) rfl ki_3 ?_
          refine z_imul rfl rfl jk_3 (by omega) (fun v61 ev61 => ?_)
          refine x_iload (x := l4) rfl rfl ?_
          refine z_iadd rfl rfl rfl (by omega) (fun v62 ev62 => ?_)
          refine x_istore (lsx9 := [(6, .int v62), (0, .ref 125), (1, .int l1), (2, .int l2), (3, .int l3), (4, .int l4), (5, .int l5)]) rfl rfl rfl ?_
          refine x_iloadn (x := l2) rfl rfl ?_
          refine x_iconst (v := 3) rfl ki_3 ?_
          refine z_idiv rfl rfl jk_3 (by omega) (by omega) (fun v63 ev63 => ?_)
          refine x_iconst (v := 3) rfl ki_3 ?_
          refine z_imul rfl rfl jk_3 (by omega) (fun v64 ev64 => ?_)
          refine x_iload (x := l5) rfl rfl ?_
          refine z_iadd rfl rfl rfl (by omega) (fun v65 ev65 => ?_)
          refine x_istore (lsx9 := [(7, .int v65), (6, .int v62), (0, .ref 125), (1, .int l1), (2, .int l2), (3, .int l3), (4, .int l4), (5, .int l5)]) rfl rfl rfl ?_
          refine x_iloadn (x := l3) rfl rfl ?_
          refine x_ifne (tgt := 118) rfl rfl (ti_ne rfl jk_0 ⟨fun c66 => ?_, fun c66 => ?_⟩)
          ·
            rw [if_neg (by omega)] at D
            try rw [show (((l1.toInt / 3) * 3) + l4.toInt) = v62.toInt from by omega] at D
            try rw [show (((l2.toInt / 3) * 3) + l5.toInt) = v65.toInt from by omega] at D
            exact jX.sub (jsb_c rfl (jsb_c rfl (jsb_c rfl (jsb_c rfl (jsb_c rfl (jsb_c rfl (jsb_c rfl (jsb_c rfl jsb_n)))))))) (ct_X12_areKin_r125d_118 hD hQ k5 ih l1 l2 l3 l4 l5 v62 v65 h (jr_of rfl (by omega)) (jr_of rfl (by omega)) (jr_of rfl (by omega)) (jr_of rfl (by omega)) (jr_of rfl (by omega)) (jr_of rfl (by omega)) (jr_of rfl (by omega)) (by omega) (by omega) J Sm D)
          ·
            rw [if_pos (by omega)] at D
            refine x_iload (x := v62) rfl rfl ?_
            refine x_iloadn (x := l1) rfl rfl ?_
            refine x_iceq (tgt := 118) rfl rfl (ti_eq rfl rfl ⟨fun c67 => ?_, fun c67 => ?_⟩)
            ·
              rw [if_pos (by omega)] at D
              try rw [show (((l1.toInt / 3) * 3) + l4.toInt) = v62.toInt from by omega] at D
              try rw [show (((l2.toInt / 3) * 3) + l5.toInt) = v65.toInt from by omega] at D
              exact jX.sub (jsb_c rfl (jsb_c rfl (jsb_c rfl (jsb_c rfl (jsb_c rfl (jsb_c rfl (jsb_c rfl (jsb_c rfl jsb_n)))))))) (ct_X12_areKin_r125d_118 hD hQ k5 ih l1 l2 l3 l4 l5 v62 v65 h (jr_of rfl (by omega)) (jr_of rfl (by omega)) (jr_of rfl (by omega)) (jr_of rfl (by omega)) (jr_of rfl (by omega)) (jr_of rfl (by omega)) (jr_of rfl (by omega)) (by omega) (by omega) J Sm D)
            ·
              rw [if_neg (by omega)] at D
              refine x_iload (x := v65) rfl rfl ?_
              refine x_iloadn (x := l2) rfl rfl ?_
              refine x_iceq (tgt := 118) rfl rfl (ti_eq rfl rfl ⟨fun c68 => ?_, fun c68 => ?_⟩)
              ·
                rw [if_pos (by omega)] at D
                try rw [show (((l1.toInt / 3) * 3) + l4.toInt) = v62.toInt from by omega] at D
                try rw [show (((l2.toInt / 3) * 3) + l5.toInt) = v65.toInt from by omega] at D
                exact jX.sub (jsb_c rfl (jsb_c rfl (jsb_c rfl (jsb_c rfl (jsb_c rfl (jsb_c rfl (jsb_c rfl (jsb_c rfl jsb_n)))))))) (ct_X12_areKin_r125d_118 hD hQ k5 ih l1 l2 l3 l4 l5 v62 v65 h (jr_of rfl (by omega)) (jr_of rfl (by omega)) (jr_of rfl (by omega)) (jr_of rfl (by omega)) (jr_of rfl (by omega)) (jr_of rfl (by omega)) (jr_of rfl (by omega)) (by omega) (by omega) J Sm D)
              ·
                rw [if_neg (by omega)] at D
                refine x_aloadn (x := 125) rfl rfl ?_
                refine x_iload (x := v62) rfl rfl ?_
                refine x_iconst (v := 0) rfl ki_0 ?_
                refine x_inv (N := m_X12_isNamed) (As := [.int v62, .int 0]) (b := 125) (st := []) (dx9 := 6) (mc := 0) (ms := 0) (host := "") 12 rfl t_X12_isNamed ⟨Or.inl q_12_315, i_X12_isNamed.1, i_X12_isNamed.2⟩ ⟨by decide, rfl⟩ (congrArg Prod.fst (J.1.1 125 (12, 92) rfl)) rfl (by decide) rfl rfl ⟨by decide, by decide⟩ (jC.of rfl k_X12_isNamed rfl ?_)
                show jX m_X12_isNamed 6 0 0 0 [(0, .ref 125), (1, .int v62), (2, .int 0)] [] _ 0 0 _
                refine x_aloadn (x := 125) rfl rfl ?_
                refine z_getR (N := 92) (b := 126) 12 2 rfl f_12_8 rfl J rfl 16002 ⟨rfl, rfl⟩ rfl ?_
                refine x_aloadn (x := 125) rfl rfl ?_
                refine x_iloadn (x := v62) rfl rfl ?_
                refine x_iloadn (x := 0) rfl rfl ?_
                refine x_inv (N := m_X12_nameAt) (As := [.int v62, .int 0]) (b := 125) (st := [.ref 126]) (dx9 := 5) (mc := 0) (ms := 0) (host := "") 12 rfl t_X12_nameAt ⟨Or.inl q_12_311, i_X12_nameAt.1, i_X12_nameAt.2⟩ ⟨by decide, rfl⟩ (congrArg Prod.fst (J.1.1 125 (12, 92) rfl)) rfl (by decide) rfl rfl ⟨by decide, by decide⟩ (jC.of rfl k_X12_nameAt rfl ?_)
                show jX m_X12_nameAt 5 0 0 0 [(0, .ref 125), (1, .int v62), (2, .int 0)] [] _ 0 0 _
                refine x_aloadn (x := 125) rfl rfl ?_
                refine x_iloadn (x := v62) rfl rfl ?_
                refine x_iconst (v := 3) rfl ki_3 ?_
                refine z_idiv rfl rfl jk_3 (by omega) (by omega) (fun v69 ev69 => ?_)
                refine x_inv (N := m_X12_at) (As := [.int v69]) (b := 125) (st := []) (dx9 := 4) (mc := 0) (ms := 0) (host := "") 12 rfl t_X12_at ⟨Or.inl q_12_254, i_X12_at.1, i_X12_at.2⟩ ⟨by decide, rfl⟩ (congrArg Prod.fst (J.1.1 125 (12, 92) rfl)) rfl (by decide) rfl rfl ⟨by decide, by decide⟩ (jC.of rfl k_X12_at rfl ?_)
                show jX m_X12_at 4 0 0 0 [(0, .ref 125), (1, .int v69)] [] _ 0 0 _
                refine x_bipush (v := 20) rfl kb_20 ?_
                refine x_bipush (v := 90) rfl kb_90 ?_
                refine x_iloadn (x := v69) rfl rfl ?_
                refine z_imul rfl jk_90 rfl (by omega) (fun v70 ev70 => ?_)
                refine z_iadd rfl jk_20 rfl (by omega) (fun v71 ev71 => ?_)
                refine x_iret rfl rfl ?_
                show jX m_X12_nameAt 5 0 0 7 [(0, .ref 125), (1, .int v62), (2, .int 0)] [.int v71] _ 0 0 _
                refine x_bipush (v := 6) rfl kb_6 ?_
                refine z_iadd rfl rfl jk_6 (by omega) (fun v72 ev72 => ?_)
                refine x_bipush (v := 28) rfl kb_28 ?_
                refine x_iloadn (x := v62) rfl rfl ?_
                refine x_iconst (v := 3) rfl ki_3 ?_
                refine z_irem rfl rfl jk_3 (by omega) (by omega) (fun v73 ev73 => ?_)
                refine z_imul rfl jk_28 rfl (by omega) (fun v74 ev74 => ?_)
                refine z_iadd rfl rfl rfl (by omega) (fun v75 ev75 => ?_)
                refine x_bipush (v := 14) rfl kb_14 ?_
                refine x_iloadn (x := 0) rfl rfl ?_
                refine y_imul (v := 0) rfl (by decide) ?_
                refine z_iadd rfl rfl jk_0 (by omega) (fun v76 ev76 => ?_)
                have rnv76 := jnam (m := v62.toInt) (w := 0) (v := v76.toInt) (by omega) (by omega) (by omega)
                refine x_iret rfl rfl ?_
                show jX m_X12_isNamed 6 0 0 10 [(0, .ref 125), (1, .int v62), (2, .int 0)] [.int v76, .ref 126] _ 0 0 _
                refine z_ialdU (N := 50660) (lo := 0) (hi := 12) rfl J rfl rfl (by omega) ((show (v76.toInt - 20) % 90 = 6 ∨ (v76.toInt - 20) % 90 = 34 ∨ (v76.toInt - 20) % 90 = 62 from by omega).elim (fun q => (jrg_w (jrg_c J sg_126_20_18020_90_6_7 rfl (by omega)) (by decide))) (fun q => q.elim (fun q => (jrg_w (jrg_c J sg_126_20_18020_90_34_35 rfl (by omega)) (by decide))) (fun q => (jrg_w (jrg_c J sg_126_20_18020_90_62_63 rfl (by omega)) (by decide))))) (fun v77 qv77 ev77 => ?_)
                try rw [vrd qv77 (show ((((20 + (90 * ((((l1.toInt / 3) * 3) + l4.toInt) / 3))) + 6) + (28 * ((((l1.toInt / 3) * 3) + l4.toInt) % 3))) + 0) = v76.toInt from by omega)] at D
                refine x_ifle (tgt := 18) rfl rfl (ti_le rfl jk_0 ⟨fun c78 => ?_, fun c78 => ?_⟩)
                ·
                  rw [if_pos (by omega)] at D
                  refine x_iconst (v := 0) rfl ki_0 ?_
                  refine x_zret rfl rfl (by decide) ?_
                  show jX m_X12_areKin 7 0 0 81 [(7, .int v65), (6, .int v62), (0, .ref 125), (1, .int l1), (2, .int l2), (3, .int l3), (4, .int l4), (5, .int l5)] [.int 0] _ 0 0 _
                  refine x_ifeq (tgt := 118) rfl rfl (ti_eq jk_0 jk_0 (br_t (by omega) ?_))
                  try rw [show (((l1.toInt / 3) * 3) + l4.toInt) = v62.toInt from by omega] at D
                  try rw [show (((l2.toInt / 3) * 3) + l5.toInt) = v65.toInt from by omega] at D
                  exact jX.sub (jsb_c rfl (jsb_c rfl (jsb_c rfl (jsb_c rfl (jsb_c rfl (jsb_c rfl (jsb_c rfl (jsb_c rfl jsb_n)))))))) (ct_X12_areKin_r125d_118 hD hQ k5 ih l1 l2 l3 l4 l5 v62 v65 h (jr_of rfl (by omega)) (jr_of rfl (by omega)) (jr_of rfl (by omega)) (jr_of rfl (by omega)) (jr_of rfl (by omega)) (jr_of rfl (by omega)) (jr_of rfl (by omega)) (by omega) (by omega) J Sm D)
                ·
                  rw [if_neg (by omega)] at D
                  refine x_iconst (v := 1) rfl ki_1 ?_
                  refine x_goto (tgt := 19) rfl rfl ?_
                  refine x_zret rfl rfl (by decide) ?_
                  show jX m_X12_areKin 7 0 0 81 [(7, .int v65), (6, .int v62), (0, .ref 125), (1, .int l1), (2, .int l2), (3, .int l3), (4, .int l4), (5, .int l5)] [.int 1] _ 0 0 _
                  refine x_ifeq (tgt := 118) rfl rfl (ti_eq jk_1 jk_0 (br_f (by omega) ?_))
                  refine x_aloadn (x := 125) rfl rfl ?_
                  refine x_iload (x := v62) rfl rfl ?_
                  refine x_iconst (v := 1) rfl ki_1 ?_
                  refine x_inv (N := m_X12_isNamed) (As := [.int v62, .int 1]) (b := 125) (st := []) (dx9 := 6) (mc := 0) (ms := 0) (host := "") 12 rfl t_X12_isNamed ⟨Or.inl q_12_315, i_X12_isNamed.1, i_X12_isNamed.2⟩ ⟨by decide, rfl⟩ (congrArg Prod.fst (J.1.1 125 (12, 92) rfl)) rfl (by decide) rfl rfl ⟨by decide, by decide⟩ (jC.of rfl k_X12_isNamed rfl ?_)
                  show jX m_X12_isNamed 6 0 0 0 [(0, .ref 125), (1, .int v62), (2, .int 1)] [] _ 0 0 _
                  refine x_aloadn (x := 125) rfl rfl ?_
                  refine z_getR (N := 92) (b := 126) 12 2 rfl f_12_8 rfl J rfl 16002 ⟨rfl, rfl⟩ rfl ?_
                  refine x_aloadn (x := 125) rfl rfl ?_
                  refine x_iloadn (x := v62) rfl rfl ?_
                  refine x_iloadn (x := 1) rfl rfl ?_
                  refine x_inv (N := m_X12_nameAt) (As := [.int v62, .int 1]) (b := 125) (st := [.ref 126]) (dx9 := 5) (mc := 0) (ms := 0) (host := "") 12 rfl t_X12_nameAt ⟨Or.inl q_12_311, i_X12_nameAt.1, i_X12_nameAt.2⟩ ⟨by decide, rfl⟩ (congrArg Prod.fst (J.1.1 125 (12, 92) rfl)) rfl (by decide) rfl rfl ⟨by decide, by decide⟩ (jC.of rfl k_X12_nameAt rfl ?_)
                  show jX m_X12_nameAt 5 0 0 0 [(0, .ref 125), (1, .int v62), (2, .int 1)] [] _ 0 0 _
                  refine x_aloadn (x := 125) rfl rfl ?_
                  refine x_iloadn (x := v62) rfl rfl ?_
                  refine x_iconst (v := 3) rfl ki_3 ?_
                  refine z_idiv rfl rfl jk_3 (by omega) (by omega) (fun v79 ev79 => ?_)
                  refine x_inv (N := m_X12_at) (As := [.int v79]) (b := 125) (st := []) (dx9 := 4) (mc := 0) (ms := 0) (host := "") 12 rfl t_X12_at ⟨Or.inl q_12_254, i_X12_at.1, i_X12_at.2⟩ ⟨by decide, rfl⟩ (congrArg Prod.fst (J.1.1 125 (12, 92) rfl)) rfl (by decide) rfl rfl ⟨by decide, by decide⟩ (jC.of rfl k_X12_at rfl ?_)
                  show jX m_X12_at 4 0 0 0 [(0, .ref 125), (1, .int v79)] [] _ 0 0 _
                  refine x_bipush (v := 20) rfl kb_20 ?_
                  refine x_bipush (v := 90) rfl kb_90 ?_
                  refine x_iloadn (x := v79) rfl rfl ?_
                  refine z_imul rfl jk_90 rfl (by omega) (fun v80 ev80 => ?_)
                  refine z_iadd rfl jk_20 rfl (by omega) (fun v81 ev81 => ?_)
                  refine x_iret rfl rfl ?_
                  show jX m_X12_nameAt 5 0 0 7 [(0, .ref 125), (1, .int v62), (2, .int 1)] [.int v81] _ 0 0 _
                  refine x_bipush (v := 6) rfl kb_6 ?_
                  refine z_iadd rfl rfl jk_6 (by omega) (fun v82 ev82 => ?_)
                  refine x_bipush (v := 28) rfl kb_28 ?_
                  refine x_iloadn (x := v62) rfl rfl ?_
                  refine x_iconst (v := 3) rfl ki_3 ?_
                  refine z_irem rfl rfl jk_3 (by omega) (by omega) (fun v83 ev83 => ?_)
                  refine z_imul rfl jk_28 rfl (by omega) (fun v84 ev84 => ?_)
                  refine z_iadd rfl rfl rfl (by omega) (fun v85 ev85 => ?_)
                  refine x_bipush (v := 14) rfl kb_14 ?_
                  refine x_iloadn (x := 1) rfl rfl ?_
                  refine y_imul (v := 14) rfl (by decide) ?_
                  refine z_iadd rfl rfl jk_14 (by omega) (fun v86 ev86 => ?_)
                  have rnv86 := jnam (m := v62.toInt) (w := 1) (v := v86.toInt) (by omega) (by omega) (by omega)
                  refine x_iret rfl rfl ?_
                  show jX m_X12_isNamed 6 0 0 10 [(0, .ref 125), (1, .int v62), (2, .int 1)] [.int v86, .ref 126] _ 0 0 _
                  refine z_ialdU (N := 50660) (lo := 0) (hi := 12) rfl J rfl rfl (by omega) ((show (v86.toInt - 20) % 90 = 20 ∨ (v86.toInt - 20) % 90 = 48 ∨ (v86.toInt - 20) % 90 = 76 from by omega).elim (fun q => (jrg_w (jrg_c J sg_126_20_18020_90_20_21 rfl (by omega)) (by decide))) (fun q => q.elim (fun q => (jrg_w (jrg_c J sg_126_20_18020_90_48_49 rfl (by omega)) (by decide))) (fun q => (jrg_w (jrg_c J sg_126_20_18020_90_76_77 rfl (by omega)) (by decide))))) (fun v87 qv87 ev87 => ?_)
                  try rw [vrd qv87 (show ((((20 + (90 * ((((l1.toInt / 3) * 3) + l4.toInt) / 3))) + 6) + (28 * ((((l1.toInt / 3) * 3) + l4.toInt) % 3))) + 14) = v86.toInt from by omega)] at D
                  refine x_ifle (tgt := 18) rfl rfl (ti_le rfl jk_0 ⟨fun c88 => ?_, fun c88 => ?_⟩)
                  ·
                    rw [if_pos (by omega)] at D
                    refine x_iconst (v := 0) rfl ki_0 ?_
                    refine x_zret rfl rfl (by decide) ?_
                    show jX m_X12_areKin 7 0 0 91 [(7, .int v65), (6, .int v62), (0, .ref 125), (1, .int l1), (2, .int l2), (3, .int l3), (4, .int l4), (5, .int l5)] [.int 0] _ 0 0 _
                    refine x_ifeq (tgt := 118) rfl rfl (ti_eq jk_0 jk_0 (br_t (by omega) ?_))
                    try rw [show (((l1.toInt / 3) * 3) + l4.toInt) = v62.toInt from by omega] at D
                    try rw [show (((l2.toInt / 3) * 3) + l5.toInt) = v65.toInt from by omega] at D
                    exact jX.sub (jsb_c rfl (jsb_c rfl (jsb_c rfl (jsb_c rfl (jsb_c rfl (jsb_c rfl (jsb_c rfl (jsb_c rfl jsb_n)))))))) (ct_X12_areKin_r125d_118 hD hQ k5 ih l1 l2 l3 l4 l5 v62 v65 h (jr_of rfl (by omega)) (jr_of rfl (by omega)) (jr_of rfl (by omega)) (jr_of rfl (by omega)) (jr_of rfl (by omega)) (jr_of rfl (by omega)) (jr_of rfl (by omega)) (by omega) (by omega) J Sm D)
                  ·
                    rw [if_neg (by omega)] at D
                    refine x_iconst (v := 1) rfl ki_1 ?_
                    refine x_goto (tgt := 19) rfl rfl ?_
                    refine x_zret rfl rfl (by decide) ?_
                    show jX m_X12_areKin 7 0 0 91 [(7, .int v65), (6, .int v62), (0, .ref 125), (1, .int l1), (2, .int l2), (3, .int l3), (4, .int l4), (5, .int l5)] [.int 1] _ 0 0 _
                    refine x_ifeq (tgt := 118) rfl rfl (ti_eq jk_1 jk_0 (br_f (by omega) ?_))
                    refine x_aloadn (x := 125) rfl rfl ?_
                    refine x_iload (x := v65) rfl rfl ?_
                    refine x_iconst (v := 0) rfl ki_0 ?_
                    refine x_inv (N := m_X12_isNamed) (As := [.int v65, .int 0]) (b := 125) (st := []) (dx9 := 6) (mc := 0) (ms := 0) (host := "") 12 rfl t_X12_isNamed ⟨Or.inl q_12_315, i_X12_isNamed.1, i_X12_isNamed.2⟩ ⟨by decide, rfl⟩ (congrArg Prod.fst (J.1.1 125 (12, 92) rfl)) rfl (by decide) rfl rfl ⟨by decide, by decide⟩ (jC.of rfl k_X12_isNamed rfl ?_)
                    show jX m_X12_isNamed 6 0 0 0 [(0, .ref 125), (1, .int v65), (2, .int 0)] [] _ 0 0 _
                    refine x_aloadn (x := 125) rfl rfl ?_
                    refine z_getR (N := 92) (b := 126) 12 2 rfl f_12_8 rfl J rfl 16002 ⟨rfl, rfl⟩ rfl ?_
                    refine x_aloadn (x := 125) rfl rfl ?_
                    refine x_iloadn (x := v65) rfl rfl ?_
                    refine x_iloadn (x := 0) rfl rfl ?_
                    refine x_inv (N := m_X12_nameAt) (As := [.int v65, .int 0]) (b := 125) (st := [.ref 126]) (dx9 := 5) (mc := 0) (ms := 0) (host := "") 12 rfl t_X12_nameAt ⟨Or.inl q_12_311, i_X12_nameAt.1, i_X12_nameAt.2⟩ ⟨by decide, rfl⟩ (congrArg Prod.fst (J.1.1 125 (12, 92) rfl)) rfl (by decide) rfl rfl ⟨by decide, by decide⟩ (jC.of rfl k_X12_nameAt rfl ?_)
                    show jX m_X12_nameAt 5 0 0 0 [(0, .ref 125), (1, .int v65), (2, .int 0)] [] _ 0 0 _
                    refine x_aloadn (x := 125) rfl rfl ?_
                    refine x_iloadn (x := v65) rfl rfl ?_
                    refine x_iconst (v := 3) rfl ki_3 ?_
                    refine z_idiv rfl rfl jk_3 (by omega) (by omega) (fun v89 ev89 => ?_)
                    refine x_inv (N := m_X12_at) (As := [.int v89]) (b := 125) (st := []) (dx9 := 4) (mc := 0) (ms := 0) (host := "") 12 rfl t_X12_at ⟨Or.inl q_12_254, i_X12_at.1, i_X12_at.2⟩ ⟨by decide, rfl⟩ (congrArg Prod.fst (J.1.1 125 (12, 92) rfl)) rfl (by decide) rfl rfl ⟨by decide, by decide⟩ (jC.of rfl k_X12_at rfl ?_)
                    show jX m_X12_at 4 0 0 0 [(0, .ref 125), (1, .int v89)] [] _ 0 0 _
                    refine x_bipush (v := 20) rfl kb_20 ?_
                    refine x_bipush (v := 90) rfl kb_90 ?_
                    refine x_iloadn (x := v89) rfl rfl ?_
                    refine z_imul rfl jk_90 rfl (by omega) (fun v90 ev90 => ?_)
                    refine z_iadd rfl jk_20 rfl (by omega) (fun v91 ev91 => ?_)
                    refine x_iret rfl rfl ?_
                    show jX m_X12_nameAt 5 0 0 7 [(0, .ref 125), (1, .int v65), (2, .int 0)] [.int v91] _ 0 0 _
                    refine x_bipush (v := 6) rfl kb_6 ?_
                    refine z_iadd rfl rfl jk_6 (by omega) (fun v92 ev92 => ?_)
                    refine x_bipush (v := 28) rfl kb_28 ?_
                    refine x_iloadn (x := v65) rfl rfl ?_
                    refine x_iconst (v := 3) rfl ki_3 ?_
                    refine z_irem rfl rfl jk_3 (by omega) (by omega) (fun v93 ev93 => ?_)
                    refine z_imul rfl jk_28 rfl (by omega) (fun v94 ev94 => ?_)
                    refine z_iadd rfl rfl rfl (by omega) (fun v95 ev95 => ?_)
                    refine x_bipush (v := 14) rfl kb_14 ?_
                    refine x_iloadn (x := 0) rfl rfl ?_
                    refine y_imul (v := 0) rfl (by decide) ?_
                    refine z_iadd rfl rfl jk_0 (by omega) (fun v96 ev96 => ?_)
                    have rnv96 := jnam (m := v65.toInt) (w := 0) (v := v96.toInt) (by omega) (by omega) (by omega)
                    refine x_iret rfl rfl ?_
                    show jX m_X12_isNamed 6 0 0 10 [(0, .ref 125), (1, .int v65), (2, .int 0)] [.int v96, .ref 126] _ 0 0 _
                    refine z_ialdU (N := 50660) (lo := 0) (hi := 12) rfl J rfl rfl (by omega) ((show (v96.toInt - 20) % 90 = 6 ∨ (v96.toInt - 20) % 90 = 34 ∨ (v96.toInt - 20) % 90 = 62 from by omega).elim (fun q => (jrg_w (jrg_c J sg_126_20_18020_90_6_7 rfl (by omega)) (by decide))) (fun q => q.elim (fun q => (jrg_w (jrg_c J sg_126_20_18020_90_34_35 rfl (by omega)) (by decide))) (fun q => (jrg_w (jrg_c J sg_126_20_18020_90_62_63 rfl (by omega)) (by decide))))) (fun v97 qv97 ev97 => ?_)
                    try rw [vrd qv97 (show ((((20 + (90 * ((((l2.toInt / 3) * 3) + l5.toInt) / 3))) + 6) + (28 * ((((l2.toInt / 3) * 3) + l5.toInt) % 3))) + 0) = v96.toInt from by omega)] at D
                    refine x_ifle (tgt := 18) rfl rfl (ti_le rfl jk_0 ⟨fun c98 => ?_, fun c98 => ?_⟩)
                    ·
                      rw [if_pos (by omega)] at D
                      refine x_iconst (v := 0) rfl ki_0 ?_
                      refine x_zret rfl rfl (by decide) ?_
                      show jX m_X12_areKin 7 0 0 101 [(7, .int v65), (6, .int v62), (0, .ref 125), (1, .int l1), (2, .int l2), (3, .int l3), (4, .int l4), (5, .int l5)] [.int 0] _ 0 0 _
                      refine x_ifeq (tgt := 118) rfl rfl (ti_eq jk_0 jk_0 (br_t (by omega) ?_))
                      try rw [show (((l1.toInt / 3) * 3) + l4.toInt) = v62.toInt from by omega] at D
                      try rw [show (((l2.toInt / 3) * 3) + l5.toInt) = v65.toInt from by omega] at D
                      exact jX.sub (jsb_c rfl (jsb_c rfl (jsb_c rfl (jsb_c rfl (jsb_c rfl (jsb_c rfl (jsb_c rfl (jsb_c rfl jsb_n)))))))) (ct_X12_areKin_r125d_118 hD hQ k5 ih l1 l2 l3 l4 l5 v62 v65 h (jr_of rfl (by omega)) (jr_of rfl (by omega)) (jr_of rfl (by omega)) (jr_of rfl (by omega)) (jr_of rfl (by omega)) (jr_of rfl (by omega)) (jr_of rfl (by omega)) (by omega) (by omega) J Sm D)
                    ·
                      rw [if_neg (by omega)] at D
                      refine x_iconst (v := 1) rfl ki_1 ?_
                      refine x_goto (tgt := 19) rfl rfl ?_
                      refine x_zret rfl rfl (by decide) ?_
                      show jX m_X12_areKin 7 0 0 101 [(7, .int v65), (6, .int v62), (0, .ref 125), (1, .int l1), (2, .int l2), (3, .int l3), (4, .int l4), (5, .int l5)] [.int 1] _ 0 0 _
                      refine x_ifeq (tgt := 118) rfl rfl (ti_eq jk_1 jk_0 (br_f (by omega) ?_))
                      refine x_aloadn (x := 125) rfl rfl ?_
                      refine x_iload (x := v65) rfl rfl ?_
                      refine x_iconst (v := 1) rfl ki_1 ?_
                      refine x_inv (N := m_X12_isNamed) (As := [.int v65, .int 1]) (b := 125) (st := []) (dx9 := 6) (mc := 0) (ms := 0) (host := "") 12 rfl t_X12_isNamed ⟨Or.inl q_12_315, i_X12_isNamed.1, i_X12_isNamed.2⟩ ⟨by decide, rfl⟩ (congrArg Prod.fst (J.1.1 125 (12, 92) rfl)) rfl (by decide) rfl rfl ⟨by decide, by decide⟩ (jC.of rfl k_X12_isNamed rfl ?_)
                      show jX m_X12_isNamed 6 0 0 0 [(0, .ref 125), (1, .int v65), (2, .int 1)] [] _ 0 0 _
                      refine x_aloadn (x := 125) rfl rfl ?_
                      refine z_getR (N := 92) (b := 126) 12 2 rfl f_12_8 rfl J rfl 16002 ⟨rfl, rfl⟩ rfl ?_
                      refine x_aloadn (x := 125) rfl rfl ?_
                      refine x_iloadn (x := v65) rfl rfl ?_
                      refine x_iloadn (x := 1) rfl rfl ?_
                      refine x_inv (N := m_X12_nameAt) (As := [.int v65, .int 1]) (b := 125) (st := [.ref 126]) (dx9 := 5) (mc := 0) (ms := 0) (host := "") 12 rfl t_X12_nameAt ⟨Or.inl q_12_311, i_X12_nameAt.1, i_X12_nameAt.2⟩ ⟨by decide, rfl⟩ (congrArg Prod.fst (J.1.1 125 (12, 92) rfl)) rfl (by decide) rfl rfl ⟨by decide, by decide⟩ (jC.of rfl k_X12_nameAt rfl ?_)
                      show jX m_X12_nameAt 5 0 0 0 [(0, .ref 125), (1, .int v65), (2, .int 1)] [] _ 0 0 _
                      refine x_aloadn (x := 125) rfl rfl ?_
                      refine x_iloadn (x := v65) rfl rfl ?_
                      refine x_iconst (v := 3) rfl ki_3 ?_
                      refine z_idiv rfl rfl jk_3 (by omega) (by omega) (fun v99 ev99 => ?_)
                      refine x_inv (N := m_X12_at) (As := [.int v99]) (b := 125) (st := []) (dx9 := 4) (mc := 0) (ms := 0) (host := "") 12 rfl t_X12_at ⟨Or.inl q_12_254, i_X12_at.1, i_X12_at.2⟩ ⟨by decide, rfl⟩ (congrArg Prod.fst (J.1.1 125 (12, 92) rfl)) rfl (by decide) rfl rfl ⟨by decide, by decide⟩ (jC.of rfl k_X12_at rfl ?_)
                      show jX m_X12_at 4 0 0 0 [(0, .ref 125), (1, .int v99)] [] _ 0 0 _
                      refine x_bipush (v := 20) rfl kb_20 ?_
                      refine x_bipush (v := 90) rfl kb_90 ?_
                      refine x_iloadn (x := v99) rfl rfl ?_
                      refine z_imul rfl jk_90 rfl (by omega) (fun v100 ev100 => ?_)
                      refine z_iadd rfl jk_20 rfl (by omega) (fun v101 ev101 => ?_)
                      refine x_iret rfl rfl ?_
                      show jX m_X12_nameAt 5 0 0 7 [(0, .ref 125), (1, .int v65), (2, .int 1)] [.int v101] _ 0 0 _
                      refine x_bipush (v := 6) rfl kb_6 ?_
                      refine z_iadd rfl rfl jk_6 (by omega) (fun v102 ev102 => ?_)
                      refine x_bipush (v := 28) rfl kb_28 ?_
                      refine x_iloadn (x := v65) rfl rfl ?_
                      refine x_iconst (v := 3) rfl ki_3 ?_
                      refine z_irem rfl rfl jk_3 (by omega) (by omega) (fun v103 ev103 => ?_)
                      refine z_imul rfl jk_28 rfl (by omega) (fun v104 ev104 => ?_)
                      refine z_iadd rfl rfl rfl (by omega) (fun v105 ev105 => ?_)
                      refine x_bipush (v := 14) rfl kb_14 ?_
                      refine x_iloadn (x := 1) rfl rfl ?_
                      refine y_imul (v := 14) rfl (by decide) ?_
                      refine z_iadd rfl rfl jk_14 (by omega) (fun v106 ev106 => ?_)
                      have rnv106 := jnam (m := v65.toInt) (w := 1) (v := v106.toInt) (by omega) (by omega) (by omega)
                      refine x_iret rfl rfl ?_
                      show jX m_X12_isNamed 6 0 0 10 [(0, .ref 125), (1, .int v65), (2, .int 1)] [.int v106, .ref 126] _ 0 0 _
                      refine z_ialdU (N := 50660) (lo := 0) (hi := 12) rfl J rfl rfl (by omega) ((show (v106.toInt - 20) % 90 = 20 ∨ (v106.toInt - 20) % 90 = 48 ∨ (v106.toInt - 20) % 90 = 76 from by omega).elim (fun q => (jrg_w (jrg_c J sg_126_20_18020_90_20_21 rfl (by omega)) (by decide))) (fun q => q.elim (fun q => (jrg_w (jrg_c J sg_126_20_18020_90_48_49 rfl (by omega)) (by decide))) (fun q => (jrg_w (jrg_c J sg_126_20_18020_90_76_77 rfl (by omega)) (by decide))))) (fun v107 qv107 ev107 => ?_)
                      try rw [vrd qv107 (show ((((20 + (90 * ((((l2.toInt / 3) * 3) + l5.toInt) / 3))) + 6) + (28 * ((((l2.toInt / 3) * 3) + l5.toInt) % 3))) + 14) = v106.toInt from by omega)] at D
                      refine x_ifle (tgt := 18) rfl rfl (ti_le rfl jk_0 ⟨fun c108 => ?_, fun c108 => ?_⟩)
                      ·
                        rw [if_pos (by omega)] at D
                        refine x_iconst (v := 0) rfl ki_0 ?_
                        refine x_zret rfl rfl (by decide) ?_
                        show jX m_X12_areKin 7 0 0 111 [(7, .int v65), (6, .int v62), (0, .ref 125), (1, .int l1), (2, .int l2), (3, .int l3), (4, .int l4), (5, .int l5)] [.int 0] _ 0 0 _
                        refine x_ifeq (tgt := 118) rfl rfl (ti_eq jk_0 jk_0 (br_t (by omega) ?_))
                        try rw [show (((l1.toInt / 3) * 3) + l4.toInt) = v62.toInt from by omega] at D
                        try rw [show (((l2.toInt / 3) * 3) + l5.toInt) = v65.toInt from by omega] at D
                        exact jX.sub (jsb_c rfl (jsb_c rfl (jsb_c rfl (jsb_c rfl (jsb_c rfl (jsb_c rfl (jsb_c rfl (jsb_c rfl jsb_n)))))))) (ct_X12_areKin_r125d_118 hD hQ k5 ih l1 l2 l3 l4 l5 v62 v65 h (jr_of rfl (by omega)) (jr_of rfl (by omega)) (jr_of rfl (by omega)) (jr_of rfl (by omega)) (jr_of rfl (by omega)) (jr_of rfl (by omega)) (jr_of rfl (by omega)) (by omega) (by omega) J Sm D)
                      ·
                        rw [if_neg (by omega)] at D
                        refine x_iconst (v := 1) rfl ki_1 ?_
                        refine x_goto (tgt := 19) rfl rfl ?_
                        refine x_zret rfl rfl (by decide) ?_
                        show jX m_X12_areKin 7 0 0 111 [(7, .int v65), (6, .int v62), (0, .ref 125), (1, .int l1), (2, .int l2), (3, .int l3), (4, .int l4), (5, .int l5)] [.int 1] _ 0 0 _
                        refine x_ifeq (tgt := 118) rfl rfl (ti_eq jk_1 jk_0 (br_f (by omega) ?_))
                        refine x_iconst (v := 1) rfl ki_1 ?_
                        refine x_goto (tgt := 119) rfl rfl ?_
                        try rw [show (((l1.toInt / 3) * 3) + l4.toInt) = v62.toInt from by omega] at D
                        try rw [show (((l2.toInt / 3) * 3) + l5.toInt) = v65.toInt from by omega] at D
                        exact jX.sub (jsb_c rfl (jsb_c rfl (jsb_c rfl (jsb_c rfl (jsb_c rfl (jsb_c rfl (jsb_c rfl (jsb_c rfl jsb_n)))))))) (ct_X12_areKin_r125d_300119 hD hQ k5 ih l1 l2 l3 l4 l5 v62 v65 h (jr_of rfl (by omega)) (jr_of rfl (by omega)) (jr_of rfl (by omega)) (jr_of rfl (by omega)) (jr_of rfl (by omega)) (jr_of rfl (by omega)) (jr_of rfl (by omega)) (by omega) (by omega) J Sm D)
    ·
      rw [if_pos (by omega)] at D
      refine x_iconst (v := 3) rfl ki_3 ?_
      refine x_goto (tgt := 18) rfl rfl ?_
      refine x_iret rfl rfl ?_
      show jX m_X12_areKin 7 0 0 35 [(0, .ref 125), (1, .int l1), (2, .int l2), (3, .int l3), (4, .int l4), (5, .int l5)] [.int 3, .int l5] _ 0 0 _
      refine x_icge (tgt := 165) rfl rfl (ti_ge rfl jk_3 ⟨fun c109 => ?_, fun c109 => ?_⟩)
      ·
        rw [if_pos (by omega)] at D
        refine z_iinc (x := l4) (lsx9 := fun v110 => [(4, .int v110), (0, .ref 125), (1, .int l1), (2, .int l2), (3, .int l3), (5, .int l5)]) rfl rfl rfl jko_1 (by omega) rfl (fun _ => rfl) (fun v110 ev110 => ?_)
        refine x_goto (tgt := 5) rfl rfl ?_
        try rw [show (l4.toInt + 1) = v110.toInt from by omega] at D
        exact jX.sub (jsb_c rfl (jsb_c rfl (jsb_c rfl (jsb_c rfl (jsb_c rfl jsb_n))))) (k5 l1 l2 l3 v110 h (by omega) (jr_of rfl (by omega)) (jr_of rfl (by omega)) (jr_of rfl (by omega)) (jr_of rfl (by omega)) J Sm D)
      ·
        rw [if_neg (by omega)] at D
        refine x_iloadn (x := l1) rfl rfl ?_
        refine x_iconst (v := 3) rfl ki_3 ?_
        refine z_idiv rfl rfl jk_3 (by omega) (by omega) (fun v111 ev111 => ?_)
        refine x_iconst (v := 3) rfl ki_3 ?_
        refine z_imul rfl rfl jk_3 (by omega) (fun v112 ev112 => ?_)
        refine x_iload (x := l4) rfl rfl ?_
        refine z_iadd rfl rfl rfl (by omega) (fun v113 ev113 => ?_)
        refine x_istore (lsx9 := [(6, .int v113), (0, .ref 125), (1, .int l1), (2, .int l2), (3, .int l3), (4, .int l4), (5, .int l5)]) rfl rfl rfl ?_
        refine x_iloadn (x := l2) rfl rfl ?_
        refine x_iconst (v := 3) rfl ki_3 ?_
        refine z_idiv rfl rfl jk_3 (by omega) (by omega) (fun v114 ev114 => ?_)
        refine x_iconst (v := 3) rfl ki_3 ?_
        refine z_imul rfl rfl jk_3 (by omega) (fun v115 ev115 => ?_)
        refine x_iload (x := l5) rfl rfl ?_
        refine z_iadd rfl rfl rfl (by omega) (fun v116 ev116 => ?_)
        refine x_istore (lsx9 := [(7, .int v116), (6, .int v113), (0, .ref 125), (1, .int l1), (2, .int l2), (3, .int l3), (4, .int l4), (5, .int l5)]) rfl rfl rfl ?_
        refine x_iloadn (x := l3) rfl rfl ?_
        refine x_ifne (tgt := 118) rfl rfl (ti_ne rfl jk_0 ⟨fun c117 => ?_, fun c117 => ?_⟩)
        ·
          rw [if_neg (by omega)] at D
          try rw [show (((l1.toInt / 3) * 3) + l4.toInt) = v113.toInt from by omega] at D
          try rw [show (((l2.toInt / 3) * 3) + l5.toInt) = v116.toInt from by omega] at D
          exact jX.sub (jsb_c rfl (jsb_c rfl (jsb_c rfl (jsb_c rfl (jsb_c rfl (jsb_c rfl (jsb_c rfl (jsb_c rfl jsb_n)))))))) (ct_X12_areKin_r125d_118 hD hQ k5 ih l1 l2 l3 l4 l5 v113 v116 h (jr_of rfl (by omega)) (jr_of rfl (by omega)) (jr_of rfl (by omega)) (jr_of rfl (by omega)) (jr_of rfl (by omega)) (jr_of rfl (by omega)) (jr_of rfl (by omega)) (by omega) (by omega) J Sm D)
        ·
          rw [if_pos (by omega)] at D
          refine x_iload (x := v113) rfl rfl ?_
          refine x_iloadn (x := l1) rfl rfl ?_
          refine x_iceq (tgt := 118) rfl rfl (ti_eq rfl rfl ⟨fun c118 => ?_, fun c118 => ?_⟩)
          ·
            rw [if_pos (by omega)] at D
            try rw [show (((l1.toInt / 3) * 3) + l4.toInt) = v113.toInt from by omega] at D
            try rw [show (((l2.toInt / 3) * 3) + l5.toInt) = v116.toInt from by omega] at D
            exact jX.sub (jsb_c rfl (jsb_c rfl (jsb_c rfl (jsb_c rfl (jsb_c rfl (jsb_c rfl (jsb_c rfl (jsb_c rfl jsb_n)))))))) (ct_X12_areKin_r125d_118 hD hQ k5 ih l1 l2 l3 l4 l5 v113 v116 h (jr_of rfl (by omega)) (jr_of rfl (by omega)) (jr_of rfl (by omega)) (jr_of rfl (by omega)) (jr_of rfl (by omega)) (jr_of rfl (by omega)) (jr_of rfl (by omega)) (by omega) (by omega) J Sm D)
          ·
            rw [if_neg (by omega)] at D
            refine x_iload (x := v116) rfl rfl ?_
            refine x_iloadn (x := l2) rfl rfl ?_
            refine x_iceq (tgt := 118) rfl rfl (ti_eq rfl rfl ⟨fun c119 => ?_, fun c119 => ?_⟩)
            ·
              rw [if_pos (by omega)] at D
              try rw [show (((l1.toInt / 3) * 3) + l4.toInt) = v113.toInt from by omega] at D
              try rw [show (((l2.toInt / 3) * 3) + l5.toInt) = v116.toInt from by omega] at D
              exact jX.sub (jsb_c rfl (jsb_c rfl (jsb_c rfl (jsb_c rfl (jsb_c rfl (jsb_c rfl (jsb_c rfl (jsb_c rfl jsb_n)))))))) (ct_X12_areKin_r125d_118 hD hQ k5 ih l1 l2 l3 l4 l5 v113 v116 h (jr_of rfl (by omega)) (jr_of rfl (by omega)) (jr_of rfl (by omega)) (jr_of rfl (by omega)) (jr_of rfl (by omega)) (jr_of rfl (by omega)) (jr_of rfl (by omega)) (by omega) (by omega) J Sm D)
            ·
              rw [if_neg (by omega)] at D
              refine x_aloadn (x := 125) rfl rfl ?_
              refine x_iload (x := v113) rfl rfl ?_
              refine x_iconst (v := 0) rfl ki_0 ?_
              refine x_inv (N := m_X12_isNamed) (As := [.int v113, .int 0]) (b := 125) (st := []) (dx9 := 6) (mc := 0) (ms := 0) (host := "") 12 rfl t_X12_isNamed ⟨Or.inl q_12_315, i_X12_isNamed.1, i_X12_isNamed.2⟩ ⟨by decide, rfl⟩ (congrArg Prod.fst (J.1.1 125 (12, 92) rfl)) rfl (by decide) rfl rfl ⟨by decide, by decide⟩ (jC.of rfl k_X12_isNamed rfl ?_)
              show jX m_X12_isNamed 6 0 0 0 [(0, .ref 125), (1, .int v113), (2, .int 0)] [] _ 0 0 _
              refine x_aloadn (x := 125) rfl rfl ?_
              refine z_getR (N := 92) (b := 126) 12 2 rfl f_12_8 rfl J rfl 16002 ⟨rfl, rfl⟩ rfl ?_
              refine x_aloadn (x := 125) rfl rfl ?_
              refine x_iloadn (x := v113) rfl rfl ?_
              refine x_iloadn (x := 0) rfl rfl ?_
              refine x_inv (N := m_X12_nameAt) (As := [.int v113, .int 0]) (b := 125) (st := [.ref 126]) (dx9 := 5) (mc := 0) (ms := 0) (host := "") 12 rfl t_X12_nameAt ⟨Or.inl q_12_311, i_X12_nameAt.1, i_X12_nameAt.2⟩ ⟨by decide, rfl⟩ (congrArg Prod.fst (J.1.1 125 (12, 92) rfl)) rfl (by decide) rfl rfl ⟨by decide, by decide⟩ (jC.of rfl k_X12_nameAt rfl ?_)
              show jX m_X12_nameAt 5 0 0 0 [(0, .ref 125), (1, .int v113), (2, .int 0)] [] _ 0 0 _
              refine x_aloadn (x := 125) rfl rfl ?_
              refine x_iloadn (x := v113) rfl rfl ?_
              refine x_iconst (v := 3) rfl ki_3 ?_
              refine z_idiv rfl rfl jk_3 (by omega) (by omega) (fun v120 ev120 => ?_)
              refine x_inv (N := m_X12_at) (As := [.int v120]) (b := 125) (st := []) (dx9 := 4) (mc := 0) (ms := 0) (host := "") 12 rfl t_X12_at ⟨Or.inl q_12_254, i_X12_at.1, i_X12_at.2⟩ ⟨by decide, rfl⟩ (congrArg Prod.fst (J.1.1 125 (12, 92) rfl)) rfl (by decide) rfl rfl ⟨by decide, by decide⟩ (jC.of rfl k_X12_at rfl ?_)
              show jX m_X12_at 4 0 0 0 [(0, .ref 125), (1, .int v120)] [] _ 0 0 _
              refine x_bipush (v := 20) rfl kb_20 ?_
              refine x_bipush (v := 90) rfl kb_90 ?_
              refine x_iloadn (x := v120) rfl rfl ?_
              refine z_imul rfl jk_90 rfl (by omega) (fun v121 ev121 => ?_)
              refine z_iadd rfl jk_20 rfl (by omega) (fun v122 ev122 => ?_)
              refine x_iret rfl rfl ?_
              show jX m_X12_nameAt 5 0 0 7 [(0, .ref 125), (1, .int v113), (2, .int 0)] [.int v122] _ 0 0 _
              refine x_bipush (v := 6) rfl kb_6 ?_
              refine z_iadd rfl rfl jk_6 (by omega) (fun v123 ev123 => ?_)
              refine x_bipush (v := 28) rfl kb_28 ?_
              refine x_iloadn (x := v113) rfl rfl ?_
              refine x_iconst (v := 3) rfl ki_3 ?_
              refine z_irem rfl rfl jk_3 (by omega) (by omega) (fun v124 ev124 => ?_)
              refine z_imul rfl jk_28 rfl (by omega) (fun v125 ev125 => ?_)
              refine z_iadd rfl rfl rfl (by omega) (fun v126 ev126 => ?_)
              refine x_bipush (v := 14) rfl kb_14 ?_
              refine x_iloadn (x := 0) rfl rfl ?_
              refine y_imul (v := 0) rfl (by decide) ?_
              refine z_iadd rfl rfl jk_0 (by omega) (fun v127 ev127 => ?_)
              have rnv127 := jnam (m := v113.toInt) (w := 0) (v := v127.toInt) (by omega) (by omega) (by omega)
              refine x_iret rfl rfl ?_
              show jX m_X12_isNamed 6 0 0 10 [(0, .ref 125), (1, .int v113), (2, .int 0)] [.int v127, .ref 126] _ 0 0 _
              refine z_ialdU (N := 50660) (lo := 0) (hi := 12) rfl J rfl rfl (by omega) ((show (v127.toInt - 20) % 90 = 6 ∨ (v127.toInt - 20) % 90 = 34 ∨ (v127.toInt - 20) % 90 = 62 from by omega).elim (fun q => (jrg_w (jrg_c J sg_126_20_18020_90_6_7 rfl (by omega)) (by decide))) (fun q => q.elim (fun q => (jrg_w (jrg_c J sg_126_20_18020_90_34_35 rfl (by omega)) (by decide))) (fun q => (jrg_w (jrg_c J sg_126_20_18020_90_62_63 rfl (by omega)) (by decide))))) (fun v128 qv128 ev128 => ?_)
              try rw [vrd qv128 (show ((((20 + (90 * ((((l1.toInt / 3) * 3) + l4.toInt) / 3))) + 6) + (28 * ((((l1.toInt / 3) * 3) + l4.toInt) % 3))) + 0) = v127.toInt from by omega)] at D
              refine x_ifle (tgt := 18) rfl rfl (ti_le rfl jk_0 ⟨fun c129 => ?_, fun c129 => ?_⟩)
              ·
                rw [if_pos (by omega)] at D
                refine x_iconst (v := 0) rfl ki_0 ?_
                refine x_zret rfl rfl (by decide) ?_
                show jX m_X12_areKin 7 0 0 81 [(7, .int v116), (6, .int v113), (0, .ref 125), (1, .int l1), (2, .int l2), (3, .int l3), (4, .int l4), (5, .int l5)] [.int 0] _ 0 0 _
                refine x_ifeq (tgt := 118) rfl rfl (ti_eq jk_0 jk_0 (br_t (by omega) ?_))
                try rw [show (((l1.toInt / 3) * 3) + l4.toInt) = v113.toInt from by omega] at D
                try rw [show (((l2.toInt / 3) * 3) + l5.toInt) = v116.toInt from by omega] at D
                exact jX.sub (jsb_c rfl (jsb_c rfl (jsb_c rfl (jsb_c rfl (jsb_c rfl (jsb_c rfl (jsb_c rfl (jsb_c rfl jsb_n)))))))) (ct_X12_areKin_r125d_118 hD hQ k5 ih l1 l2 l3 l4 l5 v113 v116 h (jr_of rfl (by omega)) (jr_of rfl (by omega)) (jr_of rfl (by omega)) (jr_of rfl (by omega)) (jr_of rfl (by omega)) (jr_of rfl (by omega)) (jr_of rfl (by omega)) (by omega) (by omega) J Sm D)
              ·
                rw [if_neg (by omega)] at D
                refine x_iconst (v := 1) rfl ki_1 ?_
                refine x_goto (tgt := 19) rfl rfl ?_
                refine x_zret rfl rfl (by decide) ?_
                show jX m_X12_areKin 7 0 0 81 [(7, .int v116), (6, .int v113), (0, .ref 125), (1, .int l1), (2, .int l2), (3, .int l3), (4, .int l4), (5, .int l5)] [.int 1] _ 0 0 _
                refine x_ifeq (tgt := 118) rfl rfl (ti_eq jk_1 jk_0 (br_f (by omega) ?_))
                refine x_aloadn (x := 125) rfl rfl ?_
                refine x_iload (x := v113) rfl rfl ?_
                refine x_iconst (v := 1) rfl ki_1 ?_
                refine x_inv (N := m_X12_isNamed) (As := [.int v113, .int 1]) (b := 125) (st := []) (dx9 := 6) (mc := 0) (ms := 0) (host := "") 12 rfl t_X12_isNamed ⟨Or.inl q_12_315, i_X12_isNamed.1, i_X12_isNamed.2⟩ ⟨by decide, rfl⟩ (congrArg Prod.fst (J.1.1 125 (12, 92) rfl)) rfl (by decide) rfl rfl ⟨by decide, by decide⟩ (jC.of rfl k_X12_isNamed rfl ?_)
                show jX m_X12_isNamed 6 0 0 0 [(0, .ref 125), (1, .int v113), (2, .int 1)] [] _ 0 0 _
                refine x_aloadn (x := 125) rfl rfl ?_
                refine z_getR (N := 92) (b := 126) 12 2 rfl f_12_8 rfl J rfl 16002 ⟨rfl, rfl⟩ rfl ?_
                refine x_aloadn (x := 125) rfl rfl ?_
                refine x_iloadn (x := v113) rfl rfl ?_
                refine x_iloadn (x := 1) rfl rfl ?_
                refine x_inv (N := m_X12_nameAt) (As := [.int v113, .int 1]) (b := 125) (st := [.ref 126]) (dx9 := 5) (mc := 0) (ms := 0) (host := "") 12 rfl t_X12_nameAt ⟨Or.inl q_12_311, i_X12_nameAt.1, i_X12_nameAt.2⟩ ⟨by decide, rfl⟩ (congrArg Prod.fst (J.1.1 125 (12, 92) rfl)) rfl (by decide) rfl rfl ⟨by decide, by decide⟩ (jC.of rfl k_X12_nameAt rfl ?_)
                show jX m_X12_nameAt 5 0 0 0 [(0, .ref 125), (1, .int v113), (2, .int 1)] [] _ 0 0 _
                refine x_aloadn (x := 125) rfl rfl ?_
                refine x_iloadn (x := v113) rfl rfl ?_
                refine x_iconst (v := 3) rfl ki_3 ?_
                refine z_idiv rfl rfl jk_3 (by omega) (by omega) (fun v130 ev130 => ?_)
                refine x_inv (N := m_X12_at) (As := [.int v130]) (b := 125) (st := []) (dx9 := 4) (mc := 0) (ms := 0) (host := "") 12 rfl t_X12_at ⟨Or.inl q_12_254, i_X12_at.1, i_X12_at.2⟩ ⟨by decide, rfl⟩ (congrArg Prod.fst (J.1.1 125 (12, 92) rfl)) rfl (by decide) rfl rfl ⟨by decide, by decide⟩ (jC.of rfl k_X12_at rfl ?_)
                show jX m_X12_at 4 0 0 0 [(0, .ref 125), (1, .int v130)] [] _ 0 0 _
                refine x_bipush (v := 20) rfl kb_20 ?_
                refine x_bipush (v := 90) rfl kb_90 ?_
                refine x_iloadn (x := v130) rfl rfl ?_
                refine z_imul rfl jk_90 rfl (by omega) (fun v131 ev131 => ?_)
                refine z_iadd rfl jk_20 rfl (by omega) (fun v132 ev132 => ?_)
                refine x_iret rfl rfl ?_
                show jX m_X12_nameAt 5 0 0 7 [(0, .ref 125), (1, .int v113), (2, .int 1)] [.int v132] _ 0 0 _
                refine x_bipush (v := 6) rfl kb_6 ?_
                refine z_iadd rfl rfl jk_6 (by omega) (fun v133 ev133 => ?_)
                refine x_bipush (v := 28) rfl kb_28 ?_
                refine x_iloadn (x := v113) rfl rfl ?_
                refine x_iconst (v := 3) rfl ki_3 ?_
                refine z_irem rfl rfl jk_3 (by omega) (by omega) (fun v134 ev134 => ?_)
                refine z_imul rfl jk_28 rfl (by omega) (fun v135 ev135 => ?_)
                refine z_iadd rfl rfl rfl (by omega) (fun v136 ev136 => ?_)
                refine x_bipush (v := 14) rfl kb_14 ?_
                refine x_iloadn (x := 1) rfl rfl ?_
                refine y_imul (v := 14) rfl (by decide) ?_
                refine z_iadd rfl rfl jk_14 (by omega) (fun v137 ev137 => ?_)
                have rnv137 := jnam (m := v113.toInt) (w := 1) (v := v137.toInt) (by omega) (by omega) (by omega)
                refine x_iret rfl rfl ?_
                show jX m_X12_isNamed 6 0 0 10 [(0, .ref 125), (1, .int v113), (2, .int 1)] [.int v137, .ref 126] _ 0 0 _
                refine z_ialdU (N := 50660) (lo := 0) (hi := 12) rfl J rfl rfl (by omega) ((show (v137.toInt - 20) % 90 = 20 ∨ (v137.toInt - 20) % 90 = 48 ∨ (v137.toInt - 20) % 90 = 76 from by omega).elim (fun q => (jrg_w (jrg_c J sg_126_20_18020_90_20_21 rfl (by omega)) (by decide))) (fun q => q.elim (fun q => (jrg_w (jrg_c J sg_126_20_18020_90_48_49 rfl (by omega)) (by decide))) (fun q => (jrg_w (jrg_c J sg_126_20_18020_90_76_77 rfl (by omega)) (by decide))))) (fun v138 qv138 ev138 => ?_)
                try rw [vrd qv138 (show ((((20 + (90 * ((((l1.toInt / 3) * 3) + l4.toInt) / 3))) + 6) + (28 * ((((l1.toInt / 3) * 3) + l4.toInt) % 3))) + 14) = v137.toInt from by omega)] at D
                refine x_ifle (tgt := 18) rfl rfl (ti_le rfl jk_0 ⟨fun c139 => ?_, fun c139 => ?_⟩)
                ·
                  rw [if_pos (by omega)] at D
                  refine x_iconst (v := 0) rfl ki_0 ?_
                  refine x_zret rfl rfl (by decide) ?_
                  show jX m_X12_areKin 7 0 0 91 [(7, .int v116), (6, .int v113), (0, .ref 125), (1, .int l1), (2, .int l2), (3, .int l3), (4, .int l4), (5, .int l5)] [.int 0] _ 0 0 _
                  refine x_ifeq (tgt := 118) rfl rfl (ti_eq jk_0 jk_0 (br_t (by omega) ?_))
                  try rw [show (((l1.toInt / 3) * 3) + l4.toInt) = v113.toInt from by omega] at D
                  try rw [show (((l2.toInt / 3) * 3) + l5.toInt) = v116.toInt from by omega] at D
                  exact jX.sub (jsb_c rfl (jsb_c rfl (jsb_c rfl (jsb_c rfl (jsb_c rfl (jsb_c rfl (jsb_c rfl (jsb_c rfl jsb_n)))))))) (ct_X12_areKin_r125d_118 hD hQ k5 ih l1 l2 l3 l4 l5 v113 v116 h (jr_of rfl (by omega)) (jr_of rfl (by omega)) (jr_of rfl (by omega)) (jr_of rfl (by omega)) (jr_of rfl (by omega)) (jr_of rfl (by omega)) (jr_of rfl (by omega)) (by omega) (by omega) J Sm D)
                ·
                  rw [if_neg (by omega)] at D
                  refine x_iconst (v := 1) rfl ki_1 ?_
                  refine x_goto (tgt := 19) rfl rfl ?_
                  refine x_zret rfl rfl (by decide) ?_
                  show jX m_X12_areKin 7 0 0 91 [(7, .int v116), (6, .int v113), (0, .ref 125), (1, .int l1), (2, .int l2), (3, .int l3), (4, .int l4), (5, .int l5)] [.int 1] _ 0 0 _
                  refine x_ifeq (tgt := 118) rfl rfl (ti_eq jk_1 jk_0 (br_f (by omega) ?_))
                  refine x_aloadn (x := 125) rfl rfl ?_
                  refine x_iload (x := v116) rfl rfl ?_
                  refine x_iconst (v := 0) rfl ki_0 ?_
                  refine x_inv (N := m_X12_isNamed) (As := [.int v116, .int 0]) (b := 125) (st := []) (dx9 := 6) (mc := 0) (ms := 0) (host := "") 12 rfl t_X12_isNamed ⟨Or.inl q_12_315, i_X12_isNamed.1, i_X12_isNamed.2⟩ ⟨by decide, rfl⟩ (congrArg Prod.fst (J.1.1 125 (12, 92) rfl)) rfl (by decide) rfl rfl ⟨by decide, by decide⟩ (jC.of rfl k_X12_isNamed rfl ?_)
                  show jX m_X12_isNamed 6 0 0 0 [(0, .ref 125), (1, .int v116), (2, .int 0)] [] _ 0 0 _
                  refine x_aloadn (x := 125) rfl rfl ?_
                  refine z_getR (N := 92) (b := 126) 12 2 rfl f_12_8 rfl J rfl 16002 ⟨rfl, rfl⟩ rfl ?_
                  refine x_aloadn (x := 125) rfl rfl ?_
                  refine x_iloadn (x := v116) rfl rfl ?_
                  refine x_iloadn (x := 0) rfl rfl ?_
                  refine x_inv (N := m_X12_nameAt) (As := [.int v116, .int 0]) (b := 125) (st := [.ref 126]) (dx9 := 5) (mc := 0) (ms := 0) (host := "") 12 rfl t_X12_nameAt ⟨Or.inl q_12_311, i_X12_nameAt.1, i_X12_nameAt.2⟩ ⟨by decide, rfl⟩ (congrArg Prod.fst (J.1.1 125 (12, 92) rfl)) rfl (by decide) rfl rfl ⟨by decide, by decide⟩ (jC.of rfl k_X12_nameAt rfl ?_)
                  show jX m_X12_nameAt 5 0 0 0 [(0, .ref 125), (1, .int v116), (2, .int 0)] [] _ 0 0 _
                  refine x_aloadn (x := 125) rfl rfl ?_
                  refine x_iloadn (x := v116) rfl rfl ?_
                  refine x_iconst (v := 3) rfl ki_3 ?_
                  refine z_idiv rfl rfl jk_3 (by omega) (by omega) (fun v140 ev140 => ?_)
                  refine x_inv (N := m_X12_at) (As := [.int v140]) (b := 125) (st := []) (dx9 := 4) (mc := 0) (ms := 0) (host := "") 12 rfl t_X12_at ⟨Or.inl q_12_254, i_X12_at.1, i_X12_at.2⟩ ⟨by decide, rfl⟩ (congrArg Prod.fst (J.1.1 125 (12, 92) rfl)) rfl (by decide) rfl rfl ⟨by decide, by decide⟩ (jC.of rfl k_X12_at rfl ?_)
                  show jX m_X12_at 4 0 0 0 [(0, .ref 125), (1, .int v140)] [] _ 0 0 _
                  refine x_bipush (v := 20) rfl kb_20 ?_
                  refine x_bipush (v := 90) rfl kb_90 ?_
                  refine x_iloadn (x := v140) rfl rfl ?_
                  refine z_imul rfl jk_90 rfl (by omega) (fun v141 ev141 => ?_)
                  refine z_iadd rfl jk_20 rfl (by omega) (fun v142 ev142 => ?_)
                  refine x_iret rfl rfl ?_
                  show jX m_X12_nameAt 5 0 0 7 [(0, .ref 125), (1, .int v116), (2, .int 0)] [.int v142] _ 0 0 _
                  refine x_bipush (v := 6) rfl kb_6 ?_
                  refine z_iadd rfl rfl jk_6 (by omega) (fun v143 ev143 => ?_)
                  refine x_bipush (v := 28) rfl kb_28 ?_
                  refine x_iloadn (x := v116) rfl rfl ?_
                  refine x_iconst (v := 3) rfl ki_3 ?_
                  refine z_irem rfl rfl jk_3 (by omega) (by omega) (fun v144 ev144 => ?_)
                  refine z_imul rfl jk_28 rfl (by omega) (fun v145 ev145 => ?_)
                  refine z_iadd rfl rfl rfl (by omega) (fun v146 ev146 => ?_)
                  refine x_bipush (v := 14) rfl kb_14 ?_
                  refine x_iloadn (x := 0) rfl rfl ?_
                  refine y_imul (v := 0) rfl (by decide) ?_
                  refine z_iadd rfl rfl jk_0 (by omega) (fun v147 ev147 => ?_)
                  have rnv147 := jnam (m := v116.toInt) (w := 0) (v := v147.toInt) (by omega) (by omega) (by omega)
                  refine x_iret rfl rfl ?_
                  show jX m_X12_isNamed 6 0 0 10 [(0, .ref 125), (1, .int v116), (2, .int 0)] [.int v147, .ref 126] _ 0 0 _
                  refine z_ialdU (N := 50660) (lo := 0) (hi := 12) rfl J rfl rfl (by omega) ((show (v147.toInt - 20) % 90 = 6 ∨ (v147.toInt - 20) % 90 = 34 ∨ (v147.toInt - 20) % 90 = 62 from by omega).elim (fun q => (jrg_w (jrg_c J sg_126_20_18020_90_6_7 rfl (by omega)) (by decide))) (fun q => q.elim (fun q => (jrg_w (jrg_c J sg_126_20_18020_90_34_35 rfl (by omega)) (by decide))) (fun q => (jrg_w (jrg_c J sg_126_20_18020_90_62_63 rfl (by omega)) (by decide))))) (fun v148 qv148 ev148 => ?_)
                  try rw [vrd qv148 (show ((((20 + (90 * ((((l2.toInt / 3) * 3) + l5.toInt) / 3))) + 6) + (28 * ((((l2.toInt / 3) * 3) + l5.toInt) % 3))) + 0) = v147.toInt from by omega)] at D
                  refine x_ifle (tgt := 18) rfl rfl (ti_le rfl jk_0 ⟨fun c149 => ?_, fun c149 => ?_⟩)
                  ·
                    rw [if_pos (by omega)] at D
                    refine x_iconst (v := 0) rfl ki_0 ?_
                    refine x_zret rfl rfl (by decide) ?_
                    show jX m_X12_areKin 7 0 0 101 [(7, .int v116), (6, .int v113), (0, .ref 125), (1, .int l1), (2, .int l2), (3, .int l3), (4, .int l4), (5, .int l5)] [.int 0] _ 0 0 _
                    refine x_ifeq (tgt := 118) rfl rfl (ti_eq jk_0 jk_0 (br_t (by omega) ?_))
                    try rw [show (((l1.toInt / 3) * 3) + l4.toInt) = v113.toInt from by omega] at D
                    try rw [show (((l2.toInt / 3) * 3) + l5.toInt) = v116.toInt from by omega] at D
                    exact jX.sub (jsb_c rfl (jsb_c rfl (jsb_c rfl (jsb_c rfl (jsb_c rfl (jsb_c rfl (jsb_c rfl (jsb_c rfl jsb_n)))))))) (ct_X12_areKin_r125d_118 hD hQ k5 ih l1 l2 l3 l4 l5 v113 v116 h (jr_of rfl (by omega)) (jr_of rfl (by omega)) (jr_of rfl (by omega)) (jr_of rfl (by omega)) (jr_of rfl (by omega)) (jr_of rfl (by omega)) (jr_of rfl (by omega)) (by omega) (by omega) J Sm D)
                  ·
                    rw [if_neg (by omega)] at D
                    refine x_iconst (v := 1) rfl ki_1 ?_
                    refine x_goto (tgt := 19) rfl rfl ?_
                    refine x_zret rfl rfl (by decide) ?_
                    show jX m_X12_areKin 7 0 0 101 [(7, .int v116), (6, .int v113), (0, .ref 125), (1, .int l1), (2, .int l2), (3, .int l3), (4, .int l4), (5, .int l5)] [.int 1] _ 0 0 _
                    refine x_ifeq (tgt := 118) rfl rfl (ti_eq jk_1 jk_0 (br_f (by omega) ?_))
                    refine x_aloadn (x := 125) rfl rfl ?_
                    refine x_iload (x := v116) rfl rfl ?_
                    refine x_iconst (v := 1) rfl ki_1 ?_
                    refine x_inv (N := m_X12_isNamed) (As := [.int v116, .int 1]) (b := 125) (st := []) (dx9 := 6) (mc := 0) (ms := 0) (host := "") 12 rfl t_X12_isNamed ⟨Or.inl q_12_315, i_X12_isNamed.1, i_X12_isNamed.2⟩ ⟨by decide, rfl⟩ (congrArg Prod.fst (J.1.1 125 (12, 92) rfl)) rfl (by decide) rfl rfl ⟨by decide, by decide⟩ (jC.of rfl k_X12_isNamed rfl ?_)
                    show jX m_X12_isNamed 6 0 0 0 [(0, .ref 125), (1, .int v116), (2, .int 1)] [] _ 0 0 _
                    refine x_aloadn (x := 125) rfl rfl ?_
                    refine z_getR (N := 92) (b := 126) 12 2 rfl f_12_8 rfl J rfl 16002 ⟨rfl, rfl⟩ rfl ?_
                    refine x_aloadn (x := 125) rfl rfl ?_
                    refine x_iloadn (x := v116) rfl rfl ?_
                    refine x_iloadn (x := 1) rfl rfl ?_
                    refine x_inv (N := m_X12_nameAt) (As := [.int v116, .int 1]) (b := 125) (st := [.ref 126]) (dx9 := 5) (mc := 0) (ms := 0) (host := "") 12 rfl t_X12_nameAt ⟨Or.inl q_12_311, i_X12_nameAt.1, i_X12_nameAt.2⟩ ⟨by decide, rfl⟩ (congrArg Prod.fst (J.1.1 125 (12, 92) rfl)) rfl (by decide) rfl rfl ⟨by decide, by decide⟩ (jC.of rfl k_X12_nameAt rfl ?_)
                    show jX m_X12_nameAt 5 0 0 0 [(0, .ref 125), (1, .int v116), (2, .int 1)] [] _ 0 0 _
                    refine x_aloadn (x := 125) rfl rfl ?_
                    refine x_iloadn (x := v116) rfl rfl ?_
                    refine x_iconst (v := 3) rfl ki_3 ?_
                    refine z_idiv rfl rfl jk_3 (by omega) (by omega) (fun v150 ev150 => ?_)
                    refine x_inv (N := m_X12_at) (As := [.int v150]) (b := 125) (st := []) (dx9 := 4) (mc := 0) (ms := 0) (host := "") 12 rfl t_X12_at ⟨Or.inl q_12_254, i_X12_at.1, i_X12_at.2⟩ ⟨by decide, rfl⟩ (congrArg Prod.fst (J.1.1 125 (12, 92) rfl)) rfl (by decide) rfl rfl ⟨by decide, by decide⟩ (jC.of rfl k_X12_at rfl ?_)
                    show jX m_X12_at 4 0 0 0 [(0, .ref 125), (1, .int v150)] [] _ 0 0 _
                    refine x_bipush (v := 20) rfl kb_20 ?_
                    refine x_bipush (v := 90) rfl kb_90 ?_
                    refine x_iloadn (x := v150) rfl rfl ?_
                    refine z_imul rfl jk_90 rfl (by omega) (fun v151 ev151 => ?_)
                    refine z_iadd rfl jk_20 rfl (by omega) (fun v152 ev152 => ?_)
                    refine x_iret rfl rfl ?_
                    show jX m_X12_nameAt 5 0 0 7 [(0, .ref 125), (1, .int v116), (2, .int 1)] [.int v152] _ 0 0 _
                    refine x_bipush (v := 6) rfl kb_6 ?_
                    refine z_iadd rfl rfl jk_6 (by omega) (fun v153 ev153 => ?_)
                    refine x_bipush (v := 28) rfl kb_28 ?_
                    refine x_iloadn (x := v116) rfl rfl ?_
                    refine x_iconst (v := 3) rfl ki_3 ?_
                    refine z_irem rfl rfl jk_3 (by omega) (by omega) (fun v154 ev154 => ?_)
                    refine z_imul rfl jk_28 rfl (by omega) (fun v155 ev155 => ?_)
                    refine z_iadd rfl rfl rfl (by omega) (fun v156 ev156 => ?_)
                    refine x_bipush (v := 14) rfl kb_14 ?_
                    refine x_iloadn (x := 1) rfl rfl ?_
                    refine y_imul (v := 14) rfl (by decide) ?_
                    refine z_iadd rfl rfl jk_14 (by omega) (fun v157 ev157 => ?_)
                    have rnv157 := jnam (m := v116.toInt) (w := 1) (v := v157.toInt) (by omega) (by omega) (by omega)
                    refine x_iret rfl rfl ?_
                    show jX m_X12_isNamed 6 0 0 10 [(0, .ref 125), (1, .int v116), (2, .int 1)] [.int v157, .ref 126] _ 0 0 _
                    refine z_ialdU (N := 50660) (lo := 0) (hi := 12) rfl J rfl rfl (by omega) ((show (v157.toInt - 20) % 90 = 20 ∨ (v157.toInt - 20) % 90 = 48 ∨ (v157.toInt - 20) % 90 = 76 from by omega).elim (fun q => (jrg_w (jrg_c J sg_126_20_18020_90_20_21 rfl (by omega)) (by decide))) (fun q => q.elim (fun q => (jrg_w (jrg_c J sg_126_20_18020_90_48_49 rfl (by omega)) (by decide))) (fun q => (jrg_w (jrg_c J sg_126_20_18020_90_76_77 rfl (by omega)) (by decide))))) (fun v158 qv158 ev158 => ?_)
                    try rw [vrd qv158 (show ((((20 + (90 * ((((l2.toInt / 3) * 3) + l5.toInt) / 3))) + 6) + (28 * ((((l2.toInt / 3) * 3) + l5.toInt) % 3))) + 14) = v157.toInt from by omega)] at D
                    refine x_ifle (tgt := 18) rfl rfl (ti_le rfl jk_0 ⟨fun c159 => ?_, fun c159 => ?_⟩)
                    ·
                      rw [if_pos (by omega)] at D
                      refine x_iconst (v := 0) rfl ki_0 ?_
                      refine x_zret rfl rfl (by decide) ?_
                      show jX m_X12_areKin 7 0 0 111 [(7, .int v116), (6, .int v113), (0, .ref 125), (1, .int l1), (2, .int l2), (3, .int l3), (4, .int l4), (5, .int l5)] [.int 0] _ 0 0 _
                      refine x_ifeq (tgt := 118) rfl rfl (ti_eq jk_0 jk_0 (br_t (by omega) ?_))
                      try rw [show (((l1.toInt / 3) * 3) + l4.toInt) = v113.toInt from by omega] at D
                      try rw [show (((l2.toInt / 3) * 3) + l5.toInt) = v116.toInt from by omega] at D
                      exact jX.sub (jsb_c rfl (jsb_c rfl (jsb_c rfl (jsb_c rfl (jsb_c rfl (jsb_c rfl (jsb_c rfl (jsb_c rfl jsb_n)))))))) (ct_X12_areKin_r125d_118 hD hQ k5 ih l1 l2 l3 l4 l5 v113 v116 h (jr_of rfl (by omega)) (jr_of rfl (by omega)) (jr_of rfl (by omega)) (jr_of rfl (by omega)) (jr_of rfl (by omega)) (jr_of rfl (by omega)) (jr_of rfl (by omega)) (by omega) (by omega) J Sm D)
                    ·
                      rw [if_neg (by omega)] at D
                      refine x_iconst (v := 1) rfl ki_1 ?_
                      refine x_goto (tgt := 19) rfl rfl ?_
                      refine x_zret rfl rfl (by decide) ?_
                      show jX m_X12_areKin 7 0 0 111 [(7, .int v116), (6, .int v113), (0, .ref 125), (1, .int l1), (2, .int l2), (3, .int l3), (4, .int l4), (5, .int l5)] [.int 1] _ 0 0 _
                      refine x_ifeq (tgt := 118) rfl rfl (ti_eq jk_1 jk_0 (br_f (by omega) ?_))
                      refine x_iconst (v := 1) rfl ki_1 ?_
                      refine x_goto (tgt := 119) rfl rfl ?_
                      try rw [show (((l1.toInt / 3) * 3) + l4.toInt) = v113.toInt from by omega] at D
                      try rw [show (((l2.toInt / 3) * 3) + l5.toInt) = v116.toInt from by omega] at D
                      exact jX.sub (jsb_c rfl (jsb_c rfl (jsb_c rfl (jsb_c rfl (jsb_c rfl (jsb_c rfl (jsb_c rfl (jsb_c rfl jsb_n)))))))) (ct_X12_areKin_r125d_300119 hD hQ k5 ih l1 l2 l3 l4 l5 v113 v116 h (jr_of rfl (by omega)) (jr_of rfl (by omega)) (jr_of rfl (by omega)) (jr_of rfl (by omega)) (jr_of rfl (by omega)) (jr_of rfl (by omega)) (jr_of rfl (by omega)) (by omega) (by omega) J Sm D)
set_option maxRecDepth 100000 in
set_option maxHeartbeats 4000000 in
theorem ct_X12_areKin_r125d_5 {Dy : jH → Prop} {h0 : jH} {Q : Option Value → jH → Prop} {dr : (Int × jW)} (hD : jDk Dy) (hQ : ∀ (v : Int32) hx9, 0 ≤ v.toInt ∧ v.toInt ≤ 1 → jJ jSgM Dy hx9 → jSm fp_X12_areKin_r125d h0 hx9 → dr.1 = v.toInt → dr.2 = vw hx9 → Q (some (.int v)) hx9) : ∀ r : Nat, ∀ (l1 : Int32) (l2 : Int32) (l3 : Int32) (l4 : Int32) (h : jH), 3 - l4.toInt < (r : Int) → 0 ≤ l1.toInt ∧ l1.toInt ≤ 599 → 0 ≤ l2.toInt ∧ l2.toInt ≤ 599 → 0 ≤ l3.toInt ∧ l3.toInt ≤ 1 → 0 ≤ l4.toInt ∧ l4.toInt ≤ 3 → jJ jSgM Dy h → jSm fp_X12_areKin_r125d h0 h → d_X12_areKin_r125d_5 r l1.toInt l2.toInt l3.toInt l4.toInt (vw h) = dr → jX m_X12_areKin 7 0 0 5 [(0, .ref 125), (1, .int l1), (2, .int l2), (3, .int l3), (4, .int l4)] [] h 0 0 Q := by
  intro r
  induction r with
  | zero =>
    intro l1 l2 l3 l4 h hm y0 y1 y2 y3   J Sm D
    exfalso
    omega
  | succ r ih =>
    intro l1 l2 l3 l4 h hm y0 y1 y2 y3   J Sm D
    rw [d_X12_areKin_r125d_5.eq_2] at D
    refine x_iload (x := l4) rfl rfl ?_
    refine x_aloadn (x := 125) rfl rfl ?_
    refine x_iloadn (x := l1) rfl rfl ?_
    refine x_iconst (v := 3) rfl ki_3 ?_
    refine z_idiv rfl rfl jk_3 (by omega) (by omega) (fun v1 ev1 => ?_)
    refine x_inv (N := m_X12_bookOf) (As := [.int v1]) (b := 125) (st := [.int l4]) (dx9 := 6) (mc := 0) (ms := 0) (host := "") 12 rfl t_X12_bookOf ⟨Or.inl q_12_299, i_X12_bookOf.1, i_X12_bookOf.2⟩ ⟨by decide, rfl⟩ (congrArg Prod.fst (J.1.1 125 (12, 92) rfl)) rfl (by decide) rfl rfl ⟨by decide, by decide⟩ (jC.of rfl k_X12_bookOf rfl ?_)
    show jX m_X12_bookOf 6 0 0 0 [(0, .ref 125), (1, .int v1)] [] _ 0 0 _
    refine x_aloadn (x := 125) rfl rfl ?_
    refine z_getR (N := 92) (b := 126) 12 2 rfl f_12_8 rfl J rfl 16002 ⟨rfl, rfl⟩ rfl ?_
    refine x_aloadn (x := 125) rfl rfl ?_
    refine x_iloadn (x := v1) rfl rfl ?_
    refine x_inv (N := m_X12_at) (As := [.int v1]) (b := 125) (st := [.ref 126]) (dx9 := 5) (mc := 0) (ms := 0) (host := "") 12 rfl t_X12_at ⟨Or.inl q_12_254, i_X12_at.1, i_X12_at.2⟩ ⟨by decide, rfl⟩ (congrArg Prod.fst (J.1.1 125 (12, 92) rfl)) rfl (by decide) rfl rfl ⟨by decide, by decide⟩ (jC.of rfl k_X12_at rfl ?_)
    show jX m_X12_at 5 0 0 0 [(0, .ref 125), (1, .int v1)] [] _ 0 0 _
    refine x_bipush (v := 20) rfl kb_20 ?_
    refine x_bipush (v := 90) rfl kb_90 ?_
    refine x_iloadn (x := v1) rfl rfl ?_
    refine z_imul rfl jk_90 rfl (by omega) (fun v2 ev2 => ?_)
    refine z_iadd rfl jk_20 rfl (by omega) (fun v3 ev3 => ?_)
    refine x_iret rfl rfl ?_
    show jX m_X12_bookOf 6 0 0 9 [(0, .ref 125), (1, .int v1)] [.int v3, .ref 126] _ 0 0 _
    refine z_iald (N := 50660) rfl J rfl sg_126_20_18020_90_0_1 rfl (by omega) (fun v4 qv4 ev4 => ?_)
    try rw [vrd qv4 (show (20 + (90 * (l1.toInt / 3))) = v3.toInt from by omega)] at D
    refine x_iret rfl rfl ?_
    show jX m_X12_areKin 7 0 0 14 [(0, .ref 125), (1, .int l1), (2, .int l2), (3, .int l3), (4, .int l4)] [.int v4, .int l4] _ 0 0 _
    refine x_inst (N := m_X12_rolesOf) (As := [.int v4]) (st := [.int l4]) (dx9 := 6) (mc := 0) (ms := 0) (host := "") rfl t_X12_rolesOf ⟨Or.inl q_12_286, s_X12_rolesOf⟩ rfl (by decide) rfl rfl ⟨by decide, by decide⟩ (jC.of rfl k_X12_rolesOf rfl ?_)
    show jX m_X12_rolesOf 6 0 0 0 [(0, .int v4)] [] _ 0 0 _
    refine x_iloadn (x := v4) rfl rfl ?_
    refine x_ifne (tgt := 8) rfl rfl (ti_ne rfl jk_0 ⟨fun c5 => ?_, fun c5 => ?_⟩)
    ·
      rw [if_neg (by omega)] at D
      refine x_iloadn (x := v4) rfl rfl ?_
      refine x_iconst (v := 1) rfl ki_1 ?_
      refine x_icne (tgt := 17) rfl rfl (ti_ne rfl jk_1 ⟨fun c6 => ?_, fun c6 => ?_⟩)
      ·
        rw [if_neg (by omega)] at D
        refine x_iconst (v := 1) rfl ki_1 ?_
        refine x_iret rfl rfl ?_
        show jX m_X12_areKin 7 0 0 17 [(0, .ref 125), (1, .int l1), (2, .int l2), (3, .int l3), (4, .int l4)] [.int 1, .int l4] _ 0 0 _
        refine x_icge (tgt := 171) rfl rfl (ti_ge rfl jk_1 ⟨fun c7 => ?_, fun c7 => ?_⟩)
        ·
          rw [if_pos (by omega)] at D
          refine x_iloadn (x := l3) rfl rfl ?_
          refine x_zret rfl rfl (jz01 (by omega)) ?_
          exact hQ _ _ (jr_of rfl (by omega)) J Sm ((congrArg Prod.fst D).symm.trans (show l3.toInt = l3.toInt from by omega)) (congrArg Prod.snd D).symm
        ·
          rw [if_neg (by omega)] at D
          refine x_iconst (v := 0) rfl ki_0 ?_
          refine x_istore (lsx9 := [(5, .int 0), (0, .ref 125), (1, .int l1), (2, .int l2), (3, .int l3), (4, .int l4)]) rfl rfl rfl ?_
          exact jX.sub (jsb_c rfl (jsb_c rfl (jsb_c rfl (jsb_c rfl (jsb_c rfl (jsb_c rfl jsb_n)))))) (ct_X12_areKin_r125d_23 hD hQ ih 4 l1 l2 l3 l4 0 h (by have := jk_0; omega) (jr_of rfl (by omega)) (jr_of rfl (by omega)) (jr_of rfl (by omega)) (jr_of rfl (by omega)) (jr_of jk_0 (by omega)) (by omega) J Sm (by rw [jk_0]; exact D))
      ·
        rw [if_pos (by omega)] at D
        refine x_iconst (v := 2) rfl ki_2 ?_
        refine x_goto (tgt := 18) rfl rfl ?_
        refine x_iret rfl rfl ?_
        show jX m_X12_areKin 7 0 0 17 [(0, .ref 125), (1, .int l1), (2, .int l2), (3, .int l3), (4, .int l4)] [.int 2, .int l4] _ 0 0 _
        refine x_icge (tgt := 171) rfl rfl (ti_ge rfl jk_2 ⟨fun c8 => ?_, fun c8 => ?_⟩)
        ·
          rw [if_pos (by omega)] at D
          refine x_iloadn (x := l3) rfl rfl ?_
          refine x_zret rfl rfl (jz01 (by omega)) ?_
          exact hQ _ _ (jr_of rfl (by omega)) J Sm ((congrArg Prod.fst D).symm.trans (show l3.toInt = l3.toInt from by omega)) (congrArg Prod.snd D).symm
        ·
          rw [if_neg (by omega)] at D
          refine x_iconst (v := 0) rfl ki_0 ?_
          refine x_istore (lsx9 := [(5, .int 0), (0, .ref 125), (1, .int l1), (2, .int l2), (3, .int l3), (4, .int l4)]) rfl rfl rfl ?_
          exact jX.sub (jsb_c rfl (jsb_c rfl (jsb_c rfl (jsb_c rfl (jsb_c rfl (jsb_c rfl jsb_n)))))) (ct_X12_areKin_r125d_23 hD hQ ih 4 l1 l2 l3 l4 0 h (by have := jk_0; omega) (jr_of rfl (by omega)) (jr_of rfl (by omega)) (jr_of rfl (by omega)) (jr_of rfl (by omega)) (jr_of jk_0 (by omega)) (by omega) J Sm (by rw [jk_0]; exact D))
    ·
      rw [if_pos (by omega)] at D
      refine x_iconst (v := 3) rfl ki_3 ?_
      refine x_goto (tgt := 18) rfl rfl ?_
      refine x_iret rfl rfl ?_
      show jX m_X12_areKin 7 0 0 17 [(0, .ref 125), (1, .int l1), (2, .int l2), (3, .int l3), (4, .int l4)] [.int 3, .int l4] _ 0 0 _
      refine x_icge (tgt := 171) rfl rfl (ti_ge rfl jk_3 ⟨fun c9 => ?_, fun c9 => ?_⟩)
      ·
        rw [if_pos (by omega)] at D
        refine x_iloadn (x := l3) rfl rfl ?_
        refine x_zret rfl rfl (jz01 (by omega)) ?_
        exact hQ _ _ (jr_of rfl (by omega)) J Sm ((congrArg Prod.fst D).symm.trans (show l3.toInt = l3.toInt from by omega)) (congrArg Prod.snd D).symm
      ·
        rw [if_neg (by omega)] at D
        refine x_iconst (v := 0) rfl ki_0 ?_
        refine x_istore (lsx9 := [(5, .int 0), (0, .ref 125), (1, .int l1), (2, .int l2), (3, .int l3), (4, .int l4)]) rfl rfl rfl ?_
        exact jX.sub (jsb_c rfl (jsb_c rfl (jsb_c rfl (jsb_c rfl (jsb_c rfl (jsb_c rfl jsb_n)))))) (ct_X12_areKin_r125d_23 hD hQ ih 4 l1 l2 l3 l4 0 h (by have := jk_0; omega) (jr_of rfl (by omega)) (jr_of rfl (by omega)) (jr_of rfl (by omega)) (jr_of rfl (by omega)) (jr_of jk_0 (by omega)) (by omega) J Sm (by rw [jk_0]; exact D))
set_option maxRecDepth 100000 in
set_option maxHeartbeats 4000000 in
theorem sf_X12_areKin_r125d {Dy : jH → Prop} {h : jH} {Q : Option Value → jH → Prop} {dr : (Int × jW)} {a1 : Int32} {a2 : Int32} (y1 : 0 ≤ a1.toInt ∧ a1.toInt ≤ 599) (y2 : 0 ≤ a2.toInt ∧ a2.toInt ≤ 599) (hD : jDk Dy) (J : jJ jSgM Dy h) (D : d_X12_areKin_r125d a1.toInt a2.toInt (vw h) = dr) (hQ : ∀ (v : Int32) hx9, 0 ≤ v.toInt ∧ v.toInt ≤ 1 → jJ jSgM Dy hx9 → jSm fp_X12_areKin_r125d h hx9 → dr.1 = v.toInt → dr.2 = vw hx9 → Q (some (.int v)) hx9) : jC m_X12_areKin 7 0 0 [.ref 125, .int a1, .int a2] h Q := by
  refine jC.of rfl k_X12_areKin rfl ?_
  have Sm := jSm_rf fp_X12_areKin_r125d h
  show jX m_X12_areKin 7 0 0 0 [(0, .ref 125), (1, .int a1), (2, .int a2)] [] _ 0 0 _
  unfold d_X12_areKin_r125d at D
  refine x_iconst (v := 0) rfl ki_0 ?_
  refine x_istoren (lsx9 := [(3, .int 0), (0, .ref 125), (1, .int a1), (2, .int a2)]) rfl rfl rfl ?_
  refine x_iconst (v := 0) rfl ki_0 ?_
  refine x_istore (lsx9 := [(4, .int 0), (3, .int 0), (0, .ref 125), (1, .int a1), (2, .int a2)]) rfl rfl rfl ?_
  exact jX.sub (jsb_c rfl (jsb_c rfl (jsb_c rfl (jsb_c rfl (jsb_c rfl jsb_n))))) (ct_X12_areKin_r125d_5 hD hQ  4 a1 a2 0 0 h (by have := jk_0; omega) (jr_of rfl (by omega)) (jr_of rfl (by omega)) (jr_of jk_0 (by omega)) (jr_of jk_0 (by omega)) J Sm (by rw [jk_0]; exact D))
def fp_X12_findForce_r125d : jFp := [(125, 57, 58), (152, 0, 360), (153, 0, 30)]
set_option maxRecDepth 100000 in
set_option maxHeartbeats 4000000 in
theorem ct_X12_findForce_r125d_198 {Dy : jH → Prop} {h0 : jH} {Q : Option Value → jH → Prop} {dr : jW} {K45 : Int → Int → jW → jW} {R45 : Int} (hD : jDk Dy) (hQ : ∀ hx9, jJ jSgM Dy hx9 → jSm fp_X12_findForce_r125d h0 hx9 → dr = vw hx9 → Q none hx9) (k45 : ∀ (l1 : Int32) (l2 : Int32) (h : jH), l2.toInt - (-1) < R45 → 0 ≤ l1.toInt ∧ l1.toInt ≤ 146399 → (-1) ≤ l2.toInt ∧ l2.toInt ≤ 29 → jJ jSgM Dy h → jSm fp_X12_findForce_r125d h0 h → K45 l1.toInt l2.toInt (vw h) = dr → jX m_X12_findForce 3 0 0 45 [(0, .ref 125), (1, .int l1), (2, .int l2)] [] h 0 0 Q) : ∀ (l1 : Int32) (l2 : Int32) (h : jH), 0 ≤ l1.toInt ∧ l1.toInt ≤ 146399 → 0 ≤ l2.toInt ∧ l2.toInt ≤ 29 → l2.toInt - (-1) ≤ R45 → jJ jSgM Dy h → jSm fp_X12_findForce_r125d h0 h → d_X12_findForce_r125d_198 K45  l1.toInt l2.toInt (vw h) = dr → jX m_X12_findForce 3 0 0 198 [(0, .ref 125), (1, .int l1), (2, .int l2)] [] h 0 0 Q := by
  intro l1 l2 h y0 y1  m45 J Sm D
  unfold d_X12_findForce_r125d_198 at D
  refine z_iinc (x := l2) (lsx9 := fun v1 => [(2, .int v1), (0, .ref 125), (1, .int l1)]) rfl rfl rfl jko_m1 (by omega) rfl (fun _ => rfl) (fun v1 ev1 => ?_)
  refine x_goto (tgt := 45) rfl rfl ?_
  try rw [show (l2.toInt + (-1)) = v1.toInt from by omega] at D
  exact jX.sub (jsb_c rfl (jsb_c rfl (jsb_c rfl jsb_n))) (k45 l1 v1 h (by omega) (jr_of rfl (by omega)) (jr_of rfl (by omega)) J Sm D)
set_option maxRecDepth 100000 in
set_option maxHeartbeats 4000000 in
theorem ct_X12_findForce_r125d_192 {Dy : jH → Prop} {h0 : jH} {Q : Option Value → jH → Prop} {dr : jW} {K45 : Int → Int → jW → jW} {K95 : Int → Int → Int → Int → jW → jW} {R45 : Int} {R95 : Int} (hD : jDk Dy) (hQ : ∀ hx9, jJ jSgM Dy hx9 → jSm fp_X12_findForce_r125d h0 hx9 → dr = vw hx9 → Q none hx9) (k45 : ∀ (l1 : Int32) (l2 : Int32) (h : jH), l2.toInt - (-1) < R45 → 0 ≤ l1.toInt ∧ l1.toInt ≤ 146399 → (-1) ≤ l2.toInt ∧ l2.toInt ≤ 29 → jJ jSgM Dy h → jSm fp_X12_findForce_r125d h0 h → K45 l1.toInt l2.toInt (vw h) = dr → jX m_X12_findForce 3 0 0 45 [(0, .ref 125), (1, .int l1), (2, .int l2)] [] h 0 0 Q) (k95 : ∀ (l1 : Int32) (l2 : Int32) (l3 : Int32) (l4 : Int32) (h : jH), 12 - l4.toInt < R95 → 0 ≤ l1.toInt ∧ l1.toInt ≤ 146399 → 0 ≤ l2.toInt ∧ l2.toInt ≤ 29 → 18820 ≤ l3.toInt ∧ l3.toInt ≤ 45616 → l3.toInt % 924 = 340 → 0 ≤ l4.toInt ∧ l4.toInt ≤ 12 → l3.toInt = 18820 + 924 * l2.toInt → l2.toInt - (-1) ≤ R45 → jJ jSgM Dy h → jSm fp_X12_findForce_r125d h0 h → K95 l1.toInt l2.toInt l3.toInt l4.toInt (vw h) = dr → jX m_X12_findForce 3 0 0 95 [(0, .ref 125), (1, .int l1), (2, .int l2), (3, .int l3), (4, .int l4)] [] h 0 0 Q) : ∀ (l1 : Int32) (l2 : Int32) (l3 : Int32) (l4 : Int32) (h : jH), 0 ≤ l1.toInt ∧ l1.toInt ≤ 146399 → 0 ≤ l2.toInt ∧ l2.toInt ≤ 29 → 18820 ≤ l3.toInt ∧ l3.toInt ≤ 45616 → l3.toInt % 924 = 340 → 0 ≤ l4.toInt ∧ l4.toInt ≤ 11 → l3.toInt = 18820 + 924 * l2.toInt → l2.toInt - (-1) ≤ R45 → 12 - l4.toInt ≤ R95 → jJ jSgM Dy h → jSm fp_X12_findForce_r125d h0 h → d_X12_findForce_r125d_192 K45 K95  l1.toInt l2.toInt l3.toInt l4.toInt (vw h) = dr → jX m_X12_findForce 3 0 0 192 [(0, .ref 125), (1, .int l1), (2, .int l2), (3, .int l3), (4, .int l4)] [] h 0 0 Q := by
  intro l1 l2 l3 l4 h y0 y1 y2 y3 y4 y5  m45 m95 J Sm D
  unfold d_X12_findForce_r125d_192 at D
  refine z_iinc (x := l4) (lsx9 := fun v1 => [(4, .int v1), (0, .ref 125), (1, .int l1), (2, .int l2), (3, .int l3)]) rfl rfl rfl jko_1 (by omega) rfl (fun _ => rfl) (fun v1 ev1 => ?_)
  refine x_goto (tgt := 95) rfl rfl ?_
  try rw [show (l4.toInt + 1) = v1.toInt from by omega] at D
  exact jX.sub (jsb_c rfl (jsb_c rfl (jsb_c rfl (jsb_c rfl (jsb_c rfl jsb_n))))) (k95 l1 l2 l3 v1 h (by omega) (jr_of rfl (by omega)) (jr_of rfl (by omega)) (jr_of rfl (by omega)) (jr_mod rfl (by omega)) (jr_of rfl (by omega)) (by omega) (by omega) J Sm D)
set_option maxRecDepth 100000 in
set_option maxHeartbeats 4000000 in
theorem ct_X12_findForce_r125d_95 {Dy : jH → Prop} {h0 : jH} {Q : Option Value → jH → Prop} {dr : jW} {K45 : Int → Int → jW → jW} {R45 : Int} (hD : jDk Dy) (hQ : ∀ hx9, jJ jSgM Dy hx9 → jSm fp_X12_findForce_r125d h0 hx9 → dr = vw hx9 → Q none hx9) (k45 : ∀ (l1 : Int32) (l2 : Int32) (h : jH), l2.toInt - (-1) < R45 → 0 ≤ l1.toInt ∧ l1.toInt ≤ 146399 → (-1) ≤ l2.toInt ∧ l2.toInt ≤ 29 → jJ jSgM Dy h → jSm fp_X12_findForce_r125d h0 h → K45 l1.toInt l2.toInt (vw h) = dr → jX m_X12_findForce 3 0 0 45 [(0, .ref 125), (1, .int l1), (2, .int l2)] [] h 0 0 Q) : ∀ r : Nat, ∀ (l1 : Int32) (l2 : Int32) (l3 : Int32) (l4 : Int32) (h : jH), 12 - l4.toInt < (r : Int) → 0 ≤ l1.toInt ∧ l1.toInt ≤ 146399 → 0 ≤ l2.toInt ∧ l2.toInt ≤ 29 → 18820 ≤ l3.toInt ∧ l3.toInt ≤ 45616 → l3.toInt % 924 = 340 → 0 ≤ l4.toInt ∧ l4.toInt ≤ 12 → l3.toInt = 18820 + 924 * l2.toInt → l2.toInt - (-1) ≤ R45 → jJ jSgM Dy h → jSm fp_X12_findForce_r125d h0 h → d_X12_findForce_r125d_95 K45 r l1.toInt l2.toInt l3.toInt l4.toInt (vw h) = dr → jX m_X12_findForce 3 0 0 95 [(0, .ref 125), (1, .int l1), (2, .int l2), (3, .int l3), (4, .int l4)] [] h 0 0 Q := by
  intro r
  induction r with
  | zero =>
    intro l1 l2 l3 l4 h hm y0 y1 y2 y3 y4 y5  m45 J Sm D
    exfalso
    omega
  | succ r ih =>
    intro l1 l2 l3 l4 h hm y0 y1 y2 y3 y4 y5  m45 J Sm D
    rw [d_X12_findForce_r125d_95.eq_2] at D
    refine x_iload (x := l4) rfl rfl ?_
    refine x_aloadn (x := 125) rfl rfl ?_
    refine z_getR (N := 92) (b := 126) 12 2 rfl f_12_8 rfl J rfl 16002 ⟨rfl, rfl⟩ rfl ?_
    refine x_iloadn (x := l3) rfl rfl ?_
    refine x_iconst (v := 3) rfl ki_3 ?_
    refine z_iadd rfl rfl jk_3 (by omega) (fun v1 ev1 => ?_)
    refine z_iald (N := 50660) rfl J rfl sg_126_18820_46540_924_3_4 rfl (by omega) (fun v2 qv2 ev2 => ?_)
    try rw [vrd qv2 (show (l3.toInt + 3) = v1.toInt from by omega)] at D
    refine x_icge (tgt := 198) rfl rfl (ti_ge rfl rfl ⟨fun c3 => ?_, fun c3 => ?_⟩)
    ·
      rw [if_pos (by omega)] at D
      exact jX.sub (jsb_c rfl (jsb_c rfl (jsb_c rfl jsb_n))) (ct_X12_findForce_r125d_198 hD hQ k45 l1 l2 h (jr_of rfl (by omega)) (jr_of rfl (by omega)) (by omega) J Sm D)
    ·
      rw [if_neg (by omega)] at D
      refine x_aloadn (x := 125) rfl rfl ?_
      refine z_getR (N := 92) (b := 153) 12 59 rfl f_12_117 rfl J rfl 16059 ⟨rfl, rfl⟩ rfl ?_
      refine x_iloadn (x := l2) rfl rfl ?_
      refine z_zald (N := 30) rfl J rfl sg_153_0_30_1_0_1 rfl (by omega) (fun v4 qv4 ev4 => ?_)
      try rw [vrd qv4 (show l2.toInt = l2.toInt from by omega)] at D
      refine x_ifeq (tgt := 198) rfl rfl (ti_eq rfl jk_0 ⟨fun c5 => ?_, fun c5 => ?_⟩)
      ·
        rw [if_pos (by omega)] at D
        exact jX.sub (jsb_c rfl (jsb_c rfl (jsb_c rfl jsb_n))) (ct_X12_findForce_r125d_198 hD hQ k45 l1 l2 h (jr_of rfl (by omega)) (jr_of rfl (by omega)) (by omega) J Sm D)
      ·
        rw [if_neg (by omega)] at D
        refine x_aloadn (x := 125) rfl rfl ?_
        refine x_iloadn (x := l2) rfl rfl ?_
        refine x_iload (x := l4) rfl rfl ?_
        refine x_inv (N := m_X12_clauseAt) (As := [.int l2, .int l4]) (b := 125) (st := []) (dx9 := 2) (mc := 0) (ms := 0) (host := "") 12 rfl t_X12_clauseAt ⟨Or.inl q_12_679, i_X12_clauseAt.1, i_X12_clauseAt.2⟩ ⟨by decide, rfl⟩ (congrArg Prod.fst (J.1.1 125 (12, 92) rfl)) rfl (by decide) rfl rfl ⟨by decide, by decide⟩ (jC.of rfl k_X12_clauseAt rfl ?_)
        show jX m_X12_clauseAt 2 0 0 0 [(0, .ref 125), (1, .int l2), (2, .int l4)] [] _ 0 0 _
        refine x_iloadn (x := l2) rfl rfl ?_
        refine x_inst (N := m_X12_textAt) (As := [.int l2]) (st := []) (dx9 := 1) (mc := 0) (ms := 0) (host := "") rfl t_X12_textAt ⟨Or.inl q_12_676, s_X12_textAt⟩ rfl (by decide) rfl rfl ⟨by decide, by decide⟩ (jC.of rfl k_X12_textAt rfl ?_)
        show jX m_X12_textAt 1 0 0 0 [(0, .int l2)] [] _ 0 0 _
        refine x_sipush (v := 18820) rfl ks_18820 ?_
        refine x_sipush (v := 924) rfl ks_924 ?_
        refine x_iloadn (x := l2) rfl rfl ?_
        refine z_imul rfl jk_924 rfl (by omega) (fun v6 ev6 => ?_)
        refine z_iadd rfl jk_18820 rfl (by omega) (fun v7 ev7 => ?_)
        refine x_iret rfl rfl ?_
        show jX m_X12_clauseAt 2 0 0 4 [(0, .ref 125), (1, .int l2), (2, .int l4)] [.int v7] _ 0 0 _
        refine x_iconst (v := 4) rfl ki_4 ?_
        refine z_iadd rfl rfl jk_4 (by omega) (fun v8 ev8 => ?_)
        refine x_bipush (v := 10) rfl kb_10 ?_
        refine x_iloadn (x := l4) rfl rfl ?_
        refine z_imul rfl jk_10 rfl (by omega) (fun v9 ev9 => ?_)
        refine z_iadd rfl rfl rfl (by omega) (fun v10 ev10 => ?_)
        refine x_iret rfl rfl ?_
        show jX m_X12_findForce 3 0 0 124 [(0, .ref 125), (1, .int l1), (2, .int l2), (3, .int l3), (4, .int l4)] [.int v10] _ 0 0 _
        refine x_istore (lsx9 := [(5, .int v10), (0, .ref 125), (1, .int l1), (2, .int l2), (3, .int l3), (4, .int l4)]) rfl rfl rfl ?_
        refine x_aloadn (x := 125) rfl rfl ?_
        refine z_getR (N := 92) (b := 126) 12 2 rfl f_12_8 rfl J rfl 16002 ⟨rfl, rfl⟩ rfl ?_
        refine x_iload (x := v10) rfl rfl ?_
        refine z_iald0 (N := 50660) rfl J rfl rfl (by omega) (fun v11 qv11 => ?_)
        have ev11 := jfull v11
        try rw [vrd qv11 (show (((18820 + (924 * l2.toInt)) + 4) + (10 * l4.toInt)) = v10.toInt from by omega)] at D
        refine x_ifne (tgt := 192) rfl rfl (ti_ne rfl jk_0 ⟨fun c12 => ?_, fun c12 => ?_⟩)
        ·
          rw [if_neg (by omega)] at D
          exact jX.sub (jsb_c rfl (jsb_c rfl (jsb_c rfl (jsb_c rfl (jsb_c rfl jsb_n))))) (ct_X12_findForce_r125d_192 hD hQ k45 ih l1 l2 l3 l4 h (jr_of rfl (by omega)) (jr_of rfl (by omega)) (jr_of rfl (by omega)) (jr_mod rfl (by omega)) (jr_of rfl (by omega)) (by omega) (by omega) (by omega) J Sm D)
        ·
          rw [if_pos (by omega)] at D
          refine x_aloadn (x := 125) rfl rfl ?_
          refine z_getR (N := 92) (b := 152) 12 58 rfl f_12_114 rfl J rfl 16058 ⟨rfl, rfl⟩ rfl ?_
          refine x_bipush (v := 12) rfl kb_12 ?_
          refine x_iloadn (x := l2) rfl rfl ?_
          refine z_imul rfl jk_12 rfl (by omega) (fun v13 ev13 => ?_)
          refine x_iload (x := l4) rfl rfl ?_
          refine z_iadd rfl rfl rfl (by omega) (fun v14 ev14 => ?_)
          refine z_zald (N := 360) rfl J rfl sg_152_0_360_1_0_1 rfl (by omega) (fun v15 qv15 ev15 => ?_)
          try rw [vrd qv15 (show ((12 * l2.toInt) + l4.toInt) = v14.toInt from by omega)] at D
          refine x_ifne (tgt := 192) rfl rfl (ti_ne rfl jk_0 ⟨fun c16 => ?_, fun c16 => ?_⟩)
          ·
            rw [if_neg (by omega)] at D
            exact jX.sub (jsb_c rfl (jsb_c rfl (jsb_c rfl (jsb_c rfl (jsb_c rfl jsb_n))))) (ct_X12_findForce_r125d_192 hD hQ k45 ih l1 l2 l3 l4 h (jr_of rfl (by omega)) (jr_of rfl (by omega)) (jr_of rfl (by omega)) (jr_mod rfl (by omega)) (jr_of rfl (by omega)) (by omega) (by omega) (by omega) J Sm D)
          ·
            rw [if_pos (by omega)] at D
            refine x_aloadn (x := 125) rfl rfl ?_
            refine z_getR (N := 92) (b := 126) 12 2 rfl f_12_8 rfl J rfl 16002 ⟨rfl, rfl⟩ rfl ?_
            refine x_iload (x := v10) rfl rfl ?_
            refine x_iconst (v := 2) rfl ki_2 ?_
            refine z_iadd rfl rfl jk_2 (by omega) (fun v17 ev17 => ?_)
            refine z_iald0 (N := 50660) rfl J rfl rfl (by omega) (fun v18 qv18 => ?_)
            have ev18 := jfull v18
            try rw [vrd qv18 (show ((((18820 + (924 * l2.toInt)) + 4) + (10 * l4.toInt)) + 2) = v17.toInt from by omega)] at D
            have sv18 := jwv_s2 (t := l2.toInt) (c := l4.toInt) hD J (by omega) (by omega) (jcn qv2 (by omega) (by omega) (by omega)) (by omega) qv18 (by omega) qv11 (by omega)
            refine x_iloadn (x := l2) rfl rfl ?_
            refine x_icge (tgt := 192) rfl rfl (ti_ge rfl rfl ⟨fun c19 => ?_, fun c19 => ?_⟩)
            ·
              rw [if_pos (by omega)] at D
              exact jX.sub (jsb_c rfl (jsb_c rfl (jsb_c rfl (jsb_c rfl (jsb_c rfl jsb_n))))) (ct_X12_findForce_r125d_192 hD hQ k45 ih l1 l2 l3 l4 h (jr_of rfl (by omega)) (jr_of rfl (by omega)) (jr_of rfl (by omega)) (jr_mod rfl (by omega)) (jr_of rfl (by omega)) (by omega) (by omega) (by omega) J Sm D)
            ·
              rw [if_neg (by omega)] at D
              refine x_aloadn (x := 125) rfl rfl ?_
              refine z_getR (N := 92) (b := 152) 12 58 rfl f_12_114 rfl J rfl 16058 ⟨rfl, rfl⟩ rfl ?_
              refine x_bipush (v := 12) rfl kb_12 ?_
              refine x_aloadn (x := 125) rfl rfl ?_
              refine z_getR (N := 92) (b := 126) 12 2 rfl f_12_8 rfl J rfl 16002 ⟨rfl, rfl⟩ rfl ?_
              refine x_iload (x := v10) rfl rfl ?_
              refine x_iconst (v := 2) rfl ki_2 ?_
              refine z_iadd rfl rfl jk_2 (by omega) (fun v20 ev20 => ?_)
              refine z_iald0 (N := 50660) rfl J rfl rfl (by omega) (fun v21 qv21 => ?_)
              have ev21 := jfull v21
              try rw [show v18.toInt = v21.toInt from ((vrd qv18 (show ((((18820 + (924 * l2.toInt)) + 4) + (10 * l4.toInt)) + 2) = v17.toInt from by omega)).symm.trans (vrd qv21 (show ((((18820 + (924 * l2.toInt)) + 4) + (10 * l4.toInt)) + 2) = v20.toInt from by omega)))] at D
              try rw [vrd qv21 (show ((((18820 + (924 * l2.toInt)) + 4) + (10 * l4.toInt)) + 2) = v20.toInt from by omega)] at D
              have sv21 := jwv_s2 (t := l2.toInt) (c := l4.toInt) hD J (by omega) (by omega) (jcn qv2 (by omega) (by omega) (by omega)) (by omega) qv21 (by omega) qv11 (by omega)
              refine z_imul rfl jk_12 rfl (by omega) (fun v22 ev22 => ?_)
              refine x_aloadn (x := 125) rfl rfl ?_
              refine z_getR (N := 92) (b := 126) 12 2 rfl f_12_8 rfl J rfl 16002 ⟨rfl, rfl⟩ rfl ?_
              refine x_iload (x := v10) rfl rfl ?_
              refine x_iconst (v := 3) rfl ki_3 ?_
              refine z_iadd rfl rfl jk_3 (by omega) (fun v23 ev23 => ?_)
              refine z_iald0 (N := 50660) rfl J rfl rfl (by omega) (fun v24 qv24 => ?_)
              have ev24 := jfull v24
              try rw [vrd qv24 (show ((((18820 + (924 * l2.toInt)) + 4) + (10 * l4.toInt)) + 3) = v23.toInt from by omega)] at D
              have sv24 := jwv_s3 (t := l2.toInt) (c := l4.toInt) hD J (by omega) (by omega) (jcn qv2 (by omega) (by omega) (by omega)) (by omega) qv24 (by omega) qv11 (by omega)
              refine z_iadd rfl rfl rfl (by omega) (fun v25 ev25 => ?_)
              refine x_iconst (v := 1) rfl ki_1 ?_
              refine z_zast (N := 360) (l := 0) (u := 360) (w := 1) rfl hD J Sm rfl rfl rfl (by omega) jk_1 (by omega) (wr_152 (fun q1 q2 q3 q4 => by omega)) rfl (fun h w26 J Sm => ?_)
              rw [vww w26 (show ((12 * v21.toInt) + v24.toInt) = v25.toInt from by omega) (show 1 = (1 : Int32).toInt from by have := jk_1; omega)] at D
              exact jX.sub (jsb_c rfl (jsb_c rfl (jsb_c rfl (jsb_c rfl (jsb_c rfl jsb_n))))) (ct_X12_findForce_r125d_192 hD hQ k45 ih l1 l2 l3 l4 h (jr_of rfl (by omega)) (jr_of rfl (by omega)) (jr_of rfl (by omega)) (jr_mod rfl (by omega)) (jr_of rfl (by omega)) (by omega) (by omega) (by omega) J Sm D)
set_option maxRecDepth 100000 in
set_option maxHeartbeats 4000000 in
theorem ct_X12_findForce_r125d_300091 {Dy : jH → Prop} {h0 : jH} {Q : Option Value → jH → Prop} {dr : jW} {K45 : Int → Int → jW → jW} {R45 : Int} (hD : jDk Dy) (hQ : ∀ hx9, jJ jSgM Dy hx9 → jSm fp_X12_findForce_r125d h0 hx9 → dr = vw hx9 → Q none hx9) (k45 : ∀ (l1 : Int32) (l2 : Int32) (h : jH), l2.toInt - (-1) < R45 → 0 ≤ l1.toInt ∧ l1.toInt ≤ 146399 → (-1) ≤ l2.toInt ∧ l2.toInt ≤ 29 → jJ jSgM Dy h → jSm fp_X12_findForce_r125d h0 h → K45 l1.toInt l2.toInt (vw h) = dr → jX m_X12_findForce 3 0 0 45 [(0, .ref 125), (1, .int l1), (2, .int l2)] [] h 0 0 Q) : ∀ (l1 : Int32) (l2 : Int32) (l3 : Int32) (s1 : Int32) (h : jH), 0 ≤ l1.toInt ∧ l1.toInt ≤ 146399 → 0 ≤ l2.toInt ∧ l2.toInt ≤ 29 → 18820 ≤ l3.toInt ∧ l3.toInt ≤ 45616 → l3.toInt % 924 = 340 → 0 ≤ s1.toInt ∧ s1.toInt ≤ 29 → l3.toInt = 18820 + 924 * l2.toInt → l2.toInt - (-1) ≤ R45 → jJ jSgM Dy h → jSm fp_X12_findForce_r125d h0 h → d_X12_findForce_r125d_300091 K45  l1.toInt l2.toInt l3.toInt s1.toInt (vw h) = dr → jX m_X12_findForce 3 0 0 91 [(0, .ref 125), (1, .int l1), (2, .int l2), (3, .int l3)] [.int 1, .int s1, .ref 153] h 0 0 Q := by
  intro l1 l2 l3 s1 h y0 y1 y2 y3 y4 y5  m45 J Sm D
  unfold d_X12_findForce_r125d_300091 at D
  refine z_zast (N := 30) (l := 0) (u := 30) (w := 1) rfl hD J Sm rfl rfl rfl (by omega) jk_1 (by omega) (wr_153 (fun q1 q2 q3 q4 => by omega)) rfl (fun h w1 J Sm => ?_)
  rw [vww w1 (show s1.toInt = s1.toInt from by omega) (show 1 = (1 : Int32).toInt from by have := jk_1; omega)] at D
  refine x_iconst (v := 0) rfl ki_0 ?_
  refine x_istore (lsx9 := [(4, .int 0), (0, .ref 125), (1, .int l1), (2, .int l2), (3, .int l3)]) rfl rfl rfl ?_
  exact jX.sub (jsb_c rfl (jsb_c rfl (jsb_c rfl (jsb_c rfl (jsb_c rfl jsb_n))))) (ct_X12_findForce_r125d_95 hD hQ k45 13 l1 l2 l3 0 h (by have := jk_0; omega) (jr_of rfl (by omega)) (jr_of rfl (by omega)) (jr_of rfl (by omega)) (jr_mod rfl (by omega)) (jr_of jk_0 (by omega)) (by omega) (by omega) J Sm (by rw [jk_0]; exact D))
set_option maxRecDepth 100000 in
set_option maxHeartbeats 4000000 in
theorem ct_X12_findForce_r125d_200091 {Dy : jH → Prop} {h0 : jH} {Q : Option Value → jH → Prop} {dr : jW} {K45 : Int → Int → jW → jW} {R45 : Int} (hD : jDk Dy) (hQ : ∀ hx9, jJ jSgM Dy hx9 → jSm fp_X12_findForce_r125d h0 hx9 → dr = vw hx9 → Q none hx9) (k45 : ∀ (l1 : Int32) (l2 : Int32) (h : jH), l2.toInt - (-1) < R45 → 0 ≤ l1.toInt ∧ l1.toInt ≤ 146399 → (-1) ≤ l2.toInt ∧ l2.toInt ≤ 29 → jJ jSgM Dy h → jSm fp_X12_findForce_r125d h0 h → K45 l1.toInt l2.toInt (vw h) = dr → jX m_X12_findForce 3 0 0 45 [(0, .ref 125), (1, .int l1), (2, .int l2)] [] h 0 0 Q) : ∀ (l1 : Int32) (l2 : Int32) (l3 : Int32) (s1 : Int32) (h : jH), 0 ≤ l1.toInt ∧ l1.toInt ≤ 146399 → 0 ≤ l2.toInt ∧ l2.toInt ≤ 29 → 18820 ≤ l3.toInt ∧ l3.toInt ≤ 45616 → l3.toInt % 924 = 340 → 0 ≤ s1.toInt ∧ s1.toInt ≤ 29 → l3.toInt = 18820 + 924 * l2.toInt → l2.toInt - (-1) ≤ R45 → jJ jSgM Dy h → jSm fp_X12_findForce_r125d h0 h → d_X12_findForce_r125d_200091 K45  l1.toInt l2.toInt l3.toInt s1.toInt (vw h) = dr → jX m_X12_findForce 3 0 0 91 [(0, .ref 125), (1, .int l1), (2, .int l2), (3, .int l3)] [.int 0, .int s1, .ref 153] h 0 0 Q := by
  intro l1 l2 l3 s1 h y0 y1 y2 y3 y4 y5  m45 J Sm D
  unfold d_X12_findForce_r125d_200091 at D
  refine z_zast (N := 30) (l := 0) (u := 30) (w := 0) rfl hD J Sm rfl rfl rfl (by omega) jk_0 (by omega) (wr_153 (fun q1 q2 q3 q4 => by omega)) rfl (fun h w1 J Sm => ?_)
  rw [vww w1 (show s1.toInt = s1.toInt from by omega) (show 0 = (0 : Int32).toInt from by have := jk_0; omega)] at D
  refine x_iconst (v := 0) rfl ki_0 ?_
  refine x_istore (lsx9 := [(4, .int 0), (0, .ref 125), (1, .int l1), (2, .int l2), (3, .int l3)]) rfl rfl rfl ?_
  exact jX.sub (jsb_c rfl (jsb_c rfl (jsb_c rfl (jsb_c rfl (jsb_c rfl jsb_n))))) (ct_X12_findForce_r125d_95 hD hQ k45 13 l1 l2 l3 0 h (by have := jk_0; omega) (jr_of rfl (by omega)) (jr_of rfl (by omega)) (jr_of rfl (by omega)) (jr_mod rfl (by omega)) (jr_of jk_0 (by omega)) (by omega) (by omega) J Sm (by rw [jk_0]; exact D))
set_option maxRecDepth 100000 in
set_option maxHeartbeats 4000000 in
theorem ct_X12_findForce_r125d_90 {Dy : jH → Prop} {h0 : jH} {Q : Option Value → jH → Prop} {dr : jW} {K45 : Int → Int → jW → jW} {R45 : Int} (hD : jDk Dy) (hQ : ∀ hx9, jJ jSgM Dy hx9 → jSm fp_X12_findForce_r125d h0 hx9 → dr = vw hx9 → Q none hx9) (k45 : ∀ (l1 : Int32) (l2 : Int32) (h : jH), l2.toInt - (-1) < R45 → 0 ≤ l1.toInt ∧ l1.toInt ≤ 146399 → (-1) ≤ l2.toInt ∧ l2.toInt ≤ 29 → jJ jSgM Dy h → jSm fp_X12_findForce_r125d h0 h → K45 l1.toInt l2.toInt (vw h) = dr → jX m_X12_findForce 3 0 0 45 [(0, .ref 125), (1, .int l1), (2, .int l2)] [] h 0 0 Q) : ∀ (l1 : Int32) (l2 : Int32) (l3 : Int32) (s0 : Int32) (h : jH), 0 ≤ l1.toInt ∧ l1.toInt ≤ 146399 → 0 ≤ l2.toInt ∧ l2.toInt ≤ 29 → 18820 ≤ l3.toInt ∧ l3.toInt ≤ 45616 → l3.toInt % 924 = 340 → 0 ≤ s0.toInt ∧ s0.toInt ≤ 29 → l3.toInt = 18820 + 924 * l2.toInt → l2.toInt - (-1) ≤ R45 → jJ jSgM Dy h → jSm fp_X12_findForce_r125d h0 h → d_X12_findForce_r125d_90 K45  l1.toInt l2.toInt l3.toInt s0.toInt (vw h) = dr → jX m_X12_findForce 3 0 0 90 [(0, .ref 125), (1, .int l1), (2, .int l2), (3, .int l3)] [.int s0, .ref 153] h 0 0 Q := by
  intro l1 l2 l3 s0 h y0 y1 y2 y3 y4 y5  m45 J Sm D
  unfold d_X12_findForce_r125d_90 at D
  refine x_iconst (v := 0) rfl ki_0 ?_
  exact jX.sub (jsb_c rfl (jsb_c rfl (jsb_c rfl (jsb_c rfl jsb_n)))) (ct_X12_findForce_r125d_200091 hD hQ k45 l1 l2 l3 s0 h (jr_of rfl (by omega)) (jr_of rfl (by omega)) (jr_of rfl (by omega)) (jr_mod rfl (by omega)) (jr_of rfl (by omega)) (by omega) (by omega) J Sm D)
set_option maxRecDepth 100000 in
set_option maxHeartbeats 4000000 in
theorem ct_X12_findForce_r125d_45 {Dy : jH → Prop} {h0 : jH} {Q : Option Value → jH → Prop} {dr : jW} (hD : jDk Dy) (hQ : ∀ hx9, jJ jSgM Dy hx9 → jSm fp_X12_findForce_r125d h0 hx9 → dr = vw hx9 → Q none hx9) : ∀ r : Nat, ∀ (l1 : Int32) (l2 : Int32) (h : jH), l2.toInt - (-1) < (r : Int) → 0 ≤ l1.toInt ∧ l1.toInt ≤ 146399 → (-1) ≤ l2.toInt ∧ l2.toInt ≤ 29 → jJ jSgM Dy h → jSm fp_X12_findForce_r125d h0 h → d_X12_findForce_r125d_45 r l1.toInt l2.toInt (vw h) = dr → jX m_X12_findForce 3 0 0 45 [(0, .ref 125), (1, .int l1), (2, .int l2)] [] h 0 0 Q := by
  intro r
  induction r with
  | zero =>
    intro l1 l2 h hm y0 y1   J Sm D
    exfalso
    omega
  | succ r ih =>
    intro l1 l2 h hm y0 y1   J Sm D
    rw [d_X12_findForce_r125d_45.eq_2] at D
    refine x_iloadn (x := l2) rfl rfl ?_
    refine x_iflt (tgt := 204) rfl rfl (ti_lt rfl jk_0 ⟨fun c1 => ?_, fun c1 => ?_⟩)
    ·
      rw [if_pos (by omega)] at D
      refine x_vret rfl rfl ?_
      exact hQ _ J Sm D.symm
    ·
      rw [if_neg (by omega)] at D
      refine x_iloadn (x := l2) rfl rfl ?_
      refine x_inst (N := m_X12_textAt) (As := [.int l2]) (st := []) (dx9 := 2) (mc := 0) (ms := 0) (host := "") rfl t_X12_textAt ⟨Or.inl q_12_676, s_X12_textAt⟩ rfl (by decide) rfl rfl ⟨by decide, by decide⟩ (jC.of rfl k_X12_textAt rfl ?_)
      show jX m_X12_textAt 2 0 0 0 [(0, .int l2)] [] _ 0 0 _
      refine x_sipush (v := 18820) rfl ks_18820 ?_
      refine x_sipush (v := 924) rfl ks_924 ?_
      refine x_iloadn (x := l2) rfl rfl ?_
      refine z_imul rfl jk_924 rfl (by omega) (fun v2 ev2 => ?_)
      refine z_iadd rfl jk_18820 rfl (by omega) (fun v3 ev3 => ?_)
      refine x_iret rfl rfl ?_
      show jX m_X12_findForce 3 0 0 53 [(0, .ref 125), (1, .int l1), (2, .int l2)] [.int v3] _ 0 0 _
      refine x_istoren (lsx9 := [(3, .int v3), (0, .ref 125), (1, .int l1), (2, .int l2)]) rfl rfl rfl ?_
      refine x_aloadn (x := 125) rfl rfl ?_
      refine z_getR (N := 92) (b := 153) 12 59 rfl f_12_117 rfl J rfl 16059 ⟨rfl, rfl⟩ rfl ?_
      refine x_iloadn (x := l2) rfl rfl ?_
      refine x_aloadn (x := 125) rfl rfl ?_
      refine z_getR (N := 92) (b := 126) 12 2 rfl f_12_8 rfl J rfl 16002 ⟨rfl, rfl⟩ rfl ?_
      refine x_iloadn (x := v3) rfl rfl ?_
      refine x_iconst (v := 2) rfl ki_2 ?_
      refine z_iadd rfl rfl jk_2 (by omega) (fun v4 ev4 => ?_)
      refine z_iald (N := 50660) rfl J rfl sg_126_18820_46540_924_2_3 rfl (by omega) (fun v5 qv5 ev5 => ?_)
      try rw [vrd qv5 (show ((18820 + (924 * l2.toInt)) + 2) = v4.toInt from by omega)] at D
      refine x_aloadn (x := 125) rfl rfl ?_
      refine z_getI (N := 92) 12 28 rfl f_12_377 rfl J rfl sg_125_28_29_1_0_1 (fun v6 qv6 ev6 => ?_)
      try rw [vrf qv6] at D
      refine x_icgt (tgt := 90) rfl rfl (ti_gt rfl rfl ⟨fun c7 => ?_, fun c7 => ?_⟩)
      ·
        rw [if_pos (by omega)] at D
        try rw [show (18820 + (924 * l2.toInt)) = v3.toInt from by omega] at D
        exact jX.sub (jsb_c rfl (jsb_c rfl (jsb_c rfl (jsb_c rfl jsb_n)))) (ct_X12_findForce_r125d_90 hD hQ ih l1 l2 v3 l2 h (jr_of rfl (by omega)) (jr_of rfl (by omega)) (jr_of rfl (by omega)) (jr_mod rfl (by omega)) (jr_of rfl (by omega)) (by omega) (by omega) J Sm D)
      ·
        rw [if_neg (by omega)] at D
        refine x_aloadn (x := 125) rfl rfl ?_
        refine z_getR (N := 92) (b := 126) 12 2 rfl f_12_8 rfl J rfl 16002 ⟨rfl, rfl⟩ rfl ?_
        refine x_iloadn (x := v3) rfl rfl ?_
        refine x_iconst (v := 1) rfl ki_1 ?_
        refine z_iadd rfl rfl jk_1 (by omega) (fun v8 ev8 => ?_)
        refine z_iald (N := 50660) rfl J rfl sg_126_18820_46540_924_1_2 rfl (by omega) (fun v9 qv9 ev9 => ?_)
        try rw [vrd qv9 (show ((18820 + (924 * l2.toInt)) + 1) = v8.toInt from by omega)] at D
        refine x_iloadn (x := l1) rfl rfl ?_
        refine x_icgt (tgt := 90) rfl rfl (ti_gt rfl rfl ⟨fun c10 => ?_, fun c10 => ?_⟩)
        ·
          rw [if_pos (by omega)] at D
          try rw [show (18820 + (924 * l2.toInt)) = v3.toInt from by omega] at D
          exact jX.sub (jsb_c rfl (jsb_c rfl (jsb_c rfl (jsb_c rfl jsb_n)))) (ct_X12_findForce_r125d_90 hD hQ ih l1 l2 v3 l2 h (jr_of rfl (by omega)) (jr_of rfl (by omega)) (jr_of rfl (by omega)) (jr_mod rfl (by omega)) (jr_of rfl (by omega)) (by omega) (by omega) J Sm D)
        ·
          rw [if_neg (by omega)] at D
          refine x_iconst (v := 1) rfl ki_1 ?_
          refine x_goto (tgt := 91) rfl rfl ?_
          try rw [show (18820 + (924 * l2.toInt)) = v3.toInt from by omega] at D
          exact jX.sub (jsb_c rfl (jsb_c rfl (jsb_c rfl (jsb_c rfl jsb_n)))) (ct_X12_findForce_r125d_300091 hD hQ ih l1 l2 v3 l2 h (jr_of rfl (by omega)) (jr_of rfl (by omega)) (jr_of rfl (by omega)) (jr_mod rfl (by omega)) (jr_of rfl (by omega)) (by omega) (by omega) J Sm D)
set_option maxRecDepth 100000 in
set_option maxHeartbeats 4000000 in
theorem ct_X12_findForce_r125d_16 {Dy : jH → Prop} {h0 : jH} {Q : Option Value → jH → Prop} {dr : jW} (hD : jDk Dy) (hQ : ∀ hx9, jJ jSgM Dy hx9 → jSm fp_X12_findForce_r125d h0 hx9 → dr = vw hx9 → Q none hx9) : ∀ r : Nat, ∀ (l1 : Int32) (l2 : Int32) (h : jH), 360 - l2.toInt < (r : Int) → 0 ≤ l1.toInt ∧ l1.toInt ≤ 146399 → 0 ≤ l2.toInt ∧ l2.toInt ≤ 360 → jJ jSgM Dy h → jSm fp_X12_findForce_r125d h0 h → d_X12_findForce_r125d_16 r l1.toInt l2.toInt (vw h) = dr → jX m_X12_findForce 3 0 0 16 [(0, .ref 125), (1, .int l1), (2, .int l2)] [] h 0 0 Q := by
  intro r
  induction r with
  | zero =>
    intro l1 l2 h hm y0 y1   J Sm D
    exfalso
    omega
  | succ r ih =>
    intro l1 l2 h hm y0 y1   J Sm D
    rw [d_X12_findForce_r125d_16.eq_2] at D
    refine x_iloadn (x := l2) rfl rfl ?_
    refine x_sipush (v := 360) rfl ks_360 ?_
    refine x_icge (tgt := 36) rfl rfl (ti_ge rfl jk_360 ⟨fun c1 => ?_, fun c1 => ?_⟩)
    ·
      rw [if_pos (by omega)] at D
      refine x_aloadn (x := 125) rfl rfl ?_
      refine z_getR (N := 92) (b := 126) 12 2 rfl f_12_8 rfl J rfl 16002 ⟨rfl, rfl⟩ rfl ?_
      refine x_iconst (v := 4) rfl ki_4 ?_
      refine z_iald (N := 50660) rfl J rfl sg_126_4_5_1_0_1 jk_4 (by omega) (fun v2 qv2 ev2 => ?_)
      try rw [vrn (n := 4) (by decide) qv2] at D
      refine x_iconst (v := 1) rfl ki_1 ?_
      refine z_isub rfl rfl jk_1 (by omega) (fun v3 ev3 => ?_)
      refine x_istoren (lsx9 := [(2, .int v3), (0, .ref 125), (1, .int l1)]) rfl rfl rfl ?_
      try rw [show (v2.toInt - 1) = v3.toInt from by omega] at D
      exact jX.sub (jsb_c rfl (jsb_c rfl (jsb_c rfl jsb_n))) (ct_X12_findForce_r125d_45 hD hQ  31 l1 v3 h (by omega) (jr_of rfl (by omega)) (jr_of rfl (by omega)) J Sm D)
    ·
      rw [if_neg (by omega)] at D
      refine x_aloadn (x := 125) rfl rfl ?_
      refine z_getR (N := 92) (b := 152) 12 58 rfl f_12_114 rfl J rfl 16058 ⟨rfl, rfl⟩ rfl ?_
      refine x_iloadn (x := l2) rfl rfl ?_
      refine x_iconst (v := 0) rfl ki_0 ?_
      refine z_zast (N := 360) (l := 0) (u := 360) (w := 0) rfl hD J Sm rfl rfl rfl (by omega) jk_0 (by omega) (wr_152 (fun q1 q2 q3 q4 => by omega)) rfl (fun h w4 J Sm => ?_)
      rw [vww w4 (show l2.toInt = l2.toInt from by omega) (show 0 = (0 : Int32).toInt from by have := jk_0; omega)] at D
      refine z_iinc (x := l2) (lsx9 := fun v5 => [(2, .int v5), (0, .ref 125), (1, .int l1)]) rfl rfl rfl jko_1 (by omega) rfl (fun _ => rfl) (fun v5 ev5 => ?_)
      refine x_goto (tgt := 16) rfl rfl ?_
      try rw [show (l2.toInt + 1) = v5.toInt from by omega] at D
      exact jX.sub (jsb_c rfl (jsb_c rfl (jsb_c rfl jsb_n))) (ih l1 v5 h (by omega) (jr_of rfl (by omega)) (jr_of rfl (by omega)) J Sm D)
set_option maxRecDepth 100000 in
set_option maxHeartbeats 4000000 in
theorem sf_X12_findForce_r125d {Dy : jH → Prop} {h : jH} {Q : Option Value → jH → Prop} {dr : jW} {a1 : Int32} (y1 : 0 ≤ a1.toInt ∧ a1.toInt ≤ 146399) (hD : jDk Dy) (J : jJ jSgM Dy h) (D : d_X12_findForce_r125d a1.toInt (vw h) = dr) (hQ : ∀ hx9, jJ jSgM Dy hx9 → jSm fp_X12_findForce_r125d h hx9 → dr = vw hx9 → Q none hx9) : jC m_X12_findForce 3 0 0 [.ref 125, .int a1] h Q := by
  refine jC.of rfl k_X12_findForce rfl ?_
  have Sm := jSm_rf fp_X12_findForce_r125d h
  show jX m_X12_findForce 3 0 0 0 [(0, .ref 125), (1, .int a1)] [] _ 0 0 _
  unfold d_X12_findForce_r125d at D
  refine x_aloadn (x := 125) rfl rfl ?_
  refine z_getI (N := 92) 12 57 rfl f_12_111 rfl J rfl sg_125_57_58_1_0_1 (fun v1 qv1 ev1 => ?_)
  try rw [vrf qv1] at D
  refine x_iloadn (x := a1) rfl rfl ?_
  refine x_icne (tgt := 9) rfl rfl (ti_ne rfl rfl ⟨fun c2 => ?_, fun c2 => ?_⟩)
  ·
    rw [if_neg (by omega)] at D
    refine x_aloadn (x := 125) rfl rfl ?_
    refine x_iloadn (x := a1) rfl rfl ?_
    refine z_putI (N := 92) (w := a1.toInt) 12 57 rfl f_12_111 rfl (jfin_no TX12 RX12 92 rfl rfl) hD J Sm rfl rfl rfl (pw_125_57 (by omega)) rfl (fun h w3 J Sm => ?_)
    rw [vwf w3 (show a1.toInt = a1.toInt from by omega)] at D
    refine x_iconst (v := 0) rfl ki_0 ?_
    refine x_istoren (lsx9 := [(2, .int 0), (0, .ref 125), (1, .int a1)]) rfl rfl rfl ?_
    exact jX.sub (jsb_c rfl (jsb_c rfl (jsb_c rfl jsb_n))) (ct_X12_findForce_r125d_16 hD hQ  361 a1 0 h (by have := jk_0; omega) (jr_of rfl (by omega)) (jr_of jk_0 (by omega)) J Sm (by rw [jk_0]; exact D))
  ·
    rw [if_pos (by omega)] at D
    refine x_vret rfl rfl ?_
    exact hQ _ J Sm D.symm
def fp_X12_reckon_r125d : jFp := [(125, 61, 62)]
set_option maxRecDepth 100000 in
set_option maxHeartbeats 4000000 in
theorem ct_X12_reckon_r125d_131 {Dy : jH → Prop} {h0 : jH} {Q : Option Value → jH → Prop} {dr : (Int × jW)} (hD : jDk Dy) (hQ : ∀ (v : Int64) hx9, jJ jSgM Dy hx9 → jSm fp_X12_reckon_r125d h0 hx9 → dr.1 = v.toInt → dr.2 = vw hx9 → Q (some (.long v)) hx9) : ∀ (s0 : Int64) (h : jH), jJ jSgM Dy h → jSm fp_X12_reckon_r125d h0 h → d_X12_reckon_r125d_131  s0.toInt (vw h) = dr → jX m_X12_reckon 1 0 0 131 [] [.long s0] h 0 0 Q := by
  intro s0 h    J Sm D
  have es0 := jfullL s0
  unfold d_X12_reckon_r125d_131 at D
  refine x_lret rfl rfl ?_
  exact hQ _ _ J Sm ((congrArg Prod.fst D).symm.trans (show s0.toInt = s0.toInt from by omega)) (congrArg Prod.snd D).symm
set_option maxRecDepth 100000 in
set_option maxHeartbeats 4000000 in
theorem ct_X12_reckon_r125d_5000131 {Dy : jH → Prop} {h0 : jH} {Q : Option Value → jH → Prop} {dr : (Int × jW)} (hD : jDk Dy) (hQ : ∀ (v : Int64) hx9, jJ jSgM Dy hx9 → jSm fp_X12_reckon_r125d h0 hx9 → dr.1 = v.toInt → dr.2 = vw hx9 → Q (some (.long v)) hx9) : ∀ (h : jH), jJ jSgM Dy h → jSm fp_X12_reckon_r125d h0 h → d_X12_reckon_r125d_5000131  (vw h) = dr → jX m_X12_reckon 1 0 0 131 [] [.long 1000000000001] h 0 0 Q := by
  intro  h    J Sm D
  unfold d_X12_reckon_r125d_5000131 at D
  refine x_lret rfl rfl ?_
  exact hQ _ _ J Sm ((congrArg Prod.fst D).symm.trans (show 1000000000001 = (1000000000001 : Int64).toInt from by have := jkl_1000000000001; omega)) (congrArg Prod.snd D).symm
set_option maxRecDepth 100000 in
set_option maxHeartbeats 4000000 in
theorem ct_X12_reckon_r125d_127 {Dy : jH → Prop} {h0 : jH} {Q : Option Value → jH → Prop} {dr : (Int × jW)} (hD : jDk Dy) (hQ : ∀ (v : Int64) hx9, jJ jSgM Dy hx9 → jSm fp_X12_reckon_r125d h0 hx9 → dr.1 = v.toInt → dr.2 = vw hx9 → Q (some (.long v)) hx9) : ∀ (l2 : Int64) (l4 : Int64) (h : jH), jJ jSgM Dy h → jSm fp_X12_reckon_r125d h0 h → d_X12_reckon_r125d_127  l2.toInt l4.toInt (vw h) = dr → jX m_X12_reckon 1 0 0 127 [(2, .long l2), (4, .long l4)] [] h 0 0 Q := by
  intro l2 l4 h    J Sm D
  have el2 := jfullL l2
  have el4 := jfullL l4
  unfold d_X12_reckon_r125d_127 at D
  refine x_lloadn (x := l2) rfl rfl ?_
  refine x_lload (x := l4) rfl rfl ?_
  refine z_lmulW rfl rfl rfl (fun v1 ev1 => ?_)
  have fv1 := jfullL v1
  try rw [← ev1] at D
  exact jX.sub jsb_n (ct_X12_reckon_r125d_131 hD hQ  v1 h J Sm D)
set_option maxRecDepth 100000 in
set_option maxHeartbeats 4000000 in
theorem ct_X12_reckon_r125d_121 {Dy : jH → Prop} {h0 : jH} {Q : Option Value → jH → Prop} {dr : (Int × jW)} (hD : jDk Dy) (hQ : ∀ (v : Int64) hx9, jJ jSgM Dy hx9 → jSm fp_X12_reckon_r125d h0 hx9 → dr.1 = v.toInt → dr.2 = vw hx9 → Q (some (.long v)) hx9) : ∀ (h : jH), jJ jSgM Dy h → jSm fp_X12_reckon_r125d h0 h → d_X12_reckon_r125d_121  (vw h) = dr → jX m_X12_reckon 1 0 0 121 [] [] h 0 0 Q := by
  intro  h    J Sm D
  unfold d_X12_reckon_r125d_121 at D
  refine x_ldc2 (v := 1000000000001) rfl z_12_731 ?_
  refine x_goto (tgt := 131) rfl rfl ?_
  exact jX.sub jsb_n (ct_X12_reckon_r125d_5000131 hD hQ  h J Sm D)
set_option maxRecDepth 100000 in
set_option maxHeartbeats 4000000 in
theorem ct_X12_reckon_r125d_116 {Dy : jH → Prop} {h0 : jH} {Q : Option Value → jH → Prop} {dr : (Int × jW)} (hD : jDk Dy) (hQ : ∀ (v : Int64) hx9, jJ jSgM Dy hx9 → jSm fp_X12_reckon_r125d h0 hx9 → dr.1 = v.toInt → dr.2 = vw hx9 → Q (some (.long v)) hx9) : ∀ (l2 : Int64) (l4 : Int64) (s0 : Int64) (s2 : Int64) (h : jH), l2.toInt ≠ 0 → s0.toInt ≠ 0 → jJ jSgM Dy h → jSm fp_X12_reckon_r125d h0 h → d_X12_reckon_r125d_116  l2.toInt l4.toInt s0.toInt s2.toInt (vw h) = dr → jX m_X12_reckon 1 0 0 116 [(2, .long l2), (4, .long l4)] [.long s0, .long 1000000000000, .long s2] h 0 0 Q := by
  intro l2 l4 s0 s2 h y0 y1   J Sm D
  have el2 := jfullL l2
  have el4 := jfullL l4
  have es0 := jfullL s0
  have es2 := jfullL s2
  unfold d_X12_reckon_r125d_116 at D
  refine z_ldivW rfl jkl_1000000000000 rfl (by omega) (fun v1 ev1 => ?_)
  have fv1 := jfullL v1
  try rw [← ev1] at D
  refine z_lcmp rfl rfl rfl (fun v2 ev2 => ?_)
  refine x_ifle (tgt := 127) rfl rfl (ti_le rfl jk_0 ⟨fun c3 => ?_, fun c3 => ?_⟩)
  ·
    rw [if_pos (by omega)] at D
    exact jX.sub (jsb_c rfl (jsb_c rfl jsb_n)) (ct_X12_reckon_r125d_127 hD hQ  l2 l4 h J Sm D)
  ·
    rw [if_neg (by omega)] at D
    exact jX.sub jsb_n (ct_X12_reckon_r125d_121 hD hQ  h J Sm D)
set_option maxRecDepth 100000 in
set_option maxHeartbeats 4000000 in
theorem ct_X12_reckon_r125d_93 {Dy : jH → Prop} {h0 : jH} {Q : Option Value → jH → Prop} {dr : (Int × jW)} (hD : jDk Dy) (hQ : ∀ (v : Int64) hx9, jJ jSgM Dy hx9 → jSm fp_X12_reckon_r125d h0 hx9 → dr.1 = v.toInt → dr.2 = vw hx9 → Q (some (.long v)) hx9) : ∀ (l2 : Int64) (l4 : Int64) (s0 : Int64) (s2 : Int64) (h : jH), l2.toInt ≠ 0 → s0.toInt ≠ 0 → jJ jSgM Dy h → jSm fp_X12_reckon_r125d h0 h → d_X12_reckon_r125d_93  l2.toInt l4.toInt s0.toInt s2.toInt (vw h) = dr → jX m_X12_reckon 1 0 0 93 [(2, .long l2), (4, .long l4)] [.long s0, .long 1000000000000, .long s2] h 0 0 Q := by
  intro l2 l4 s0 s2 h y0 y1   J Sm D
  have el2 := jfullL l2
  have el4 := jfullL l4
  have es0 := jfullL s0
  have es2 := jfullL s2
  unfold d_X12_reckon_r125d_93 at D
  refine z_ldivW rfl jkl_1000000000000 rfl (by omega) (fun v1 ev1 => ?_)
  have fv1 := jfullL v1
  try rw [← ev1] at D
  refine z_lcmp rfl rfl rfl (fun v2 ev2 => ?_)
  refine x_ifgt (tgt := 121) rfl rfl (ti_gt rfl jk_0 ⟨fun c3 => ?_, fun c3 => ?_⟩)
  ·
    rw [if_pos (by omega)] at D
    exact jX.sub jsb_n (ct_X12_reckon_r125d_121 hD hQ  h J Sm D)
  ·
    rw [if_neg (by omega)] at D
    refine x_lload (x := l4) rfl rfl ?_
    refine z_lnegD rfl rfl (fun v4 ev4 => ?_)
    have fv4 := jfullL v4
    try rw [← ev4] at D
    refine x_ldc2 (v := 1000000000000) rfl z_12_729 ?_
    refine x_lloadn (x := l2) rfl rfl ?_
    refine x_lconst (v := 0) rfl kl_0 ?_
    refine z_lcmp rfl rfl jkl_0 (fun v5 ev5 => ?_)
    refine x_ifge (tgt := 115) rfl rfl (ti_ge rfl jk_0 ⟨fun c6 => ?_, fun c6 => ?_⟩)
    ·
      rw [if_pos (by omega)] at D
      refine x_lloadn (x := l2) rfl rfl ?_
      exact jX.sub (jsb_c rfl (jsb_c rfl jsb_n)) (ct_X12_reckon_r125d_116 hD hQ  l2 l4 l2 v4 h (by omega) (by omega) J Sm D)
    ·
      rw [if_neg (by omega)] at D
      refine x_lloadn (x := l2) rfl rfl ?_
      refine z_lnegE rfl rfl (by omega) (fun v7 ev7 => ?_)
      have fv7 := jfullL v7
      try rw [← ev7.1] at D
      refine x_goto (tgt := 116) rfl rfl ?_
      exact jX.sub (jsb_c rfl (jsb_c rfl jsb_n)) (ct_X12_reckon_r125d_116 hD hQ  l2 l4 v7 v4 h (by omega) (by omega) J Sm D)
set_option maxRecDepth 100000 in
set_option maxHeartbeats 4000000 in
theorem ct_X12_reckon_r125d_5000149 {Dy : jH → Prop} {h0 : jH} {Q : Option Value → jH → Prop} {dr : (Int × jW)} (hD : jDk Dy) (hQ : ∀ (v : Int64) hx9, jJ jSgM Dy hx9 → jSm fp_X12_reckon_r125d h0 hx9 → dr.1 = v.toInt → dr.2 = vw hx9 → Q (some (.long v)) hx9) : ∀ (s0 : Int64) (h : jH), 0 ≤ s0.toInt ∧ s0.toInt ≤ 1 → jJ jSgM Dy h → jSm fp_X12_reckon_r125d h0 h → d_X12_reckon_r125d_5000149  s0.toInt (vw h) = dr → jX m_X12_reckon 1 0 0 149 [] [.long s0] h 0 0 Q := by
  intro s0 h y0   J Sm D
  unfold d_X12_reckon_r125d_5000149 at D
  refine x_lret rfl rfl ?_
  exact hQ _ _ J Sm ((congrArg Prod.fst D).symm.trans (show s0.toInt = s0.toInt from by omega)) (congrArg Prod.snd D).symm
set_option maxRecDepth 100000 in
set_option maxHeartbeats 4000000 in
theorem ct_X12_reckon_r125d_5000162 {Dy : jH → Prop} {h0 : jH} {Q : Option Value → jH → Prop} {dr : (Int × jW)} (hD : jDk Dy) (hQ : ∀ (v : Int64) hx9, jJ jSgM Dy hx9 → jSm fp_X12_reckon_r125d h0 hx9 → dr.1 = v.toInt → dr.2 = vw hx9 → Q (some (.long v)) hx9) : ∀ (s0 : Int64) (h : jH), 0 ≤ s0.toInt ∧ s0.toInt ≤ 1 → jJ jSgM Dy h → jSm fp_X12_reckon_r125d h0 h → d_X12_reckon_r125d_5000162  s0.toInt (vw h) = dr → jX m_X12_reckon 1 0 0 162 [] [.long s0] h 0 0 Q := by
  intro s0 h y0   J Sm D
  unfold d_X12_reckon_r125d_5000162 at D
  refine x_lret rfl rfl ?_
  exact hQ _ _ J Sm ((congrArg Prod.fst D).symm.trans (show s0.toInt = s0.toInt from by omega)) (congrArg Prod.snd D).symm
set_option maxRecDepth 100000 in
set_option maxHeartbeats 4000000 in
theorem ct_X12_reckon_r125d_5000175 {Dy : jH → Prop} {h0 : jH} {Q : Option Value → jH → Prop} {dr : (Int × jW)} (hD : jDk Dy) (hQ : ∀ (v : Int64) hx9, jJ jSgM Dy hx9 → jSm fp_X12_reckon_r125d h0 hx9 → dr.1 = v.toInt → dr.2 = vw hx9 → Q (some (.long v)) hx9) : ∀ (s0 : Int64) (h : jH), 0 ≤ s0.toInt ∧ s0.toInt ≤ 1 → jJ jSgM Dy h → jSm fp_X12_reckon_r125d h0 h → d_X12_reckon_r125d_5000175  s0.toInt (vw h) = dr → jX m_X12_reckon 1 0 0 175 [] [.long s0] h 0 0 Q := by
  intro s0 h y0   J Sm D
  unfold d_X12_reckon_r125d_5000175 at D
  refine x_lret rfl rfl ?_
  exact hQ _ _ J Sm ((congrArg Prod.fst D).symm.trans (show s0.toInt = s0.toInt from by omega)) (congrArg Prod.snd D).symm
set_option maxRecDepth 100000 in
set_option maxHeartbeats 4000000 in
theorem ct_X12_reckon_r125d_20 {Dy : jH → Prop} {h0 : jH} {Q : Option Value → jH → Prop} {dr : (Int × jW)} (hD : jDk Dy) (hQ : ∀ (v : Int64) hx9, jJ jSgM Dy hx9 → jSm fp_X12_reckon_r125d h0 hx9 → dr.1 = v.toInt → dr.2 = vw hx9 → Q (some (.long v)) hx9) : ∀ (l1 : Int32) (l2 : Int64) (l4 : Int64) (h : jH), 6 ≤ l1.toInt ∧ l1.toInt ≤ 12 → (l1.toInt ≠ 9 ∨ l4.toInt ≠ 0) → jJ jSgM Dy h → jSm fp_X12_reckon_r125d h0 h → d_X12_reckon_r125d_20  l1.toInt l2.toInt l4.toInt (vw h) = dr → jX m_X12_reckon 1 0 0 20 [(1, .int l1), (2, .long l2), (4, .long l4)] [] h 0 0 Q := by
  intro l1 l2 l4 h y0 y1   J Sm D
  have el2 := jfullL l2
  have el4 := jfullL l4
  unfold d_X12_reckon_r125d_20 at D
  refine x_iloadn (x := l1) rfl rfl ?_
  by_cases c1 : l1.toInt = 6
  ·
    refine x_tableIn (tgt := 60) 6 rfl c1 (by decide) (by decide) rfl rfl ?_
    rw [if_pos c1] at D
    refine x_lloadn (x := l2) rfl rfl ?_
    refine x_lload (x := l4) rfl rfl ?_
    refine z_laddW rfl rfl rfl (fun v2 ev2 => ?_)
    have fv2 := jfullL v2
    try rw [← ev2] at D
    refine x_lret rfl rfl ?_
    exact hQ _ _ J Sm ((congrArg Prod.fst D).symm.trans (show v2.toInt = v2.toInt from by omega)) (congrArg Prod.snd D).symm
  rw [if_neg c1] at D
  by_cases c3 : l1.toInt = 7
  ·
    refine x_tableIn (tgt := 65) 7 rfl c3 (by decide) (by decide) rfl rfl ?_
    rw [if_pos c3] at D
    refine x_lloadn (x := l2) rfl rfl ?_
    refine x_lload (x := l4) rfl rfl ?_
    refine z_lsubW rfl rfl rfl (fun v4 ev4 => ?_)
    have fv4 := jfullL v4
    try rw [← ev4] at D
    refine x_lret rfl rfl ?_
    exact hQ _ _ J Sm ((congrArg Prod.fst D).symm.trans (show v4.toInt = v4.toInt from by omega)) (congrArg Prod.snd D).symm
  rw [if_neg c3] at D
  by_cases c5 : l1.toInt = 8
  ·
    refine x_tableIn (tgt := 70) 8 rfl c5 (by decide) (by decide) rfl rfl ?_
    rw [if_pos c5] at D
    refine x_lloadn (x := l2) rfl rfl ?_
    refine x_lconst (v := 0) rfl kl_0 ?_
    refine z_lcmp rfl rfl jkl_0 (fun v6 ev6 => ?_)
    refine x_ifeq (tgt := 127) rfl rfl (ti_eq rfl jk_0 ⟨fun c7 => ?_, fun c7 => ?_⟩)
    ·
      rw [if_pos (by omega)] at D
      exact jX.sub (jsb_c rfl (jsb_c rfl jsb_n)) (ct_X12_reckon_r125d_127 hD hQ  l2 l4 h J Sm D)
    ·
      rw [if_neg (by omega)] at D
      refine x_lload (x := l4) rfl rfl ?_
      refine x_ldc2 (v := 1000000000000) rfl z_12_729 ?_
      refine x_lloadn (x := l2) rfl rfl ?_
      refine x_lconst (v := 0) rfl kl_0 ?_
      refine z_lcmp rfl rfl jkl_0 (fun v8 ev8 => ?_)
      refine x_ifge (tgt := 92) rfl rfl (ti_ge rfl jk_0 ⟨fun c9 => ?_, fun c9 => ?_⟩)
      ·
        rw [if_pos (by omega)] at D
        refine x_lloadn (x := l2) rfl rfl ?_
        exact jX.sub (jsb_c rfl (jsb_c rfl jsb_n)) (ct_X12_reckon_r125d_93 hD hQ  l2 l4 l2 l4 h (by omega) (by omega) J Sm D)
      ·
        rw [if_neg (by omega)] at D
        refine x_lloadn (x := l2) rfl rfl ?_
        refine z_lnegE rfl rfl (by omega) (fun v10 ev10 => ?_)
        have fv10 := jfullL v10
        try rw [← ev10.1] at D
        refine x_goto (tgt := 93) rfl rfl ?_
        exact jX.sub (jsb_c rfl (jsb_c rfl jsb_n)) (ct_X12_reckon_r125d_93 hD hQ  l2 l4 v10 l4 h (by omega) (by omega) J Sm D)
  rw [if_neg c5] at D
  by_cases c11 : l1.toInt = 9
  ·
    refine x_tableIn (tgt := 132) 9 rfl c11 (by decide) (by decide) rfl rfl ?_
    rw [if_pos c11] at D
    refine x_lloadn (x := l2) rfl rfl ?_
    refine x_lload (x := l4) rfl rfl ?_
    refine z_ldivW rfl rfl rfl (by omega) (fun v12 ev12 => ?_)
    have fv12 := jfullL v12
    try rw [← ev12] at D
    refine x_lret rfl rfl ?_
    exact hQ _ _ J Sm ((congrArg Prod.fst D).symm.trans (show v12.toInt = v12.toInt from by omega)) (congrArg Prod.snd D).symm
  rw [if_neg c11] at D
  by_cases c13 : l1.toInt = 10
  ·
    refine x_tableIn (tgt := 137) 10 rfl c13 (by decide) (by decide) rfl rfl ?_
    rw [if_pos c13] at D
    refine x_lloadn (x := l2) rfl rfl ?_
    refine x_lload (x := l4) rfl rfl ?_
    refine z_lcmp rfl rfl rfl (fun v14 ev14 => ?_)
    refine x_ifge (tgt := 148) rfl rfl (ti_ge rfl jk_0 ⟨fun c15 => ?_, fun c15 => ?_⟩)
    ·
      rw [if_pos (by omega)] at D
      refine x_lconst (v := 0) rfl kl_0 ?_
      exact jX.sub jsb_n (ct_X12_reckon_r125d_5000149 hD hQ  0 h (jr_ofl jkl_0 (by omega)) J Sm (by rw [jkl_0]; exact D))
    ·
      rw [if_neg (by omega)] at D
      refine x_lconst (v := 1) rfl kl_1 ?_
      refine x_goto (tgt := 149) rfl rfl ?_
      exact jX.sub jsb_n (ct_X12_reckon_r125d_5000149 hD hQ  1 h (jr_ofl jkl_1 (by omega)) J Sm (by rw [jkl_1]; exact D))
  rw [if_neg c13] at D
  by_cases c16 : l1.toInt = 11
  ·
    refine x_tableIn (tgt := 150) 11 rfl c16 (by decide) (by decide) rfl rfl ?_
    rw [if_pos c16] at D
    refine x_lloadn (x := l2) rfl rfl ?_
    refine x_lload (x := l4) rfl rfl ?_
    refine z_lcmp rfl rfl rfl (fun v17 ev17 => ?_)
    refine x_ifle (tgt := 161) rfl rfl (ti_le rfl jk_0 ⟨fun c18 => ?_, fun c18 => ?_⟩)
    ·
      rw [if_pos (by omega)] at D
      refine x_lconst (v := 0) rfl kl_0 ?_
      exact jX.sub jsb_n (ct_X12_reckon_r125d_5000162 hD hQ  0 h (jr_ofl jkl_0 (by omega)) J Sm (by rw [jkl_0]; exact D))
    ·
      rw [if_neg (by omega)] at D
      refine x_lconst (v := 1) rfl kl_1 ?_
      refine x_goto (tgt := 162) rfl rfl ?_
      exact jX.sub jsb_n (ct_X12_reckon_r125d_5000162 hD hQ  1 h (jr_ofl jkl_1 (by omega)) J Sm (by rw [jkl_1]; exact D))
  rw [if_neg c16] at D
  refine x_tableOut (tgt := 163) rfl (by omega) rfl ?_
  refine x_lloadn (x := l2) rfl rfl ?_
  refine x_lload (x := l4) rfl rfl ?_
  refine z_lcmp rfl rfl rfl (fun v19 ev19 => ?_)
  refine x_ifne (tgt := 174) rfl rfl (ti_ne rfl jk_0 ⟨fun c20 => ?_, fun c20 => ?_⟩)
  ·
    rw [if_neg (by omega)] at D
    refine x_lconst (v := 0) rfl kl_0 ?_
    exact jX.sub jsb_n (ct_X12_reckon_r125d_5000175 hD hQ  0 h (jr_ofl jkl_0 (by omega)) J Sm (by rw [jkl_0]; exact D))
  ·
    rw [if_pos (by omega)] at D
    refine x_lconst (v := 1) rfl kl_1 ?_
    refine x_goto (tgt := 175) rfl rfl ?_
    exact jX.sub jsb_n (ct_X12_reckon_r125d_5000175 hD hQ  1 h (jr_ofl jkl_1 (by omega)) J Sm (by rw [jkl_1]; exact D))
set_option maxRecDepth 100000 in
set_option maxHeartbeats 4000000 in
theorem sf_X12_reckon_r125d {Dy : jH → Prop} {h : jH} {Q : Option Value → jH → Prop} {dr : (Int × jW)} {a1 : Int32} {a2 : Int64} {a3 : Int64} (y1 : 6 ≤ a1.toInt ∧ a1.toInt ≤ 12) (hD : jDk Dy) (J : jJ jSgM Dy h) (D : d_X12_reckon_r125d a1.toInt a2.toInt a3.toInt (vw h) = dr) (hQ : ∀ (v : Int64) hx9, jJ jSgM Dy hx9 → jSm fp_X12_reckon_r125d h hx9 → dr.1 = v.toInt → dr.2 = vw hx9 → Q (some (.long v)) hx9) : jC m_X12_reckon 1 0 0 [.ref 125, .int a1, .long a2, .long a3] h Q := by
  refine jC.of rfl k_X12_reckon rfl ?_
  have Sm := jSm_rf fp_X12_reckon_r125d h
  have ea2 := jfullL a2
  have ea3 := jfullL a3
  show jX m_X12_reckon 1 0 0 0 [(0, .ref 125), (1, .int a1), (2, .long a2), (4, .long a3)] [] _ 0 0 _
  unfold d_X12_reckon_r125d at D
  refine x_iloadn (x := a1) rfl rfl ?_
  refine x_bipush (v := 9) rfl kb_9 ?_
  refine x_icne (tgt := 20) rfl rfl (ti_ne rfl jk_9 ⟨fun c1 => ?_, fun c1 => ?_⟩)
  ·
    rw [if_neg (by omega)] at D
    exact jX.sub (jsb_c rfl (jsb_c rfl (jsb_c rfl jsb_n))) (ct_X12_reckon_r125d_20 hD hQ  a1 a2 a3 h (jr_of rfl (by omega)) (by omega) J Sm D)
  ·
    rw [if_pos (by omega)] at D
    refine x_lload (x := a3) rfl rfl ?_
    refine x_lconst (v := 0) rfl kl_0 ?_
    refine z_lcmp rfl rfl jkl_0 (fun v2 ev2 => ?_)
    refine x_ifne (tgt := 20) rfl rfl (ti_ne rfl jk_0 ⟨fun c3 => ?_, fun c3 => ?_⟩)
    ·
      rw [if_neg (by omega)] at D
      exact jX.sub (jsb_c rfl (jsb_c rfl (jsb_c rfl jsb_n))) (ct_X12_reckon_r125d_20 hD hQ  a1 a2 a3 h (jr_of rfl (by omega)) (by omega) J Sm D)
    ·
      rw [if_pos (by omega)] at D
      refine x_aloadn (x := 125) rfl rfl ?_
      refine x_iconst (v := 1) rfl ki_1 ?_
      refine z_putZ (N := 92) (w := 1) 12 61 rfl f_12_726 rfl (jfin_no TX12 RX12 92 rfl rfl) hD J Sm rfl rfl jk_1 (by omega) (pw_125_61 (by omega)) rfl (fun h w4 J Sm => ?_)
      rw [vwf w4 (show 1 = (1 : Int32).toInt from by have := jk_1; omega)] at D
      refine x_lconst (v := 0) rfl kl_0 ?_
      refine x_lret rfl rfl ?_
      exact hQ _ _ J Sm ((congrArg Prod.fst D).symm.trans (show 0 = (0 : Int64).toInt from by have := jkl_0; omega)) (congrArg Prod.snd D).symm
def fp_X12_run_r125d : jFp := [(125, 32, 33), (125, 33, 34), (125, 34, 35), (125, 35, 36), (125, 61, 62), (125, 62, 63), (154, 0, 400), (162, 0, 40), (163, 0, 40), (164, 0, 40)]
set_option maxRecDepth 100000 in
set_option maxHeartbeats 4000000 in
theorem ct_X12_run_r125d_5000320 {Dy : jH → Prop} {h0 : jH} {Q : Option Value → jH → Prop} {dr : jW} {T A B : Nat} {F : Nat → Int32} (hT : T < 30) (hB : B ≤ 400) (hP : jPc F T A B) (hF : ∀ i, 18820 ≤ i → i < 46540 → jiv h0 126 i = F i) (hD : jDk Dy) (hQ : ∀ hx9, jJ jSgM Dy hx9 → jSm fp_X12_run_r125d h0 hx9 → dr = vw hx9 → Q none hx9) : ∀ (h : jH), jJ jSgM Dy h → jSm fp_X12_run_r125d h0 h → d_X12_run_r125d_5000320  (vw h) = dr → jX m_X12_run 9 0 0 320 [] [.long 0, .ref 125] h 0 0 Q := by
  intro  h    J Sm D
  unfold d_X12_run_r125d_5000320 at D
  refine z_putL (N := 92) 12 62 rfl f_12_739 rfl (jfin_no TX12 RX12 92 rfl rfl) hD J Sm rfl rfl rfl (fun h w1 J Sm => ?_)
  rw [vwfL w1 (show 0 = (0 : Int64).toInt from by have := jkl_0; omega)] at D
  refine x_vret rfl rfl ?_
  exact hQ _ J Sm D.symm
set_option maxRecDepth 100000 in
set_option maxHeartbeats 4000000 in
theorem ct_X12_run_r125d_320 {Dy : jH → Prop} {h0 : jH} {Q : Option Value → jH → Prop} {dr : jW} {T A B : Nat} {F : Nat → Int32} (hT : T < 30) (hB : B ≤ 400) (hP : jPc F T A B) (hF : ∀ i, 18820 ≤ i → i < 46540 → jiv h0 126 i = F i) (hD : jDk Dy) (hQ : ∀ hx9, jJ jSgM Dy hx9 → jSm fp_X12_run_r125d h0 hx9 → dr = vw hx9 → Q none hx9) : ∀ (s0 : Int64) (h : jH), jJ jSgM Dy h → jSm fp_X12_run_r125d h0 h → d_X12_run_r125d_320  s0.toInt (vw h) = dr → jX m_X12_run 9 0 0 320 [] [.long s0, .ref 125] h 0 0 Q := by
  intro s0 h    J Sm D
  have es0 := jfullL s0
  unfold d_X12_run_r125d_320 at D
  refine z_putL (N := 92) 12 62 rfl f_12_739 rfl (jfin_no TX12 RX12 92 rfl rfl) hD J Sm rfl rfl rfl (fun h w1 J Sm => ?_)
  rw [vwfL w1 (show s0.toInt = s0.toInt from by omega)] at D
  refine x_vret rfl rfl ?_
  exact hQ _ J Sm D.symm
set_option maxRecDepth 100000 in
set_option maxHeartbeats 4000000 in
theorem ct_X12_run_r125d_304 {Dy : jH → Prop} {h0 : jH} {Q : Option Value → jH → Prop} {dr : jW} {T A B : Nat} {F : Nat → Int32} (hT : T < 30) (hB : B ≤ 400) (hP : jPc F T A B) (hF : ∀ i, 18820 ≤ i → i < 46540 → jiv h0 126 i = F i) (hD : jDk Dy) (hQ : ∀ hx9, jJ jSgM Dy hx9 → jSm fp_X12_run_r125d h0 hx9 → dr = vw hx9 → Q none hx9) : ∀ (l6 : Int32) (h : jH), 0 ≤ l6.toInt ∧ l6.toInt ≤ 400 → jJ jSgM Dy h → jSm fp_X12_run_r125d h0 h → d_X12_run_r125d_304  l6.toInt (vw h) = dr → jX m_X12_run 9 0 0 304 [(0, .ref 125), (6, .int l6)] [] h 0 0 Q := by
  intro l6 h y0   J Sm D
  unfold d_X12_run_r125d_304 at D
  refine x_aloadn (x := 125) rfl rfl ?_
  refine x_iload (x := l6) rfl rfl ?_
  refine x_ifle (tgt := 319) rfl rfl (ti_le rfl jk_0 ⟨fun c1 => ?_, fun c1 => ?_⟩)
  ·
    rw [if_pos (by omega)] at D
    refine x_lconst (v := 0) rfl kl_0 ?_
    exact jX.sub jsb_n (ct_X12_run_r125d_5000320 hT hB hP hF hD hQ  h J Sm D)
  ·
    rw [if_neg (by omega)] at D
    refine x_aloadn (x := 125) rfl rfl ?_
    refine z_getR (N := 92) (b := 154) 12 60 rfl f_12_120 rfl J rfl 16060 ⟨rfl, rfl⟩ rfl ?_
    refine x_iconst (v := 0) rfl ki_0 ?_
    refine z_laldQ (N := 400) rfl J rfl jk_0 (by omega) (fun v2 qv2 => ?_)
    have ev2 := jfullL v2
    try rw [vrnL (n := 0) (by decide) qv2] at D
    refine x_goto (tgt := 320) rfl rfl ?_
    exact jX.sub jsb_n (ct_X12_run_r125d_320 hT hB hP hF hD hQ  v2 h J Sm D)
set_option maxRecDepth 100000 in
set_option maxHeartbeats 4000000 in
theorem ct_X12_run_r125d_301 {Dy : jH → Prop} {h0 : jH} {Q : Option Value → jH → Prop} {dr : jW} {K11 : Int → Int → Int → Int → Int → Int → jW → jW} {R11 : Int} {T A B : Nat} {F : Nat → Int32} (hT : T < 30) (hB : B ≤ 400) (hP : jPc F T A B) (hF : ∀ i, 18820 ≤ i → i < 46540 → jiv h0 126 i = F i) (hD : jDk Dy) (hQ : ∀ hx9, jJ jSgM Dy hx9 → jSm fp_X12_run_r125d h0 hx9 → dr = vw hx9 → Q none hx9) (k11 : ∀ (l1 : Int32) (l3 : Int32) (l4 : Int32) (l5 : Int32) (l6 : Int32) (l7 : Int32) (g0 : Int32) (h : jH), 2147483647 - l7.toInt < R11 → 0 ≤ l1.toInt ∧ l1.toInt ≤ 29 → (-1) ≤ l4.toInt ∧ l4.toInt ≤ 599 → 0 ≤ l5.toInt ∧ l5.toInt ≤ 146399 → 0 ≤ l6.toInt ∧ l6.toInt ≤ 400 → 0 ≤ g0.toInt ∧ g0.toInt ≤ 1 → ((A : Int) ≤ l7.toInt ∧ (l7.toInt ≤ (B : Int) ∨ l7.toInt = (A : Int)) ∧ l6.toInt = jht F T A (l7.toInt - (A : Int)).toNat) → l1.toInt = (T : Int) → l3.toInt = (B : Int) → jiv h 125 61 = g0 → jJ jSgM Dy h → jSm fp_X12_run_r125d h0 h → K11 l1.toInt l3.toInt l4.toInt l5.toInt l6.toInt l7.toInt (vw h) = dr → jX m_X12_run 9 0 0 11 [(0, .ref 125), (1, .int l1), (3, .int l3), (4, .int l4), (5, .int l5), (6, .int l6), (7, .int l7)] [] h 0 0 Q) : ∀ (l1 : Int32) (l3 : Int32) (l4 : Int32) (l5 : Int32) (l6 : Int32) (l7 : Int32) (g0 : Int32) (h : jH), 0 ≤ l1.toInt ∧ l1.toInt ≤ 29 → 1 ≤ l3.toInt ∧ l3.toInt ≤ 400 → (-1) ≤ l4.toInt ∧ l4.toInt ≤ 599 → 0 ≤ l5.toInt ∧ l5.toInt ≤ 146399 → 0 ≤ l6.toInt ∧ l6.toInt ≤ 400 → 0 ≤ g0.toInt ∧ g0.toInt ≤ 1 → ((A : Int) ≤ l7.toInt ∧ (l7.toInt ≤ (B : Int) ∨ l7.toInt = (A : Int)) ∧ l6.toInt = jht F T A (l7.toInt - (A : Int)).toNat) → l1.toInt = (T : Int) → l3.toInt = (B : Int) → jiv h 125 61 = g0 → 2147483647 - l7.toInt < R11 → jJ jSgM Dy h → jSm fp_X12_run_r125d h0 h → d_X12_run_r125d_301 K11  l1.toInt l3.toInt l4.toInt l5.toInt l6.toInt l7.toInt (vw h) = dr → jX m_X12_run 9 0 0 301 [(0, .ref 125), (1, .int l1), (3, .int l3), (4, .int l4), (5, .int l5), (6, .int l6), (7, .int l7)] [] h 0 0 Q := by
  intro l1 l3 l4 l5 l6 l7 g0 h y0 y1 y2 y3 y4 y5 C0 y7 y8 z0 m11 J Sm D
  have el7 := jfull l7
  unfold d_X12_run_r125d_301 at D
  try rw [vrf z0] at D
  refine x_goto (tgt := 11) rfl rfl ?_
  exact jX.sub (jsb_c rfl (jsb_c rfl (jsb_c rfl (jsb_c rfl (jsb_c rfl (jsb_c rfl (jsb_c rfl jsb_n))))))) (k11 l1 l3 l4 l5 l6 l7 g0 h (by omega) (jr_of rfl (by omega)) (jr_of rfl (by omega)) (jr_of rfl (by omega)) (jr_of rfl (by omega)) (jr_of rfl (by omega)) C0 (by omega) (by omega) z0 J Sm D)
set_option maxRecDepth 100000 in
set_option maxHeartbeats 4000000 in
theorem ct_X12_run_r125d_5000287 {Dy : jH → Prop} {h0 : jH} {Q : Option Value → jH → Prop} {dr : jW} {K11 : Int → Int → Int → Int → Int → Int → jW → jW} {R11 : Int} {T A B : Nat} {F : Nat → Int32} (hT : T < 30) (hB : B ≤ 400) (hP : jPc F T A B) (hF : ∀ i, 18820 ≤ i → i < 46540 → jiv h0 126 i = F i) (hD : jDk Dy) (hQ : ∀ hx9, jJ jSgM Dy hx9 → jSm fp_X12_run_r125d h0 hx9 → dr = vw hx9 → Q none hx9) (k11 : ∀ (l1 : Int32) (l3 : Int32) (l4 : Int32) (l5 : Int32) (l6 : Int32) (l7 : Int32) (g0 : Int32) (h : jH), 2147483647 - l7.toInt < R11 → 0 ≤ l1.toInt ∧ l1.toInt ≤ 29 → (-1) ≤ l4.toInt ∧ l4.toInt ≤ 599 → 0 ≤ l5.toInt ∧ l5.toInt ≤ 146399 → 0 ≤ l6.toInt ∧ l6.toInt ≤ 400 → 0 ≤ g0.toInt ∧ g0.toInt ≤ 1 → ((A : Int) ≤ l7.toInt ∧ (l7.toInt ≤ (B : Int) ∨ l7.toInt = (A : Int)) ∧ l6.toInt = jht F T A (l7.toInt - (A : Int)).toNat) → l1.toInt = (T : Int) → l3.toInt = (B : Int) → jiv h 125 61 = g0 → jJ jSgM Dy h → jSm fp_X12_run_r125d h0 h → K11 l1.toInt l3.toInt l4.toInt l5.toInt l6.toInt l7.toInt (vw h) = dr → jX m_X12_run 9 0 0 11 [(0, .ref 125), (1, .int l1), (3, .int l3), (4, .int l4), (5, .int l5), (6, .int l6), (7, .int l7)] [] h 0 0 Q) : ∀ (l1 : Int32) (l3 : Int32) (l4 : Int32) (l5 : Int32) (l6 : Int32) (l7 : Int32) (l9 : Int32) (s0 : Int64) (s1 : Int64) (g0 : Int32) (h : jH), 0 ≤ l1.toInt ∧ l1.toInt ≤ 29 → 1 ≤ l3.toInt ∧ l3.toInt ≤ 400 → (-1) ≤ l4.toInt ∧ l4.toInt ≤ 599 → 0 ≤ l5.toInt ∧ l5.toInt ≤ 146399 → 1 ≤ l6.toInt ∧ l6.toInt ≤ 400 → 1 ≤ l7.toInt ∧ l7.toInt ≤ 400 → 0 ≤ s0.toInt ∧ s0.toInt ≤ 1 → 0 ≤ g0.toInt ∧ g0.toInt ≤ 0 → ((A : Int) ≤ l7.toInt ∧ l7.toInt ≤ (B : Int) ∧ l6.toInt - 1 = jht F T A (l7.toInt - (A : Int)).toNat ∧ l7.toInt ≤ l9.toInt ∧ l9.toInt ≤ (B : Int) ∧ l6.toInt = jht F T A (l9.toInt - (A : Int)).toNat) → l1.toInt = (T : Int) → l3.toInt = (B : Int) → jiv h 125 61 = g0 → 2147483647 - l7.toInt < R11 → jJ jSgM Dy h → jSm fp_X12_run_r125d h0 h → d_X12_run_r125d_5000287 K11  l1.toInt l3.toInt l4.toInt l5.toInt l6.toInt l7.toInt l9.toInt s0.toInt s1.toInt (vw h) = dr → jX m_X12_run 9 0 0 287 [(0, .ref 125), (1, .int l1), (3, .int l3), (4, .int l4), (5, .int l5), (6, .int l6), (7, .int l7), (9, .int l9)] [.long s0, .long s1] h 0 0 Q := by
  intro l1 l3 l4 l5 l6 l7 l9 s0 s1 g0 h y0 y1 y2 y3 y4 y5 y6 y7 C0 y9 y10 z0 m11 J Sm D
  have el9 := jfull l9
  have es1 := jfullL s1
  unfold d_X12_run_r125d_5000287 at D
  try rw [vrf z0] at D
  refine z_lcmp rfl rfl rfl (fun v1 ev1 => ?_)
  refine x_ifne (tgt := 298) rfl rfl (ti_ne rfl jk_0 ⟨fun c2 => ?_, fun c2 => ?_⟩)
  ·
    rw [if_neg (by omega)] at D
    refine z_iinc (x := l6) (lsx9 := fun v3 => [(6, .int v3), (0, .ref 125), (1, .int l1), (3, .int l3), (4, .int l4), (5, .int l5), (7, .int l7), (9, .int l9)]) rfl rfl rfl jko_m1 (by omega) rfl (fun _ => rfl) (fun v3 ev3 => ?_)
    try rw [show (l6.toInt + (-1)) = v3.toInt from by omega] at D
    exact jX.sub (jsb_c rfl (jsb_c rfl (jsb_c rfl (jsb_c rfl (jsb_c rfl (jsb_c rfl (jsb_c rfl jsb_n))))))) (ct_X12_run_r125d_301 hT hB hP hF hD hQ k11 l1 l3 l4 l5 v3 l7 g0 h (jr_of rfl (by omega)) (jr_of rfl (by omega)) (jr_of rfl (by omega)) (jr_of rfl (by omega)) (jr_of rfl (by omega)) (jr_of rfl (by omega)) (by omega) (by omega) (by omega) z0 (by omega) J Sm D)
  ·
    rw [if_pos (by omega)] at D
    refine x_iload (x := l9) rfl rfl ?_
    refine x_istore (lsx9 := [(7, .int l9), (0, .ref 125), (1, .int l1), (3, .int l3), (4, .int l4), (5, .int l5), (6, .int l6), (9, .int l9)]) rfl rfl rfl ?_
    refine x_goto (tgt := 301) rfl rfl ?_
    exact jX.sub (jsb_c rfl (jsb_c rfl (jsb_c rfl (jsb_c rfl (jsb_c rfl (jsb_c rfl (jsb_c rfl jsb_n))))))) (ct_X12_run_r125d_301 hT hB hP hF hD hQ k11 l1 l3 l4 l5 l6 l9 g0 h (jr_of rfl (by omega)) (jr_of rfl (by omega)) (jr_of rfl (by omega)) (jr_of rfl (by omega)) (jr_of rfl (by omega)) (jr_of rfl (by omega)) (by omega) (by omega) (by omega) z0 (by omega) J Sm D)
set_option maxRecDepth 100000 in
set_option maxHeartbeats 4000000 in
theorem ct_X12_run_r125d_200195 {Dy : jH → Prop} {h0 : jH} {Q : Option Value → jH → Prop} {dr : jW} {K11 : Int → Int → Int → Int → Int → Int → jW → jW} {R11 : Int} {T A B : Nat} {F : Nat → Int32} (hT : T < 30) (hB : B ≤ 400) (hP : jPc F T A B) (hF : ∀ i, 18820 ≤ i → i < 46540 → jiv h0 126 i = F i) (hD : jDk Dy) (hQ : ∀ hx9, jJ jSgM Dy hx9 → jSm fp_X12_run_r125d h0 hx9 → dr = vw hx9 → Q none hx9) (k11 : ∀ (l1 : Int32) (l3 : Int32) (l4 : Int32) (l5 : Int32) (l6 : Int32) (l7 : Int32) (g0 : Int32) (h : jH), 2147483647 - l7.toInt < R11 → 0 ≤ l1.toInt ∧ l1.toInt ≤ 29 → (-1) ≤ l4.toInt ∧ l4.toInt ≤ 599 → 0 ≤ l5.toInt ∧ l5.toInt ≤ 146399 → 0 ≤ l6.toInt ∧ l6.toInt ≤ 400 → 0 ≤ g0.toInt ∧ g0.toInt ≤ 1 → ((A : Int) ≤ l7.toInt ∧ (l7.toInt ≤ (B : Int) ∨ l7.toInt = (A : Int)) ∧ l6.toInt = jht F T A (l7.toInt - (A : Int)).toNat) → l1.toInt = (T : Int) → l3.toInt = (B : Int) → jiv h 125 61 = g0 → jJ jSgM Dy h → jSm fp_X12_run_r125d h0 h → K11 l1.toInt l3.toInt l4.toInt l5.toInt l6.toInt l7.toInt (vw h) = dr → jX m_X12_run 9 0 0 11 [(0, .ref 125), (1, .int l1), (3, .int l3), (4, .int l4), (5, .int l5), (6, .int l6), (7, .int l7)] [] h 0 0 Q) : ∀ (l1 : Int32) (l3 : Int32) (l4 : Int32) (l5 : Int32) (l6 : Int32) (l7 : Int32) (h : jH), 0 ≤ l1.toInt ∧ l1.toInt ≤ 29 → 1 ≤ l3.toInt ∧ l3.toInt ≤ 400 → (-1) ≤ l4.toInt ∧ l4.toInt ≤ 599 → 0 ≤ l5.toInt ∧ l5.toInt ≤ 146399 → 1 ≤ l6.toInt ∧ l6.toInt ≤ 399 → 1 ≤ l7.toInt ∧ l7.toInt ≤ 400 → ((A : Int) ≤ l7.toInt ∧ (l7.toInt ≤ (B : Int) ∨ l7.toInt = (A : Int)) ∧ l6.toInt = jht F T A (l7.toInt - (A : Int)).toNat) → l1.toInt = (T : Int) → l3.toInt = (B : Int) → 2147483647 - l7.toInt < R11 → jJ jSgM Dy h → jSm fp_X12_run_r125d h0 h → d_X12_run_r125d_200195 K11  l1.toInt l3.toInt l4.toInt l5.toInt l6.toInt l7.toInt (vw h) = dr → jX m_X12_run 9 0 0 195 [(0, .ref 125), (1, .int l1), (3, .int l3), (4, .int l4), (5, .int l5), (6, .int l6), (7, .int l7)] [.int 0, .ref 125] h 0 0 Q := by
  intro l1 l3 l4 l5 l6 l7 h y0 y1 y2 y3 y4 y5 C0 y7 y8  m11 J Sm D
  unfold d_X12_run_r125d_200195 at D
  refine z_putZ (N := 92) (w := 0) 12 61 rfl f_12_726 rfl (jfin_no TX12 RX12 92 rfl rfl) hD J Sm rfl rfl jk_0 (by omega) (pw_125_61 (by omega)) rfl (fun h w1 J Sm => ?_)
  rw [vwf w1 (show 0 = (0 : Int32).toInt from by have := jk_0; omega)] at D
  refine x_goto (tgt := 301) rfl rfl ?_
  exact jX.sub (jsb_c rfl (jsb_c rfl (jsb_c rfl (jsb_c rfl (jsb_c rfl (jsb_c rfl (jsb_c rfl jsb_n))))))) (ct_X12_run_r125d_301 hT hB hP hF hD hQ k11 l1 l3 l4 l5 l6 l7 0 h (jr_of rfl (by omega)) (jr_of rfl (by omega)) (jr_of rfl (by omega)) (jr_of rfl (by omega)) (jr_of rfl (by omega)) (jr_of jk_0 (by omega)) C0 (by omega) (by omega) (jmw w1) (by omega) J Sm D)
set_option maxRecDepth 100000 in
set_option maxHeartbeats 4000000 in
theorem ct_X12_run_r125d_300195 {Dy : jH → Prop} {h0 : jH} {Q : Option Value → jH → Prop} {dr : jW} {K11 : Int → Int → Int → Int → Int → Int → jW → jW} {R11 : Int} {T A B : Nat} {F : Nat → Int32} (hT : T < 30) (hB : B ≤ 400) (hP : jPc F T A B) (hF : ∀ i, 18820 ≤ i → i < 46540 → jiv h0 126 i = F i) (hD : jDk Dy) (hQ : ∀ hx9, jJ jSgM Dy hx9 → jSm fp_X12_run_r125d h0 hx9 → dr = vw hx9 → Q none hx9) (k11 : ∀ (l1 : Int32) (l3 : Int32) (l4 : Int32) (l5 : Int32) (l6 : Int32) (l7 : Int32) (g0 : Int32) (h : jH), 2147483647 - l7.toInt < R11 → 0 ≤ l1.toInt ∧ l1.toInt ≤ 29 → (-1) ≤ l4.toInt ∧ l4.toInt ≤ 599 → 0 ≤ l5.toInt ∧ l5.toInt ≤ 146399 → 0 ≤ l6.toInt ∧ l6.toInt ≤ 400 → 0 ≤ g0.toInt ∧ g0.toInt ≤ 1 → ((A : Int) ≤ l7.toInt ∧ (l7.toInt ≤ (B : Int) ∨ l7.toInt = (A : Int)) ∧ l6.toInt = jht F T A (l7.toInt - (A : Int)).toNat) → l1.toInt = (T : Int) → l3.toInt = (B : Int) → jiv h 125 61 = g0 → jJ jSgM Dy h → jSm fp_X12_run_r125d h0 h → K11 l1.toInt l3.toInt l4.toInt l5.toInt l6.toInt l7.toInt (vw h) = dr → jX m_X12_run 9 0 0 11 [(0, .ref 125), (1, .int l1), (3, .int l3), (4, .int l4), (5, .int l5), (6, .int l6), (7, .int l7)] [] h 0 0 Q) : ∀ (l1 : Int32) (l3 : Int32) (l4 : Int32) (l5 : Int32) (l6 : Int32) (l7 : Int32) (h : jH), 0 ≤ l1.toInt ∧ l1.toInt ≤ 29 → 1 ≤ l3.toInt ∧ l3.toInt ≤ 400 → (-1) ≤ l4.toInt ∧ l4.toInt ≤ 599 → 0 ≤ l5.toInt ∧ l5.toInt ≤ 146399 → 1 ≤ l6.toInt ∧ l6.toInt ≤ 399 → 1 ≤ l7.toInt ∧ l7.toInt ≤ 400 → ((A : Int) ≤ l7.toInt ∧ (l7.toInt ≤ (B : Int) ∨ l7.toInt = (A : Int)) ∧ l6.toInt = jht F T A (l7.toInt - (A : Int)).toNat) → l1.toInt = (T : Int) → l3.toInt = (B : Int) → 2147483647 - l7.toInt < R11 → jJ jSgM Dy h → jSm fp_X12_run_r125d h0 h → d_X12_run_r125d_300195 K11  l1.toInt l3.toInt l4.toInt l5.toInt l6.toInt l7.toInt (vw h) = dr → jX m_X12_run 9 0 0 195 [(0, .ref 125), (1, .int l1), (3, .int l3), (4, .int l4), (5, .int l5), (6, .int l6), (7, .int l7)] [.int 1, .ref 125] h 0 0 Q := by
  intro l1 l3 l4 l5 l6 l7 h y0 y1 y2 y3 y4 y5 C0 y7 y8  m11 J Sm D
  unfold d_X12_run_r125d_300195 at D
  refine z_putZ (N := 92) (w := 1) 12 61 rfl f_12_726 rfl (jfin_no TX12 RX12 92 rfl rfl) hD J Sm rfl rfl jk_1 (by omega) (pw_125_61 (by omega)) rfl (fun h w1 J Sm => ?_)
  rw [vwf w1 (show 1 = (1 : Int32).toInt from by have := jk_1; omega)] at D
  refine x_goto (tgt := 301) rfl rfl ?_
  exact jX.sub (jsb_c rfl (jsb_c rfl (jsb_c rfl (jsb_c rfl (jsb_c rfl (jsb_c rfl (jsb_c rfl jsb_n))))))) (ct_X12_run_r125d_301 hT hB hP hF hD hQ k11 l1 l3 l4 l5 l6 l7 1 h (jr_of rfl (by omega)) (jr_of rfl (by omega)) (jr_of rfl (by omega)) (jr_of rfl (by omega)) (jr_of rfl (by omega)) (jr_of jk_1 (by omega)) C0 (by omega) (by omega) (jmw w1) (by omega) J Sm D)
set_option maxRecDepth 100000 in
set_option maxHeartbeats 4000000 in
theorem ct_X12_run_r125d_190 {Dy : jH → Prop} {h0 : jH} {Q : Option Value → jH → Prop} {dr : jW} {K11 : Int → Int → Int → Int → Int → Int → jW → jW} {R11 : Int} {T A B : Nat} {F : Nat → Int32} (hT : T < 30) (hB : B ≤ 400) (hP : jPc F T A B) (hF : ∀ i, 18820 ≤ i → i < 46540 → jiv h0 126 i = F i) (hD : jDk Dy) (hQ : ∀ hx9, jJ jSgM Dy hx9 → jSm fp_X12_run_r125d h0 hx9 → dr = vw hx9 → Q none hx9) (k11 : ∀ (l1 : Int32) (l3 : Int32) (l4 : Int32) (l5 : Int32) (l6 : Int32) (l7 : Int32) (g0 : Int32) (h : jH), 2147483647 - l7.toInt < R11 → 0 ≤ l1.toInt ∧ l1.toInt ≤ 29 → (-1) ≤ l4.toInt ∧ l4.toInt ≤ 599 → 0 ≤ l5.toInt ∧ l5.toInt ≤ 146399 → 0 ≤ l6.toInt ∧ l6.toInt ≤ 400 → 0 ≤ g0.toInt ∧ g0.toInt ≤ 1 → ((A : Int) ≤ l7.toInt ∧ (l7.toInt ≤ (B : Int) ∨ l7.toInt = (A : Int)) ∧ l6.toInt = jht F T A (l7.toInt - (A : Int)).toNat) → l1.toInt = (T : Int) → l3.toInt = (B : Int) → jiv h 125 61 = g0 → jJ jSgM Dy h → jSm fp_X12_run_r125d h0 h → K11 l1.toInt l3.toInt l4.toInt l5.toInt l6.toInt l7.toInt (vw h) = dr → jX m_X12_run 9 0 0 11 [(0, .ref 125), (1, .int l1), (3, .int l3), (4, .int l4), (5, .int l5), (6, .int l6), (7, .int l7)] [] h 0 0 Q) : ∀ (l1 : Int32) (l3 : Int32) (l4 : Int32) (l5 : Int32) (l6 : Int32) (l7 : Int32) (h : jH), 0 ≤ l1.toInt ∧ l1.toInt ≤ 29 → 1 ≤ l3.toInt ∧ l3.toInt ≤ 400 → (-1) ≤ l4.toInt ∧ l4.toInt ≤ 599 → 0 ≤ l5.toInt ∧ l5.toInt ≤ 146399 → 1 ≤ l6.toInt ∧ l6.toInt ≤ 399 → 1 ≤ l7.toInt ∧ l7.toInt ≤ 400 → ((A : Int) ≤ l7.toInt ∧ (l7.toInt ≤ (B : Int) ∨ l7.toInt = (A : Int)) ∧ l6.toInt = jht F T A (l7.toInt - (A : Int)).toNat) → l1.toInt = (T : Int) → l3.toInt = (B : Int) → 2147483647 - l7.toInt < R11 → jJ jSgM Dy h → jSm fp_X12_run_r125d h0 h → d_X12_run_r125d_190 K11  l1.toInt l3.toInt l4.toInt l5.toInt l6.toInt l7.toInt (vw h) = dr → jX m_X12_run 9 0 0 190 [(0, .ref 125), (1, .int l1), (3, .int l3), (4, .int l4), (5, .int l5), (6, .int l6), (7, .int l7)] [.ref 125] h 0 0 Q := by
  intro l1 l3 l4 l5 l6 l7 h y0 y1 y2 y3 y4 y5 C0 y7 y8  m11 J Sm D
  unfold d_X12_run_r125d_190 at D
  refine x_iconst (v := 1) rfl ki_1 ?_
  refine x_goto (tgt := 195) rfl rfl ?_
  exact jX.sub (jsb_c rfl (jsb_c rfl (jsb_c rfl (jsb_c rfl (jsb_c rfl (jsb_c rfl (jsb_c rfl jsb_n))))))) (ct_X12_run_r125d_300195 hT hB hP hF hD hQ k11 l1 l3 l4 l5 l6 l7 h (jr_of rfl (by omega)) (jr_of rfl (by omega)) (jr_of rfl (by omega)) (jr_of rfl (by omega)) (jr_of rfl (by omega)) (jr_of rfl (by omega)) C0 (by omega) (by omega) (by omega) J Sm D)
set_option maxRecDepth 100000 in
set_option maxHeartbeats 4000000 in
theorem ct_X12_run_r125d_11 {Dy : jH → Prop} {h0 : jH} {Q : Option Value → jH → Prop} {dr : jW} {T A B : Nat} {F : Nat → Int32} (hT : T < 30) (hB : B ≤ 400) (hP : jPc F T A B) (hF : ∀ i, 18820 ≤ i → i < 46540 → jiv h0 126 i = F i) (hD : jDk Dy) (hQ : ∀ hx9, jJ jSgM Dy hx9 → jSm fp_X12_run_r125d h0 hx9 → dr = vw hx9 → Q none hx9) : ∀ r : Nat, ∀ (l1 : Int32) (l3 : Int32) (l4 : Int32) (l5 : Int32) (l6 : Int32) (l7 : Int32) (g0 : Int32) (h : jH), 2147483647 - l7.toInt < (r : Int) → 0 ≤ l1.toInt ∧ l1.toInt ≤ 29 → (-1) ≤ l4.toInt ∧ l4.toInt ≤ 599 → 0 ≤ l5.toInt ∧ l5.toInt ≤ 146399 → 0 ≤ l6.toInt ∧ l6.toInt ≤ 400 → 0 ≤ g0.toInt ∧ g0.toInt ≤ 1 → ((A : Int) ≤ l7.toInt ∧ (l7.toInt ≤ (B : Int) ∨ l7.toInt = (A : Int)) ∧ l6.toInt = jht F T A (l7.toInt - (A : Int)).toNat) → l1.toInt = (T : Int) → l3.toInt = (B : Int) → jiv h 125 61 = g0 → jJ jSgM Dy h → jSm fp_X12_run_r125d h0 h → d_X12_run_r125d_11 r l1.toInt l3.toInt l4.toInt l5.toInt l6.toInt l7.toInt (vw h) = dr → jX m_X12_run 9 0 0 11 [(0, .ref 125), (1, .int l1), (3, .int l3), (4, .int l4), (5, .int l5), (6, .int l6), (7, .int l7)] [] h 0 0 Q := by
  intro r
  induction r with
  | zero =>
    intro l1 l3 l4 l5 l6 l7 g0 h hm y0 y1 y2 y3 y4 C0 y6 y7 z0  J Sm D
    exfalso
    have el3 := jfull l3
    have el7 := jfull l7
    omega
  | succ r ih =>
    intro l1 l3 l4 l5 l6 l7 g0 h hm y0 y1 y2 y3 y4 C0 y6 y7 z0  J Sm D
    have el3 := jfull l3
    have el7 := jfull l7
    rw [d_X12_run_r125d_11.eq_2] at D
    try rw [vrf z0] at D
    refine x_iload (x := l7) rfl rfl ?_
    refine x_iloadn (x := l3) rfl rfl ?_
    refine x_icge (tgt := 304) rfl rfl (ti_ge rfl rfl ⟨fun c1 => ?_, fun c1 => ?_⟩)
    ·
      rw [if_pos (by omega)] at D
      exact jX.sub (jsb_c rfl (jsb_c rfl jsb_n)) (ct_X12_run_r125d_304 hT hB hP hF hD hQ  l6 h (jr_of rfl (by omega)) J Sm D)
    ·
      rw [if_neg (by omega)] at D
      refine x_aloadn (x := 125) rfl rfl ?_
      refine z_getM (N := 92) (v := g0) 12 61 rfl f_12_726 rfl J rfl z0 ?_
      refine x_ifne (tgt := 304) rfl rfl (ti_ne rfl jk_0 ⟨fun c2 => ?_, fun c2 => ?_⟩)
      ·
        rw [if_neg (by omega)] at D
        exact jX.sub (jsb_c rfl (jsb_c rfl jsb_n)) (ct_X12_run_r125d_304 hT hB hP hF hD hQ  l6 h (jr_of rfl (by omega)) J Sm D)
      ·
        rw [if_pos (by omega)] at D
        refine x_aloadn (x := 125) rfl rfl ?_
        refine z_getR (N := 92) (b := 126) 12 2 rfl f_12_8 rfl J rfl 16002 ⟨rfl, rfl⟩ rfl ?_
        refine x_iloadn (x := l1) rfl rfl ?_
        refine x_inst (N := m_X12_textAt) (As := [.int l1]) (st := [.ref 126]) (dx9 := 8) (mc := 0) (ms := 0) (host := "") rfl t_X12_textAt ⟨Or.inl q_12_676, s_X12_textAt⟩ rfl (by decide) rfl rfl ⟨by decide, by decide⟩ (jC.of rfl k_X12_textAt rfl ?_)
        show jX m_X12_textAt 8 0 0 0 [(0, .int l1)] [] _ 0 0 _
        refine x_sipush (v := 18820) rfl ks_18820 ?_
        refine x_sipush (v := 924) rfl ks_924 ?_
        refine x_iloadn (x := l1) rfl rfl ?_
        refine z_imul rfl jk_924 rfl (by omega) (fun v3 ev3 => ?_)
        refine z_iadd rfl jk_18820 rfl (by omega) (fun v4 ev4 => ?_)
        refine x_iret rfl rfl ?_
        show jX m_X12_run 9 0 0 32 [(0, .ref 125), (1, .int l1), (3, .int l3), (4, .int l4), (5, .int l5), (6, .int l6), (7, .int l7)] [.int v4, .ref 126] _ 0 0 _
        refine x_bipush (v := 124) rfl kb_124 ?_
        refine z_iadd rfl rfl jk_124 (by omega) (fun v5 ev5 => ?_)
        refine x_iconst (v := 2) rfl ki_2 ?_
        refine x_iload (x := l7) rfl rfl ?_
        refine z_imul rfl jk_2 rfl (by omega) (fun v6 ev6 => ?_)
        refine z_iadd rfl rfl rfl (by omega) (fun v7 ev7 => ?_)
        refine z_iald0 (N := 50660) rfl J rfl rfl (by omega) (fun v8 qv8 => ?_)
        have ev8 := jfull v8
        try rw [vrd qv8 (show (((18820 + (924 * l1.toInt)) + 124) + (2 * l7.toInt)) = v7.toInt from by omega)] at D
        refine x_istore (lsx9 := [(8, .int v8), (0, .ref 125), (1, .int l1), (3, .int l3), (4, .int l4), (5, .int l5), (6, .int l6), (7, .int l7)]) rfl rfl rfl ?_
        refine x_aloadn (x := 125) rfl rfl ?_
        refine z_getR (N := 92) (b := 126) 12 2 rfl f_12_8 rfl J rfl 16002 ⟨rfl, rfl⟩ rfl ?_
        refine x_iloadn (x := l1) rfl rfl ?_
        refine x_inst (N := m_X12_textAt) (As := [.int l1]) (st := [.ref 126]) (dx9 := 8) (mc := 0) (ms := 0) (host := "") rfl t_X12_textAt ⟨Or.inl q_12_676, s_X12_textAt⟩ rfl (by decide) rfl rfl ⟨by decide, by decide⟩ (jC.of rfl k_X12_textAt rfl ?_)
        show jX m_X12_textAt 8 0 0 0 [(0, .int l1)] [] _ 0 0 _
        refine x_sipush (v := 18820) rfl ks_18820 ?_
        refine x_sipush (v := 924) rfl ks_924 ?_
        refine x_iloadn (x := l1) rfl rfl ?_
        refine z_imul rfl jk_924 rfl (by omega) (fun v9 ev9 => ?_)
        refine z_iadd rfl jk_18820 rfl (by omega) (fun v10 ev10 => ?_)
        refine x_iret rfl rfl ?_
        show jX m_X12_run 9 0 0 51 [(8, .int v8), (0, .ref 125), (1, .int l1), (3, .int l3), (4, .int l4), (5, .int l5), (6, .int l6), (7, .int l7)] [.int v10, .ref 126] _ 0 0 _
        refine x_bipush (v := 124) rfl kb_124 ?_
        refine z_iadd rfl rfl jk_124 (by omega) (fun v11 ev11 => ?_)
        refine x_iconst (v := 2) rfl ki_2 ?_
        refine x_iload (x := l7) rfl rfl ?_
        refine z_imul rfl jk_2 rfl (by omega) (fun v12 ev12 => ?_)
        refine z_iadd rfl rfl rfl (by omega) (fun v13 ev13 => ?_)
        refine x_iconst (v := 1) rfl ki_1 ?_
        refine z_iadd rfl rfl jk_1 (by omega) (fun v14 ev14 => ?_)
        refine z_iald0 (N := 50660) rfl J rfl rfl (by omega) (fun v15 qv15 => ?_)
        have ev15 := jfull v15
        try rw [vrd qv15 (show ((((18820 + (924 * l1.toInt)) + 124) + (2 * l7.toInt)) + 1) = v14.toInt from by omega)] at D
        have xr := jrun (x := l1) (n := l6) (k := l7) hT hP hF Sm rfl C0 (by omega) (by omega) (by omega) qv8 (by omega) qv15
        refine x_istore (lsx9 := [(9, .int v15), (8, .int v8), (0, .ref 125), (1, .int l1), (3, .int l3), (4, .int l4), (5, .int l5), (6, .int l6), (7, .int l7)]) rfl rfl rfl ?_
        refine z_iinc (x := l7) (lsx9 := fun v16 => [(7, .int v16), (9, .int v15), (8, .int v8), (0, .ref 125), (1, .int l1), (3, .int l3), (4, .int l4), (5, .int l5), (6, .int l6)]) rfl rfl rfl jko_1 (by omega) rfl (fun _ => rfl) (fun v16 ev16 => ?_)
        refine x_iload (x := v8) rfl rfl ?_
        refine x_ifne (tgt := 88) rfl rfl (ti_ne rfl jk_0 ⟨fun c17 => ?_, fun c17 => ?_⟩)
        ·
          rw [if_neg (by omega)] at D
          refine x_iload (x := v8) rfl rfl ?_
          refine x_bipush (v := 6) rfl kb_6 ?_
          refine x_icge (tgt := 120) rfl rfl (ti_ge rfl jk_6 ⟨fun c18 => ?_, fun c18 => ?_⟩)
          ·
            rw [if_pos (by omega)] at D
            refine x_iload (x := v8) rfl rfl ?_
            refine x_bipush (v := 12) rfl kb_12 ?_
            refine x_icgt (tgt := 201) rfl rfl (ti_gt rfl jk_12 ⟨fun c19 => ?_, fun c19 => ?_⟩)
            ·
              rw [if_pos (by omega)] at D
              refine x_iload (x := v8) rfl rfl ?_
              refine x_bipush (v := 18) rfl kb_18 ?_
              refine x_icge (tgt := 236) rfl rfl (ti_ge rfl jk_18 ⟨fun c20 => ?_, fun c20 => ?_⟩)
              ·
                rw [if_pos (by omega)] at D
                refine x_iload (x := v8) rfl rfl ?_
                refine x_bipush (v := 18) rfl kb_18 ?_
                refine x_icne (tgt := 266) rfl rfl (ti_ne rfl jk_18 ⟨fun c21 => ?_, fun c21 => ?_⟩)
                ·
                  rw [if_neg (by omega)] at D
                  refine x_aloadn (x := 125) rfl rfl ?_
                  refine z_getR (N := 92) (b := 154) 12 60 rfl f_12_120 rfl J rfl 16060 ⟨rfl, rfl⟩ rfl ?_
                  refine x_iload (x := l6) rfl rfl ?_
                  refine x_iconst (v := 1) rfl ki_1 ?_
                  refine z_isub rfl rfl jk_1 (by omega) (fun v22 ev22 => ?_)
                  refine z_laldQ (N := 400) rfl J rfl rfl (by omega) (fun v23 qv23 => ?_)
                  have ev23 := jfullL v23
                  try rw [vrdL qv23 (show (l6.toInt - 1) = v22.toInt from by omega)] at D
                  refine x_iload (x := v8) rfl rfl ?_
                  refine x_bipush (v := 19) rfl kb_19 ?_
                  refine x_icne (tgt := 286) rfl rfl (ti_ne rfl jk_19 ⟨fun c24 => ?_, fun c24 => ?_⟩)
                  ·
                    rw [if_neg (by omega)] at D
                    refine x_lconst (v := 1) rfl kl_1 ?_
                    try rw [show (l7.toInt + 1) = v16.toInt from by omega] at D
                    exact jX.sub (jsb_c rfl (jsb_c rfl (jsb_c rfl (jsb_c rfl (jsb_c rfl (jsb_c rfl (jsb_c rfl (jsb_c rfl jsb_n)))))))) (ct_X12_run_r125d_5000287 hT hB hP hF hD hQ ih l1 l3 l4 l5 l6 v16 v15 1 v23 g0 h (jr_of rfl (by omega)) (jr_of rfl (by omega)) (jr_of rfl (by omega)) (jr_of rfl (by omega)) (jr_of rfl (by omega)) (jr_of rfl (by omega)) (jr_ofl jkl_1 (by omega)) (jr_of rfl (by omega)) (by rw [show (v16.toInt - (A : Int)).toNat = (l7.toInt + 1 - (A : Int)).toNat from by omega]; omega) (by omega) (by omega) z0 (by omega) J Sm (by rw [jkl_1]; exact D))
                  ·
                    rw [if_pos (by omega)] at D
                    refine x_lconst (v := 0) rfl kl_0 ?_
                    refine x_goto (tgt := 287) rfl rfl ?_
                    try rw [show (l7.toInt + 1) = v16.toInt from by omega] at D
                    exact jX.sub (jsb_c rfl (jsb_c rfl (jsb_c rfl (jsb_c rfl (jsb_c rfl (jsb_c rfl (jsb_c rfl (jsb_c rfl jsb_n)))))))) (ct_X12_run_r125d_5000287 hT hB hP hF hD hQ ih l1 l3 l4 l5 l6 v16 v15 0 v23 g0 h (jr_of rfl (by omega)) (jr_of rfl (by omega)) (jr_of rfl (by omega)) (jr_of rfl (by omega)) (jr_of rfl (by omega)) (jr_of rfl (by omega)) (jr_ofl jkl_0 (by omega)) (jr_of rfl (by omega)) (by rw [show (v16.toInt - (A : Int)).toNat = (l7.toInt + 1 - (A : Int)).toNat from by omega]; omega) (by omega) (by omega) z0 (by omega) J Sm (by rw [jkl_0]; exact D))
                ·
                  rw [if_pos (by omega)] at D
                  refine x_aloadn (x := 125) rfl rfl ?_
                  refine z_getR (N := 92) (b := 154) 12 60 rfl f_12_120 rfl J rfl 16060 ⟨rfl, rfl⟩ rfl ?_
                  refine x_iload (x := l6) rfl rfl ?_
                  refine x_iconst (v := 1) rfl ki_1 ?_
                  refine z_isub rfl rfl jk_1 (by omega) (fun v25 ev25 => ?_)
                  refine x_lconst (v := 1) rfl kl_1 ?_
                  refine x_aloadn (x := 125) rfl rfl ?_
                  refine z_getR (N := 92) (b := 154) 12 60 rfl f_12_120 rfl J rfl 16060 ⟨rfl, rfl⟩ rfl ?_
                  refine x_iload (x := l6) rfl rfl ?_
                  refine x_iconst (v := 1) rfl ki_1 ?_
                  refine z_isub rfl rfl jk_1 (by omega) (fun v26 ev26 => ?_)
                  refine z_laldQ (N := 400) rfl J rfl rfl (by omega) (fun v27 qv27 => ?_)
                  have ev27 := jfullL v27
                  try rw [vrdL qv27 (show (l6.toInt - 1) = v26.toInt from by omega)] at D
                  refine z_lsubW rfl jkl_1 rfl (fun v28 ev28 => ?_)
                  have fv28 := jfullL v28
                  try rw [← ev28] at D
                  refine z_last (N := 400) (l := 0) (u := 400) rfl hD J Sm rfl rfl rfl (by omega) rfl (fun h w29 J Sm => ?_)
                  rw [vwwL w29 (show (l6.toInt - 1) = v25.toInt from by omega) (show v28.toInt = v28.toInt from by omega)] at D
                  refine x_goto (tgt := 301) rfl rfl ?_
                  try rw [show (l7.toInt + 1) = v16.toInt from by omega] at D
                  exact jX.sub (jsb_c rfl (jsb_c rfl (jsb_c rfl (jsb_c rfl (jsb_c rfl (jsb_c rfl (jsb_c rfl jsb_n))))))) (ct_X12_run_r125d_301 hT hB hP hF hD hQ ih l1 l3 l4 l5 l6 v16 g0 h (jr_of rfl (by omega)) (jr_of rfl (by omega)) (jr_of rfl (by omega)) (jr_of rfl (by omega)) (jr_of rfl (by omega)) (jr_of rfl (by omega)) (by rw [show (v16.toInt - (A : Int)).toNat = (l7.toInt + 1 - (A : Int)).toNat from by omega]; omega) (by omega) (by omega) (jml w29 z0) (by omega) J Sm D)
              ·
                rw [if_neg (by omega)] at D
                refine x_aloadn (x := 125) rfl rfl ?_
                refine z_getR (N := 92) (b := 154) 12 60 rfl f_12_120 rfl J rfl 16060 ⟨rfl, rfl⟩ rfl ?_
                refine x_iload (x := l6) rfl rfl ?_
                refine x_aloadn (x := 125) rfl rfl ?_
                refine x_iload (x := l4) rfl rfl ?_
                refine x_iload (x := l5) rfl rfl ?_
                refine x_iload (x := v8) rfl rfl ?_
                refine x_bipush (v := 13) rfl kb_13 ?_
                refine z_isub rfl rfl jk_13 (by omega) (fun v30 ev30 => ?_)
                refine x_iconst (v := 5) rfl ki_5 ?_
                refine z_iadd rfl rfl jk_5 (by omega) (fun v31 ev31 => ?_)
                try rw [show ((v8.toInt - 13) + 5) = v31.toInt from by omega] at D
                refine x_inv (N := m_X12_fact2) (As := [.int l4, .int l5, .int v31]) (b := 125) (st := [.int l6, .ref 154]) (dx9 := 8) (mc := 0) (ms := 0) (host := "") 12 rfl t_X12_fact2 ⟨Or.inl q_12_722, i_X12_fact2.1, i_X12_fact2.2⟩ ⟨by decide, rfl⟩ (congrArg Prod.fst (J.1.1 125 (12, 92) rfl)) rfl (by decide) rfl rfl ⟨by decide, by decide⟩ (sf_X12_fact2_r125d (jr_of rfl (by omega)) (jr_of rfl (by omega)) hD J rfl  (fun v35 h J S32 X33 X34 => ?_))
                have ev35 := jfullL v35
                have Sm := jSm_tr rfl Sm S32
                try rw [X33] at D
                try rw [X34] at D
                show jX m_X12_run 9 0 0 229 [(7, .int v16), (9, .int v15), (8, .int v8), (0, .ref 125), (1, .int l1), (3, .int l3), (4, .int l4), (5, .int l5), (6, .int l6)] [.long v35, .int l6, .ref 154] _ 0 0 _
                refine z_last (N := 400) (l := 0) (u := 400) rfl hD J Sm rfl rfl rfl (by omega) rfl (fun h w36 J Sm => ?_)
                rw [vwwL w36 (show l6.toInt = l6.toInt from by omega) (show v35.toInt = v35.toInt from by omega)] at D
                refine z_iinc (x := l6) (lsx9 := fun v37 => [(6, .int v37), (7, .int v16), (9, .int v15), (8, .int v8), (0, .ref 125), (1, .int l1), (3, .int l3), (4, .int l4), (5, .int l5)]) rfl rfl rfl jko_1 (by omega) rfl (fun _ => rfl) (fun v37 ev37 => ?_)
                refine x_goto (tgt := 301) rfl rfl ?_
                try rw [show (l6.toInt + 1) = v37.toInt from by omega] at D
                try rw [show (l7.toInt + 1) = v16.toInt from by omega] at D
                exact jX.sub (jsb_c rfl (jsb_c rfl (jsb_c rfl (jsb_c rfl (jsb_c rfl (jsb_c rfl (jsb_c rfl jsb_n))))))) (ct_X12_run_r125d_301 hT hB hP hF hD hQ ih l1 l3 l4 l5 v37 v16 g0 h (jr_of rfl (by omega)) (jr_of rfl (by omega)) (jr_of rfl (by omega)) (jr_of rfl (by omega)) (jr_of rfl (by omega)) (jr_of rfl (by omega)) (by rw [show (v16.toInt - (A : Int)).toNat = (l7.toInt + 1 - (A : Int)).toNat from by omega]; omega) (by omega) (by omega) (jml w36 (jmc S32 rfl z0)) (by omega) J Sm D)
            ·
              rw [if_neg (by omega)] at D
              refine z_iinc (x := l6) (lsx9 := fun v38 => [(6, .int v38), (7, .int v16), (9, .int v15), (8, .int v8), (0, .ref 125), (1, .int l1), (3, .int l3), (4, .int l4), (5, .int l5)]) rfl rfl rfl jko_m1 (by omega) rfl (fun _ => rfl) (fun v38 ev38 => ?_)
              refine x_aloadn (x := 125) rfl rfl ?_
              refine z_getR (N := 92) (b := 154) 12 60 rfl f_12_120 rfl J rfl 16060 ⟨rfl, rfl⟩ rfl ?_
              refine x_iload (x := v38) rfl rfl ?_
              refine x_iconst (v := 1) rfl ki_1 ?_
              refine z_isub rfl rfl jk_1 (by omega) (fun v39 ev39 => ?_)
              refine x_aloadn (x := 125) rfl rfl ?_
              refine x_iload (x := v8) rfl rfl ?_
              refine x_aloadn (x := 125) rfl rfl ?_
              refine z_getR (N := 92) (b := 154) 12 60 rfl f_12_120 rfl J rfl 16060 ⟨rfl, rfl⟩ rfl ?_
              refine x_iload (x := v38) rfl rfl ?_
              refine x_iconst (v := 1) rfl ki_1 ?_
              refine z_isub rfl rfl jk_1 (by omega) (fun v40 ev40 => ?_)
              refine z_laldQ (N := 400) rfl J rfl rfl (by omega) (fun v41 qv41 => ?_)
              have ev41 := jfullL v41
              try rw [vrdL qv41 (show ((l6.toInt + (-1)) - 1) = v40.toInt from by omega)] at D
              refine x_aloadn (x := 125) rfl rfl ?_
              refine z_getR (N := 92) (b := 154) 12 60 rfl f_12_120 rfl J rfl 16060 ⟨rfl, rfl⟩ rfl ?_
              refine x_iload (x := v38) rfl rfl ?_
              refine z_laldQ (N := 400) rfl J rfl rfl (by omega) (fun v42 qv42 => ?_)
              have ev42 := jfullL v42
              try rw [vrdL qv42 (show (l6.toInt + (-1)) = v38.toInt from by omega)] at D
              refine x_inv (N := m_X12_reckon) (As := [.int v8, .long v41, .long v42]) (b := 125) (st := [.int v39, .ref 154]) (dx9 := 1) (mc := 0) (ms := 0) (host := "") 12 rfl t_X12_reckon ⟨Or.inl q_12_733, i_X12_reckon.1, i_X12_reckon.2⟩ ⟨by decide, rfl⟩ (congrArg Prod.fst (J.1.1 125 (12, 92) rfl)) rfl (by decide) rfl rfl ⟨by decide, by decide⟩ (sf_X12_reckon_r125d (jr_of rfl (by omega)) hD J rfl  (fun v46 h J S43 X44 X45 => ?_))
              have ev46 := jfullL v46
              have Sm := jSm_tr rfl Sm S43
              try rw [X44] at D
              try rw [X45] at D
              show jX m_X12_run 9 0 0 160 [(6, .int v38), (7, .int v16), (9, .int v15), (8, .int v8), (0, .ref 125), (1, .int l1), (3, .int l3), (4, .int l4), (5, .int l5)] [.long v46, .int v39, .ref 154] _ 0 0 _
              refine z_last (N := 400) (l := 0) (u := 400) rfl hD J Sm rfl rfl rfl (by omega) rfl (fun h w47 J Sm => ?_)
              rw [vwwL w47 (show ((l6.toInt + (-1)) - 1) = v39.toInt from by omega) (show v46.toInt = v46.toInt from by omega)] at D
              refine x_aloadn (x := 125) rfl rfl ?_
              refine x_aloadn (x := 125) rfl rfl ?_
              refine z_getI (N := 92) 12 61 rfl f_12_726 rfl J rfl sg_125_61_62_1_0_1 (fun v48 qv48 ev48 => ?_)
              try rw [vrf (jmb_l w47 qv48)] at D
              refine x_ifne (tgt := 190) rfl rfl (ti_ne rfl jk_0 ⟨fun c49 => ?_, fun c49 => ?_⟩)
              ·
                rw [if_neg (by omega)] at D
                try rw [show (l6.toInt + (-1)) = v38.toInt from by omega] at D
                try rw [show (l7.toInt + 1) = v16.toInt from by omega] at D
                exact jX.sub (jsb_c rfl (jsb_c rfl (jsb_c rfl (jsb_c rfl (jsb_c rfl (jsb_c rfl (jsb_c rfl jsb_n))))))) (ct_X12_run_r125d_190 hT hB hP hF hD hQ ih l1 l3 l4 l5 v38 v16 h (jr_of rfl (by omega)) (jr_of rfl (by omega)) (jr_of rfl (by omega)) (jr_of rfl (by omega)) (jr_of rfl (by omega)) (jr_of rfl (by omega)) (by rw [show (v16.toInt - (A : Int)).toNat = (l7.toInt + 1 - (A : Int)).toNat from by omega]; omega) (by omega) (by omega) (by omega) J Sm D)
              ·
                rw [if_pos (by omega)] at D
                refine x_aloadn (x := 125) rfl rfl ?_
                refine z_getR (N := 92) (b := 154) 12 60 rfl f_12_120 rfl J rfl 16060 ⟨rfl, rfl⟩ rfl ?_
                refine x_iload (x := v38) rfl rfl ?_
                refine x_iconst (v := 1) rfl ki_1 ?_
                refine z_isub rfl rfl jk_1 (by omega) (fun v50 ev50 => ?_)
                refine z_laldQ (N := 400) rfl J rfl rfl (by omega) (fun v51 qv51 => ?_)
                have ev51 := jfullL v51
                try rw [vrdL qv51 (show ((l6.toInt + (-1)) - 1) = v50.toInt from by omega)] at D
                refine x_ldc2 (v := (-1000000000000)) rfl z_12_737 ?_
                refine x_ldc2 (v := 1000000000000) rfl z_12_729 ?_
                refine x_inst (N := m_X12_in) (As := [.long v51, .long (-1000000000000), .long 1000000000000]) (st := [.ref 125]) (dx9 := 1) (mc := 0) (ms := 0) (host := "") rfl t_X12_in ⟨Or.inl q_12_188, s_X12_in⟩ rfl (by decide) rfl rfl ⟨by decide, by decide⟩ (zc_X12_in rfl jkl_m1000000000000 jkl_1000000000000 (fun v52 ev52 => ?_))
                show jX m_X12_run 9 0 0 187 [(6, .int v38), (7, .int v16), (9, .int v15), (8, .int v8), (0, .ref 125), (1, .int l1), (3, .int l3), (4, .int l4), (5, .int l5)] [.int v52, .ref 125] _ 0 0 _
                refine x_ifne (tgt := 194) rfl rfl (ti_ne rfl jk_0 ⟨fun c53 => ?_, fun c53 => ?_⟩)
                ·
                  rw [if_pos (by omega)] at D
                  refine x_iconst (v := 0) rfl ki_0 ?_
                  try rw [show (l6.toInt + (-1)) = v38.toInt from by omega] at D
                  try rw [show (l7.toInt + 1) = v16.toInt from by omega] at D
                  exact jX.sub (jsb_c rfl (jsb_c rfl (jsb_c rfl (jsb_c rfl (jsb_c rfl (jsb_c rfl (jsb_c rfl jsb_n))))))) (ct_X12_run_r125d_200195 hT hB hP hF hD hQ ih l1 l3 l4 l5 v38 v16 h (jr_of rfl (by omega)) (jr_of rfl (by omega)) (jr_of rfl (by omega)) (jr_of rfl (by omega)) (jr_of rfl (by omega)) (jr_of rfl (by omega)) (by rw [show (v16.toInt - (A : Int)).toNat = (l7.toInt + 1 - (A : Int)).toNat from by omega]; omega) (by omega) (by omega) (by omega) J Sm D)
                ·
                  rw [if_neg (by omega)] at D
                  try rw [show (l6.toInt + (-1)) = v38.toInt from by omega] at D
                  try rw [show (l7.toInt + 1) = v16.toInt from by omega] at D
                  exact jX.sub (jsb_c rfl (jsb_c rfl (jsb_c rfl (jsb_c rfl (jsb_c rfl (jsb_c rfl (jsb_c rfl jsb_n))))))) (ct_X12_run_r125d_190 hT hB hP hF hD hQ ih l1 l3 l4 l5 v38 v16 h (jr_of rfl (by omega)) (jr_of rfl (by omega)) (jr_of rfl (by omega)) (jr_of rfl (by omega)) (jr_of rfl (by omega)) (jr_of rfl (by omega)) (by rw [show (v16.toInt - (A : Int)).toNat = (l7.toInt + 1 - (A : Int)).toNat from by omega]; omega) (by omega) (by omega) (by omega) J Sm D)
          ·
            rw [if_neg (by omega)] at D
            refine x_aloadn (x := 125) rfl rfl ?_
            refine z_getR (N := 92) (b := 154) 12 60 rfl f_12_120 rfl J rfl 16060 ⟨rfl, rfl⟩ rfl ?_
            refine x_iload (x := l6) rfl rfl ?_
            refine x_aloadn (x := 125) rfl rfl ?_
            refine x_iload (x := l4) rfl rfl ?_
            refine x_iload (x := l5) rfl rfl ?_
            refine x_iload (x := v8) rfl rfl ?_
            refine x_iconst (v := 1) rfl ki_1 ?_
            refine z_isubW rfl rfl jk_1 (fun v54 ev54 => ?_)
            have fv54 := jfull v54
            try rw [← ev54] at D
            refine x_inv (N := m_X12_fact2) (As := [.int l4, .int l5, .int v54]) (b := 125) (st := [.int l6, .ref 154]) (dx9 := 8) (mc := 0) (ms := 0) (host := "") 12 rfl t_X12_fact2 ⟨Or.inl q_12_722, i_X12_fact2.1, i_X12_fact2.2⟩ ⟨by decide, rfl⟩ (congrArg Prod.fst (J.1.1 125 (12, 92) rfl)) rfl (by decide) rfl rfl ⟨by decide, by decide⟩ (sf_X12_fact2_r125d (jr_of rfl (by omega)) (jr_of rfl (by omega)) hD J rfl  (fun v58 h J S55 X56 X57 => ?_))
            have ev58 := jfullL v58
            have Sm := jSm_tr rfl Sm S55
            try rw [X56] at D
            try rw [X57] at D
            show jX m_X12_run 9 0 0 113 [(7, .int v16), (9, .int v15), (8, .int v8), (0, .ref 125), (1, .int l1), (3, .int l3), (4, .int l4), (5, .int l5), (6, .int l6)] [.long v58, .int l6, .ref 154] _ 0 0 _
            refine z_last (N := 400) (l := 0) (u := 400) rfl hD J Sm rfl rfl rfl (by omega) rfl (fun h w59 J Sm => ?_)
            rw [vwwL w59 (show l6.toInt = l6.toInt from by omega) (show v58.toInt = v58.toInt from by omega)] at D
            refine z_iinc (x := l6) (lsx9 := fun v60 => [(6, .int v60), (7, .int v16), (9, .int v15), (8, .int v8), (0, .ref 125), (1, .int l1), (3, .int l3), (4, .int l4), (5, .int l5)]) rfl rfl rfl jko_1 (by omega) rfl (fun _ => rfl) (fun v60 ev60 => ?_)
            refine x_goto (tgt := 301) rfl rfl ?_
            try rw [show (l6.toInt + 1) = v60.toInt from by omega] at D
            try rw [show (l7.toInt + 1) = v16.toInt from by omega] at D
            exact jX.sub (jsb_c rfl (jsb_c rfl (jsb_c rfl (jsb_c rfl (jsb_c rfl (jsb_c rfl (jsb_c rfl jsb_n))))))) (ct_X12_run_r125d_301 hT hB hP hF hD hQ ih l1 l3 l4 l5 v60 v16 g0 h (jr_of rfl (by omega)) (jr_of rfl (by omega)) (jr_of rfl (by omega)) (jr_of rfl (by omega)) (jr_of rfl (by omega)) (jr_of rfl (by omega)) (by rw [show (v16.toInt - (A : Int)).toNat = (l7.toInt + 1 - (A : Int)).toNat from by omega]; omega) (by omega) (by omega) (jml w59 (jmc S55 rfl z0)) (by omega) J Sm D)
        ·
          rw [if_pos (by omega)] at D
          refine x_aloadn (x := 125) rfl rfl ?_
          refine z_getR (N := 92) (b := 154) 12 60 rfl f_12_120 rfl J rfl 16060 ⟨rfl, rfl⟩ rfl ?_
          refine x_iload (x := l6) rfl rfl ?_
          refine x_iload (x := v15) rfl rfl ?_
          refine z_i2l rfl rfl (fun v61 ev61 => ?_)
          refine z_last (N := 400) (l := 0) (u := 400) rfl hD J Sm rfl rfl rfl (by omega) rfl (fun h w62 J Sm => ?_)
          rw [vwwL w62 (show l6.toInt = l6.toInt from by omega) (show v15.toInt = v61.toInt from by omega)] at D
          refine z_iinc (x := l6) (lsx9 := fun v63 => [(6, .int v63), (7, .int v16), (9, .int v15), (8, .int v8), (0, .ref 125), (1, .int l1), (3, .int l3), (4, .int l4), (5, .int l5)]) rfl rfl rfl jko_1 (by omega) rfl (fun _ => rfl) (fun v63 ev63 => ?_)
          refine x_goto (tgt := 301) rfl rfl ?_
          try rw [show (l6.toInt + 1) = v63.toInt from by omega] at D
          try rw [show (l7.toInt + 1) = v16.toInt from by omega] at D
          exact jX.sub (jsb_c rfl (jsb_c rfl (jsb_c rfl (jsb_c rfl (jsb_c rfl (jsb_c rfl (jsb_c rfl jsb_n))))))) (ct_X12_run_r125d_301 hT hB hP hF hD hQ ih l1 l3 l4 l5 v63 v16 g0 h (jr_of rfl (by omega)) (jr_of rfl (by omega)) (jr_of rfl (by omega)) (jr_of rfl (by omega)) (jr_of rfl (by omega)) (jr_of rfl (by omega)) (by rw [show (v16.toInt - (A : Int)).toNat = (l7.toInt + 1 - (A : Int)).toNat from by omega]; omega) (by omega) (by omega) (jml w62 z0) (by omega) J Sm D)
set_option maxRecDepth 100000 in
set_option maxHeartbeats 4000000 in
theorem sf_X12_run_r125d {Dy : jH → Prop} {h : jH} {Q : Option Value → jH → Prop} {dr : jW} {a1 : Int32} {a2 : Int32} {a3 : Int32} {a4 : Int32} {a5 : Int32} (y1 : 0 ≤ a1.toInt ∧ a1.toInt ≤ 29) (y4 : (-1) ≤ a4.toInt ∧ a4.toInt ≤ 599) (y5 : 0 ≤ a5.toInt ∧ a5.toInt ≤ 146399) {T A B : Nat} (hT : T < 30) (hB : B ≤ 400) (hP : jPc (jiv h 126) T A B) (x1 : a1.toInt = (T : Int)) (x2 : a2.toInt = (A : Int)) (x3 : a3.toInt = (B : Int)) (hD : jDk Dy) (J : jJ jSgM Dy h) (D : d_X12_run_r125d a1.toInt a2.toInt a3.toInt a4.toInt a5.toInt (vw h) = dr) (hQ : ∀ hx9, jJ jSgM Dy hx9 → jSm fp_X12_run_r125d h hx9 → dr = vw hx9 → Q none hx9) : jC m_X12_run 9 0 0 [.ref 125, .int a1, .int a2, .int a3, .int a4, .int a5] h Q := by
  refine jC.of rfl k_X12_run rfl ?_
  have Sm := jSm_rf fp_X12_run_r125d h
  have hF : ∀ i, 18820 ≤ i → i < 46540 → jiv h 126 i = jiv h 126 i := fun _ _ _ => rfl
  have ea2 := jfull a2
  have ea3 := jfull a3
  show jX m_X12_run 9 0 0 0 [(0, .ref 125), (1, .int a1), (2, .int a2), (3, .int a3), (4, .int a4), (5, .int a5)] [] _ 0 0 _
  unfold d_X12_run_r125d at D
  refine x_aloadn (x := 125) rfl rfl ?_
  refine x_iconst (v := 0) rfl ki_0 ?_
  refine z_putZ (N := 92) (w := 0) 12 61 rfl f_12_726 rfl (jfin_no TX12 RX12 92 rfl rfl) hD J Sm rfl rfl jk_0 (by omega) (pw_125_61 (by omega)) rfl (fun h w1 J Sm => ?_)
  rw [vwf w1 (show 0 = (0 : Int32).toInt from by have := jk_0; omega)] at D
  refine x_iconst (v := 0) rfl ki_0 ?_
  refine x_istore (lsx9 := [(6, .int 0), (0, .ref 125), (1, .int a1), (2, .int a2), (3, .int a3), (4, .int a4), (5, .int a5)]) rfl rfl rfl ?_
  refine x_iloadn (x := a2) rfl rfl ?_
  refine x_istore (lsx9 := [(7, .int a2), (6, .int 0), (0, .ref 125), (1, .int a1), (2, .int a2), (3, .int a3), (4, .int a4), (5, .int a5)]) rfl rfl rfl ?_
  exact jX.sub (jsb_c rfl (jsb_c rfl (jsb_c rfl (jsb_c rfl (jsb_c rfl (jsb_c rfl (jsb_c rfl jsb_n))))))) (ct_X12_run_r125d_11 hT hB hP hF hD hQ  4294967296 a1 a3 a4 a5 0 a2 0 h (by omega) (jr_of rfl (by omega)) (jr_of rfl (by omega)) (jr_of rfl (by omega)) (jr_of jk_0 (by omega)) (jr_of jk_0 (by omega)) (jrun_0 x2) (by omega) (by omega) (jmw w1) J Sm (by rw [jk_0]; exact D))
def fp_X12_holdsFor_r125d : jFp := [(125, 32, 33), (125, 33, 34), (125, 34, 35), (125, 35, 36), (125, 57, 58), (125, 61, 62), (125, 62, 63), (125, 63, 64), (152, 0, 360), (153, 0, 30), (154, 0, 400), (162, 0, 40), (163, 0, 40), (164, 0, 40)]
set_option maxRecDepth 100000 in
set_option maxHeartbeats 4000000 in
theorem ct_X12_holdsFor_r125d_29 {Dy : jH → Prop} {h0 : jH} {Q : Option Value → jH → Prop} {dr : (Int × jW)} {a1 : Int32} (yy_a1 : 0 ≤ a1.toInt ∧ a1.toInt ≤ 29) {a2 : Int32} (yy_a2 : 0 ≤ a2.toInt ∧ a2.toInt ≤ 11) (hN : jCn h0 a1.toInt a2.toInt) (hD : jDk Dy) (hQ : ∀ (v : Int32) hx9, 0 ≤ v.toInt ∧ v.toInt ≤ 1 → jJ jSgM Dy hx9 → jSm fp_X12_holdsFor_r125d h0 hx9 → dr.1 = v.toInt → dr.2 = vw hx9 → Q (some (.int v)) hx9) : ∀ (h : jH), jJ jSgM Dy h → jSm fp_X12_holdsFor_r125d h0 h → d_X12_holdsFor_r125d_29  (vw h) = dr → jX m_X12_holdsFor 10 0 0 29 [] [] h 0 0 Q := by
  intro  h    J Sm D
  unfold d_X12_holdsFor_r125d_29 at D
  refine x_iconst (v := 0) rfl ki_0 ?_
  refine x_zret rfl rfl (by decide) ?_
  exact hQ _ _ (jr_of jk_0 (by omega)) J Sm ((congrArg Prod.fst D).symm.trans (show 0 = (0 : Int32).toInt from by have := jk_0; omega)) (congrArg Prod.snd D).symm
set_option maxRecDepth 100000 in
set_option maxHeartbeats 4000000 in
theorem ct_X12_holdsFor_r125d_200241 {Dy : jH → Prop} {h0 : jH} {Q : Option Value → jH → Prop} {dr : (Int × jW)} {a1 : Int32} (yy_a1 : 0 ≤ a1.toInt ∧ a1.toInt ≤ 29) {a2 : Int32} (yy_a2 : 0 ≤ a2.toInt ∧ a2.toInt ≤ 11) (hN : jCn h0 a1.toInt a2.toInt) (hD : jDk Dy) (hQ : ∀ (v : Int32) hx9, 0 ≤ v.toInt ∧ v.toInt ≤ 1 → jJ jSgM Dy hx9 → jSm fp_X12_holdsFor_r125d h0 hx9 → dr.1 = v.toInt → dr.2 = vw hx9 → Q (some (.int v)) hx9) : ∀ (h : jH), jJ jSgM Dy h → jSm fp_X12_holdsFor_r125d h0 h → d_X12_holdsFor_r125d_200241  (vw h) = dr → jX m_X12_holdsFor 10 0 0 241 [] [.int 0] h 0 0 Q := by
  intro  h    J Sm D
  unfold d_X12_holdsFor_r125d_200241 at D
  refine x_zret rfl rfl (by decide) ?_
  exact hQ _ _ (jr_of jk_0 (by omega)) J Sm ((congrArg Prod.fst D).symm.trans (show 0 = (0 : Int32).toInt from by have := jk_0; omega)) (congrArg Prod.snd D).symm
set_option maxRecDepth 100000 in
set_option maxHeartbeats 4000000 in
theorem ct_X12_holdsFor_r125d_300241 {Dy : jH → Prop} {h0 : jH} {Q : Option Value → jH → Prop} {dr : (Int × jW)} {a1 : Int32} (yy_a1 : 0 ≤ a1.toInt ∧ a1.toInt ≤ 29) {a2 : Int32} (yy_a2 : 0 ≤ a2.toInt ∧ a2.toInt ≤ 11) (hN : jCn h0 a1.toInt a2.toInt) (hD : jDk Dy) (hQ : ∀ (v : Int32) hx9, 0 ≤ v.toInt ∧ v.toInt ≤ 1 → jJ jSgM Dy hx9 → jSm fp_X12_holdsFor_r125d h0 hx9 → dr.1 = v.toInt → dr.2 = vw hx9 → Q (some (.int v)) hx9) : ∀ (h : jH), jJ jSgM Dy h → jSm fp_X12_holdsFor_r125d h0 h → d_X12_holdsFor_r125d_300241  (vw h) = dr → jX m_X12_holdsFor 10 0 0 241 [] [.int 1] h 0 0 Q := by
  intro  h    J Sm D
  unfold d_X12_holdsFor_r125d_300241 at D
  refine x_zret rfl rfl (by decide) ?_
  exact hQ _ _ (jr_of jk_1 (by omega)) J Sm ((congrArg Prod.fst D).symm.trans (show 1 = (1 : Int32).toInt from by have := jk_1; omega)) (congrArg Prod.snd D).symm
set_option maxRecDepth 100000 in
set_option maxHeartbeats 4000000 in
theorem ct_X12_holdsFor_r125d_169 {Dy : jH → Prop} {h0 : jH} {Q : Option Value → jH → Prop} {dr : (Int × jW)} {a1 : Int32} (yy_a1 : 0 ≤ a1.toInt ∧ a1.toInt ≤ 29) {a2 : Int32} (yy_a2 : 0 ≤ a2.toInt ∧ a2.toInt ≤ 11) (hN : jCn h0 a1.toInt a2.toInt) (hD : jDk Dy) (hQ : ∀ (v : Int32) hx9, 0 ≤ v.toInt ∧ v.toInt ≤ 1 → jJ jSgM Dy hx9 → jSm fp_X12_holdsFor_r125d h0 hx9 → dr.1 = v.toInt → dr.2 = vw hx9 → Q (some (.int v)) hx9) : ∀ (l3 : Int32) (l4 : Int32) (l5 : Int32) (h : jH), (-1) ≤ l3.toInt ∧ l3.toInt ≤ 599 → 0 ≤ l4.toInt ∧ l4.toInt ≤ 146399 → 18824 ≤ l5.toInt ∧ l5.toInt ≤ 45730 → l5.toInt % 2 = 0 → l5.toInt = 18824 + 924 * a1.toInt + 10 * a2.toInt → jJ jSgM Dy h → jSm fp_X12_holdsFor_r125d h0 h → d_X12_holdsFor_r125d_169  a1.toInt l3.toInt l4.toInt l5.toInt (vw h) = dr → jX m_X12_holdsFor 10 0 0 169 [(0, .ref 125), (1, .int a1), (3, .int l3), (4, .int l4), (5, .int l5)] [] h 0 0 Q := by
  intro l3 l4 l5 h y0 y1 y2 y3 y4   J Sm D
  unfold d_X12_holdsFor_r125d_169 at D
  refine x_aloadn (x := 125) rfl rfl ?_
  refine x_lconst (v := 0) rfl kl_0 ?_
  refine z_putL (N := 92) 12 63 rfl f_12_746 rfl (jfin_no TX12 RX12 92 rfl rfl) hD J Sm rfl rfl rfl (fun h w1 J Sm => ?_)
  rw [vwfL w1 (show 0 = (0 : Int64).toInt from by have := jkl_0; omega)] at D
  refine x_aloadn (x := 125) rfl rfl ?_
  refine z_getR (N := 92) (b := 126) 12 2 rfl f_12_8 rfl J rfl 16002 ⟨rfl, rfl⟩ rfl ?_
  refine x_iload (x := l5) rfl rfl ?_
  refine x_iconst (v := 4) rfl ki_4 ?_
  refine z_iadd rfl rfl jk_4 (by omega) (fun v2 ev2 => ?_)
  refine z_iald0 (N := 50660) rfl J rfl rfl (by omega) (fun v3 qv3 => ?_)
  have ev3 := jfull v3
  try rw [vrd (jmb_l w1 qv3) (show (l5.toInt + 4) = v2.toInt from by omega)] at D
  refine x_aloadn (x := 125) rfl rfl ?_
  refine z_getR (N := 92) (b := 126) 12 2 rfl f_12_8 rfl J rfl 16002 ⟨rfl, rfl⟩ rfl ?_
  refine x_iload (x := l5) rfl rfl ?_
  refine x_iconst (v := 5) rfl ki_5 ?_
  refine z_iadd rfl rfl jk_5 (by omega) (fun v4 ev4 => ?_)
  refine z_iald0 (N := 50660) rfl J rfl rfl (by omega) (fun v5 qv5 => ?_)
  have ev5 := jfull v5
  try rw [vrd (jmb_l w1 qv5) (show (l5.toInt + 5) = v4.toInt from by omega)] at D
  refine x_icge (tgt := 242) rfl rfl (ti_ge rfl rfl ⟨fun c6 => ?_, fun c6 => ?_⟩)
  ·
    rw [if_pos (by omega)] at D
    refine x_iconst (v := 1) rfl ki_1 ?_
    refine x_zret rfl rfl (by decide) ?_
    exact hQ _ _ (jr_of jk_1 (by omega)) J Sm ((congrArg Prod.fst D).symm.trans (show 1 = (1 : Int32).toInt from by have := jk_1; omega)) (congrArg Prod.snd D).symm
  ·
    rw [if_neg (by omega)] at D
    refine x_aloadn (x := 125) rfl rfl ?_
    refine x_iloadn (x := a1) rfl rfl ?_
    refine x_aloadn (x := 125) rfl rfl ?_
    refine z_getR (N := 92) (b := 126) 12 2 rfl f_12_8 rfl J rfl 16002 ⟨rfl, rfl⟩ rfl ?_
    refine x_iload (x := l5) rfl rfl ?_
    refine x_iconst (v := 4) rfl ki_4 ?_
    refine z_iadd rfl rfl jk_4 (by omega) (fun v7 ev7 => ?_)
    refine z_iald0 (N := 50660) rfl J rfl rfl (by omega) (fun v8 qv8 => ?_)
    have ev8 := jfull v8
    try rw [show v3.toInt = v8.toInt from ((vrd (jmb_l w1 qv3) (show (l5.toInt + 4) = v2.toInt from by omega)).symm.trans (vrd (jmb_l w1 qv8) (show (l5.toInt + 4) = v7.toInt from by omega)))] at D
    try rw [vrd (jmb_l w1 qv8) (show (l5.toInt + 4) = v7.toInt from by omega)] at D
    refine x_aloadn (x := 125) rfl rfl ?_
    refine z_getR (N := 92) (b := 126) 12 2 rfl f_12_8 rfl J rfl 16002 ⟨rfl, rfl⟩ rfl ?_
    refine x_iload (x := l5) rfl rfl ?_
    refine x_iconst (v := 5) rfl ki_5 ?_
    refine z_iadd rfl rfl jk_5 (by omega) (fun v9 ev9 => ?_)
    refine z_iald0 (N := 50660) rfl J rfl rfl (by omega) (fun v10 qv10 => ?_)
    have ev10 := jfull v10
    try rw [show v5.toInt = v10.toInt from ((vrd (jmb_l w1 qv5) (show (l5.toInt + 5) = v4.toInt from by omega)).symm.trans (vrd (jmb_l w1 qv10) (show (l5.toInt + 5) = v9.toInt from by omega)))] at D
    try rw [vrd (jmb_l w1 qv10) (show (l5.toInt + 5) = v9.toInt from by omega)] at D
    refine x_iloadn (x := l3) rfl rfl ?_
    refine x_iload (x := l4) rfl rfl ?_
    obtain ⟨AP11, BP11, xAP11, xBP11, xPP11⟩ := jwv_p (e := 4) (t := a1.toInt) (c := a2.toInt) hD J (by omega) (by omega) (jcn_s Sm rfl hN) (by omega) (by omega) qv8 (by omega) qv10
    refine x_inv (N := m_X12_run) (As := [.int a1, .int v8, .int v10, .int l3, .int l4]) (b := 125) (st := []) (dx9 := 9) (mc := 0) (ms := 0) (host := "") 12 rfl t_X12_run ⟨Or.inl q_12_742, i_X12_run.1, i_X12_run.2⟩ ⟨by decide, rfl⟩ (congrArg Prod.fst (J.1.1 125 (12, 92) rfl)) rfl (by decide) rfl rfl ⟨by decide, by decide⟩ (sf_X12_run_r125d (jr_of rfl (by omega)) (jr_of rfl (by omega)) (jr_of rfl (by omega)) (by omega) xPP11.1 xPP11 (by omega) xAP11 xBP11 hD J rfl  (fun h J S12 X13 => ?_))
    have Sm := jSm_tr rfl Sm S12
    rw [X13] at D
    show jX m_X12_holdsFor 10 0 0 221 [(0, .ref 125), (1, .int a1), (3, .int l3), (4, .int l4), (5, .int l5)] [] _ 0 0 _
    refine x_aloadn (x := 125) rfl rfl ?_
    refine x_aloadn (x := 125) rfl rfl ?_
    refine z_getLQ (N := 92) 12 62 rfl f_12_739 rfl J rfl (fun v14 qv14 => ?_)
    have ev14 := jfullL v14
    try rw [vrfL qv14] at D
    refine z_putL (N := 92) 12 63 rfl f_12_746 rfl (jfin_no TX12 RX12 92 rfl rfl) hD J Sm rfl rfl rfl (fun h w15 J Sm => ?_)
    rw [vwfL w15 (show v14.toInt = v14.toInt from by omega)] at D
    refine x_aloadn (x := 125) rfl rfl ?_
    refine z_getI (N := 92) 12 61 rfl f_12_726 rfl J rfl sg_125_61_62_1_0_1 (fun v16 qv16 ev16 => ?_)
    try rw [vrf (jmb_l w15 qv16)] at D
    refine x_ifne (tgt := 240) rfl rfl (ti_ne rfl jk_0 ⟨fun c17 => ?_, fun c17 => ?_⟩)
    ·
      rw [if_neg (by omega)] at D
      refine x_iconst (v := 0) rfl ki_0 ?_
      exact jX.sub jsb_n (ct_X12_holdsFor_r125d_200241 yy_a1 yy_a2 hN hD hQ  h J Sm D)
    ·
      rw [if_pos (by omega)] at D
      refine x_iconst (v := 1) rfl ki_1 ?_
      refine x_goto (tgt := 241) rfl rfl ?_
      exact jX.sub jsb_n (ct_X12_holdsFor_r125d_300241 yy_a1 yy_a2 hN hD hQ  h J Sm D)
set_option maxRecDepth 100000 in
set_option maxHeartbeats 4000000 in
theorem ct_X12_holdsFor_r125d_167 {Dy : jH → Prop} {h0 : jH} {Q : Option Value → jH → Prop} {dr : (Int × jW)} {a1 : Int32} (yy_a1 : 0 ≤ a1.toInt ∧ a1.toInt ≤ 29) {a2 : Int32} (yy_a2 : 0 ≤ a2.toInt ∧ a2.toInt ≤ 11) (hN : jCn h0 a1.toInt a2.toInt) (hD : jDk Dy) (hQ : ∀ (v : Int32) hx9, 0 ≤ v.toInt ∧ v.toInt ≤ 1 → jJ jSgM Dy hx9 → jSm fp_X12_holdsFor_r125d h0 hx9 → dr.1 = v.toInt → dr.2 = vw hx9 → Q (some (.int v)) hx9) : ∀ (h : jH), jJ jSgM Dy h → jSm fp_X12_holdsFor_r125d h0 h → d_X12_holdsFor_r125d_167  (vw h) = dr → jX m_X12_holdsFor 10 0 0 167 [] [] h 0 0 Q := by
  intro  h    J Sm D
  unfold d_X12_holdsFor_r125d_167 at D
  refine x_iconst (v := 0) rfl ki_0 ?_
  refine x_zret rfl rfl (by decide) ?_
  exact hQ _ _ (jr_of jk_0 (by omega)) J Sm ((congrArg Prod.fst D).symm.trans (show 0 = (0 : Int32).toInt from by have := jk_0; omega)) (congrArg Prod.snd D).symm
set_option maxRecDepth 100000 in
set_option maxHeartbeats 4000000 in
theorem ct_X12_holdsFor_r125d_100 {Dy : jH → Prop} {h0 : jH} {Q : Option Value → jH → Prop} {dr : (Int × jW)} {a1 : Int32} (yy_a1 : 0 ≤ a1.toInt ∧ a1.toInt ≤ 29) {a2 : Int32} (yy_a2 : 0 ≤ a2.toInt ∧ a2.toInt ≤ 11) (hN : jCn h0 a1.toInt a2.toInt) (hD : jDk Dy) (hQ : ∀ (v : Int32) hx9, 0 ≤ v.toInt ∧ v.toInt ≤ 1 → jJ jSgM Dy hx9 → jSm fp_X12_holdsFor_r125d h0 hx9 → dr.1 = v.toInt → dr.2 = vw hx9 → Q (some (.int v)) hx9) : ∀ (l3 : Int32) (l4 : Int32) (l5 : Int32) (h : jH), (-1) ≤ l3.toInt ∧ l3.toInt ≤ 599 → 0 ≤ l4.toInt ∧ l4.toInt ≤ 146399 → 18824 ≤ l5.toInt ∧ l5.toInt ≤ 45730 → l5.toInt % 2 = 0 → l5.toInt = 18824 + 924 * a1.toInt + 10 * a2.toInt → jJ jSgM Dy h → jSm fp_X12_holdsFor_r125d h0 h → d_X12_holdsFor_r125d_100  a1.toInt l3.toInt l4.toInt l5.toInt (vw h) = dr → jX m_X12_holdsFor 10 0 0 100 [(0, .ref 125), (1, .int a1), (3, .int l3), (4, .int l4), (5, .int l5)] [] h 0 0 Q := by
  intro l3 l4 l5 h y0 y1 y2 y3 y4   J Sm D
  unfold d_X12_holdsFor_r125d_100 at D
  refine x_aloadn (x := 125) rfl rfl ?_
  refine z_getR (N := 92) (b := 126) 12 2 rfl f_12_8 rfl J rfl 16002 ⟨rfl, rfl⟩ rfl ?_
  refine x_iload (x := l5) rfl rfl ?_
  refine x_bipush (v := 8) rfl kb_8 ?_
  refine z_iadd rfl rfl jk_8 (by omega) (fun v1 ev1 => ?_)
  refine z_iald0 (N := 50660) rfl J rfl rfl (by omega) (fun v2 qv2 => ?_)
  have ev2 := jfull v2
  try rw [vrd qv2 (show (l5.toInt + 8) = v1.toInt from by omega)] at D
  refine x_aloadn (x := 125) rfl rfl ?_
  refine z_getR (N := 92) (b := 126) 12 2 rfl f_12_8 rfl J rfl 16002 ⟨rfl, rfl⟩ rfl ?_
  refine x_iload (x := l5) rfl rfl ?_
  refine x_bipush (v := 9) rfl kb_9 ?_
  refine z_iadd rfl rfl jk_9 (by omega) (fun v3 ev3 => ?_)
  refine z_iald0 (N := 50660) rfl J rfl rfl (by omega) (fun v4 qv4 => ?_)
  have ev4 := jfull v4
  try rw [vrd qv4 (show (l5.toInt + 9) = v3.toInt from by omega)] at D
  refine x_icge (tgt := 169) rfl rfl (ti_ge rfl rfl ⟨fun c5 => ?_, fun c5 => ?_⟩)
  ·
    rw [if_pos (by omega)] at D
    exact jX.sub (jsb_c rfl (jsb_c rfl (jsb_c rfl (jsb_c rfl (jsb_c rfl jsb_n))))) (ct_X12_holdsFor_r125d_169 yy_a1 yy_a2 hN hD hQ  l3 l4 l5 h (jr_of rfl (by omega)) (jr_of rfl (by omega)) (jr_of rfl (by omega)) (jr_mod rfl (by omega)) (by omega) J Sm D)
  ·
    rw [if_neg (by omega)] at D
    refine x_aloadn (x := 125) rfl rfl ?_
    refine x_iloadn (x := a1) rfl rfl ?_
    refine x_aloadn (x := 125) rfl rfl ?_
    refine z_getR (N := 92) (b := 126) 12 2 rfl f_12_8 rfl J rfl 16002 ⟨rfl, rfl⟩ rfl ?_
    refine x_iload (x := l5) rfl rfl ?_
    refine x_bipush (v := 8) rfl kb_8 ?_
    refine z_iadd rfl rfl jk_8 (by omega) (fun v6 ev6 => ?_)
    refine z_iald0 (N := 50660) rfl J rfl rfl (by omega) (fun v7 qv7 => ?_)
    have ev7 := jfull v7
    try rw [show v2.toInt = v7.toInt from ((vrd qv2 (show (l5.toInt + 8) = v1.toInt from by omega)).symm.trans (vrd qv7 (show (l5.toInt + 8) = v6.toInt from by omega)))] at D
    try rw [vrd qv7 (show (l5.toInt + 8) = v6.toInt from by omega)] at D
    refine x_aloadn (x := 125) rfl rfl ?_
    refine z_getR (N := 92) (b := 126) 12 2 rfl f_12_8 rfl J rfl 16002 ⟨rfl, rfl⟩ rfl ?_
    refine x_iload (x := l5) rfl rfl ?_
    refine x_bipush (v := 9) rfl kb_9 ?_
    refine z_iadd rfl rfl jk_9 (by omega) (fun v8 ev8 => ?_)
    refine z_iald0 (N := 50660) rfl J rfl rfl (by omega) (fun v9 qv9 => ?_)
    have ev9 := jfull v9
    try rw [show v4.toInt = v9.toInt from ((vrd qv4 (show (l5.toInt + 9) = v3.toInt from by omega)).symm.trans (vrd qv9 (show (l5.toInt + 9) = v8.toInt from by omega)))] at D
    try rw [vrd qv9 (show (l5.toInt + 9) = v8.toInt from by omega)] at D
    refine x_iloadn (x := l3) rfl rfl ?_
    refine x_iload (x := l4) rfl rfl ?_
    obtain ⟨AP10, BP10, xAP10, xBP10, xPP10⟩ := jwv_p (e := 8) (t := a1.toInt) (c := a2.toInt) hD J (by omega) (by omega) (jcn_s Sm rfl hN) (by omega) (by omega) qv7 (by omega) qv9
    refine x_inv (N := m_X12_run) (As := [.int a1, .int v7, .int v9, .int l3, .int l4]) (b := 125) (st := []) (dx9 := 9) (mc := 0) (ms := 0) (host := "") 12 rfl t_X12_run ⟨Or.inl q_12_742, i_X12_run.1, i_X12_run.2⟩ ⟨by decide, rfl⟩ (congrArg Prod.fst (J.1.1 125 (12, 92) rfl)) rfl (by decide) rfl rfl ⟨by decide, by decide⟩ (sf_X12_run_r125d (jr_of rfl (by omega)) (jr_of rfl (by omega)) (jr_of rfl (by omega)) (by omega) xPP10.1 xPP10 (by omega) xAP10 xBP10 hD J rfl  (fun h J S11 X12 => ?_))
    have Sm := jSm_tr rfl Sm S11
    rw [X12] at D
    show jX m_X12_holdsFor 10 0 0 151 [(0, .ref 125), (1, .int a1), (3, .int l3), (4, .int l4), (5, .int l5)] [] _ 0 0 _
    refine x_aloadn (x := 125) rfl rfl ?_
    refine z_getI (N := 92) 12 61 rfl f_12_726 rfl J rfl sg_125_61_62_1_0_1 (fun v13 qv13 ev13 => ?_)
    try rw [vrf qv13] at D
    refine x_ifne (tgt := 167) rfl rfl (ti_ne rfl jk_0 ⟨fun c14 => ?_, fun c14 => ?_⟩)
    ·
      rw [if_neg (by omega)] at D
      exact jX.sub jsb_n (ct_X12_holdsFor_r125d_167 yy_a1 yy_a2 hN hD hQ  h J Sm D)
    ·
      rw [if_pos (by omega)] at D
      refine x_aloadn (x := 125) rfl rfl ?_
      refine z_getLQ (N := 92) 12 62 rfl f_12_739 rfl J rfl (fun v15 qv15 => ?_)
      have ev15 := jfullL v15
      try rw [vrfL qv15] at D
      refine x_lconst (v := 0) rfl kl_0 ?_
      refine z_lcmp rfl rfl jkl_0 (fun v16 ev16 => ?_)
      refine x_ifeq (tgt := 169) rfl rfl (ti_eq rfl jk_0 ⟨fun c17 => ?_, fun c17 => ?_⟩)
      ·
        rw [if_pos (by omega)] at D
        exact jX.sub (jsb_c rfl (jsb_c rfl (jsb_c rfl (jsb_c rfl (jsb_c rfl jsb_n))))) (ct_X12_holdsFor_r125d_169 yy_a1 yy_a2 hN hD hQ  l3 l4 l5 h (jr_of rfl (by omega)) (jr_of rfl (by omega)) (jr_of rfl (by omega)) (jr_mod rfl (by omega)) (by omega) J Sm D)
      ·
        rw [if_neg (by omega)] at D
        exact jX.sub jsb_n (ct_X12_holdsFor_r125d_167 yy_a1 yy_a2 hN hD hQ  h J Sm D)
set_option maxRecDepth 100000 in
set_option maxHeartbeats 4000000 in
theorem ct_X12_holdsFor_r125d_98 {Dy : jH → Prop} {h0 : jH} {Q : Option Value → jH → Prop} {dr : (Int × jW)} {a1 : Int32} (yy_a1 : 0 ≤ a1.toInt ∧ a1.toInt ≤ 29) {a2 : Int32} (yy_a2 : 0 ≤ a2.toInt ∧ a2.toInt ≤ 11) (hN : jCn h0 a1.toInt a2.toInt) (hD : jDk Dy) (hQ : ∀ (v : Int32) hx9, 0 ≤ v.toInt ∧ v.toInt ≤ 1 → jJ jSgM Dy hx9 → jSm fp_X12_holdsFor_r125d h0 hx9 → dr.1 = v.toInt → dr.2 = vw hx9 → Q (some (.int v)) hx9) : ∀ (h : jH), jJ jSgM Dy h → jSm fp_X12_holdsFor_r125d h0 h → d_X12_holdsFor_r125d_98  (vw h) = dr → jX m_X12_holdsFor 10 0 0 98 [] [] h 0 0 Q := by
  intro  h    J Sm D
  unfold d_X12_holdsFor_r125d_98 at D
  refine x_iconst (v := 0) rfl ki_0 ?_
  refine x_zret rfl rfl (by decide) ?_
  exact hQ _ _ (jr_of jk_0 (by omega)) J Sm ((congrArg Prod.fst D).symm.trans (show 0 = (0 : Int32).toInt from by have := jk_0; omega)) (congrArg Prod.snd D).symm
set_option maxRecDepth 100000 in
set_option maxHeartbeats 4000000 in
theorem sf_X12_holdsFor_r125d {Dy : jH → Prop} {h : jH} {Q : Option Value → jH → Prop} {dr : (Int × jW)} {a1 : Int32} {a2 : Int32} {a3 : Int32} {a4 : Int32} (y1 : 0 ≤ a1.toInt ∧ a1.toInt ≤ 29) (y2 : 0 ≤ a2.toInt ∧ a2.toInt ≤ 11) (y3 : (-1) ≤ a3.toInt ∧ a3.toInt ≤ 599) (y4 : 0 ≤ a4.toInt ∧ a4.toInt ≤ 146399) (hN : jCn h a1.toInt a2.toInt) (hD : jDk Dy) (J : jJ jSgM Dy h) (D : d_X12_holdsFor_r125d a1.toInt a2.toInt a3.toInt a4.toInt (vw h) = dr) (hQ : ∀ (v : Int32) hx9, 0 ≤ v.toInt ∧ v.toInt ≤ 1 → jJ jSgM Dy hx9 → jSm fp_X12_holdsFor_r125d h hx9 → dr.1 = v.toInt → dr.2 = vw hx9 → Q (some (.int v)) hx9) : jC m_X12_holdsFor 10 0 0 [.ref 125, .int a1, .int a2, .int a3, .int a4] h Q := by
  refine jC.of rfl k_X12_holdsFor rfl ?_
  have Sm := jSm_rf fp_X12_holdsFor_r125d h
  skip
  have yy_a1 := y1
  have yy_a2 := y2
  show jX m_X12_holdsFor 10 0 0 0 [(0, .ref 125), (1, .int a1), (2, .int a2), (3, .int a3), (4, .int a4)] [] _ 0 0 _
  unfold d_X12_holdsFor_r125d at D
  refine x_aloadn (x := 125) rfl rfl ?_
  refine x_iloadn (x := a1) rfl rfl ?_
  refine x_iloadn (x := a2) rfl rfl ?_
  refine x_inv (N := m_X12_clauseAt) (As := [.int a1, .int a2]) (b := 125) (st := []) (dx9 := 9) (mc := 0) (ms := 0) (host := "") 12 rfl t_X12_clauseAt ⟨Or.inl q_12_679, i_X12_clauseAt.1, i_X12_clauseAt.2⟩ ⟨by decide, rfl⟩ (congrArg Prod.fst (J.1.1 125 (12, 92) rfl)) rfl (by decide) rfl rfl ⟨by decide, by decide⟩ (jC.of rfl k_X12_clauseAt rfl ?_)
  show jX m_X12_clauseAt 9 0 0 0 [(0, .ref 125), (1, .int a1), (2, .int a2)] [] _ 0 0 _
  refine x_iloadn (x := a1) rfl rfl ?_
  refine x_inst (N := m_X12_textAt) (As := [.int a1]) (st := []) (dx9 := 8) (mc := 0) (ms := 0) (host := "") rfl t_X12_textAt ⟨Or.inl q_12_676, s_X12_textAt⟩ rfl (by decide) rfl rfl ⟨by decide, by decide⟩ (jC.of rfl k_X12_textAt rfl ?_)
  show jX m_X12_textAt 8 0 0 0 [(0, .int a1)] [] _ 0 0 _
  refine x_sipush (v := 18820) rfl ks_18820 ?_
  refine x_sipush (v := 924) rfl ks_924 ?_
  refine x_iloadn (x := a1) rfl rfl ?_
  refine z_imul rfl jk_924 rfl (by omega) (fun v1 ev1 => ?_)
  refine z_iadd rfl jk_18820 rfl (by omega) (fun v2 ev2 => ?_)
  refine x_iret rfl rfl ?_
  show jX m_X12_clauseAt 9 0 0 4 [(0, .ref 125), (1, .int a1), (2, .int a2)] [.int v2] _ 0 0 _
  refine x_iconst (v := 4) rfl ki_4 ?_
  refine z_iadd rfl rfl jk_4 (by omega) (fun v3 ev3 => ?_)
  refine x_bipush (v := 10) rfl kb_10 ?_
  refine x_iloadn (x := a2) rfl rfl ?_
  refine z_imul rfl jk_10 rfl (by omega) (fun v4 ev4 => ?_)
  refine z_iadd rfl rfl rfl (by omega) (fun v5 ev5 => ?_)
  refine x_iret rfl rfl ?_
  show jX m_X12_holdsFor 10 0 0 6 [(0, .ref 125), (1, .int a1), (2, .int a2), (3, .int a3), (4, .int a4)] [.int v5] _ 0 0 _
  refine x_istore (lsx9 := [(5, .int v5), (0, .ref 125), (1, .int a1), (2, .int a2), (3, .int a3), (4, .int a4)]) rfl rfl rfl ?_
  refine x_aloadn (x := 125) rfl rfl ?_
  refine z_getR (N := 92) (b := 126) 12 2 rfl f_12_8 rfl J rfl 16002 ⟨rfl, rfl⟩ rfl ?_
  refine x_iload (x := v5) rfl rfl ?_
  refine z_iald0 (N := 50660) rfl J rfl rfl (by omega) (fun v6 qv6 => ?_)
  have ev6 := jfull v6
  try rw [vrd qv6 (show (((18820 + (924 * a1.toInt)) + 4) + (10 * a2.toInt)) = v5.toInt from by omega)] at D
  refine x_ifeq (tgt := 29) rfl rfl (ti_eq rfl jk_0 ⟨fun c7 => ?_, fun c7 => ?_⟩)
  ·
    rw [if_pos (by omega)] at D
    exact jX.sub jsb_n (ct_X12_holdsFor_r125d_29 yy_a1 yy_a2 hN hD hQ  h J Sm D)
  ·
    rw [if_neg (by omega)] at D
    refine x_aloadn (x := 125) rfl rfl ?_
    refine x_iloadn (x := a1) rfl rfl ?_
    refine x_iloadn (x := a2) rfl rfl ?_
    refine x_iload (x := a4) rfl rfl ?_
    refine x_inv (N := m_X12_isForce) (As := [.int a1, .int a2, .int a4]) (b := 125) (st := []) (dx9 := 9) (mc := 0) (ms := 0) (host := "") 12 rfl t_X12_isForce ⟨Or.inl q_12_688, i_X12_isForce.1, i_X12_isForce.2⟩ ⟨by decide, rfl⟩ (congrArg Prod.fst (J.1.1 125 (12, 92) rfl)) rfl (by decide) rfl rfl ⟨by decide, by decide⟩ (jC.of rfl k_X12_isForce rfl ?_)
    show jX m_X12_isForce 9 0 0 0 [(0, .ref 125), (1, .int a1), (2, .int a2), (3, .int a4)] [] _ 0 0 _
    refine x_aloadn (x := 125) rfl rfl ?_
    refine x_iloadn (x := a4) rfl rfl ?_
    refine x_inv (N := m_X12_findForce) (As := [.int a4]) (b := 125) (st := []) (dx9 := 3) (mc := 0) (ms := 0) (host := "") 12 rfl t_X12_findForce ⟨Or.inl q_12_682, i_X12_findForce.1, i_X12_findForce.2⟩ ⟨by decide, rfl⟩ (congrArg Prod.fst (J.1.1 125 (12, 92) rfl)) rfl (by decide) rfl rfl ⟨by decide, by decide⟩ (sf_X12_findForce_r125d (jr_of rfl (by omega)) hD J rfl  (fun h J S8 X9 => ?_))
    have Sm := jSm_tr rfl Sm S8
    rw [X9] at D
    show jX m_X12_isForce 9 0 0 5 [(0, .ref 125), (1, .int a1), (2, .int a2), (3, .int a4)] [] _ 0 0 _
    refine x_aloadn (x := 125) rfl rfl ?_
    refine z_getR (N := 92) (b := 153) 12 59 rfl f_12_117 rfl J rfl 16059 ⟨rfl, rfl⟩ rfl ?_
    refine x_iloadn (x := a1) rfl rfl ?_
    refine z_zald (N := 30) rfl J rfl sg_153_0_30_1_0_1 rfl (by omega) (fun v10 qv10 ev10 => ?_)
    try rw [vrd qv10 (show a1.toInt = a1.toInt from by omega)] at D
    refine x_ifeq (tgt := 32) rfl rfl (ti_eq rfl jk_0 ⟨fun c11 => ?_, fun c11 => ?_⟩)
    ·
      rw [if_pos (by omega)] at D
      refine x_iconst (v := 0) rfl ki_0 ?_
      refine x_zret rfl rfl (by decide) ?_
      show jX m_X12_holdsFor 10 0 0 26 [(5, .int v5), (0, .ref 125), (1, .int a1), (2, .int a2), (3, .int a3), (4, .int a4)] [.int 0] _ 0 0 _
      refine x_ifne (tgt := 31) rfl rfl (ti_ne jk_0 jk_0 (bn_f (by omega) ?_))
      exact jX.sub jsb_n (ct_X12_holdsFor_r125d_29 yy_a1 yy_a2 hN hD hQ  h J Sm D)
    ·
      rw [if_neg (by omega)] at D
      refine x_aloadn (x := 125) rfl rfl ?_
      refine z_getR (N := 92) (b := 152) 12 58 rfl f_12_114 rfl J rfl 16058 ⟨rfl, rfl⟩ rfl ?_
      refine x_bipush (v := 12) rfl kb_12 ?_
      refine x_iloadn (x := a1) rfl rfl ?_
      refine z_imul rfl jk_12 rfl (by omega) (fun v12 ev12 => ?_)
      refine x_iloadn (x := a2) rfl rfl ?_
      refine z_iadd rfl rfl rfl (by omega) (fun v13 ev13 => ?_)
      refine z_zald (N := 360) rfl J rfl sg_152_0_360_1_0_1 rfl (by omega) (fun v14 qv14 ev14 => ?_)
      try rw [vrd qv14 (show ((12 * a1.toInt) + a2.toInt) = v13.toInt from by omega)] at D
      refine x_ifne (tgt := 32) rfl rfl (ti_ne rfl jk_0 ⟨fun c15 => ?_, fun c15 => ?_⟩)
      ·
        rw [if_neg (by omega)] at D
        refine x_iconst (v := 0) rfl ki_0 ?_
        refine x_zret rfl rfl (by decide) ?_
        show jX m_X12_holdsFor 10 0 0 26 [(5, .int v5), (0, .ref 125), (1, .int a1), (2, .int a2), (3, .int a3), (4, .int a4)] [.int 0] _ 0 0 _
        refine x_ifne (tgt := 31) rfl rfl (ti_ne jk_0 jk_0 (bn_f (by omega) ?_))
        exact jX.sub jsb_n (ct_X12_holdsFor_r125d_29 yy_a1 yy_a2 hN hD hQ  h J Sm D)
      ·
        rw [if_pos (by omega)] at D
        refine x_iconst (v := 1) rfl ki_1 ?_
        refine x_goto (tgt := 33) rfl rfl ?_
        refine x_zret rfl rfl (by decide) ?_
        show jX m_X12_holdsFor 10 0 0 26 [(5, .int v5), (0, .ref 125), (1, .int a1), (2, .int a2), (3, .int a3), (4, .int a4)] [.int 1] _ 0 0 _
        refine x_ifne (tgt := 31) rfl rfl (ti_ne jk_1 jk_0 (bn_t (by omega) ?_))
        refine x_aloadn (x := 125) rfl rfl ?_
        refine z_getR (N := 92) (b := 126) 12 2 rfl f_12_8 rfl J rfl 16002 ⟨rfl, rfl⟩ rfl ?_
        refine x_iload (x := v5) rfl rfl ?_
        refine x_bipush (v := 6) rfl kb_6 ?_
        refine z_iadd rfl rfl jk_6 (by omega) (fun v16 ev16 => ?_)
        refine z_iald0 (N := 50660) rfl J rfl rfl (by omega) (fun v17 qv17 => ?_)
        have ev17 := jfull v17
        try rw [vrd (jmb_c S8 qv17 rfl) (show ((((18820 + (924 * a1.toInt)) + 4) + (10 * a2.toInt)) + 6) = v16.toInt from by omega)] at D
        refine x_aloadn (x := 125) rfl rfl ?_
        refine z_getR (N := 92) (b := 126) 12 2 rfl f_12_8 rfl J rfl 16002 ⟨rfl, rfl⟩ rfl ?_
        refine x_iload (x := v5) rfl rfl ?_
        refine x_bipush (v := 7) rfl kb_7 ?_
        refine z_iadd rfl rfl jk_7 (by omega) (fun v18 ev18 => ?_)
        refine z_iald0 (N := 50660) rfl J rfl rfl (by omega) (fun v19 qv19 => ?_)
        have ev19 := jfull v19
        try rw [vrd (jmb_c S8 qv19 rfl) (show ((((18820 + (924 * a1.toInt)) + 4) + (10 * a2.toInt)) + 7) = v18.toInt from by omega)] at D
        refine x_icge (tgt := 100) rfl rfl (ti_ge rfl rfl ⟨fun c20 => ?_, fun c20 => ?_⟩)
        ·
          rw [if_pos (by omega)] at D
          try rw [show (((18820 + (924 * a1.toInt)) + 4) + (10 * a2.toInt)) = v5.toInt from by omega] at D
          exact jX.sub (jsb_c rfl (jsb_c rfl (jsb_c rfl (jsb_c rfl (jsb_c rfl jsb_n))))) (ct_X12_holdsFor_r125d_100 yy_a1 yy_a2 hN hD hQ  a3 a4 v5 h (jr_of rfl (by omega)) (jr_of rfl (by omega)) (jr_of rfl (by omega)) (jr_mod rfl (by omega)) (by omega) J Sm D)
        ·
          rw [if_neg (by omega)] at D
          refine x_aloadn (x := 125) rfl rfl ?_
          refine x_iloadn (x := a1) rfl rfl ?_
          refine x_aloadn (x := 125) rfl rfl ?_
          refine z_getR (N := 92) (b := 126) 12 2 rfl f_12_8 rfl J rfl 16002 ⟨rfl, rfl⟩ rfl ?_
          refine x_iload (x := v5) rfl rfl ?_
          refine x_bipush (v := 6) rfl kb_6 ?_
          refine z_iadd rfl rfl jk_6 (by omega) (fun v21 ev21 => ?_)
          refine z_iald0 (N := 50660) rfl J rfl rfl (by omega) (fun v22 qv22 => ?_)
          have ev22 := jfull v22
          try rw [show v17.toInt = v22.toInt from ((vrd (jmb_c S8 qv17 rfl) (show ((((18820 + (924 * a1.toInt)) + 4) + (10 * a2.toInt)) + 6) = v16.toInt from by omega)).symm.trans (vrd (jmb_c S8 qv22 rfl) (show ((((18820 + (924 * a1.toInt)) + 4) + (10 * a2.toInt)) + 6) = v21.toInt from by omega)))] at D
          try rw [vrd (jmb_c S8 qv22 rfl) (show ((((18820 + (924 * a1.toInt)) + 4) + (10 * a2.toInt)) + 6) = v21.toInt from by omega)] at D
          refine x_aloadn (x := 125) rfl rfl ?_
          refine z_getR (N := 92) (b := 126) 12 2 rfl f_12_8 rfl J rfl 16002 ⟨rfl, rfl⟩ rfl ?_
          refine x_iload (x := v5) rfl rfl ?_
          refine x_bipush (v := 7) rfl kb_7 ?_
          refine z_iadd rfl rfl jk_7 (by omega) (fun v23 ev23 => ?_)
          refine z_iald0 (N := 50660) rfl J rfl rfl (by omega) (fun v24 qv24 => ?_)
          have ev24 := jfull v24
          try rw [show v19.toInt = v24.toInt from ((vrd (jmb_c S8 qv19 rfl) (show ((((18820 + (924 * a1.toInt)) + 4) + (10 * a2.toInt)) + 7) = v18.toInt from by omega)).symm.trans (vrd (jmb_c S8 qv24 rfl) (show ((((18820 + (924 * a1.toInt)) + 4) + (10 * a2.toInt)) + 7) = v23.toInt from by omega)))] at D
          try rw [vrd (jmb_c S8 qv24 rfl) (show ((((18820 + (924 * a1.toInt)) + 4) + (10 * a2.toInt)) + 7) = v23.toInt from by omega)] at D
          refine x_iloadn (x := a3) rfl rfl ?_
          refine x_iload (x := a4) rfl rfl ?_
          obtain ⟨AP25, BP25, xAP25, xBP25, xPP25⟩ := jwv_p (e := 6) (t := a1.toInt) (c := a2.toInt) hD J (by omega) (by omega) (jcn_s Sm rfl hN) (by omega) (by omega) qv22 (by omega) qv24
          refine x_inv (N := m_X12_run) (As := [.int a1, .int v22, .int v24, .int a3, .int a4]) (b := 125) (st := []) (dx9 := 9) (mc := 0) (ms := 0) (host := "") 12 rfl t_X12_run ⟨Or.inl q_12_742, i_X12_run.1, i_X12_run.2⟩ ⟨by decide, rfl⟩ (congrArg Prod.fst (J.1.1 125 (12, 92) rfl)) rfl (by decide) rfl rfl ⟨by decide, by decide⟩ (sf_X12_run_r125d (jr_of rfl (by omega)) (jr_of rfl (by omega)) (jr_of rfl (by omega)) (by omega) xPP25.1 xPP25 (by omega) xAP25 xBP25 hD J rfl  (fun h J S26 X27 => ?_))
          have Sm := jSm_tr rfl Sm S26
          rw [X27] at D
          show jX m_X12_holdsFor 10 0 0 82 [(5, .int v5), (0, .ref 125), (1, .int a1), (2, .int a2), (3, .int a3), (4, .int a4)] [] _ 0 0 _
          refine x_aloadn (x := 125) rfl rfl ?_
          refine z_getI (N := 92) 12 61 rfl f_12_726 rfl J rfl sg_125_61_62_1_0_1 (fun v28 qv28 ev28 => ?_)
          try rw [vrf qv28] at D
          refine x_ifne (tgt := 98) rfl rfl (ti_ne rfl jk_0 ⟨fun c29 => ?_, fun c29 => ?_⟩)
          ·
            rw [if_neg (by omega)] at D
            exact jX.sub jsb_n (ct_X12_holdsFor_r125d_98 yy_a1 yy_a2 hN hD hQ  h J Sm D)
          ·
            rw [if_pos (by omega)] at D
            refine x_aloadn (x := 125) rfl rfl ?_
            refine z_getLQ (N := 92) 12 62 rfl f_12_739 rfl J rfl (fun v30 qv30 => ?_)
            have ev30 := jfullL v30
            try rw [vrfL qv30] at D
            refine x_lconst (v := 0) rfl kl_0 ?_
            refine z_lcmp rfl rfl jkl_0 (fun v31 ev31 => ?_)
            refine x_ifne (tgt := 100) rfl rfl (ti_ne rfl jk_0 ⟨fun c32 => ?_, fun c32 => ?_⟩)
            ·
              rw [if_neg (by omega)] at D
              try rw [show (((18820 + (924 * a1.toInt)) + 4) + (10 * a2.toInt)) = v5.toInt from by omega] at D
              exact jX.sub (jsb_c rfl (jsb_c rfl (jsb_c rfl (jsb_c rfl (jsb_c rfl jsb_n))))) (ct_X12_holdsFor_r125d_100 yy_a1 yy_a2 hN hD hQ  a3 a4 v5 h (jr_of rfl (by omega)) (jr_of rfl (by omega)) (jr_of rfl (by omega)) (jr_mod rfl (by omega)) (by omega) J Sm D)
            ·
              rw [if_pos (by omega)] at D
              exact jX.sub jsb_n (ct_X12_holdsFor_r125d_98 yy_a1 yy_a2 hN hD hQ  h J Sm D)
