def fp_X6_byWedding_r120_c1d : jFp := [(85, 0, 4), (98, 10, 11), (98, 11, 12), (98, 12, 13), (99, 0, 30), (100, 0, 30), (101, 0, 3), (102, 0, 40), (103, 0, 40), (104, 0, 40), (105, 0, 3), (106, 0, 100), (120, 6, 7), (120, 7, 8), (121, 0, 42), (122, 0, 42)]
set_option maxRecDepth 100000 in
set_option maxHeartbeats 4000000 in
theorem ct_X6_byWedding_r120_c1d_138 {Dy : jH → Prop} {h0 : jH} {Q : Option Value → jH → Prop} {dr : (Int × jW)} (hD : jDk Dy) (hQ : ∀ (v : Int32) hx9, (-1) ≤ v.toInt ∧ v.toInt ≤ 11 → jJ jSgX Dy hx9 → jSm fp_X6_byWedding_r120_c1d h0 hx9 → dr.1 = v.toInt → dr.2 = vw hx9 → Q (some (.int v)) hx9) : ∀ (s0 : Int32) (h : jH), (-1) ≤ s0.toInt ∧ s0.toInt ≤ 11 → jJ jSgX Dy h → jSm fp_X6_byWedding_r120_c1d h0 h → d_X6_byWedding_r120_c1d_138  s0.toInt (vw h) = dr → jX m_X6_byWedding 19 0 0 138 [] [.int s0] h 0 0 Q := by
  intro s0 h y0   J Sm D
  unfold d_X6_byWedding_r120_c1d_138 at D
  refine x_iret rfl rfl ?_
  exact hQ _ _ (jr_of rfl (by omega)) J Sm ((congrArg Prod.fst D).symm.trans (show s0.toInt = s0.toInt from by omega)) (congrArg Prod.snd D).symm
set_option maxRecDepth 100000 in
set_option maxHeartbeats 4000000 in
theorem ct_X6_byWedding_r120_c1d_100138 {Dy : jH → Prop} {h0 : jH} {Q : Option Value → jH → Prop} {dr : (Int × jW)} (hD : jDk Dy) (hQ : ∀ (v : Int32) hx9, (-1) ≤ v.toInt ∧ v.toInt ≤ 11 → jJ jSgX Dy hx9 → jSm fp_X6_byWedding_r120_c1d h0 hx9 → dr.1 = v.toInt → dr.2 = vw hx9 → Q (some (.int v)) hx9) : ∀ (h : jH), jJ jSgX Dy h → jSm fp_X6_byWedding_r120_c1d h0 h → d_X6_byWedding_r120_c1d_100138  (vw h) = dr → jX m_X6_byWedding 19 0 0 138 [] [.int (-1)] h 0 0 Q := by
  intro  h    J Sm D
  unfold d_X6_byWedding_r120_c1d_100138 at D
  refine x_iret rfl rfl ?_
  exact hQ _ _ (jr_of jk_m1 (by omega)) J Sm ((congrArg Prod.fst D).symm.trans (show (-1) = ((-1) : Int32).toInt from by have := jk_m1; omega)) (congrArg Prod.snd D).symm
set_option maxRecDepth 100000 in
set_option maxHeartbeats 4000000 in
theorem ct_X6_byWedding_r120_c1d_115 {Dy : jH → Prop} {h0 : jH} {Q : Option Value → jH → Prop} {dr : (Int × jW)} (hD : jDk Dy) (hQ : ∀ (v : Int32) hx9, (-1) ≤ v.toInt ∧ v.toInt ≤ 11 → jJ jSgX Dy hx9 → jSm fp_X6_byWedding_r120_c1d h0 hx9 → dr.1 = v.toInt → dr.2 = vw hx9 → Q (some (.int v)) hx9) : ∀ (h : jH), jJ jSgX Dy h → jSm fp_X6_byWedding_r120_c1d h0 h → d_X6_byWedding_r120_c1d_115  (vw h) = dr → jX m_X6_byWedding 19 0 0 115 [] [] h 0 0 Q := by
  intro  h    J Sm D
  unfold d_X6_byWedding_r120_c1d_115 at D
  refine x_iconst (v := (-1)) rfl ki_m1 ?_
  refine x_goto (tgt := 138) rfl rfl ?_
  exact jX.sub jsb_n (ct_X6_byWedding_r120_c1d_100138 hD hQ  h J Sm D)
set_option maxRecDepth 100000 in
set_option maxHeartbeats 4000000 in
theorem ct_X6_byWedding_r120_c1d_103 {Dy : jH → Prop} {h0 : jH} {Q : Option Value → jH → Prop} {dr : (Int × jW)} (hD : jDk Dy) (hQ : ∀ (v : Int32) hx9, (-1) ≤ v.toInt ∧ v.toInt ≤ 11 → jJ jSgX Dy hx9 → jSm fp_X6_byWedding_r120_c1d h0 hx9 → dr.1 = v.toInt → dr.2 = vw hx9 → Q (some (.int v)) hx9) : ∀ (l2 : Int32) (l5 : Int32) (h : jH), 0 ≤ l2.toInt ∧ l2.toInt ≤ 146399 → (-1) ≤ l5.toInt ∧ l5.toInt ≤ 599 → jJ jSgX Dy h → jSm fp_X6_byWedding_r120_c1d h0 h → d_X6_byWedding_r120_c1d_103  l2.toInt l5.toInt (vw h) = dr → jX m_X6_byWedding 19 0 0 103 [(0, .ref 120), (2, .int l2), (3, .int 1), (5, .int l5)] [] h 0 0 Q := by
  intro l2 l5 h y0 y1   J Sm D
  unfold d_X6_byWedding_r120_c1d_103 at D
  refine x_iload (x := l5) rfl rfl ?_
  refine x_iconst (v := (-1)) rfl ki_m1 ?_
  refine x_iceq (tgt := 115) rfl rfl (ti_eq rfl jk_m1 ⟨fun c1 => ?_, fun c1 => ?_⟩)
  ·
    rw [if_pos (by omega)] at D
    exact jX.sub jsb_n (ct_X6_byWedding_r120_c1d_115 hD hQ  h J Sm D)
  ·
    rw [if_neg (by omega)] at D
    refine x_iloadn (x := 1) rfl rfl ?_
    refine x_bipush (v := 6) rfl kb_6 ?_
    refine x_iclt (tgt := 119) rfl rfl (ti_lt jk_1 jk_6 (br_t (by omega) ?_))
    refine x_aloadn (x := 120) rfl rfl ?_
    refine x_aloadn (x := 120) rfl rfl ?_
    refine z_getR (N := 8) (b := 78) 6 1 rfl f_6_32 rfl J rfl 15361 ⟨rfl, rfl⟩ rfl ?_
    refine x_iload (x := l5) rfl rfl ?_
    refine x_iconst (v := 1) rfl ki_1 ?_
    refine z_isub rfl rfl jk_1 (by omega) (fun v2 ev2 => ?_)
    refine x_inv (N := m_X7_namedSoul) (As := [.int v2]) (b := 78) (st := [.ref 120]) (dx9 := 18) (mc := 0) (ms := 0) (host := "") 7 rfl t_X7_namedSoul ⟨Or.inl q_6_124, i_X7_namedSoul.1, i_X7_namedSoul.2⟩ ⟨by decide, rfl⟩ (congrArg Prod.fst (J.1.1 78 (7, 16) rfl)) rfl (by decide) rfl rfl ⟨by decide, by decide⟩ (jC.of rfl k_X7_namedSoul rfl ?_)
    show jX m_X7_namedSoul 18 0 0 0 [(0, .ref 78), (1, .int v2)] [] _ 0 0 _
    refine x_aloadn (x := 78) rfl rfl ?_
    refine z_getR (N := 16) (b := 70) 7 1 rfl f_7_59 rfl J rfl 9985 ⟨rfl, rfl⟩ rfl ?_
    refine x_iloadn (x := v2) rfl rfl ?_
    refine x_inv (N := m_X5_isNamed) (As := [.int v2]) (b := 70) (st := []) (dx9 := 17) (mc := 0) (ms := 0) (host := "") 5 rfl t_X5_isNamed ⟨Or.inl q_7_173, i_X5_isNamed.1, i_X5_isNamed.2⟩ ⟨by decide, rfl⟩ (congrArg Prod.fst (J.1.1 70 (5, 9) rfl)) rfl (by decide) rfl rfl ⟨by decide, by decide⟩ (jC.of rfl k_X5_isNamed rfl ?_)
    show jX m_X5_isNamed 17 0 0 0 [(0, .ref 70), (1, .int v2)] [] _ 0 0 _
    refine x_aloadn (x := 70) rfl rfl ?_
    refine x_iloadn (x := v2) rfl rfl ?_
    refine x_iconst (v := 0) rfl ki_0 ?_
    refine x_inv (N := m_X5_lengthOf) (As := [.int v2, .int 0]) (b := 70) (st := []) (dx9 := 16) (mc := 0) (ms := 0) (host := "") 5 rfl t_X5_lengthOf ⟨Or.inl q_5_133, i_X5_lengthOf.1, i_X5_lengthOf.2⟩ ⟨by decide, rfl⟩ (congrArg Prod.fst (J.1.1 70 (5, 9) rfl)) rfl (by decide) rfl rfl ⟨by decide, by decide⟩ (jC.of rfl k_X5_lengthOf rfl ?_)
    show jX m_X5_lengthOf 16 0 0 0 [(0, .ref 70), (1, .int v2), (2, .int 0)] [] _ 0 0 _
    refine x_iloadn (x := v2) rfl rfl ?_
    refine x_iconst (v := 2) rfl ki_2 ?_
    refine z_imul rfl rfl jk_2 (by omega) (fun v3 ev3 => ?_)
    refine x_iloadn (x := 0) rfl rfl ?_
    refine z_iadd rfl rfl jk_0 (by omega) (fun v4 ev4 => ?_)
    refine x_istoren (lsx9 := [(3, .int v4), (0, .ref 70), (1, .int v2), (2, .int 0)]) rfl rfl rfl ?_
    refine x_iloadn (x := v4) rfl rfl ?_
    refine x_iflt (tgt := 26) rfl rfl (ti_lt rfl jk_0 ⟨fun c5 => ?_, fun c5 => ?_⟩)
    ·
      rw [if_pos (by omega)] at D
      refine x_iconst (v := (-1)) rfl ki_m1 ?_
      refine x_iret rfl rfl ?_
      show jX m_X5_isNamed 17 0 0 6 [(0, .ref 70), (1, .int v2)] [.int (-1)] _ 0 0 _
      refine x_ifge (tgt := 18) rfl rfl (ti_ge jk_m1 jk_0 (br_f (by omega) ?_))
      refine x_aloadn (x := 70) rfl rfl ?_
      refine x_iloadn (x := v2) rfl rfl ?_
      refine x_iconst (v := 1) rfl ki_1 ?_
      refine x_inv (N := m_X5_lengthOf) (As := [.int v2, .int 1]) (b := 70) (st := []) (dx9 := 16) (mc := 0) (ms := 0) (host := "") 5 rfl t_X5_lengthOf ⟨Or.inl q_5_133, i_X5_lengthOf.1, i_X5_lengthOf.2⟩ ⟨by decide, rfl⟩ (congrArg Prod.fst (J.1.1 70 (5, 9) rfl)) rfl (by decide) rfl rfl ⟨by decide, by decide⟩ (jC.of rfl k_X5_lengthOf rfl ?_)
      show jX m_X5_lengthOf 16 0 0 0 [(0, .ref 70), (1, .int v2), (2, .int 1)] [] _ 0 0 _
      refine x_iloadn (x := v2) rfl rfl ?_
      refine x_iconst (v := 2) rfl ki_2 ?_
      refine z_imul rfl rfl jk_2 (by omega) (fun v6 ev6 => ?_)
      refine x_iloadn (x := 1) rfl rfl ?_
      refine z_iadd rfl rfl jk_1 (by omega) (fun v7 ev7 => ?_)
      refine x_istoren (lsx9 := [(3, .int v7), (0, .ref 70), (1, .int v2), (2, .int 1)]) rfl rfl rfl ?_
      refine x_iloadn (x := v7) rfl rfl ?_
      refine x_iflt (tgt := 26) rfl rfl (ti_lt rfl jk_0 ⟨fun c8 => ?_, fun c8 => ?_⟩)
      ·
        rw [if_pos (by omega)] at D
        refine x_iconst (v := (-1)) rfl ki_m1 ?_
        refine x_iret rfl rfl ?_
        show jX m_X5_isNamed 17 0 0 15 [(0, .ref 70), (1, .int v2)] [.int (-1)] _ 0 0 _
        refine x_iflt (tgt := 22) rfl rfl (ti_lt jk_m1 jk_0 (br_t (by omega) ?_))
        refine x_iconst (v := 0) rfl ki_0 ?_
        refine x_zret rfl rfl (by decide) ?_
        show jX m_X7_namedSoul 18 0 0 8 [(0, .ref 78), (1, .int v2)] [.int 0] _ 0 0 _
        refine x_ifeq (tgt := 19) rfl rfl (ti_eq jk_0 jk_0 (br_t (by omega) ?_))
        refine x_iconst (v := (-1)) rfl ki_m1 ?_
        refine x_iret rfl rfl ?_
        show jX m_X6_byWedding 19 0 0 131 [(0, .ref 120), (2, .int l2), (3, .int 1), (5, .int l5)] [.int (-1), .ref 120] _ 0 0 _
        refine x_iloadn (x := l2) rfl rfl ?_
        refine x_iloadn (x := 1) rfl rfl ?_
        refine x_iconst (v := 1) rfl ki_1 ?_
        refine y_iadd (v := 2) rfl (by decide) ?_
        refine x_inv (N := m_X6_belongs) (As := [.int (-1), .int l2, .int 2]) (b := 120) (st := []) (dx9 := 18) (mc := 0) (ms := 0) (host := "") 6 rfl t_X6_belongs ⟨Or.inl q_6_127, i_X6_belongs.1, i_X6_belongs.2⟩ ⟨by decide, rfl⟩ (congrArg Prod.fst (J.1.1 120 (6, 8) rfl)) rfl (by decide) rfl rfl ⟨by decide, by decide⟩ (sf_X6_belongs_r120_c2d (jr_of jk_m1 (by omega)) (jr_of rfl (by omega)) hD J rfl  (fun v12 h ev12 J S9 X10 X11 => ?_))
        have Sm := jSm_tr rfl Sm S9
        try rw [jk_m1] at X10
        try rw [jk_m1] at X11
        try rw [X10] at D
        try rw [X11] at D
        show jX m_X6_byWedding 19 0 0 138 [(0, .ref 120), (2, .int l2), (3, .int 1), (5, .int l5)] [.int v12] _ 0 0 _
        exact jX.sub jsb_n (ct_X6_byWedding_r120_c1d_138 hD hQ  v12 h (jr_of rfl (by omega)) J Sm D)
      ·
        rw [if_neg (by omega)] at D
        refine x_iloadn (x := v7) rfl rfl ?_
        refine x_sipush (v := 1200) rfl ks_1200 ?_
        refine x_icge (tgt := 26) rfl rfl (ti_ge rfl jk_1200 (br_f (by omega) ?_))
        refine x_aloadn (x := 70) rfl rfl ?_
        refine z_getR (N := 9) (b := 76) 5 7 rfl f_5_28 rfl J rfl 8967 ⟨rfl, rfl⟩ rfl ?_
        refine x_iloadn (x := v7) rfl rfl ?_
        refine z_iald (N := 1200) rfl J rfl sg_76_0_1200_1_0_1 rfl (by omega) (fun v13 qv13 ev13 => ?_)
        try rw [vrd qv13 (show (((l5.toInt - 1) * 2) + 1) = v7.toInt from by omega)] at D
        refine x_goto (tgt := 27) rfl rfl ?_
        refine x_iret rfl rfl ?_
        show jX m_X5_isNamed 17 0 0 15 [(0, .ref 70), (1, .int v2)] [.int v13] _ 0 0 _
        refine x_iflt (tgt := 22) rfl rfl (ti_lt rfl jk_0 ⟨fun c14 => ?_, fun c14 => ?_⟩)
        ·
          rw [if_pos (by omega)] at D
          refine x_iconst (v := 0) rfl ki_0 ?_
          refine x_zret rfl rfl (by decide) ?_
          show jX m_X7_namedSoul 18 0 0 8 [(0, .ref 78), (1, .int v2)] [.int 0] _ 0 0 _
          refine x_ifeq (tgt := 19) rfl rfl (ti_eq jk_0 jk_0 (br_t (by omega) ?_))
          refine x_iconst (v := (-1)) rfl ki_m1 ?_
          refine x_iret rfl rfl ?_
          show jX m_X6_byWedding 19 0 0 131 [(0, .ref 120), (2, .int l2), (3, .int 1), (5, .int l5)] [.int (-1), .ref 120] _ 0 0 _
          refine x_iloadn (x := l2) rfl rfl ?_
          refine x_iloadn (x := 1) rfl rfl ?_
          refine x_iconst (v := 1) rfl ki_1 ?_
          refine y_iadd (v := 2) rfl (by decide) ?_
          refine x_inv (N := m_X6_belongs) (As := [.int (-1), .int l2, .int 2]) (b := 120) (st := []) (dx9 := 18) (mc := 0) (ms := 0) (host := "") 6 rfl t_X6_belongs ⟨Or.inl q_6_127, i_X6_belongs.1, i_X6_belongs.2⟩ ⟨by decide, rfl⟩ (congrArg Prod.fst (J.1.1 120 (6, 8) rfl)) rfl (by decide) rfl rfl ⟨by decide, by decide⟩ (sf_X6_belongs_r120_c2d (jr_of jk_m1 (by omega)) (jr_of rfl (by omega)) hD J rfl  (fun v18 h ev18 J S15 X16 X17 => ?_))
          have Sm := jSm_tr rfl Sm S15
          try rw [jk_m1] at X16
          try rw [jk_m1] at X17
          try rw [X16] at D
          try rw [X17] at D
          show jX m_X6_byWedding 19 0 0 138 [(0, .ref 120), (2, .int l2), (3, .int 1), (5, .int l5)] [.int v18] _ 0 0 _
          exact jX.sub jsb_n (ct_X6_byWedding_r120_c1d_138 hD hQ  v18 h (jr_of rfl (by omega)) J Sm D)
        ·
          rw [if_neg (by omega)] at D
          refine x_iconst (v := 1) rfl ki_1 ?_
          refine x_goto (tgt := 23) rfl rfl ?_
          refine x_zret rfl rfl (by decide) ?_
          show jX m_X7_namedSoul 18 0 0 8 [(0, .ref 78), (1, .int v2)] [.int 1] _ 0 0 _
          refine x_ifeq (tgt := 19) rfl rfl (ti_eq jk_1 jk_0 (br_f (by omega) ?_))
          refine x_aloadn (x := 78) rfl rfl ?_
          refine x_iloadn (x := v2) rfl rfl ?_
          refine x_inv (N := m_X7_soulAt) (As := [.int v2]) (b := 78) (st := []) (dx9 := 17) (mc := 0) (ms := 0) (host := "") 7 rfl t_X7_soulAt ⟨Or.inl q_7_153, i_X7_soulAt.1, i_X7_soulAt.2⟩ ⟨by decide, rfl⟩ (congrArg Prod.fst (J.1.1 78 (7, 16) rfl)) rfl (by decide) rfl rfl ⟨by decide, by decide⟩ (jC.of rfl k_X7_soulAt rfl ?_)
          show jX m_X7_soulAt 17 0 0 0 [(0, .ref 78), (1, .int v2)] [] _ 0 0 _
          refine x_iloadn (x := v2) rfl rfl ?_
          refine x_iflt (tgt := 36) rfl rfl (ti_lt rfl jk_0 ⟨fun c19 => ?_, fun c19 => ?_⟩)
          ·
            rw [if_pos (by omega)] at D
            refine x_iconst (v := (-1)) rfl ki_m1 ?_
            refine x_iret rfl rfl ?_
            show jX m_X7_namedSoul 18 0 0 16 [(0, .ref 78), (1, .int v2)] [.int (-1)] _ 0 0 _
            refine x_goto (tgt := 20) rfl rfl ?_
            refine x_iret rfl rfl ?_
            show jX m_X6_byWedding 19 0 0 131 [(0, .ref 120), (2, .int l2), (3, .int 1), (5, .int l5)] [.int (-1), .ref 120] _ 0 0 _
            refine x_iloadn (x := l2) rfl rfl ?_
            refine x_iloadn (x := 1) rfl rfl ?_
            refine x_iconst (v := 1) rfl ki_1 ?_
            refine y_iadd (v := 2) rfl (by decide) ?_
            refine x_inv (N := m_X6_belongs) (As := [.int (-1), .int l2, .int 2]) (b := 120) (st := []) (dx9 := 18) (mc := 0) (ms := 0) (host := "") 6 rfl t_X6_belongs ⟨Or.inl q_6_127, i_X6_belongs.1, i_X6_belongs.2⟩ ⟨by decide, rfl⟩ (congrArg Prod.fst (J.1.1 120 (6, 8) rfl)) rfl (by decide) rfl rfl ⟨by decide, by decide⟩ (sf_X6_belongs_r120_c2d (jr_of jk_m1 (by omega)) (jr_of rfl (by omega)) hD J rfl  (fun v23 h ev23 J S20 X21 X22 => ?_))
            have Sm := jSm_tr rfl Sm S20
            try rw [jk_m1] at X21
            try rw [jk_m1] at X22
            try rw [X21] at D
            try rw [X22] at D
            show jX m_X6_byWedding 19 0 0 138 [(0, .ref 120), (2, .int l2), (3, .int 1), (5, .int l5)] [.int v23] _ 0 0 _
            exact jX.sub jsb_n (ct_X6_byWedding_r120_c1d_138 hD hQ  v23 h (jr_of rfl (by omega)) J Sm D)
          ·
            rw [if_neg (by omega)] at D
            refine x_iloadn (x := v2) rfl rfl ?_
            refine x_sipush (v := 600) rfl ks_600 ?_
            refine x_icge (tgt := 36) rfl rfl (ti_ge rfl jk_600 (br_f (by omega) ?_))
            refine x_iloadn (x := v2) rfl rfl ?_
            refine x_iconst (v := 3) rfl ki_3 ?_
            refine z_idiv rfl rfl jk_3 (by omega) (by omega) (fun v24 ev24 => ?_)
            refine x_aloadn (x := 78) rfl rfl ?_
            refine z_getR (N := 16) (b := 32) 7 0 rfl f_7_55 rfl J rfl 9984 ⟨rfl, rfl⟩ rfl ?_
            refine z_getR (N := 20) (b := 33) 1 0 rfl f_7_63 rfl J rfl 4096 ⟨rfl, rfl⟩ rfl ?_
            refine z_getI (N := 4) 8 3 rfl f_7_85 rfl J rfl sg_33_3_4_1_0_1 (fun v25 qv25 ev25 => ?_)
            try rw [vrf qv25] at D
            refine x_icge (tgt := 36) rfl rfl (ti_ge rfl rfl ⟨fun c26 => ?_, fun c26 => ?_⟩)
            ·
              rw [if_pos (by omega)] at D
              refine x_iconst (v := (-1)) rfl ki_m1 ?_
              refine x_iret rfl rfl ?_
              show jX m_X7_namedSoul 18 0 0 16 [(0, .ref 78), (1, .int v2)] [.int (-1)] _ 0 0 _
              refine x_goto (tgt := 20) rfl rfl ?_
              refine x_iret rfl rfl ?_
              show jX m_X6_byWedding 19 0 0 131 [(0, .ref 120), (2, .int l2), (3, .int 1), (5, .int l5)] [.int (-1), .ref 120] _ 0 0 _
              refine x_iloadn (x := l2) rfl rfl ?_
              refine x_iloadn (x := 1) rfl rfl ?_
              refine x_iconst (v := 1) rfl ki_1 ?_
              refine y_iadd (v := 2) rfl (by decide) ?_
              refine x_inv (N := m_X6_belongs) (As := [.int (-1), .int l2, .int 2]) (b := 120) (st := []) (dx9 := 18) (mc := 0) (ms := 0) (host := "") 6 rfl t_X6_belongs ⟨Or.inl q_6_127, i_X6_belongs.1, i_X6_belongs.2⟩ ⟨by decide, rfl⟩ (congrArg Prod.fst (J.1.1 120 (6, 8) rfl)) rfl (by decide) rfl rfl ⟨by decide, by decide⟩ (sf_X6_belongs_r120_c2d (jr_of jk_m1 (by omega)) (jr_of rfl (by omega)) hD J rfl  (fun v30 h ev30 J S27 X28 X29 => ?_))
              have Sm := jSm_tr rfl Sm S27
              try rw [jk_m1] at X28
              try rw [jk_m1] at X29
              try rw [X28] at D
              try rw [X29] at D
              show jX m_X6_byWedding 19 0 0 138 [(0, .ref 120), (2, .int l2), (3, .int 1), (5, .int l5)] [.int v30] _ 0 0 _
              exact jX.sub jsb_n (ct_X6_byWedding_r120_c1d_138 hD hQ  v30 h (jr_of rfl (by omega)) J Sm D)
            ·
              rw [if_neg (by omega)] at D
              refine x_aloadn (x := 78) rfl rfl ?_
              refine z_getR (N := 16) (b := 82) 7 10 rfl f_7_37 rfl J rfl 9994 ⟨rfl, rfl⟩ rfl ?_
              refine x_iloadn (x := v2) rfl rfl ?_
              refine z_iald (N := 600) rfl J rfl sg_82_0_600_1_0_1 rfl (by omega) (fun v31 qv31 ev31 => ?_)
              try rw [vrd qv31 (show (l5.toInt - 1) = v2.toInt from by omega)] at D
              refine x_goto (tgt := 37) rfl rfl ?_
              refine x_iret rfl rfl ?_
              show jX m_X7_namedSoul 18 0 0 16 [(0, .ref 78), (1, .int v2)] [.int v31] _ 0 0 _
              refine x_goto (tgt := 20) rfl rfl ?_
              refine x_iret rfl rfl ?_
              show jX m_X6_byWedding 19 0 0 131 [(0, .ref 120), (2, .int l2), (3, .int 1), (5, .int l5)] [.int v31, .ref 120] _ 0 0 _
              refine x_iloadn (x := l2) rfl rfl ?_
              refine x_iloadn (x := 1) rfl rfl ?_
              refine x_iconst (v := 1) rfl ki_1 ?_
              refine y_iadd (v := 2) rfl (by decide) ?_
              refine x_inv (N := m_X6_belongs) (As := [.int v31, .int l2, .int 2]) (b := 120) (st := []) (dx9 := 18) (mc := 0) (ms := 0) (host := "") 6 rfl t_X6_belongs ⟨Or.inl q_6_127, i_X6_belongs.1, i_X6_belongs.2⟩ ⟨by decide, rfl⟩ (congrArg Prod.fst (J.1.1 120 (6, 8) rfl)) rfl (by decide) rfl rfl ⟨by decide, by decide⟩ (sf_X6_belongs_r120_c2d (jr_of rfl (by omega)) (jr_of rfl (by omega)) hD J rfl  (fun v35 h ev35 J S32 X33 X34 => ?_))
              have Sm := jSm_tr rfl Sm S32
              try rw [X33] at D
              try rw [X34] at D
              show jX m_X6_byWedding 19 0 0 138 [(0, .ref 120), (2, .int l2), (3, .int 1), (5, .int l5)] [.int v35] _ 0 0 _
              exact jX.sub jsb_n (ct_X6_byWedding_r120_c1d_138 hD hQ  v35 h (jr_of rfl (by omega)) J Sm D)
    ·
      rw [if_neg (by omega)] at D
      refine x_iloadn (x := v4) rfl rfl ?_
      refine x_sipush (v := 1200) rfl ks_1200 ?_
      refine x_icge (tgt := 26) rfl rfl (ti_ge rfl jk_1200 (br_f (by omega) ?_))
      refine x_aloadn (x := 70) rfl rfl ?_
      refine z_getR (N := 9) (b := 76) 5 7 rfl f_5_28 rfl J rfl 8967 ⟨rfl, rfl⟩ rfl ?_
      refine x_iloadn (x := v4) rfl rfl ?_
      refine z_iald (N := 1200) rfl J rfl sg_76_0_1200_1_0_1 rfl (by omega) (fun v36 qv36 ev36 => ?_)
      try rw [vrd qv36 (show (((l5.toInt - 1) * 2) + 0) = v4.toInt from by omega)] at D
      refine x_goto (tgt := 27) rfl rfl ?_
      refine x_iret rfl rfl ?_
      show jX m_X5_isNamed 17 0 0 6 [(0, .ref 70), (1, .int v2)] [.int v36] _ 0 0 _
      refine x_ifge (tgt := 18) rfl rfl (ti_ge rfl jk_0 ⟨fun c37 => ?_, fun c37 => ?_⟩)
      ·
        rw [if_pos (by omega)] at D
        refine x_iconst (v := 1) rfl ki_1 ?_
        refine x_goto (tgt := 23) rfl rfl ?_
        refine x_zret rfl rfl (by decide) ?_
        show jX m_X7_namedSoul 18 0 0 8 [(0, .ref 78), (1, .int v2)] [.int 1] _ 0 0 _
        refine x_ifeq (tgt := 19) rfl rfl (ti_eq jk_1 jk_0 (br_f (by omega) ?_))
        refine x_aloadn (x := 78) rfl rfl ?_
        refine x_iloadn (x := v2) rfl rfl ?_
        refine x_inv (N := m_X7_soulAt) (As := [.int v2]) (b := 78) (st := []) (dx9 := 17) (mc := 0) (ms := 0) (host := "") 7 rfl t_X7_soulAt ⟨Or.inl q_7_153, i_X7_soulAt.1, i_X7_soulAt.2⟩ ⟨by decide, rfl⟩ (congrArg Prod.fst (J.1.1 78 (7, 16) rfl)) rfl (by decide) rfl rfl ⟨by decide, by decide⟩ (jC.of rfl k_X7_soulAt rfl ?_)
        show jX m_X7_soulAt 17 0 0 0 [(0, .ref 78), (1, .int v2)] [] _ 0 0 _
        refine x_iloadn (x := v2) rfl rfl ?_
        refine x_iflt (tgt := 36) rfl rfl (ti_lt rfl jk_0 ⟨fun c38 => ?_, fun c38 => ?_⟩)
        ·
          rw [if_pos (by omega)] at D
          refine x_iconst (v := (-1)) rfl ki_m1 ?_
          refine x_iret rfl rfl ?_
          show jX m_X7_namedSoul 18 0 0 16 [(0, .ref 78), (1, .int v2)] [.int (-1)] _ 0 0 _
          refine x_goto (tgt := 20) rfl rfl ?_
          refine x_iret rfl rfl ?_
          show jX m_X6_byWedding 19 0 0 131 [(0, .ref 120), (2, .int l2), (3, .int 1), (5, .int l5)] [.int (-1), .ref 120] _ 0 0 _
          refine x_iloadn (x := l2) rfl rfl ?_
          refine x_iloadn (x := 1) rfl rfl ?_
          refine x_iconst (v := 1) rfl ki_1 ?_
          refine y_iadd (v := 2) rfl (by decide) ?_
          refine x_inv (N := m_X6_belongs) (As := [.int (-1), .int l2, .int 2]) (b := 120) (st := []) (dx9 := 18) (mc := 0) (ms := 0) (host := "") 6 rfl t_X6_belongs ⟨Or.inl q_6_127, i_X6_belongs.1, i_X6_belongs.2⟩ ⟨by decide, rfl⟩ (congrArg Prod.fst (J.1.1 120 (6, 8) rfl)) rfl (by decide) rfl rfl ⟨by decide, by decide⟩ (sf_X6_belongs_r120_c2d (jr_of jk_m1 (by omega)) (jr_of rfl (by omega)) hD J rfl  (fun v42 h ev42 J S39 X40 X41 => ?_))
          have Sm := jSm_tr rfl Sm S39
          try rw [jk_m1] at X40
          try rw [jk_m1] at X41
          try rw [X40] at D
          try rw [X41] at D
          show jX m_X6_byWedding 19 0 0 138 [(0, .ref 120), (2, .int l2), (3, .int 1), (5, .int l5)] [.int v42] _ 0 0 _
          exact jX.sub jsb_n (ct_X6_byWedding_r120_c1d_138 hD hQ  v42 h (jr_of rfl (by omega)) J Sm D)
        ·
          rw [if_neg (by omega)] at D
          refine x_iloadn (x := v2) rfl rfl ?_
          refine x_sipush (v := 600) rfl ks_600 ?_
          refine x_icge (tgt := 36) rfl rfl (ti_ge rfl jk_600 (br_f (by omega) ?_))
          refine x_iloadn (x := v2) rfl rfl ?_
          refine x_iconst (v := 3) rfl ki_3 ?_
          refine z_idiv rfl rfl jk_3 (by omega) (by omega) (fun v43 ev43 => ?_)
          refine x_aloadn (x := 78) rfl rfl ?_
          refine z_getR (N := 16) (b := 32) 7 0 rfl f_7_55 rfl J rfl 9984 ⟨rfl, rfl⟩ rfl ?_
          refine z_getR (N := 20) (b := 33) 1 0 rfl f_7_63 rfl J rfl 4096 ⟨rfl, rfl⟩ rfl ?_
          refine z_getI (N := 4) 8 3 rfl f_7_85 rfl J rfl sg_33_3_4_1_0_1 (fun v44 qv44 ev44 => ?_)
          try rw [vrf qv44] at D
          refine x_icge (tgt := 36) rfl rfl (ti_ge rfl rfl ⟨fun c45 => ?_, fun c45 => ?_⟩)
          ·
            rw [if_pos (by omega)] at D
            refine x_iconst (v := (-1)) rfl ki_m1 ?_
            refine x_iret rfl rfl ?_
            show jX m_X7_namedSoul 18 0 0 16 [(0, .ref 78), (1, .int v2)] [.int (-1)] _ 0 0 _
            refine x_goto (tgt := 20) rfl rfl ?_
            refine x_iret rfl rfl ?_
            show jX m_X6_byWedding 19 0 0 131 [(0, .ref 120), (2, .int l2), (3, .int 1), (5, .int l5)] [.int (-1), .ref 120] _ 0 0 _
            refine x_iloadn (x := l2) rfl rfl ?_
            refine x_iloadn (x := 1) rfl rfl ?_
            refine x_iconst (v := 1) rfl ki_1 ?_
            refine y_iadd (v := 2) rfl (by decide) ?_
            refine x_inv (N := m_X6_belongs) (As := [.int (-1), .int l2, .int 2]) (b := 120) (st := []) (dx9 := 18) (mc := 0) (ms := 0) (host := "") 6 rfl t_X6_belongs ⟨Or.inl q_6_127, i_X6_belongs.1, i_X6_belongs.2⟩ ⟨by decide, rfl⟩ (congrArg Prod.fst (J.1.1 120 (6, 8) rfl)) rfl (by decide) rfl rfl ⟨by decide, by decide⟩ (sf_X6_belongs_r120_c2d (jr_of jk_m1 (by omega)) (jr_of rfl (by omega)) hD J rfl  (fun v49 h ev49 J S46 X47 X48 => ?_))
            have Sm := jSm_tr rfl Sm S46
            try rw [jk_m1] at X47
            try rw [jk_m1] at X48
            try rw [X47] at D
            try rw [X48] at D
            show jX m_X6_byWedding 19 0 0 138 [(0, .ref 120), (2, .int l2), (3, .int 1), (5, .int l5)] [.int v49] _ 0 0 _
            exact jX.sub jsb_n (ct_X6_byWedding_r120_c1d_138 hD hQ  v49 h (jr_of rfl (by omega)) J Sm D)
          ·
            rw [if_neg (by omega)] at D
            refine x_aloadn (x := 78) rfl rfl ?_
            refine z_getR (N := 16) (b := 82) 7 10 rfl f_7_37 rfl J rfl 9994 ⟨rfl, rfl⟩ rfl ?_
            refine x_iloadn (x := v2) rfl rfl ?_
            refine z_iald (N := 600) rfl J rfl sg_82_0_600_1_0_1 rfl (by omega) (fun v50 qv50 ev50 => ?_)
            try rw [vrd qv50 (show (l5.toInt - 1) = v2.toInt from by omega)] at D
            refine x_goto (tgt := 37) rfl rfl ?_
            refine x_iret rfl rfl ?_
            show jX m_X7_namedSoul 18 0 0 16 [(0, .ref 78), (1, .int v2)] [.int v50] _ 0 0 _
            refine x_goto (tgt := 20) rfl rfl ?_
            refine x_iret rfl rfl ?_
            show jX m_X6_byWedding 19 0 0 131 [(0, .ref 120), (2, .int l2), (3, .int 1), (5, .int l5)] [.int v50, .ref 120] _ 0 0 _
            refine x_iloadn (x := l2) rfl rfl ?_
            refine x_iloadn (x := 1) rfl rfl ?_
            refine x_iconst (v := 1) rfl ki_1 ?_
            refine y_iadd (v := 2) rfl (by decide) ?_
            refine x_inv (N := m_X6_belongs) (As := [.int v50, .int l2, .int 2]) (b := 120) (st := []) (dx9 := 18) (mc := 0) (ms := 0) (host := "") 6 rfl t_X6_belongs ⟨Or.inl q_6_127, i_X6_belongs.1, i_X6_belongs.2⟩ ⟨by decide, rfl⟩ (congrArg Prod.fst (J.1.1 120 (6, 8) rfl)) rfl (by decide) rfl rfl ⟨by decide, by decide⟩ (sf_X6_belongs_r120_c2d (jr_of rfl (by omega)) (jr_of rfl (by omega)) hD J rfl  (fun v54 h ev54 J S51 X52 X53 => ?_))
            have Sm := jSm_tr rfl Sm S51
            try rw [X52] at D
            try rw [X53] at D
            show jX m_X6_byWedding 19 0 0 138 [(0, .ref 120), (2, .int l2), (3, .int 1), (5, .int l5)] [.int v54] _ 0 0 _
            exact jX.sub jsb_n (ct_X6_byWedding_r120_c1d_138 hD hQ  v54 h (jr_of rfl (by omega)) J Sm D)
      ·
        rw [if_neg (by omega)] at D
        refine x_aloadn (x := 70) rfl rfl ?_
        refine x_iloadn (x := v2) rfl rfl ?_
        refine x_iconst (v := 1) rfl ki_1 ?_
        refine x_inv (N := m_X5_lengthOf) (As := [.int v2, .int 1]) (b := 70) (st := []) (dx9 := 16) (mc := 0) (ms := 0) (host := "") 5 rfl t_X5_lengthOf ⟨Or.inl q_5_133, i_X5_lengthOf.1, i_X5_lengthOf.2⟩ ⟨by decide, rfl⟩ (congrArg Prod.fst (J.1.1 70 (5, 9) rfl)) rfl (by decide) rfl rfl ⟨by decide, by decide⟩ (jC.of rfl k_X5_lengthOf rfl ?_)
        show jX m_X5_lengthOf 16 0 0 0 [(0, .ref 70), (1, .int v2), (2, .int 1)] [] _ 0 0 _
        refine x_iloadn (x := v2) rfl rfl ?_
        refine x_iconst (v := 2) rfl ki_2 ?_
        refine z_imul rfl rfl jk_2 (by omega) (fun v55 ev55 => ?_)
        refine x_iloadn (x := 1) rfl rfl ?_
        refine z_iadd rfl rfl jk_1 (by omega) (fun v56 ev56 => ?_)
        refine x_istoren (lsx9 := [(3, .int v56), (0, .ref 70), (1, .int v2), (2, .int 1)]) rfl rfl rfl ?_
        refine x_iloadn (x := v56) rfl rfl ?_
        refine x_iflt (tgt := 26) rfl rfl (ti_lt rfl jk_0 ⟨fun c57 => ?_, fun c57 => ?_⟩)
        ·
          rw [if_pos (by omega)] at D
          refine x_iconst (v := (-1)) rfl ki_m1 ?_
          refine x_iret rfl rfl ?_
          show jX m_X5_isNamed 17 0 0 15 [(0, .ref 70), (1, .int v2)] [.int (-1)] _ 0 0 _
          refine x_iflt (tgt := 22) rfl rfl (ti_lt jk_m1 jk_0 (br_t (by omega) ?_))
          refine x_iconst (v := 0) rfl ki_0 ?_
          refine x_zret rfl rfl (by decide) ?_
          show jX m_X7_namedSoul 18 0 0 8 [(0, .ref 78), (1, .int v2)] [.int 0] _ 0 0 _
          refine x_ifeq (tgt := 19) rfl rfl (ti_eq jk_0 jk_0 (br_t (by omega) ?_))
          refine x_iconst (v := (-1)) rfl ki_m1 ?_
          refine x_iret rfl rfl ?_
          show jX m_X6_byWedding 19 0 0 131 [(0, .ref 120), (2, .int l2), (3, .int 1), (5, .int l5)] [.int (-1), .ref 120] _ 0 0 _
          refine x_iloadn (x := l2) rfl rfl ?_
          refine x_iloadn (x := 1) rfl rfl ?_
          refine x_iconst (v := 1) rfl ki_1 ?_
          refine y_iadd (v := 2) rfl (by decide) ?_
          refine x_inv (N := m_X6_belongs) (As := [.int (-1), .int l2, .int 2]) (b := 120) (st := []) (dx9 := 18) (mc := 0) (ms := 0) (host := "") 6 rfl t_X6_belongs ⟨Or.inl q_6_127, i_X6_belongs.1, i_X6_belongs.2⟩ ⟨by decide, rfl⟩ (congrArg Prod.fst (J.1.1 120 (6, 8) rfl)) rfl (by decide) rfl rfl ⟨by decide, by decide⟩ (sf_X6_belongs_r120_c2d (jr_of jk_m1 (by omega)) (jr_of rfl (by omega)) hD J rfl  (fun v61 h ev61 J S58 X59 X60 => ?_))
          have Sm := jSm_tr rfl Sm S58
          try rw [jk_m1] at X59
          try rw [jk_m1] at X60
          try rw [X59] at D
          try rw [X60] at D
          show jX m_X6_byWedding 19 0 0 138 [(0, .ref 120), (2, .int l2), (3, .int 1), (5, .int l5)] [.int v61] _ 0 0 _
          exact jX.sub jsb_n (ct_X6_byWedding_r120_c1d_138 hD hQ  v61 h (jr_of rfl (by omega)) J Sm D)
        ·
          rw [if_neg (by omega)] at D
          refine x_iloadn (x := v56) rfl rfl ?_
          refine x_sipush (v := 1200) rfl ks_1200 ?_
          refine x_icge (tgt := 26) rfl rfl (ti_ge rfl jk_1200 (br_f (by omega) ?_))
          refine x_aloadn (x := 70) rfl rfl ?_
          refine z_getR (N := 9) (b := 76) 5 7 rfl f_5_28 rfl J rfl 8967 ⟨rfl, rfl⟩ rfl ?_
          refine x_iloadn (x := v56) rfl rfl ?_
          refine z_iald (N := 1200) rfl J rfl sg_76_0_1200_1_0_1 rfl (by omega) (fun v62 qv62 ev62 => ?_)
          try rw [vrd qv62 (show (((l5.toInt - 1) * 2) + 1) = v56.toInt from by omega)] at D
          refine x_goto (tgt := 27) rfl rfl ?_
          refine x_iret rfl rfl ?_
          show jX m_X5_isNamed 17 0 0 15 [(0, .ref 70), (1, .int v2)] [.int v62] _ 0 0 _
          refine x_iflt (tgt := 22) rfl rfl (ti_lt rfl jk_0 ⟨fun c63 => ?_, fun c63 => ?_⟩)
          ·
            rw [if_pos (by omega)] at D
            refine x_iconst (v := 0) rfl ki_0 ?_
            refine x_zret rfl rfl (by decide) ?_
            show jX m_X7_namedSoul 18 0 0 8 [(0, .ref 78), (1, .int v2)] [.int 0] _ 0 0 _
            refine x_ifeq (tgt := 19) rfl rfl (ti_eq jk_0 jk_0 (br_t (by omega) ?_))
            refine x_iconst (v := (-1)) rfl ki_m1 ?_
            refine x_iret rfl rfl ?_
            show jX m_X6_byWedding 19 0 0 131 [(0, .ref 120), (2, .int l2), (3, .int 1), (5, .int l5)] [.int (-1), .ref 120] _ 0 0 _
            refine x_iloadn (x := l2) rfl rfl ?_
            refine x_iloadn (x := 1) rfl rfl ?_
            refine x_iconst (v := 1) rfl ki_1 ?_
            refine y_iadd (v := 2) rfl (by decide) ?_
            refine x_inv (N := m_X6_belongs) (As := [.int (-1), .int l2, .int 2]) (b := 120) (st := []) (dx9 := 18) (mc := 0) (ms := 0) (host := "") 6 rfl t_X6_belongs ⟨Or.inl q_6_127, i_X6_belongs.1, i_X6_belongs.2⟩ ⟨by decide, rfl⟩ (congrArg Prod.fst (J.1.1 120 (6, 8) rfl)) rfl (by decide) rfl rfl ⟨by decide, by decide⟩ (sf_X6_belongs_r120_c2d (jr_of jk_m1 (by omega)) (jr_of rfl (by omega)) hD J rfl  (fun v67 h ev67 J S64 X65 X66 => ?_))
            have Sm := jSm_tr rfl Sm S64
            try rw [jk_m1] at X65
            try rw [jk_m1] at X66
            try rw [X65] at D
            try rw [X66] at D
            show jX m_X6_byWedding 19 0 0 138 [(0, .ref 120), (2, .int l2), (3, .int 1), (5, .int l5)] [.int v67] _ 0 0 _
            exact jX.sub jsb_n (ct_X6_byWedding_r120_c1d_138 hD hQ  v67 h (jr_of rfl (by omega)) J Sm D)
          ·
            rw [if_neg (by omega)] at D
            refine x_iconst (v := 1) rfl ki_1 ?_
            refine x_goto (tgt := 23) rfl rfl ?_
            refine x_zret rfl rfl (by decide) ?_
            show jX m_X7_namedSoul 18 0 0 8 [(0, .ref 78), (1, .int v2)] [.int 1] _ 0 0 _
            refine x_ifeq (tgt := 19) rfl rfl (ti_eq jk_1 jk_0 (br_f (by omega) ?_))
            refine x_aloadn (x := 78) rfl rfl ?_
            refine x_iloadn (x := v2) rfl rfl ?_
            refine x_inv (N := m_X7_soulAt) (As := [.int v2]) (b := 78) (st := []) (dx9 := 17) (mc := 0) (ms := 0) (host := "") 7 rfl t_X7_soulAt ⟨Or.inl q_7_153, i_X7_soulAt.1, i_X7_soulAt.2⟩ ⟨by decide, rfl⟩ (congrArg Prod.fst (J.1.1 78 (7, 16) rfl)) rfl (by decide) rfl rfl ⟨by decide, by decide⟩ (jC.of rfl k_X7_soulAt rfl ?_)
            show jX m_X7_soulAt 17 0 0 0 [(0, .ref 78), (1, .int v2)] [] _ 0 0 _
            refine x_iloadn (x := v2) rfl rfl ?_
            refine x_iflt (tgt := 36) rfl rfl (ti_lt rfl jk_0 ⟨fun c68 => ?_, fun c68 => ?_⟩)
            ·
              rw [if_pos (by omega)] at D
              refine x_iconst (v := (-1)) rfl ki_m1 ?_
              refine x_iret rfl rfl ?_
              show jX m_X7_namedSoul 18 0 0 16 [(0, .ref 78), (1, .int v2)] [.int (-1)] _ 0 0 _
              refine x_goto (tgt := 20) rfl rfl ?_
              refine x_iret rfl rfl ?_
              show jX m_X6_byWedding 19 0 0 131 [(0, .ref 120), (2, .int l2), (3, .int 1), (5, .int l5)] [.int (-1), .ref 120] _ 0 0 _
              refine x_iloadn (x := l2) rfl rfl ?_
              refine x_iloadn (x := 1) rfl rfl ?_
              refine x_iconst (v := 1) rfl ki_1 ?_
              refine y_iadd (v := 2) rfl (by decide) ?_
              refine x_inv (N := m_X6_belongs) (As := [.int (-1), .int l2, .int 2]) (b := 120) (st := []) (dx9 := 18) (mc := 0) (ms := 0) (host := "") 6 rfl t_X6_belongs ⟨Or.inl q_6_127, i_X6_belongs.1, i_X6_belongs.2⟩ ⟨by decide, rfl⟩ (congrArg Prod.fst (J.1.1 120 (6, 8) rfl)) rfl (by decide) rfl rfl ⟨by decide, by decide⟩ (sf_X6_belongs_r120_c2d (jr_of jk_m1 (by omega)) (jr_of rfl (by omega)) hD J rfl  (fun v72 h ev72 J S69 X70 X71 => ?_))
              have Sm := jSm_tr rfl Sm S69
              try rw [jk_m1] at X70
              try rw [jk_m1] at X71
              try rw [X70] at D
              try rw [X71] at D
              show jX m_X6_byWedding 19 0 0 138 [(0, .ref 120), (2, .int l2), (3, .int 1), (5, .int l5)] [.int v72] _ 0 0 _
              exact jX.sub jsb_n (ct_X6_byWedding_r120_c1d_138 hD hQ  v72 h (jr_of rfl (by omega)) J Sm D)
            ·
              rw [if_neg (by omega)] at D
              refine x_iloadn (x := v2) rfl rfl ?_
              refine x_sipush (v := 600) rfl ks_600 ?_
              refine x_icge (tgt := 36) rfl rfl (ti_ge rfl jk_600 (br_f (by omega) ?_))
              refine x_iloadn (x := v2) rfl rfl ?_
              refine x_iconst (v := 3) rfl ki_3 ?_
              refine z_idiv rfl rfl jk_3 (by omega) (by omega) (fun v73 ev73 => ?_)
              refine x_aloadn (x := 78) rfl rfl ?_
              refine z_getR (N := 16) (b := 32) 7 0 rfl f_7_55 rfl J rfl 9984 ⟨rfl, rfl⟩ rfl ?_
              refine z_getR (N := 20) (b := 33) 1 0 rfl f_7_63 rfl J rfl 4096 ⟨rfl, rfl⟩ rfl ?_
              refine z_getI (N := 4) 8 3 rfl f_7_85 rfl J rfl sg_33_3_4_1_0_1 (fun v74 qv74 ev74 => ?_)
              try rw [vrf qv74] at D
              refine x_icge (tgt := 36) rfl rfl (ti_ge rfl rfl ⟨fun c75 => ?_, fun c75 => ?_⟩)
              ·
                rw [if_pos (by omega)] at D
                refine x_iconst (v := (-1)) rfl ki_m1 ?_
                refine x_iret rfl rfl ?_
                show jX m_X7_namedSoul 18 0 0 16 [(0, .ref 78), (1, .int v2)] [.int (-1)] _ 0 0 _
                refine x_goto (tgt := 20) rfl rfl ?_
                refine x_iret rfl rfl ?_
                show jX m_X6_byWedding 19 0 0 131 [(0, .ref 120), (2, .int l2), (3, .int 1), (5, .int l5)] [.int (-1), .ref 120] _ 0 0 _
                refine x_iloadn (x := l2) rfl rfl ?_
                refine x_iloadn (x := 1) rfl rfl ?_
                refine x_iconst (v := 1) rfl ki_1 ?_
                refine y_iadd (v := 2) rfl (by decide) ?_
                refine x_inv (N := m_X6_belongs) (As := [.int (-1), .int l2, .int 2]) (b := 120) (st := []) (dx9 := 18) (mc := 0) (ms := 0) (host := "") 6 rfl t_X6_belongs ⟨Or.inl q_6_127, i_X6_belongs.1, i_X6_belongs.2⟩ ⟨by decide, rfl⟩ (congrArg Prod.fst (J.1.1 120 (6, 8) rfl)) rfl (by decide) rfl rfl ⟨by decide, by decide⟩ (sf_X6_belongs_r120_c2d (jr_of jk_m1 (by omega)) (jr_of rfl (by omega)) hD J rfl  (fun v79 h ev79 J S76 X77 X78 => ?_))
                have Sm := jSm_tr rfl Sm S76
                try rw [jk_m1] at X77
                try rw [jk_m1] at X78
                try rw [X77] at D
                try rw [X78] at D
                show jX m_X6_byWedding 19 0 0 138 [(0, .ref 120), (2, .int l2), (3, .int 1), (5, .int l5)] [.int v79] _ 0 0 _
                exact jX.sub jsb_n (ct_X6_byWedding_r120_c1d_138 hD hQ  v79 h (jr_of rfl (by omega)) J Sm D)
              ·
                rw [if_neg (by omega)] at D
                refine x_aloadn (x := 78) rfl rfl ?_
                refine z_getR (N := 16) (b := 82) 7 10 rfl f_7_37 rfl J rfl 9994 ⟨rfl, rfl⟩ rfl ?_
                refine x_iloadn (x := v2) rfl rfl ?_
                refine z_iald (N := 600) rfl J rfl sg_82_0_600_1_0_1 rfl (by omega) (fun v80 qv80 ev80 => ?_)
                try rw [vrd qv80 (show (l5.toInt - 1) = v2.toInt from by omega)] at D
                refine x_goto (tgt := 37) rfl rfl ?_
                refine x_iret rfl rfl ?_
                show jX m_X7_namedSoul 18 0 0 16 [(0, .ref 78), (1, .int v2)] [.int v80] _ 0 0 _
                refine x_goto (tgt := 20) rfl rfl ?_
                refine x_iret rfl rfl ?_
                show jX m_X6_byWedding 19 0 0 131 [(0, .ref 120), (2, .int l2), (3, .int 1), (5, .int l5)] [.int v80, .ref 120] _ 0 0 _
                refine x_iloadn (x := l2) rfl rfl ?_
                refine x_iloadn (x := 1) rfl rfl ?_
                refine x_iconst (v := 1) rfl ki_1 ?_
                refine y_iadd (v := 2) rfl (by decide) ?_
                refine x_inv (N := m_X6_belongs) (As := [.int v80, .int l2, .int 2]) (b := 120) (st := []) (dx9 := 18) (mc := 0) (ms := 0) (host := "") 6 rfl t_X6_belongs ⟨Or.inl q_6_127, i_X6_belongs.1, i_X6_belongs.2⟩ ⟨by decide, rfl⟩ (congrArg Prod.fst (J.1.1 120 (6, 8) rfl)) rfl (by decide) rfl rfl ⟨by decide, by decide⟩ (sf_X6_belongs_r120_c2d (jr_of rfl (by omega)) (jr_of rfl (by omega)) hD J rfl  (fun v84 h ev84 J S81 X82 X83 => ?_))
                have Sm := jSm_tr rfl Sm S81
                try rw [X82] at D
                try rw [X83] at D
                show jX m_X6_byWedding 19 0 0 138 [(0, .ref 120), (2, .int l2), (3, .int 1), (5, .int l5)] [.int v84] _ 0 0 _
                exact jX.sub jsb_n (ct_X6_byWedding_r120_c1d_138 hD hQ  v84 h (jr_of rfl (by omega)) J Sm D)
set_option maxRecDepth 100000 in
set_option maxHeartbeats 4000000 in
theorem ct_X6_byWedding_r120_c1d_85 {Dy : jH → Prop} {h0 : jH} {Q : Option Value → jH → Prop} {dr : (Int × jW)} {K12 : Int → Int → Int → Int → Int → jW → (Int × jW)} {R12 : Int} (hD : jDk Dy) (hQ : ∀ (v : Int32) hx9, (-1) ≤ v.toInt ∧ v.toInt ≤ 11 → jJ jSgX Dy hx9 → jSm fp_X6_byWedding_r120_c1d h0 hx9 → dr.1 = v.toInt → dr.2 = vw hx9 → Q (some (.int v)) hx9) (k12 : ∀ (l2 : Int32) (l4 : Int32) (l5 : Int32) (l6 : Int32) (l7 : Int32) (h : jH), 600 - l7.toInt < R12 → 0 ≤ l2.toInt ∧ l2.toInt ≤ 146399 → (-1) ≤ l4.toInt ∧ l4.toInt ≤ 146399 → (-1) ≤ l5.toInt ∧ l5.toInt ≤ 599 → (-1) ≤ l6.toInt ∧ l6.toInt ≤ 599 → 0 ≤ l7.toInt ∧ l7.toInt ≤ 600 → jJ jSgX Dy h → jSm fp_X6_byWedding_r120_c1d h0 h → K12 l2.toInt l4.toInt l5.toInt l6.toInt l7.toInt (vw h) = dr → jX m_X6_byWedding 19 0 0 12 [(0, .ref 120), (2, .int l2), (3, .int 1), (4, .int l4), (5, .int l5), (6, .int l6), (7, .int l7)] [] h 0 0 Q) : ∀ (l2 : Int32) (l4 : Int32) (l5 : Int32) (l6 : Int32) (l7 : Int32) (h : jH), 0 ≤ l2.toInt ∧ l2.toInt ≤ 146399 → (-1) ≤ l4.toInt ∧ l4.toInt ≤ 146399 → (-1) ≤ l5.toInt ∧ l5.toInt ≤ 599 → 0 ≤ l6.toInt ∧ l6.toInt ≤ 599 → 0 ≤ l7.toInt ∧ l7.toInt ≤ 599 → 600 - l7.toInt ≤ R12 → jJ jSgX Dy h → jSm fp_X6_byWedding_r120_c1d h0 h → d_X6_byWedding_r120_c1d_85 K12  l2.toInt l4.toInt l5.toInt l6.toInt l7.toInt (vw h) = dr → jX m_X6_byWedding 19 0 0 85 [(0, .ref 120), (2, .int l2), (3, .int 1), (4, .int l4), (5, .int l5), (6, .int l6), (7, .int l7)] [] h 0 0 Q := by
  intro l2 l4 l5 l6 l7 h y0 y1 y2 y3 y4  m12 J Sm D
  unfold d_X6_byWedding_r120_c1d_85 at D
  refine x_aloadn (x := 120) rfl rfl ?_
  refine z_getR (N := 8) (b := 78) 6 1 rfl f_6_32 rfl J rfl 15361 ⟨rfl, rfl⟩ rfl ?_
  refine z_getR (N := 16) (b := 83) 7 11 rfl f_6_121 rfl J rfl 9995 ⟨rfl, rfl⟩ rfl ?_
  refine x_iload (x := l6) rfl rfl ?_
  refine z_iald (N := 600) rfl J rfl sg_83_0_600_1_0_1 rfl (by omega) (fun v1 qv1 ev1 => ?_)
  try rw [vrd qv1 (show l6.toInt = l6.toInt from by omega)] at D
  refine x_istore (lsx9 := [(6, .int v1), (0, .ref 120), (2, .int l2), (3, .int 1), (4, .int l4), (5, .int l5), (7, .int l7)]) rfl rfl rfl ?_
  refine z_iinc (x := l7) (lsx9 := fun v2 => [(7, .int v2), (6, .int v1), (0, .ref 120), (2, .int l2), (3, .int 1), (4, .int l4), (5, .int l5)]) rfl rfl rfl jko_1 (by omega) rfl (fun _ => rfl) (fun v2 ev2 => ?_)
  refine x_goto (tgt := 12) rfl rfl ?_
  try rw [show (l7.toInt + 1) = v2.toInt from by omega] at D
  exact jX.sub (jsb_c rfl (jsb_c rfl (jsb_c rfl (jsb_c rfl (jsb_c rfl (jsb_c rfl (jsb_c rfl jsb_n))))))) (k12 l2 l4 l5 v1 v2 h (by omega) (jr_of rfl (by omega)) (jr_of rfl (by omega)) (jr_of rfl (by omega)) (jr_of rfl (by omega)) (jr_of rfl (by omega)) J Sm D)
set_option maxRecDepth 100000 in
set_option maxHeartbeats 4000000 in
theorem ct_X6_byWedding_r120_c1d_12 {Dy : jH → Prop} {h0 : jH} {Q : Option Value → jH → Prop} {dr : (Int × jW)} (hD : jDk Dy) (hQ : ∀ (v : Int32) hx9, (-1) ≤ v.toInt ∧ v.toInt ≤ 11 → jJ jSgX Dy hx9 → jSm fp_X6_byWedding_r120_c1d h0 hx9 → dr.1 = v.toInt → dr.2 = vw hx9 → Q (some (.int v)) hx9) : ∀ r : Nat, ∀ (l2 : Int32) (l4 : Int32) (l5 : Int32) (l6 : Int32) (l7 : Int32) (h : jH), 600 - l7.toInt < (r : Int) → 0 ≤ l2.toInt ∧ l2.toInt ≤ 146399 → (-1) ≤ l4.toInt ∧ l4.toInt ≤ 146399 → (-1) ≤ l5.toInt ∧ l5.toInt ≤ 599 → (-1) ≤ l6.toInt ∧ l6.toInt ≤ 599 → 0 ≤ l7.toInt ∧ l7.toInt ≤ 600 → jJ jSgX Dy h → jSm fp_X6_byWedding_r120_c1d h0 h → d_X6_byWedding_r120_c1d_12 r l2.toInt l4.toInt l5.toInt l6.toInt l7.toInt (vw h) = dr → jX m_X6_byWedding 19 0 0 12 [(0, .ref 120), (2, .int l2), (3, .int 1), (4, .int l4), (5, .int l5), (6, .int l6), (7, .int l7)] [] h 0 0 Q := by
  intro r
  induction r with
  | zero =>
    intro l2 l4 l5 l6 l7 h hm y0 y1 y2 y3 y4   J Sm D
    exfalso
    omega
  | succ r ih =>
    intro l2 l4 l5 l6 l7 h hm y0 y1 y2 y3 y4   J Sm D
    rw [d_X6_byWedding_r120_c1d_12.eq_2] at D
    refine x_iload (x := l6) rfl rfl ?_
    refine x_iconst (v := (-1)) rfl ki_m1 ?_
    refine x_iceq (tgt := 103) rfl rfl (ti_eq rfl jk_m1 ⟨fun c1 => ?_, fun c1 => ?_⟩)
    ·
      rw [if_pos (by omega)] at D
      exact jX.sub (jsb_c rfl (jsb_c rfl (jsb_c rfl (jsb_c rfl jsb_n)))) (ct_X6_byWedding_r120_c1d_103 hD hQ  l2 l5 h (jr_of rfl (by omega)) (jr_of rfl (by omega)) J Sm D)
    ·
      rw [if_neg (by omega)] at D
      refine x_iload (x := l7) rfl rfl ?_
      refine x_sipush (v := 600) rfl ks_600 ?_
      refine x_icge (tgt := 103) rfl rfl (ti_ge rfl jk_600 ⟨fun c2 => ?_, fun c2 => ?_⟩)
      ·
        rw [if_pos (by omega)] at D
        exact jX.sub (jsb_c rfl (jsb_c rfl (jsb_c rfl (jsb_c rfl jsb_n)))) (ct_X6_byWedding_r120_c1d_103 hD hQ  l2 l5 h (jr_of rfl (by omega)) (jr_of rfl (by omega)) J Sm D)
      ·
        rw [if_neg (by omega)] at D
        refine x_aloadn (x := 120) rfl rfl ?_
        refine z_getR (N := 8) (b := 78) 6 1 rfl f_6_32 rfl J rfl 15361 ⟨rfl, rfl⟩ rfl ?_
        refine z_getR (N := 16) (b := 79) 7 7 rfl f_6_115 rfl J rfl 9991 ⟨rfl, rfl⟩ rfl ?_
        refine x_iload (x := l6) rfl rfl ?_
        refine z_iald (N := 600) rfl J rfl sg_79_0_600_1_0_1 rfl (by omega) (fun v3 qv3 ev3 => ?_)
        try rw [vrd qv3 (show l6.toInt = l6.toInt from by omega)] at D
        refine x_iconst (v := 4) rfl ki_4 ?_
        refine x_icne (tgt := 85) rfl rfl (ti_ne rfl jk_4 ⟨fun c4 => ?_, fun c4 => ?_⟩)
        ·
          rw [if_neg (by omega)] at D
          exact jX.sub (jsb_c rfl (jsb_c rfl (jsb_c rfl (jsb_c rfl (jsb_c rfl (jsb_c rfl (jsb_c rfl jsb_n))))))) (ct_X6_byWedding_r120_c1d_85 hD hQ ih l2 l4 l5 l6 l7 h (jr_of rfl (by omega)) (jr_of rfl (by omega)) (jr_of rfl (by omega)) (jr_of rfl (by omega)) (jr_of rfl (by omega)) (by omega) J Sm D)
        ·
          rw [if_pos (by omega)] at D
          refine x_aloadn (x := 120) rfl rfl ?_
          refine z_getR (N := 8) (b := 78) 6 1 rfl f_6_32 rfl J rfl 15361 ⟨rfl, rfl⟩ rfl ?_
          refine z_getR (N := 16) (b := 80) 7 8 rfl f_6_118 rfl J rfl 9992 ⟨rfl, rfl⟩ rfl ?_
          refine x_iload (x := l6) rfl rfl ?_
          refine z_iald (N := 600) rfl J rfl sg_80_0_600_1_0_1 rfl (by omega) (fun v5 qv5 ev5 => ?_)
          try rw [vrd qv5 (show l6.toInt = l6.toInt from by omega)] at D
          refine x_iloadn (x := l2) rfl rfl ?_
          refine x_icgt (tgt := 85) rfl rfl (ti_gt rfl rfl ⟨fun c6 => ?_, fun c6 => ?_⟩)
          ·
            rw [if_pos (by omega)] at D
            exact jX.sub (jsb_c rfl (jsb_c rfl (jsb_c rfl (jsb_c rfl (jsb_c rfl (jsb_c rfl (jsb_c rfl jsb_n))))))) (ct_X6_byWedding_r120_c1d_85 hD hQ ih l2 l4 l5 l6 l7 h (jr_of rfl (by omega)) (jr_of rfl (by omega)) (jr_of rfl (by omega)) (jr_of rfl (by omega)) (jr_of rfl (by omega)) (by omega) J Sm D)
          ·
            rw [if_neg (by omega)] at D
            refine x_aloadn (x := 120) rfl rfl ?_
            refine z_getR (N := 8) (b := 78) 6 1 rfl f_6_32 rfl J rfl 15361 ⟨rfl, rfl⟩ rfl ?_
            refine z_getR (N := 16) (b := 80) 7 8 rfl f_6_118 rfl J rfl 9992 ⟨rfl, rfl⟩ rfl ?_
            refine x_iload (x := l6) rfl rfl ?_
            refine z_ialdM (N := 600) (v := v5) rfl J rfl rfl (by omega) qv5 ?_
            refine x_iload (x := l4) rfl rfl ?_
            refine x_iclt (tgt := 85) rfl rfl (ti_lt rfl rfl ⟨fun c7 => ?_, fun c7 => ?_⟩)
            ·
              rw [if_pos (by omega)] at D
              exact jX.sub (jsb_c rfl (jsb_c rfl (jsb_c rfl (jsb_c rfl (jsb_c rfl (jsb_c rfl (jsb_c rfl jsb_n))))))) (ct_X6_byWedding_r120_c1d_85 hD hQ ih l2 l4 l5 l6 l7 h (jr_of rfl (by omega)) (jr_of rfl (by omega)) (jr_of rfl (by omega)) (jr_of rfl (by omega)) (jr_of rfl (by omega)) (by omega) J Sm D)
            ·
              rw [if_neg (by omega)] at D
              refine x_aloadn (x := 120) rfl rfl ?_
              refine z_getR (N := 8) (b := 78) 6 1 rfl f_6_32 rfl J rfl 15361 ⟨rfl, rfl⟩ rfl ?_
              refine z_getR (N := 16) (b := 80) 7 8 rfl f_6_118 rfl J rfl 9992 ⟨rfl, rfl⟩ rfl ?_
              refine x_iload (x := l6) rfl rfl ?_
              refine z_ialdM (N := 600) (v := v5) rfl J rfl rfl (by omega) qv5 ?_
              refine x_istore (lsx9 := [(4, .int v5), (0, .ref 120), (2, .int l2), (3, .int 1), (5, .int l5), (6, .int l6), (7, .int l7)]) rfl rfl rfl ?_
              refine x_iload (x := l6) rfl rfl ?_
              refine x_istore (lsx9 := [(5, .int l6), (4, .int v5), (0, .ref 120), (2, .int l2), (3, .int 1), (6, .int l6), (7, .int l7)]) rfl rfl rfl ?_
              exact jX.sub (jsb_c rfl (jsb_c rfl (jsb_c rfl (jsb_c rfl (jsb_c rfl (jsb_c rfl (jsb_c rfl jsb_n))))))) (ct_X6_byWedding_r120_c1d_85 hD hQ ih l2 v5 l6 l6 l7 h (jr_of rfl (by omega)) (jr_of rfl (by omega)) (jr_of rfl (by omega)) (jr_of rfl (by omega)) (jr_of rfl (by omega)) (by omega) J Sm D)
set_option maxRecDepth 100000 in
set_option maxHeartbeats 4000000 in
theorem sf_X6_byWedding_r120_c1d {Dy : jH → Prop} {h : jH} {Q : Option Value → jH → Prop} {dr : (Int × jW)} {a1 : Int32} {a2 : Int32} (y1 : 0 ≤ a1.toInt ∧ a1.toInt ≤ 599) (y2 : 0 ≤ a2.toInt ∧ a2.toInt ≤ 146399) (hD : jDk Dy) (J : jJ jSgX Dy h) (D : d_X6_byWedding_r120_c1d a1.toInt a2.toInt (vw h) = dr) (hQ : ∀ (v : Int32) hx9, (-1) ≤ v.toInt ∧ v.toInt ≤ 11 → jJ jSgX Dy hx9 → jSm fp_X6_byWedding_r120_c1d h hx9 → dr.1 = v.toInt → dr.2 = vw hx9 → Q (some (.int v)) hx9) : jC m_X6_byWedding 19 0 0 [.ref 120, .int a1, .int a2, .int 1] h Q := by
  refine jC.of rfl k_X6_byWedding rfl ?_
  have Sm := jSm_rf fp_X6_byWedding_r120_c1d h
  show jX m_X6_byWedding 19 0 0 0 [(0, .ref 120), (1, .int a1), (2, .int a2), (3, .int 1)] [] _ 0 0 _
  unfold d_X6_byWedding_r120_c1d at D
  refine x_iconst (v := (-1)) rfl ki_m1 ?_
  refine x_istore (lsx9 := [(4, .int (-1)), (0, .ref 120), (1, .int a1), (2, .int a2), (3, .int 1)]) rfl rfl rfl ?_
  refine x_iconst (v := (-1)) rfl ki_m1 ?_
  refine x_istore (lsx9 := [(5, .int (-1)), (4, .int (-1)), (0, .ref 120), (1, .int a1), (2, .int a2), (3, .int 1)]) rfl rfl rfl ?_
  refine x_iloadn (x := a1) rfl rfl ?_
  refine x_istore (lsx9 := [(6, .int a1), (5, .int (-1)), (4, .int (-1)), (0, .ref 120), (1, .int a1), (2, .int a2), (3, .int 1)]) rfl rfl rfl ?_
  refine x_iconst (v := 0) rfl ki_0 ?_
  refine x_istore (lsx9 := [(7, .int 0), (6, .int a1), (5, .int (-1)), (4, .int (-1)), (0, .ref 120), (1, .int a1), (2, .int a2), (3, .int 1)]) rfl rfl rfl ?_
  exact jX.sub (jsb_c rfl (jsb_c rfl (jsb_c rfl (jsb_c rfl (jsb_c rfl (jsb_c rfl (jsb_c rfl jsb_n))))))) (ct_X6_byWedding_r120_c1d_12 hD hQ  601 a2 (-1) (-1) a1 0 h (by have := jk_0; omega) (jr_of rfl (by omega)) (jr_of jk_m1 (by omega)) (jr_of jk_m1 (by omega)) (jr_of rfl (by omega)) (jr_of jk_0 (by omega)) J Sm (by rw [jk_m1, jk_0]; exact D))
def fp_X6_parishBy_r120_c1d : jFp := [(85, 0, 4), (98, 10, 11), (98, 11, 12), (98, 12, 13), (99, 0, 30), (100, 0, 30), (101, 0, 3), (102, 0, 40), (103, 0, 40), (104, 0, 40), (105, 0, 3), (106, 0, 100), (120, 6, 7), (120, 7, 8), (121, 0, 42), (122, 0, 42)]
set_option maxRecDepth 100000 in
set_option maxHeartbeats 4000000 in
theorem sf_X6_parishBy_r120_c1d {Dy : jH → Prop} {h : jH} {Q : Option Value → jH → Prop} {dr : (Int × jW)} {a1 : Int32} {a2 : Int32} {a3 : Int32} (y2 : 0 ≤ a2.toInt ∧ a2.toInt ≤ 599) (y3 : 0 ≤ a3.toInt ∧ a3.toInt ≤ 146399) (hD : jDk Dy) (J : jJ jSgX Dy h) (D : d_X6_parishBy_r120_c1d a1.toInt a2.toInt a3.toInt (vw h) = dr) (hQ : ∀ (v : Int32) hx9, (-1) ≤ v.toInt ∧ v.toInt ≤ 11 → jJ jSgX Dy hx9 → jSm fp_X6_parishBy_r120_c1d h hx9 → dr.1 = v.toInt → dr.2 = vw hx9 → Q (some (.int v)) hx9) : jC m_X6_parishBy 20 0 0 [.ref 120, .int a1, .int a2, .int a3, .int 1] h Q := by
  refine jC.of rfl k_X6_parishBy rfl ?_
  have Sm := jSm_rf fp_X6_parishBy_r120_c1d h
  have ea1 := jfull a1
  show jX m_X6_parishBy 20 0 0 0 [(0, .ref 120), (1, .int a1), (2, .int a2), (3, .int a3), (4, .int 1)] [] _ 0 0 _
  unfold d_X6_parishBy_r120_c1d at D
  refine x_iloadn (x := a1) rfl rfl ?_
  by_cases c1 : a1.toInt = 1
  ·
    refine x_tableIn (tgt := 65) 1 rfl c1 (by decide) (by decide) rfl rfl ?_
    rw [if_pos c1] at D
    refine x_aloadn (x := 120) rfl rfl ?_
    refine x_iloadn (x := a2) rfl rfl ?_
    refine x_iloadn (x := a1) rfl rfl ?_
    refine x_iconst (v := 2) rfl ki_2 ?_
    refine x_iloadn (x := a3) rfl rfl ?_
    refine x_inv (N := m_X6_byLatest) (As := [.int a2, .int a1, .int 2, .int a3]) (b := 120) (st := []) (dx9 := 3) (mc := 0) (ms := 0) (host := "") 6 rfl t_X6_byLatest ⟨Or.inl q_6_81, i_X6_byLatest.1, i_X6_byLatest.2⟩ ⟨by decide, rfl⟩ (congrArg Prod.fst (J.1.1 120 (6, 8) rfl)) rfl (by decide) rfl rfl ⟨by decide, by decide⟩ (sf_X6_byLatest_r120d (jr_of rfl (by omega)) (jr_of rfl (by omega)) (jr_of jk_2 (by omega)) (jr_of rfl (by omega)) hD J rfl  (fun v5 h ev5 J S2 X3 X4 => ?_))
    have Sm := jSm_tr rfl Sm S2
    try rw [jk_2] at X3
    try rw [X3] at D
    try rw [← X4] at D
    show jX m_X6_parishBy 20 0 0 73 [(0, .ref 120), (1, .int a1), (2, .int a2), (3, .int a3), (4, .int 1)] [.int v5] _ 0 0 _
    refine x_iret rfl rfl ?_
    exact hQ _ _ (jr_of rfl (by omega)) J Sm ((congrArg Prod.fst D).symm.trans (show v5.toInt = v5.toInt from by omega)) (congrArg Prod.snd D).symm
  rw [if_neg c1] at D
  by_cases c6 : a1.toInt = 2
  ·
    refine x_tableIn (tgt := 53) 2 rfl c6 (by decide) (by decide) rfl rfl ?_
    rw [if_pos c6] at D
    refine x_aloadn (x := 120) rfl rfl ?_
    refine x_iloadn (x := a2) rfl rfl ?_
    refine x_iconst (v := 2) rfl ki_2 ?_
    refine x_iconst (v := 1) rfl ki_1 ?_
    refine x_iloadn (x := a3) rfl rfl ?_
    refine x_bipush (v := 40) rfl kb_40 ?_
    refine z_isub rfl rfl jk_40 (by omega) (fun v7 ev7 => ?_)
    try rw [show (a3.toInt - 40) = v7.toInt from by omega] at D
    refine x_inv (N := m_X6_byLatest) (As := [.int a2, .int 2, .int 1, .int v7]) (b := 120) (st := []) (dx9 := 3) (mc := 0) (ms := 0) (host := "") 6 rfl t_X6_byLatest ⟨Or.inl q_6_81, i_X6_byLatest.1, i_X6_byLatest.2⟩ ⟨by decide, rfl⟩ (congrArg Prod.fst (J.1.1 120 (6, 8) rfl)) rfl (by decide) rfl rfl ⟨by decide, by decide⟩ (sf_X6_byLatest_r120d (jr_of rfl (by omega)) (jr_of jk_2 (by omega)) (jr_of jk_1 (by omega)) (jr_of rfl (by omega)) hD J rfl  (fun v11 h ev11 J S8 X9 X10 => ?_))
    have Sm := jSm_tr rfl Sm S8
    try rw [jk_2] at X9
    try rw [jk_1] at X9
    try rw [X9] at D
    try rw [← X10] at D
    show jX m_X6_parishBy 20 0 0 64 [(0, .ref 120), (1, .int a1), (2, .int a2), (3, .int a3), (4, .int 1)] [.int v11] _ 0 0 _
    refine x_iret rfl rfl ?_
    exact hQ _ _ (jr_of rfl (by omega)) J Sm ((congrArg Prod.fst D).symm.trans (show v11.toInt = v11.toInt from by omega)) (congrArg Prod.snd D).symm
  rw [if_neg c6] at D
  by_cases c12 : a1.toInt = 3
  ·
    refine x_tableIn (tgt := 65) 3 rfl c12 (by decide) (by decide) rfl rfl ?_
    rw [if_pos c12] at D
    refine x_aloadn (x := 120) rfl rfl ?_
    refine x_iloadn (x := a2) rfl rfl ?_
    refine x_iloadn (x := a1) rfl rfl ?_
    refine x_iconst (v := 2) rfl ki_2 ?_
    refine x_iloadn (x := a3) rfl rfl ?_
    refine x_inv (N := m_X6_byLatest) (As := [.int a2, .int a1, .int 2, .int a3]) (b := 120) (st := []) (dx9 := 3) (mc := 0) (ms := 0) (host := "") 6 rfl t_X6_byLatest ⟨Or.inl q_6_81, i_X6_byLatest.1, i_X6_byLatest.2⟩ ⟨by decide, rfl⟩ (congrArg Prod.fst (J.1.1 120 (6, 8) rfl)) rfl (by decide) rfl rfl ⟨by decide, by decide⟩ (sf_X6_byLatest_r120d (jr_of rfl (by omega)) (jr_of rfl (by omega)) (jr_of jk_2 (by omega)) (jr_of rfl (by omega)) hD J rfl  (fun v16 h ev16 J S13 X14 X15 => ?_))
    have Sm := jSm_tr rfl Sm S13
    try rw [jk_2] at X14
    try rw [X14] at D
    try rw [← X15] at D
    show jX m_X6_parishBy 20 0 0 73 [(0, .ref 120), (1, .int a1), (2, .int a2), (3, .int a3), (4, .int 1)] [.int v16] _ 0 0 _
    refine x_iret rfl rfl ?_
    exact hQ _ _ (jr_of rfl (by omega)) J Sm ((congrArg Prod.fst D).symm.trans (show v16.toInt = v16.toInt from by omega)) (congrArg Prod.snd D).symm
  rw [if_neg c12] at D
  by_cases c17 : a1.toInt = 4
  ·
    refine x_tableIn (tgt := 36) 4 rfl c17 (by decide) (by decide) rfl rfl ?_
    rw [if_pos c17] at D
    refine x_aloadn (x := 120) rfl rfl ?_
    refine x_iloadn (x := a2) rfl rfl ?_
    refine x_iloadn (x := a3) rfl rfl ?_
    refine x_iload (x := 1) rfl rfl ?_
    refine x_inv (N := m_X6_byWedding) (As := [.int a2, .int a3, .int 1]) (b := 120) (st := []) (dx9 := 19) (mc := 0) (ms := 0) (host := "") 6 rfl t_X6_byWedding ⟨Or.inl q_6_74, i_X6_byWedding.1, i_X6_byWedding.2⟩ ⟨by decide, rfl⟩ (congrArg Prod.fst (J.1.1 120 (6, 8) rfl)) rfl (by decide) rfl rfl ⟨by decide, by decide⟩ (sf_X6_byWedding_r120_c1d (jr_of rfl (by omega)) (jr_of rfl (by omega)) hD J rfl  (fun v21 h ev21 J S18 X19 X20 => ?_))
    have Sm := jSm_tr rfl Sm S18
    try rw [X19] at D
    try rw [X20] at D
    show jX m_X6_parishBy 20 0 0 44 [(0, .ref 120), (1, .int a1), (2, .int a2), (3, .int a3), (4, .int 1)] [.int v21] _ 0 0 _
    refine x_iret rfl rfl ?_
    exact hQ _ _ (jr_of rfl (by omega)) J Sm ((congrArg Prod.fst D).symm.trans X19) ((congrArg Prod.snd D).symm.trans X20)
  rw [if_neg c17] at D
  by_cases c22 : a1.toInt = 5
  ·
    refine x_tableIn (tgt := 45) 5 rfl c22 (by decide) (by decide) rfl rfl ?_
    rw [if_pos c22] at D
    refine x_aloadn (x := 120) rfl rfl ?_
    refine x_iloadn (x := a2) rfl rfl ?_
    refine x_iload (x := 1) rfl rfl ?_
    refine x_inv (N := m_X6_byParents) (As := [.int a2, .int 1]) (b := 120) (st := []) (dx9 := 19) (mc := 0) (ms := 0) (host := "") 6 rfl t_X6_byParents ⟨Or.inl q_6_78, i_X6_byParents.1, i_X6_byParents.2⟩ ⟨by decide, rfl⟩ (congrArg Prod.fst (J.1.1 120 (6, 8) rfl)) rfl (by decide) rfl rfl ⟨by decide, by decide⟩ (sf_X6_byParents_r120_c1d (jr_of rfl (by omega)) hD J rfl  (fun v26 h ev26 J S23 X24 X25 => ?_))
    have Sm := jSm_tr rfl Sm S23
    try rw [X24] at D
    try rw [X25] at D
    show jX m_X6_parishBy 20 0 0 52 [(0, .ref 120), (1, .int a1), (2, .int a2), (3, .int a3), (4, .int 1)] [.int v26] _ 0 0 _
    refine x_iret rfl rfl ?_
    exact hQ _ _ (jr_of rfl (by omega)) J Sm ((congrArg Prod.fst D).symm.trans X24) ((congrArg Prod.snd D).symm.trans X25)
  rw [if_neg c22] at D
  refine x_tableOut (tgt := 74) rfl (by omega) rfl ?_
  refine x_aloadn (x := 120) rfl rfl ?_
  refine x_iloadn (x := a2) rfl rfl ?_
  refine x_iloadn (x := a3) rfl rfl ?_
  refine x_inv (N := m_X6_byBirth) (As := [.int a2, .int a3]) (b := 120) (st := []) (dx9 := 3) (mc := 0) (ms := 0) (host := "") 6 rfl t_X6_byBirth ⟨Or.inl q_6_84, i_X6_byBirth.1, i_X6_byBirth.2⟩ ⟨by decide, rfl⟩ (congrArg Prod.fst (J.1.1 120 (6, 8) rfl)) rfl (by decide) rfl rfl ⟨by decide, by decide⟩ (sf_X6_byBirth_r120d (jr_of rfl (by omega)) (jr_of rfl (by omega)) hD J rfl  (fun v30 h ev30 J S27 X28 X29 => ?_))
  have Sm := jSm_tr rfl Sm S27
  try rw [X28] at D
  try rw [← X29] at D
  show jX m_X6_parishBy 20 0 0 80 [(0, .ref 120), (1, .int a1), (2, .int a2), (3, .int a3), (4, .int 1)] [.int v30] _ 0 0 _
  refine x_iret rfl rfl ?_
  exact hQ _ _ (jr_of rfl (by omega)) J Sm ((congrArg Prod.fst D).symm.trans (show v30.toInt = v30.toInt from by omega)) (congrArg Prod.snd D).symm
def fp_X6_belongs_r120_c1d : jFp := [(85, 0, 4), (98, 10, 11), (98, 11, 12), (98, 12, 13), (99, 0, 30), (100, 0, 30), (101, 0, 3), (102, 0, 40), (103, 0, 40), (104, 0, 40), (105, 0, 3), (106, 0, 100), (120, 6, 7), (120, 7, 8), (121, 0, 42), (122, 0, 42)]
set_option maxRecDepth 100000 in
set_option maxHeartbeats 4000000 in
theorem ct_X6_belongs_r120_c1d_25 {Dy : jH → Prop} {h0 : jH} {Q : Option Value → jH → Prop} {dr : (Int × jW)} (hD : jDk Dy) (hQ : ∀ (v : Int32) hx9, (-1) ≤ v.toInt ∧ v.toInt ≤ 11 → jJ jSgX Dy hx9 → jSm fp_X6_belongs_r120_c1d h0 hx9 → dr.1 = v.toInt → dr.2 = vw hx9 → Q (some (.int v)) hx9) : ∀ (h : jH), jJ jSgX Dy h → jSm fp_X6_belongs_r120_c1d h0 h → d_X6_belongs_r120_c1d_25  (vw h) = dr → jX m_X6_belongs 21 0 0 25 [] [] h 0 0 Q := by
  intro  h    J Sm D
  unfold d_X6_belongs_r120_c1d_25 at D
  refine x_iconst (v := (-1)) rfl ki_m1 ?_
  refine x_iret rfl rfl ?_
  exact hQ _ _ (jr_of jk_m1 (by omega)) J Sm ((congrArg Prod.fst D).symm.trans (show (-1) = ((-1) : Int32).toInt from by have := jk_m1; omega)) (congrArg Prod.snd D).symm
set_option maxRecDepth 100000 in
set_option maxHeartbeats 4000000 in
theorem ct_X6_belongs_r120_c1d_238 {Dy : jH → Prop} {h0 : jH} {Q : Option Value → jH → Prop} {dr : (Int × jW)} (hD : jDk Dy) (hQ : ∀ (v : Int32) hx9, (-1) ≤ v.toInt ∧ v.toInt ≤ 11 → jJ jSgX Dy hx9 → jSm fp_X6_belongs_r120_c1d h0 hx9 → dr.1 = v.toInt → dr.2 = vw hx9 → Q (some (.int v)) hx9) : ∀ r : Nat, ∀ (l1 : Int32) (l2 : Int32) (l5 : Int32) (l6 : Int32) (l7 : Int32) (h : jH), 6 - l7.toInt < (r : Int) → 0 ≤ l1.toInt ∧ l1.toInt ≤ 599 → 0 ≤ l2.toInt ∧ l2.toInt ≤ 146399 → 0 ≤ l5.toInt ∧ l5.toInt ≤ 6 → 0 ≤ l7.toInt ∧ l7.toInt ≤ 6 → jJ jSgX Dy h → jSm fp_X6_belongs_r120_c1d h0 h → d_X6_belongs_r120_c1d_238 r l1.toInt l2.toInt l5.toInt l6.toInt l7.toInt (vw h) = dr → jX m_X6_belongs 21 0 0 238 [(0, .ref 120), (1, .int l1), (2, .int l2), (3, .int 1), (4, .int 6), (5, .int l5), (6, .int l6), (7, .int l7)] [] h 0 0 Q := by
  intro r
  induction r with
  | zero =>
    intro l1 l2 l5 l6 l7 h hm y0 y1 y2 y3   J Sm D
    exfalso
    have el6 := jfull l6
    omega
  | succ r ih =>
    intro l1 l2 l5 l6 l7 h hm y0 y1 y2 y3   J Sm D
    have el6 := jfull l6
    rw [d_X6_belongs_r120_c1d_238.eq_2] at D
    refine x_iload (x := l7) rfl rfl ?_
    refine x_iload (x := l5) rfl rfl ?_
    refine x_icge (tgt := 298) rfl rfl (ti_ge rfl rfl ⟨fun c1 => ?_, fun c1 => ?_⟩)
    ·
      rw [if_pos (by omega)] at D
      refine x_aloadn (x := 120) rfl rfl ?_
      refine x_iconst (v := (-1)) rfl ki_m1 ?_
      refine z_putI (N := 8) (w := (-1)) 6 6 rfl f_6_22 rfl (jfin_no TX6 RX6 8 rfl rfl) hD J Sm rfl rfl jk_m1 (pw_120_6 (by omega)) rfl (fun h w2 J Sm => ?_)
      rw [vwf w2 (show (-1) = ((-1) : Int32).toInt from by have := jk_m1; omega)] at D
      refine x_aloadn (x := 120) rfl rfl ?_
      refine x_iload (x := l6) rfl rfl ?_
      refine z_putI (N := 8) (w := l6.toInt) 6 7 rfl f_6_25 rfl (jfin_no TX6 RX6 8 rfl rfl) hD J Sm rfl rfl rfl (pw_120_7 trivial) rfl (fun h w3 J Sm => ?_)
      rw [vwf w3 (show l6.toInt = l6.toInt from by omega)] at D
      refine x_iconst (v := (-1)) rfl ki_m1 ?_
      refine x_iret rfl rfl ?_
      exact hQ _ _ (jr_of jk_m1 (by omega)) J Sm ((congrArg Prod.fst D).symm.trans (show (-1) = ((-1) : Int32).toInt from by have := jk_m1; omega)) (congrArg Prod.snd D).symm
    ·
      rw [if_neg (by omega)] at D
      refine x_aloadn (x := 120) rfl rfl ?_
      refine x_aloadn (x := 120) rfl rfl ?_
      refine z_getR (N := 8) (b := 121) 6 3 rfl f_6_11 rfl J rfl 15363 ⟨rfl, rfl⟩ rfl ?_
      refine x_iload (x := 6) rfl rfl ?_
      refine x_iload (x := l7) rfl rfl ?_
      refine z_iadd rfl jk_6 rfl (by omega) (fun v4 ev4 => ?_)
      refine z_iald0 (N := 42) rfl J rfl rfl (by omega) (fun v5 qv5 => ?_)
      have ev5 := jfull v5
      try rw [vrd qv5 (show (6 + l7.toInt) = v4.toInt from by omega)] at D
      refine x_iloadn (x := l1) rfl rfl ?_
      refine x_iloadn (x := l2) rfl rfl ?_
      refine x_iloadn (x := 1) rfl rfl ?_
      refine x_inv (N := m_X6_parishBy) (As := [.int v5, .int l1, .int l2, .int 1]) (b := 120) (st := []) (dx9 := 20) (mc := 0) (ms := 0) (host := "") 6 rfl t_X6_parishBy ⟨Or.inl q_6_70, i_X6_parishBy.1, i_X6_parishBy.2⟩ ⟨by decide, rfl⟩ (congrArg Prod.fst (J.1.1 120 (6, 8) rfl)) rfl (by decide) rfl rfl ⟨by decide, by decide⟩ (sf_X6_parishBy_r120_c1d (jr_of rfl (by omega)) (jr_of rfl (by omega)) hD J rfl  (fun v9 h ev9 J S6 X7 X8 => ?_))
      have Sm := jSm_tr rfl Sm S6
      try rw [X7] at D
      try rw [X8] at D
      show jX m_X6_belongs 21 0 0 262 [(0, .ref 120), (1, .int l1), (2, .int l2), (3, .int 1), (4, .int 6), (5, .int l5), (6, .int l6), (7, .int l7)] [.int v9] _ 0 0 _
      refine x_istore (lsx9 := [(8, .int v9), (0, .ref 120), (1, .int l1), (2, .int l2), (3, .int 1), (4, .int 6), (5, .int l5), (6, .int l6), (7, .int l7)]) rfl rfl rfl ?_
      refine x_iload (x := v9) rfl rfl ?_
      refine x_iconst (v := (-1)) rfl ki_m1 ?_
      refine x_iceq (tgt := 292) rfl rfl (ti_eq rfl jk_m1 ⟨fun c10 => ?_, fun c10 => ?_⟩)
      ·
        rw [if_pos (by omega)] at D
        refine z_iinc (x := l7) (lsx9 := fun v11 => [(7, .int v11), (8, .int v9), (0, .ref 120), (1, .int l1), (2, .int l2), (3, .int 1), (4, .int 6), (5, .int l5), (6, .int l6)]) rfl rfl rfl jko_1 (by omega) rfl (fun _ => rfl) (fun v11 ev11 => ?_)
        refine x_goto (tgt := 238) rfl rfl ?_
        try rw [show (l7.toInt + 1) = v11.toInt from by omega] at D
        exact jX.sub (jsb_c rfl (jsb_c rfl (jsb_c rfl (jsb_c rfl (jsb_c rfl (jsb_c rfl (jsb_c rfl (jsb_c rfl jsb_n)))))))) (ih l1 l2 l5 l6 v11 h (by omega) (jr_of rfl (by omega)) (jr_of rfl (by omega)) (jr_of rfl (by omega)) (jr_of rfl (by omega)) J Sm D)
      ·
        rw [if_neg (by omega)] at D
        refine x_aloadn (x := 120) rfl rfl ?_
        refine x_aloadn (x := 120) rfl rfl ?_
        refine z_getR (N := 8) (b := 122) 6 4 rfl f_6_15 rfl J rfl 15364 ⟨rfl, rfl⟩ rfl ?_
        refine x_iload (x := 6) rfl rfl ?_
        refine x_iload (x := l7) rfl rfl ?_
        refine z_iadd rfl jk_6 rfl (by omega) (fun v12 ev12 => ?_)
        refine z_iald (N := 42) rfl J rfl sg_122_0_42_1_0_1 rfl (by omega) (fun v13 qv13 ev13 => ?_)
        try rw [vrd qv13 (show (6 + l7.toInt) = v12.toInt from by omega)] at D
        refine z_putI (N := 8) (w := v13.toInt) 6 6 rfl f_6_22 rfl (jfin_no TX6 RX6 8 rfl rfl) hD J Sm rfl rfl rfl (pw_120_6 (by omega)) rfl (fun h w14 J Sm => ?_)
        rw [vwf w14 (show v13.toInt = v13.toInt from by omega)] at D
        refine x_aloadn (x := 120) rfl rfl ?_
        refine x_iconst (v := 0) rfl ki_0 ?_
        refine z_putI (N := 8) (w := 0) 6 7 rfl f_6_25 rfl (jfin_no TX6 RX6 8 rfl rfl) hD J Sm rfl rfl jk_0 (pw_120_7 trivial) rfl (fun h w15 J Sm => ?_)
        rw [vwf w15 (show 0 = (0 : Int32).toInt from by have := jk_0; omega)] at D
        refine x_iload (x := v9) rfl rfl ?_
        refine x_iret rfl rfl ?_
        exact hQ _ _ (jr_of rfl (by omega)) J Sm ((congrArg Prod.fst D).symm.trans (show v9.toInt = v9.toInt from by omega)) (congrArg Prod.snd D).symm
set_option maxRecDepth 100000 in
set_option maxHeartbeats 4000000 in
theorem ct_X6_belongs_r120_c1d_217 {Dy : jH → Prop} {h0 : jH} {Q : Option Value → jH → Prop} {dr : (Int × jW)} {K54 : Int → Int → Int → Int → Int → jW → (Int × jW)} {K63 : Int → Int → Int → Int → Int → Int → jW → (Int × jW)} {K115 : Int → Int → Int → Int → Int → Int → Nat → Int → Int → jW → (Int × jW)} {R54 : Int} {R63 : Int} {R115 : Int} (hD : jDk Dy) (hQ : ∀ (v : Int32) hx9, (-1) ≤ v.toInt ∧ v.toInt ≤ 11 → jJ jSgX Dy hx9 → jSm fp_X6_belongs_r120_c1d h0 hx9 → dr.1 = v.toInt → dr.2 = vw hx9 → Q (some (.int v)) hx9) (k54 : ∀ (l1 : Int32) (l2 : Int32) (l5 : Int32) (l6 : Int32) (l7 : Int32) (h : jH), 2 - l7.toInt < R54 → 0 ≤ l1.toInt ∧ l1.toInt ≤ 599 → 0 ≤ l2.toInt ∧ l2.toInt ≤ 146399 → 0 ≤ l5.toInt ∧ l5.toInt ≤ 6 → 0 ≤ l7.toInt ∧ l7.toInt ≤ 2 → jJ jSgX Dy h → jSm fp_X6_belongs_r120_c1d h0 h → K54 l1.toInt l2.toInt l5.toInt l6.toInt l7.toInt (vw h) = dr → jX m_X6_belongs 21 0 0 54 [(0, .ref 120), (1, .int l1), (2, .int l2), (3, .int 1), (4, .int 6), (5, .int l5), (6, .int l6), (7, .int l7)] [] h 0 0 Q) (k63 : ∀ (l1 : Int32) (l2 : Int32) (l5 : Int32) (l6 : Int32) (l7 : Int32) (l8 : Int32) (h : jH), 30 - l8.toInt < R63 → 0 ≤ l1.toInt ∧ l1.toInt ≤ 599 → 0 ≤ l2.toInt ∧ l2.toInt ≤ 146399 → 0 ≤ l5.toInt ∧ l5.toInt ≤ 6 → 0 ≤ l7.toInt ∧ l7.toInt ≤ 1 → 0 ≤ l8.toInt ∧ l8.toInt ≤ 30 → 2 - l7.toInt ≤ R54 → jJ jSgX Dy h → jSm fp_X6_belongs_r120_c1d h0 h → K63 l1.toInt l2.toInt l5.toInt l6.toInt l7.toInt l8.toInt (vw h) = dr → jX m_X6_belongs 21 0 0 63 [(0, .ref 120), (1, .int l1), (2, .int l2), (3, .int 1), (4, .int 6), (5, .int l5), (6, .int l6), (7, .int l7), (8, .int l8)] [] h 0 0 Q) (k115 : ∀ (l1 : Int32) (l2 : Int32) (l5 : Int32) (l6 : Int32) (l7 : Int32) (l8 : Int32) (l9 : Value) (l10 : Int32) (l11 : Int32) (h : jH), 12 - l11.toInt < R115 → 0 ≤ l1.toInt ∧ l1.toInt ≤ 599 → 0 ≤ l2.toInt ∧ l2.toInt ≤ 146399 → 0 ≤ l5.toInt ∧ l5.toInt ≤ 6 → 0 ≤ l7.toInt ∧ l7.toInt ≤ 1 → 0 ≤ l8.toInt ∧ l8.toInt ≤ 29 → 0 ≤ l10.toInt ∧ l10.toInt ≤ 12 → 0 ≤ l11.toInt ∧ l11.toInt ≤ 12 → (l9 = .null ∨ ∃ a, l9 = .ref a ∧ jTx h a) → (l9 = .null → l10.toInt ≤ 0) → 2 - l7.toInt ≤ R54 → 30 - l8.toInt ≤ R63 → jJ jSgX Dy h → jSm fp_X6_belongs_r120_c1d h0 h → K115 l1.toInt l2.toInt l5.toInt l6.toInt l7.toInt l8.toInt (jvn l9) l10.toInt l11.toInt (vw h) = dr → jX m_X6_belongs 21 0 0 115 [(0, .ref 120), (1, .int l1), (2, .int l2), (3, .int 1), (4, .int 6), (5, .int l5), (6, .int l6), (7, .int l7), (8, .int l8), (9, l9), (10, .int l10), (11, .int l11)] [] h 0 0 Q) : ∀ (l1 : Int32) (l2 : Int32) (l5 : Int32) (l6 : Int32) (l7 : Int32) (l8 : Int32) (l9 : Nat) (l10 : Int32) (l11 : Int32) (h : jH), 0 ≤ l1.toInt ∧ l1.toInt ≤ 599 → 0 ≤ l2.toInt ∧ l2.toInt ≤ 146399 → 0 ≤ l5.toInt ∧ l5.toInt ≤ 6 → 0 ≤ l7.toInt ∧ l7.toInt ≤ 1 → 0 ≤ l8.toInt ∧ l8.toInt ≤ 29 → 1 ≤ l10.toInt ∧ l10.toInt ≤ 12 → 0 ≤ l11.toInt ∧ l11.toInt ≤ 11 → jTx h l9 → 2 - l7.toInt ≤ R54 → 30 - l8.toInt ≤ R63 → 12 - l11.toInt ≤ R115 → jJ jSgX Dy h → jSm fp_X6_belongs_r120_c1d h0 h → d_X6_belongs_r120_c1d_217 K54 K63 K115  l1.toInt l2.toInt l5.toInt l6.toInt l7.toInt l8.toInt l9 l10.toInt l11.toInt (vw h) = dr → jX m_X6_belongs 21 0 0 217 [(0, .ref 120), (1, .int l1), (2, .int l2), (3, .int 1), (4, .int 6), (5, .int l5), (6, .int l6), (7, .int l7), (8, .int l8), (9, .ref l9), (10, .int l10), (11, .int l11)] [] h 0 0 Q := by
  intro l1 l2 l5 l6 l7 l8 l9 l10 l11 h y0 y1 y2 y3 y4 y5 y6 Tl9  m54 m63 m115 J Sm D
  have el6 := jfull l6
  unfold d_X6_belongs_r120_c1d_217 at D
  refine z_iinc (x := l11) (lsx9 := fun v1 => [(11, .int v1), (0, .ref 120), (1, .int l1), (2, .int l2), (3, .int 1), (4, .int 6), (5, .int l5), (6, .int l6), (7, .int l7), (8, .int l8), (9, .ref l9), (10, .int l10)]) rfl rfl rfl jko_1 (by omega) rfl (fun _ => rfl) (fun v1 ev1 => ?_)
  refine x_goto (tgt := 115) rfl rfl ?_
  try rw [show (l11.toInt + 1) = v1.toInt from by omega] at D
  exact jX.sub (jsb_c rfl (jsb_c rfl (jsb_c rfl (jsb_c rfl (jsb_c rfl (jsb_c rfl (jsb_c rfl (jsb_c rfl (jsb_c rfl (jsb_c rfl (jsb_c rfl (jsb_c rfl jsb_n)))))))))))) (k115 l1 l2 l5 l6 l7 l8 (.ref l9) l10 v1 h (by omega) (jr_of rfl (by omega)) (jr_of rfl (by omega)) (jr_of rfl (by omega)) (jr_of rfl (by omega)) (jr_of rfl (by omega)) (jr_of rfl (by omega)) (jr_of rfl (by omega)) (Or.inr ⟨_, rfl, Tl9⟩) (fun q => by cases q) (by omega) (by omega) J Sm D)
set_option maxRecDepth 100000 in
set_option maxHeartbeats 4000000 in
theorem ct_X6_belongs_r120_c1d_115 {Dy : jH → Prop} {h0 : jH} {Q : Option Value → jH → Prop} {dr : (Int × jW)} {K54 : Int → Int → Int → Int → Int → jW → (Int × jW)} {K63 : Int → Int → Int → Int → Int → Int → jW → (Int × jW)} {R54 : Int} {R63 : Int} (hD : jDk Dy) (hQ : ∀ (v : Int32) hx9, (-1) ≤ v.toInt ∧ v.toInt ≤ 11 → jJ jSgX Dy hx9 → jSm fp_X6_belongs_r120_c1d h0 hx9 → dr.1 = v.toInt → dr.2 = vw hx9 → Q (some (.int v)) hx9) (k54 : ∀ (l1 : Int32) (l2 : Int32) (l5 : Int32) (l6 : Int32) (l7 : Int32) (h : jH), 2 - l7.toInt < R54 → 0 ≤ l1.toInt ∧ l1.toInt ≤ 599 → 0 ≤ l2.toInt ∧ l2.toInt ≤ 146399 → 0 ≤ l5.toInt ∧ l5.toInt ≤ 6 → 0 ≤ l7.toInt ∧ l7.toInt ≤ 2 → jJ jSgX Dy h → jSm fp_X6_belongs_r120_c1d h0 h → K54 l1.toInt l2.toInt l5.toInt l6.toInt l7.toInt (vw h) = dr → jX m_X6_belongs 21 0 0 54 [(0, .ref 120), (1, .int l1), (2, .int l2), (3, .int 1), (4, .int 6), (5, .int l5), (6, .int l6), (7, .int l7)] [] h 0 0 Q) (k63 : ∀ (l1 : Int32) (l2 : Int32) (l5 : Int32) (l6 : Int32) (l7 : Int32) (l8 : Int32) (h : jH), 30 - l8.toInt < R63 → 0 ≤ l1.toInt ∧ l1.toInt ≤ 599 → 0 ≤ l2.toInt ∧ l2.toInt ≤ 146399 → 0 ≤ l5.toInt ∧ l5.toInt ≤ 6 → 0 ≤ l7.toInt ∧ l7.toInt ≤ 1 → 0 ≤ l8.toInt ∧ l8.toInt ≤ 30 → 2 - l7.toInt ≤ R54 → jJ jSgX Dy h → jSm fp_X6_belongs_r120_c1d h0 h → K63 l1.toInt l2.toInt l5.toInt l6.toInt l7.toInt l8.toInt (vw h) = dr → jX m_X6_belongs 21 0 0 63 [(0, .ref 120), (1, .int l1), (2, .int l2), (3, .int 1), (4, .int 6), (5, .int l5), (6, .int l6), (7, .int l7), (8, .int l8)] [] h 0 0 Q) : ∀ r : Nat, ∀ (l1 : Int32) (l2 : Int32) (l5 : Int32) (l6 : Int32) (l7 : Int32) (l8 : Int32) (l9 : Value) (l10 : Int32) (l11 : Int32) (h : jH), 12 - l11.toInt < (r : Int) → 0 ≤ l1.toInt ∧ l1.toInt ≤ 599 → 0 ≤ l2.toInt ∧ l2.toInt ≤ 146399 → 0 ≤ l5.toInt ∧ l5.toInt ≤ 6 → 0 ≤ l7.toInt ∧ l7.toInt ≤ 1 → 0 ≤ l8.toInt ∧ l8.toInt ≤ 29 → 0 ≤ l10.toInt ∧ l10.toInt ≤ 12 → 0 ≤ l11.toInt ∧ l11.toInt ≤ 12 → (l9 = .null ∨ ∃ a, l9 = .ref a ∧ jTx h a) → (l9 = .null → l10.toInt ≤ 0) → 2 - l7.toInt ≤ R54 → 30 - l8.toInt ≤ R63 → jJ jSgX Dy h → jSm fp_X6_belongs_r120_c1d h0 h → d_X6_belongs_r120_c1d_115 K54 K63 r l1.toInt l2.toInt l5.toInt l6.toInt l7.toInt l8.toInt (jvn l9) l10.toInt l11.toInt (vw h) = dr → jX m_X6_belongs 21 0 0 115 [(0, .ref 120), (1, .int l1), (2, .int l2), (3, .int 1), (4, .int 6), (5, .int l5), (6, .int l6), (7, .int l7), (8, .int l8), (9, l9), (10, .int l10), (11, .int l11)] [] h 0 0 Q := by
  intro r
  induction r with
  | zero =>
    intro l1 l2 l5 l6 l7 l8 l9 l10 l11 h hm y0 y1 y2 y3 y4 y5 y6 Ol9 Ul9  m54 m63 J Sm D
    exfalso
    have el6 := jfull l6
    omega
  | succ r ih =>
    intro l1 l2 l5 l6 l7 l8 l9 l10 l11 h hm y0 y1 y2 y3 y4 y5 y6 Ol9 Ul9  m54 m63 J Sm D
    have el6 := jfull l6
    rw [d_X6_belongs_r120_c1d_115.eq_2] at D
    rcases Ol9 with rfl | ⟨l9, rfl, Tl9⟩
    ·
      have Ul9 := Ul9 rfl
      rw [if_pos (show jvn .null = 0 from rfl)] at D
      refine x_iload (x := l11) rfl rfl ?_
      refine x_iload (x := l10) rfl rfl ?_
      refine x_icge (tgt := 223) rfl rfl (ti_ge rfl rfl (br_t (by omega) ?_))
      refine z_iinc (x := l8) (lsx9 := fun v1 => [(8, .int v1), (0, .ref 120), (1, .int l1), (2, .int l2), (3, .int 1), (4, .int 6), (5, .int l5), (6, .int l6), (7, .int l7), (9, .null), (10, .int l10), (11, .int l11)]) rfl rfl rfl jko_1 (by omega) rfl (fun _ => rfl) (fun v1 ev1 => ?_)
      refine x_goto (tgt := 63) rfl rfl ?_
      try rw [show (l8.toInt + 1) = v1.toInt from by omega] at D
      exact jX.sub (jsb_c rfl (jsb_c rfl (jsb_c rfl (jsb_c rfl (jsb_c rfl (jsb_c rfl (jsb_c rfl (jsb_c rfl (jsb_c rfl jsb_n))))))))) (k63 l1 l2 l5 l6 l7 v1 h (by omega) (jr_of rfl (by omega)) (jr_of rfl (by omega)) (jr_of rfl (by omega)) (jr_of rfl (by omega)) (jr_of rfl (by omega)) (by omega) J Sm D)
    ·
      rw [if_neg (show ¬ jvn (.ref l9) = 0 from fun z => absurd (Nat.le_trans Tl9.1.1 (Nat.le_of_eq z)) (by decide))] at D
      rw [show jvn (.ref l9) = l9 from rfl] at D
      refine x_iload (x := l11) rfl rfl ?_
      refine x_iload (x := l10) rfl rfl ?_
      refine x_icge (tgt := 223) rfl rfl (ti_ge rfl rfl ⟨fun c2 => ?_, fun c2 => ?_⟩)
      ·
        rw [if_pos (by omega)] at D
        refine z_iinc (x := l8) (lsx9 := fun v3 => [(8, .int v3), (0, .ref 120), (1, .int l1), (2, .int l2), (3, .int 1), (4, .int 6), (5, .int l5), (6, .int l6), (7, .int l7), (9, .ref l9), (10, .int l10), (11, .int l11)]) rfl rfl rfl jko_1 (by omega) rfl (fun _ => rfl) (fun v3 ev3 => ?_)
        refine x_goto (tgt := 63) rfl rfl ?_
        try rw [show (l8.toInt + 1) = v3.toInt from by omega] at D
        exact jX.sub (jsb_c rfl (jsb_c rfl (jsb_c rfl (jsb_c rfl (jsb_c rfl (jsb_c rfl (jsb_c rfl (jsb_c rfl (jsb_c rfl jsb_n))))))))) (k63 l1 l2 l5 l6 l7 v3 h (by omega) (jr_of rfl (by omega)) (jr_of rfl (by omega)) (jr_of rfl (by omega)) (jr_of rfl (by omega)) (jr_of rfl (by omega)) (by omega) J Sm D)
      ·
        rw [if_neg (by omega)] at D
        refine x_aload (x := l9) rfl rfl ?_
        refine x_iload (x := l11) rfl rfl ?_
        refine x_iconst (v := 1) rfl ki_1 ?_
        refine x_inv (N := m_X10_head) (As := [.int l11, .int 1]) (b := l9) (st := []) (dx9 := 1) (mc := 0) (ms := 0) (host := "") 10 rfl t_X10_head ⟨Or.inl q_6_62, i_X10_head.1, i_X10_head.2⟩ ⟨by decide, rfl⟩ (congrArg Prod.fst Tl9.1.2.2) rfl (by decide) rfl rfl ⟨by decide, by decide⟩ (c_headD Tl9 rfl jk_1 (fun v4 ev4 => ?_))
        have fv4 := jfull v4
        try rw [← ev4] at D
        show jX m_X6_belongs 21 0 0 130 [(0, .ref 120), (1, .int l1), (2, .int l2), (3, .int 1), (4, .int 6), (5, .int l5), (6, .int l6), (7, .int l7), (8, .int l8), (9, .ref l9), (10, .int l10), (11, .int l11)] [.int v4] _ 0 0 _
        refine x_istore (lsx9 := [(12, .int v4), (0, .ref 120), (1, .int l1), (2, .int l2), (3, .int 1), (4, .int 6), (5, .int l5), (6, .int l6), (7, .int l7), (8, .int l8), (9, .ref l9), (10, .int l10), (11, .int l11)]) rfl rfl rfl ?_
        refine x_aload (x := l9) rfl rfl ?_
        refine x_iload (x := l11) rfl rfl ?_
        refine x_iconst (v := 0) rfl ki_0 ?_
        refine x_inv (N := m_X10_head) (As := [.int l11, .int 0]) (b := l9) (st := []) (dx9 := 1) (mc := 0) (ms := 0) (host := "") 10 rfl t_X10_head ⟨Or.inl q_6_62, i_X10_head.1, i_X10_head.2⟩ ⟨by decide, rfl⟩ (congrArg Prod.fst Tl9.1.2.2) rfl (by decide) rfl rfl ⟨by decide, by decide⟩ (c_headD Tl9 rfl jk_0 (fun v5 ev5 => ?_))
        have fv5 := jfull v5
        try rw [← ev5] at D
        show jX m_X6_belongs 21 0 0 140 [(12, .int v4), (0, .ref 120), (1, .int l1), (2, .int l2), (3, .int 1), (4, .int 6), (5, .int l5), (6, .int l6), (7, .int l7), (8, .int l8), (9, .ref l9), (10, .int l10), (11, .int l11)] [.int v5] _ 0 0 _
        refine x_ifne (tgt := 217) rfl rfl (ti_ne rfl jk_0 ⟨fun c6 => ?_, fun c6 => ?_⟩)
        ·
          rw [if_neg (by omega)] at D
          exact jX.sub (jsb_c rfl (jsb_c rfl (jsb_c rfl (jsb_c rfl (jsb_c rfl (jsb_c rfl (jsb_c rfl (jsb_c rfl (jsb_c rfl (jsb_c rfl (jsb_c rfl (jsb_c rfl jsb_n)))))))))))) (ct_X6_belongs_r120_c1d_217 hD hQ k54 k63 ih l1 l2 l5 l6 l7 l8 l9 l10 l11 h (jr_of rfl (by omega)) (jr_of rfl (by omega)) (jr_of rfl (by omega)) (jr_of rfl (by omega)) (jr_of rfl (by omega)) (jr_of rfl (by omega)) (jr_of rfl (by omega)) Tl9 (by omega) (by omega) (by omega) J Sm D)
        ·
          rw [if_pos (by omega)] at D
          refine x_iload (x := l6) rfl rfl ?_
          refine x_iload (x := v4) rfl rfl ?_
          refine z_ishrW rfl rfl rfl (fun v7 ev7 => ?_)
          have fv7 := jfull v7
          try rw [← ev7] at D
          refine x_iconst (v := 1) rfl ki_1 ?_
          refine z_iandQ rfl rfl jk_1 (by decide) (fun v8 ev8 => ?_)
          try rw [← ev8.1] at D
          refine x_ifne (tgt := 217) rfl rfl (ti_ne rfl jk_0 ⟨fun c9 => ?_, fun c9 => ?_⟩)
          ·
            rw [if_neg (by omega)] at D
            exact jX.sub (jsb_c rfl (jsb_c rfl (jsb_c rfl (jsb_c rfl (jsb_c rfl (jsb_c rfl (jsb_c rfl (jsb_c rfl (jsb_c rfl (jsb_c rfl (jsb_c rfl (jsb_c rfl jsb_n)))))))))))) (ct_X6_belongs_r120_c1d_217 hD hQ k54 k63 ih l1 l2 l5 l6 l7 l8 l9 l10 l11 h (jr_of rfl (by omega)) (jr_of rfl (by omega)) (jr_of rfl (by omega)) (jr_of rfl (by omega)) (jr_of rfl (by omega)) (jr_of rfl (by omega)) (jr_of rfl (by omega)) Tl9 (by omega) (by omega) (by omega) J Sm D)
          ·
            rw [if_pos (by omega)] at D
            refine x_iload (x := l5) rfl rfl ?_
            refine x_bipush (v := 6) rfl kb_6 ?_
            refine x_icge (tgt := 217) rfl rfl (ti_ge rfl jk_6 ⟨fun c10 => ?_, fun c10 => ?_⟩)
            ·
              rw [if_pos (by omega)] at D
              exact jX.sub (jsb_c rfl (jsb_c rfl (jsb_c rfl (jsb_c rfl (jsb_c rfl (jsb_c rfl (jsb_c rfl (jsb_c rfl (jsb_c rfl (jsb_c rfl (jsb_c rfl (jsb_c rfl jsb_n)))))))))))) (ct_X6_belongs_r120_c1d_217 hD hQ k54 k63 ih l1 l2 l5 l6 l7 l8 l9 l10 l11 h (jr_of rfl (by omega)) (jr_of rfl (by omega)) (jr_of rfl (by omega)) (jr_of rfl (by omega)) (jr_of rfl (by omega)) (jr_of rfl (by omega)) (jr_of rfl (by omega)) Tl9 (by omega) (by omega) (by omega) J Sm D)
            ·
              rw [if_neg (by omega)] at D
              refine x_aloadn (x := 120) rfl rfl ?_
              refine z_getR (N := 8) (b := 98) 6 2 rfl f_6_36 rfl J rfl 15362 ⟨rfl, rfl⟩ rfl ?_
              refine x_iload (x := l8) rfl rfl ?_
              refine x_iload (x := l11) rfl rfl ?_
              refine x_iloadn (x := l1) rfl rfl ?_
              refine x_inv (N := m_X0_holdsFor) (As := [.int l8, .int l11, .int l1]) (b := 98) (st := []) (dx9 := 5) (mc := 0) (ms := 0) (host := "") 0 rfl t_X0_holdsFor ⟨Or.inl q_6_66, i_X0_holdsFor.1, i_X0_holdsFor.2⟩ ⟨by decide, rfl⟩ (congrArg Prod.fst (J.1.1 98 (0, 16) rfl)) rfl (by decide) rfl rfl ⟨by decide, by decide⟩ (sf_X0_holdsFor_r98d (jr_of rfl (by omega)) (jr_of rfl (by omega)) (jr_of rfl (by omega)) hD J rfl  (fun v14 h ev14 J S11 X12 X13 => ?_))
              have Sm := jSm_tr rfl Sm S11
              have Tl9 := jTx_m S11 rfl Tl9
              try rw [X12] at D
              try rw [X13] at D
              show jX m_X6_belongs 21 0 0 172 [(12, .int v4), (0, .ref 120), (1, .int l1), (2, .int l2), (3, .int 1), (4, .int 6), (5, .int l5), (6, .int l6), (7, .int l7), (8, .int l8), (9, .ref l9), (10, .int l10), (11, .int l11)] [.int v14] _ 0 0 _
              refine x_ifeq (tgt := 217) rfl rfl (ti_eq rfl jk_0 ⟨fun c15 => ?_, fun c15 => ?_⟩)
              ·
                rw [if_pos (by omega)] at D
                exact jX.sub (jsb_c rfl (jsb_c rfl (jsb_c rfl (jsb_c rfl (jsb_c rfl (jsb_c rfl (jsb_c rfl (jsb_c rfl (jsb_c rfl (jsb_c rfl (jsb_c rfl (jsb_c rfl jsb_n)))))))))))) (ct_X6_belongs_r120_c1d_217 hD hQ k54 k63 ih l1 l2 l5 l6 l7 l8 l9 l10 l11 h (jr_of rfl (by omega)) (jr_of rfl (by omega)) (jr_of rfl (by omega)) (jr_of rfl (by omega)) (jr_of rfl (by omega)) (jr_of rfl (by omega)) (jr_of rfl (by omega)) Tl9 (by omega) (by omega) (by omega) J Sm D)
              ·
                rw [if_neg (by omega)] at D
                refine x_iload (x := l6) rfl rfl ?_
                refine x_iconst (v := 1) rfl ki_1 ?_
                refine x_iload (x := v4) rfl rfl ?_
                refine z_ishlW rfl jk_1 rfl (fun v16 ev16 => ?_)
                have fv16 := jfull v16
                try rw [← ev16] at D
                refine z_iorW rfl rfl rfl (fun v17 ev17 => ?_)
                have fv17 := jfull v17
                try rw [← ev17] at D
                refine x_istore (lsx9 := [(6, .int v17), (12, .int v4), (0, .ref 120), (1, .int l1), (2, .int l2), (3, .int 1), (4, .int 6), (5, .int l5), (7, .int l7), (8, .int l8), (9, .ref l9), (10, .int l10), (11, .int l11)]) rfl rfl rfl ?_
                refine x_aloadn (x := 120) rfl rfl ?_
                refine z_getR (N := 8) (b := 121) 6 3 rfl f_6_11 rfl J rfl 15363 ⟨rfl, rfl⟩ rfl ?_
                refine x_iload (x := 6) rfl rfl ?_
                refine x_iload (x := l5) rfl rfl ?_
                refine z_iadd rfl jk_6 rfl (by omega) (fun v18 ev18 => ?_)
                refine x_iload (x := v4) rfl rfl ?_
                refine z_iast (N := 42) (l := 0) (u := 42) (w := v4.toInt) rfl hD J Sm rfl rfl rfl (by omega) rfl (wr_121) rfl (fun h w19 J Sm => ?_)
                have Tl9 := jTx_i w19 rfl Tl9
                rw [vww w19 (show (6 + l5.toInt) = v18.toInt from by omega) (show v4.toInt = v4.toInt from by omega)] at D
                refine x_aloadn (x := 120) rfl rfl ?_
                refine z_getR (N := 8) (b := 122) 6 4 rfl f_6_15 rfl J rfl 15364 ⟨rfl, rfl⟩ rfl ?_
                refine x_iload (x := 6) rfl rfl ?_
                refine x_iload (x := l5) rfl rfl ?_
                refine z_iadd rfl jk_6 rfl (by omega) (fun v20 ev20 => ?_)
                refine x_iload (x := l8) rfl rfl ?_
                refine x_bipush (v := 12) rfl kb_12 ?_
                refine z_imul rfl rfl jk_12 (by omega) (fun v21 ev21 => ?_)
                refine x_iload (x := l11) rfl rfl ?_
                refine z_iadd rfl rfl rfl (by omega) (fun v22 ev22 => ?_)
                refine z_iast (N := 42) (l := 0) (u := 42) (w := v22.toInt) rfl hD J Sm rfl rfl rfl (by omega) rfl (wr_122 (fun q1 q2 q3 q4 => by omega)) rfl (fun h w23 J Sm => ?_)
                have Tl9 := jTx_i w23 rfl Tl9
                rw [vww w23 (show (6 + l5.toInt) = v20.toInt from by omega) (show ((l8.toInt * 12) + l11.toInt) = v22.toInt from by omega)] at D
                refine z_iinc (x := l5) (lsx9 := fun v24 => [(5, .int v24), (6, .int v17), (12, .int v4), (0, .ref 120), (1, .int l1), (2, .int l2), (3, .int 1), (4, .int 6), (7, .int l7), (8, .int l8), (9, .ref l9), (10, .int l10), (11, .int l11)]) rfl rfl rfl jko_1 (by omega) rfl (fun _ => rfl) (fun v24 ev24 => ?_)
                try rw [show (l5.toInt + 1) = v24.toInt from by omega] at D
                exact jX.sub (jsb_c rfl (jsb_c rfl (jsb_c rfl (jsb_c rfl (jsb_c rfl (jsb_c rfl (jsb_c rfl (jsb_c rfl (jsb_c rfl (jsb_c rfl (jsb_c rfl (jsb_c rfl jsb_n)))))))))))) (ct_X6_belongs_r120_c1d_217 hD hQ k54 k63 ih l1 l2 v24 v17 l7 l8 l9 l10 l11 h (jr_of rfl (by omega)) (jr_of rfl (by omega)) (jr_of rfl (by omega)) (jr_of rfl (by omega)) (jr_of rfl (by omega)) (jr_of rfl (by omega)) (jr_of rfl (by omega)) Tl9 (by omega) (by omega) (by omega) J Sm D)
set_option maxRecDepth 100000 in
set_option maxHeartbeats 4000000 in
theorem ct_X6_belongs_r120_c1d_110 {Dy : jH → Prop} {h0 : jH} {Q : Option Value → jH → Prop} {dr : (Int × jW)} {K54 : Int → Int → Int → Int → Int → jW → (Int × jW)} {K63 : Int → Int → Int → Int → Int → Int → jW → (Int × jW)} {R54 : Int} {R63 : Int} (hD : jDk Dy) (hQ : ∀ (v : Int32) hx9, (-1) ≤ v.toInt ∧ v.toInt ≤ 11 → jJ jSgX Dy hx9 → jSm fp_X6_belongs_r120_c1d h0 hx9 → dr.1 = v.toInt → dr.2 = vw hx9 → Q (some (.int v)) hx9) (k54 : ∀ (l1 : Int32) (l2 : Int32) (l5 : Int32) (l6 : Int32) (l7 : Int32) (h : jH), 2 - l7.toInt < R54 → 0 ≤ l1.toInt ∧ l1.toInt ≤ 599 → 0 ≤ l2.toInt ∧ l2.toInt ≤ 146399 → 0 ≤ l5.toInt ∧ l5.toInt ≤ 6 → 0 ≤ l7.toInt ∧ l7.toInt ≤ 2 → jJ jSgX Dy h → jSm fp_X6_belongs_r120_c1d h0 h → K54 l1.toInt l2.toInt l5.toInt l6.toInt l7.toInt (vw h) = dr → jX m_X6_belongs 21 0 0 54 [(0, .ref 120), (1, .int l1), (2, .int l2), (3, .int 1), (4, .int 6), (5, .int l5), (6, .int l6), (7, .int l7)] [] h 0 0 Q) (k63 : ∀ (l1 : Int32) (l2 : Int32) (l5 : Int32) (l6 : Int32) (l7 : Int32) (l8 : Int32) (h : jH), 30 - l8.toInt < R63 → 0 ≤ l1.toInt ∧ l1.toInt ≤ 599 → 0 ≤ l2.toInt ∧ l2.toInt ≤ 146399 → 0 ≤ l5.toInt ∧ l5.toInt ≤ 6 → 0 ≤ l7.toInt ∧ l7.toInt ≤ 1 → 0 ≤ l8.toInt ∧ l8.toInt ≤ 30 → 2 - l7.toInt ≤ R54 → jJ jSgX Dy h → jSm fp_X6_belongs_r120_c1d h0 h → K63 l1.toInt l2.toInt l5.toInt l6.toInt l7.toInt l8.toInt (vw h) = dr → jX m_X6_belongs 21 0 0 63 [(0, .ref 120), (1, .int l1), (2, .int l2), (3, .int 1), (4, .int 6), (5, .int l5), (6, .int l6), (7, .int l7), (8, .int l8)] [] h 0 0 Q) : ∀ (l1 : Int32) (l2 : Int32) (l5 : Int32) (l6 : Int32) (l7 : Int32) (l8 : Int32) (l9 : Nat) (s0 : Int32) (h : jH), 0 ≤ l1.toInt ∧ l1.toInt ≤ 599 → 0 ≤ l2.toInt ∧ l2.toInt ≤ 146399 → 0 ≤ l5.toInt ∧ l5.toInt ≤ 6 → 0 ≤ l7.toInt ∧ l7.toInt ≤ 1 → 0 ≤ l8.toInt ∧ l8.toInt ≤ 29 → 0 ≤ s0.toInt ∧ s0.toInt ≤ 12 → jTx h l9 → 2 - l7.toInt ≤ R54 → 30 - l8.toInt ≤ R63 → jJ jSgX Dy h → jSm fp_X6_belongs_r120_c1d h0 h → d_X6_belongs_r120_c1d_110 K54 K63  l1.toInt l2.toInt l5.toInt l6.toInt l7.toInt l8.toInt l9 s0.toInt (vw h) = dr → jX m_X6_belongs 21 0 0 110 [(0, .ref 120), (1, .int l1), (2, .int l2), (3, .int 1), (4, .int 6), (5, .int l5), (6, .int l6), (7, .int l7), (8, .int l8), (9, .ref l9)] [.int s0] h 0 0 Q := by
  intro l1 l2 l5 l6 l7 l8 l9 s0 h y0 y1 y2 y3 y4 y5 Tl9  m54 m63 J Sm D
  have el6 := jfull l6
  unfold d_X6_belongs_r120_c1d_110 at D
  refine x_istore (lsx9 := [(10, .int s0), (0, .ref 120), (1, .int l1), (2, .int l2), (3, .int 1), (4, .int 6), (5, .int l5), (6, .int l6), (7, .int l7), (8, .int l8), (9, .ref l9)]) rfl rfl rfl ?_
  refine x_iconst (v := 0) rfl ki_0 ?_
  refine x_istore (lsx9 := [(11, .int 0), (10, .int s0), (0, .ref 120), (1, .int l1), (2, .int l2), (3, .int 1), (4, .int 6), (5, .int l5), (6, .int l6), (7, .int l7), (8, .int l8), (9, .ref l9)]) rfl rfl rfl ?_
  exact jX.sub (jsb_c rfl (jsb_c rfl (jsb_c rfl (jsb_c rfl (jsb_c rfl (jsb_c rfl (jsb_c rfl (jsb_c rfl (jsb_c rfl (jsb_c rfl (jsb_c rfl (jsb_c rfl jsb_n)))))))))))) (ct_X6_belongs_r120_c1d_115 hD hQ k54 k63 13 l1 l2 l5 l6 l7 l8 (.ref l9) s0 0 h (by have := jk_0; omega) (jr_of rfl (by omega)) (jr_of rfl (by omega)) (jr_of rfl (by omega)) (jr_of rfl (by omega)) (jr_of rfl (by omega)) (jr_of rfl (by omega)) (jr_of jk_0 (by omega)) (Or.inr ⟨_, rfl, Tl9⟩) (fun q => by cases q) (by omega) (by omega) J Sm (by rw [jk_0]; exact D))
set_option maxRecDepth 100000 in
set_option maxHeartbeats 4000000 in
theorem ct_X6_belongs_r120_c1d_200110 {Dy : jH → Prop} {h0 : jH} {Q : Option Value → jH → Prop} {dr : (Int × jW)} {K54 : Int → Int → Int → Int → Int → jW → (Int × jW)} {K63 : Int → Int → Int → Int → Int → Int → jW → (Int × jW)} {R54 : Int} {R63 : Int} (hD : jDk Dy) (hQ : ∀ (v : Int32) hx9, (-1) ≤ v.toInt ∧ v.toInt ≤ 11 → jJ jSgX Dy hx9 → jSm fp_X6_belongs_r120_c1d h0 hx9 → dr.1 = v.toInt → dr.2 = vw hx9 → Q (some (.int v)) hx9) (k54 : ∀ (l1 : Int32) (l2 : Int32) (l5 : Int32) (l6 : Int32) (l7 : Int32) (h : jH), 2 - l7.toInt < R54 → 0 ≤ l1.toInt ∧ l1.toInt ≤ 599 → 0 ≤ l2.toInt ∧ l2.toInt ≤ 146399 → 0 ≤ l5.toInt ∧ l5.toInt ≤ 6 → 0 ≤ l7.toInt ∧ l7.toInt ≤ 2 → jJ jSgX Dy h → jSm fp_X6_belongs_r120_c1d h0 h → K54 l1.toInt l2.toInt l5.toInt l6.toInt l7.toInt (vw h) = dr → jX m_X6_belongs 21 0 0 54 [(0, .ref 120), (1, .int l1), (2, .int l2), (3, .int 1), (4, .int 6), (5, .int l5), (6, .int l6), (7, .int l7)] [] h 0 0 Q) (k63 : ∀ (l1 : Int32) (l2 : Int32) (l5 : Int32) (l6 : Int32) (l7 : Int32) (l8 : Int32) (h : jH), 30 - l8.toInt < R63 → 0 ≤ l1.toInt ∧ l1.toInt ≤ 599 → 0 ≤ l2.toInt ∧ l2.toInt ≤ 146399 → 0 ≤ l5.toInt ∧ l5.toInt ≤ 6 → 0 ≤ l7.toInt ∧ l7.toInt ≤ 1 → 0 ≤ l8.toInt ∧ l8.toInt ≤ 30 → 2 - l7.toInt ≤ R54 → jJ jSgX Dy h → jSm fp_X6_belongs_r120_c1d h0 h → K63 l1.toInt l2.toInt l5.toInt l6.toInt l7.toInt l8.toInt (vw h) = dr → jX m_X6_belongs 21 0 0 63 [(0, .ref 120), (1, .int l1), (2, .int l2), (3, .int 1), (4, .int 6), (5, .int l5), (6, .int l6), (7, .int l7), (8, .int l8)] [] h 0 0 Q) : ∀ (l1 : Int32) (l2 : Int32) (l5 : Int32) (l6 : Int32) (l7 : Int32) (l8 : Int32) (l9 : Value) (h : jH), 0 ≤ l1.toInt ∧ l1.toInt ≤ 599 → 0 ≤ l2.toInt ∧ l2.toInt ≤ 146399 → 0 ≤ l5.toInt ∧ l5.toInt ≤ 6 → 0 ≤ l7.toInt ∧ l7.toInt ≤ 1 → 0 ≤ l8.toInt ∧ l8.toInt ≤ 29 → (l9 = .null ∨ ∃ a, l9 = .ref a ∧ jTx h a) → 2 - l7.toInt ≤ R54 → 30 - l8.toInt ≤ R63 → jJ jSgX Dy h → jSm fp_X6_belongs_r120_c1d h0 h → d_X6_belongs_r120_c1d_200110 K54 K63  l1.toInt l2.toInt l5.toInt l6.toInt l7.toInt l8.toInt (jvn l9) (vw h) = dr → jX m_X6_belongs 21 0 0 110 [(0, .ref 120), (1, .int l1), (2, .int l2), (3, .int 1), (4, .int 6), (5, .int l5), (6, .int l6), (7, .int l7), (8, .int l8), (9, l9)] [.int 0] h 0 0 Q := by
  intro l1 l2 l5 l6 l7 l8 l9 h y0 y1 y2 y3 y4 Ol9  m54 m63 J Sm D
  have el6 := jfull l6
  unfold d_X6_belongs_r120_c1d_200110 at D
  rcases Ol9 with rfl | ⟨l9, rfl, Tl9⟩
  ·
    rw [if_pos (show jvn .null = 0 from rfl)] at D
    refine x_istore (lsx9 := [(10, .int 0), (0, .ref 120), (1, .int l1), (2, .int l2), (3, .int 1), (4, .int 6), (5, .int l5), (6, .int l6), (7, .int l7), (8, .int l8), (9, .null)]) rfl rfl rfl ?_
    refine x_iconst (v := 0) rfl ki_0 ?_
    refine x_istore (lsx9 := [(11, .int 0), (10, .int 0), (0, .ref 120), (1, .int l1), (2, .int l2), (3, .int 1), (4, .int 6), (5, .int l5), (6, .int l6), (7, .int l7), (8, .int l8), (9, .null)]) rfl rfl rfl ?_
    exact jX.sub (jsb_c rfl (jsb_c rfl (jsb_c rfl (jsb_c rfl (jsb_c rfl (jsb_c rfl (jsb_c rfl (jsb_c rfl (jsb_c rfl (jsb_c rfl (jsb_c rfl (jsb_c rfl jsb_n)))))))))))) (ct_X6_belongs_r120_c1d_115 hD hQ k54 k63 13 l1 l2 l5 l6 l7 l8 .null 0 0 h (by have := jk_0; omega) (jr_of rfl (by omega)) (jr_of rfl (by omega)) (jr_of rfl (by omega)) (jr_of rfl (by omega)) (jr_of rfl (by omega)) (jr_of jk_0 (by omega)) (jr_of jk_0 (by omega)) (Or.inl rfl) (fun _ => by have := jk_0; omega) (by omega) (by omega) J Sm (by rw [jk_0]; exact D))
  ·
    rw [if_neg (show ¬ jvn (.ref l9) = 0 from fun z => absurd (Nat.le_trans Tl9.1.1 (Nat.le_of_eq z)) (by decide))] at D
    rw [show jvn (.ref l9) = l9 from rfl] at D
    refine x_istore (lsx9 := [(10, .int 0), (0, .ref 120), (1, .int l1), (2, .int l2), (3, .int 1), (4, .int 6), (5, .int l5), (6, .int l6), (7, .int l7), (8, .int l8), (9, .ref l9)]) rfl rfl rfl ?_
    refine x_iconst (v := 0) rfl ki_0 ?_
    refine x_istore (lsx9 := [(11, .int 0), (10, .int 0), (0, .ref 120), (1, .int l1), (2, .int l2), (3, .int 1), (4, .int 6), (5, .int l5), (6, .int l6), (7, .int l7), (8, .int l8), (9, .ref l9)]) rfl rfl rfl ?_
    exact jX.sub (jsb_c rfl (jsb_c rfl (jsb_c rfl (jsb_c rfl (jsb_c rfl (jsb_c rfl (jsb_c rfl (jsb_c rfl (jsb_c rfl (jsb_c rfl (jsb_c rfl (jsb_c rfl jsb_n)))))))))))) (ct_X6_belongs_r120_c1d_115 hD hQ k54 k63 13 l1 l2 l5 l6 l7 l8 (.ref l9) 0 0 h (by have := jk_0; omega) (jr_of rfl (by omega)) (jr_of rfl (by omega)) (jr_of rfl (by omega)) (jr_of rfl (by omega)) (jr_of rfl (by omega)) (jr_of jk_0 (by omega)) (jr_of jk_0 (by omega)) (Or.inr ⟨_, rfl, Tl9⟩) (fun q => by cases q) (by omega) (by omega) J Sm (by rw [jk_0]; exact D))
set_option maxRecDepth 100000 in
set_option maxHeartbeats 4000000 in
theorem ct_X6_belongs_r120_c1d_101 {Dy : jH → Prop} {h0 : jH} {Q : Option Value → jH → Prop} {dr : (Int × jW)} {K54 : Int → Int → Int → Int → Int → jW → (Int × jW)} {K63 : Int → Int → Int → Int → Int → Int → jW → (Int × jW)} {R54 : Int} {R63 : Int} (hD : jDk Dy) (hQ : ∀ (v : Int32) hx9, (-1) ≤ v.toInt ∧ v.toInt ≤ 11 → jJ jSgX Dy hx9 → jSm fp_X6_belongs_r120_c1d h0 hx9 → dr.1 = v.toInt → dr.2 = vw hx9 → Q (some (.int v)) hx9) (k54 : ∀ (l1 : Int32) (l2 : Int32) (l5 : Int32) (l6 : Int32) (l7 : Int32) (h : jH), 2 - l7.toInt < R54 → 0 ≤ l1.toInt ∧ l1.toInt ≤ 599 → 0 ≤ l2.toInt ∧ l2.toInt ≤ 146399 → 0 ≤ l5.toInt ∧ l5.toInt ≤ 6 → 0 ≤ l7.toInt ∧ l7.toInt ≤ 2 → jJ jSgX Dy h → jSm fp_X6_belongs_r120_c1d h0 h → K54 l1.toInt l2.toInt l5.toInt l6.toInt l7.toInt (vw h) = dr → jX m_X6_belongs 21 0 0 54 [(0, .ref 120), (1, .int l1), (2, .int l2), (3, .int 1), (4, .int 6), (5, .int l5), (6, .int l6), (7, .int l7)] [] h 0 0 Q) (k63 : ∀ (l1 : Int32) (l2 : Int32) (l5 : Int32) (l6 : Int32) (l7 : Int32) (l8 : Int32) (h : jH), 30 - l8.toInt < R63 → 0 ≤ l1.toInt ∧ l1.toInt ≤ 599 → 0 ≤ l2.toInt ∧ l2.toInt ≤ 146399 → 0 ≤ l5.toInt ∧ l5.toInt ≤ 6 → 0 ≤ l7.toInt ∧ l7.toInt ≤ 1 → 0 ≤ l8.toInt ∧ l8.toInt ≤ 30 → 2 - l7.toInt ≤ R54 → jJ jSgX Dy h → jSm fp_X6_belongs_r120_c1d h0 h → K63 l1.toInt l2.toInt l5.toInt l6.toInt l7.toInt l8.toInt (vw h) = dr → jX m_X6_belongs 21 0 0 63 [(0, .ref 120), (1, .int l1), (2, .int l2), (3, .int 1), (4, .int 6), (5, .int l5), (6, .int l6), (7, .int l7), (8, .int l8)] [] h 0 0 Q) : ∀ (l1 : Int32) (l2 : Int32) (l5 : Int32) (l6 : Int32) (l7 : Int32) (l8 : Int32) (l9 : Value) (h : jH), 0 ≤ l1.toInt ∧ l1.toInt ≤ 599 → 0 ≤ l2.toInt ∧ l2.toInt ≤ 146399 → 0 ≤ l5.toInt ∧ l5.toInt ≤ 6 → 0 ≤ l7.toInt ∧ l7.toInt ≤ 1 → 0 ≤ l8.toInt ∧ l8.toInt ≤ 29 → (l9 = .null ∨ ∃ a, l9 = .ref a ∧ jTx h a) → 2 - l7.toInt ≤ R54 → 30 - l8.toInt ≤ R63 → jJ jSgX Dy h → jSm fp_X6_belongs_r120_c1d h0 h → d_X6_belongs_r120_c1d_101 K54 K63  l1.toInt l2.toInt l5.toInt l6.toInt l7.toInt l8.toInt (jvn l9) (vw h) = dr → jX m_X6_belongs 21 0 0 101 [(0, .ref 120), (1, .int l1), (2, .int l2), (3, .int 1), (4, .int 6), (5, .int l5), (6, .int l6), (7, .int l7), (8, .int l8), (9, l9)] [] h 0 0 Q := by
  intro l1 l2 l5 l6 l7 l8 l9 h y0 y1 y2 y3 y4 Ol9  m54 m63 J Sm D
  have el6 := jfull l6
  unfold d_X6_belongs_r120_c1d_101 at D
  rcases Ol9 with rfl | ⟨l9, rfl, Tl9⟩
  ·
    rw [if_pos (show jvn .null = 0 from rfl)] at D
    refine x_iconst (v := 0) rfl ki_0 ?_
    refine x_goto (tgt := 110) rfl rfl ?_
    exact jX.sub (jsb_c rfl (jsb_c rfl (jsb_c rfl (jsb_c rfl (jsb_c rfl (jsb_c rfl (jsb_c rfl (jsb_c rfl (jsb_c rfl (jsb_c rfl jsb_n)))))))))) (ct_X6_belongs_r120_c1d_200110 hD hQ k54 k63 l1 l2 l5 l6 l7 l8 .null h (jr_of rfl (by omega)) (jr_of rfl (by omega)) (jr_of rfl (by omega)) (jr_of rfl (by omega)) (jr_of rfl (by omega)) (Or.inl rfl) (by omega) (by omega) J Sm D)
  ·
    rw [if_neg (show ¬ jvn (.ref l9) = 0 from fun z => absurd (Nat.le_trans Tl9.1.1 (Nat.le_of_eq z)) (by decide))] at D
    rw [show jvn (.ref l9) = l9 from rfl] at D
    refine x_iconst (v := 0) rfl ki_0 ?_
    refine x_goto (tgt := 110) rfl rfl ?_
    exact jX.sub (jsb_c rfl (jsb_c rfl (jsb_c rfl (jsb_c rfl (jsb_c rfl (jsb_c rfl (jsb_c rfl (jsb_c rfl (jsb_c rfl (jsb_c rfl jsb_n)))))))))) (ct_X6_belongs_r120_c1d_200110 hD hQ k54 k63 l1 l2 l5 l6 l7 l8 (.ref l9) h (jr_of rfl (by omega)) (jr_of rfl (by omega)) (jr_of rfl (by omega)) (jr_of rfl (by omega)) (jr_of rfl (by omega)) (Or.inr ⟨_, rfl, Tl9⟩) (by omega) (by omega) J Sm D)
set_option maxRecDepth 100000 in
set_option maxHeartbeats 4000000 in
theorem ct_X6_belongs_r120_c1d_63 {Dy : jH → Prop} {h0 : jH} {Q : Option Value → jH → Prop} {dr : (Int × jW)} {K54 : Int → Int → Int → Int → Int → jW → (Int × jW)} {R54 : Int} (hD : jDk Dy) (hQ : ∀ (v : Int32) hx9, (-1) ≤ v.toInt ∧ v.toInt ≤ 11 → jJ jSgX Dy hx9 → jSm fp_X6_belongs_r120_c1d h0 hx9 → dr.1 = v.toInt → dr.2 = vw hx9 → Q (some (.int v)) hx9) (k54 : ∀ (l1 : Int32) (l2 : Int32) (l5 : Int32) (l6 : Int32) (l7 : Int32) (h : jH), 2 - l7.toInt < R54 → 0 ≤ l1.toInt ∧ l1.toInt ≤ 599 → 0 ≤ l2.toInt ∧ l2.toInt ≤ 146399 → 0 ≤ l5.toInt ∧ l5.toInt ≤ 6 → 0 ≤ l7.toInt ∧ l7.toInt ≤ 2 → jJ jSgX Dy h → jSm fp_X6_belongs_r120_c1d h0 h → K54 l1.toInt l2.toInt l5.toInt l6.toInt l7.toInt (vw h) = dr → jX m_X6_belongs 21 0 0 54 [(0, .ref 120), (1, .int l1), (2, .int l2), (3, .int 1), (4, .int 6), (5, .int l5), (6, .int l6), (7, .int l7)] [] h 0 0 Q) : ∀ r : Nat, ∀ (l1 : Int32) (l2 : Int32) (l5 : Int32) (l6 : Int32) (l7 : Int32) (l8 : Int32) (h : jH), 30 - l8.toInt < (r : Int) → 0 ≤ l1.toInt ∧ l1.toInt ≤ 599 → 0 ≤ l2.toInt ∧ l2.toInt ≤ 146399 → 0 ≤ l5.toInt ∧ l5.toInt ≤ 6 → 0 ≤ l7.toInt ∧ l7.toInt ≤ 1 → 0 ≤ l8.toInt ∧ l8.toInt ≤ 30 → 2 - l7.toInt ≤ R54 → jJ jSgX Dy h → jSm fp_X6_belongs_r120_c1d h0 h → d_X6_belongs_r120_c1d_63 K54 r l1.toInt l2.toInt l5.toInt l6.toInt l7.toInt l8.toInt (vw h) = dr → jX m_X6_belongs 21 0 0 63 [(0, .ref 120), (1, .int l1), (2, .int l2), (3, .int 1), (4, .int 6), (5, .int l5), (6, .int l6), (7, .int l7), (8, .int l8)] [] h 0 0 Q := by
  intro r
  induction r with
  | zero =>
    intro l1 l2 l5 l6 l7 l8 h hm y0 y1 y2 y3 y4  m54 J Sm D
    exfalso
    have el6 := jfull l6
    omega
  | succ r ih =>
    intro l1 l2 l5 l6 l7 l8 h hm y0 y1 y2 y3 y4  m54 J Sm D
    have el6 := jfull l6
    rw [d_X6_belongs_r120_c1d_63.eq_2] at D
    refine x_iload (x := l8) rfl rfl ?_
    refine x_aloadn (x := 120) rfl rfl ?_
    refine z_getR (N := 8) (b := 32) 6 0 rfl f_6_28 rfl J rfl 15360 ⟨rfl, rfl⟩ rfl ?_
    refine z_getI (N := 20) 1 18 rfl f_6_46 rfl J rfl sg_32_18_19_1_0_1 (fun v1 qv1 ev1 => ?_)
    try rw [vrf qv1] at D
    refine x_icge (tgt := 229) rfl rfl (ti_ge rfl rfl ⟨fun c2 => ?_, fun c2 => ?_⟩)
    ·
      rw [if_pos (by omega)] at D
      refine z_iinc (x := l7) (lsx9 := fun v3 => [(7, .int v3), (0, .ref 120), (1, .int l1), (2, .int l2), (3, .int 1), (4, .int 6), (5, .int l5), (6, .int l6), (8, .int l8)]) rfl rfl rfl jko_1 (by omega) rfl (fun _ => rfl) (fun v3 ev3 => ?_)
      refine x_goto (tgt := 54) rfl rfl ?_
      try rw [show (l7.toInt + 1) = v3.toInt from by omega] at D
      exact jX.sub (jsb_c rfl (jsb_c rfl (jsb_c rfl (jsb_c rfl (jsb_c rfl (jsb_c rfl (jsb_c rfl (jsb_c rfl jsb_n)))))))) (k54 l1 l2 l5 l6 v3 h (by omega) (jr_of rfl (by omega)) (jr_of rfl (by omega)) (jr_of rfl (by omega)) (jr_of rfl (by omega)) J Sm D)
    ·
      rw [if_neg (by omega)] at D
      refine x_aloadn (x := 120) rfl rfl ?_
      refine z_getR (N := 8) (b := 98) 6 2 rfl f_6_36 rfl J rfl 15362 ⟨rfl, rfl⟩ rfl ?_
      refine x_iload (x := l8) rfl rfl ?_
      refine x_inv (N := m_X0_textAt) (As := [.int l8]) (b := 98) (st := []) (dx9 := 20) (mc := 0) (ms := 0) (host := "") 0 rfl t_X0_textAt ⟨Or.inl q_6_51, i_X0_textAt.1, i_X0_textAt.2⟩ ⟨by decide, rfl⟩ (congrArg Prod.fst (J.1.1 98 (0, 16) rfl)) rfl (by decide) rfl rfl ⟨by decide, by decide⟩ (jC.of rfl k_X0_textAt rfl ?_)
      show jX m_X0_textAt 20 0 0 0 [(0, .ref 98), (1, .int l8)] [] _ 0 0 _
      refine x_iloadn (x := l8) rfl rfl ?_
      refine x_iflt (tgt := 33) rfl rfl (ti_lt rfl jk_0 (br_f (by omega) ?_))
      refine x_iloadn (x := l8) rfl rfl ?_
      refine x_aloadn (x := 98) rfl rfl ?_
      refine z_getR (N := 16) (b := 32) 0 0 rfl f_0_57 rfl J rfl 12544 ⟨rfl, rfl⟩ rfl ?_
      refine z_getM (N := 20) (v := v1) 1 18 rfl f_0_72 rfl J rfl qv1 ?_
      refine x_icge (tgt := 33) rfl rfl (ti_ge rfl rfl ⟨fun c4 => ?_, fun c4 => ?_⟩)
      ·
        rw [if_pos (by omega)] at D
        refine x_null rfl ?_
        refine x_aret rfl rfl rfl (Or.inl rfl) ?_
        show jX m_X6_belongs 21 0 0 84 [(0, .ref 120), (1, .int l1), (2, .int l2), (3, .int 1), (4, .int 6), (5, .int l5), (6, .int l6), (7, .int l7), (8, .int l8)] [.null] _ 0 0 _
        refine x_astoreN (lsx9 := [(9, .null), (0, .ref 120), (1, .int l1), (2, .int l2), (3, .int 1), (4, .int 6), (5, .int l5), (6, .int l6), (7, .int l7), (8, .int l8)]) rfl rfl rfl ?_
        refine x_aloadN rfl rfl ?_
        refine x_ifnullN (tgt := 101) rfl rfl ?_
        exact jX.sub (jsb_c rfl (jsb_c rfl (jsb_c rfl (jsb_c rfl (jsb_c rfl (jsb_c rfl (jsb_c rfl (jsb_c rfl (jsb_c rfl (jsb_c rfl jsb_n)))))))))) (ct_X6_belongs_r120_c1d_101 hD hQ k54 ih l1 l2 l5 l6 l7 l8 .null h (jr_of rfl (by omega)) (jr_of rfl (by omega)) (jr_of rfl (by omega)) (jr_of rfl (by omega)) (jr_of rfl (by omega)) (Or.inl rfl) (by omega) (by omega) J Sm D)
      ·
        rw [if_neg (by omega)] at D
        refine x_iloadn (x := l8) rfl rfl ?_
        refine x_bipush (v := 30) rfl kb_30 ?_
        refine x_icge (tgt := 33) rfl rfl (ti_ge rfl jk_30 (br_f (by omega) ?_))
        refine x_aloadn (x := 98) rfl rfl ?_
        refine z_getR (N := 16) (b := 32) 0 0 rfl f_0_57 rfl J rfl 12544 ⟨rfl, rfl⟩ rfl ?_
        refine z_getR (N := 20) (b := 66) 1 17 rfl f_0_77 rfl J rfl 4113 ⟨rfl, rfl⟩ rfl ?_
        refine x_iloadn (x := l8) rfl rfl ?_
        refine z_aaldTD rfl hD J rfl rfl (by omega) ⟨fun qb5 => ?_, fun b5 qb5 Tb5 => ?_⟩
        ·
          rw [if_pos (vnn qb5 (show l8.toInt = l8.toInt from by omega))] at D
          refine x_goto (tgt := 34) rfl rfl ?_
          refine x_aret rfl rfl rfl (Or.inl rfl) ?_
          show jX m_X6_belongs 21 0 0 84 [(0, .ref 120), (1, .int l1), (2, .int l2), (3, .int 1), (4, .int 6), (5, .int l5), (6, .int l6), (7, .int l7), (8, .int l8)] [.null] _ 0 0 _
          refine x_astoreN (lsx9 := [(9, .null), (0, .ref 120), (1, .int l1), (2, .int l2), (3, .int 1), (4, .int 6), (5, .int l5), (6, .int l6), (7, .int l7), (8, .int l8)]) rfl rfl rfl ?_
          refine x_aloadN rfl rfl ?_
          refine x_ifnullN (tgt := 101) rfl rfl ?_
          exact jX.sub (jsb_c rfl (jsb_c rfl (jsb_c rfl (jsb_c rfl (jsb_c rfl (jsb_c rfl (jsb_c rfl (jsb_c rfl (jsb_c rfl (jsb_c rfl jsb_n)))))))))) (ct_X6_belongs_r120_c1d_101 hD hQ k54 ih l1 l2 l5 l6 l7 l8 .null h (jr_of rfl (by omega)) (jr_of rfl (by omega)) (jr_of rfl (by omega)) (jr_of rfl (by omega)) (jr_of rfl (by omega)) (Or.inl rfl) (by omega) (by omega) J Sm D)
        ·
          rw [if_neg (vns qb5 (show l8.toInt = l8.toInt from by omega))] at D
          try rw [vrs qb5 (show l8.toInt = l8.toInt from by omega)] at D
          refine x_goto (tgt := 34) rfl rfl ?_
          refine x_aret rfl rfl rfl (Or.inr ⟨_, rfl⟩) ?_
          show jX m_X6_belongs 21 0 0 84 [(0, .ref 120), (1, .int l1), (2, .int l2), (3, .int 1), (4, .int 6), (5, .int l5), (6, .int l6), (7, .int l7), (8, .int l8)] [.ref b5] _ 0 0 _
          refine x_astore (lsx9 := [(9, .ref b5), (0, .ref 120), (1, .int l1), (2, .int l2), (3, .int 1), (4, .int 6), (5, .int l5), (6, .int l6), (7, .int l7), (8, .int l8)]) rfl rfl rfl ?_
          refine x_aload (x := b5) rfl rfl ?_
          refine x_ifnull rfl ?_
          refine x_aload (x := b5) rfl rfl ?_
          refine z_getTD 0 rfl f_6_55 rfl Tb5 (fun v6 qv6 => ?_)
          have ev6 := jfull v6
          try rw [vrf qv6] at D
          refine x_iload (x := l7) rfl rfl ?_
          refine x_iceq (tgt := 105) rfl rfl (ti_eq rfl rfl ⟨fun c7 => ?_, fun c7 => ?_⟩)
          ·
            rw [if_pos (by omega)] at D
            refine x_aload (x := b5) rfl rfl ?_
            refine z_getTcD rfl f_6_60 Tb5 (fun v8 qv8 ev8 => ?_)
            try rw [vrf qv8] at D
            exact jX.sub (jsb_c rfl (jsb_c rfl (jsb_c rfl (jsb_c rfl (jsb_c rfl (jsb_c rfl (jsb_c rfl (jsb_c rfl (jsb_c rfl (jsb_c rfl jsb_n)))))))))) (ct_X6_belongs_r120_c1d_110 hD hQ k54 ih l1 l2 l5 l6 l7 l8 b5 v8 h (jr_of rfl (by omega)) (jr_of rfl (by omega)) (jr_of rfl (by omega)) (jr_of rfl (by omega)) (jr_of rfl (by omega)) (jr_of rfl (by omega)) Tb5 (by omega) (by omega) J Sm D)
          ·
            rw [if_neg (by omega)] at D
            exact jX.sub (jsb_c rfl (jsb_c rfl (jsb_c rfl (jsb_c rfl (jsb_c rfl (jsb_c rfl (jsb_c rfl (jsb_c rfl (jsb_c rfl (jsb_c rfl jsb_n)))))))))) (ct_X6_belongs_r120_c1d_101 hD hQ k54 ih l1 l2 l5 l6 l7 l8 (.ref b5) h (jr_of rfl (by omega)) (jr_of rfl (by omega)) (jr_of rfl (by omega)) (jr_of rfl (by omega)) (jr_of rfl (by omega)) (Or.inr ⟨_, rfl, Tb5⟩) (by omega) (by omega) J Sm D)
set_option maxRecDepth 100000 in
set_option maxHeartbeats 4000000 in
theorem ct_X6_belongs_r120_c1d_54 {Dy : jH → Prop} {h0 : jH} {Q : Option Value → jH → Prop} {dr : (Int × jW)} (hD : jDk Dy) (hQ : ∀ (v : Int32) hx9, (-1) ≤ v.toInt ∧ v.toInt ≤ 11 → jJ jSgX Dy hx9 → jSm fp_X6_belongs_r120_c1d h0 hx9 → dr.1 = v.toInt → dr.2 = vw hx9 → Q (some (.int v)) hx9) : ∀ r : Nat, ∀ (l1 : Int32) (l2 : Int32) (l5 : Int32) (l6 : Int32) (l7 : Int32) (h : jH), 2 - l7.toInt < (r : Int) → 0 ≤ l1.toInt ∧ l1.toInt ≤ 599 → 0 ≤ l2.toInt ∧ l2.toInt ≤ 146399 → 0 ≤ l5.toInt ∧ l5.toInt ≤ 6 → 0 ≤ l7.toInt ∧ l7.toInt ≤ 2 → jJ jSgX Dy h → jSm fp_X6_belongs_r120_c1d h0 h → d_X6_belongs_r120_c1d_54 r l1.toInt l2.toInt l5.toInt l6.toInt l7.toInt (vw h) = dr → jX m_X6_belongs 21 0 0 54 [(0, .ref 120), (1, .int l1), (2, .int l2), (3, .int 1), (4, .int 6), (5, .int l5), (6, .int l6), (7, .int l7)] [] h 0 0 Q := by
  intro r
  induction r with
  | zero =>
    intro l1 l2 l5 l6 l7 h hm y0 y1 y2 y3   J Sm D
    exfalso
    have el6 := jfull l6
    omega
  | succ r ih =>
    intro l1 l2 l5 l6 l7 h hm y0 y1 y2 y3   J Sm D
    have el6 := jfull l6
    rw [d_X6_belongs_r120_c1d_54.eq_2] at D
    refine x_iload (x := l7) rfl rfl ?_
    refine x_iconst (v := 2) rfl ki_2 ?_
    refine x_icge (tgt := 235) rfl rfl (ti_ge rfl jk_2 ⟨fun c1 => ?_, fun c1 => ?_⟩)
    ·
      rw [if_pos (by omega)] at D
      refine x_iconst (v := 0) rfl ki_0 ?_
      refine x_istore (lsx9 := [(7, .int 0), (0, .ref 120), (1, .int l1), (2, .int l2), (3, .int 1), (4, .int 6), (5, .int l5), (6, .int l6)]) rfl rfl rfl ?_
      exact jX.sub (jsb_c rfl (jsb_c rfl (jsb_c rfl (jsb_c rfl (jsb_c rfl (jsb_c rfl (jsb_c rfl (jsb_c rfl jsb_n)))))))) (ct_X6_belongs_r120_c1d_238 hD hQ  7 l1 l2 l5 l6 0 h (by have := jk_0; omega) (jr_of rfl (by omega)) (jr_of rfl (by omega)) (jr_of rfl (by omega)) (jr_of jk_0 (by omega)) J Sm (by rw [jk_0]; exact D))
    ·
      rw [if_neg (by omega)] at D
      refine x_iconst (v := 0) rfl ki_0 ?_
      refine x_istore (lsx9 := [(8, .int 0), (0, .ref 120), (1, .int l1), (2, .int l2), (3, .int 1), (4, .int 6), (5, .int l5), (6, .int l6), (7, .int l7)]) rfl rfl rfl ?_
      exact jX.sub (jsb_c rfl (jsb_c rfl (jsb_c rfl (jsb_c rfl (jsb_c rfl (jsb_c rfl (jsb_c rfl (jsb_c rfl (jsb_c rfl jsb_n))))))))) (ct_X6_belongs_r120_c1d_63 hD hQ ih 31 l1 l2 l5 l6 l7 0 h (by have := jk_0; omega) (jr_of rfl (by omega)) (jr_of rfl (by omega)) (jr_of rfl (by omega)) (jr_of rfl (by omega)) (jr_of jk_0 (by omega)) (by omega) J Sm (by rw [jk_0]; exact D))
set_option maxRecDepth 100000 in
set_option maxHeartbeats 4000000 in
theorem sf_X6_belongs_r120_c1d {Dy : jH → Prop} {h : jH} {Q : Option Value → jH → Prop} {dr : (Int × jW)} {a1 : Int32} {a2 : Int32} (y1 : (-1) ≤ a1.toInt ∧ a1.toInt ≤ 599) (y2 : 0 ≤ a2.toInt ∧ a2.toInt ≤ 146399) (hD : jDk Dy) (J : jJ jSgX Dy h) (D : d_X6_belongs_r120_c1d a1.toInt a2.toInt (vw h) = dr) (hQ : ∀ (v : Int32) hx9, (-1) ≤ v.toInt ∧ v.toInt ≤ 11 → jJ jSgX Dy hx9 → jSm fp_X6_belongs_r120_c1d h hx9 → dr.1 = v.toInt → dr.2 = vw hx9 → Q (some (.int v)) hx9) : jC m_X6_belongs 21 0 0 [.ref 120, .int a1, .int a2, .int 1] h Q := by
  refine jC.of rfl k_X6_belongs rfl ?_
  have Sm := jSm_rf fp_X6_belongs_r120_c1d h
  show jX m_X6_belongs 21 0 0 0 [(0, .ref 120), (1, .int a1), (2, .int a2), (3, .int 1)] [] _ 0 0 _
  unfold d_X6_belongs_r120_c1d at D
  refine x_aloadn (x := 120) rfl rfl ?_
  refine x_iconst (v := (-1)) rfl ki_m1 ?_
  refine z_putI (N := 8) (w := (-1)) 6 6 rfl f_6_22 rfl (jfin_no TX6 RX6 8 rfl rfl) hD J Sm rfl rfl jk_m1 (pw_120_6 (by omega)) rfl (fun h w1 J Sm => ?_)
  rw [vwf w1 (show (-1) = ((-1) : Int32).toInt from by have := jk_m1; omega)] at D
  refine x_aloadn (x := 120) rfl rfl ?_
  refine x_iconst (v := 0) rfl ki_0 ?_
  refine z_putI (N := 8) (w := 0) 6 7 rfl f_6_25 rfl (jfin_no TX6 RX6 8 rfl rfl) hD J Sm rfl rfl jk_0 (pw_120_7 trivial) rfl (fun h w2 J Sm => ?_)
  rw [vwf w2 (show 0 = (0 : Int32).toInt from by have := jk_0; omega)] at D
  refine x_iloadn (x := a1) rfl rfl ?_
  refine x_iconst (v := (-1)) rfl ki_m1 ?_
  refine x_iceq (tgt := 25) rfl rfl (ti_eq rfl jk_m1 ⟨fun c3 => ?_, fun c3 => ?_⟩)
  ·
    rw [if_pos (by omega)] at D
    exact jX.sub jsb_n (ct_X6_belongs_r120_c1d_25 hD hQ  h J Sm D)
  ·
    rw [if_neg (by omega)] at D
    refine x_iloadn (x := 1) rfl rfl ?_
    refine x_iflt (tgt := 25) rfl rfl (ti_lt jk_1 jk_0 (br_f (by omega) ?_))
    refine x_iloadn (x := 1) rfl rfl ?_
    refine x_bipush (v := 6) rfl kb_6 ?_
    refine x_icle (tgt := 27) rfl rfl (ti_le jk_1 jk_6 (br_t (by omega) ?_))
    refine x_aloadn (x := 120) rfl rfl ?_
    refine z_getR (N := 8) (b := 98) 6 2 rfl f_6_36 rfl J rfl 15362 ⟨rfl, rfl⟩ rfl ?_
    refine x_iloadn (x := a2) rfl rfl ?_
    refine x_aloadn (x := 120) rfl rfl ?_
    refine z_getI (N := 8) 6 5 rfl f_6_18 rfl J rfl sg_120_5_6_1_0_1 (fun v4 qv4 ev4 => ?_)
    try rw [vrf (jmb_w w1 (jmb_w w2 qv4 rfl) rfl)] at D
    refine x_inv (N := m_X0_turnTo) (As := [.int a2, .int v4]) (b := 98) (st := []) (dx9 := 20) (mc := 0) (ms := 0) (host := "") 0 rfl t_X0_turnTo ⟨Or.inl q_6_40, i_X0_turnTo.1, i_X0_turnTo.2⟩ ⟨by decide, rfl⟩ (congrArg Prod.fst (J.1.1 98 (0, 16) rfl)) rfl (by decide) rfl rfl ⟨by decide, by decide⟩ (jC.of rfl k_X0_turnTo rfl ?_)
    show jX m_X0_turnTo 20 0 0 0 [(0, .ref 98), (1, .int a2), (2, .int v4)] [] _ 0 0 _
    refine x_aloadn (x := 98) rfl rfl ?_
    refine x_iloadn (x := a2) rfl rfl ?_
    refine x_iloadn (x := v4) rfl rfl ?_
    refine x_inv (N := m_X0_readLaws) (As := [.int a2, .int v4]) (b := 98) (st := []) (dx9 := 3) (mc := 0) (ms := 0) (host := "") 0 rfl t_X0_readLaws ⟨Or.inl q_0_65, i_X0_readLaws.1, i_X0_readLaws.2⟩ ⟨by decide, rfl⟩ (congrArg Prod.fst (J.1.1 98 (0, 16) rfl)) rfl (by decide) rfl rfl ⟨by decide, by decide⟩ (sf_X0_readLaws_r98d (jr_of rfl (by omega)) (jr_of rfl (by omega)) hD J rfl  (fun h J S5 X6 => ?_))
    have Sm := jSm_tr rfl Sm S5
    rw [X6] at D
    show jX m_X0_turnTo 20 0 0 6 [(0, .ref 98), (1, .int a2), (2, .int v4)] [] _ 0 0 _
    refine x_aloadn (x := 98) rfl rfl ?_
    refine x_iloadn (x := a2) rfl rfl ?_
    refine x_iloadn (x := v4) rfl rfl ?_
    refine x_inv (N := m_X0_readHouses) (As := [.int a2, .int v4]) (b := 98) (st := []) (dx9 := 3) (mc := 0) (ms := 0) (host := "") 0 rfl t_X0_readHouses ⟨Or.inl q_0_69, i_X0_readHouses.1, i_X0_readHouses.2⟩ ⟨by decide, rfl⟩ (congrArg Prod.fst (J.1.1 98 (0, 16) rfl)) rfl (by decide) rfl rfl ⟨by decide, by decide⟩ (sf_X0_readHouses_r98d (jr_of rfl (by omega)) (jr_of rfl (by omega)) hD J rfl  (fun h J S7 X8 => ?_))
    have Sm := jSm_tr rfl Sm S7
    rw [X8] at D
    show jX m_X0_turnTo 20 0 0 12 [(0, .ref 98), (1, .int a2), (2, .int v4)] [] _ 0 0 _
    refine x_vret rfl rfl ?_
    show jX m_X6_belongs 21 0 0 39 [(0, .ref 120), (1, .int a1), (2, .int a2), (3, .int 1)] [] _ 0 0 _
    refine x_iloadn (x := 1) rfl rfl ?_
    refine x_bipush (v := 6) rfl kb_6 ?_
    refine y_imul (v := 6) rfl (by decide) ?_
    refine x_istore (lsx9 := [(4, .int 6), (0, .ref 120), (1, .int a1), (2, .int a2), (3, .int 1)]) rfl rfl rfl ?_
    refine x_iconst (v := 0) rfl ki_0 ?_
    refine x_istore (lsx9 := [(5, .int 0), (4, .int 6), (0, .ref 120), (1, .int a1), (2, .int a2), (3, .int 1)]) rfl rfl rfl ?_
    refine x_iconst (v := 0) rfl ki_0 ?_
    refine x_istore (lsx9 := [(6, .int 0), (5, .int 0), (4, .int 6), (0, .ref 120), (1, .int a1), (2, .int a2), (3, .int 1)]) rfl rfl rfl ?_
    refine x_iconst (v := 0) rfl ki_0 ?_
    refine x_istore (lsx9 := [(7, .int 0), (6, .int 0), (5, .int 0), (4, .int 6), (0, .ref 120), (1, .int a1), (2, .int a2), (3, .int 1)]) rfl rfl rfl ?_
    exact jX.sub (jsb_c rfl (jsb_c rfl (jsb_c rfl (jsb_c rfl (jsb_c rfl (jsb_c rfl (jsb_c rfl (jsb_c rfl jsb_n)))))))) (ct_X6_belongs_r120_c1d_54 hD hQ  3 a1 a2 0 0 0 h (by have := jk_0; omega) (jr_of rfl (by omega)) (jr_of rfl (by omega)) (jr_of jk_0 (by omega)) (jr_of jk_0 (by omega)) J Sm (by rw [jk_0]; exact D))
