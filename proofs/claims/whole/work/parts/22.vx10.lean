def fp_X6_byParents_r120_c2d : jFp := [(85, 0, 4), (98, 10, 11), (98, 11, 12), (98, 12, 13), (99, 0, 30), (100, 0, 30), (101, 0, 3), (102, 0, 40), (103, 0, 40), (104, 0, 40), (105, 0, 3), (106, 0, 100), (120, 6, 7), (120, 7, 8), (121, 0, 42), (122, 0, 42)]
set_option maxRecDepth 100000 in
set_option maxHeartbeats 4000000 in
theorem ct_X6_byParents_r120_c2d_20 {Dy : jH → Prop} {h0 : jH} {Q : Option Value → jH → Prop} {dr : (Int × jW)} (hD : jDk Dy) (hQ : ∀ (v : Int32) hx9, (-1) ≤ v.toInt ∧ v.toInt ≤ 11 → jJ jSgX Dy hx9 → jSm fp_X6_byParents_r120_c2d h0 hx9 → dr.1 = v.toInt → dr.2 = vw hx9 → Q (some (.int v)) hx9) : ∀ (h : jH), jJ jSgX Dy h → jSm fp_X6_byParents_r120_c2d h0 h → d_X6_byParents_r120_c2d_20  (vw h) = dr → jX m_X6_byParents 16 0 0 20 [] [] h 0 0 Q := by
  intro  h    J Sm D
  unfold d_X6_byParents_r120_c2d_20 at D
  refine x_iconst (v := (-1)) rfl ki_m1 ?_
  refine x_iret rfl rfl ?_
  exact hQ _ _ (jr_of jk_m1 (by omega)) J Sm ((congrArg Prod.fst D).symm.trans (show (-1) = ((-1) : Int32).toInt from by have := jk_m1; omega)) (congrArg Prod.snd D).symm
set_option maxRecDepth 100000 in
set_option maxHeartbeats 4000000 in
theorem ct_X6_byParents_r120_c2d_84 {Dy : jH → Prop} {h0 : jH} {Q : Option Value → jH → Prop} {dr : (Int × jW)} (hD : jDk Dy) (hQ : ∀ (v : Int32) hx9, (-1) ≤ v.toInt ∧ v.toInt ≤ 11 → jJ jSgX Dy hx9 → jSm fp_X6_byParents_r120_c2d h0 hx9 → dr.1 = v.toInt → dr.2 = vw hx9 → Q (some (.int v)) hx9) : ∀ (s0 : Int32) (h : jH), (-1) ≤ s0.toInt ∧ s0.toInt ≤ 11 → jJ jSgX Dy h → jSm fp_X6_byParents_r120_c2d h0 h → d_X6_byParents_r120_c2d_84  s0.toInt (vw h) = dr → jX m_X6_byParents 16 0 0 84 [] [.int s0] h 0 0 Q := by
  intro s0 h y0   J Sm D
  unfold d_X6_byParents_r120_c2d_84 at D
  refine x_iret rfl rfl ?_
  exact hQ _ _ (jr_of rfl (by omega)) J Sm ((congrArg Prod.fst D).symm.trans (show s0.toInt = s0.toInt from by omega)) (congrArg Prod.snd D).symm
set_option maxRecDepth 100000 in
set_option maxHeartbeats 4000000 in
theorem sf_X6_byParents_r120_c2d {Dy : jH → Prop} {h : jH} {Q : Option Value → jH → Prop} {dr : (Int × jW)} {a1 : Int32} (y1 : 0 ≤ a1.toInt ∧ a1.toInt ≤ 599) (hD : jDk Dy) (J : jJ jSgX Dy h) (D : d_X6_byParents_r120_c2d a1.toInt (vw h) = dr) (hQ : ∀ (v : Int32) hx9, (-1) ≤ v.toInt ∧ v.toInt ≤ 11 → jJ jSgX Dy hx9 → jSm fp_X6_byParents_r120_c2d h hx9 → dr.1 = v.toInt → dr.2 = vw hx9 → Q (some (.int v)) hx9) : jC m_X6_byParents 16 0 0 [.ref 120, .int a1, .int 2] h Q := by
  refine jC.of rfl k_X6_byParents rfl ?_
  have Sm := jSm_rf fp_X6_byParents_r120_c2d h
  show jX m_X6_byParents 16 0 0 0 [(0, .ref 120), (1, .int a1), (2, .int 2)] [] _ 0 0 _
  unfold d_X6_byParents_r120_c2d at D
  refine x_aloadn (x := 120) rfl rfl ?_
  refine z_getR (N := 8) (b := 78) 6 1 rfl f_6_32 rfl J rfl 15361 ⟨rfl, rfl⟩ rfl ?_
  refine x_iloadn (x := a1) rfl rfl ?_
  refine x_inv (N := m_X7_birthOf) (As := [.int a1]) (b := 78) (st := []) (dx9 := 1) (mc := 0) (ms := 0) (host := "") 7 rfl t_X7_birthOf ⟨Or.inl q_6_130, i_X7_birthOf.1, i_X7_birthOf.2⟩ ⟨by decide, rfl⟩ (congrArg Prod.fst (J.1.1 78 (7, 16) rfl)) rfl (by decide) rfl rfl ⟨by decide, by decide⟩ (sf_X7_birthOf_r78d (jr_of rfl (by omega)) hD J rfl  (fun v4 h ev4 J S1 X2 X3 => ?_))
  have Sm := jSm_tr rfl Sm S1
  try rw [X2] at D
  try rw [← X3] at D
  show jX m_X6_byParents 16 0 0 8 [(0, .ref 120), (1, .int a1), (2, .int 2)] [.int v4] _ 0 0 _
  refine x_istoren (lsx9 := [(3, .int v4), (0, .ref 120), (1, .int a1), (2, .int 2)]) rfl rfl rfl ?_
  refine x_iloadn (x := v4) rfl rfl ?_
  refine x_iconst (v := (-1)) rfl ki_m1 ?_
  refine x_iceq (tgt := 20) rfl rfl (ti_eq rfl jk_m1 ⟨fun c5 => ?_, fun c5 => ?_⟩)
  ·
    rw [if_pos (by omega)] at D
    exact jX.sub jsb_n (ct_X6_byParents_r120_c2d_20 hD hQ  h J Sm D)
  ·
    rw [if_neg (by omega)] at D
    refine x_iloadn (x := 2) rfl rfl ?_
    refine x_bipush (v := 6) rfl kb_6 ?_
    refine x_iclt (tgt := 22) rfl rfl (ti_lt jk_2 jk_6 (br_t (by omega) ?_))
    refine x_aloadn (x := 120) rfl rfl ?_
    refine z_getR (N := 8) (b := 78) 6 1 rfl f_6_32 rfl J rfl 15361 ⟨rfl, rfl⟩ rfl ?_
    refine z_getR (N := 16) (b := 80) 7 8 rfl f_6_118 rfl J rfl 9992 ⟨rfl, rfl⟩ rfl ?_
    refine x_iloadn (x := v4) rfl rfl ?_
    refine z_iald (N := 600) rfl J rfl sg_80_0_600_1_0_1 rfl (by omega) (fun v6 qv6 ev6 => ?_)
    try rw [vrd qv6 (show v4.toInt = v4.toInt from by omega)] at D
    refine x_istore (lsx9 := [(4, .int v6), (3, .int v4), (0, .ref 120), (1, .int a1), (2, .int 2)]) rfl rfl rfl ?_
    refine x_aloadn (x := 120) rfl rfl ?_
    refine x_aloadn (x := 120) rfl rfl ?_
    refine z_getR (N := 8) (b := 78) 6 1 rfl f_6_32 rfl J rfl 15361 ⟨rfl, rfl⟩ rfl ?_
    refine x_iloadn (x := v4) rfl rfl ?_
    refine x_iconst (v := 1) rfl ki_1 ?_
    refine z_iadd rfl rfl jk_1 (by omega) (fun v7 ev7 => ?_)
    refine x_inv (N := m_X7_namedSoul) (As := [.int v7]) (b := 78) (st := [.ref 120]) (dx9 := 15) (mc := 0) (ms := 0) (host := "") 7 rfl t_X7_namedSoul ⟨Or.inl q_6_124, i_X7_namedSoul.1, i_X7_namedSoul.2⟩ ⟨by decide, rfl⟩ (congrArg Prod.fst (J.1.1 78 (7, 16) rfl)) rfl (by decide) rfl rfl ⟨by decide, by decide⟩ (jC.of rfl k_X7_namedSoul rfl ?_)
    show jX m_X7_namedSoul 15 0 0 0 [(0, .ref 78), (1, .int v7)] [] _ 0 0 _
    refine x_aloadn (x := 78) rfl rfl ?_
    refine z_getR (N := 16) (b := 70) 7 1 rfl f_7_59 rfl J rfl 9985 ⟨rfl, rfl⟩ rfl ?_
    refine x_iloadn (x := v7) rfl rfl ?_
    refine x_inv (N := m_X5_isNamed) (As := [.int v7]) (b := 70) (st := []) (dx9 := 14) (mc := 0) (ms := 0) (host := "") 5 rfl t_X5_isNamed ⟨Or.inl q_7_173, i_X5_isNamed.1, i_X5_isNamed.2⟩ ⟨by decide, rfl⟩ (congrArg Prod.fst (J.1.1 70 (5, 9) rfl)) rfl (by decide) rfl rfl ⟨by decide, by decide⟩ (jC.of rfl k_X5_isNamed rfl ?_)
    show jX m_X5_isNamed 14 0 0 0 [(0, .ref 70), (1, .int v7)] [] _ 0 0 _
    refine x_aloadn (x := 70) rfl rfl ?_
    refine x_iloadn (x := v7) rfl rfl ?_
    refine x_iconst (v := 0) rfl ki_0 ?_
    refine x_inv (N := m_X5_lengthOf) (As := [.int v7, .int 0]) (b := 70) (st := []) (dx9 := 13) (mc := 0) (ms := 0) (host := "") 5 rfl t_X5_lengthOf ⟨Or.inl q_5_133, i_X5_lengthOf.1, i_X5_lengthOf.2⟩ ⟨by decide, rfl⟩ (congrArg Prod.fst (J.1.1 70 (5, 9) rfl)) rfl (by decide) rfl rfl ⟨by decide, by decide⟩ (jC.of rfl k_X5_lengthOf rfl ?_)
    show jX m_X5_lengthOf 13 0 0 0 [(0, .ref 70), (1, .int v7), (2, .int 0)] [] _ 0 0 _
    refine x_iloadn (x := v7) rfl rfl ?_
    refine x_iconst (v := 2) rfl ki_2 ?_
    refine z_imul rfl rfl jk_2 (by omega) (fun v8 ev8 => ?_)
    refine x_iloadn (x := 0) rfl rfl ?_
    refine z_iadd rfl rfl jk_0 (by omega) (fun v9 ev9 => ?_)
    refine x_istoren (lsx9 := [(3, .int v9), (0, .ref 70), (1, .int v7), (2, .int 0)]) rfl rfl rfl ?_
    refine x_iloadn (x := v9) rfl rfl ?_
    refine x_iflt (tgt := 26) rfl rfl (ti_lt rfl jk_0 (br_f (by omega) ?_))
    refine x_iloadn (x := v9) rfl rfl ?_
    refine x_sipush (v := 1200) rfl ks_1200 ?_
    refine x_icge (tgt := 26) rfl rfl (ti_ge rfl jk_1200 ⟨fun c10 => ?_, fun c10 => ?_⟩)
    ·
      rw [if_pos (by omega)] at D
      refine x_iconst (v := (-1)) rfl ki_m1 ?_
      refine x_iret rfl rfl ?_
      show jX m_X5_isNamed 14 0 0 6 [(0, .ref 70), (1, .int v7)] [.int (-1)] _ 0 0 _
      refine x_ifge (tgt := 18) rfl rfl (ti_ge jk_m1 jk_0 (br_f (by omega) ?_))
      refine x_aloadn (x := 70) rfl rfl ?_
      refine x_iloadn (x := v7) rfl rfl ?_
      refine x_iconst (v := 1) rfl ki_1 ?_
      refine x_inv (N := m_X5_lengthOf) (As := [.int v7, .int 1]) (b := 70) (st := []) (dx9 := 13) (mc := 0) (ms := 0) (host := "") 5 rfl t_X5_lengthOf ⟨Or.inl q_5_133, i_X5_lengthOf.1, i_X5_lengthOf.2⟩ ⟨by decide, rfl⟩ (congrArg Prod.fst (J.1.1 70 (5, 9) rfl)) rfl (by decide) rfl rfl ⟨by decide, by decide⟩ (jC.of rfl k_X5_lengthOf rfl ?_)
      show jX m_X5_lengthOf 13 0 0 0 [(0, .ref 70), (1, .int v7), (2, .int 1)] [] _ 0 0 _
      refine x_iloadn (x := v7) rfl rfl ?_
      refine x_iconst (v := 2) rfl ki_2 ?_
      refine z_imul rfl rfl jk_2 (by omega) (fun v11 ev11 => ?_)
      refine x_iloadn (x := 1) rfl rfl ?_
      refine z_iadd rfl rfl jk_1 (by omega) (fun v12 ev12 => ?_)
      refine x_istoren (lsx9 := [(3, .int v12), (0, .ref 70), (1, .int v7), (2, .int 1)]) rfl rfl rfl ?_
      refine x_iloadn (x := v12) rfl rfl ?_
      refine x_iflt (tgt := 26) rfl rfl (ti_lt rfl jk_0 (br_f (by omega) ?_))
      refine x_iloadn (x := v12) rfl rfl ?_
      refine x_sipush (v := 1200) rfl ks_1200 ?_
      refine x_icge (tgt := 26) rfl rfl (ti_ge rfl jk_1200 ⟨fun c13 => ?_, fun c13 => ?_⟩)
      ·
        rw [if_pos (by omega)] at D
        refine x_iconst (v := (-1)) rfl ki_m1 ?_
        refine x_iret rfl rfl ?_
        show jX m_X5_isNamed 14 0 0 15 [(0, .ref 70), (1, .int v7)] [.int (-1)] _ 0 0 _
        refine x_iflt (tgt := 22) rfl rfl (ti_lt jk_m1 jk_0 (br_t (by omega) ?_))
        refine x_iconst (v := 0) rfl ki_0 ?_
        refine x_zret rfl rfl (by decide) ?_
        show jX m_X7_namedSoul 15 0 0 8 [(0, .ref 78), (1, .int v7)] [.int 0] _ 0 0 _
        refine x_ifeq (tgt := 19) rfl rfl (ti_eq jk_0 jk_0 (br_t (by omega) ?_))
        refine x_iconst (v := (-1)) rfl ki_m1 ?_
        refine x_iret rfl rfl ?_
        show jX m_X6_byParents 16 0 0 44 [(4, .int v6), (3, .int v4), (0, .ref 120), (1, .int a1), (2, .int 2)] [.int (-1), .ref 120] _ 0 0 _
        refine x_iload (x := v6) rfl rfl ?_
        refine x_iloadn (x := 2) rfl rfl ?_
        refine x_iconst (v := 1) rfl ki_1 ?_
        refine y_iadd (v := 3) rfl (by decide) ?_
        refine x_inv (N := m_X6_belongs) (As := [.int (-1), .int v6, .int 3]) (b := 120) (st := []) (dx9 := 15) (mc := 0) (ms := 0) (host := "") 6 rfl t_X6_belongs ⟨Or.inl q_6_127, i_X6_belongs.1, i_X6_belongs.2⟩ ⟨by decide, rfl⟩ (congrArg Prod.fst (J.1.1 120 (6, 8) rfl)) rfl (by decide) rfl rfl ⟨by decide, by decide⟩ (sf_X6_belongs_r120_c3d (jr_of jk_m1 (by omega)) (jr_of rfl (by omega)) hD J rfl  (fun v17 h ev17 J S14 X15 X16 => ?_))
        have Sm := jSm_tr rfl Sm S14
        try rw [jk_m1] at X15
        try rw [jk_m1] at X16
        try rw [X15] at D
        try rw [X16] at D
        show jX m_X6_byParents 16 0 0 52 [(4, .int v6), (3, .int v4), (0, .ref 120), (1, .int a1), (2, .int 2)] [.int v17] _ 0 0 _
        refine x_istore (lsx9 := [(5, .int v17), (4, .int v6), (3, .int v4), (0, .ref 120), (1, .int a1), (2, .int 2)]) rfl rfl rfl ?_
        refine x_iload (x := v17) rfl rfl ?_
        refine x_iconst (v := (-1)) rfl ki_m1 ?_
        refine x_iceq (tgt := 65) rfl rfl (ti_eq rfl jk_m1 ⟨fun c18 => ?_, fun c18 => ?_⟩)
        ·
          rw [if_pos (by omega)] at D
          refine x_aloadn (x := 120) rfl rfl ?_
          refine x_aloadn (x := 120) rfl rfl ?_
          refine z_getR (N := 8) (b := 78) 6 1 rfl f_6_32 rfl J rfl 15361 ⟨rfl, rfl⟩ rfl ?_
          refine x_iloadn (x := v4) rfl rfl ?_
          refine x_iconst (v := 2) rfl ki_2 ?_
          refine z_iadd rfl rfl jk_2 (by omega) (fun v19 ev19 => ?_)
          refine x_inv (N := m_X7_namedSoul) (As := [.int v19]) (b := 78) (st := [.ref 120]) (dx9 := 15) (mc := 0) (ms := 0) (host := "") 7 rfl t_X7_namedSoul ⟨Or.inl q_6_124, i_X7_namedSoul.1, i_X7_namedSoul.2⟩ ⟨by decide, rfl⟩ (congrArg Prod.fst (J.1.1 78 (7, 16) rfl)) rfl (by decide) rfl rfl ⟨by decide, by decide⟩ (jC.of rfl k_X7_namedSoul rfl ?_)
          show jX m_X7_namedSoul 15 0 0 0 [(0, .ref 78), (1, .int v19)] [] _ 0 0 _
          refine x_aloadn (x := 78) rfl rfl ?_
          refine z_getR (N := 16) (b := 70) 7 1 rfl f_7_59 rfl J rfl 9985 ⟨rfl, rfl⟩ rfl ?_
          refine x_iloadn (x := v19) rfl rfl ?_
          refine x_inv (N := m_X5_isNamed) (As := [.int v19]) (b := 70) (st := []) (dx9 := 14) (mc := 0) (ms := 0) (host := "") 5 rfl t_X5_isNamed ⟨Or.inl q_7_173, i_X5_isNamed.1, i_X5_isNamed.2⟩ ⟨by decide, rfl⟩ (congrArg Prod.fst (J.1.1 70 (5, 9) rfl)) rfl (by decide) rfl rfl ⟨by decide, by decide⟩ (jC.of rfl k_X5_isNamed rfl ?_)
          show jX m_X5_isNamed 14 0 0 0 [(0, .ref 70), (1, .int v19)] [] _ 0 0 _
          refine x_aloadn (x := 70) rfl rfl ?_
          refine x_iloadn (x := v19) rfl rfl ?_
          refine x_iconst (v := 0) rfl ki_0 ?_
          refine x_inv (N := m_X5_lengthOf) (As := [.int v19, .int 0]) (b := 70) (st := []) (dx9 := 13) (mc := 0) (ms := 0) (host := "") 5 rfl t_X5_lengthOf ⟨Or.inl q_5_133, i_X5_lengthOf.1, i_X5_lengthOf.2⟩ ⟨by decide, rfl⟩ (congrArg Prod.fst (J.1.1 70 (5, 9) rfl)) rfl (by decide) rfl rfl ⟨by decide, by decide⟩ (jC.of rfl k_X5_lengthOf rfl ?_)
          show jX m_X5_lengthOf 13 0 0 0 [(0, .ref 70), (1, .int v19), (2, .int 0)] [] _ 0 0 _
          refine x_iloadn (x := v19) rfl rfl ?_
          refine x_iconst (v := 2) rfl ki_2 ?_
          refine z_imul rfl rfl jk_2 (by omega) (fun v20 ev20 => ?_)
          refine x_iloadn (x := 0) rfl rfl ?_
          refine z_iadd rfl rfl jk_0 (by omega) (fun v21 ev21 => ?_)
          refine x_istoren (lsx9 := [(3, .int v21), (0, .ref 70), (1, .int v19), (2, .int 0)]) rfl rfl rfl ?_
          refine x_iloadn (x := v21) rfl rfl ?_
          refine x_iflt (tgt := 26) rfl rfl (ti_lt rfl jk_0 (br_f (by omega) ?_))
          refine x_iloadn (x := v21) rfl rfl ?_
          refine x_sipush (v := 1200) rfl ks_1200 ?_
          refine x_icge (tgt := 26) rfl rfl (ti_ge rfl jk_1200 ⟨fun c22 => ?_, fun c22 => ?_⟩)
          ·
            rw [if_pos (by omega)] at D
            refine x_iconst (v := (-1)) rfl ki_m1 ?_
            refine x_iret rfl rfl ?_
            show jX m_X5_isNamed 14 0 0 6 [(0, .ref 70), (1, .int v19)] [.int (-1)] _ 0 0 _
            refine x_ifge (tgt := 18) rfl rfl (ti_ge jk_m1 jk_0 (br_f (by omega) ?_))
            refine x_aloadn (x := 70) rfl rfl ?_
            refine x_iloadn (x := v19) rfl rfl ?_
            refine x_iconst (v := 1) rfl ki_1 ?_
            refine x_inv (N := m_X5_lengthOf) (As := [.int v19, .int 1]) (b := 70) (st := []) (dx9 := 13) (mc := 0) (ms := 0) (host := "") 5 rfl t_X5_lengthOf ⟨Or.inl q_5_133, i_X5_lengthOf.1, i_X5_lengthOf.2⟩ ⟨by decide, rfl⟩ (congrArg Prod.fst (J.1.1 70 (5, 9) rfl)) rfl (by decide) rfl rfl ⟨by decide, by decide⟩ (jC.of rfl k_X5_lengthOf rfl ?_)
            show jX m_X5_lengthOf 13 0 0 0 [(0, .ref 70), (1, .int v19), (2, .int 1)] [] _ 0 0 _
            refine x_iloadn (x := v19) rfl rfl ?_
            refine x_iconst (v := 2) rfl ki_2 ?_
            refine z_imul rfl rfl jk_2 (by omega) (fun v23 ev23 => ?_)
            refine x_iloadn (x := 1) rfl rfl ?_
            refine z_iadd rfl rfl jk_1 (by omega) (fun v24 ev24 => ?_)
            refine x_istoren (lsx9 := [(3, .int v24), (0, .ref 70), (1, .int v19), (2, .int 1)]) rfl rfl rfl ?_
            refine x_iloadn (x := v24) rfl rfl ?_
            refine x_iflt (tgt := 26) rfl rfl (ti_lt rfl jk_0 (br_f (by omega) ?_))
            refine x_iloadn (x := v24) rfl rfl ?_
            refine x_sipush (v := 1200) rfl ks_1200 ?_
            refine x_icge (tgt := 26) rfl rfl (ti_ge rfl jk_1200 ⟨fun c25 => ?_, fun c25 => ?_⟩)
            ·
              rw [if_pos (by omega)] at D
              refine x_iconst (v := (-1)) rfl ki_m1 ?_
              refine x_iret rfl rfl ?_
              show jX m_X5_isNamed 14 0 0 15 [(0, .ref 70), (1, .int v19)] [.int (-1)] _ 0 0 _
              refine x_iflt (tgt := 22) rfl rfl (ti_lt jk_m1 jk_0 (br_t (by omega) ?_))
              refine x_iconst (v := 0) rfl ki_0 ?_
              refine x_zret rfl rfl (by decide) ?_
              show jX m_X7_namedSoul 15 0 0 8 [(0, .ref 78), (1, .int v19)] [.int 0] _ 0 0 _
              refine x_ifeq (tgt := 19) rfl rfl (ti_eq jk_0 jk_0 (br_t (by omega) ?_))
              refine x_iconst (v := (-1)) rfl ki_m1 ?_
              refine x_iret rfl rfl ?_
              show jX m_X6_byParents 16 0 0 76 [(5, .int v17), (4, .int v6), (3, .int v4), (0, .ref 120), (1, .int a1), (2, .int 2)] [.int (-1), .ref 120] _ 0 0 _
              refine x_iload (x := v6) rfl rfl ?_
              refine x_iloadn (x := 2) rfl rfl ?_
              refine x_iconst (v := 1) rfl ki_1 ?_
              refine y_iadd (v := 3) rfl (by decide) ?_
              refine x_inv (N := m_X6_belongs) (As := [.int (-1), .int v6, .int 3]) (b := 120) (st := []) (dx9 := 15) (mc := 0) (ms := 0) (host := "") 6 rfl t_X6_belongs ⟨Or.inl q_6_127, i_X6_belongs.1, i_X6_belongs.2⟩ ⟨by decide, rfl⟩ (congrArg Prod.fst (J.1.1 120 (6, 8) rfl)) rfl (by decide) rfl rfl ⟨by decide, by decide⟩ (sf_X6_belongs_r120_c3d (jr_of jk_m1 (by omega)) (jr_of rfl (by omega)) hD J rfl  (fun v29 h ev29 J S26 X27 X28 => ?_))
              have Sm := jSm_tr rfl Sm S26
              try rw [jk_m1] at X27
              try rw [jk_m1] at X28
              try rw [X27] at D
              try rw [X28] at D
              show jX m_X6_byParents 16 0 0 84 [(5, .int v17), (4, .int v6), (3, .int v4), (0, .ref 120), (1, .int a1), (2, .int 2)] [.int v29] _ 0 0 _
              exact jX.sub jsb_n (ct_X6_byParents_r120_c2d_84 hD hQ  v29 h (jr_of rfl (by omega)) J Sm D)
            ·
              rw [if_neg (by omega)] at D
              refine x_aloadn (x := 70) rfl rfl ?_
              refine z_getR (N := 9) (b := 76) 5 7 rfl f_5_28 rfl J rfl 8967 ⟨rfl, rfl⟩ rfl ?_
              refine x_iloadn (x := v24) rfl rfl ?_
              refine z_iald (N := 1200) rfl J rfl sg_76_0_1200_1_0_1 rfl (by omega) (fun v30 qv30 ev30 => ?_)
              try rw [vrd (jmb_c S14 qv30 rfl) (show (((v4.toInt + 2) * 2) + 1) = v24.toInt from by omega)] at D
              refine x_goto (tgt := 27) rfl rfl ?_
              refine x_iret rfl rfl ?_
              show jX m_X5_isNamed 14 0 0 15 [(0, .ref 70), (1, .int v19)] [.int v30] _ 0 0 _
              refine x_iflt (tgt := 22) rfl rfl (ti_lt rfl jk_0 ⟨fun c31 => ?_, fun c31 => ?_⟩)
              ·
                rw [if_pos (by omega)] at D
                refine x_iconst (v := 0) rfl ki_0 ?_
                refine x_zret rfl rfl (by decide) ?_
                show jX m_X7_namedSoul 15 0 0 8 [(0, .ref 78), (1, .int v19)] [.int 0] _ 0 0 _
                refine x_ifeq (tgt := 19) rfl rfl (ti_eq jk_0 jk_0 (br_t (by omega) ?_))
                refine x_iconst (v := (-1)) rfl ki_m1 ?_
                refine x_iret rfl rfl ?_
                show jX m_X6_byParents 16 0 0 76 [(5, .int v17), (4, .int v6), (3, .int v4), (0, .ref 120), (1, .int a1), (2, .int 2)] [.int (-1), .ref 120] _ 0 0 _
                refine x_iload (x := v6) rfl rfl ?_
                refine x_iloadn (x := 2) rfl rfl ?_
                refine x_iconst (v := 1) rfl ki_1 ?_
                refine y_iadd (v := 3) rfl (by decide) ?_
                refine x_inv (N := m_X6_belongs) (As := [.int (-1), .int v6, .int 3]) (b := 120) (st := []) (dx9 := 15) (mc := 0) (ms := 0) (host := "") 6 rfl t_X6_belongs ⟨Or.inl q_6_127, i_X6_belongs.1, i_X6_belongs.2⟩ ⟨by decide, rfl⟩ (congrArg Prod.fst (J.1.1 120 (6, 8) rfl)) rfl (by decide) rfl rfl ⟨by decide, by decide⟩ (sf_X6_belongs_r120_c3d (jr_of jk_m1 (by omega)) (jr_of rfl (by omega)) hD J rfl  (fun v35 h ev35 J S32 X33 X34 => ?_))
                have Sm := jSm_tr rfl Sm S32
                try rw [jk_m1] at X33
                try rw [jk_m1] at X34
                try rw [X33] at D
                try rw [X34] at D
                show jX m_X6_byParents 16 0 0 84 [(5, .int v17), (4, .int v6), (3, .int v4), (0, .ref 120), (1, .int a1), (2, .int 2)] [.int v35] _ 0 0 _
                exact jX.sub jsb_n (ct_X6_byParents_r120_c2d_84 hD hQ  v35 h (jr_of rfl (by omega)) J Sm D)
              ·
                rw [if_neg (by omega)] at D
                refine x_iconst (v := 1) rfl ki_1 ?_
                refine x_goto (tgt := 23) rfl rfl ?_
                refine x_zret rfl rfl (by decide) ?_
                show jX m_X7_namedSoul 15 0 0 8 [(0, .ref 78), (1, .int v19)] [.int 1] _ 0 0 _
                refine x_ifeq (tgt := 19) rfl rfl (ti_eq jk_1 jk_0 (br_f (by omega) ?_))
                refine x_aloadn (x := 78) rfl rfl ?_
                refine x_iloadn (x := v19) rfl rfl ?_
                refine x_inv (N := m_X7_soulAt) (As := [.int v19]) (b := 78) (st := []) (dx9 := 14) (mc := 0) (ms := 0) (host := "") 7 rfl t_X7_soulAt ⟨Or.inl q_7_153, i_X7_soulAt.1, i_X7_soulAt.2⟩ ⟨by decide, rfl⟩ (congrArg Prod.fst (J.1.1 78 (7, 16) rfl)) rfl (by decide) rfl rfl ⟨by decide, by decide⟩ (jC.of rfl k_X7_soulAt rfl ?_)
                show jX m_X7_soulAt 14 0 0 0 [(0, .ref 78), (1, .int v19)] [] _ 0 0 _
                refine x_iloadn (x := v19) rfl rfl ?_
                refine x_iflt (tgt := 36) rfl rfl (ti_lt rfl jk_0 (br_f (by omega) ?_))
                refine x_iloadn (x := v19) rfl rfl ?_
                refine x_sipush (v := 600) rfl ks_600 ?_
                refine x_icge (tgt := 36) rfl rfl (ti_ge rfl jk_600 ⟨fun c36 => ?_, fun c36 => ?_⟩)
                ·
                  rw [if_pos (by omega)] at D
                  refine x_iconst (v := (-1)) rfl ki_m1 ?_
                  refine x_iret rfl rfl ?_
                  show jX m_X7_namedSoul 15 0 0 16 [(0, .ref 78), (1, .int v19)] [.int (-1)] _ 0 0 _
                  refine x_goto (tgt := 20) rfl rfl ?_
                  refine x_iret rfl rfl ?_
                  show jX m_X6_byParents 16 0 0 76 [(5, .int v17), (4, .int v6), (3, .int v4), (0, .ref 120), (1, .int a1), (2, .int 2)] [.int (-1), .ref 120] _ 0 0 _
                  refine x_iload (x := v6) rfl rfl ?_
                  refine x_iloadn (x := 2) rfl rfl ?_
                  refine x_iconst (v := 1) rfl ki_1 ?_
                  refine y_iadd (v := 3) rfl (by decide) ?_
                  refine x_inv (N := m_X6_belongs) (As := [.int (-1), .int v6, .int 3]) (b := 120) (st := []) (dx9 := 15) (mc := 0) (ms := 0) (host := "") 6 rfl t_X6_belongs ⟨Or.inl q_6_127, i_X6_belongs.1, i_X6_belongs.2⟩ ⟨by decide, rfl⟩ (congrArg Prod.fst (J.1.1 120 (6, 8) rfl)) rfl (by decide) rfl rfl ⟨by decide, by decide⟩ (sf_X6_belongs_r120_c3d (jr_of jk_m1 (by omega)) (jr_of rfl (by omega)) hD J rfl  (fun v40 h ev40 J S37 X38 X39 => ?_))
                  have Sm := jSm_tr rfl Sm S37
                  try rw [jk_m1] at X38
                  try rw [jk_m1] at X39
                  try rw [X38] at D
                  try rw [X39] at D
                  show jX m_X6_byParents 16 0 0 84 [(5, .int v17), (4, .int v6), (3, .int v4), (0, .ref 120), (1, .int a1), (2, .int 2)] [.int v40] _ 0 0 _
                  exact jX.sub jsb_n (ct_X6_byParents_r120_c2d_84 hD hQ  v40 h (jr_of rfl (by omega)) J Sm D)
                ·
                  rw [if_neg (by omega)] at D
                  refine x_iloadn (x := v19) rfl rfl ?_
                  refine x_iconst (v := 3) rfl ki_3 ?_
                  refine z_idiv rfl rfl jk_3 (by omega) (by omega) (fun v41 ev41 => ?_)
                  refine x_aloadn (x := 78) rfl rfl ?_
                  refine z_getR (N := 16) (b := 32) 7 0 rfl f_7_55 rfl J rfl 9984 ⟨rfl, rfl⟩ rfl ?_
                  refine z_getR (N := 20) (b := 33) 1 0 rfl f_7_63 rfl J rfl 4096 ⟨rfl, rfl⟩ rfl ?_
                  refine z_getI (N := 4) 8 3 rfl f_7_85 rfl J rfl sg_33_3_4_1_0_1 (fun v42 qv42 ev42 => ?_)
                  try rw [vrf (jmb_c S14 qv42 rfl)] at D
                  refine x_icge (tgt := 36) rfl rfl (ti_ge rfl rfl ⟨fun c43 => ?_, fun c43 => ?_⟩)
                  ·
                    rw [if_pos (by omega)] at D
                    refine x_iconst (v := (-1)) rfl ki_m1 ?_
                    refine x_iret rfl rfl ?_
                    show jX m_X7_namedSoul 15 0 0 16 [(0, .ref 78), (1, .int v19)] [.int (-1)] _ 0 0 _
                    refine x_goto (tgt := 20) rfl rfl ?_
                    refine x_iret rfl rfl ?_
                    show jX m_X6_byParents 16 0 0 76 [(5, .int v17), (4, .int v6), (3, .int v4), (0, .ref 120), (1, .int a1), (2, .int 2)] [.int (-1), .ref 120] _ 0 0 _
                    refine x_iload (x := v6) rfl rfl ?_
                    refine x_iloadn (x := 2) rfl rfl ?_
                    refine x_iconst (v := 1) rfl ki_1 ?_
                    refine y_iadd (v := 3) rfl (by decide) ?_
                    refine x_inv (N := m_X6_belongs) (As := [.int (-1), .int v6, .int 3]) (b := 120) (st := []) (dx9 := 15) (mc := 0) (ms := 0) (host := "") 6 rfl t_X6_belongs ⟨Or.inl q_6_127, i_X6_belongs.1, i_X6_belongs.2⟩ ⟨by decide, rfl⟩ (congrArg Prod.fst (J.1.1 120 (6, 8) rfl)) rfl (by decide) rfl rfl ⟨by decide, by decide⟩ (sf_X6_belongs_r120_c3d (jr_of jk_m1 (by omega)) (jr_of rfl (by omega)) hD J rfl  (fun v47 h ev47 J S44 X45 X46 => ?_))
                    have Sm := jSm_tr rfl Sm S44
                    try rw [jk_m1] at X45
                    try rw [jk_m1] at X46
                    try rw [X45] at D
                    try rw [X46] at D
                    show jX m_X6_byParents 16 0 0 84 [(5, .int v17), (4, .int v6), (3, .int v4), (0, .ref 120), (1, .int a1), (2, .int 2)] [.int v47] _ 0 0 _
                    exact jX.sub jsb_n (ct_X6_byParents_r120_c2d_84 hD hQ  v47 h (jr_of rfl (by omega)) J Sm D)
                  ·
                    rw [if_neg (by omega)] at D
                    refine x_aloadn (x := 78) rfl rfl ?_
                    refine z_getR (N := 16) (b := 82) 7 10 rfl f_7_37 rfl J rfl 9994 ⟨rfl, rfl⟩ rfl ?_
                    refine x_iloadn (x := v19) rfl rfl ?_
                    refine z_iald (N := 600) rfl J rfl sg_82_0_600_1_0_1 rfl (by omega) (fun v48 qv48 ev48 => ?_)
                    try rw [vrd (jmb_c S14 qv48 rfl) (show (v4.toInt + 2) = v19.toInt from by omega)] at D
                    refine x_goto (tgt := 37) rfl rfl ?_
                    refine x_iret rfl rfl ?_
                    show jX m_X7_namedSoul 15 0 0 16 [(0, .ref 78), (1, .int v19)] [.int v48] _ 0 0 _
                    refine x_goto (tgt := 20) rfl rfl ?_
                    refine x_iret rfl rfl ?_
                    show jX m_X6_byParents 16 0 0 76 [(5, .int v17), (4, .int v6), (3, .int v4), (0, .ref 120), (1, .int a1), (2, .int 2)] [.int v48, .ref 120] _ 0 0 _
                    refine x_iload (x := v6) rfl rfl ?_
                    refine x_iloadn (x := 2) rfl rfl ?_
                    refine x_iconst (v := 1) rfl ki_1 ?_
                    refine y_iadd (v := 3) rfl (by decide) ?_
                    refine x_inv (N := m_X6_belongs) (As := [.int v48, .int v6, .int 3]) (b := 120) (st := []) (dx9 := 15) (mc := 0) (ms := 0) (host := "") 6 rfl t_X6_belongs ⟨Or.inl q_6_127, i_X6_belongs.1, i_X6_belongs.2⟩ ⟨by decide, rfl⟩ (congrArg Prod.fst (J.1.1 120 (6, 8) rfl)) rfl (by decide) rfl rfl ⟨by decide, by decide⟩ (sf_X6_belongs_r120_c3d (jr_of rfl (by omega)) (jr_of rfl (by omega)) hD J rfl  (fun v52 h ev52 J S49 X50 X51 => ?_))
                    have Sm := jSm_tr rfl Sm S49
                    try rw [X50] at D
                    try rw [X51] at D
                    show jX m_X6_byParents 16 0 0 84 [(5, .int v17), (4, .int v6), (3, .int v4), (0, .ref 120), (1, .int a1), (2, .int 2)] [.int v52] _ 0 0 _
                    exact jX.sub jsb_n (ct_X6_byParents_r120_c2d_84 hD hQ  v52 h (jr_of rfl (by omega)) J Sm D)
          ·
            rw [if_neg (by omega)] at D
            refine x_aloadn (x := 70) rfl rfl ?_
            refine z_getR (N := 9) (b := 76) 5 7 rfl f_5_28 rfl J rfl 8967 ⟨rfl, rfl⟩ rfl ?_
            refine x_iloadn (x := v21) rfl rfl ?_
            refine z_iald (N := 1200) rfl J rfl sg_76_0_1200_1_0_1 rfl (by omega) (fun v53 qv53 ev53 => ?_)
            try rw [vrd (jmb_c S14 qv53 rfl) (show (((v4.toInt + 2) * 2) + 0) = v21.toInt from by omega)] at D
            refine x_goto (tgt := 27) rfl rfl ?_
            refine x_iret rfl rfl ?_
            show jX m_X5_isNamed 14 0 0 6 [(0, .ref 70), (1, .int v19)] [.int v53] _ 0 0 _
            refine x_ifge (tgt := 18) rfl rfl (ti_ge rfl jk_0 ⟨fun c54 => ?_, fun c54 => ?_⟩)
            ·
              rw [if_pos (by omega)] at D
              refine x_iconst (v := 1) rfl ki_1 ?_
              refine x_goto (tgt := 23) rfl rfl ?_
              refine x_zret rfl rfl (by decide) ?_
              show jX m_X7_namedSoul 15 0 0 8 [(0, .ref 78), (1, .int v19)] [.int 1] _ 0 0 _
              refine x_ifeq (tgt := 19) rfl rfl (ti_eq jk_1 jk_0 (br_f (by omega) ?_))
              refine x_aloadn (x := 78) rfl rfl ?_
              refine x_iloadn (x := v19) rfl rfl ?_
              refine x_inv (N := m_X7_soulAt) (As := [.int v19]) (b := 78) (st := []) (dx9 := 14) (mc := 0) (ms := 0) (host := "") 7 rfl t_X7_soulAt ⟨Or.inl q_7_153, i_X7_soulAt.1, i_X7_soulAt.2⟩ ⟨by decide, rfl⟩ (congrArg Prod.fst (J.1.1 78 (7, 16) rfl)) rfl (by decide) rfl rfl ⟨by decide, by decide⟩ (jC.of rfl k_X7_soulAt rfl ?_)
              show jX m_X7_soulAt 14 0 0 0 [(0, .ref 78), (1, .int v19)] [] _ 0 0 _
              refine x_iloadn (x := v19) rfl rfl ?_
              refine x_iflt (tgt := 36) rfl rfl (ti_lt rfl jk_0 (br_f (by omega) ?_))
              refine x_iloadn (x := v19) rfl rfl ?_
              refine x_sipush (v := 600) rfl ks_600 ?_
              refine x_icge (tgt := 36) rfl rfl (ti_ge rfl jk_600 ⟨fun c55 => ?_, fun c55 => ?_⟩)
              ·
                rw [if_pos (by omega)] at D
                refine x_iconst (v := (-1)) rfl ki_m1 ?_
                refine x_iret rfl rfl ?_
                show jX m_X7_namedSoul 15 0 0 16 [(0, .ref 78), (1, .int v19)] [.int (-1)] _ 0 0 _
                refine x_goto (tgt := 20) rfl rfl ?_
                refine x_iret rfl rfl ?_
                show jX m_X6_byParents 16 0 0 76 [(5, .int v17), (4, .int v6), (3, .int v4), (0, .ref 120), (1, .int a1), (2, .int 2)] [.int (-1), .ref 120] _ 0 0 _
                refine x_iload (x := v6) rfl rfl ?_
                refine x_iloadn (x := 2) rfl rfl ?_
                refine x_iconst (v := 1) rfl ki_1 ?_
                refine y_iadd (v := 3) rfl (by decide) ?_
                refine x_inv (N := m_X6_belongs) (As := [.int (-1), .int v6, .int 3]) (b := 120) (st := []) (dx9 := 15) (mc := 0) (ms := 0) (host := "") 6 rfl t_X6_belongs ⟨Or.inl q_6_127, i_X6_belongs.1, i_X6_belongs.2⟩ ⟨by decide, rfl⟩ (congrArg Prod.fst (J.1.1 120 (6, 8) rfl)) rfl (by decide) rfl rfl ⟨by decide, by decide⟩ (sf_X6_belongs_r120_c3d (jr_of jk_m1 (by omega)) (jr_of rfl (by omega)) hD J rfl  (fun v59 h ev59 J S56 X57 X58 => ?_))
                have Sm := jSm_tr rfl Sm S56
                try rw [jk_m1] at X57
                try rw [jk_m1] at X58
                try rw [X57] at D
                try rw [X58] at D
                show jX m_X6_byParents 16 0 0 84 [(5, .int v17), (4, .int v6), (3, .int v4), (0, .ref 120), (1, .int a1), (2, .int 2)] [.int v59] _ 0 0 _
                exact jX.sub jsb_n (ct_X6_byParents_r120_c2d_84 hD hQ  v59 h (jr_of rfl (by omega)) J Sm D)
              ·
                rw [if_neg (by omega)] at D
                refine x_iloadn (x := v19) rfl rfl ?_
                refine x_iconst (v := 3) rfl ki_3 ?_
                refine z_idiv rfl rfl jk_3 (by omega) (by omega) (fun v60 ev60 => ?_)
                refine x_aloadn (x := 78) rfl rfl ?_
                refine z_getR (N := 16) (b := 32) 7 0 rfl f_7_55 rfl J rfl 9984 ⟨rfl, rfl⟩ rfl ?_
                refine z_getR (N := 20) (b := 33) 1 0 rfl f_7_63 rfl J rfl 4096 ⟨rfl, rfl⟩ rfl ?_
                refine z_getI (N := 4) 8 3 rfl f_7_85 rfl J rfl sg_33_3_4_1_0_1 (fun v61 qv61 ev61 => ?_)
                try rw [vrf (jmb_c S14 qv61 rfl)] at D
                refine x_icge (tgt := 36) rfl rfl (ti_ge rfl rfl ⟨fun c62 => ?_, fun c62 => ?_⟩)
                ·
                  rw [if_pos (by omega)] at D
                  refine x_iconst (v := (-1)) rfl ki_m1 ?_
                  refine x_iret rfl rfl ?_
                  show jX m_X7_namedSoul 15 0 0 16 [(0, .ref 78), (1, .int v19)] [.int (-1)] _ 0 0 _
                  refine x_goto (tgt := 20) rfl rfl ?_
                  refine x_iret rfl rfl ?_
                  show jX m_X6_byParents 16 0 0 76 [(5, .int v17), (4, .int v6), (3, .int v4), (0, .ref 120), (1, .int a1), (2, .int 2)] [.int (-1), .ref 120] _ 0 0 _
                  refine x_iload (x := v6) rfl rfl ?_
                  refine x_iloadn (x := 2) rfl rfl ?_
                  refine x_iconst (v := 1) rfl ki_1 ?_
                  refine y_iadd (v := 3) rfl (by decide) ?_
                  refine x_inv (N := m_X6_belongs) (As := [.int (-1), .int v6, .int 3]) (b := 120) (st := []) (dx9 := 15) (mc := 0) (ms := 0) (host := "") 6 rfl t_X6_belongs ⟨Or.inl q_6_127, i_X6_belongs.1, i_X6_belongs.2⟩ ⟨by decide, rfl⟩ (congrArg Prod.fst (J.1.1 120 (6, 8) rfl)) rfl (by decide) rfl rfl ⟨by decide, by decide⟩ (sf_X6_belongs_r120_c3d (jr_of jk_m1 (by omega)) (jr_of rfl (by omega)) hD J rfl  (fun v66 h ev66 J S63 X64 X65 => ?_))
                  have Sm := jSm_tr rfl Sm S63
                  try rw [jk_m1] at X64
                  try rw [jk_m1] at X65
                  try rw [X64] at D
                  try rw [X65] at D
                  show jX m_X6_byParents 16 0 0 84 [(5, .int v17), (4, .int v6), (3, .int v4), (0, .ref 120), (1, .int a1), (2, .int 2)] [.int v66] _ 0 0 _
                  exact jX.sub jsb_n (ct_X6_byParents_r120_c2d_84 hD hQ  v66 h (jr_of rfl (by omega)) J Sm D)
                ·
                  rw [if_neg (by omega)] at D
                  refine x_aloadn (x := 78) rfl rfl ?_
                  refine z_getR (N := 16) (b := 82) 7 10 rfl f_7_37 rfl J rfl 9994 ⟨rfl, rfl⟩ rfl ?_
                  refine x_iloadn (x := v19) rfl rfl ?_
                  refine z_iald (N := 600) rfl J rfl sg_82_0_600_1_0_1 rfl (by omega) (fun v67 qv67 ev67 => ?_)
                  try rw [vrd (jmb_c S14 qv67 rfl) (show (v4.toInt + 2) = v19.toInt from by omega)] at D
                  refine x_goto (tgt := 37) rfl rfl ?_
                  refine x_iret rfl rfl ?_
                  show jX m_X7_namedSoul 15 0 0 16 [(0, .ref 78), (1, .int v19)] [.int v67] _ 0 0 _
                  refine x_goto (tgt := 20) rfl rfl ?_
                  refine x_iret rfl rfl ?_
                  show jX m_X6_byParents 16 0 0 76 [(5, .int v17), (4, .int v6), (3, .int v4), (0, .ref 120), (1, .int a1), (2, .int 2)] [.int v67, .ref 120] _ 0 0 _
                  refine x_iload (x := v6) rfl rfl ?_
                  refine x_iloadn (x := 2) rfl rfl ?_
                  refine x_iconst (v := 1) rfl ki_1 ?_
                  refine y_iadd (v := 3) rfl (by decide) ?_
                  refine x_inv (N := m_X6_belongs) (As := [.int v67, .int v6, .int 3]) (b := 120) (st := []) (dx9 := 15) (mc := 0) (ms := 0) (host := "") 6 rfl t_X6_belongs ⟨Or.inl q_6_127, i_X6_belongs.1, i_X6_belongs.2⟩ ⟨by decide, rfl⟩ (congrArg Prod.fst (J.1.1 120 (6, 8) rfl)) rfl (by decide) rfl rfl ⟨by decide, by decide⟩ (sf_X6_belongs_r120_c3d (jr_of rfl (by omega)) (jr_of rfl (by omega)) hD J rfl  (fun v71 h ev71 J S68 X69 X70 => ?_))
                  have Sm := jSm_tr rfl Sm S68
                  try rw [X69] at D
                  try rw [X70] at D
                  show jX m_X6_byParents 16 0 0 84 [(5, .int v17), (4, .int v6), (3, .int v4), (0, .ref 120), (1, .int a1), (2, .int 2)] [.int v71] _ 0 0 _
                  exact jX.sub jsb_n (ct_X6_byParents_r120_c2d_84 hD hQ  v71 h (jr_of rfl (by omega)) J Sm D)
            ·
              rw [if_neg (by omega)] at D
              refine x_aloadn (x := 70) rfl rfl ?_
              refine x_iloadn (x := v19) rfl rfl ?_
              refine x_iconst (v := 1) rfl ki_1 ?_
              refine x_inv (N := m_X5_lengthOf) (As := [.int v19, .int 1]) (b := 70) (st := []) (dx9 := 13) (mc := 0) (ms := 0) (host := "") 5 rfl t_X5_lengthOf ⟨Or.inl q_5_133, i_X5_lengthOf.1, i_X5_lengthOf.2⟩ ⟨by decide, rfl⟩ (congrArg Prod.fst (J.1.1 70 (5, 9) rfl)) rfl (by decide) rfl rfl ⟨by decide, by decide⟩ (jC.of rfl k_X5_lengthOf rfl ?_)
              show jX m_X5_lengthOf 13 0 0 0 [(0, .ref 70), (1, .int v19), (2, .int 1)] [] _ 0 0 _
              refine x_iloadn (x := v19) rfl rfl ?_
              refine x_iconst (v := 2) rfl ki_2 ?_
              refine z_imul rfl rfl jk_2 (by omega) (fun v72 ev72 => ?_)
              refine x_iloadn (x := 1) rfl rfl ?_
              refine z_iadd rfl rfl jk_1 (by omega) (fun v73 ev73 => ?_)
              refine x_istoren (lsx9 := [(3, .int v73), (0, .ref 70), (1, .int v19), (2, .int 1)]) rfl rfl rfl ?_
              refine x_iloadn (x := v73) rfl rfl ?_
              refine x_iflt (tgt := 26) rfl rfl (ti_lt rfl jk_0 (br_f (by omega) ?_))
              refine x_iloadn (x := v73) rfl rfl ?_
              refine x_sipush (v := 1200) rfl ks_1200 ?_
              refine x_icge (tgt := 26) rfl rfl (ti_ge rfl jk_1200 ⟨fun c74 => ?_, fun c74 => ?_⟩)
              ·
                rw [if_pos (by omega)] at D
                refine x_iconst (v := (-1)) rfl ki_m1 ?_
                refine x_iret rfl rfl ?_
                show jX m_X5_isNamed 14 0 0 15 [(0, .ref 70), (1, .int v19)] [.int (-1)] _ 0 0 _
                refine x_iflt (tgt := 22) rfl rfl (ti_lt jk_m1 jk_0 (br_t (by omega) ?_))
                refine x_iconst (v := 0) rfl ki_0 ?_
                refine x_zret rfl rfl (by decide) ?_
                show jX m_X7_namedSoul 15 0 0 8 [(0, .ref 78), (1, .int v19)] [.int 0] _ 0 0 _
                refine x_ifeq (tgt := 19) rfl rfl (ti_eq jk_0 jk_0 (br_t (by omega) ?_))
                refine x_iconst (v := (-1)) rfl ki_m1 ?_
                refine x_iret rfl rfl ?_
                show jX m_X6_byParents 16 0 0 76 [(5, .int v17), (4, .int v6), (3, .int v4), (0, .ref 120), (1, .int a1), (2, .int 2)] [.int (-1), .ref 120] _ 0 0 _
                refine x_iload (x := v6) rfl rfl ?_
                refine x_iloadn (x := 2) rfl rfl ?_
                refine x_iconst (v := 1) rfl ki_1 ?_
                refine y_iadd (v := 3) rfl (by decide) ?_
                refine x_inv (N := m_X6_belongs) (As := [.int (-1), .int v6, .int 3]) (b := 120) (st := []) (dx9 := 15) (mc := 0) (ms := 0) (host := "") 6 rfl t_X6_belongs ⟨Or.inl q_6_127, i_X6_belongs.1, i_X6_belongs.2⟩ ⟨by decide, rfl⟩ (congrArg Prod.fst (J.1.1 120 (6, 8) rfl)) rfl (by decide) rfl rfl ⟨by decide, by decide⟩ (sf_X6_belongs_r120_c3d (jr_of jk_m1 (by omega)) (jr_of rfl (by omega)) hD J rfl  (fun v78 h ev78 J S75 X76 X77 => ?_))
                have Sm := jSm_tr rfl Sm S75
                try rw [jk_m1] at X76
                try rw [jk_m1] at X77
                try rw [X76] at D
                try rw [X77] at D
                show jX m_X6_byParents 16 0 0 84 [(5, .int v17), (4, .int v6), (3, .int v4), (0, .ref 120), (1, .int a1), (2, .int 2)] [.int v78] _ 0 0 _
                exact jX.sub jsb_n (ct_X6_byParents_r120_c2d_84 hD hQ  v78 h (jr_of rfl (by omega)) J Sm D)
              ·
                rw [if_neg (by omega)] at D
                refine x_aloadn (x := 70) rfl rfl ?_
                refine z_getR (N := 9) (b := 76) 5 7 rfl f_5_28 rfl J rfl 8967 ⟨rfl, rfl⟩ rfl ?_
                refine x_iloadn (x := v73) rfl rfl ?_
                refine z_iald (N := 1200) rfl J rfl sg_76_0_1200_1_0_1 rfl (by omega) (fun v79 qv79 ev79 => ?_)
                try rw [vrd (jmb_c S14 qv79 rfl) (show (((v4.toInt + 2) * 2) + 1) = v73.toInt from by omega)] at D
                refine x_goto (tgt := 27) rfl rfl ?_
                refine x_iret rfl rfl ?_
                show jX m_X5_isNamed 14 0 0 15 [(0, .ref 70), (1, .int v19)] [.int v79] _ 0 0 _
                refine x_iflt (tgt := 22) rfl rfl (ti_lt rfl jk_0 ⟨fun c80 => ?_, fun c80 => ?_⟩)
                ·
                  rw [if_pos (by omega)] at D
                  refine x_iconst (v := 0) rfl ki_0 ?_
                  refine x_zret rfl rfl (by decide) ?_
                  show jX m_X7_namedSoul 15 0 0 8 [(0, .ref 78), (1, .int v19)] [.int 0] _ 0 0 _
                  refine x_ifeq (tgt := 19) rfl rfl (ti_eq jk_0 jk_0 (br_t (by omega) ?_))
                  refine x_iconst (v := (-1)) rfl ki_m1 ?_
                  refine x_iret rfl rfl ?_
                  show jX m_X6_byParents 16 0 0 76 [(5, .int v17), (4, .int v6), (3, .int v4), (0, .ref 120), (1, .int a1), (2, .int 2)] [.int (-1), .ref 120] _ 0 0 _
                  refine x_iload (x := v6) rfl rfl ?_
                  refine x_iloadn (x := 2) rfl rfl ?_
                  refine x_iconst (v := 1) rfl ki_1 ?_
                  refine y_iadd (v := 3) rfl (by decide) ?_
                  refine x_inv (N := m_X6_belongs) (As := [.int (-1), .int v6, .int 3]) (b := 120) (st := []) (dx9 := 15) (mc := 0) (ms := 0) (host := "") 6 rfl t_X6_belongs ⟨Or.inl q_6_127, i_X6_belongs.1, i_X6_belongs.2⟩ ⟨by decide, rfl⟩ (congrArg Prod.fst (J.1.1 120 (6, 8) rfl)) rfl (by decide) rfl rfl ⟨by decide, by decide⟩ (sf_X6_belongs_r120_c3d (jr_of jk_m1 (by omega)) (jr_of rfl (by omega)) hD J rfl  (fun v84 h ev84 J S81 X82 X83 => ?_))
                  have Sm := jSm_tr rfl Sm S81
                  try rw [jk_m1] at X82
                  try rw [jk_m1] at X83
                  try rw [X82] at D
                  try rw [X83] at D
                  show jX m_X6_byParents 16 0 0 84 [(5, .int v17), (4, .int v6), (3, .int v4), (0, .ref 120), (1, .int a1), (2, .int 2)] [.int v84] _ 0 0 _
                  exact jX.sub jsb_n (ct_X6_byParents_r120_c2d_84 hD hQ  v84 h (jr_of rfl (by omega)) J Sm D)
                ·
                  rw [if_neg (by omega)] at D
                  refine x_iconst (v := 1) rfl ki_1 ?_
                  refine x_goto (tgt := 23) rfl rfl ?_
                  refine x_zret rfl rfl (by decide) ?_
                  show jX m_X7_namedSoul 15 0 0 8 [(0, .ref 78), (1, .int v19)] [.int 1] _ 0 0 _
                  refine x_ifeq (tgt := 19) rfl rfl (ti_eq jk_1 jk_0 (br_f (by omega) ?_))
                  refine x_aloadn (x := 78) rfl rfl ?_
                  refine x_iloadn (x := v19) rfl rfl ?_
                  refine x_inv (N := m_X7_soulAt) (As := [.int v19]) (b := 78) (st := []) (dx9 := 14) (mc := 0) (ms := 0) (host := "") 7 rfl t_X7_soulAt ⟨Or.inl q_7_153, i_X7_soulAt.1, i_X7_soulAt.2⟩ ⟨by decide, rfl⟩ (congrArg Prod.fst (J.1.1 78 (7, 16) rfl)) rfl (by decide) rfl rfl ⟨by decide, by decide⟩ (jC.of rfl k_X7_soulAt rfl ?_)
                  show jX m_X7_soulAt 14 0 0 0 [(0, .ref 78), (1, .int v19)] [] _ 0 0 _
                  refine x_iloadn (x := v19) rfl rfl ?_
                  refine x_iflt (tgt := 36) rfl rfl (ti_lt rfl jk_0 (br_f (by omega) ?_))
                  refine x_iloadn (x := v19) rfl rfl ?_
                  refine x_sipush (v := 600) rfl ks_600 ?_
                  refine x_icge (tgt := 36) rfl rfl (ti_ge rfl jk_600 ⟨fun c85 => ?_, fun c85 => ?_⟩)
                  ·
                    rw [if_pos (by omega)] at D
                    refine x_iconst (v := (-1)) rfl ki_m1 ?_
                    refine x_iret rfl rfl ?_
                    show jX m_X7_namedSoul 15 0 0 16 [(0, .ref 78), (1, .int v19)] [.int (-1)] _ 0 0 _
                    refine x_goto (tgt := 20) rfl rfl ?_
                    refine x_iret rfl rfl ?_
                    show jX m_X6_byParents 16 0 0 76 [(5, .int v17), (4, .int v6), (3, .int v4), (0, .ref 120), (1, .int a1), (2, .int 2)] [.int (-1), .ref 120] _ 0 0 _
                    refine x_iload (x := v6) rfl rfl ?_
                    refine x_iloadn (x := 2) rfl rfl ?_
                    refine x_iconst (v := 1) rfl ki_1 ?_
                    refine y_iadd (v := 3) rfl (by decide) ?_
                    refine x_inv (N := m_X6_belongs) (As := [.int (-1), .int v6, .int 3]) (b := 120) (st := []) (dx9 := 15) (mc := 0) (ms := 0) (host := "") 6 rfl t_X6_belongs ⟨Or.inl q_6_127, i_X6_belongs.1, i_X6_belongs.2⟩ ⟨by decide, rfl⟩ (congrArg Prod.fst (J.1.1 120 (6, 8) rfl)) rfl (by decide) rfl rfl ⟨by decide, by decide⟩ (sf_X6_belongs_r120_c3d (jr_of jk_m1 (by omega)) (jr_of rfl (by omega)) hD J rfl  (fun v89 h ev89 J S86 X87 X88 => ?_))
                    have Sm := jSm_tr rfl Sm S86
                    try rw [jk_m1] at X87
                    try rw [jk_m1] at X88
                    try rw [X87] at D
                    try rw [X88] at D
                    show jX m_X6_byParents 16 0 0 84 [(5, .int v17), (4, .int v6), (3, .int v4), (0, .ref 120), (1, .int a1), (2, .int 2)] [.int v89] _ 0 0 _
                    exact jX.sub jsb_n (ct_X6_byParents_r120_c2d_84 hD hQ  v89 h (jr_of rfl (by omega)) J Sm D)
                  ·
                    rw [if_neg (by omega)] at D
                    refine x_iloadn (x := v19) rfl rfl ?_
                    refine x_iconst (v := 3) rfl ki_3 ?_
                    refine z_idiv rfl rfl jk_3 (by omega) (by omega) (fun v90 ev90 => ?_)
                    refine x_aloadn (x := 78) rfl rfl ?_
                    refine z_getR (N := 16) (b := 32) 7 0 rfl f_7_55 rfl J rfl 9984 ⟨rfl, rfl⟩ rfl ?_
                    refine z_getR (N := 20) (b := 33) 1 0 rfl f_7_63 rfl J rfl 4096 ⟨rfl, rfl⟩ rfl ?_
                    refine z_getI (N := 4) 8 3 rfl f_7_85 rfl J rfl sg_33_3_4_1_0_1 (fun v91 qv91 ev91 => ?_)
                    try rw [vrf (jmb_c S14 qv91 rfl)] at D
                    refine x_icge (tgt := 36) rfl rfl (ti_ge rfl rfl ⟨fun c92 => ?_, fun c92 => ?_⟩)
                    ·
                      rw [if_pos (by omega)] at D
                      refine x_iconst (v := (-1)) rfl ki_m1 ?_
                      refine x_iret rfl rfl ?_
                      show jX m_X7_namedSoul 15 0 0 16 [(0, .ref 78), (1, .int v19)] [.int (-1)] _ 0 0 _
                      refine x_goto (tgt := 20) rfl rfl ?_
                      refine x_iret rfl rfl ?_
                      show jX m_X6_byParents 16 0 0 76 [(5, .int v17), (4, .int v6), (3, .int v4), (0, .ref 120), (1, .int a1), (2, .int 2)] [.int (-1), .ref 120] _ 0 0 _
                      refine x_iload (x := v6) rfl rfl ?_
                      refine x_iloadn (x := 2) rfl rfl ?_
                      refine x_iconst (v := 1) rfl ki_1 ?_
                      refine y_iadd (v := 3) rfl (by decide) ?_
                      refine x_inv (N := m_X6_belongs) (As := [.int (-1), .int v6, .int 3]) (b := 120) (st := []) (dx9 := 15) (mc := 0) (ms := 0) (host := "") 6 rfl t_X6_belongs ⟨Or.inl q_6_127, i_X6_belongs.1, i_X6_belongs.2⟩ ⟨by decide, rfl⟩ (congrArg Prod.fst (J.1.1 120 (6, 8) rfl)) rfl (by decide) rfl rfl ⟨by decide, by decide⟩ (sf_X6_belongs_r120_c3d (jr_of jk_m1 (by omega)) (jr_of rfl (by omega)) hD J rfl  (fun v96 h ev96 J S93 X94 X95 => ?_))
                      have Sm := jSm_tr rfl Sm S93
                      try rw [jk_m1] at X94
                      try rw [jk_m1] at X95
                      try rw [X94] at D
                      try rw [X95] at D
                      show jX m_X6_byParents 16 0 0 84 [(5, .int v17), (4, .int v6), (3, .int v4), (0, .ref 120), (1, .int a1), (2, .int 2)] [.int v96] _ 0 0 _
                      exact jX.sub jsb_n (ct_X6_byParents_r120_c2d_84 hD hQ  v96 h (jr_of rfl (by omega)) J Sm D)
                    ·
                      rw [if_neg (by omega)] at D
                      refine x_aloadn (x := 78) rfl rfl ?_
                      refine z_getR (N := 16) (b := 82) 7 10 rfl f_7_37 rfl J rfl 9994 ⟨rfl, rfl⟩ rfl ?_
                      refine x_iloadn (x := v19) rfl rfl ?_
                      refine z_iald (N := 600) rfl J rfl sg_82_0_600_1_0_1 rfl (by omega) (fun v97 qv97 ev97 => ?_)
                      try rw [vrd (jmb_c S14 qv97 rfl) (show (v4.toInt + 2) = v19.toInt from by omega)] at D
                      refine x_goto (tgt := 37) rfl rfl ?_
                      refine x_iret rfl rfl ?_
                      show jX m_X7_namedSoul 15 0 0 16 [(0, .ref 78), (1, .int v19)] [.int v97] _ 0 0 _
                      refine x_goto (tgt := 20) rfl rfl ?_
                      refine x_iret rfl rfl ?_
                      show jX m_X6_byParents 16 0 0 76 [(5, .int v17), (4, .int v6), (3, .int v4), (0, .ref 120), (1, .int a1), (2, .int 2)] [.int v97, .ref 120] _ 0 0 _
                      refine x_iload (x := v6) rfl rfl ?_
                      refine x_iloadn (x := 2) rfl rfl ?_
                      refine x_iconst (v := 1) rfl ki_1 ?_
                      refine y_iadd (v := 3) rfl (by decide) ?_
                      refine x_inv (N := m_X6_belongs) (As := [.int v97, .int v6, .int 3]) (b := 120) (st := []) (dx9 := 15) (mc := 0) (ms := 0) (host := "") 6 rfl t_X6_belongs ⟨Or.inl q_6_127, i_X6_belongs.1, i_X6_belongs.2⟩ ⟨by decide, rfl⟩ (congrArg Prod.fst (J.1.1 120 (6, 8) rfl)) rfl (by decide) rfl rfl ⟨by decide, by decide⟩ (sf_X6_belongs_r120_c3d (jr_of rfl (by omega)) (jr_of rfl (by omega)) hD J rfl  (fun v101 h ev101 J S98 X99 X100 => ?_))
                      have Sm := jSm_tr rfl Sm S98
                      try rw [X99] at D
                      try rw [X100] at D
                      show jX m_X6_byParents 16 0 0 84 [(5, .int v17), (4, .int v6), (3, .int v4), (0, .ref 120), (1, .int a1), (2, .int 2)] [.int v101] _ 0 0 _
                      exact jX.sub jsb_n (ct_X6_byParents_r120_c2d_84 hD hQ  v101 h (jr_of rfl (by omega)) J Sm D)
        ·
          rw [if_neg (by omega)] at D
          refine x_iload (x := v17) rfl rfl ?_
          refine x_goto (tgt := 84) rfl rfl ?_
          exact jX.sub jsb_n (ct_X6_byParents_r120_c2d_84 hD hQ  v17 h (jr_of rfl (by omega)) J Sm D)
      ·
        rw [if_neg (by omega)] at D
        refine x_aloadn (x := 70) rfl rfl ?_
        refine z_getR (N := 9) (b := 76) 5 7 rfl f_5_28 rfl J rfl 8967 ⟨rfl, rfl⟩ rfl ?_
        refine x_iloadn (x := v12) rfl rfl ?_
        refine z_iald (N := 1200) rfl J rfl sg_76_0_1200_1_0_1 rfl (by omega) (fun v102 qv102 ev102 => ?_)
        try rw [vrd qv102 (show (((v4.toInt + 1) * 2) + 1) = v12.toInt from by omega)] at D
        refine x_goto (tgt := 27) rfl rfl ?_
        refine x_iret rfl rfl ?_
        show jX m_X5_isNamed 14 0 0 15 [(0, .ref 70), (1, .int v7)] [.int v102] _ 0 0 _
        refine x_iflt (tgt := 22) rfl rfl (ti_lt rfl jk_0 ⟨fun c103 => ?_, fun c103 => ?_⟩)
        ·
          rw [if_pos (by omega)] at D
          refine x_iconst (v := 0) rfl ki_0 ?_
          refine x_zret rfl rfl (by decide) ?_
          show jX m_X7_namedSoul 15 0 0 8 [(0, .ref 78), (1, .int v7)] [.int 0] _ 0 0 _
          refine x_ifeq (tgt := 19) rfl rfl (ti_eq jk_0 jk_0 (br_t (by omega) ?_))
          refine x_iconst (v := (-1)) rfl ki_m1 ?_
          refine x_iret rfl rfl ?_
          show jX m_X6_byParents 16 0 0 44 [(4, .int v6), (3, .int v4), (0, .ref 120), (1, .int a1), (2, .int 2)] [.int (-1), .ref 120] _ 0 0 _
          refine x_iload (x := v6) rfl rfl ?_
          refine x_iloadn (x := 2) rfl rfl ?_
          refine x_iconst (v := 1) rfl ki_1 ?_
          refine y_iadd (v := 3) rfl (by decide) ?_
          refine x_inv (N := m_X6_belongs) (As := [.int (-1), .int v6, .int 3]) (b := 120) (st := []) (dx9 := 15) (mc := 0) (ms := 0) (host := "") 6 rfl t_X6_belongs ⟨Or.inl q_6_127, i_X6_belongs.1, i_X6_belongs.2⟩ ⟨by decide, rfl⟩ (congrArg Prod.fst (J.1.1 120 (6, 8) rfl)) rfl (by decide) rfl rfl ⟨by decide, by decide⟩ (sf_X6_belongs_r120_c3d (jr_of jk_m1 (by omega)) (jr_of rfl (by omega)) hD J rfl  (fun v107 h ev107 J S104 X105 X106 => ?_))
          have Sm := jSm_tr rfl Sm S104
          try rw [jk_m1] at X105
          try rw [jk_m1] at X106
          try rw [X105] at D
          try rw [X106] at D
          show jX m_X6_byParents 16 0 0 52 [(4, .int v6), (3, .int v4), (0, .ref 120), (1, .int a1), (2, .int 2)] [.int v107] _ 0 0 _
          refine x_istore (lsx9 := [(5, .int v107), (4, .int v6), (3, .int v4), (0, .ref 120), (1, .int a1), (2, .int 2)]) rfl rfl rfl ?_
          refine x_iload (x := v107) rfl rfl ?_
          refine x_iconst (v := (-1)) rfl ki_m1 ?_
          refine x_iceq (tgt := 65) rfl rfl (ti_eq rfl jk_m1 ⟨fun c108 => ?_, fun c108 => ?_⟩)
          ·
            rw [if_pos (by omega)] at D
            refine x_aloadn (x := 120) rfl rfl ?_
            refine x_aloadn (x := 120) rfl rfl ?_
            refine z_getR (N := 8) (b := 78) 6 1 rfl f_6_32 rfl J rfl 15361 ⟨rfl, rfl⟩ rfl ?_
            refine x_iloadn (x := v4) rfl rfl ?_
            refine x_iconst (v := 2) rfl ki_2 ?_
            refine z_iadd rfl rfl jk_2 (by omega) (fun v109 ev109 => ?_)
            refine x_inv (N := m_X7_namedSoul) (As := [.int v109]) (b := 78) (st := [.ref 120]) (dx9 := 15) (mc := 0) (ms := 0) (host := "") 7 rfl t_X7_namedSoul ⟨Or.inl q_6_124, i_X7_namedSoul.1, i_X7_namedSoul.2⟩ ⟨by decide, rfl⟩ (congrArg Prod.fst (J.1.1 78 (7, 16) rfl)) rfl (by decide) rfl rfl ⟨by decide, by decide⟩ (jC.of rfl k_X7_namedSoul rfl ?_)
            show jX m_X7_namedSoul 15 0 0 0 [(0, .ref 78), (1, .int v109)] [] _ 0 0 _
            refine x_aloadn (x := 78) rfl rfl ?_
            refine z_getR (N := 16) (b := 70) 7 1 rfl f_7_59 rfl J rfl 9985 ⟨rfl, rfl⟩ rfl ?_
            refine x_iloadn (x := v109) rfl rfl ?_
            refine x_inv (N := m_X5_isNamed) (As := [.int v109]) (b := 70) (st := []) (dx9 := 14) (mc := 0) (ms := 0) (host := "") 5 rfl t_X5_isNamed ⟨Or.inl q_7_173, i_X5_isNamed.1, i_X5_isNamed.2⟩ ⟨by decide, rfl⟩ (congrArg Prod.fst (J.1.1 70 (5, 9) rfl)) rfl (by decide) rfl rfl ⟨by decide, by decide⟩ (jC.of rfl k_X5_isNamed rfl ?_)
            show jX m_X5_isNamed 14 0 0 0 [(0, .ref 70), (1, .int v109)] [] _ 0 0 _
            refine x_aloadn (x := 70) rfl rfl ?_
            refine x_iloadn (x := v109) rfl rfl ?_
            refine x_iconst (v := 0) rfl ki_0 ?_
            refine x_inv (N := m_X5_lengthOf) (As := [.int v109, .int 0]) (b := 70) (st := []) (dx9 := 13) (mc := 0) (ms := 0) (host := "") 5 rfl t_X5_lengthOf ⟨Or.inl q_5_133, i_X5_lengthOf.1, i_X5_lengthOf.2⟩ ⟨by decide, rfl⟩ (congrArg Prod.fst (J.1.1 70 (5, 9) rfl)) rfl (by decide) rfl rfl ⟨by decide, by decide⟩ (jC.of rfl k_X5_lengthOf rfl ?_)
            show jX m_X5_lengthOf 13 0 0 0 [(0, .ref 70), (1, .int v109), (2, .int 0)] [] _ 0 0 _
            refine x_iloadn (x := v109) rfl rfl ?_
            refine x_iconst (v := 2) rfl ki_2 ?_
            refine z_imul rfl rfl jk_2 (by omega) (fun v110 ev110 => ?_)
            refine x_iloadn (x := 0) rfl rfl ?_
            refine z_iadd rfl rfl jk_0 (by omega) (fun v111 ev111 => ?_)
            refine x_istoren (lsx9 := [(3, .int v111), (0, .ref 70), (1, .int v109), (2, .int 0)]) rfl rfl rfl ?_
            refine x_iloadn (x := v111) rfl rfl ?_
            refine x_iflt (tgt := 26) rfl rfl (ti_lt rfl jk_0 (br_f (by omega) ?_))
            refine x_iloadn (x := v111) rfl rfl ?_
            refine x_sipush (v := 1200) rfl ks_1200 ?_
            refine x_icge (tgt := 26) rfl rfl (ti_ge rfl jk_1200 ⟨fun c112 => ?_, fun c112 => ?_⟩)
            ·
              rw [if_pos (by omega)] at D
              refine x_iconst (v := (-1)) rfl ki_m1 ?_
              refine x_iret rfl rfl ?_
              show jX m_X5_isNamed 14 0 0 6 [(0, .ref 70), (1, .int v109)] [.int (-1)] _ 0 0 _
              refine x_ifge (tgt := 18) rfl rfl (ti_ge jk_m1 jk_0 (br_f (by omega) ?_))
              refine x_aloadn (x := 70) rfl rfl ?_
              refine x_iloadn (x := v109) rfl rfl ?_
              refine x_iconst (v := 1) rfl ki_1 ?_
              refine x_inv (N := m_X5_lengthOf) (As := [.int v109, .int 1]) (b := 70) (st := []) (dx9 := 13) (mc := 0) (ms := 0) (host := "") 5 rfl t_X5_lengthOf ⟨Or.inl q_5_133, i_X5_lengthOf.1, i_X5_lengthOf.2⟩ ⟨by decide, rfl⟩ (congrArg Prod.fst (J.1.1 70 (5, 9) rfl)) rfl (by decide) rfl rfl ⟨by decide, by decide⟩ (jC.of rfl k_X5_lengthOf rfl ?_)
              show jX m_X5_lengthOf 13 0 0 0 [(0, .ref 70), (1, .int v109), (2, .int 1)] [] _ 0 0 _
              refine x_iloadn (x := v109) rfl rfl ?_
              refine x_iconst (v := 2) rfl ki_2 ?_
              refine z_imul rfl rfl jk_2 (by omega) (fun v113 ev113 => ?_)
              refine x_iloadn (x := 1) rfl rfl ?_
              refine z_iadd rfl rfl jk_1 (by omega) (fun v114 ev114 => ?_)
              refine x_istoren (lsx9 := [(3, .int v114), (0, .ref 70), (1, .int v109), (2, .int 1)]) rfl rfl rfl ?_
              refine x_iloadn (x := v114) rfl rfl ?_
              refine x_iflt (tgt := 26) rfl rfl (ti_lt rfl jk_0 (br_f (by omega) ?_))
              refine x_iloadn (x := v114) rfl rfl ?_
              refine x_sipush (v := 1200) rfl ks_1200 ?_
              refine x_icge (tgt := 26) rfl rfl (ti_ge rfl jk_1200 ⟨fun c115 => ?_, fun c115 => ?_⟩)
              ·
                rw [if_pos (by omega)] at D
                refine x_iconst (v := (-1)) rfl ki_m1 ?_
                refine x_iret rfl rfl ?_
                show jX m_X5_isNamed 14 0 0 15 [(0, .ref 70), (1, .int v109)] [.int (-1)] _ 0 0 _
                refine x_iflt (tgt := 22) rfl rfl (ti_lt jk_m1 jk_0 (br_t (by omega) ?_))
                refine x_iconst (v := 0) rfl ki_0 ?_
                refine x_zret rfl rfl (by decide) ?_
                show jX m_X7_namedSoul 15 0 0 8 [(0, .ref 78), (1, .int v109)] [.int 0] _ 0 0 _
                refine x_ifeq (tgt := 19) rfl rfl (ti_eq jk_0 jk_0 (br_t (by omega) ?_))
                refine x_iconst (v := (-1)) rfl ki_m1 ?_
                refine x_iret rfl rfl ?_
                show jX m_X6_byParents 16 0 0 76 [(5, .int v107), (4, .int v6), (3, .int v4), (0, .ref 120), (1, .int a1), (2, .int 2)] [.int (-1), .ref 120] _ 0 0 _
                refine x_iload (x := v6) rfl rfl ?_
                refine x_iloadn (x := 2) rfl rfl ?_
                refine x_iconst (v := 1) rfl ki_1 ?_
                refine y_iadd (v := 3) rfl (by decide) ?_
                refine x_inv (N := m_X6_belongs) (As := [.int (-1), .int v6, .int 3]) (b := 120) (st := []) (dx9 := 15) (mc := 0) (ms := 0) (host := "") 6 rfl t_X6_belongs ⟨Or.inl q_6_127, i_X6_belongs.1, i_X6_belongs.2⟩ ⟨by decide, rfl⟩ (congrArg Prod.fst (J.1.1 120 (6, 8) rfl)) rfl (by decide) rfl rfl ⟨by decide, by decide⟩ (sf_X6_belongs_r120_c3d (jr_of jk_m1 (by omega)) (jr_of rfl (by omega)) hD J rfl  (fun v119 h ev119 J S116 X117 X118 => ?_))
                have Sm := jSm_tr rfl Sm S116
                try rw [jk_m1] at X117
                try rw [jk_m1] at X118
                try rw [X117] at D
                try rw [X118] at D
                show jX m_X6_byParents 16 0 0 84 [(5, .int v107), (4, .int v6), (3, .int v4), (0, .ref 120), (1, .int a1), (2, .int 2)] [.int v119] _ 0 0 _
                exact jX.sub jsb_n (ct_X6_byParents_r120_c2d_84 hD hQ  v119 h (jr_of rfl (by omega)) J Sm D)
              ·
                rw [if_neg (by omega)] at D
                refine x_aloadn (x := 70) rfl rfl ?_
                refine z_getR (N := 9) (b := 76) 5 7 rfl f_5_28 rfl J rfl 8967 ⟨rfl, rfl⟩ rfl ?_
                refine x_iloadn (x := v114) rfl rfl ?_
                refine z_iald (N := 1200) rfl J rfl sg_76_0_1200_1_0_1 rfl (by omega) (fun v120 qv120 ev120 => ?_)
                try rw [vrd (jmb_c S104 qv120 rfl) (show (((v4.toInt + 2) * 2) + 1) = v114.toInt from by omega)] at D
                refine x_goto (tgt := 27) rfl rfl ?_
                refine x_iret rfl rfl ?_
                show jX m_X5_isNamed 14 0 0 15 [(0, .ref 70), (1, .int v109)] [.int v120] _ 0 0 _
                refine x_iflt (tgt := 22) rfl rfl (ti_lt rfl jk_0 ⟨fun c121 => ?_, fun c121 => ?_⟩)
                ·
                  rw [if_pos (by omega)] at D
                  refine x_iconst (v := 0) rfl ki_0 ?_
                  refine x_zret rfl rfl (by decide) ?_
                  show jX m_X7_namedSoul 15 0 0 8 [(0, .ref 78), (1, .int v109)] [.int 0] _ 0 0 _
                  refine x_ifeq (tgt := 19) rfl rfl (ti_eq jk_0 jk_0 (br_t (by omega) ?_))
                  refine x_iconst (v := (-1)) rfl ki_m1 ?_
                  refine x_iret rfl rfl ?_
                  show jX m_X6_byParents 16 0 0 76 [(5, .int v107), (4, .int v6), (3, .int v4), (0, .ref 120), (1, .int a1), (2, .int 2)] [.int (-1), .ref 120] _ 0 0 _
                  refine x_iload (x := v6) rfl rfl ?_
                  refine x_iloadn (x := 2) rfl rfl ?_
                  refine x_iconst (v := 1) rfl ki_1 ?_
                  refine y_iadd (v := 3) rfl (by decide) ?_
                  refine x_inv (N := m_X6_belongs) (As := [.int (-1), .int v6, .int 3]) (b := 120) (st := []) (dx9 := 15) (mc := 0) (ms := 0) (host := "") 6 rfl t_X6_belongs ⟨Or.inl q_6_127, i_X6_belongs.1, i_X6_belongs.2⟩ ⟨by decide, rfl⟩ (congrArg Prod.fst (J.1.1 120 (6, 8) rfl)) rfl (by decide) rfl rfl ⟨by decide, by decide⟩ (sf_X6_belongs_r120_c3d (jr_of jk_m1 (by omega)) (jr_of rfl (by omega)) hD J rfl  (fun v125 h ev125 J S122 X123 X124 => ?_))
                  have Sm := jSm_tr rfl Sm S122
                  try rw [jk_m1] at X123
                  try rw [jk_m1] at X124
                  try rw [X123] at D
                  try rw [X124] at D
                  show jX m_X6_byParents 16 0 0 84 [(5, .int v107), (4, .int v6), (3, .int v4), (0, .ref 120), (1, .int a1), (2, .int 2)] [.int v125] _ 0 0 _
                  exact jX.sub jsb_n (ct_X6_byParents_r120_c2d_84 hD hQ  v125 h (jr_of rfl (by omega)) J Sm D)
                ·
                  rw [if_neg (by omega)] at D
                  refine x_iconst (v := 1) rfl ki_1 ?_
                  refine x_goto (tgt := 23) rfl rfl ?_
                  refine x_zret rfl rfl (by decide) ?_
                  show jX m_X7_namedSoul 15 0 0 8 [(0, .ref 78), (1, .int v109)] [.int 1] _ 0 0 _
                  refine x_ifeq (tgt := 19) rfl rfl (ti_eq jk_1 jk_0 (br_f (by omega) ?_))
                  refine x_aloadn (x := 78) rfl rfl ?_
                  refine x_iloadn (x := v109) rfl rfl ?_
                  refine x_inv (N := m_X7_soulAt) (As := [.int v109]) (b := 78) (st := []) (dx9 := 14) (mc := 0) (ms := 0) (host := "") 7 rfl t_X7_soulAt ⟨Or.inl q_7_153, i_X7_soulAt.1, i_X7_soulAt.2⟩ ⟨by decide, rfl⟩ (congrArg Prod.fst (J.1.1 78 (7, 16) rfl)) rfl (by decide) rfl rfl ⟨by decide, by decide⟩ (jC.of rfl k_X7_soulAt rfl ?_)
                  show jX m_X7_soulAt 14 0 0 0 [(0, .ref 78), (1, .int v109)] [] _ 0 0 _
                  refine x_iloadn (x := v109) rfl rfl ?_
                  refine x_iflt (tgt := 36) rfl rfl (ti_lt rfl jk_0 (br_f (by omega) ?_))
                  refine x_iloadn (x := v109) rfl rfl ?_
                  refine x_sipush (v := 600) rfl ks_600 ?_
                  refine x_icge (tgt := 36) rfl rfl (ti_ge rfl jk_600 ⟨fun c126 => ?_, fun c126 => ?_⟩)
                  ·
                    rw [if_pos (by omega)] at D
                    refine x_iconst (v := (-1)) rfl ki_m1 ?_
                    refine x_iret rfl rfl ?_
                    show jX m_X7_namedSoul 15 0 0 16 [(0, .ref 78), (1, .int v109)] [.int (-1)] _ 0 0 _
                    refine x_goto (tgt := 20) rfl rfl ?_
                    refine x_iret rfl rfl ?_
                    show jX m_X6_byParents 16 0 0 76 [(5, .int v107), (4, .int v6), (3, .int v4), (0, .ref 120), (1, .int a1), (2, .int 2)] [.int (-1), .ref 120] _ 0 0 _
                    refine x_iload (x := v6) rfl rfl ?_
                    refine x_iloadn (x := 2) rfl rfl ?_
                    refine x_iconst (v := 1) rfl ki_1 ?_
                    refine y_iadd (v := 3) rfl (by decide) ?_
                    refine x_inv (N := m_X6_belongs) (As := [.int (-1), .int v6, .int 3]) (b := 120) (st := []) (dx9 := 15) (mc := 0) (ms := 0) (host := "") 6 rfl t_X6_belongs ⟨Or.inl q_6_127, i_X6_belongs.1, i_X6_belongs.2⟩ ⟨by decide, rfl⟩ (congrArg Prod.fst (J.1.1 120 (6, 8) rfl)) rfl (by decide) rfl rfl ⟨by decide, by decide⟩ (sf_X6_belongs_r120_c3d (jr_of jk_m1 (by omega)) (jr_of rfl (by omega)) hD J rfl  (fun v130 h ev130 J S127 X128 X129 => ?_))
                    have Sm := jSm_tr rfl Sm S127
                    try rw [jk_m1] at X128
                    try rw [jk_m1] at X129
                    try rw [X128] at D
                    try rw [X129] at D
                    show jX m_X6_byParents 16 0 0 84 [(5, .int v107), (4, .int v6), (3, .int v4), (0, .ref 120), (1, .int a1), (2, .int 2)] [.int v130] _ 0 0 _
                    exact jX.sub jsb_n (ct_X6_byParents_r120_c2d_84 hD hQ  v130 h (jr_of rfl (by omega)) J Sm D)
                  ·
                    rw [if_neg (by omega)] at D
                    refine x_iloadn (x := v109) rfl rfl ?_
                    refine x_iconst (v := 3) rfl ki_3 ?_
                    refine z_idiv rfl rfl jk_3 (by omega) (by omega) (fun v131 ev131 => ?_)
                    refine x_aloadn (x := 78) rfl rfl ?_
                    refine z_getR (N := 16) (b := 32) 7 0 rfl f_7_55 rfl J rfl 9984 ⟨rfl, rfl⟩ rfl ?_
                    refine z_getR (N := 20) (b := 33) 1 0 rfl f_7_63 rfl J rfl 4096 ⟨rfl, rfl⟩ rfl ?_
                    refine z_getI (N := 4) 8 3 rfl f_7_85 rfl J rfl sg_33_3_4_1_0_1 (fun v132 qv132 ev132 => ?_)
                    try rw [vrf (jmb_c S104 qv132 rfl)] at D
                    refine x_icge (tgt := 36) rfl rfl (ti_ge rfl rfl ⟨fun c133 => ?_, fun c133 => ?_⟩)
                    ·
                      rw [if_pos (by omega)] at D
                      refine x_iconst (v := (-1)) rfl ki_m1 ?_
                      refine x_iret rfl rfl ?_
                      show jX m_X7_namedSoul 15 0 0 16 [(0, .ref 78), (1, .int v109)] [.int (-1)] _ 0 0 _
                      refine x_goto (tgt := 20) rfl rfl ?_
                      refine x_iret rfl rfl ?_
                      show jX m_X6_byParents 16 0 0 76 [(5, .int v107), (4, .int v6), (3, .int v4), (0, .ref 120), (1, .int a1), (2, .int 2)] [.int (-1), .ref 120] _ 0 0 _
                      refine x_iload (x := v6) rfl rfl ?_
                      refine x_iloadn (x := 2) rfl rfl ?_
                      refine x_iconst (v := 1) rfl ki_1 ?_
                      refine y_iadd (v := 3) rfl (by decide) ?_
                      refine x_inv (N := m_X6_belongs) (As := [.int (-1), .int v6, .int 3]) (b := 120) (st := []) (dx9 := 15) (mc := 0) (ms := 0) (host := "") 6 rfl t_X6_belongs ⟨Or.inl q_6_127, i_X6_belongs.1, i_X6_belongs.2⟩ ⟨by decide, rfl⟩ (congrArg Prod.fst (J.1.1 120 (6, 8) rfl)) rfl (by decide) rfl rfl ⟨by decide, by decide⟩ (sf_X6_belongs_r120_c3d (jr_of jk_m1 (by omega)) (jr_of rfl (by omega)) hD J rfl  (fun v137 h ev137 J S134 X135 X136 => ?_))
                      have Sm := jSm_tr rfl Sm S134
                      try rw [jk_m1] at X135
                      try rw [jk_m1] at X136
                      try rw [X135] at D
                      try rw [X136] at D
                      show jX m_X6_byParents 16 0 0 84 [(5, .int v107), (4, .int v6), (3, .int v4), (0, .ref 120), (1, .int a1), (2, .int 2)] [.int v137] _ 0 0 _
                      exact jX.sub jsb_n (ct_X6_byParents_r120_c2d_84 hD hQ  v137 h (jr_of rfl (by omega)) J Sm D)
                    ·
                      rw [if_neg (by omega)] at D
                      refine x_aloadn (x := 78) rfl rfl ?_
                      refine z_getR (N := 16) (b := 82) 7 10 rfl f_7_37 rfl J rfl 9994 ⟨rfl, rfl⟩ rfl ?_
                      refine x_iloadn (x := v109) rfl rfl ?_
                      refine z_iald (N := 600) rfl J rfl sg_82_0_600_1_0_1 rfl (by omega) (fun v138 qv138 ev138 => ?_)
                      try rw [vrd (jmb_c S104 qv138 rfl) (show (v4.toInt + 2) = v109.toInt from by omega)] at D
                      refine x_goto (tgt := 37) rfl rfl ?_
                      refine x_iret rfl rfl ?_
                      show jX m_X7_namedSoul 15 0 0 16 [(0, .ref 78), (1, .int v109)] [.int v138] _ 0 0 _
                      refine x_goto (tgt := 20) rfl rfl ?_
                      refine x_iret rfl rfl ?_
                      show jX m_X6_byParents 16 0 0 76 [(5, .int v107), (4, .int v6), (3, .int v4), (0, .ref 120), (1, .int a1), (2, .int 2)] [.int v138, .ref 120] _ 0 0 _
                      refine x_iload (x := v6) rfl rfl ?_
                      refine x_iloadn (x := 2) rfl rfl ?_
                      refine x_iconst (v := 1) rfl ki_1 ?_
                      refine y_iadd (v := 3) rfl (by decide) ?_
                      refine x_inv (N := m_X6_belongs) (As := [.int v138, .int v6, .int 3]) (b := 120) (st := []) (dx9 := 15) (mc := 0) (ms := 0) (host := "") 6 rfl t_X6_belongs ⟨Or.inl q_6_127, i_X6_belongs.1, i_X6_belongs.2⟩ ⟨by decide, rfl⟩ (congrArg Prod.fst (J.1.1 120 (6, 8) rfl)) rfl (by decide) rfl rfl ⟨by decide, by decide⟩ (sf_X6_belongs_r120_c3d (jr_of rfl (by omega)) (jr_of rfl (by omega)) hD J rfl  (fun v142 h ev142 J S139 X140 X141 => ?_))
                      have Sm := jSm_tr rfl Sm S139
                      try rw [X140] at D
                      try rw [X141] at D
                      show jX m_X6_byParents 16 0 0 84 [(5, .int v107), (4, .int v6), (3, .int v4), (0, .ref 120), (1, .int a1), (2, .int 2)] [.int v142] _ 0 0 _
                      exact jX.sub jsb_n (ct_X6_byParents_r120_c2d_84 hD hQ  v142 h (jr_of rfl (by omega)) J Sm D)
            ·
              rw [if_neg (by omega)] at D
              refine x_aloadn (x := 70) rfl rfl ?_
              refine z_getR (N := 9) (b := 76) 5 7 rfl f_5_28 rfl J rfl 8967 ⟨rfl, rfl⟩ rfl ?_
              refine x_iloadn (x := v111) rfl rfl ?_
              refine z_iald (N := 1200) rfl J rfl sg_76_0_1200_1_0_1 rfl (by omega) (fun v143 qv143 ev143 => ?_)
              try rw [vrd (jmb_c S104 qv143 rfl) (show (((v4.toInt + 2) * 2) + 0) = v111.toInt from by omega)] at D
              refine x_goto (tgt := 27) rfl rfl ?_
              refine x_iret rfl rfl ?_
              show jX m_X5_isNamed 14 0 0 6 [(0, .ref 70), (1, .int v109)] [.int v143] _ 0 0 _
              refine x_ifge (tgt := 18) rfl rfl (ti_ge rfl jk_0 ⟨fun c144 => ?_, fun c144 => ?_⟩)
              ·
                rw [if_pos (by omega)] at D
                refine x_iconst (v := 1) rfl ki_1 ?_
                refine x_goto (tgt := 23) rfl rfl ?_
                refine x_zret rfl rfl (by decide) ?_
                show jX m_X7_namedSoul 15 0 0 8 [(0, .ref 78), (1, .int v109)] [.int 1] _ 0 0 _
                refine x_ifeq (tgt := 19) rfl rfl (ti_eq jk_1 jk_0 (br_f (by omega) ?_))
                refine x_aloadn (x := 78) rfl rfl ?_
                refine x_iloadn (x := v109) rfl rfl ?_
                refine x_inv (N := m_X7_soulAt) (As := [.int v109]) (b := 78) (st := []) (dx9 := 14) (mc := 0) (ms := 0) (host := "") 7 rfl t_X7_soulAt ⟨Or.inl q_7_153, i_X7_soulAt.1, i_X7_soulAt.2⟩ ⟨by decide, rfl⟩ (congrArg Prod.fst (J.1.1 78 (7, 16) rfl)) rfl (by decide) rfl rfl ⟨by decide, by decide⟩ (jC.of rfl k_X7_soulAt rfl ?_)
                show jX m_X7_soulAt 14 0 0 0 [(0, .ref 78), (1, .int v109)] [] _ 0 0 _
                refine x_iloadn (x := v109) rfl rfl ?_
                refine x_iflt (tgt := 36) rfl rfl (ti_lt rfl jk_0 (br_f (by omega) ?_))
                refine x_iloadn (x := v109) rfl rfl ?_
                refine x_sipush (v := 600) rfl ks_600 ?_
                refine x_icge (tgt := 36) rfl rfl (ti_ge rfl jk_600 ⟨fun c145 => ?_, fun c145 => ?_⟩)
                ·
                  rw [if_pos (by omega)] at D
                  refine x_iconst (v := (-1)) rfl ki_m1 ?_
                  refine x_iret rfl rfl ?_
                  show jX m_X7_namedSoul 15 0 0 16 [(0, .ref 78), (1, .int v109)] [.int (-1)] _ 0 0 _
                  refine x_goto (tgt := 20) rfl rfl ?_
                  refine x_iret rfl rfl ?_
                  show jX m_X6_byParents 16 0 0 76 [(5, .int v107), (4, .int v6), (3, .int v4), (0, .ref 120), (1, .int a1), (2, .int 2)] [.int (-1), .ref 120] _ 0 0 _
                  refine x_iload (x := v6) rfl rfl ?_
                  refine x_iloadn (x := 2) rfl rfl ?_
                  refine x_iconst (v := 1) rfl ki_1 ?_
                  refine y_iadd (v := 3) rfl (by decide) ?_
                  refine x_inv (N := m_X6_belongs) (As := [.int (-1), .int v6, .int 3]) (b := 120) (st := []) (dx9 := 15) (mc := 0) (ms := 0) (host := "") 6 rfl t_X6_belongs ⟨Or.inl q_6_127, i_X6_belongs.1, i_X6_belongs.2⟩ ⟨by decide, rfl⟩ (congrArg Prod.fst (J.1.1 120 (6, 8) rfl)) rfl (by decide) rfl rfl ⟨by decide, by decide⟩ (sf_X6_belongs_r120_c3d (jr_of jk_m1 (by omega)) (jr_of rfl (by omega)) hD J rfl  (fun v149 h ev149 J S146 X147 X148 => ?_))
                  have Sm := jSm_tr rfl Sm S146
                  try rw [jk_m1] at X147
                  try rw [jk_m1] at X148
                  try rw [X147] at D
                  try rw [X148] at D
                  show jX m_X6_byParents 16 0 0 84 [(5, .int v107), (4, .int v6), (3, .int v4), (0, .ref 120), (1, .int a1), (2, .int 2)] [.int v149] _ 0 0 _
                  exact jX.sub jsb_n (ct_X6_byParents_r120_c2d_84 hD hQ  v149 h (jr_of rfl (by omega)) J Sm D)
                ·
                  rw [if_neg (by omega)] at D
                  refine x_iloadn (x := v109) rfl rfl ?_
                  refine x_iconst (v := 3) rfl ki_3 ?_
                  refine z_idiv rfl rfl jk_3 (by omega) (by omega) (fun v150 ev150 => ?_)
                  refine x_aloadn (x := 78) rfl rfl ?_
                  refine z_getR (N := 16) (b := 32) 7 0 rfl f_7_55 rfl J rfl 9984 ⟨rfl, rfl⟩ rfl ?_
                  refine z_getR (N := 20) (b := 33) 1 0 rfl f_7_63 rfl J rfl 4096 ⟨rfl, rfl⟩ rfl ?_
                  refine z_getI (N := 4) 8 3 rfl f_7_85 rfl J rfl sg_33_3_4_1_0_1 (fun v151 qv151 ev151 => ?_)
                  try rw [vrf (jmb_c S104 qv151 rfl)] at D
                  refine x_icge (tgt := 36) rfl rfl (ti_ge rfl rfl ⟨fun c152 => ?_, fun c152 => ?_⟩)
                  ·
                    rw [if_pos (by omega)] at D
                    refine x_iconst (v := (-1)) rfl ki_m1 ?_
                    refine x_iret rfl rfl ?_
                    show jX m_X7_namedSoul 15 0 0 16 [(0, .ref 78), (1, .int v109)] [.int (-1)] _ 0 0 _
                    refine x_goto (tgt := 20) rfl rfl ?_
                    refine x_iret rfl rfl ?_
                    show jX m_X6_byParents 16 0 0 76 [(5, .int v107), (4, .int v6), (3, .int v4), (0, .ref 120), (1, .int a1), (2, .int 2)] [.int (-1), .ref 120] _ 0 0 _
                    refine x_iload (x := v6) rfl rfl ?_
                    refine x_iloadn (x := 2) rfl rfl ?_
                    refine x_iconst (v := 1) rfl ki_1 ?_
                    refine y_iadd (v := 3) rfl (by decide) ?_
                    refine x_inv (N := m_X6_belongs) (As := [.int (-1), .int v6, .int 3]) (b := 120) (st := []) (dx9 := 15) (mc := 0) (ms := 0) (host := "") 6 rfl t_X6_belongs ⟨Or.inl q_6_127, i_X6_belongs.1, i_X6_belongs.2⟩ ⟨by decide, rfl⟩ (congrArg Prod.fst (J.1.1 120 (6, 8) rfl)) rfl (by decide) rfl rfl ⟨by decide, by decide⟩ (sf_X6_belongs_r120_c3d (jr_of jk_m1 (by omega)) (jr_of rfl (by omega)) hD J rfl  (fun v156 h ev156 J S153 X154 X155 => ?_))
                    have Sm := jSm_tr rfl Sm S153
                    try rw [jk_m1] at X154
                    try rw [jk_m1] at X155
                    try rw [X154] at D
                    try rw [X155] at D
                    show jX m_X6_byParents 16 0 0 84 [(5, .int v107), (4, .int v6), (3, .int v4), (0, .ref 120), (1, .int a1), (2, .int 2)] [.int v156] _ 0 0 _
                    exact jX.sub jsb_n (ct_X6_byParents_r120_c2d_84 hD hQ  v156 h (jr_of rfl (by omega)) J Sm D)
                  ·
                    rw [if_neg (by omega)] at D
                    refine x_aloadn (x := 78) rfl rfl ?_
                    refine z_getR (N := 16) (b := 82) 7 10 rfl f_7_37 rfl J rfl 9994 ⟨rfl, rfl⟩ rfl ?_
                    refine x_iloadn (x := v109) rfl rfl ?_
                    refine z_iald (N := 600) rfl J rfl sg_82_0_600_1_0_1 rfl (by omega) (fun v157 qv157 ev157 => ?_)
                    try rw [vrd (jmb_c S104 qv157 rfl) (show (v4.toInt + 2) = v109.toInt from by omega)] at D
                    refine x_goto (tgt := 37) rfl rfl ?_
                    refine x_iret rfl rfl ?_
                    show jX m_X7_namedSoul 15 0 0 16 [(0, .ref 78), (1, .int v109)] [.int v157] _ 0 0 _
                    refine x_goto (tgt := 20) rfl rfl ?_
                    refine x_iret rfl rfl ?_
                    show jX m_X6_byParents 16 0 0 76 [(5, .int v107), (4, .int v6), (3, .int v4), (0, .ref 120), (1, .int a1), (2, .int 2)] [.int v157, .ref 120] _ 0 0 _
                    refine x_iload (x := v6) rfl rfl ?_
                    refine x_iloadn (x := 2) rfl rfl ?_
                    refine x_iconst (v := 1) rfl ki_1 ?_
                    refine y_iadd (v := 3) rfl (by decide) ?_
                    refine x_inv (N := m_X6_belongs) (As := [.int v157, .int v6, .int 3]) (b := 120) (st := []) (dx9 := 15) (mc := 0) (ms := 0) (host := "") 6 rfl t_X6_belongs ⟨Or.inl q_6_127, i_X6_belongs.1, i_X6_belongs.2⟩ ⟨by decide, rfl⟩ (congrArg Prod.fst (J.1.1 120 (6, 8) rfl)) rfl (by decide) rfl rfl ⟨by decide, by decide⟩ (sf_X6_belongs_r120_c3d (jr_of rfl (by omega)) (jr_of rfl (by omega)) hD J rfl  (fun v161 h ev161 J S158 X159 X160 => ?_))
                    have Sm := jSm_tr rfl Sm S158
                    try rw [X159] at D
                    try rw [X160] at D
                    show jX m_X6_byParents 16 0 0 84 [(5, .int v107), (4, .int v6), (3, .int v4), (0, .ref 120), (1, .int a1), (2, .int 2)] [.int v161] _ 0 0 _
                    exact jX.sub jsb_n (ct_X6_byParents_r120_c2d_84 hD hQ  v161 h (jr_of rfl (by omega)) J Sm D)
              ·
                rw [if_neg (by omega)] at D
                refine x_aloadn (x := 70) rfl rfl ?_
                refine x_iloadn (x := v109) rfl rfl ?_
                refine x_iconst (v := 1) rfl ki_1 ?_
                refine x_inv (N := m_X5_lengthOf) (As := [.int v109, .int 1]) (b := 70) (st := []) (dx9 := 13) (mc := 0) (ms := 0) (host := "") 5 rfl t_X5_lengthOf ⟨Or.inl q_5_133, i_X5_lengthOf.1, i_X5_lengthOf.2⟩ ⟨by decide, rfl⟩ (congrArg Prod.fst (J.1.1 70 (5, 9) rfl)) rfl (by decide) rfl rfl ⟨by decide, by decide⟩ (jC.of rfl k_X5_lengthOf rfl ?_)
                show jX m_X5_lengthOf 13 0 0 0 [(0, .ref 70), (1, .int v109), (2, .int 1)] [] _ 0 0 _
                refine x_iloadn (x := v109) rfl rfl ?_
                refine x_iconst (v := 2) rfl ki_2 ?_
                refine z_imul rfl rfl jk_2 (by omega) (fun v162 ev162 => ?_)
                refine x_iloadn (x := 1) rfl rfl ?_
                refine z_iadd rfl rfl jk_1 (by omega) (fun v163 ev163 => ?_)
                refine x_istoren (lsx9 := [(3, .int v163), (0, .ref 70), (1, .int v109), (2, .int 1)]) rfl rfl rfl ?_
                refine x_iloadn (x := v163) rfl rfl ?_
                refine x_iflt (tgt := 26) rfl rfl (ti_lt rfl jk_0 (br_f (by omega) ?_))
                refine x_iloadn (x := v163) rfl rfl ?_
                refine x_sipush (v := 1200) rfl ks_1200 ?_
                refine x_icge (tgt := 26) rfl rfl (ti_ge rfl jk_1200 ⟨fun c164 => ?_, fun c164 => ?_⟩)
                ·
                  rw [if_pos (by omega)] at D
                  refine x_iconst (v := (-1)) rfl ki_m1 ?_
                  refine x_iret rfl rfl ?_
                  show jX m_X5_isNamed 14 0 0 15 [(0, .ref 70), (1, .int v109)] [.int (-1)] _ 0 0 _
                  refine x_iflt (tgt := 22) rfl rfl (ti_lt jk_m1 jk_0 (br_t (by omega) ?_))
                  refine x_iconst (v := 0) rfl ki_0 ?_
                  refine x_zret rfl rfl (by decide) ?_
                  show jX m_X7_namedSoul 15 0 0 8 [(0, .ref 78), (1, .int v109)] [.int 0] _ 0 0 _
                  refine x_ifeq (tgt := 19) rfl rfl (ti_eq jk_0 jk_0 (br_t (by omega) ?_))
                  refine x_iconst (v := (-1)) rfl ki_m1 ?_
                  refine x_iret rfl rfl ?_
                  show jX m_X6_byParents 16 0 0 76 [(5, .int v107), (4, .int v6), (3, .int v4), (0, .ref 120), (1, .int a1), (2, .int 2)] [.int (-1), .ref 120] _ 0 0 _
                  refine x_iload (x := v6) rfl rfl ?_
                  refine x_iloadn (x := 2) rfl rfl ?_
                  refine x_iconst (v := 1) rfl ki_1 ?_
                  refine y_iadd (v := 3) rfl (by decide) ?_
                  refine x_inv (N := m_X6_belongs) (As := [.int (-1), .int v6, .int 3]) (b := 120) (st := []) (dx9 := 15) (mc := 0) (ms := 0) (host := "") 6 rfl t_X6_belongs ⟨Or.inl q_6_127, i_X6_belongs.1, i_X6_belongs.2⟩ ⟨by decide, rfl⟩ (congrArg Prod.fst (J.1.1 120 (6, 8) rfl)) rfl (by decide) rfl rfl ⟨by decide, by decide⟩ (sf_X6_belongs_r120_c3d (jr_of jk_m1 (by omega)) (jr_of rfl (by omega)) hD J rfl  (fun v168 h ev168 J S165 X166 X167 => ?_))
                  have Sm := jSm_tr rfl Sm S165
                  try rw [jk_m1] at X166
                  try rw [jk_m1] at X167
                  try rw [X166] at D
                  try rw [X167] at D
                  show jX m_X6_byParents 16 0 0 84 [(5, .int v107), (4, .int v6), (3, .int v4), (0, .ref 120), (1, .int a1), (2, .int 2)] [.int v168] _ 0 0 _
                  exact jX.sub jsb_n (ct_X6_byParents_r120_c2d_84 hD hQ  v168 h (jr_of rfl (by omega)) J Sm D)
                ·
                  rw [if_neg (by omega)] at D
                  refine x_aloadn (x := 70) rfl rfl ?_
                  refine z_getR (N := 9) (b := 76) 5 7 rfl f_5_28 rfl J rfl 8967 ⟨rfl, rfl⟩ rfl ?_
                  refine x_iloadn (x := v163) rfl rfl ?_
                  refine z_iald (N := 1200) rfl J rfl sg_76_0_1200_1_0_1 rfl (by omega) (fun v169 qv169 ev169 => ?_)
                  try rw [vrd (jmb_c S104 qv169 rfl) (show (((v4.toInt + 2) * 2) + 1) = v163.toInt from by omega)] at D
                  refine x_goto (tgt := 27) rfl rfl ?_
                  refine x_iret rfl rfl ?_
                  show jX m_X5_isNamed 14 0 0 15 [(0, .ref 70), (1, .int v109)] [.int v169] _ 0 0 _
                  refine x_iflt (tgt := 22) rfl rfl (ti_lt rfl jk_0 ⟨fun c170 => ?_, fun c170 => ?_⟩)
                  ·
                    rw [if_pos (by omega)] at D
                    refine x_iconst (v := 0) rfl ki_0 ?_
                    refine x_zret rfl rfl (by decide) ?_
                    show jX m_X7_namedSoul 15 0 0 8 [(0, .ref 78), (1, .int v109)] [.int 0] _ 0 0 _
                    refine x_ifeq (tgt := 19) rfl rfl (ti_eq jk_0 jk_0 (br_t (by omega) ?_))
                    refine x_iconst (v := (-1)) rfl ki_m1 ?_
                    refine x_iret rfl rfl ?_
                    show jX m_X6_byParents 16 0 0 76 [(5, .int v107), (4, .int v6), (3, .int v4), (0, .ref 120), (1, .int a1), (2, .int 2)] [.int (-1), .ref 120] _ 0 0 _
                    refine x_iload (x := v6) rfl rfl ?_
                    refine x_iloadn (x := 2) rfl rfl ?_
                    refine x_iconst (v := 1) rfl ki_1 ?_
                    refine y_iadd (v := 3) rfl (by decide) ?_
                    refine x_inv (N := m_X6_belongs) (As := [.int (-1), .int v6, .int 3]) (b := 120) (st := []) (dx9 := 15) (mc := 0) (ms := 0) (host := "") 6 rfl t_X6_belongs ⟨Or.inl q_6_127, i_X6_belongs.1, i_X6_belongs.2⟩ ⟨by decide, rfl⟩ (congrArg Prod.fst (J.1.1 120 (6, 8) rfl)) rfl (by decide) rfl rfl ⟨by decide, by decide⟩ (sf_X6_belongs_r120_c3d (jr_of jk_m1 (by omega)) (jr_of rfl (by omega)) hD J rfl  (fun v174 h ev174 J S171 X172 X173 => ?_))
                    have Sm := jSm_tr rfl Sm S171
                    try rw [jk_m1] at X172
                    try rw [jk_m1] at X173
                    try rw [X172] at D
                    try rw [X173] at D
                    show jX m_X6_byParents 16 0 0 84 [(5, .int v107), (4, .int v6), (3, .int v4), (0, .ref 120), (1, .int a1), (2, .int 2)] [.int v174] _ 0 0 _
                    exact jX.sub jsb_n (ct_X6_byParents_r120_c2d_84 hD hQ  v174 h (jr_of rfl (by omega)) J Sm D)
                  ·
                    rw [if_neg (by omega)] at D
                    refine x_iconst (v := 1) rfl ki_1 ?_
                    refine x_goto (tgt := 23) rfl rfl ?_
                    refine x_zret rfl rfl (by decide) ?_
                    show jX m_X7_namedSoul 15 0 0 8 [(0, .ref 78), (1, .int v109)] [.int 1] _ 0 0 _
                    refine x_ifeq (tgt := 19) rfl rfl (ti_eq jk_1 jk_0 (br_f (by omega) ?_))
                    refine x_aloadn (x := 78) rfl rfl ?_
                    refine x_iloadn (x := v109) rfl rfl ?_
                    refine x_inv (N := m_X7_soulAt) (As := [.int v109]) (b := 78) (st := []) (dx9 := 14) (mc := 0) (ms := 0) (host := "") 7 rfl t_X7_soulAt ⟨Or.inl q_7_153, i_X7_soulAt.1, i_X7_soulAt.2⟩ ⟨by decide, rfl⟩ (congrArg Prod.fst (J.1.1 78 (7, 16) rfl)) rfl (by decide) rfl rfl ⟨by decide, by decide⟩ (jC.of rfl k_X7_soulAt rfl ?_)
                    show jX m_X7_soulAt 14 0 0 0 [(0, .ref 78), (1, .int v109)] [] _ 0 0 _
                    refine x_iloadn (x := v109) rfl rfl ?_
                    refine x_iflt (tgt := 36) rfl rfl (ti_lt rfl jk_0 (br_f (by omega) ?_))
                    refine x_iloadn (x := v109) rfl rfl ?_
                    refine x_sipush (v := 600) rfl ks_600 ?_
                    refine x_icge (tgt := 36) rfl rfl (ti_ge rfl jk_600 ⟨fun c175 => ?_, fun c175 => ?_⟩)
                    ·
                      rw [if_pos (by omega)] at D
                      refine x_iconst (v := (-1)) rfl ki_m1 ?_
                      refine x_iret rfl rfl ?_
                      show jX m_X7_namedSoul 15 0 0 16 [(0, .ref 78), (1, .int v109)] [.int (-1)] _ 0 0 _
                      refine x_goto (tgt := 20) rfl rfl ?_
                      refine x_iret rfl rfl ?_
                      show jX m_X6_byParents 16 0 0 76 [(5, .int v107), (4, .int v6), (3, .int v4), (0, .ref 120), (1, .int a1), (2, .int 2)] [.int (-1), .ref 120] _ 0 0 _
                      refine x_iload (x := v6) rfl rfl ?_
                      refine x_iloadn (x := 2) rfl rfl ?_
                      refine x_iconst (v := 1) rfl ki_1 ?_
                      refine y_iadd (v := 3) rfl (by decide) ?_
                      refine x_inv (N := m_X6_belongs) (As := [.int (-1), .int v6, .int 3]) (b := 120) (st := []) (dx9 := 15) (mc := 0) (ms := 0) (host := "") 6 rfl t_X6_belongs ⟨Or.inl q_6_127, i_X6_belongs.1, i_X6_belongs.2⟩ ⟨by decide, rfl⟩ (congrArg Prod.fst (J.1.1 120 (6, 8) rfl)) rfl (by decide) rfl rfl ⟨by decide, by decide⟩ (sf_X6_belongs_r120_c3d (jr_of jk_m1 (by omega)) (jr_of rfl (by omega)) hD J rfl  (fun v179 h ev179 J S176 X177 X178 => ?_))
                      have Sm := jSm_tr rfl Sm S176
                      try rw [jk_m1] at X177
                      try rw [jk_m1] at X178
                      try rw [X177] at D
                      try rw [X178] at D
                      show jX m_X6_byParents 16 0 0 84 [(5, .int v107), (4, .int v6), (3, .int v4), (0, .ref 120), (1, .int a1), (2, .int 2)] [.int v179] _ 0 0 _
                      exact jX.sub jsb_n (ct_X6_byParents_r120_c2d_84 hD hQ  v179 h (jr_of rfl (by omega)) J Sm D)
                    ·
                      rw [if_neg (by omega)] at D
                      refine x_iloadn (x := v109) rfl rfl ?_
                      refine x_iconst (v := 3) rfl ki_3 ?_
                      refine z_idiv rfl rfl jk_3 (by omega) (by omega) (fun v180 ev180 => ?_)
                      refine x_aloadn (x := 78) rfl rfl ?_
                      refine z_getR (N := 16) (b := 32) 7 0 rfl f_7_55 rfl J rfl 9984 ⟨rfl, rfl⟩ rfl ?_
                      refine z_getR (N := 20) (b := 33) 1 0 rfl f_7_63 rfl J rfl 4096 ⟨rfl, rfl⟩ rfl ?_
                      refine z_getI (N := 4) 8 3 rfl f_7_85 rfl J rfl sg_33_3_4_1_0_1 (fun v181 qv181 ev181 => ?_)
                      try rw [vrf (jmb_c S104 qv181 rfl)] at D
                      refine x_icge (tgt := 36) rfl rfl (ti_ge rfl rfl ⟨fun c182 => ?_, fun c182 => ?_⟩)
                      ·
                        rw [if_pos (by omega)] at D
                        refine x_iconst (v := (-1)) rfl ki_m1 ?_
                        refine x_iret rfl rfl ?_
                        show jX m_X7_namedSoul 15 0 0 16 [(0, .ref 78), (1, .int v109)] [.int (-1)] _ 0 0 _
                        refine x_goto (tgt := 20) rfl rfl ?_
                        refine x_iret rfl rfl ?_
                        show jX m_X6_byParents 16 0 0 76 [(5, .int v107), (4, .int v6), (3, .int v4), (0, .ref 120), (1, .int a1), (2, .int 2)] [.int (-1), .ref 120] _ 0 0 _
                        refine x_iload (x := v6) rfl rfl ?_
                        refine x_iloadn (x := 2) rfl rfl ?_
                        refine x_iconst (v := 1) rfl ki_1 ?_
                        refine y_iadd (v := 3) rfl (by decide) ?_
                        refine x_inv (N := m_X6_belongs) (As := [.int (-1), .int v6, .int 3]) (b := 120) (st := []) (dx9 := 15) (mc := 0) (ms := 0) (host := "") 6 rfl t_X6_belongs ⟨Or.inl q_6_127, i_X6_belongs.1, i_X6_belongs.2⟩ ⟨by decide, rfl⟩ (congrArg Prod.fst (J.1.1 120 (6, 8) rfl)) rfl (by decide) rfl rfl ⟨by decide, by decide⟩ (sf_X6_belongs_r120_c3d (jr_of jk_m1 (by omega)) (jr_of rfl (by omega)) hD J rfl  (fun v186 h ev186 J S183 X184 X185 => ?_))
                        have Sm := jSm_tr rfl Sm S183
                        try rw [jk_m1] at X184
                        try rw [jk_m1] at X185
                        try rw [X184] at D
                        try rw [X185] at D
                        show jX m_X6_byParents 16 0 0 84 [(5, .int v107), (4, .int v6), (3, .int v4), (0, .ref 120), (1, .int a1), (2, .int 2)] [.int v186] _ 0 0 _
                        exact jX.sub jsb_n (ct_X6_byParents_r120_c2d_84 hD hQ  v186 h (jr_of rfl (by omega)) J Sm D)
                      ·
                        rw [if_neg (by omega)] at D
                        refine x_aloadn (x := 78) rfl rfl ?_
                        refine z_getR (N := 16) (b := 82) 7 10 rfl f_7_37 rfl J rfl 9994 ⟨rfl, rfl⟩ rfl ?_
                        refine x_iloadn (x := v109) rfl rfl ?_
                        refine z_iald (N := 600) rfl J rfl sg_82_0_600_1_0_1 rfl (by omega) (fun v187 qv187 ev187 => ?_)
                        try rw [vrd (jmb_c S104 qv187 rfl) (show (v4.toInt + 2) = v109.toInt from by omega)] at D
                        refine x_goto (tgt := 37) rfl rfl ?_
                        refine x_iret rfl rfl ?_
                        show jX m_X7_namedSoul 15 0 0 16 [(0, .ref 78), (1, .int v109)] [.int v187] _ 0 0 _
                        refine x_goto (tgt := 20) rfl rfl ?_
                        refine x_iret rfl rfl ?_
                        show jX m_X6_byParents 16 0 0 76 [(5, .int v107), (4, .int v6), (3, .int v4), (0, .ref 120), (1, .int a1), (2, .int 2)] [.int v187, .ref 120] _ 0 0 _
                        refine x_iload (x := v6) rfl rfl ?_
                        refine x_iloadn (x := 2) rfl rfl ?_
                        refine x_iconst (v := 1) rfl ki_1 ?_
                        refine y_iadd (v := 3) rfl (by decide) ?_
                        refine x_inv (N := m_X6_belongs) (As := [.int v187, .int v6, .int 3]) (b := 120) (st := []) (dx9 := 15) (mc := 0) (ms := 0) (host := "") 6 rfl t_X6_belongs ⟨Or.inl q_6_127, i_X6_belongs.1, i_X6_belongs.2⟩ ⟨by decide, rfl⟩ (congrArg Prod.fst (J.1.1 120 (6, 8) rfl)) rfl (by decide) rfl rfl ⟨by decide, by decide⟩ (sf_X6_belongs_r120_c3d (jr_of rfl (by omega)) (jr_of rfl (by omega)) hD J rfl  (fun v191 h ev191 J S188 X189 X190 => ?_))
                        have Sm := jSm_tr rfl Sm S188
                        try rw [X189] at D
                        try rw [X190] at D
                        show jX m_X6_byParents 16 0 0 84 [(5, .int v107), (4, .int v6), (3, .int v4), (0, .ref 120), (1, .int a1), (2, .int 2)] [.int v191] _ 0 0 _
                        exact jX.sub jsb_n (ct_X6_byParents_r120_c2d_84 hD hQ  v191 h (jr_of rfl (by omega)) J Sm D)
          ·
            rw [if_neg (by omega)] at D
            refine x_iload (x := v107) rfl rfl ?_
            refine x_goto (tgt := 84) rfl rfl ?_
            exact jX.sub jsb_n (ct_X6_byParents_r120_c2d_84 hD hQ  v107 h (jr_of rfl (by omega)) J Sm D)
        ·
          rw [if_neg (by omega)] at D
          refine x_iconst (v := 1) rfl ki_1 ?_
          refine x_goto (tgt := 23) rfl rfl ?_
          refine x_zret rfl rfl (by decide) ?_
          show jX m_X7_namedSoul 15 0 0 8 [(0, .ref 78), (1, .int v7)] [.int 1] _ 0 0 _
          refine x_ifeq (tgt := 19) rfl rfl (ti_eq jk_1 jk_0 (br_f (by omega) ?_))
          refine x_aloadn (x := 78) rfl rfl ?_
          refine x_iloadn (x := v7) rfl rfl ?_
          refine x_inv (N := m_X7_soulAt) (As := [.int v7]) (b := 78) (st := []) (dx9 := 14) (mc := 0) (ms := 0) (host := "") 7 rfl t_X7_soulAt ⟨Or.inl q_7_153, i_X7_soulAt.1, i_X7_soulAt.2⟩ ⟨by decide, rfl⟩ (congrArg Prod.fst (J.1.1 78 (7, 16) rfl)) rfl (by decide) rfl rfl ⟨by decide, by decide⟩ (jC.of rfl k_X7_soulAt rfl ?_)
          show jX m_X7_soulAt 14 0 0 0 [(0, .ref 78), (1, .int v7)] [] _ 0 0 _
          refine x_iloadn (x := v7) rfl rfl ?_
          refine x_iflt (tgt := 36) rfl rfl (ti_lt rfl jk_0 (br_f (by omega) ?_))
          refine x_iloadn (x := v7) rfl rfl ?_
          refine x_sipush (v := 600) rfl ks_600 ?_
          refine x_icge (tgt := 36) rfl rfl (ti_ge rfl jk_600 ⟨fun c192 => ?_, fun c192 => ?_⟩)
          ·
            rw [if_pos (by omega)] at D
            refine x_iconst (v := (-1)) rfl ki_m1 ?_
            refine x_iret rfl rfl ?_
            show jX m_X7_namedSoul 15 0 0 16 [(0, .ref 78), (1, .int v7)] [.int (-1)] _ 0 0 _
            refine x_goto (tgt := 20) rfl rfl ?_
            refine x_iret rfl rfl ?_
            show jX m_X6_byParents 16 0 0 44 [(4, .int v6), (3, .int v4), (0, .ref 120), (1, .int a1), (2, .int 2)] [.int (-1), .ref 120] _ 0 0 _
            refine x_iload (x := v6) rfl rfl ?_
            refine x_iloadn (x := 2) rfl rfl ?_
            refine x_iconst (v := 1) rfl ki_1 ?_
            refine y_iadd (v := 3) rfl (by decide) ?_
            refine x_inv (N := m_X6_belongs) (As := [.int (-1), .int v6, .int 3]) (b := 120) (st := []) (dx9 := 15) (mc := 0) (ms := 0) (host := "") 6 rfl t_X6_belongs ⟨Or.inl q_6_127, i_X6_belongs.1, i_X6_belongs.2⟩ ⟨by decide, rfl⟩ (congrArg Prod.fst (J.1.1 120 (6, 8) rfl)) rfl (by decide) rfl rfl ⟨by decide, by decide⟩ (sf_X6_belongs_r120_c3d (jr_of jk_m1 (by omega)) (jr_of rfl (by omega)) hD J rfl  (fun v196 h ev196 J S193 X194 X195 => ?_))
            have Sm := jSm_tr rfl Sm S193
            try rw [jk_m1] at X194
            try rw [jk_m1] at X195
            try rw [X194] at D
            try rw [X195] at D
            show jX m_X6_byParents 16 0 0 52 [(4, .int v6), (3, .int v4), (0, .ref 120), (1, .int a1), (2, .int 2)] [.int v196] _ 0 0 _
            refine x_istore (lsx9 := [(5, .int v196), (4, .int v6), (3, .int v4), (0, .ref 120), (1, .int a1), (2, .int 2)]) rfl rfl rfl ?_
            refine x_iload (x := v196) rfl rfl ?_
            refine x_iconst (v := (-1)) rfl ki_m1 ?_
            refine x_iceq (tgt := 65) rfl rfl (ti_eq rfl jk_m1 ⟨fun c197 => ?_, fun c197 => ?_⟩)
            ·
              rw [if_pos (by omega)] at D
              refine x_aloadn (x := 120) rfl rfl ?_
              refine x_aloadn (x := 120) rfl rfl ?_
              refine z_getR (N := 8) (b := 78) 6 1 rfl f_6_32 rfl J rfl 15361 ⟨rfl, rfl⟩ rfl ?_
              refine x_iloadn (x := v4) rfl rfl ?_
              refine x_iconst (v := 2) rfl ki_2 ?_
              refine z_iadd rfl rfl jk_2 (by omega) (fun v198 ev198 => ?_)
              refine x_inv (N := m_X7_namedSoul) (As := [.int v198]) (b := 78) (st := [.ref 120]) (dx9 := 15) (mc := 0) (ms := 0) (host := "") 7 rfl t_X7_namedSoul ⟨Or.inl q_6_124, i_X7_namedSoul.1, i_X7_namedSoul.2⟩ ⟨by decide, rfl⟩ (congrArg Prod.fst (J.1.1 78 (7, 16) rfl)) rfl (by decide) rfl rfl ⟨by decide, by decide⟩ (jC.of rfl k_X7_namedSoul rfl ?_)
              show jX m_X7_namedSoul 15 0 0 0 [(0, .ref 78), (1, .int v198)] [] _ 0 0 _
              refine x_aloadn (x := 78) rfl rfl ?_
              refine z_getR (N := 16) (b := 70) 7 1 rfl f_7_59 rfl J rfl 9985 ⟨rfl, rfl⟩ rfl ?_
              refine x_iloadn (x := v198) rfl rfl ?_
              refine x_inv (N := m_X5_isNamed) (As := [.int v198]) (b := 70) (st := []) (dx9 := 14) (mc := 0) (ms := 0) (host := "") 5 rfl t_X5_isNamed ⟨Or.inl q_7_173, i_X5_isNamed.1, i_X5_isNamed.2⟩ ⟨by decide, rfl⟩ (congrArg Prod.fst (J.1.1 70 (5, 9) rfl)) rfl (by decide) rfl rfl ⟨by decide, by decide⟩ (jC.of rfl k_X5_isNamed rfl ?_)
              show jX m_X5_isNamed 14 0 0 0 [(0, .ref 70), (1, .int v198)] [] _ 0 0 _
              refine x_aloadn (x := 70) rfl rfl ?_
              refine x_iloadn (x := v198) rfl rfl ?_
              refine x_iconst (v := 0) rfl ki_0 ?_
              refine x_inv (N := m_X5_lengthOf) (As := [.int v198, .int 0]) (b := 70) (st := []) (dx9 := 13) (mc := 0) (ms := 0) (host := "") 5 rfl t_X5_lengthOf ⟨Or.inl q_5_133, i_X5_lengthOf.1, i_X5_lengthOf.2⟩ ⟨by decide, rfl⟩ (congrArg Prod.fst (J.1.1 70 (5, 9) rfl)) rfl (by decide) rfl rfl ⟨by decide, by decide⟩ (jC.of rfl k_X5_lengthOf rfl ?_)
              show jX m_X5_lengthOf 13 0 0 0 [(0, .ref 70), (1, .int v198), (2, .int 0)] [] _ 0 0 _
              refine x_iloadn (x := v198) rfl rfl ?_
              refine x_iconst (v := 2) rfl ki_2 ?_
              refine z_imul rfl rfl jk_2 (by omega) (fun v199 ev199 => ?_)
              refine x_iloadn (x := 0) rfl rfl ?_
              refine z_iadd rfl rfl jk_0 (by omega) (fun v200 ev200 => ?_)
              refine x_istoren (lsx9 := [(3, .int v200), (0, .ref 70), (1, .int v198), (2, .int 0)]) rfl rfl rfl ?_
              refine x_iloadn (x := v200) rfl rfl ?_
              refine x_iflt (tgt := 26) rfl rfl (ti_lt rfl jk_0 (br_f (by omega) ?_))
              refine x_iloadn (x := v200) rfl rfl ?_
              refine x_sipush (v := 1200) rfl ks_1200 ?_
              refine x_icge (tgt := 26) rfl rfl (ti_ge rfl jk_1200 (br_t (by omega) ?_))
              refine x_iconst (v := (-1)) rfl ki_m1 ?_
              refine x_iret rfl rfl ?_
              show jX m_X5_isNamed 14 0 0 6 [(0, .ref 70), (1, .int v198)] [.int (-1)] _ 0 0 _
              refine x_ifge (tgt := 18) rfl rfl (ti_ge jk_m1 jk_0 (br_f (by omega) ?_))
              refine x_aloadn (x := 70) rfl rfl ?_
              refine x_iloadn (x := v198) rfl rfl ?_
              refine x_iconst (v := 1) rfl ki_1 ?_
              refine x_inv (N := m_X5_lengthOf) (As := [.int v198, .int 1]) (b := 70) (st := []) (dx9 := 13) (mc := 0) (ms := 0) (host := "") 5 rfl t_X5_lengthOf ⟨Or.inl q_5_133, i_X5_lengthOf.1, i_X5_lengthOf.2⟩ ⟨by decide, rfl⟩ (congrArg Prod.fst (J.1.1 70 (5, 9) rfl)) rfl (by decide) rfl rfl ⟨by decide, by decide⟩ (jC.of rfl k_X5_lengthOf rfl ?_)
              show jX m_X5_lengthOf 13 0 0 0 [(0, .ref 70), (1, .int v198), (2, .int 1)] [] _ 0 0 _
              refine x_iloadn (x := v198) rfl rfl ?_
              refine x_iconst (v := 2) rfl ki_2 ?_
              refine z_imul rfl rfl jk_2 (by omega) (fun v201 ev201 => ?_)
              refine x_iloadn (x := 1) rfl rfl ?_
              refine z_iadd rfl rfl jk_1 (by omega) (fun v202 ev202 => ?_)
              refine x_istoren (lsx9 := [(3, .int v202), (0, .ref 70), (1, .int v198), (2, .int 1)]) rfl rfl rfl ?_
              refine x_iloadn (x := v202) rfl rfl ?_
              refine x_iflt (tgt := 26) rfl rfl (ti_lt rfl jk_0 (br_f (by omega) ?_))
              refine x_iloadn (x := v202) rfl rfl ?_
              refine x_sipush (v := 1200) rfl ks_1200 ?_
              refine x_icge (tgt := 26) rfl rfl (ti_ge rfl jk_1200 (br_t (by omega) ?_))
              refine x_iconst (v := (-1)) rfl ki_m1 ?_
              refine x_iret rfl rfl ?_
              show jX m_X5_isNamed 14 0 0 15 [(0, .ref 70), (1, .int v198)] [.int (-1)] _ 0 0 _
              refine x_iflt (tgt := 22) rfl rfl (ti_lt jk_m1 jk_0 (br_t (by omega) ?_))
              refine x_iconst (v := 0) rfl ki_0 ?_
              refine x_zret rfl rfl (by decide) ?_
              show jX m_X7_namedSoul 15 0 0 8 [(0, .ref 78), (1, .int v198)] [.int 0] _ 0 0 _
              refine x_ifeq (tgt := 19) rfl rfl (ti_eq jk_0 jk_0 (br_t (by omega) ?_))
              refine x_iconst (v := (-1)) rfl ki_m1 ?_
              refine x_iret rfl rfl ?_
              show jX m_X6_byParents 16 0 0 76 [(5, .int v196), (4, .int v6), (3, .int v4), (0, .ref 120), (1, .int a1), (2, .int 2)] [.int (-1), .ref 120] _ 0 0 _
              refine x_iload (x := v6) rfl rfl ?_
              refine x_iloadn (x := 2) rfl rfl ?_
              refine x_iconst (v := 1) rfl ki_1 ?_
              refine y_iadd (v := 3) rfl (by decide) ?_
              refine x_inv (N := m_X6_belongs) (As := [.int (-1), .int v6, .int 3]) (b := 120) (st := []) (dx9 := 15) (mc := 0) (ms := 0) (host := "") 6 rfl t_X6_belongs ⟨Or.inl q_6_127, i_X6_belongs.1, i_X6_belongs.2⟩ ⟨by decide, rfl⟩ (congrArg Prod.fst (J.1.1 120 (6, 8) rfl)) rfl (by decide) rfl rfl ⟨by decide, by decide⟩ (sf_X6_belongs_r120_c3d (jr_of jk_m1 (by omega)) (jr_of rfl (by omega)) hD J rfl  (fun v206 h ev206 J S203 X204 X205 => ?_))
              have Sm := jSm_tr rfl Sm S203
              try rw [jk_m1] at X204
              try rw [jk_m1] at X205
              try rw [X204] at D
              try rw [X205] at D
              show jX m_X6_byParents 16 0 0 84 [(5, .int v196), (4, .int v6), (3, .int v4), (0, .ref 120), (1, .int a1), (2, .int 2)] [.int v206] _ 0 0 _
              exact jX.sub jsb_n (ct_X6_byParents_r120_c2d_84 hD hQ  v206 h (jr_of rfl (by omega)) J Sm D)
            ·
              rw [if_neg (by omega)] at D
              refine x_iload (x := v196) rfl rfl ?_
              refine x_goto (tgt := 84) rfl rfl ?_
              exact jX.sub jsb_n (ct_X6_byParents_r120_c2d_84 hD hQ  v196 h (jr_of rfl (by omega)) J Sm D)
          ·
            rw [if_neg (by omega)] at D
            refine x_iloadn (x := v7) rfl rfl ?_
            refine x_iconst (v := 3) rfl ki_3 ?_
            refine z_idiv rfl rfl jk_3 (by omega) (by omega) (fun v207 ev207 => ?_)
            refine x_aloadn (x := 78) rfl rfl ?_
            refine z_getR (N := 16) (b := 32) 7 0 rfl f_7_55 rfl J rfl 9984 ⟨rfl, rfl⟩ rfl ?_
            refine z_getR (N := 20) (b := 33) 1 0 rfl f_7_63 rfl J rfl 4096 ⟨rfl, rfl⟩ rfl ?_
            refine z_getI (N := 4) 8 3 rfl f_7_85 rfl J rfl sg_33_3_4_1_0_1 (fun v208 qv208 ev208 => ?_)
            try rw [vrf qv208] at D
            refine x_icge (tgt := 36) rfl rfl (ti_ge rfl rfl ⟨fun c209 => ?_, fun c209 => ?_⟩)
            ·
              rw [if_pos (by omega)] at D
              refine x_iconst (v := (-1)) rfl ki_m1 ?_
              refine x_iret rfl rfl ?_
              show jX m_X7_namedSoul 15 0 0 16 [(0, .ref 78), (1, .int v7)] [.int (-1)] _ 0 0 _
              refine x_goto (tgt := 20) rfl rfl ?_
              refine x_iret rfl rfl ?_
              show jX m_X6_byParents 16 0 0 44 [(4, .int v6), (3, .int v4), (0, .ref 120), (1, .int a1), (2, .int 2)] [.int (-1), .ref 120] _ 0 0 _
              refine x_iload (x := v6) rfl rfl ?_
              refine x_iloadn (x := 2) rfl rfl ?_
              refine x_iconst (v := 1) rfl ki_1 ?_
              refine y_iadd (v := 3) rfl (by decide) ?_
              refine x_inv (N := m_X6_belongs) (As := [.int (-1), .int v6, .int 3]) (b := 120) (st := []) (dx9 := 15) (mc := 0) (ms := 0) (host := "") 6 rfl t_X6_belongs ⟨Or.inl q_6_127, i_X6_belongs.1, i_X6_belongs.2⟩ ⟨by decide, rfl⟩ (congrArg Prod.fst (J.1.1 120 (6, 8) rfl)) rfl (by decide) rfl rfl ⟨by decide, by decide⟩ (sf_X6_belongs_r120_c3d (jr_of jk_m1 (by omega)) (jr_of rfl (by omega)) hD J rfl  (fun v213 h ev213 J S210 X211 X212 => ?_))
              have Sm := jSm_tr rfl Sm S210
              try rw [jk_m1] at X211
              try rw [jk_m1] at X212
              try rw [X211] at D
              try rw [X212] at D
              show jX m_X6_byParents 16 0 0 52 [(4, .int v6), (3, .int v4), (0, .ref 120), (1, .int a1), (2, .int 2)] [.int v213] _ 0 0 _
              refine x_istore (lsx9 := [(5, .int v213), (4, .int v6), (3, .int v4), (0, .ref 120), (1, .int a1), (2, .int 2)]) rfl rfl rfl ?_
              refine x_iload (x := v213) rfl rfl ?_
              refine x_iconst (v := (-1)) rfl ki_m1 ?_
              refine x_iceq (tgt := 65) rfl rfl (ti_eq rfl jk_m1 ⟨fun c214 => ?_, fun c214 => ?_⟩)
              ·
                rw [if_pos (by omega)] at D
                refine x_aloadn (x := 120) rfl rfl ?_
                refine x_aloadn (x := 120) rfl rfl ?_
                refine z_getR (N := 8) (b := 78) 6 1 rfl f_6_32 rfl J rfl 15361 ⟨rfl, rfl⟩ rfl ?_
                refine x_iloadn (x := v4) rfl rfl ?_
                refine x_iconst (v := 2) rfl ki_2 ?_
                refine z_iadd rfl rfl jk_2 (by omega) (fun v215 ev215 => ?_)
                refine x_inv (N := m_X7_namedSoul) (As := [.int v215]) (b := 78) (st := [.ref 120]) (dx9 := 15) (mc := 0) (ms := 0) (host := "") 7 rfl t_X7_namedSoul ⟨Or.inl q_6_124, i_X7_namedSoul.1, i_X7_namedSoul.2⟩ ⟨by decide, rfl⟩ (congrArg Prod.fst (J.1.1 78 (7, 16) rfl)) rfl (by decide) rfl rfl ⟨by decide, by decide⟩ (jC.of rfl k_X7_namedSoul rfl ?_)
                show jX m_X7_namedSoul 15 0 0 0 [(0, .ref 78), (1, .int v215)] [] _ 0 0 _
                refine x_aloadn (x := 78) rfl rfl ?_
                refine z_getR (N := 16) (b := 70) 7 1 rfl f_7_59 rfl J rfl 9985 ⟨rfl, rfl⟩ rfl ?_
                refine x_iloadn (x := v215) rfl rfl ?_
                refine x_inv (N := m_X5_isNamed) (As := [.int v215]) (b := 70) (st := []) (dx9 := 14) (mc := 0) (ms := 0) (host := "") 5 rfl t_X5_isNamed ⟨Or.inl q_7_173, i_X5_isNamed.1, i_X5_isNamed.2⟩ ⟨by decide, rfl⟩ (congrArg Prod.fst (J.1.1 70 (5, 9) rfl)) rfl (by decide) rfl rfl ⟨by decide, by decide⟩ (jC.of rfl k_X5_isNamed rfl ?_)
                show jX m_X5_isNamed 14 0 0 0 [(0, .ref 70), (1, .int v215)] [] _ 0 0 _
                refine x_aloadn (x := 70) rfl rfl ?_
                refine x_iloadn (x := v215) rfl rfl ?_
                refine x_iconst (v := 0) rfl ki_0 ?_
                refine x_inv (N := m_X5_lengthOf) (As := [.int v215, .int 0]) (b := 70) (st := []) (dx9 := 13) (mc := 0) (ms := 0) (host := "") 5 rfl t_X5_lengthOf ⟨Or.inl q_5_133, i_X5_lengthOf.1, i_X5_lengthOf.2⟩ ⟨by decide, rfl⟩ (congrArg Prod.fst (J.1.1 70 (5, 9) rfl)) rfl (by decide) rfl rfl ⟨by decide, by decide⟩ (jC.of rfl k_X5_lengthOf rfl ?_)
                show jX m_X5_lengthOf 13 0 0 0 [(0, .ref 70), (1, .int v215), (2, .int 0)] [] _ 0 0 _
                refine x_iloadn (x := v215) rfl rfl ?_
                refine x_iconst (v := 2) rfl ki_2 ?_
                refine z_imul rfl rfl jk_2 (by omega) (fun v216 ev216 => ?_)
                refine x_iloadn (x := 0) rfl rfl ?_
                refine z_iadd rfl rfl jk_0 (by omega) (fun v217 ev217 => ?_)
                refine x_istoren (lsx9 := [(3, .int v217), (0, .ref 70), (1, .int v215), (2, .int 0)]) rfl rfl rfl ?_
                refine x_iloadn (x := v217) rfl rfl ?_
                refine x_iflt (tgt := 26) rfl rfl (ti_lt rfl jk_0 (br_f (by omega) ?_))
                refine x_iloadn (x := v217) rfl rfl ?_
                refine x_sipush (v := 1200) rfl ks_1200 ?_
                refine x_icge (tgt := 26) rfl rfl (ti_ge rfl jk_1200 ⟨fun c218 => ?_, fun c218 => ?_⟩)
                ·
                  rw [if_pos (by omega)] at D
                  refine x_iconst (v := (-1)) rfl ki_m1 ?_
                  refine x_iret rfl rfl ?_
                  show jX m_X5_isNamed 14 0 0 6 [(0, .ref 70), (1, .int v215)] [.int (-1)] _ 0 0 _
                  refine x_ifge (tgt := 18) rfl rfl (ti_ge jk_m1 jk_0 (br_f (by omega) ?_))
                  refine x_aloadn (x := 70) rfl rfl ?_
                  refine x_iloadn (x := v215) rfl rfl ?_
                  refine x_iconst (v := 1) rfl ki_1 ?_
                  refine x_inv (N := m_X5_lengthOf) (As := [.int v215, .int 1]) (b := 70) (st := []) (dx9 := 13) (mc := 0) (ms := 0) (host := "") 5 rfl t_X5_lengthOf ⟨Or.inl q_5_133, i_X5_lengthOf.1, i_X5_lengthOf.2⟩ ⟨by decide, rfl⟩ (congrArg Prod.fst (J.1.1 70 (5, 9) rfl)) rfl (by decide) rfl rfl ⟨by decide, by decide⟩ (jC.of rfl k_X5_lengthOf rfl ?_)
                  show jX m_X5_lengthOf 13 0 0 0 [(0, .ref 70), (1, .int v215), (2, .int 1)] [] _ 0 0 _
                  refine x_iloadn (x := v215) rfl rfl ?_
                  refine x_iconst (v := 2) rfl ki_2 ?_
                  refine z_imul rfl rfl jk_2 (by omega) (fun v219 ev219 => ?_)
                  refine x_iloadn (x := 1) rfl rfl ?_
                  refine z_iadd rfl rfl jk_1 (by omega) (fun v220 ev220 => ?_)
                  refine x_istoren (lsx9 := [(3, .int v220), (0, .ref 70), (1, .int v215), (2, .int 1)]) rfl rfl rfl ?_
                  refine x_iloadn (x := v220) rfl rfl ?_
                  refine x_iflt (tgt := 26) rfl rfl (ti_lt rfl jk_0 (br_f (by omega) ?_))
                  refine x_iloadn (x := v220) rfl rfl ?_
                  refine x_sipush (v := 1200) rfl ks_1200 ?_
                  refine x_icge (tgt := 26) rfl rfl (ti_ge rfl jk_1200 ⟨fun c221 => ?_, fun c221 => ?_⟩)
                  ·
                    rw [if_pos (by omega)] at D
                    refine x_iconst (v := (-1)) rfl ki_m1 ?_
                    refine x_iret rfl rfl ?_
                    show jX m_X5_isNamed 14 0 0 15 [(0, .ref 70), (1, .int v215)] [.int (-1)] _ 0 0 _
                    refine x_iflt (tgt := 22) rfl rfl (ti_lt jk_m1 jk_0 (br_t (by omega) ?_))
                    refine x_iconst (v := 0) rfl ki_0 ?_
                    refine x_zret rfl rfl (by decide) ?_
                    show jX m_X7_namedSoul 15 0 0 8 [(0, .ref 78), (1, .int v215)] [.int 0] _ 0 0 _
                    refine x_ifeq (tgt := 19) rfl rfl (ti_eq jk_0 jk_0 (br_t (by omega) ?_))
                    refine x_iconst (v := (-1)) rfl ki_m1 ?_
                    refine x_iret rfl rfl ?_
                    show jX m_X6_byParents 16 0 0 76 [(5, .int v213), (4, .int v6), (3, .int v4), (0, .ref 120), (1, .int a1), (2, .int 2)] [.int (-1), .ref 120] _ 0 0 _
                    refine x_iload (x := v6) rfl rfl ?_
                    refine x_iloadn (x := 2) rfl rfl ?_
                    refine x_iconst (v := 1) rfl ki_1 ?_
                    refine y_iadd (v := 3) rfl (by decide) ?_
                    refine x_inv (N := m_X6_belongs) (As := [.int (-1), .int v6, .int 3]) (b := 120) (st := []) (dx9 := 15) (mc := 0) (ms := 0) (host := "") 6 rfl t_X6_belongs ⟨Or.inl q_6_127, i_X6_belongs.1, i_X6_belongs.2⟩ ⟨by decide, rfl⟩ (congrArg Prod.fst (J.1.1 120 (6, 8) rfl)) rfl (by decide) rfl rfl ⟨by decide, by decide⟩ (sf_X6_belongs_r120_c3d (jr_of jk_m1 (by omega)) (jr_of rfl (by omega)) hD J rfl  (fun v225 h ev225 J S222 X223 X224 => ?_))
                    have Sm := jSm_tr rfl Sm S222
                    try rw [jk_m1] at X223
                    try rw [jk_m1] at X224
                    try rw [X223] at D
                    try rw [X224] at D
                    show jX m_X6_byParents 16 0 0 84 [(5, .int v213), (4, .int v6), (3, .int v4), (0, .ref 120), (1, .int a1), (2, .int 2)] [.int v225] _ 0 0 _
                    exact jX.sub jsb_n (ct_X6_byParents_r120_c2d_84 hD hQ  v225 h (jr_of rfl (by omega)) J Sm D)
                  ·
                    rw [if_neg (by omega)] at D
                    refine x_aloadn (x := 70) rfl rfl ?_
                    refine z_getR (N := 9) (b := 76) 5 7 rfl f_5_28 rfl J rfl 8967 ⟨rfl, rfl⟩ rfl ?_
                    refine x_iloadn (x := v220) rfl rfl ?_
                    refine z_iald (N := 1200) rfl J rfl sg_76_0_1200_1_0_1 rfl (by omega) (fun v226 qv226 ev226 => ?_)
                    try rw [vrd (jmb_c S210 qv226 rfl) (show (((v4.toInt + 2) * 2) + 1) = v220.toInt from by omega)] at D
                    refine x_goto (tgt := 27) rfl rfl ?_
                    refine x_iret rfl rfl ?_
                    show jX m_X5_isNamed 14 0 0 15 [(0, .ref 70), (1, .int v215)] [.int v226] _ 0 0 _
                    refine x_iflt (tgt := 22) rfl rfl (ti_lt rfl jk_0 ⟨fun c227 => ?_, fun c227 => ?_⟩)
                    ·
                      rw [if_pos (by omega)] at D
                      refine x_iconst (v := 0) rfl ki_0 ?_
                      refine x_zret rfl rfl (by decide) ?_
                      show jX m_X7_namedSoul 15 0 0 8 [(0, .ref 78), (1, .int v215)] [.int 0] _ 0 0 _
                      refine x_ifeq (tgt := 19) rfl rfl (ti_eq jk_0 jk_0 (br_t (by omega) ?_))
                      refine x_iconst (v := (-1)) rfl ki_m1 ?_
                      refine x_iret rfl rfl ?_
                      show jX m_X6_byParents 16 0 0 76 [(5, .int v213), (4, .int v6), (3, .int v4), (0, .ref 120), (1, .int a1), (2, .int 2)] [.int (-1), .ref 120] _ 0 0 _
                      refine x_iload (x := v6) rfl rfl ?_
                      refine x_iloadn (x := 2) rfl rfl ?_
                      refine x_iconst (v := 1) rfl ki_1 ?_
                      refine y_iadd (v := 3) rfl (by decide) ?_
                      refine x_inv (N := m_X6_belongs) (As := [.int (-1), .int v6, .int 3]) (b := 120) (st := []) (dx9 := 15) (mc := 0) (ms := 0) (host := "") 6 rfl t_X6_belongs ⟨Or.inl q_6_127, i_X6_belongs.1, i_X6_belongs.2⟩ ⟨by decide, rfl⟩ (congrArg Prod.fst (J.1.1 120 (6, 8) rfl)) rfl (by decide) rfl rfl ⟨by decide, by decide⟩ (sf_X6_belongs_r120_c3d (jr_of jk_m1 (by omega)) (jr_of rfl (by omega)) hD J rfl  (fun v231 h ev231 J S228 X229 X230 => ?_))
                      have Sm := jSm_tr rfl Sm S228
                      try rw [jk_m1] at X229
                      try rw [jk_m1] at X230
                      try rw [X229] at D
                      try rw [X230] at D
                      show jX m_X6_byParents 16 0 0 84 [(5, .int v213), (4, .int v6), (3, .int v4), (0, .ref 120), (1, .int a1), (2, .int 2)] [.int v231] _ 0 0 _
                      exact jX.sub jsb_n (ct_X6_byParents_r120_c2d_84 hD hQ  v231 h (jr_of rfl (by omega)) J Sm D)
                    ·
                      rw [if_neg (by omega)] at D
                      refine x_iconst (v := 1) rfl ki_1 ?_
                      refine x_goto (tgt := 23) rfl rfl ?_
                      refine x_zret rfl rfl (by decide) ?_
                      show jX m_X7_namedSoul 15 0 0 8 [(0, .ref 78), (1, .int v215)] [.int 1] _ 0 0 _
                      refine x_ifeq (tgt := 19) rfl rfl (ti_eq jk_1 jk_0 (br_f (by omega) ?_))
                      refine x_aloadn (x := 78) rfl rfl ?_
                      refine x_iloadn (x := v215) rfl rfl ?_
                      refine x_inv (N := m_X7_soulAt) (As := [.int v215]) (b := 78) (st := []) (dx9 := 14) (mc := 0) (ms := 0) (host := "") 7 rfl t_X7_soulAt ⟨Or.inl q_7_153, i_X7_soulAt.1, i_X7_soulAt.2⟩ ⟨by decide, rfl⟩ (congrArg Prod.fst (J.1.1 78 (7, 16) rfl)) rfl (by decide) rfl rfl ⟨by decide, by decide⟩ (jC.of rfl k_X7_soulAt rfl ?_)
                      show jX m_X7_soulAt 14 0 0 0 [(0, .ref 78), (1, .int v215)] [] _ 0 0 _
                      refine x_iloadn (x := v215) rfl rfl ?_
                      refine x_iflt (tgt := 36) rfl rfl (ti_lt rfl jk_0 (br_f (by omega) ?_))
                      refine x_iloadn (x := v215) rfl rfl ?_
                      refine x_sipush (v := 600) rfl ks_600 ?_
                      refine x_icge (tgt := 36) rfl rfl (ti_ge rfl jk_600 ⟨fun c232 => ?_, fun c232 => ?_⟩)
                      ·
                        rw [if_pos (by omega)] at D
                        refine x_iconst (v := (-1)) rfl ki_m1 ?_
                        refine x_iret rfl rfl ?_
                        show jX m_X7_namedSoul 15 0 0 16 [(0, .ref 78), (1, .int v215)] [.int (-1)] _ 0 0 _
                        refine x_goto (tgt := 20) rfl rfl ?_
                        refine x_iret rfl rfl ?_
                        show jX m_X6_byParents 16 0 0 76 [(5, .int v213), (4, .int v6), (3, .int v4), (0, .ref 120), (1, .int a1), (2, .int 2)] [.int (-1), .ref 120] _ 0 0 _
                        refine x_iload (x := v6) rfl rfl ?_
                        refine x_iloadn (x := 2) rfl rfl ?_
                        refine x_iconst (v := 1) rfl ki_1 ?_
                        refine y_iadd (v := 3) rfl (by decide) ?_
                        refine x_inv (N := m_X6_belongs) (As := [.int (-1), .int v6, .int 3]) (b := 120) (st := []) (dx9 := 15) (mc := 0) (ms := 0) (host := "") 6 rfl t_X6_belongs ⟨Or.inl q_6_127, i_X6_belongs.1, i_X6_belongs.2⟩ ⟨by decide, rfl⟩ (congrArg Prod.fst (J.1.1 120 (6, 8) rfl)) rfl (by decide) rfl rfl ⟨by decide, by decide⟩ (sf_X6_belongs_r120_c3d (jr_of jk_m1 (by omega)) (jr_of rfl (by omega)) hD J rfl  (fun v236 h ev236 J S233 X234 X235 => ?_))
                        have Sm := jSm_tr rfl Sm S233
                        try rw [jk_m1] at X234
                        try rw [jk_m1] at X235
                        try rw [X234] at D
                        try rw [X235] at D
                        show jX m_X6_byParents 16 0 0 84 [(5, .int v213), (4, .int v6), (3, .int v4), (0, .ref 120), (1, .int a1), (2, .int 2)] [.int v236] _ 0 0 _
                        exact jX.sub jsb_n (ct_X6_byParents_r120_c2d_84 hD hQ  v236 h (jr_of rfl (by omega)) J Sm D)
                      ·
                        rw [if_neg (by omega)] at D
                        refine x_iloadn (x := v215) rfl rfl ?_
                        refine x_iconst (v := 3) rfl ki_3 ?_
                        refine z_idiv rfl rfl jk_3 (by omega) (by omega) (fun v237 ev237 => ?_)
                        refine x_aloadn (x := 78) rfl rfl ?_
                        refine z_getR (N := 16) (b := 32) 7 0 rfl f_7_55 rfl J rfl 9984 ⟨rfl, rfl⟩ rfl ?_
                        refine z_getR (N := 20) (b := 33) 1 0 rfl f_7_63 rfl J rfl 4096 ⟨rfl, rfl⟩ rfl ?_
                        refine z_getM (N := 4) (v := v208) 8 3 rfl f_7_85 rfl J rfl (jmc S210 rfl qv208) ?_
                        refine x_icge (tgt := 36) rfl rfl (ti_ge rfl rfl ⟨fun c238 => ?_, fun c238 => ?_⟩)
                        ·
                          rw [if_pos (by omega)] at D
                          refine x_iconst (v := (-1)) rfl ki_m1 ?_
                          refine x_iret rfl rfl ?_
                          show jX m_X7_namedSoul 15 0 0 16 [(0, .ref 78), (1, .int v215)] [.int (-1)] _ 0 0 _
                          refine x_goto (tgt := 20) rfl rfl ?_
                          refine x_iret rfl rfl ?_
                          show jX m_X6_byParents 16 0 0 76 [(5, .int v213), (4, .int v6), (3, .int v4), (0, .ref 120), (1, .int a1), (2, .int 2)] [.int (-1), .ref 120] _ 0 0 _
                          refine x_iload (x := v6) rfl rfl ?_
                          refine x_iloadn (x := 2) rfl rfl ?_
                          refine x_iconst (v := 1) rfl ki_1 ?_
                          refine y_iadd (v := 3) rfl (by decide) ?_
                          refine x_inv (N := m_X6_belongs) (As := [.int (-1), .int v6, .int 3]) (b := 120) (st := []) (dx9 := 15) (mc := 0) (ms := 0) (host := "") 6 rfl t_X6_belongs ⟨Or.inl q_6_127, i_X6_belongs.1, i_X6_belongs.2⟩ ⟨by decide, rfl⟩ (congrArg Prod.fst (J.1.1 120 (6, 8) rfl)) rfl (by decide) rfl rfl ⟨by decide, by decide⟩ (sf_X6_belongs_r120_c3d (jr_of jk_m1 (by omega)) (jr_of rfl (by omega)) hD J rfl  (fun v242 h ev242 J S239 X240 X241 => ?_))
                          have Sm := jSm_tr rfl Sm S239
                          try rw [jk_m1] at X240
                          try rw [jk_m1] at X241
                          try rw [X240] at D
                          try rw [X241] at D
                          show jX m_X6_byParents 16 0 0 84 [(5, .int v213), (4, .int v6), (3, .int v4), (0, .ref 120), (1, .int a1), (2, .int 2)] [.int v242] _ 0 0 _
                          exact jX.sub jsb_n (ct_X6_byParents_r120_c2d_84 hD hQ  v242 h (jr_of rfl (by omega)) J Sm D)
                        ·
                          rw [if_neg (by omega)] at D
                          refine x_aloadn (x := 78) rfl rfl ?_
                          refine z_getR (N := 16) (b := 82) 7 10 rfl f_7_37 rfl J rfl 9994 ⟨rfl, rfl⟩ rfl ?_
                          refine x_iloadn (x := v215) rfl rfl ?_
                          refine z_iald (N := 600) rfl J rfl sg_82_0_600_1_0_1 rfl (by omega) (fun v243 qv243 ev243 => ?_)
                          try rw [vrd (jmb_c S210 qv243 rfl) (show (v4.toInt + 2) = v215.toInt from by omega)] at D
                          refine x_goto (tgt := 37) rfl rfl ?_
                          refine x_iret rfl rfl ?_
                          show jX m_X7_namedSoul 15 0 0 16 [(0, .ref 78), (1, .int v215)] [.int v243] _ 0 0 _
                          refine x_goto (tgt := 20) rfl rfl ?_
                          refine x_iret rfl rfl ?_
                          show jX m_X6_byParents 16 0 0 76 [(5, .int v213), (4, .int v6), (3, .int v4), (0, .ref 120), (1, .int a1), (2, .int 2)] [.int v243, .ref 120] _ 0 0 _
                          refine x_iload (x := v6) rfl rfl ?_
                          refine x_iloadn (x := 2) rfl rfl ?_
                          refine x_iconst (v := 1) rfl ki_1 ?_
                          refine y_iadd (v := 3) rfl (by decide) ?_
                          refine x_inv (N := m_X6_belongs) (As := [.int v243, .int v6, .int 3]) (b := 120) (st := []) (dx9 := 15) (mc := 0) (ms := 0) (host := "") 6 rfl t_X6_belongs ⟨Or.inl q_6_127, i_X6_belongs.1, i_X6_belongs.2⟩ ⟨by decide, rfl⟩ (congrArg Prod.fst (J.1.1 120 (6, 8) rfl)) rfl (by decide) rfl rfl ⟨by decide, by decide⟩ (sf_X6_belongs_r120_c3d (jr_of rfl (by omega)) (jr_of rfl (by omega)) hD J rfl  (fun v247 h ev247 J S244 X245 X246 => ?_))
                          have Sm := jSm_tr rfl Sm S244
                          try rw [X245] at D
                          try rw [X246] at D
                          show jX m_X6_byParents 16 0 0 84 [(5, .int v213), (4, .int v6), (3, .int v4), (0, .ref 120), (1, .int a1), (2, .int 2)] [.int v247] _ 0 0 _
                          exact jX.sub jsb_n (ct_X6_byParents_r120_c2d_84 hD hQ  v247 h (jr_of rfl (by omega)) J Sm D)
                ·
                  rw [if_neg (by omega)] at D
                  refine x_aloadn (x := 70) rfl rfl ?_
                  refine z_getR (N := 9) (b := 76) 5 7 rfl f_5_28 rfl J rfl 8967 ⟨rfl, rfl⟩ rfl ?_
                  refine x_iloadn (x := v217) rfl rfl ?_
                  refine z_iald (N := 1200) rfl J rfl sg_76_0_1200_1_0_1 rfl (by omega) (fun v248 qv248 ev248 => ?_)
                  try rw [vrd (jmb_c S210 qv248 rfl) (show (((v4.toInt + 2) * 2) + 0) = v217.toInt from by omega)] at D
                  refine x_goto (tgt := 27) rfl rfl ?_
                  refine x_iret rfl rfl ?_
                  show jX m_X5_isNamed 14 0 0 6 [(0, .ref 70), (1, .int v215)] [.int v248] _ 0 0 _
                  refine x_ifge (tgt := 18) rfl rfl (ti_ge rfl jk_0 ⟨fun c249 => ?_, fun c249 => ?_⟩)
                  ·
                    rw [if_pos (by omega)] at D
                    refine x_iconst (v := 1) rfl ki_1 ?_
                    refine x_goto (tgt := 23) rfl rfl ?_
                    refine x_zret rfl rfl (by decide) ?_
                    show jX m_X7_namedSoul 15 0 0 8 [(0, .ref 78), (1, .int v215)] [.int 1] _ 0 0 _
                    refine x_ifeq (tgt := 19) rfl rfl (ti_eq jk_1 jk_0 (br_f (by omega) ?_))
                    refine x_aloadn (x := 78) rfl rfl ?_
                    refine x_iloadn (x := v215) rfl rfl ?_
                    refine x_inv (N := m_X7_soulAt) (As := [.int v215]) (b := 78) (st := []) (dx9 := 14) (mc := 0) (ms := 0) (host := "") 7 rfl t_X7_soulAt ⟨Or.inl q_7_153, i_X7_soulAt.1, i_X7_soulAt.2⟩ ⟨by decide, rfl⟩ (congrArg Prod.fst (J.1.1 78 (7, 16) rfl)) rfl (by decide) rfl rfl ⟨by decide, by decide⟩ (jC.of rfl k_X7_soulAt rfl ?_)
                    show jX m_X7_soulAt 14 0 0 0 [(0, .ref 78), (1, .int v215)] [] _ 0 0 _
                    refine x_iloadn (x := v215) rfl rfl ?_
                    refine x_iflt (tgt := 36) rfl rfl (ti_lt rfl jk_0 (br_f (by omega) ?_))
                    refine x_iloadn (x := v215) rfl rfl ?_
                    refine x_sipush (v := 600) rfl ks_600 ?_
                    refine x_icge (tgt := 36) rfl rfl (ti_ge rfl jk_600 ⟨fun c250 => ?_, fun c250 => ?_⟩)
                    ·
                      rw [if_pos (by omega)] at D
                      refine x_iconst (v := (-1)) rfl ki_m1 ?_
                      refine x_iret rfl rfl ?_
                      show jX m_X7_namedSoul 15 0 0 16 [(0, .ref 78), (1, .int v215)] [.int (-1)] _ 0 0 _
                      refine x_goto (tgt := 20) rfl rfl ?_
                      refine x_iret rfl rfl ?_
                      show jX m_X6_byParents 16 0 0 76 [(5, .int v213), (4, .int v6), (3, .int v4), (0, .ref 120), (1, .int a1), (2, .int 2)] [.int (-1), .ref 120] _ 0 0 _
                      refine x_iload (x := v6) rfl rfl ?_
                      refine x_iloadn (x := 2) rfl rfl ?_
                      refine x_iconst (v := 1) rfl ki_1 ?_
                      refine y_iadd (v := 3) rfl (by decide) ?_
                      refine x_inv (N := m_X6_belongs) (As := [.int (-1), .int v6, .int 3]) (b := 120) (st := []) (dx9 := 15) (mc := 0) (ms := 0) (host := "") 6 rfl t_X6_belongs ⟨Or.inl q_6_127, i_X6_belongs.1, i_X6_belongs.2⟩ ⟨by decide, rfl⟩ (congrArg Prod.fst (J.1.1 120 (6, 8) rfl)) rfl (by decide) rfl rfl ⟨by decide, by decide⟩ (sf_X6_belongs_r120_c3d (jr_of jk_m1 (by omega)) (jr_of rfl (by omega)) hD J rfl  (fun v254 h ev254 J S251 X252 X253 => ?_))
                      have Sm := jSm_tr rfl Sm S251
                      try rw [jk_m1] at X252
                      try rw [jk_m1] at X253
                      try rw [X252] at D
                      try rw [X253] at D
                      show jX m_X6_byParents 16 0 0 84 [(5, .int v213), (4, .int v6), (3, .int v4), (0, .ref 120), (1, .int a1), (2, .int 2)] [.int v254] _ 0 0 _
                      exact jX.sub jsb_n (ct_X6_byParents_r120_c2d_84 hD hQ  v254 h (jr_of rfl (by omega)) J Sm D)
                    ·
                      rw [if_neg (by omega)] at D
                      refine x_iloadn (x := v215) rfl rfl ?_
                      refine x_iconst (v := 3) rfl ki_3 ?_
                      refine z_idiv rfl rfl jk_3 (by omega) (by omega) (fun v255 ev255 => ?_)
                      refine x_aloadn (x := 78) rfl rfl ?_
                      refine z_getR (N := 16) (b := 32) 7 0 rfl f_7_55 rfl J rfl 9984 ⟨rfl, rfl⟩ rfl ?_
                      refine z_getR (N := 20) (b := 33) 1 0 rfl f_7_63 rfl J rfl 4096 ⟨rfl, rfl⟩ rfl ?_
                      refine z_getM (N := 4) (v := v208) 8 3 rfl f_7_85 rfl J rfl (jmc S210 rfl qv208) ?_
                      refine x_icge (tgt := 36) rfl rfl (ti_ge rfl rfl ⟨fun c256 => ?_, fun c256 => ?_⟩)
                      ·
                        rw [if_pos (by omega)] at D
                        refine x_iconst (v := (-1)) rfl ki_m1 ?_
                        refine x_iret rfl rfl ?_
                        show jX m_X7_namedSoul 15 0 0 16 [(0, .ref 78), (1, .int v215)] [.int (-1)] _ 0 0 _
                        refine x_goto (tgt := 20) rfl rfl ?_
                        refine x_iret rfl rfl ?_
                        show jX m_X6_byParents 16 0 0 76 [(5, .int v213), (4, .int v6), (3, .int v4), (0, .ref 120), (1, .int a1), (2, .int 2)] [.int (-1), .ref 120] _ 0 0 _
                        refine x_iload (x := v6) rfl rfl ?_
                        refine x_iloadn (x := 2) rfl rfl ?_
                        refine x_iconst (v := 1) rfl ki_1 ?_
                        refine y_iadd (v := 3) rfl (by decide) ?_
                        refine x_inv (N := m_X6_belongs) (As := [.int (-1), .int v6, .int 3]) (b := 120) (st := []) (dx9 := 15) (mc := 0) (ms := 0) (host := "") 6 rfl t_X6_belongs ⟨Or.inl q_6_127, i_X6_belongs.1, i_X6_belongs.2⟩ ⟨by decide, rfl⟩ (congrArg Prod.fst (J.1.1 120 (6, 8) rfl)) rfl (by decide) rfl rfl ⟨by decide, by decide⟩ (sf_X6_belongs_r120_c3d (jr_of jk_m1 (by omega)) (jr_of rfl (by omega)) hD J rfl  (fun v260 h ev260 J S257 X258 X259 => ?_))
                        have Sm := jSm_tr rfl Sm S257
                        try rw [jk_m1] at X258
                        try rw [jk_m1] at X259
                        try rw [X258] at D
                        try rw [X259] at D
                        show jX m_X6_byParents 16 0 0 84 [(5, .int v213), (4, .int v6), (3, .int v4), (0, .ref 120), (1, .int a1), (2, .int 2)] [.int v260] _ 0 0 _
                        exact jX.sub jsb_n (ct_X6_byParents_r120_c2d_84 hD hQ  v260 h (jr_of rfl (by omega)) J Sm D)
                      ·
                        rw [if_neg (by omega)] at D
                        refine x_aloadn (x := 78) rfl rfl ?_
                        refine z_getR (N := 16) (b := 82) 7 10 rfl f_7_37 rfl J rfl 9994 ⟨rfl, rfl⟩ rfl ?_
                        refine x_iloadn (x := v215) rfl rfl ?_
                        refine z_iald (N := 600) rfl J rfl sg_82_0_600_1_0_1 rfl (by omega) (fun v261 qv261 ev261 => ?_)
                        try rw [vrd (jmb_c S210 qv261 rfl) (show (v4.toInt + 2) = v215.toInt from by omega)] at D
                        refine x_goto (tgt := 37) rfl rfl ?_
                        refine x_iret rfl rfl ?_
                        show jX m_X7_namedSoul 15 0 0 16 [(0, .ref 78), (1, .int v215)] [.int v261] _ 0 0 _
                        refine x_goto (tgt := 20) rfl rfl ?_
                        refine x_iret rfl rfl ?_
                        show jX m_X6_byParents 16 0 0 76 [(5, .int v213), (4, .int v6), (3, .int v4), (0, .ref 120), (1, .int a1), (2, .int 2)] [.int v261, .ref 120] _ 0 0 _
                        refine x_iload (x := v6) rfl rfl ?_
                        refine x_iloadn (x := 2) rfl rfl ?_
                        refine x_iconst (v := 1) rfl ki_1 ?_
                        refine y_iadd (v := 3) rfl (by decide) ?_
                        refine x_inv (N := m_X6_belongs) (As := [.int v261, .int v6, .int 3]) (b := 120) (st := []) (dx9 := 15) (mc := 0) (ms := 0) (host := "") 6 rfl t_X6_belongs ⟨Or.inl q_6_127, i_X6_belongs.1, i_X6_belongs.2⟩ ⟨by decide, rfl⟩ (congrArg Prod.fst (J.1.1 120 (6, 8) rfl)) rfl (by decide) rfl rfl ⟨by decide, by decide⟩ (sf_X6_belongs_r120_c3d (jr_of rfl (by omega)) (jr_of rfl (by omega)) hD J rfl  (fun v265 h ev265 J S262 X263 X264 => ?_))
                        have Sm := jSm_tr rfl Sm S262
                        try rw [X263] at D
                        try rw [X264] at D
                        show jX m_X6_byParents 16 0 0 84 [(5, .int v213), (4, .int v6), (3, .int v4), (0, .ref 120), (1, .int a1), (2, .int 2)] [.int v265] _ 0 0 _
                        exact jX.sub jsb_n (ct_X6_byParents_r120_c2d_84 hD hQ  v265 h (jr_of rfl (by omega)) J Sm D)
                  ·
                    rw [if_neg (by omega)] at D
                    refine x_aloadn (x := 70) rfl rfl ?_
                    refine x_iloadn (x := v215) rfl rfl ?_
                    refine x_iconst (v := 1) rfl ki_1 ?_
                    refine x_inv (N := m_X5_lengthOf) (As := [.int v215, .int 1]) (b := 70) (st := []) (dx9 := 13) (mc := 0) (ms := 0) (host := "") 5 rfl t_X5_lengthOf ⟨Or.inl q_5_133, i_X5_lengthOf.1, i_X5_lengthOf.2⟩ ⟨by decide, rfl⟩ (congrArg Prod.fst (J.1.1 70 (5, 9) rfl)) rfl (by decide) rfl rfl ⟨by decide, by decide⟩ (jC.of rfl k_X5_lengthOf rfl ?_)
                    show jX m_X5_lengthOf 13 0 0 0 [(0, .ref 70), (1, .int v215), (2, .int 1)] [] _ 0 0 _
                    refine x_iloadn (x := v215) rfl rfl ?_
                    refine x_iconst (v := 2) rfl ki_2 ?_
                    refine z_imul rfl rfl jk_2 (by omega) (fun v266 ev266 => ?_)
                    refine x_iloadn (x := 1) rfl rfl ?_
                    refine z_iadd rfl rfl jk_1 (by omega) (fun v267 ev267 => ?_)
                    refine x_istoren (lsx9 := [(3, .int v267), (0, .ref 70), (1, .int v215), (2, .int 1)]) rfl rfl rfl ?_
                    refine x_iloadn (x := v267) rfl rfl ?_
                    refine x_iflt (tgt := 26) rfl rfl (ti_lt rfl jk_0 (br_f (by omega) ?_))
                    refine x_iloadn (x := v267) rfl rfl ?_
                    refine x_sipush (v := 1200) rfl ks_1200 ?_
                    refine x_icge (tgt := 26) rfl rfl (ti_ge rfl jk_1200 ⟨fun c268 => ?_, fun c268 => ?_⟩)
                    ·
                      rw [if_pos (by omega)] at D
                      refine x_iconst (v := (-1)) rfl ki_m1 ?_
                      refine x_iret rfl rfl ?_
                      show jX m_X5_isNamed 14 0 0 15 [(0, .ref 70), (1, .int v215)] [.int (-1)] _ 0 0 _
                      refine x_iflt (tgt := 22) rfl rfl (ti_lt jk_m1 jk_0 (br_t (by omega) ?_))
                      refine x_iconst (v := 0) rfl ki_0 ?_
                      refine x_zret rfl rfl (by decide) ?_
                      show jX m_X7_namedSoul 15 0 0 8 [(0, .ref 78), (1, .int v215)] [.int 0] _ 0 0 _
                      refine x_ifeq (tgt := 19) rfl rfl (ti_eq jk_0 jk_0 (br_t (by omega) ?_))
                      refine x_iconst (v := (-1)) rfl ki_m1 ?_
                      refine x_iret rfl rfl ?_
                      show jX m_X6_byParents 16 0 0 76 [(5, .int v213), (4, .int v6), (3, .int v4), (0, .ref 120), (1, .int a1), (2, .int 2)] [.int (-1), .ref 120] _ 0 0 _
                      refine x_iload (x := v6) rfl rfl ?_
                      refine x_iloadn (x := 2) rfl rfl ?_
                      refine x_iconst (v := 1) rfl ki_1 ?_
                      refine y_iadd (v := 3) rfl (by decide) ?_
                      refine x_inv (N := m_X6_belongs) (As := [.int (-1), .int v6, .int 3]) (b := 120) (st := []) (dx9 := 15) (mc := 0) (ms := 0) (host := "") 6 rfl t_X6_belongs ⟨Or.inl q_6_127, i_X6_belongs.1, i_X6_belongs.2⟩ ⟨by decide, rfl⟩ (congrArg Prod.fst (J.1.1 120 (6, 8) rfl)) rfl (by decide) rfl rfl ⟨by decide, by decide⟩ (sf_X6_belongs_r120_c3d (jr_of jk_m1 (by omega)) (jr_of rfl (by omega)) hD J rfl  (fun v272 h ev272 J S269 X270 X271 => ?_))
                      have Sm := jSm_tr rfl Sm S269
                      try rw [jk_m1] at X270
                      try rw [jk_m1] at X271
                      try rw [X270] at D
                      try rw [X271] at D
                      show jX m_X6_byParents 16 0 0 84 [(5, .int v213), (4, .int v6), (3, .int v4), (0, .ref 120), (1, .int a1), (2, .int 2)] [.int v272] _ 0 0 _
                      exact jX.sub jsb_n (ct_X6_byParents_r120_c2d_84 hD hQ  v272 h (jr_of rfl (by omega)) J Sm D)
                    ·
                      rw [if_neg (by omega)] at D
                      refine x_aloadn (x := 70) rfl rfl ?_
                      refine z_getR (N := 9) (b := 76) 5 7 rfl f_5_28 rfl J rfl 8967 ⟨rfl, rfl⟩ rfl ?_
                      refine x_iloadn (x := v267) rfl rfl ?_
                      refine z_iald (N := 1200) rfl J rfl sg_76_0_1200_1_0_1 rfl (by omega) (fun v273 qv273 ev273 => ?_)
                      try rw [vrd (jmb_c S210 qv273 rfl) (show (((v4.toInt + 2) * 2) + 1) = v267.toInt from by omega)] at D
                      refine x_goto (tgt := 27) rfl rfl ?_
                      refine x_iret rfl rfl ?_
                      show jX m_X5_isNamed 14 0 0 15 [(0, .ref 70), (1, .int v215)] [.int v273] _ 0 0 _
                      refine x_iflt (tgt := 22) rfl rfl (ti_lt rfl jk_0 ⟨fun c274 => ?_, fun c274 => ?_⟩)
                      ·
                        rw [if_pos (by omega)] at D
                        refine x_iconst (v := 0) rfl ki_0 ?_
                        refine x_zret rfl rfl (by decide) ?_
                        show jX m_X7_namedSoul 15 0 0 8 [(0, .ref 78), (1, .int v215)] [.int 0] _ 0 0 _
                        refine x_ifeq (tgt := 19) rfl rfl (ti_eq jk_0 jk_0 (br_t (by omega) ?_))
                        refine x_iconst (v := (-1)) rfl ki_m1 ?_
                        refine x_iret rfl rfl ?_
                        show jX m_X6_byParents 16 0 0 76 [(5, .int v213), (4, .int v6), (3, .int v4), (0, .ref 120), (1, .int a1), (2, .int 2)] [.int (-1), .ref 120] _ 0 0 _
                        refine x_iload (x := v6) rfl rfl ?_
                        refine x_iloadn (x := 2) rfl rfl ?_
                        refine x_iconst (v := 1) rfl ki_1 ?_
                        refine y_iadd (v := 3) rfl (by decide) ?_
                        refine x_inv (N := m_X6_belongs) (As := [.int (-1), .int v6, .int 3]) (b := 120) (st := []) (dx9 := 15) (mc := 0) (ms := 0) (host := "") 6 rfl t_X6_belongs ⟨Or.inl q_6_127, i_X6_belongs.1, i_X6_belongs.2⟩ ⟨by decide, rfl⟩ (congrArg Prod.fst (J.1.1 120 (6, 8) rfl)) rfl (by decide) rfl rfl ⟨by decide, by decide⟩ (sf_X6_belongs_r120_c3d (jr_of jk_m1 (by omega)) (jr_of rfl (by omega)) hD J rfl  (fun v278 h ev278 J S275 X276 X277 => ?_))
                        have Sm := jSm_tr rfl Sm S275
                        try rw [jk_m1] at X276
                        try rw [jk_m1] at X277
                        try rw [X276] at D
                        try rw [X277] at D
                        show jX m_X6_byParents 16 0 0 84 [(5, .int v213), (4, .int v6), (3, .int v4), (0, .ref 120), (1, .int a1), (2, .int 2)] [.int v278] _ 0 0 _
                        exact jX.sub jsb_n (ct_X6_byParents_r120_c2d_84 hD hQ  v278 h (jr_of rfl (by omega)) J Sm D)
                      ·
                        rw [if_neg (by omega)] at D
                        refine x_iconst (v := 1) rfl ki_1 ?_
                        refine x_goto (tgt := 23) rfl rfl ?_
                        refine x_zret rfl rfl (by decide) ?_
                        show jX m_X7_namedSoul 15 0 0 8 [(0, .ref 78), (1, .int v215)] [.int 1] _ 0 0 _
                        refine x_ifeq (tgt := 19) rfl rfl (ti_eq jk_1 jk_0 (br_f (by omega) ?_))
                        refine x_aloadn (x := 78) rfl rfl ?_
                        refine x_iloadn (x := v215) rfl rfl ?_
                        refine x_inv (N := m_X7_soulAt) (As := [.int v215]) (b := 78) (st := []) (dx9 := 14) (mc := 0) (ms := 0) (host := "") 7 rfl t_X7_soulAt ⟨Or.inl q_7_153, i_X7_soulAt.1, i_X7_soulAt.2⟩ ⟨by decide, rfl⟩ (congrArg Prod.fst (J.1.1 78 (7, 16) rfl)) rfl (by decide) rfl rfl ⟨by decide, by decide⟩ (jC.of rfl k_X7_soulAt rfl ?_)
                        show jX m_X7_soulAt 14 0 0 0 [(0, .ref 78), (1, .int v215)] [] _ 0 0 _
                        refine x_iloadn (x := v215) rfl rfl ?_
                        refine x_iflt (tgt := 36) rfl rfl (ti_lt rfl jk_0 (br_f (by omega) ?_))
                        refine x_iloadn (x := v215) rfl rfl ?_
                        refine x_sipush (v := 600) rfl ks_600 ?_
                        refine x_icge (tgt := 36) rfl rfl (ti_ge rfl jk_600 ⟨fun c279 => ?_, fun c279 => ?_⟩)
                        ·
                          rw [if_pos (by omega)] at D
                          refine x_iconst (v := (-1)) rfl ki_m1 ?_
                          refine x_iret rfl rfl ?_
                          show jX m_X7_namedSoul 15 0 0 16 [(0, .ref 78), (1, .int v215)] [.int (-1)] _ 0 0 _
                          refine x_goto (tgt := 20) rfl rfl ?_
                          refine x_iret rfl rfl ?_
                          show jX m_X6_byParents 16 0 0 76 [(5, .int v213), (4, .int v6), (3, .int v4), (0, .ref 120), (1, .int a1), (2, .int 2)] [.int (-1), .ref 120] _ 0 0 _
                          refine x_iload (x := v6) rfl rfl ?_
                          refine x_iloadn (x := 2) rfl rfl ?_
                          refine x_iconst (v := 1) rfl ki_1 ?_
                          refine y_iadd (v := 3) rfl (by decide) ?_
                          refine x_inv (N := m_X6_belongs) (As := [.int (-1), .int v6, .int 3]) (b := 120) (st := []) (dx9 := 15) (mc := 0) (ms := 0) (host := "") 6 rfl t_X6_belongs ⟨Or.inl q_6_127, i_X6_belongs.1, i_X6_belongs.2⟩ ⟨by decide, rfl⟩ (congrArg Prod.fst (J.1.1 120 (6, 8) rfl)) rfl (by decide) rfl rfl ⟨by decide, by decide⟩ (sf_X6_belongs_r120_c3d (jr_of jk_m1 (by omega)) (jr_of rfl (by omega)) hD J rfl  (fun v283 h ev283 J S280 X281 X282 => ?_))
                          have Sm := jSm_tr rfl Sm S280
                          try rw [jk_m1] at X281
                          try rw [jk_m1] at X282
                          try rw [X281] at D
                          try rw [X282] at D
                          show jX m_X6_byParents 16 0 0 84 [(5, .int v213), (4, .int v6), (3, .int v4), (0, .ref 120), (1, .int a1), (2, .int 2)] [.int v283] _ 0 0 _
                          exact jX.sub jsb_n (ct_X6_byParents_r120_c2d_84 hD hQ  v283 h (jr_of rfl (by omega)) J Sm D)
                        ·
                          rw [if_neg (by omega)] at D
                          refine x_iloadn (x := v215) rfl rfl ?_
                          refine x_iconst (v := 3) rfl ki_3 ?_
                          refine z_idiv rfl rfl jk_3 (by omega) (by omega) (fun v284 ev284 => ?_)
                          refine x_aloadn (x := 78) rfl rfl ?_
                          refine z_getR (N := 16) (b := 32) 7 0 rfl f_7_55 rfl J rfl 9984 ⟨rfl, rfl⟩ rfl ?_
                          refine z_getR (N := 20) (b := 33) 1 0 rfl f_7_63 rfl J rfl 4096 ⟨rfl, rfl⟩ rfl ?_
                          refine z_getM (N := 4) (v := v208) 8 3 rfl f_7_85 rfl J rfl (jmc S210 rfl qv208) ?_
                          refine x_icge (tgt := 36) rfl rfl (ti_ge rfl rfl ⟨fun c285 => ?_, fun c285 => ?_⟩)
                          ·
                            rw [if_pos (by omega)] at D
                            refine x_iconst (v := (-1)) rfl ki_m1 ?_
                            refine x_iret rfl rfl ?_
                            show jX m_X7_namedSoul 15 0 0 16 [(0, .ref 78), (1, .int v215)] [.int (-1)] _ 0 0 _
                            refine x_goto (tgt := 20) rfl rfl ?_
                            refine x_iret rfl rfl ?_
                            show jX m_X6_byParents 16 0 0 76 [(5, .int v213), (4, .int v6), (3, .int v4), (0, .ref 120), (1, .int a1), (2, .int 2)] [.int (-1), .ref 120] _ 0 0 _
                            refine x_iload (x := v6) rfl rfl ?_
                            refine x_iloadn (x := 2) rfl rfl ?_
                            refine x_iconst (v := 1) rfl ki_1 ?_
                            refine y_iadd (v := 3) rfl (by decide) ?_
                            refine x_inv (N := m_X6_belongs) (As := [.int (-1), .int v6, .int 3]) (b := 120) (st := []) (dx9 := 15) (mc := 0) (ms := 0) (host := "") 6 rfl t_X6_belongs ⟨Or.inl q_6_127, i_X6_belongs.1, i_X6_belongs.2⟩ ⟨by decide, rfl⟩ (congrArg Prod.fst (J.1.1 120 (6, 8) rfl)) rfl (by decide) rfl rfl ⟨by decide, by decide⟩ (sf_X6_belongs_r120_c3d (jr_of jk_m1 (by omega)) (jr_of rfl (by omega)) hD J rfl  (fun v289 h ev289 J S286 X287 X288 => ?_))
                            have Sm := jSm_tr rfl Sm S286
                            try rw [jk_m1] at X287
                            try rw [jk_m1] at X288
                            try rw [X287] at D
                            try rw [X288] at D
                            show jX m_X6_byParents 16 0 0 84 [(5, .int v213), (4, .int v6), (3, .int v4), (0, .ref 120), (1, .int a1), (2, .int 2)] [.int v289] _ 0 0 _
                            exact jX.sub jsb_n (ct_X6_byParents_r120_c2d_84 hD hQ  v289 h (jr_of rfl (by omega)) J Sm D)
                          ·
                            rw [if_neg (by omega)] at D
                            refine x_aloadn (x := 78) rfl rfl ?_
                            refine z_getR (N := 16) (b := 82) 7 10 rfl f_7_37 rfl J rfl 9994 ⟨rfl, rfl⟩ rfl ?_
                            refine x_iloadn (x := v215) rfl rfl ?_
                            refine z_iald (N := 600) rfl J rfl sg_82_0_600_1_0_1 rfl (by omega) (fun v290 qv290 ev290 => ?_)
                            try rw [vrd (jmb_c S210 qv290 rfl) (show (v4.toInt + 2) = v215.toInt from by omega)] at D
                            refine x_goto (tgt := 37) rfl rfl ?_
                            refine x_iret rfl rfl ?_
                            show jX m_X7_namedSoul 15 0 0 16 [(0, .ref 78), (1, .int v215)] [.int v290] _ 0 0 _
                            refine x_goto (tgt := 20) rfl rfl ?_
                            refine x_iret rfl rfl ?_
                            show jX m_X6_byParents 16 0 0 76 [(5, .int v213), (4, .int v6), (3, .int v4), (0, .ref 120), (1, .int a1), (2, .int 2)] [.int v290, .ref 120] _ 0 0 _
                            refine x_iload (x := v6) rfl rfl ?_
                            refine x_iloadn (x := 2) rfl rfl ?_
                            refine x_iconst (v := 1) rfl ki_1 ?_
                            refine y_iadd (v := 3) rfl (by decide) ?_
                            refine x_inv (N := m_X6_belongs) (As := [.int v290, .int v6, .int 3]) (b := 120) (st := []) (dx9 := 15) (mc := 0) (ms := 0) (host := "") 6 rfl t_X6_belongs ⟨Or.inl q_6_127, i_X6_belongs.1, i_X6_belongs.2⟩ ⟨by decide, rfl⟩ (congrArg Prod.fst (J.1.1 120 (6, 8) rfl)) rfl (by decide) rfl rfl ⟨by decide, by decide⟩ (sf_X6_belongs_r120_c3d (jr_of rfl (by omega)) (jr_of rfl (by omega)) hD J rfl  (fun v294 h ev294 J S291 X292 X293 => ?_))
                            have Sm := jSm_tr rfl Sm S291
                            try rw [X292] at D
                            try rw [X293] at D
                            show jX m_X6_byParents 16 0 0 84 [(5, .int v213), (4, .int v6), (3, .int v4), (0, .ref 120), (1, .int a1), (2, .int 2)] [.int v294] _ 0 0 _
                            exact jX.sub jsb_n (ct_X6_byParents_r120_c2d_84 hD hQ  v294 h (jr_of rfl (by omega)) J Sm D)
              ·
                rw [if_neg (by omega)] at D
                refine x_iload (x := v213) rfl rfl ?_
                refine x_goto (tgt := 84) rfl rfl ?_
                exact jX.sub jsb_n (ct_X6_byParents_r120_c2d_84 hD hQ  v213 h (jr_of rfl (by omega)) J Sm D)
            ·
              rw [if_neg (by omega)] at D
              refine x_aloadn (x := 78) rfl rfl ?_
              refine z_getR (N := 16) (b := 82) 7 10 rfl f_7_37 rfl J rfl 9994 ⟨rfl, rfl⟩ rfl ?_
              refine x_iloadn (x := v7) rfl rfl ?_
              refine z_iald (N := 600) rfl J rfl sg_82_0_600_1_0_1 rfl (by omega) (fun v295 qv295 ev295 => ?_)
              try rw [vrd qv295 (show (v4.toInt + 1) = v7.toInt from by omega)] at D
              refine x_goto (tgt := 37) rfl rfl ?_
              refine x_iret rfl rfl ?_
              show jX m_X7_namedSoul 15 0 0 16 [(0, .ref 78), (1, .int v7)] [.int v295] _ 0 0 _
              refine x_goto (tgt := 20) rfl rfl ?_
              refine x_iret rfl rfl ?_
              show jX m_X6_byParents 16 0 0 44 [(4, .int v6), (3, .int v4), (0, .ref 120), (1, .int a1), (2, .int 2)] [.int v295, .ref 120] _ 0 0 _
              refine x_iload (x := v6) rfl rfl ?_
              refine x_iloadn (x := 2) rfl rfl ?_
              refine x_iconst (v := 1) rfl ki_1 ?_
              refine y_iadd (v := 3) rfl (by decide) ?_
              refine x_inv (N := m_X6_belongs) (As := [.int v295, .int v6, .int 3]) (b := 120) (st := []) (dx9 := 15) (mc := 0) (ms := 0) (host := "") 6 rfl t_X6_belongs ⟨Or.inl q_6_127, i_X6_belongs.1, i_X6_belongs.2⟩ ⟨by decide, rfl⟩ (congrArg Prod.fst (J.1.1 120 (6, 8) rfl)) rfl (by decide) rfl rfl ⟨by decide, by decide⟩ (sf_X6_belongs_r120_c3d (jr_of rfl (by omega)) (jr_of rfl (by omega)) hD J rfl  (fun v299 h ev299 J S296 X297 X298 => ?_))
              have Sm := jSm_tr rfl Sm S296
              try rw [X297] at D
              try rw [X298] at D
              show jX m_X6_byParents 16 0 0 52 [(4, .int v6), (3, .int v4), (0, .ref 120), (1, .int a1), (2, .int 2)] [.int v299] _ 0 0 _
              refine x_istore (lsx9 := [(5, .int v299), (4, .int v6), (3, .int v4), (0, .ref 120), (1, .int a1), (2, .int 2)]) rfl rfl rfl ?_
              refine x_iload (x := v299) rfl rfl ?_
              refine x_iconst (v := (-1)) rfl ki_m1 ?_
              refine x_iceq (tgt := 65) rfl rfl (ti_eq rfl jk_m1 ⟨fun c300 => ?_, fun c300 => ?_⟩)
              ·
                rw [if_pos (by omega)] at D
                refine x_aloadn (x := 120) rfl rfl ?_
                refine x_aloadn (x := 120) rfl rfl ?_
                refine z_getR (N := 8) (b := 78) 6 1 rfl f_6_32 rfl J rfl 15361 ⟨rfl, rfl⟩ rfl ?_
                refine x_iloadn (x := v4) rfl rfl ?_
                refine x_iconst (v := 2) rfl ki_2 ?_
                refine z_iadd rfl rfl jk_2 (by omega) (fun v301 ev301 => ?_)
                refine x_inv (N := m_X7_namedSoul) (As := [.int v301]) (b := 78) (st := [.ref 120]) (dx9 := 15) (mc := 0) (ms := 0) (host := "") 7 rfl t_X7_namedSoul ⟨Or.inl q_6_124, i_X7_namedSoul.1, i_X7_namedSoul.2⟩ ⟨by decide, rfl⟩ (congrArg Prod.fst (J.1.1 78 (7, 16) rfl)) rfl (by decide) rfl rfl ⟨by decide, by decide⟩ (jC.of rfl k_X7_namedSoul rfl ?_)
                show jX m_X7_namedSoul 15 0 0 0 [(0, .ref 78), (1, .int v301)] [] _ 0 0 _
                refine x_aloadn (x := 78) rfl rfl ?_
                refine z_getR (N := 16) (b := 70) 7 1 rfl f_7_59 rfl J rfl 9985 ⟨rfl, rfl⟩ rfl ?_
                refine x_iloadn (x := v301) rfl rfl ?_
                refine x_inv (N := m_X5_isNamed) (As := [.int v301]) (b := 70) (st := []) (dx9 := 14) (mc := 0) (ms := 0) (host := "") 5 rfl t_X5_isNamed ⟨Or.inl q_7_173, i_X5_isNamed.1, i_X5_isNamed.2⟩ ⟨by decide, rfl⟩ (congrArg Prod.fst (J.1.1 70 (5, 9) rfl)) rfl (by decide) rfl rfl ⟨by decide, by decide⟩ (jC.of rfl k_X5_isNamed rfl ?_)
                show jX m_X5_isNamed 14 0 0 0 [(0, .ref 70), (1, .int v301)] [] _ 0 0 _
                refine x_aloadn (x := 70) rfl rfl ?_
                refine x_iloadn (x := v301) rfl rfl ?_
                refine x_iconst (v := 0) rfl ki_0 ?_
                refine x_inv (N := m_X5_lengthOf) (As := [.int v301, .int 0]) (b := 70) (st := []) (dx9 := 13) (mc := 0) (ms := 0) (host := "") 5 rfl t_X5_lengthOf ⟨Or.inl q_5_133, i_X5_lengthOf.1, i_X5_lengthOf.2⟩ ⟨by decide, rfl⟩ (congrArg Prod.fst (J.1.1 70 (5, 9) rfl)) rfl (by decide) rfl rfl ⟨by decide, by decide⟩ (jC.of rfl k_X5_lengthOf rfl ?_)
                show jX m_X5_lengthOf 13 0 0 0 [(0, .ref 70), (1, .int v301), (2, .int 0)] [] _ 0 0 _
                refine x_iloadn (x := v301) rfl rfl ?_
                refine x_iconst (v := 2) rfl ki_2 ?_
                refine z_imul rfl rfl jk_2 (by omega) (fun v302 ev302 => ?_)
                refine x_iloadn (x := 0) rfl rfl ?_
                refine z_iadd rfl rfl jk_0 (by omega) (fun v303 ev303 => ?_)
                refine x_istoren (lsx9 := [(3, .int v303), (0, .ref 70), (1, .int v301), (2, .int 0)]) rfl rfl rfl ?_
                refine x_iloadn (x := v303) rfl rfl ?_
                refine x_iflt (tgt := 26) rfl rfl (ti_lt rfl jk_0 (br_f (by omega) ?_))
                refine x_iloadn (x := v303) rfl rfl ?_
                refine x_sipush (v := 1200) rfl ks_1200 ?_
                refine x_icge (tgt := 26) rfl rfl (ti_ge rfl jk_1200 ⟨fun c304 => ?_, fun c304 => ?_⟩)
                ·
                  rw [if_pos (by omega)] at D
                  refine x_iconst (v := (-1)) rfl ki_m1 ?_
                  refine x_iret rfl rfl ?_
                  show jX m_X5_isNamed 14 0 0 6 [(0, .ref 70), (1, .int v301)] [.int (-1)] _ 0 0 _
                  refine x_ifge (tgt := 18) rfl rfl (ti_ge jk_m1 jk_0 (br_f (by omega) ?_))
                  refine x_aloadn (x := 70) rfl rfl ?_
                  refine x_iloadn (x := v301) rfl rfl ?_
                  refine x_iconst (v := 1) rfl ki_1 ?_
                  refine x_inv (N := m_X5_lengthOf) (As := [.int v301, .int 1]) (b := 70) (st := []) (dx9 := 13) (mc := 0) (ms := 0) (host := "") 5 rfl t_X5_lengthOf ⟨Or.inl q_5_133, i_X5_lengthOf.1, i_X5_lengthOf.2⟩ ⟨by decide, rfl⟩ (congrArg Prod.fst (J.1.1 70 (5, 9) rfl)) rfl (by decide) rfl rfl ⟨by decide, by decide⟩ (jC.of rfl k_X5_lengthOf rfl ?_)
                  show jX m_X5_lengthOf 13 0 0 0 [(0, .ref 70), (1, .int v301), (2, .int 1)] [] _ 0 0 _
                  refine x_iloadn (x := v301) rfl rfl ?_
                  refine x_iconst (v := 2) rfl ki_2 ?_
                  refine z_imul rfl rfl jk_2 (by omega) (fun v305 ev305 => ?_)
                  refine x_iloadn (x := 1) rfl rfl ?_
                  refine z_iadd rfl rfl jk_1 (by omega) (fun v306 ev306 => ?_)
                  refine x_istoren (lsx9 := [(3, .int v306), (0, .ref 70), (1, .int v301), (2, .int 1)]) rfl rfl rfl ?_
                  refine x_iloadn (x := v306) rfl rfl ?_
                  refine x_iflt (tgt := 26) rfl rfl (ti_lt rfl jk_0 (br_f (by omega) ?_))
                  refine x_iloadn (x := v306) rfl rfl ?_
                  refine x_sipush (v := 1200) rfl ks_1200 ?_
                  refine x_icge (tgt := 26) rfl rfl (ti_ge rfl jk_1200 ⟨fun c307 => ?_, fun c307 => ?_⟩)
                  ·
                    rw [if_pos (by omega)] at D
                    refine x_iconst (v := (-1)) rfl ki_m1 ?_
                    refine x_iret rfl rfl ?_
                    show jX m_X5_isNamed 14 0 0 15 [(0, .ref 70), (1, .int v301)] [.int (-1)] _ 0 0 _
                    refine x_iflt (tgt := 22) rfl rfl (ti_lt jk_m1 jk_0 (br_t (by omega) ?_))
                    refine x_iconst (v := 0) rfl ki_0 ?_
                    refine x_zret rfl rfl (by decide) ?_
                    show jX m_X7_namedSoul 15 0 0 8 [(0, .ref 78), (1, .int v301)] [.int 0] _ 0 0 _
                    refine x_ifeq (tgt := 19) rfl rfl (ti_eq jk_0 jk_0 (br_t (by omega) ?_))
                    refine x_iconst (v := (-1)) rfl ki_m1 ?_
                    refine x_iret rfl rfl ?_
                    show jX m_X6_byParents 16 0 0 76 [(5, .int v299), (4, .int v6), (3, .int v4), (0, .ref 120), (1, .int a1), (2, .int 2)] [.int (-1), .ref 120] _ 0 0 _
                    refine x_iload (x := v6) rfl rfl ?_
                    refine x_iloadn (x := 2) rfl rfl ?_
                    refine x_iconst (v := 1) rfl ki_1 ?_
                    refine y_iadd (v := 3) rfl (by decide) ?_
                    refine x_inv (N := m_X6_belongs) (As := [.int (-1), .int v6, .int 3]) (b := 120) (st := []) (dx9 := 15) (mc := 0) (ms := 0) (host := "") 6 rfl t_X6_belongs ⟨Or.inl q_6_127, i_X6_belongs.1, i_X6_belongs.2⟩ ⟨by decide, rfl⟩ (congrArg Prod.fst (J.1.1 120 (6, 8) rfl)) rfl (by decide) rfl rfl ⟨by decide, by decide⟩ (sf_X6_belongs_r120_c3d (jr_of jk_m1 (by omega)) (jr_of rfl (by omega)) hD J rfl  (fun v311 h ev311 J S308 X309 X310 => ?_))
                    have Sm := jSm_tr rfl Sm S308
                    try rw [jk_m1] at X309
                    try rw [jk_m1] at X310
                    try rw [X309] at D
                    try rw [X310] at D
                    show jX m_X6_byParents 16 0 0 84 [(5, .int v299), (4, .int v6), (3, .int v4), (0, .ref 120), (1, .int a1), (2, .int 2)] [.int v311] _ 0 0 _
                    exact jX.sub jsb_n (ct_X6_byParents_r120_c2d_84 hD hQ  v311 h (jr_of rfl (by omega)) J Sm D)
                  ·
                    rw [if_neg (by omega)] at D
                    refine x_aloadn (x := 70) rfl rfl ?_
                    refine z_getR (N := 9) (b := 76) 5 7 rfl f_5_28 rfl J rfl 8967 ⟨rfl, rfl⟩ rfl ?_
                    refine x_iloadn (x := v306) rfl rfl ?_
                    refine z_iald (N := 1200) rfl J rfl sg_76_0_1200_1_0_1 rfl (by omega) (fun v312 qv312 ev312 => ?_)
                    try rw [vrd (jmb_c S296 qv312 rfl) (show (((v4.toInt + 2) * 2) + 1) = v306.toInt from by omega)] at D
                    refine x_goto (tgt := 27) rfl rfl ?_
                    refine x_iret rfl rfl ?_
                    show jX m_X5_isNamed 14 0 0 15 [(0, .ref 70), (1, .int v301)] [.int v312] _ 0 0 _
                    refine x_iflt (tgt := 22) rfl rfl (ti_lt rfl jk_0 ⟨fun c313 => ?_, fun c313 => ?_⟩)
                    ·
                      rw [if_pos (by omega)] at D
                      refine x_iconst (v := 0) rfl ki_0 ?_
                      refine x_zret rfl rfl (by decide) ?_
                      show jX m_X7_namedSoul 15 0 0 8 [(0, .ref 78), (1, .int v301)] [.int 0] _ 0 0 _
                      refine x_ifeq (tgt := 19) rfl rfl (ti_eq jk_0 jk_0 (br_t (by omega) ?_))
                      refine x_iconst (v := (-1)) rfl ki_m1 ?_
                      refine x_iret rfl rfl ?_
                      show jX m_X6_byParents 16 0 0 76 [(5, .int v299), (4, .int v6), (3, .int v4), (0, .ref 120), (1, .int a1), (2, .int 2)] [.int (-1), .ref 120] _ 0 0 _
                      refine x_iload (x := v6) rfl rfl ?_
                      refine x_iloadn (x := 2) rfl rfl ?_
                      refine x_iconst (v := 1) rfl ki_1 ?_
                      refine y_iadd (v := 3) rfl (by decide) ?_
                      refine x_inv (N := m_X6_belongs) (As := [.int (-1), .int v6, .int 3]) (b := 120) (st := []) (dx9 := 15) (mc := 0) (ms := 0) (host := "") 6 rfl t_X6_belongs ⟨Or.inl q_6_127, i_X6_belongs.1, i_X6_belongs.2⟩ ⟨by decide, rfl⟩ (congrArg Prod.fst (J.1.1 120 (6, 8) rfl)) rfl (by decide) rfl rfl ⟨by decide, by decide⟩ (sf_X6_belongs_r120_c3d (jr_of jk_m1 (by omega)) (jr_of rfl (by omega)) hD J rfl  (fun v317 h ev317 J S314 X315 X316 => ?_))
                      have Sm := jSm_tr rfl Sm S314
                      try rw [jk_m1] at X315
                      try rw [jk_m1] at X316
                      try rw [X315] at D
                      try rw [X316] at D
                      show jX m_X6_byParents 16 0 0 84 [(5, .int v299), (4, .int v6), (3, .int v4), (0, .ref 120), (1, .int a1), (2, .int 2)] [.int v317] _ 0 0 _
                      exact jX.sub jsb_n (ct_X6_byParents_r120_c2d_84 hD hQ  v317 h (jr_of rfl (by omega)) J Sm D)
                    ·
                      rw [if_neg (by omega)] at D
                      refine x_iconst (v := 1) rfl ki_1 ?_
                      refine x_goto (tgt := 23) rfl rfl ?_
                      refine x_zret rfl rfl (by decide) ?_
                      show jX m_X7_namedSoul 15 0 0 8 [(0, .ref 78), (1, .int v301)] [.int 1] _ 0 0 _
                      refine x_ifeq (tgt := 19) rfl rfl (ti_eq jk_1 jk_0 (br_f (by omega) ?_))
                      refine x_aloadn (x := 78) rfl rfl ?_
                      refine x_iloadn (x := v301) rfl rfl ?_
                      refine x_inv (N := m_X7_soulAt) (As := [.int v301]) (b := 78) (st := []) (dx9 := 14) (mc := 0) (ms := 0) (host := "") 7 rfl t_X7_soulAt ⟨Or.inl q_7_153, i_X7_soulAt.1, i_X7_soulAt.2⟩ ⟨by decide, rfl⟩ (congrArg Prod.fst (J.1.1 78 (7, 16) rfl)) rfl (by decide) rfl rfl ⟨by decide, by decide⟩ (jC.of rfl k_X7_soulAt rfl ?_)
                      show jX m_X7_soulAt 14 0 0 0 [(0, .ref 78), (1, .int v301)] [] _ 0 0 _
                      refine x_iloadn (x := v301) rfl rfl ?_
                      refine x_iflt (tgt := 36) rfl rfl (ti_lt rfl jk_0 (br_f (by omega) ?_))
                      refine x_iloadn (x := v301) rfl rfl ?_
                      refine x_sipush (v := 600) rfl ks_600 ?_
                      refine x_icge (tgt := 36) rfl rfl (ti_ge rfl jk_600 ⟨fun c318 => ?_, fun c318 => ?_⟩)
                      ·
                        rw [if_pos (by omega)] at D
                        refine x_iconst (v := (-1)) rfl ki_m1 ?_
                        refine x_iret rfl rfl ?_
                        show jX m_X7_namedSoul 15 0 0 16 [(0, .ref 78), (1, .int v301)] [.int (-1)] _ 0 0 _
                        refine x_goto (tgt := 20) rfl rfl ?_
                        refine x_iret rfl rfl ?_
                        show jX m_X6_byParents 16 0 0 76 [(5, .int v299), (4, .int v6), (3, .int v4), (0, .ref 120), (1, .int a1), (2, .int 2)] [.int (-1), .ref 120] _ 0 0 _
                        refine x_iload (x := v6) rfl rfl ?_
                        refine x_iloadn (x := 2) rfl rfl ?_
                        refine x_iconst (v := 1) rfl ki_1 ?_
                        refine y_iadd (v := 3) rfl (by decide) ?_
                        refine x_inv (N := m_X6_belongs) (As := [.int (-1), .int v6, .int 3]) (b := 120) (st := []) (dx9 := 15) (mc := 0) (ms := 0) (host := "") 6 rfl t_X6_belongs ⟨Or.inl q_6_127, i_X6_belongs.1, i_X6_belongs.2⟩ ⟨by decide, rfl⟩ (congrArg Prod.fst (J.1.1 120 (6, 8) rfl)) rfl (by decide) rfl rfl ⟨by decide, by decide⟩ (sf_X6_belongs_r120_c3d (jr_of jk_m1 (by omega)) (jr_of rfl (by omega)) hD J rfl  (fun v322 h ev322 J S319 X320 X321 => ?_))
                        have Sm := jSm_tr rfl Sm S319
                        try rw [jk_m1] at X320
                        try rw [jk_m1] at X321
                        try rw [X320] at D
                        try rw [X321] at D
                        show jX m_X6_byParents 16 0 0 84 [(5, .int v299), (4, .int v6), (3, .int v4), (0, .ref 120), (1, .int a1), (2, .int 2)] [.int v322] _ 0 0 _
                        exact jX.sub jsb_n (ct_X6_byParents_r120_c2d_84 hD hQ  v322 h (jr_of rfl (by omega)) J Sm D)
                      ·
                        rw [if_neg (by omega)] at D
                        refine x_iloadn (x := v301) rfl rfl ?_
                        refine x_iconst (v := 3) rfl ki_3 ?_
                        refine z_idiv rfl rfl jk_3 (by omega) (by omega) (fun v323 ev323 => ?_)
                        refine x_aloadn (x := 78) rfl rfl ?_
                        refine z_getR (N := 16) (b := 32) 7 0 rfl f_7_55 rfl J rfl 9984 ⟨rfl, rfl⟩ rfl ?_
                        refine z_getR (N := 20) (b := 33) 1 0 rfl f_7_63 rfl J rfl 4096 ⟨rfl, rfl⟩ rfl ?_
                        refine z_getM (N := 4) (v := v208) 8 3 rfl f_7_85 rfl J rfl (jmc S296 rfl qv208) ?_
                        refine x_icge (tgt := 36) rfl rfl (ti_ge rfl rfl ⟨fun c324 => ?_, fun c324 => ?_⟩)
                        ·
                          rw [if_pos (by omega)] at D
                          refine x_iconst (v := (-1)) rfl ki_m1 ?_
                          refine x_iret rfl rfl ?_
                          show jX m_X7_namedSoul 15 0 0 16 [(0, .ref 78), (1, .int v301)] [.int (-1)] _ 0 0 _
                          refine x_goto (tgt := 20) rfl rfl ?_
                          refine x_iret rfl rfl ?_
                          show jX m_X6_byParents 16 0 0 76 [(5, .int v299), (4, .int v6), (3, .int v4), (0, .ref 120), (1, .int a1), (2, .int 2)] [.int (-1), .ref 120] _ 0 0 _
                          refine x_iload (x := v6) rfl rfl ?_
                          refine x_iloadn (x := 2) rfl rfl ?_
                          refine x_iconst (v := 1) rfl ki_1 ?_
                          refine y_iadd (v := 3) rfl (by decide) ?_
                          refine x_inv (N := m_X6_belongs) (As := [.int (-1), .int v6, .int 3]) (b := 120) (st := []) (dx9 := 15) (mc := 0) (ms := 0) (host := "") 6 rfl t_X6_belongs ⟨Or.inl q_6_127, i_X6_belongs.1, i_X6_belongs.2⟩ ⟨by decide, rfl⟩ (congrArg Prod.fst (J.1.1 120 (6, 8) rfl)) rfl (by decide) rfl rfl ⟨by decide, by decide⟩ (sf_X6_belongs_r120_c3d (jr_of jk_m1 (by omega)) (jr_of rfl (by omega)) hD J rfl  (fun v328 h ev328 J S325 X326 X327 => ?_))
                          have Sm := jSm_tr rfl Sm S325
                          try rw [jk_m1] at X326
                          try rw [jk_m1] at X327
                          try rw [X326] at D
                          try rw [X327] at D
                          show jX m_X6_byParents 16 0 0 84 [(5, .int v299), (4, .int v6), (3, .int v4), (0, .ref 120), (1, .int a1), (2, .int 2)] [.int v328] _ 0 0 _
                          exact jX.sub jsb_n (ct_X6_byParents_r120_c2d_84 hD hQ  v328 h (jr_of rfl (by omega)) J Sm D)
                        ·
                          rw [if_neg (by omega)] at D
                          refine x_aloadn (x := 78) rfl rfl ?_
                          refine z_getR (N := 16) (b := 82) 7 10 rfl f_7_37 rfl J rfl 9994 ⟨rfl, rfl⟩ rfl ?_
                          refine x_iloadn (x := v301) rfl rfl ?_
                          refine z_iald (N := 600) rfl J rfl sg_82_0_600_1_0_1 rfl (by omega) (fun v329 qv329 ev329 => ?_)
                          try rw [vrd (jmb_c S296 qv329 rfl) (show (v4.toInt + 2) = v301.toInt from by omega)] at D
                          refine x_goto (tgt := 37) rfl rfl ?_
                          refine x_iret rfl rfl ?_
                          show jX m_X7_namedSoul 15 0 0 16 [(0, .ref 78), (1, .int v301)] [.int v329] _ 0 0 _
                          refine x_goto (tgt := 20) rfl rfl ?_
                          refine x_iret rfl rfl ?_
                          show jX m_X6_byParents 16 0 0 76 [(5, .int v299), (4, .int v6), (3, .int v4), (0, .ref 120), (1, .int a1), (2, .int 2)] [.int v329, .ref 120] _ 0 0 _
                          refine x_iload (x := v6) rfl rfl ?_
                          refine x_iloadn (x := 2) rfl rfl ?_
                          refine x_iconst (v := 1) rfl ki_1 ?_
                          refine y_iadd (v := 3) rfl (by decide) ?_
                          refine x_inv (N := m_X6_belongs) (As := [.int v329, .int v6, .int 3]) (b := 120) (st := []) (dx9 := 15) (mc := 0) (ms := 0) (host := "") 6 rfl t_X6_belongs ⟨Or.inl q_6_127, i_X6_belongs.1, i_X6_belongs.2⟩ ⟨by decide, rfl⟩ (congrArg Prod.fst (J.1.1 120 (6, 8) rfl)) rfl (by decide) rfl rfl ⟨by decide, by decide⟩ (sf_X6_belongs_r120_c3d (jr_of rfl (by omega)) (jr_of rfl (by omega)) hD J rfl  (fun v333 h ev333 J S330 X331 X332 => ?_))
                          have Sm := jSm_tr rfl Sm S330
                          try rw [X331] at D
                          try rw [X332] at D
                          show jX m_X6_byParents 16 0 0 84 [(5, .int v299), (4, .int v6), (3, .int v4), (0, .ref 120), (1, .int a1), (2, .int 2)] [.int v333] _ 0 0 _
                          exact jX.sub jsb_n (ct_X6_byParents_r120_c2d_84 hD hQ  v333 h (jr_of rfl (by omega)) J Sm D)
                ·
                  rw [if_neg (by omega)] at D
                  refine x_aloadn (x := 70) rfl rfl ?_
                  refine z_getR (N := 9) (b := 76) 5 7 rfl f_5_28 rfl J rfl 8967 ⟨rfl, rfl⟩ rfl ?_
                  refine x_iloadn (x := v303) rfl rfl ?_
                  refine z_iald (N := 1200) rfl J rfl sg_76_0_1200_1_0_1 rfl (by omega) (fun v334 qv334 ev334 => ?_)
                  try rw [vrd (jmb_c S296 qv334 rfl) (show (((v4.toInt + 2) * 2) + 0) = v303.toInt from by omega)] at D
                  refine x_goto (tgt := 27) rfl rfl ?_
                  refine x_iret rfl rfl ?_
                  show jX m_X5_isNamed 14 0 0 6 [(0, .ref 70), (1, .int v301)] [.int v334] _ 0 0 _
                  refine x_ifge (tgt := 18) rfl rfl (ti_ge rfl jk_0 ⟨fun c335 => ?_, fun c335 => ?_⟩)
                  ·
                    rw [if_pos (by omega)] at D
                    refine x_iconst (v := 1) rfl ki_1 ?_
                    refine x_goto (tgt := 23) rfl rfl ?_
                    refine x_zret rfl rfl (by decide) ?_
                    show jX m_X7_namedSoul 15 0 0 8 [(0, .ref 78), (1, .int v301)] [.int 1] _ 0 0 _
                    refine x_ifeq (tgt := 19) rfl rfl (ti_eq jk_1 jk_0 (br_f (by omega) ?_))
                    refine x_aloadn (x := 78) rfl rfl ?_
                    refine x_iloadn (x := v301) rfl rfl ?_
                    refine x_inv (N := m_X7_soulAt) (As := [.int v301]) (b := 78) (st := []) (dx9 := 14) (mc := 0) (ms := 0) (host := "") 7 rfl t_X7_soulAt ⟨Or.inl q_7_153, i_X7_soulAt.1, i_X7_soulAt.2⟩ ⟨by decide, rfl⟩ (congrArg Prod.fst (J.1.1 78 (7, 16) rfl)) rfl (by decide) rfl rfl ⟨by decide, by decide⟩ (jC.of rfl k_X7_soulAt rfl ?_)
                    show jX m_X7_soulAt 14 0 0 0 [(0, .ref 78), (1, .int v301)] [] _ 0 0 _
                    refine x_iloadn (x := v301) rfl rfl ?_
                    refine x_iflt (tgt := 36) rfl rfl (ti_lt rfl jk_0 (br_f (by omega) ?_))
                    refine x_iloadn (x := v301) rfl rfl ?_
                    refine x_sipush (v := 600) rfl ks_600 ?_
                    refine x_icge (tgt := 36) rfl rfl (ti_ge rfl jk_600 ⟨fun c336 => ?_, fun c336 => ?_⟩)
                    ·
                      rw [if_pos (by omega)] at D
                      refine x_iconst (v := (-1)) rfl ki_m1 ?_
                      refine x_iret rfl rfl ?_
                      show jX m_X7_namedSoul 15 0 0 16 [(0, .ref 78), (1, .int v301)] [.int (-1)] _ 0 0 _
                      refine x_goto (tgt := 20) rfl rfl ?_
                      refine x_iret rfl rfl ?_
                      show jX m_X6_byParents 16 0 0 76 [(5, .int v299), (4, .int v6), (3, .int v4), (0, .ref 120), (1, .int a1), (2, .int 2)] [.int (-1), .ref 120] _ 0 0 _
                      refine x_iload (x := v6) rfl rfl ?_
                      refine x_iloadn (x := 2) rfl rfl ?_
                      refine x_iconst (v := 1) rfl ki_1 ?_
                      refine y_iadd (v := 3) rfl (by decide) ?_
                      refine x_inv (N := m_X6_belongs) (As := [.int (-1), .int v6, .int 3]) (b := 120) (st := []) (dx9 := 15) (mc := 0) (ms := 0) (host := "") 6 rfl t_X6_belongs ⟨Or.inl q_6_127, i_X6_belongs.1, i_X6_belongs.2⟩ ⟨by decide, rfl⟩ (congrArg Prod.fst (J.1.1 120 (6, 8) rfl)) rfl (by decide) rfl rfl ⟨by decide, by decide⟩ (sf_X6_belongs_r120_c3d (jr_of jk_m1 (by omega)) (jr_of rfl (by omega)) hD J rfl  (fun v340 h ev340 J S337 X338 X339 => ?_))
                      have Sm := jSm_tr rfl Sm S337
                      try rw [jk_m1] at X338
                      try rw [jk_m1] at X339
                      try rw [X338] at D
                      try rw [X339] at D
                      show jX m_X6_byParents 16 0 0 84 [(5, .int v299), (4, .int v6), (3, .int v4), (0, .ref 120), (1, .int a1), (2, .int 2)] [.int v340] _ 0 0 _
                      exact jX.sub jsb_n (ct_X6_byParents_r120_c2d_84 hD hQ  v340 h (jr_of rfl (by omega)) J Sm D)
                    ·
                      rw [if_neg (by omega)] at D
                      refine x_iloadn (x := v301) rfl rfl ?_
                      refine x_iconst (v := 3) rfl ki_3 ?_
                      refine z_idiv rfl rfl jk_3 (by omega) (by omega) (fun v341 ev341 => ?_)
                      refine x_aloadn (x := 78) rfl rfl ?_
                      refine z_getR (N := 16) (b := 32) 7 0 rfl f_7_55 rfl J rfl 9984 ⟨rfl, rfl⟩ rfl ?_
                      refine z_getR (N := 20) (b := 33) 1 0 rfl f_7_63 rfl J rfl 4096 ⟨rfl, rfl⟩ rfl ?_
                      refine z_getM (N := 4) (v := v208) 8 3 rfl f_7_85 rfl J rfl (jmc S296 rfl qv208) ?_
                      refine x_icge (tgt := 36) rfl rfl (ti_ge rfl rfl ⟨fun c342 => ?_, fun c342 => ?_⟩)
                      ·
                        rw [if_pos (by omega)] at D
                        refine x_iconst (v := (-1)) rfl ki_m1 ?_
                        refine x_iret rfl rfl ?_
                        show jX m_X7_namedSoul 15 0 0 16 [(0, .ref 78), (1, .int v301)] [.int (-1)] _ 0 0 _
                        refine x_goto (tgt := 20) rfl rfl ?_
                        refine x_iret rfl rfl ?_
                        show jX m_X6_byParents 16 0 0 76 [(5, .int v299), (4, .int v6), (3, .int v4), (0, .ref 120), (1, .int a1), (2, .int 2)] [.int (-1), .ref 120] _ 0 0 _
                        refine x_iload (x := v6) rfl rfl ?_
                        refine x_iloadn (x := 2) rfl rfl ?_
                        refine x_iconst (v := 1) rfl ki_1 ?_
                        refine y_iadd (v := 3) rfl (by decide) ?_
                        refine x_inv (N := m_X6_belongs) (As := [.int (-1), .int v6, .int 3]) (b := 120) (st := []) (dx9 := 15) (mc := 0) (ms := 0) (host := "") 6 rfl t_X6_belongs ⟨Or.inl q_6_127, i_X6_belongs.1, i_X6_belongs.2⟩ ⟨by decide, rfl⟩ (congrArg Prod.fst (J.1.1 120 (6, 8) rfl)) rfl (by decide) rfl rfl ⟨by decide, by decide⟩ (sf_X6_belongs_r120_c3d (jr_of jk_m1 (by omega)) (jr_of rfl (by omega)) hD J rfl  (fun v346 h ev346 J S343 X344 X345 => ?_))
                        have Sm := jSm_tr rfl Sm S343
                        try rw [jk_m1] at X344
                        try rw [jk_m1] at X345
                        try rw [X344] at D
                        try rw [X345] at D
                        show jX m_X6_byParents 16 0 0 84 [(5, .int v299), (4, .int v6), (3, .int v4), (0, .ref 120), (1, .int a1), (2, .int 2)] [.int v346] _ 0 0 _
                        exact jX.sub jsb_n (ct_X6_byParents_r120_c2d_84 hD hQ  v346 h (jr_of rfl (by omega)) J Sm D)
                      ·
                        rw [if_neg (by omega)] at D
                        refine x_aloadn (x := 78) rfl rfl ?_
                        refine z_getR (N := 16) (b := 82) 7 10 rfl f_7_37 rfl J rfl 9994 ⟨rfl, rfl⟩ rfl ?_
                        refine x_iloadn (x := v301) rfl rfl ?_
                        refine z_iald (N := 600) rfl J rfl sg_82_0_600_1_0_1 rfl (by omega) (fun v347 qv347 ev347 => ?_)
                        try rw [vrd (jmb_c S296 qv347 rfl) (show (v4.toInt + 2) = v301.toInt from by omega)] at D
                        refine x_goto (tgt := 37) rfl rfl ?_
                        refine x_iret rfl rfl ?_
                        show jX m_X7_namedSoul 15 0 0 16 [(0, .ref 78), (1, .int v301)] [.int v347] _ 0 0 _
                        refine x_goto (tgt := 20) rfl rfl ?_
                        refine x_iret rfl rfl ?_
                        show jX m_X6_byParents 16 0 0 76 [(5, .int v299), (4, .int v6), (3, .int v4), (0, .ref 120), (1, .int a1), (2, .int 2)] [.int v347, .ref 120] _ 0 0 _
                        refine x_iload (x := v6) rfl rfl ?_
                        refine x_iloadn (x := 2) rfl rfl ?_
                        refine x_iconst (v := 1) rfl ki_1 ?_
                        refine y_iadd (v := 3) rfl (by decide) ?_
                        refine x_inv (N := m_X6_belongs) (As := [.int v347, .int v6, .int 3]) (b := 120) (st := []) (dx9 := 15) (mc := 0) (ms := 0) (host := "") 6 rfl t_X6_belongs ⟨Or.inl q_6_127, i_X6_belongs.1, i_X6_belongs.2⟩ ⟨by decide, rfl⟩ (congrArg Prod.fst (J.1.1 120 (6, 8) rfl)) rfl (by decide) rfl rfl ⟨by decide, by decide⟩ (sf_X6_belongs_r120_c3d (jr_of rfl (by omega)) (jr_of rfl (by omega)) hD J rfl  (fun v351 h ev351 J S348 X349 X350 => ?_))
                        have Sm := jSm_tr rfl Sm S348
                        try rw [X349] at D
                        try rw [X350] at D
                        show jX m_X6_byParents 16 0 0 84 [(5, .int v299), (4, .int v6), (3, .int v4), (0, .ref 120), (1, .int a1), (2, .int 2)] [.int v351] _ 0 0 _
                        exact jX.sub jsb_n (ct_X6_byParents_r120_c2d_84 hD hQ  v351 h (jr_of rfl (by omega)) J Sm D)
                  ·
                    rw [if_neg (by omega)] at D
                    refine x_aloadn (x := 70) rfl rfl ?_
                    refine x_iloadn (x := v301) rfl rfl ?_
                    refine x_iconst (v := 1) rfl ki_1 ?_
                    refine x_inv (N := m_X5_lengthOf) (As := [.int v301, .int 1]) (b := 70) (st := []) (dx9 := 13) (mc := 0) (ms := 0) (host := "") 5 rfl t_X5_lengthOf ⟨Or.inl q_5_133, i_X5_lengthOf.1, i_X5_lengthOf.2⟩ ⟨by decide, rfl⟩ (congrArg Prod.fst (J.1.1 70 (5, 9) rfl)) rfl (by decide) rfl rfl ⟨by decide, by decide⟩ (jC.of rfl k_X5_lengthOf rfl ?_)
                    show jX m_X5_lengthOf 13 0 0 0 [(0, .ref 70), (1, .int v301), (2, .int 1)] [] _ 0 0 _
                    refine x_iloadn (x := v301) rfl rfl ?_
                    refine x_iconst (v := 2) rfl ki_2 ?_
                    refine z_imul rfl rfl jk_2 (by omega) (fun v352 ev352 => ?_)
                    refine x_iloadn (x := 1) rfl rfl ?_
                    refine z_iadd rfl rfl jk_1 (by omega) (fun v353 ev353 => ?_)
                    refine x_istoren (lsx9 := [(3, .int v353), (0, .ref 70), (1, .int v301), (2, .int 1)]) rfl rfl rfl ?_
                    refine x_iloadn (x := v353) rfl rfl ?_
                    refine x_iflt (tgt := 26) rfl rfl (ti_lt rfl jk_0 (br_f (by omega) ?_))
                    refine x_iloadn (x := v353) rfl rfl ?_
                    refine x_sipush (v := 1200) rfl ks_1200 ?_
                    refine x_icge (tgt := 26) rfl rfl (ti_ge rfl jk_1200 ⟨fun c354 => ?_, fun c354 => ?_⟩)
                    ·
                      rw [if_pos (by omega)] at D
                      refine x_iconst (v := (-1)) rfl ki_m1 ?_
                      refine x_iret rfl rfl ?_
                      show jX m_X5_isNamed 14 0 0 15 [(0, .ref 70), (1, .int v301)] [.int (-1)] _ 0 0 _
                      refine x_iflt (tgt := 22) rfl rfl (ti_lt jk_m1 jk_0 (br_t (by omega) ?_))
                      refine x_iconst (v := 0) rfl ki_0 ?_
                      refine x_zret rfl rfl (by decide) ?_
                      show jX m_X7_namedSoul 15 0 0 8 [(0, .ref 78), (1, .int v301)] [.int 0] _ 0 0 _
                      refine x_ifeq (tgt := 19) rfl rfl (ti_eq jk_0 jk_0 (br_t (by omega) ?_))
                      refine x_iconst (v := (-1)) rfl ki_m1 ?_
                      refine x_iret rfl rfl ?_
                      show jX m_X6_byParents 16 0 0 76 [(5, .int v299), (4, .int v6), (3, .int v4), (0, .ref 120), (1, .int a1), (2, .int 2)] [.int (-1), .ref 120] _ 0 0 _
                      refine x_iload (x := v6) rfl rfl ?_
                      refine x_iloadn (x := 2) rfl rfl ?_
                      refine x_iconst (v := 1) rfl ki_1 ?_
                      refine y_iadd (v := 3) rfl (by decide) ?_
                      refine x_inv (N := m_X6_belongs) (As := [.int (-1), .int v6, .int 3]) (b := 120) (st := []) (dx9 := 15) (mc := 0) (ms := 0) (host := "") 6 rfl t_X6_belongs ⟨Or.inl q_6_127, i_X6_belongs.1, i_X6_belongs.2⟩ ⟨by decide, rfl⟩ (congrArg Prod.fst (J.1.1 120 (6, 8) rfl)) rfl (by decide) rfl rfl ⟨by decide, by decide⟩ (sf_X6_belongs_r120_c3d (jr_of jk_m1 (by omega)) (jr_of rfl (by omega)) hD J rfl  (fun v358 h ev358 J S355 X356 X357 => ?_))
                      have Sm := jSm_tr rfl Sm S355
                      try rw [jk_m1] at X356
                      try rw [jk_m1] at X357
                      try rw [X356] at D
                      try rw [X357] at D
                      show jX m_X6_byParents 16 0 0 84 [(5, .int v299), (4, .int v6), (3, .int v4), (0, .ref 120), (1, .int a1), (2, .int 2)] [.int v358] _ 0 0 _
                      exact jX.sub jsb_n (ct_X6_byParents_r120_c2d_84 hD hQ  v358 h (jr_of rfl (by omega)) J Sm D)
                    ·
                      rw [if_neg (by omega)] at D
                      refine x_aloadn (x := 70) rfl rfl ?_
                      refine z_getR (N := 9) (b := 76) 5 7 rfl f_5_28 rfl J rfl 8967 ⟨rfl, rfl⟩ rfl ?_
                      refine x_iloadn (x := v353) rfl rfl ?_
                      refine z_iald (N := 1200) rfl J rfl sg_76_0_1200_1_0_1 rfl (by omega) (fun v359 qv359 ev359 => ?_)
                      try rw [vrd (jmb_c S296 qv359 rfl) (show (((v4.toInt + 2) * 2) + 1) = v353.toInt from by omega)] at D
                      refine x_goto (tgt := 27) rfl rfl ?_
                      refine x_iret rfl rfl ?_
                      show jX m_X5_isNamed 14 0 0 15 [(0, .ref 70), (1, .int v301)] [.int v359] _ 0 0 _
                      refine x_iflt (tgt := 22) rfl rfl (ti_lt rfl jk_0 ⟨fun c360 => ?_, fun c360 => ?_⟩)
                      ·
                        rw [if_pos (by omega)] at D
                        refine x_iconst (v := 0) rfl ki_0 ?_
                        refine x_zret rfl rfl (by decide) ?_
                        show jX m_X7_namedSoul 15 0 0 8 [(0, .ref 78), (1, .int v301)] [.int 0] _ 0 0 _
                        refine x_ifeq (tgt := 19) rfl rfl (ti_eq jk_0 jk_0 (br_t (by omega) ?_))
                        refine x_iconst (v := (-1)) rfl ki_m1 ?_
                        refine x_iret rfl rfl ?_
                        show jX m_X6_byParents 16 0 0 76 [(5, .int v299), (4, .int v6), (3, .int v4), (0, .ref 120), (1, .int a1), (2, .int 2)] [.int (-1), .ref 120] _ 0 0 _
                        refine x_iload (x := v6) rfl rfl ?_
                        refine x_iloadn (x := 2) rfl rfl ?_
                        refine x_iconst (v := 1) rfl ki_1 ?_
                        refine y_iadd (v := 3) rfl (by decide) ?_
                        refine x_inv (N := m_X6_belongs) (As := [.int (-1), .int v6, .int 3]) (b := 120) (st := []) (dx9 := 15) (mc := 0) (ms := 0) (host := "") 6 rfl t_X6_belongs ⟨Or.inl q_6_127, i_X6_belongs.1, i_X6_belongs.2⟩ ⟨by decide, rfl⟩ (congrArg Prod.fst (J.1.1 120 (6, 8) rfl)) rfl (by decide) rfl rfl ⟨by decide, by decide⟩ (sf_X6_belongs_r120_c3d (jr_of jk_m1 (by omega)) (jr_of rfl (by omega)) hD J rfl  (fun v364 h ev364 J S361 X362 X363 => ?_))
                        have Sm := jSm_tr rfl Sm S361
                        try rw [jk_m1] at X362
                        try rw [jk_m1] at X363
                        try rw [X362] at D
                        try rw [X363] at D
                        show jX m_X6_byParents 16 0 0 84 [(5, .int v299), (4, .int v6), (3, .int v4), (0, .ref 120), (1, .int a1), (2, .int 2)] [.int v364] _ 0 0 _
                        exact jX.sub jsb_n (ct_X6_byParents_r120_c2d_84 hD hQ  v364 h (jr_of rfl (by omega)) J Sm D)
                      ·
                        rw [if_neg (by omega)] at D
                        refine x_iconst (v := 1) rfl ki_1 ?_
                        refine x_goto (tgt := 23) rfl rfl ?_
                        refine x_zret rfl rfl (by decide) ?_
                        show jX m_X7_namedSoul 15 0 0 8 [(0, .ref 78), (1, .int v301)] [.int 1] _ 0 0 _
                        refine x_ifeq (tgt := 19) rfl rfl (ti_eq jk_1 jk_0 (br_f (by omega) ?_))
                        refine x_aloadn (x := 78) rfl rfl ?_
                        refine x_iloadn (x := v301) rfl rfl ?_
                        refine x_inv (N := m_X7_soulAt) (As := [.int v301]) (b := 78) (st := []) (dx9 := 14) (mc := 0) (ms := 0) (host := "") 7 rfl t_X7_soulAt ⟨Or.inl q_7_153, i_X7_soulAt.1, i_X7_soulAt.2⟩ ⟨by decide, rfl⟩ (congrArg Prod.fst (J.1.1 78 (7, 16) rfl)) rfl (by decide) rfl rfl ⟨by decide, by decide⟩ (jC.of rfl k_X7_soulAt rfl ?_)
                        show jX m_X7_soulAt 14 0 0 0 [(0, .ref 78), (1, .int v301)] [] _ 0 0 _
                        refine x_iloadn (x := v301) rfl rfl ?_
                        refine x_iflt (tgt := 36) rfl rfl (ti_lt rfl jk_0 (br_f (by omega) ?_))
                        refine x_iloadn (x := v301) rfl rfl ?_
                        refine x_sipush (v := 600) rfl ks_600 ?_
                        refine x_icge (tgt := 36) rfl rfl (ti_ge rfl jk_600 ⟨fun c365 => ?_, fun c365 => ?_⟩)
                        ·
                          rw [if_pos (by omega)] at D
                          refine x_iconst (v := (-1)) rfl ki_m1 ?_
                          refine x_iret rfl rfl ?_
                          show jX m_X7_namedSoul 15 0 0 16 [(0, .ref 78), (1, .int v301)] [.int (-1)] _ 0 0 _
                          refine x_goto (tgt := 20) rfl rfl ?_
                          refine x_iret rfl rfl ?_
                          show jX m_X6_byParents 16 0 0 76 [(5, .int v299), (4, .int v6), (3, .int v4), (0, .ref 120), (1, .int a1), (2, .int 2)] [.int (-1), .ref 120] _ 0 0 _
                          refine x_iload (x := v6) rfl rfl ?_
                          refine x_iloadn (x := 2) rfl rfl ?_
                          refine x_iconst (v := 1) rfl ki_1 ?_
                          refine y_iadd (v := 3) rfl (by decide) ?_
                          refine x_inv (N := m_X6_belongs) (As := [.int (-1), .int v6, .int 3]) (b := 120) (st := []) (dx9 := 15) (mc := 0) (ms := 0) (host := "") 6 rfl t_X6_belongs ⟨Or.inl q_6_127, i_X6_belongs.1, i_X6_belongs.2⟩ ⟨by decide, rfl⟩ (congrArg Prod.fst (J.1.1 120 (6, 8) rfl)) rfl (by decide) rfl rfl ⟨by decide, by decide⟩ (sf_X6_belongs_r120_c3d (jr_of jk_m1 (by omega)) (jr_of rfl (by omega)) hD J rfl  (fun v369 h ev369 J S366 X367 X368 => ?_))
                          have Sm := jSm_tr rfl Sm S366
                          try rw [jk_m1] at X367
                          try rw [jk_m1] at X368
                          try rw [X367] at D
                          try rw [X368] at D
                          show jX m_X6_byParents 16 0 0 84 [(5, .int v299), (4, .int v6), (3, .int v4), (0, .ref 120), (1, .int a1), (2, .int 2)] [.int v369] _ 0 0 _
                          exact jX.sub jsb_n (ct_X6_byParents_r120_c2d_84 hD hQ  v369 h (jr_of rfl (by omega)) J Sm D)
                        ·
                          rw [if_neg (by omega)] at D
                          refine x_iloadn (x := v301) rfl rfl ?_
                          refine x_iconst (v := 3) rfl ki_3 ?_
                          refine z_idiv rfl rfl jk_3 (by omega) (by omega) (fun v370 ev370 => ?_)
                          refine x_aloadn (x := 78) rfl rfl ?_
                          refine z_getR (N := 16) (b := 32) 7 0 rfl f_7_55 rfl J rfl 9984 ⟨rfl, rfl⟩ rfl ?_
                          refine z_getR (N := 20) (b := 33) 1 0 rfl f_7_63 rfl J rfl 4096 ⟨rfl, rfl⟩ rfl ?_
                          refine z_getM (N := 4) (v := v208) 8 3 rfl f_7_85 rfl J rfl (jmc S296 rfl qv208) ?_
                          refine x_icge (tgt := 36) rfl rfl (ti_ge rfl rfl ⟨fun c371 => ?_, fun c371 => ?_⟩)
                          ·
                            rw [if_pos (by omega)] at D
                            refine x_iconst (v := (-1)) rfl ki_m1 ?_
                            refine x_iret rfl rfl ?_
                            show jX m_X7_namedSoul 15 0 0 16 [(0, .ref 78), (1, .int v301)] [.int (-1)] _ 0 0 _
                            refine x_goto (tgt := 20) rfl rfl ?_
                            refine x_iret rfl rfl ?_
                            show jX m_X6_byParents 16 0 0 76 [(5, .int v299), (4, .int v6), (3, .int v4), (0, .ref 120), (1, .int a1), (2, .int 2)] [.int (-1), .ref 120] _ 0 0 _
                            refine x_iload (x := v6) rfl rfl ?_
                            refine x_iloadn (x := 2) rfl rfl ?_
                            refine x_iconst (v := 1) rfl ki_1 ?_
                            refine y_iadd (v := 3) rfl (by decide) ?_
                            refine x_inv (N := m_X6_belongs) (As := [.int (-1), .int v6, .int 3]) (b := 120) (st := []) (dx9 := 15) (mc := 0) (ms := 0) (host := "") 6 rfl t_X6_belongs ⟨Or.inl q_6_127, i_X6_belongs.1, i_X6_belongs.2⟩ ⟨by decide, rfl⟩ (congrArg Prod.fst (J.1.1 120 (6, 8) rfl)) rfl (by decide) rfl rfl ⟨by decide, by decide⟩ (sf_X6_belongs_r120_c3d (jr_of jk_m1 (by omega)) (jr_of rfl (by omega)) hD J rfl  (fun v375 h ev375 J S372 X373 X374 => ?_))
                            have Sm := jSm_tr rfl Sm S372
                            try rw [jk_m1] at X373
                            try rw [jk_m1] at X374
                            try rw [X373] at D
                            try rw [X374] at D
                            show jX m_X6_byParents 16 0 0 84 [(5, .int v299), (4, .int v6), (3, .int v4), (0, .ref 120), (1, .int a1), (2, .int 2)] [.int v375] _ 0 0 _
                            exact jX.sub jsb_n (ct_X6_byParents_r120_c2d_84 hD hQ  v375 h (jr_of rfl (by omega)) J Sm D)
                          ·
                            rw [if_neg (by omega)] at D
                            refine x_aloadn (x := 78) rfl rfl ?_
                            refine z_getR (N := 16) (b := 82) 7 10 rfl f_7_37 rfl J rfl 9994 ⟨rfl, rfl⟩ rfl ?_
                            refine x_iloadn (x := v301) rfl rfl ?_
                            refine z_iald (N := 600) rfl J rfl sg_82_0_600_1_0_1 rfl (by omega) (fun v376 qv376 ev376 => ?_)
                            try rw [vrd (jmb_c S296 qv376 rfl) (show (v4.toInt + 2) = v301.toInt from by omega)] at D
                            refine x_goto (tgt := 37) rfl rfl ?_
                            refine x_iret rfl rfl ?_
                            show jX m_X7_namedSoul 15 0 0 16 [(0, .ref 78), (1, .int v301)] [.int v376] _ 0 0 _
                            refine x_goto (tgt := 20) rfl rfl ?_
                            refine x_iret rfl rfl ?_
                            show jX m_X6_byParents 16 0 0 76 [(5, .int v299), (4, .int v6), (3, .int v4), (0, .ref 120), (1, .int a1), (2, .int 2)] [.int v376, .ref 120] _ 0 0 _
                            refine x_iload (x := v6) rfl rfl ?_
                            refine x_iloadn (x := 2) rfl rfl ?_
                            refine x_iconst (v := 1) rfl ki_1 ?_
                            refine y_iadd (v := 3) rfl (by decide) ?_
                            refine x_inv (N := m_X6_belongs) (As := [.int v376, .int v6, .int 3]) (b := 120) (st := []) (dx9 := 15) (mc := 0) (ms := 0) (host := "") 6 rfl t_X6_belongs ⟨Or.inl q_6_127, i_X6_belongs.1, i_X6_belongs.2⟩ ⟨by decide, rfl⟩ (congrArg Prod.fst (J.1.1 120 (6, 8) rfl)) rfl (by decide) rfl rfl ⟨by decide, by decide⟩ (sf_X6_belongs_r120_c3d (jr_of rfl (by omega)) (jr_of rfl (by omega)) hD J rfl  (fun v380 h ev380 J S377 X378 X379 => ?_))
                            have Sm := jSm_tr rfl Sm S377
                            try rw [X378] at D
                            try rw [X379] at D
                            show jX m_X6_byParents 16 0 0 84 [(5, .int v299), (4, .int v6), (3, .int v4), (0, .ref 120), (1, .int a1), (2, .int 2)] [.int v380] _ 0 0 _
                            exact jX.sub jsb_n (ct_X6_byParents_r120_c2d_84 hD hQ  v380 h (jr_of rfl (by omega)) J Sm D)
              ·
                rw [if_neg (by omega)] at D
                refine x_iload (x := v299) rfl rfl ?_
                refine x_goto (tgt := 84) rfl rfl ?_
                exact jX.sub jsb_n (ct_X6_byParents_r120_c2d_84 hD hQ  v299 h (jr_of rfl (by omega)) J Sm D)
    ·
      rw [if_neg (by omega)] at D
      refine x_aloadn (x := 70) rfl rfl ?_
      refine z_getR (N := 9) (b := 76) 5 7 rfl f_5_28 rfl J rfl 8967 ⟨rfl, rfl⟩ rfl ?_
      refine x_iloadn (x := v9) rfl rfl ?_
      refine z_iald (N := 1200) rfl J rfl sg_76_0_1200_1_0_1 rfl (by omega) (fun v381 qv381 ev381 => ?_)
      try rw [vrd qv381 (show (((v4.toInt + 1) * 2) + 0) = v9.toInt from by omega)] at D
      refine x_goto (tgt := 27) rfl rfl ?_
      refine x_iret rfl rfl ?_
      show jX m_X5_isNamed 14 0 0 6 [(0, .ref 70), (1, .int v7)] [.int v381] _ 0 0 _
      refine x_ifge (tgt := 18) rfl rfl (ti_ge rfl jk_0 ⟨fun c382 => ?_, fun c382 => ?_⟩)
      ·
        rw [if_pos (by omega)] at D
        refine x_iconst (v := 1) rfl ki_1 ?_
        refine x_goto (tgt := 23) rfl rfl ?_
        refine x_zret rfl rfl (by decide) ?_
        show jX m_X7_namedSoul 15 0 0 8 [(0, .ref 78), (1, .int v7)] [.int 1] _ 0 0 _
        refine x_ifeq (tgt := 19) rfl rfl (ti_eq jk_1 jk_0 (br_f (by omega) ?_))
        refine x_aloadn (x := 78) rfl rfl ?_
        refine x_iloadn (x := v7) rfl rfl ?_
        refine x_inv (N := m_X7_soulAt) (As := [.int v7]) (b := 78) (st := []) (dx9 := 14) (mc := 0) (ms := 0) (host := "") 7 rfl t_X7_soulAt ⟨Or.inl q_7_153, i_X7_soulAt.1, i_X7_soulAt.2⟩ ⟨by decide, rfl⟩ (congrArg Prod.fst (J.1.1 78 (7, 16) rfl)) rfl (by decide) rfl rfl ⟨by decide, by decide⟩ (jC.of rfl k_X7_soulAt rfl ?_)
        show jX m_X7_soulAt 14 0 0 0 [(0, .ref 78), (1, .int v7)] [] _ 0 0 _
        refine x_iloadn (x := v7) rfl rfl ?_
        refine x_iflt (tgt := 36) rfl rfl (ti_lt rfl jk_0 (br_f (by omega) ?_))
        refine x_iloadn (x := v7) rfl rfl ?_
        refine x_sipush (v := 600) rfl ks_600 ?_
        refine x_icge (tgt := 36) rfl rfl (ti_ge rfl jk_600 ⟨fun c383 => ?_, fun c383 => ?_⟩)
        ·
          rw [if_pos (by omega)] at D
          refine x_iconst (v := (-1)) rfl ki_m1 ?_
          refine x_iret rfl rfl ?_
          show jX m_X7_namedSoul 15 0 0 16 [(0, .ref 78), (1, .int v7)] [.int (-1)] _ 0 0 _
          refine x_goto (tgt := 20) rfl rfl ?_
          refine x_iret rfl rfl ?_
          show jX m_X6_byParents 16 0 0 44 [(4, .int v6), (3, .int v4), (0, .ref 120), (1, .int a1), (2, .int 2)] [.int (-1), .ref 120] _ 0 0 _
          refine x_iload (x := v6) rfl rfl ?_
          refine x_iloadn (x := 2) rfl rfl ?_
          refine x_iconst (v := 1) rfl ki_1 ?_
          refine y_iadd (v := 3) rfl (by decide) ?_
          refine x_inv (N := m_X6_belongs) (As := [.int (-1), .int v6, .int 3]) (b := 120) (st := []) (dx9 := 15) (mc := 0) (ms := 0) (host := "") 6 rfl t_X6_belongs ⟨Or.inl q_6_127, i_X6_belongs.1, i_X6_belongs.2⟩ ⟨by decide, rfl⟩ (congrArg Prod.fst (J.1.1 120 (6, 8) rfl)) rfl (by decide) rfl rfl ⟨by decide, by decide⟩ (sf_X6_belongs_r120_c3d (jr_of jk_m1 (by omega)) (jr_of rfl (by omega)) hD J rfl  (fun v387 h ev387 J S384 X385 X386 => ?_))
          have Sm := jSm_tr rfl Sm S384
          try rw [jk_m1] at X385
          try rw [jk_m1] at X386
          try rw [X385] at D
          try rw [X386] at D
          show jX m_X6_byParents 16 0 0 52 [(4, .int v6), (3, .int v4), (0, .ref 120), (1, .int a1), (2, .int 2)] [.int v387] _ 0 0 _
          refine x_istore (lsx9 := [(5, .int v387), (4, .int v6), (3, .int v4), (0, .ref 120), (1, .int a1), (2, .int 2)]) rfl rfl rfl ?_
          refine x_iload (x := v387) rfl rfl ?_
          refine x_iconst (v := (-1)) rfl ki_m1 ?_
          refine x_iceq (tgt := 65) rfl rfl (ti_eq rfl jk_m1 ⟨fun c388 => ?_, fun c388 => ?_⟩)
          ·
            rw [if_pos (by omega)] at D
            refine x_aloadn (x := 120) rfl rfl ?_
            refine x_aloadn (x := 120) rfl rfl ?_
            refine z_getR (N := 8) (b := 78) 6 1 rfl f_6_32 rfl J rfl 15361 ⟨rfl, rfl⟩ rfl ?_
            refine x_iloadn (x := v4) rfl rfl ?_
            refine x_iconst (v := 2) rfl ki_2 ?_
            refine z_iadd rfl rfl jk_2 (by omega) (fun v389 ev389 => ?_)
            refine x_inv (N := m_X7_namedSoul) (As := [.int v389]) (b := 78) (st := [.ref 120]) (dx9 := 15) (mc := 0) (ms := 0) (host := "") 7 rfl t_X7_namedSoul ⟨Or.inl q_6_124, i_X7_namedSoul.1, i_X7_namedSoul.2⟩ ⟨by decide, rfl⟩ (congrArg Prod.fst (J.1.1 78 (7, 16) rfl)) rfl (by decide) rfl rfl ⟨by decide, by decide⟩ (jC.of rfl k_X7_namedSoul rfl ?_)
            show jX m_X7_namedSoul 15 0 0 0 [(0, .ref 78), (1, .int v389)] [] _ 0 0 _
            refine x_aloadn (x := 78) rfl rfl ?_
            refine z_getR (N := 16) (b := 70) 7 1 rfl f_7_59 rfl J rfl 9985 ⟨rfl, rfl⟩ rfl ?_
            refine x_iloadn (x := v389) rfl rfl ?_
            refine x_inv (N := m_X5_isNamed) (As := [.int v389]) (b := 70) (st := []) (dx9 := 14) (mc := 0) (ms := 0) (host := "") 5 rfl t_X5_isNamed ⟨Or.inl q_7_173, i_X5_isNamed.1, i_X5_isNamed.2⟩ ⟨by decide, rfl⟩ (congrArg Prod.fst (J.1.1 70 (5, 9) rfl)) rfl (by decide) rfl rfl ⟨by decide, by decide⟩ (jC.of rfl k_X5_isNamed rfl ?_)
            show jX m_X5_isNamed 14 0 0 0 [(0, .ref 70), (1, .int v389)] [] _ 0 0 _
            refine x_aloadn (x := 70) rfl rfl ?_
            refine x_iloadn (x := v389) rfl rfl ?_
            refine x_iconst (v := 0) rfl ki_0 ?_
            refine x_inv (N := m_X5_lengthOf) (As := [.int v389, .int 0]) (b := 70) (st := []) (dx9 := 13) (mc := 0) (ms := 0) (host := "") 5 rfl t_X5_lengthOf ⟨Or.inl q_5_133, i_X5_lengthOf.1, i_X5_lengthOf.2⟩ ⟨by decide, rfl⟩ (congrArg Prod.fst (J.1.1 70 (5, 9) rfl)) rfl (by decide) rfl rfl ⟨by decide, by decide⟩ (jC.of rfl k_X5_lengthOf rfl ?_)
            show jX m_X5_lengthOf 13 0 0 0 [(0, .ref 70), (1, .int v389), (2, .int 0)] [] _ 0 0 _
            refine x_iloadn (x := v389) rfl rfl ?_
            refine x_iconst (v := 2) rfl ki_2 ?_
            refine z_imul rfl rfl jk_2 (by omega) (fun v390 ev390 => ?_)
            refine x_iloadn (x := 0) rfl rfl ?_
            refine z_iadd rfl rfl jk_0 (by omega) (fun v391 ev391 => ?_)
            refine x_istoren (lsx9 := [(3, .int v391), (0, .ref 70), (1, .int v389), (2, .int 0)]) rfl rfl rfl ?_
            refine x_iloadn (x := v391) rfl rfl ?_
            refine x_iflt (tgt := 26) rfl rfl (ti_lt rfl jk_0 (br_f (by omega) ?_))
            refine x_iloadn (x := v391) rfl rfl ?_
            refine x_sipush (v := 1200) rfl ks_1200 ?_
            refine x_icge (tgt := 26) rfl rfl (ti_ge rfl jk_1200 (br_t (by omega) ?_))
            refine x_iconst (v := (-1)) rfl ki_m1 ?_
            refine x_iret rfl rfl ?_
            show jX m_X5_isNamed 14 0 0 6 [(0, .ref 70), (1, .int v389)] [.int (-1)] _ 0 0 _
            refine x_ifge (tgt := 18) rfl rfl (ti_ge jk_m1 jk_0 (br_f (by omega) ?_))
            refine x_aloadn (x := 70) rfl rfl ?_
            refine x_iloadn (x := v389) rfl rfl ?_
            refine x_iconst (v := 1) rfl ki_1 ?_
            refine x_inv (N := m_X5_lengthOf) (As := [.int v389, .int 1]) (b := 70) (st := []) (dx9 := 13) (mc := 0) (ms := 0) (host := "") 5 rfl t_X5_lengthOf ⟨Or.inl q_5_133, i_X5_lengthOf.1, i_X5_lengthOf.2⟩ ⟨by decide, rfl⟩ (congrArg Prod.fst (J.1.1 70 (5, 9) rfl)) rfl (by decide) rfl rfl ⟨by decide, by decide⟩ (jC.of rfl k_X5_lengthOf rfl ?_)
            show jX m_X5_lengthOf 13 0 0 0 [(0, .ref 70), (1, .int v389), (2, .int 1)] [] _ 0 0 _
            refine x_iloadn (x := v389) rfl rfl ?_
            refine x_iconst (v := 2) rfl ki_2 ?_
            refine z_imul rfl rfl jk_2 (by omega) (fun v392 ev392 => ?_)
            refine x_iloadn (x := 1) rfl rfl ?_
            refine z_iadd rfl rfl jk_1 (by omega) (fun v393 ev393 => ?_)
            refine x_istoren (lsx9 := [(3, .int v393), (0, .ref 70), (1, .int v389), (2, .int 1)]) rfl rfl rfl ?_
            refine x_iloadn (x := v393) rfl rfl ?_
            refine x_iflt (tgt := 26) rfl rfl (ti_lt rfl jk_0 (br_f (by omega) ?_))
            refine x_iloadn (x := v393) rfl rfl ?_
            refine x_sipush (v := 1200) rfl ks_1200 ?_
            refine x_icge (tgt := 26) rfl rfl (ti_ge rfl jk_1200 (br_t (by omega) ?_))
            refine x_iconst (v := (-1)) rfl ki_m1 ?_
            refine x_iret rfl rfl ?_
            show jX m_X5_isNamed 14 0 0 15 [(0, .ref 70), (1, .int v389)] [.int (-1)] _ 0 0 _
            refine x_iflt (tgt := 22) rfl rfl (ti_lt jk_m1 jk_0 (br_t (by omega) ?_))
            refine x_iconst (v := 0) rfl ki_0 ?_
            refine x_zret rfl rfl (by decide) ?_
            show jX m_X7_namedSoul 15 0 0 8 [(0, .ref 78), (1, .int v389)] [.int 0] _ 0 0 _
            refine x_ifeq (tgt := 19) rfl rfl (ti_eq jk_0 jk_0 (br_t (by omega) ?_))
            refine x_iconst (v := (-1)) rfl ki_m1 ?_
            refine x_iret rfl rfl ?_
            show jX m_X6_byParents 16 0 0 76 [(5, .int v387), (4, .int v6), (3, .int v4), (0, .ref 120), (1, .int a1), (2, .int 2)] [.int (-1), .ref 120] _ 0 0 _
            refine x_iload (x := v6) rfl rfl ?_
            refine x_iloadn (x := 2) rfl rfl ?_
            refine x_iconst (v := 1) rfl ki_1 ?_
            refine y_iadd (v := 3) rfl (by decide) ?_
            refine x_inv (N := m_X6_belongs) (As := [.int (-1), .int v6, .int 3]) (b := 120) (st := []) (dx9 := 15) (mc := 0) (ms := 0) (host := "") 6 rfl t_X6_belongs ⟨Or.inl q_6_127, i_X6_belongs.1, i_X6_belongs.2⟩ ⟨by decide, rfl⟩ (congrArg Prod.fst (J.1.1 120 (6, 8) rfl)) rfl (by decide) rfl rfl ⟨by decide, by decide⟩ (sf_X6_belongs_r120_c3d (jr_of jk_m1 (by omega)) (jr_of rfl (by omega)) hD J rfl  (fun v397 h ev397 J S394 X395 X396 => ?_))
            have Sm := jSm_tr rfl Sm S394
            try rw [jk_m1] at X395
            try rw [jk_m1] at X396
            try rw [X395] at D
            try rw [X396] at D
            show jX m_X6_byParents 16 0 0 84 [(5, .int v387), (4, .int v6), (3, .int v4), (0, .ref 120), (1, .int a1), (2, .int 2)] [.int v397] _ 0 0 _
            exact jX.sub jsb_n (ct_X6_byParents_r120_c2d_84 hD hQ  v397 h (jr_of rfl (by omega)) J Sm D)
          ·
            rw [if_neg (by omega)] at D
            refine x_iload (x := v387) rfl rfl ?_
            refine x_goto (tgt := 84) rfl rfl ?_
            exact jX.sub jsb_n (ct_X6_byParents_r120_c2d_84 hD hQ  v387 h (jr_of rfl (by omega)) J Sm D)
        ·
          rw [if_neg (by omega)] at D
          refine x_iloadn (x := v7) rfl rfl ?_
          refine x_iconst (v := 3) rfl ki_3 ?_
          refine z_idiv rfl rfl jk_3 (by omega) (by omega) (fun v398 ev398 => ?_)
          refine x_aloadn (x := 78) rfl rfl ?_
          refine z_getR (N := 16) (b := 32) 7 0 rfl f_7_55 rfl J rfl 9984 ⟨rfl, rfl⟩ rfl ?_
          refine z_getR (N := 20) (b := 33) 1 0 rfl f_7_63 rfl J rfl 4096 ⟨rfl, rfl⟩ rfl ?_
          refine z_getI (N := 4) 8 3 rfl f_7_85 rfl J rfl sg_33_3_4_1_0_1 (fun v399 qv399 ev399 => ?_)
          try rw [vrf qv399] at D
          refine x_icge (tgt := 36) rfl rfl (ti_ge rfl rfl ⟨fun c400 => ?_, fun c400 => ?_⟩)
          ·
            rw [if_pos (by omega)] at D
            refine x_iconst (v := (-1)) rfl ki_m1 ?_
            refine x_iret rfl rfl ?_
            show jX m_X7_namedSoul 15 0 0 16 [(0, .ref 78), (1, .int v7)] [.int (-1)] _ 0 0 _
            refine x_goto (tgt := 20) rfl rfl ?_
            refine x_iret rfl rfl ?_
            show jX m_X6_byParents 16 0 0 44 [(4, .int v6), (3, .int v4), (0, .ref 120), (1, .int a1), (2, .int 2)] [.int (-1), .ref 120] _ 0 0 _
            refine x_iload (x := v6) rfl rfl ?_
            refine x_iloadn (x := 2) rfl rfl ?_
            refine x_iconst (v := 1) rfl ki_1 ?_
            refine y_iadd (v := 3) rfl (by decide) ?_
            refine x_inv (N := m_X6_belongs) (As := [.int (-1), .int v6, .int 3]) (b := 120) (st := []) (dx9 := 15) (mc := 0) (ms := 0) (host := "") 6 rfl t_X6_belongs ⟨Or.inl q_6_127, i_X6_belongs.1, i_X6_belongs.2⟩ ⟨by decide, rfl⟩ (congrArg Prod.fst (J.1.1 120 (6, 8) rfl)) rfl (by decide) rfl rfl ⟨by decide, by decide⟩ (sf_X6_belongs_r120_c3d (jr_of jk_m1 (by omega)) (jr_of rfl (by omega)) hD J rfl  (fun v404 h ev404 J S401 X402 X403 => ?_))
            have Sm := jSm_tr rfl Sm S401
            try rw [jk_m1] at X402
            try rw [jk_m1] at X403
            try rw [X402] at D
            try rw [X403] at D
            show jX m_X6_byParents 16 0 0 52 [(4, .int v6), (3, .int v4), (0, .ref 120), (1, .int a1), (2, .int 2)] [.int v404] _ 0 0 _
            refine x_istore (lsx9 := [(5, .int v404), (4, .int v6), (3, .int v4), (0, .ref 120), (1, .int a1), (2, .int 2)]) rfl rfl rfl ?_
            refine x_iload (x := v404) rfl rfl ?_
            refine x_iconst (v := (-1)) rfl ki_m1 ?_
            refine x_iceq (tgt := 65) rfl rfl (ti_eq rfl jk_m1 ⟨fun c405 => ?_, fun c405 => ?_⟩)
            ·
              rw [if_pos (by omega)] at D
              refine x_aloadn (x := 120) rfl rfl ?_
              refine x_aloadn (x := 120) rfl rfl ?_
              refine z_getR (N := 8) (b := 78) 6 1 rfl f_6_32 rfl J rfl 15361 ⟨rfl, rfl⟩ rfl ?_
              refine x_iloadn (x := v4) rfl rfl ?_
              refine x_iconst (v := 2) rfl ki_2 ?_
              refine z_iadd rfl rfl jk_2 (by omega) (fun v406 ev406 => ?_)
              refine x_inv (N := m_X7_namedSoul) (As := [.int v406]) (b := 78) (st := [.ref 120]) (dx9 := 15) (mc := 0) (ms := 0) (host := "") 7 rfl t_X7_namedSoul ⟨Or.inl q_6_124, i_X7_namedSoul.1, i_X7_namedSoul.2⟩ ⟨by decide, rfl⟩ (congrArg Prod.fst (J.1.1 78 (7, 16) rfl)) rfl (by decide) rfl rfl ⟨by decide, by decide⟩ (jC.of rfl k_X7_namedSoul rfl ?_)
              show jX m_X7_namedSoul 15 0 0 0 [(0, .ref 78), (1, .int v406)] [] _ 0 0 _
              refine x_aloadn (x := 78) rfl rfl ?_
              refine z_getR (N := 16) (b := 70) 7 1 rfl f_7_59 rfl J rfl 9985 ⟨rfl, rfl⟩ rfl ?_
              refine x_iloadn (x := v406) rfl rfl ?_
              refine x_inv (N := m_X5_isNamed) (As := [.int v406]) (b := 70) (st := []) (dx9 := 14) (mc := 0) (ms := 0) (host := "") 5 rfl t_X5_isNamed ⟨Or.inl q_7_173, i_X5_isNamed.1, i_X5_isNamed.2⟩ ⟨by decide, rfl⟩ (congrArg Prod.fst (J.1.1 70 (5, 9) rfl)) rfl (by decide) rfl rfl ⟨by decide, by decide⟩ (jC.of rfl k_X5_isNamed rfl ?_)
              show jX m_X5_isNamed 14 0 0 0 [(0, .ref 70), (1, .int v406)] [] _ 0 0 _
              refine x_aloadn (x := 70) rfl rfl ?_
              refine x_iloadn (x := v406) rfl rfl ?_
              refine x_iconst (v := 0) rfl ki_0 ?_
              refine x_inv (N := m_X5_lengthOf) (As := [.int v406, .int 0]) (b := 70) (st := []) (dx9 := 13) (mc := 0) (ms := 0) (host := "") 5 rfl t_X5_lengthOf ⟨Or.inl q_5_133, i_X5_lengthOf.1, i_X5_lengthOf.2⟩ ⟨by decide, rfl⟩ (congrArg Prod.fst (J.1.1 70 (5, 9) rfl)) rfl (by decide) rfl rfl ⟨by decide, by decide⟩ (jC.of rfl k_X5_lengthOf rfl ?_)
              show jX m_X5_lengthOf 13 0 0 0 [(0, .ref 70), (1, .int v406), (2, .int 0)] [] _ 0 0 _
              refine x_iloadn (x := v406) rfl rfl ?_
              refine x_iconst (v := 2) rfl ki_2 ?_
              refine z_imul rfl rfl jk_2 (by omega) (fun v407 ev407 => ?_)
              refine x_iloadn (x := 0) rfl rfl ?_
              refine z_iadd rfl rfl jk_0 (by omega) (fun v408 ev408 => ?_)
              refine x_istoren (lsx9 := [(3, .int v408), (0, .ref 70), (1, .int v406), (2, .int 0)]) rfl rfl rfl ?_
              refine x_iloadn (x := v408) rfl rfl ?_
              refine x_iflt (tgt := 26) rfl rfl (ti_lt rfl jk_0 (br_f (by omega) ?_))
              refine x_iloadn (x := v408) rfl rfl ?_
              refine x_sipush (v := 1200) rfl ks_1200 ?_
              refine x_icge (tgt := 26) rfl rfl (ti_ge rfl jk_1200 ⟨fun c409 => ?_, fun c409 => ?_⟩)
              ·
                rw [if_pos (by omega)] at D
                refine x_iconst (v := (-1)) rfl ki_m1 ?_
                refine x_iret rfl rfl ?_
                show jX m_X5_isNamed 14 0 0 6 [(0, .ref 70), (1, .int v406)] [.int (-1)] _ 0 0 _
                refine x_ifge (tgt := 18) rfl rfl (ti_ge jk_m1 jk_0 (br_f (by omega) ?_))
                refine x_aloadn (x := 70) rfl rfl ?_
                refine x_iloadn (x := v406) rfl rfl ?_
                refine x_iconst (v := 1) rfl ki_1 ?_
                refine x_inv (N := m_X5_lengthOf) (As := [.int v406, .int 1]) (b := 70) (st := []) (dx9 := 13) (mc := 0) (ms := 0) (host := "") 5 rfl t_X5_lengthOf ⟨Or.inl q_5_133, i_X5_lengthOf.1, i_X5_lengthOf.2⟩ ⟨by decide, rfl⟩ (congrArg Prod.fst (J.1.1 70 (5, 9) rfl)) rfl (by decide) rfl rfl ⟨by decide, by decide⟩ (jC.of rfl k_X5_lengthOf rfl ?_)
                show jX m_X5_lengthOf 13 0 0 0 [(0, .ref 70), (1, .int v406), (2, .int 1)] [] _ 0 0 _
                refine x_iloadn (x := v406) rfl rfl ?_
                refine x_iconst (v := 2) rfl ki_2 ?_
                refine z_imul rfl rfl jk_2 (by omega) (fun v410 ev410 => ?_)
                refine x_iloadn (x := 1) rfl rfl ?_
                refine z_iadd rfl rfl jk_1 (by omega) (fun v411 ev411 => ?_)
                refine x_istoren (lsx9 := [(3, .int v411), (0, .ref 70), (1, .int v406), (2, .int 1)]) rfl rfl rfl ?_
                refine x_iloadn (x := v411) rfl rfl ?_
                refine x_iflt (tgt := 26) rfl rfl (ti_lt rfl jk_0 (br_f (by omega) ?_))
                refine x_iloadn (x := v411) rfl rfl ?_
                refine x_sipush (v := 1200) rfl ks_1200 ?_
                refine x_icge (tgt := 26) rfl rfl (ti_ge rfl jk_1200 ⟨fun c412 => ?_, fun c412 => ?_⟩)
                ·
                  rw [if_pos (by omega)] at D
                  refine x_iconst (v := (-1)) rfl ki_m1 ?_
                  refine x_iret rfl rfl ?_
                  show jX m_X5_isNamed 14 0 0 15 [(0, .ref 70), (1, .int v406)] [.int (-1)] _ 0 0 _
                  refine x_iflt (tgt := 22) rfl rfl (ti_lt jk_m1 jk_0 (br_t (by omega) ?_))
                  refine x_iconst (v := 0) rfl ki_0 ?_
                  refine x_zret rfl rfl (by decide) ?_
                  show jX m_X7_namedSoul 15 0 0 8 [(0, .ref 78), (1, .int v406)] [.int 0] _ 0 0 _
                  refine x_ifeq (tgt := 19) rfl rfl (ti_eq jk_0 jk_0 (br_t (by omega) ?_))
                  refine x_iconst (v := (-1)) rfl ki_m1 ?_
                  refine x_iret rfl rfl ?_
                  show jX m_X6_byParents 16 0 0 76 [(5, .int v404), (4, .int v6), (3, .int v4), (0, .ref 120), (1, .int a1), (2, .int 2)] [.int (-1), .ref 120] _ 0 0 _
                  refine x_iload (x := v6) rfl rfl ?_
                  refine x_iloadn (x := 2) rfl rfl ?_
                  refine x_iconst (v := 1) rfl ki_1 ?_
                  refine y_iadd (v := 3) rfl (by decide) ?_
                  refine x_inv (N := m_X6_belongs) (As := [.int (-1), .int v6, .int 3]) (b := 120) (st := []) (dx9 := 15) (mc := 0) (ms := 0) (host := "") 6 rfl t_X6_belongs ⟨Or.inl q_6_127, i_X6_belongs.1, i_X6_belongs.2⟩ ⟨by decide, rfl⟩ (congrArg Prod.fst (J.1.1 120 (6, 8) rfl)) rfl (by decide) rfl rfl ⟨by decide, by decide⟩ (sf_X6_belongs_r120_c3d (jr_of jk_m1 (by omega)) (jr_of rfl (by omega)) hD J rfl  (fun v416 h ev416 J S413 X414 X415 => ?_))
                  have Sm := jSm_tr rfl Sm S413
                  try rw [jk_m1] at X414
                  try rw [jk_m1] at X415
                  try rw [X414] at D
                  try rw [X415] at D
                  show jX m_X6_byParents 16 0 0 84 [(5, .int v404), (4, .int v6), (3, .int v4), (0, .ref 120), (1, .int a1), (2, .int 2)] [.int v416] _ 0 0 _
                  exact jX.sub jsb_n (ct_X6_byParents_r120_c2d_84 hD hQ  v416 h (jr_of rfl (by omega)) J Sm D)
                ·
                  rw [if_neg (by omega)] at D
                  refine x_aloadn (x := 70) rfl rfl ?_
                  refine z_getR (N := 9) (b := 76) 5 7 rfl f_5_28 rfl J rfl 8967 ⟨rfl, rfl⟩ rfl ?_
                  refine x_iloadn (x := v411) rfl rfl ?_
                  refine z_iald (N := 1200) rfl J rfl sg_76_0_1200_1_0_1 rfl (by omega) (fun v417 qv417 ev417 => ?_)
                  try rw [vrd (jmb_c S401 qv417 rfl) (show (((v4.toInt + 2) * 2) + 1) = v411.toInt from by omega)] at D
                  refine x_goto (tgt := 27) rfl rfl ?_
                  refine x_iret rfl rfl ?_
                  show jX m_X5_isNamed 14 0 0 15 [(0, .ref 70), (1, .int v406)] [.int v417] _ 0 0 _
                  refine x_iflt (tgt := 22) rfl rfl (ti_lt rfl jk_0 ⟨fun c418 => ?_, fun c418 => ?_⟩)
                  ·
                    rw [if_pos (by omega)] at D
                    refine x_iconst (v := 0) rfl ki_0 ?_
                    refine x_zret rfl rfl (by decide) ?_
                    show jX m_X7_namedSoul 15 0 0 8 [(0, .ref 78), (1, .int v406)] [.int 0] _ 0 0 _
                    refine x_ifeq (tgt := 19) rfl rfl (ti_eq jk_0 jk_0 (br_t (by omega) ?_))
                    refine x_iconst (v := (-1)) rfl ki_m1 ?_
                    refine x_iret rfl rfl ?_
                    show jX m_X6_byParents 16 0 0 76 [(5, .int v404), (4, .int v6), (3, .int v4), (0, .ref 120), (1, .int a1), (2, .int 2)] [.int (-1), .ref 120] _ 0 0 _
                    refine x_iload (x := v6) rfl rfl ?_
                    refine x_iloadn (x := 2) rfl rfl ?_
                    refine x_iconst (v := 1) rfl ki_1 ?_
                    refine y_iadd (v := 3) rfl (by decide) ?_
                    refine x_inv (N := m_X6_belongs) (As := [.int (-1), .int v6, .int 3]) (b := 120) (st := []) (dx9 := 15) (mc := 0) (ms := 0) (host := "") 6 rfl t_X6_belongs ⟨Or.inl q_6_127, i_X6_belongs.1, i_X6_belongs.2⟩ ⟨by decide, rfl⟩ (congrArg Prod.fst (J.1.1 120 (6, 8) rfl)) rfl (by decide) rfl rfl ⟨by decide, by decide⟩ (sf_X6_belongs_r120_c3d (jr_of jk_m1 (by omega)) (jr_of rfl (by omega)) hD J rfl  (fun v422 h ev422 J S419 X420 X421 => ?_))
                    have Sm := jSm_tr rfl Sm S419
                    try rw [jk_m1] at X420
                    try rw [jk_m1] at X421
                    try rw [X420] at D
                    try rw [X421] at D
                    show jX m_X6_byParents 16 0 0 84 [(5, .int v404), (4, .int v6), (3, .int v4), (0, .ref 120), (1, .int a1), (2, .int 2)] [.int v422] _ 0 0 _
                    exact jX.sub jsb_n (ct_X6_byParents_r120_c2d_84 hD hQ  v422 h (jr_of rfl (by omega)) J Sm D)
                  ·
                    rw [if_neg (by omega)] at D
                    refine x_iconst (v := 1) rfl ki_1 ?_
                    refine x_goto (tgt := 23) rfl rfl ?_
                    refine x_zret rfl rfl (by decide) ?_
                    show jX m_X7_namedSoul 15 0 0 8 [(0, .ref 78), (1, .int v406)] [.int 1] _ 0 0 _
                    refine x_ifeq (tgt := 19) rfl rfl (ti_eq jk_1 jk_0 (br_f (by omega) ?_))
                    refine x_aloadn (x := 78) rfl rfl ?_
                    refine x_iloadn (x := v406) rfl rfl ?_
                    refine x_inv (N := m_X7_soulAt) (As := [.int v406]) (b := 78) (st := []) (dx9 := 14) (mc := 0) (ms := 0) (host := "") 7 rfl t_X7_soulAt ⟨Or.inl q_7_153, i_X7_soulAt.1, i_X7_soulAt.2⟩ ⟨by decide, rfl⟩ (congrArg Prod.fst (J.1.1 78 (7, 16) rfl)) rfl (by decide) rfl rfl ⟨by decide, by decide⟩ (jC.of rfl k_X7_soulAt rfl ?_)
                    show jX m_X7_soulAt 14 0 0 0 [(0, .ref 78), (1, .int v406)] [] _ 0 0 _
                    refine x_iloadn (x := v406) rfl rfl ?_
                    refine x_iflt (tgt := 36) rfl rfl (ti_lt rfl jk_0 (br_f (by omega) ?_))
                    refine x_iloadn (x := v406) rfl rfl ?_
                    refine x_sipush (v := 600) rfl ks_600 ?_
                    refine x_icge (tgt := 36) rfl rfl (ti_ge rfl jk_600 ⟨fun c423 => ?_, fun c423 => ?_⟩)
                    ·
                      rw [if_pos (by omega)] at D
                      refine x_iconst (v := (-1)) rfl ki_m1 ?_
                      refine x_iret rfl rfl ?_
                      show jX m_X7_namedSoul 15 0 0 16 [(0, .ref 78), (1, .int v406)] [.int (-1)] _ 0 0 _
                      refine x_goto (tgt := 20) rfl rfl ?_
                      refine x_iret rfl rfl ?_
                      show jX m_X6_byParents 16 0 0 76 [(5, .int v404), (4, .int v6), (3, .int v4), (0, .ref 120), (1, .int a1), (2, .int 2)] [.int (-1), .ref 120] _ 0 0 _
                      refine x_iload (x := v6) rfl rfl ?_
                      refine x_iloadn (x := 2) rfl rfl ?_
                      refine x_iconst (v := 1) rfl ki_1 ?_
                      refine y_iadd (v := 3) rfl (by decide) ?_
                      refine x_inv (N := m_X6_belongs) (As := [.int (-1), .int v6, .int 3]) (b := 120) (st := []) (dx9 := 15) (mc := 0) (ms := 0) (host := "") 6 rfl t_X6_belongs ⟨Or.inl q_6_127, i_X6_belongs.1, i_X6_belongs.2⟩ ⟨by decide, rfl⟩ (congrArg Prod.fst (J.1.1 120 (6, 8) rfl)) rfl (by decide) rfl rfl ⟨by decide, by decide⟩ (sf_X6_belongs_r120_c3d (jr_of jk_m1 (by omega)) (jr_of rfl (by omega)) hD J rfl  (fun v427 h ev427 J S424 X425 X426 => ?_))
                      have Sm := jSm_tr rfl Sm S424
                      try rw [jk_m1] at X425
                      try rw [jk_m1] at X426
                      try rw [X425] at D
                      try rw [X426] at D
                      show jX m_X6_byParents 16 0 0 84 [(5, .int v404), (4, .int v6), (3, .int v4), (0, .ref 120), (1, .int a1), (2, .int 2)] [.int v427] _ 0 0 _
                      exact jX.sub jsb_n (ct_X6_byParents_r120_c2d_84 hD hQ  v427 h (jr_of rfl (by omega)) J Sm D)
                    ·
                      rw [if_neg (by omega)] at D
                      refine x_iloadn (x := v406) rfl rfl ?_
                      refine x_iconst (v := 3) rfl ki_3 ?_
                      refine z_idiv rfl rfl jk_3 (by omega) (by omega) (fun v428 ev428 => ?_)
                      refine x_aloadn (x := 78) rfl rfl ?_
                      refine z_getR (N := 16) (b := 32) 7 0 rfl f_7_55 rfl J rfl 9984 ⟨rfl, rfl⟩ rfl ?_
                      refine z_getR (N := 20) (b := 33) 1 0 rfl f_7_63 rfl J rfl 4096 ⟨rfl, rfl⟩ rfl ?_
                      refine z_getM (N := 4) (v := v399) 8 3 rfl f_7_85 rfl J rfl (jmc S401 rfl qv399) ?_
                      refine x_icge (tgt := 36) rfl rfl (ti_ge rfl rfl ⟨fun c429 => ?_, fun c429 => ?_⟩)
                      ·
                        rw [if_pos (by omega)] at D
                        refine x_iconst (v := (-1)) rfl ki_m1 ?_
                        refine x_iret rfl rfl ?_
                        show jX m_X7_namedSoul 15 0 0 16 [(0, .ref 78), (1, .int v406)] [.int (-1)] _ 0 0 _
                        refine x_goto (tgt := 20) rfl rfl ?_
                        refine x_iret rfl rfl ?_
                        show jX m_X6_byParents 16 0 0 76 [(5, .int v404), (4, .int v6), (3, .int v4), (0, .ref 120), (1, .int a1), (2, .int 2)] [.int (-1), .ref 120] _ 0 0 _
                        refine x_iload (x := v6) rfl rfl ?_
                        refine x_iloadn (x := 2) rfl rfl ?_
                        refine x_iconst (v := 1) rfl ki_1 ?_
                        refine y_iadd (v := 3) rfl (by decide) ?_
                        refine x_inv (N := m_X6_belongs) (As := [.int (-1), .int v6, .int 3]) (b := 120) (st := []) (dx9 := 15) (mc := 0) (ms := 0) (host := "") 6 rfl t_X6_belongs ⟨Or.inl q_6_127, i_X6_belongs.1, i_X6_belongs.2⟩ ⟨by decide, rfl⟩ (congrArg Prod.fst (J.1.1 120 (6, 8) rfl)) rfl (by decide) rfl rfl ⟨by decide, by decide⟩ (sf_X6_belongs_r120_c3d (jr_of jk_m1 (by omega)) (jr_of rfl (by omega)) hD J rfl  (fun v433 h ev433 J S430 X431 X432 => ?_))
                        have Sm := jSm_tr rfl Sm S430
                        try rw [jk_m1] at X431
                        try rw [jk_m1] at X432
                        try rw [X431] at D
                        try rw [X432] at D
                        show jX m_X6_byParents 16 0 0 84 [(5, .int v404), (4, .int v6), (3, .int v4), (0, .ref 120), (1, .int a1), (2, .int 2)] [.int v433] _ 0 0 _
                        exact jX.sub jsb_n (ct_X6_byParents_r120_c2d_84 hD hQ  v433 h (jr_of rfl (by omega)) J Sm D)
                      ·
                        rw [if_neg (by omega)] at D
                        refine x_aloadn (x := 78) rfl rfl ?_
                        refine z_getR (N := 16) (b := 82) 7 10 rfl f_7_37 rfl J rfl 9994 ⟨rfl, rfl⟩ rfl ?_
                        refine x_iloadn (x := v406) rfl rfl ?_
                        refine z_iald (N := 600) rfl J rfl sg_82_0_600_1_0_1 rfl (by omega) (fun v434 qv434 ev434 => ?_)
                        try rw [vrd (jmb_c S401 qv434 rfl) (show (v4.toInt + 2) = v406.toInt from by omega)] at D
                        refine x_goto (tgt := 37) rfl rfl ?_
                        refine x_iret rfl rfl ?_
                        show jX m_X7_namedSoul 15 0 0 16 [(0, .ref 78), (1, .int v406)] [.int v434] _ 0 0 _
                        refine x_goto (tgt := 20) rfl rfl ?_
                        refine x_iret rfl rfl ?_
                        show jX m_X6_byParents 16 0 0 76 [(5, .int v404), (4, .int v6), (3, .int v4), (0, .ref 120), (1, .int a1), (2, .int 2)] [.int v434, .ref 120] _ 0 0 _
                        refine x_iload (x := v6) rfl rfl ?_
                        refine x_iloadn (x := 2) rfl rfl ?_
                        refine x_iconst (v := 1) rfl ki_1 ?_
                        refine y_iadd (v := 3) rfl (by decide) ?_
                        refine x_inv (N := m_X6_belongs) (As := [.int v434, .int v6, .int 3]) (b := 120) (st := []) (dx9 := 15) (mc := 0) (ms := 0) (host := "") 6 rfl t_X6_belongs ⟨Or.inl q_6_127, i_X6_belongs.1, i_X6_belongs.2⟩ ⟨by decide, rfl⟩ (congrArg Prod.fst (J.1.1 120 (6, 8) rfl)) rfl (by decide) rfl rfl ⟨by decide, by decide⟩ (sf_X6_belongs_r120_c3d (jr_of rfl (by omega)) (jr_of rfl (by omega)) hD J rfl  (fun v438 h ev438 J S435 X436 X437 => ?_))
                        have Sm := jSm_tr rfl Sm S435
                        try rw [X436] at D
                        try rw [X437] at D
                        show jX m_X6_byParents 16 0 0 84 [(5, .int v404), (4, .int v6), (3, .int v4), (0, .ref 120), (1, .int a1), (2, .int 2)] [.int v438] _ 0 0 _
                        exact jX.sub jsb_n (ct_X6_byParents_r120_c2d_84 hD hQ  v438 h (jr_of rfl (by omega)) J Sm D)
              ·
                rw [if_neg (by omega)] at D
                refine x_aloadn (x := 70) rfl rfl ?_
                refine z_getR (N := 9) (b := 76) 5 7 rfl f_5_28 rfl J rfl 8967 ⟨rfl, rfl⟩ rfl ?_
                refine x_iloadn (x := v408) rfl rfl ?_
                refine z_iald (N := 1200) rfl J rfl sg_76_0_1200_1_0_1 rfl (by omega) (fun v439 qv439 ev439 => ?_)
                try rw [vrd (jmb_c S401 qv439 rfl) (show (((v4.toInt + 2) * 2) + 0) = v408.toInt from by omega)] at D
                refine x_goto (tgt := 27) rfl rfl ?_
                refine x_iret rfl rfl ?_
                show jX m_X5_isNamed 14 0 0 6 [(0, .ref 70), (1, .int v406)] [.int v439] _ 0 0 _
                refine x_ifge (tgt := 18) rfl rfl (ti_ge rfl jk_0 ⟨fun c440 => ?_, fun c440 => ?_⟩)
                ·
                  rw [if_pos (by omega)] at D
                  refine x_iconst (v := 1) rfl ki_1 ?_
                  refine x_goto (tgt := 23) rfl rfl ?_
                  refine x_zret rfl rfl (by decide) ?_
                  show jX m_X7_namedSoul 15 0 0 8 [(0, .ref 78), (1, .int v406)] [.int 1] _ 0 0 _
                  refine x_ifeq (tgt := 19) rfl rfl (ti_eq jk_1 jk_0 (br_f (by omega) ?_))
                  refine x_aloadn (x := 78) rfl rfl ?_
                  refine x_iloadn (x := v406) rfl rfl ?_
                  refine x_inv (N := m_X7_soulAt) (As := [.int v406]) (b := 78) (st := []) (dx9 := 14) (mc := 0) (ms := 0) (host := "") 7 rfl t_X7_soulAt ⟨Or.inl q_7_153, i_X7_soulAt.1, i_X7_soulAt.2⟩ ⟨by decide, rfl⟩ (congrArg Prod.fst (J.1.1 78 (7, 16) rfl)) rfl (by decide) rfl rfl ⟨by decide, by decide⟩ (jC.of rfl k_X7_soulAt rfl ?_)
                  show jX m_X7_soulAt 14 0 0 0 [(0, .ref 78), (1, .int v406)] [] _ 0 0 _
                  refine x_iloadn (x := v406) rfl rfl ?_
                  refine x_iflt (tgt := 36) rfl rfl (ti_lt rfl jk_0 (br_f (by omega) ?_))
                  refine x_iloadn (x := v406) rfl rfl ?_
                  refine x_sipush (v := 600) rfl ks_600 ?_
                  refine x_icge (tgt := 36) rfl rfl (ti_ge rfl jk_600 ⟨fun c441 => ?_, fun c441 => ?_⟩)
                  ·
                    rw [if_pos (by omega)] at D
                    refine x_iconst (v := (-1)) rfl ki_m1 ?_
                    refine x_iret rfl rfl ?_
                    show jX m_X7_namedSoul 15 0 0 16 [(0, .ref 78), (1, .int v406)] [.int (-1)] _ 0 0 _
                    refine x_goto (tgt := 20) rfl rfl ?_
                    refine x_iret rfl rfl ?_
                    show jX m_X6_byParents 16 0 0 76 [(5, .int v404), (4, .int v6), (3, .int v4), (0, .ref 120), (1, .int a1), (2, .int 2)] [.int (-1), .ref 120] _ 0 0 _
                    refine x_iload (x := v6) rfl rfl ?_
                    refine x_iloadn (x := 2) rfl rfl ?_
                    refine x_iconst (v := 1) rfl ki_1 ?_
                    refine y_iadd (v := 3) rfl (by decide) ?_
                    refine x_inv (N := m_X6_belongs) (As := [.int (-1), .int v6, .int 3]) (b := 120) (st := []) (dx9 := 15) (mc := 0) (ms := 0) (host := "") 6 rfl t_X6_belongs ⟨Or.inl q_6_127, i_X6_belongs.1, i_X6_belongs.2⟩ ⟨by decide, rfl⟩ (congrArg Prod.fst (J.1.1 120 (6, 8) rfl)) rfl (by decide) rfl rfl ⟨by decide, by decide⟩ (sf_X6_belongs_r120_c3d (jr_of jk_m1 (by omega)) (jr_of rfl (by omega)) hD J rfl  (fun v445 h ev445 J S442 X443 X444 => ?_))
                    have Sm := jSm_tr rfl Sm S442
                    try rw [jk_m1] at X443
                    try rw [jk_m1] at X444
                    try rw [X443] at D
                    try rw [X444] at D
                    show jX m_X6_byParents 16 0 0 84 [(5, .int v404), (4, .int v6), (3, .int v4), (0, .ref 120), (1, .int a1), (2, .int 2)] [.int v445] _ 0 0 _
                    exact jX.sub jsb_n (ct_X6_byParents_r120_c2d_84 hD hQ  v445 h (jr_of rfl (by omega)) J Sm D)
                  ·
                    rw [if_neg (by omega)] at D
                    refine x_iloadn (x := v406) rfl rfl ?_
                    refine x_iconst (v := 3) rfl ki_3 ?_
                    refine z_idiv rfl rfl jk_3 (by omega) (by omega) (fun v446 ev446 => ?_)
                    refine x_aloadn (x := 78) rfl rfl ?_
                    refine z_getR (N := 16) (b := 32) 7 0 rfl f_7_55 rfl J rfl 9984 ⟨rfl, rfl⟩ rfl ?_
                    refine z_getR (N := 20) (b := 33) 1 0 rfl f_7_63 rfl J rfl 4096 ⟨rfl, rfl⟩ rfl ?_
                    refine z_getM (N := 4) (v := v399) 8 3 rfl f_7_85 rfl J rfl (jmc S401 rfl qv399) ?_
                    refine x_icge (tgt := 36) rfl rfl (ti_ge rfl rfl ⟨fun c447 => ?_, fun c447 => ?_⟩)
                    ·
                      rw [if_pos (by omega)] at D
                      refine x_iconst (v := (-1)) rfl ki_m1 ?_
                      refine x_iret rfl rfl ?_
                      show jX m_X7_namedSoul 15 0 0 16 [(0, .ref 78), (1, .int v406)] [.int (-1)] _ 0 0 _
                      refine x_goto (tgt := 20) rfl rfl ?_
                      refine x_iret rfl rfl ?_
                      show jX m_X6_byParents 16 0 0 76 [(5, .int v404), (4, .int v6), (3, .int v4), (0, .ref 120), (1, .int a1), (2, .int 2)] [.int (-1), .ref 120] _ 0 0 _
                      refine x_iload (x := v6) rfl rfl ?_
                      refine x_iloadn (x := 2) rfl rfl ?_
                      refine x_iconst (v := 1) rfl ki_1 ?_
                      refine y_iadd (v := 3) rfl (by decide) ?_
                      refine x_inv (N := m_X6_belongs) (As := [.int (-1), .int v6, .int 3]) (b := 120) (st := []) (dx9 := 15) (mc := 0) (ms := 0) (host := "") 6 rfl t_X6_belongs ⟨Or.inl q_6_127, i_X6_belongs.1, i_X6_belongs.2⟩ ⟨by decide, rfl⟩ (congrArg Prod.fst (J.1.1 120 (6, 8) rfl)) rfl (by decide) rfl rfl ⟨by decide, by decide⟩ (sf_X6_belongs_r120_c3d (jr_of jk_m1 (by omega)) (jr_of rfl (by omega)) hD J rfl  (fun v451 h ev451 J S448 X449 X450 => ?_))
                      have Sm := jSm_tr rfl Sm S448
                      try rw [jk_m1] at X449
                      try rw [jk_m1] at X450
                      try rw [X449] at D
                      try rw [X450] at D
                      show jX m_X6_byParents 16 0 0 84 [(5, .int v404), (4, .int v6), (3, .int v4), (0, .ref 120), (1, .int a1), (2, .int 2)] [.int v451] _ 0 0 _
                      exact jX.sub jsb_n (ct_X6_byParents_r120_c2d_84 hD hQ  v451 h (jr_of rfl (by omega)) J Sm D)
                    ·
                      rw [if_neg (by omega)] at D
                      refine x_aloadn (x := 78) rfl rfl ?_
                      refine z_getR (N := 16) (b := 82) 7 10 rfl f_7_37 rfl J rfl 9994 ⟨rfl, rfl⟩ rfl ?_
                      refine x_iloadn (x := v406) rfl rfl ?_
                      refine z_iald (N := 600) rfl J rfl sg_82_0_600_1_0_1 rfl (by omega) (fun v452 qv452 ev452 => ?_)
                      try rw [vrd (jmb_c S401 qv452 rfl) (show (v4.toInt + 2) = v406.toInt from by omega)] at D
                      refine x_goto (tgt := 37) rfl rfl ?_
                      refine x_iret rfl rfl ?_
                      show jX m_X7_namedSoul 15 0 0 16 [(0, .ref 78), (1, .int v406)] [.int v452] _ 0 0 _
                      refine x_goto (tgt := 20) rfl rfl ?_
                      refine x_iret rfl rfl ?_
                      show jX m_X6_byParents 16 0 0 76 [(5, .int v404), (4, .int v6), (3, .int v4), (0, .ref 120), (1, .int a1), (2, .int 2)] [.int v452, .ref 120] _ 0 0 _
                      refine x_iload (x := v6) rfl rfl ?_
                      refine x_iloadn (x := 2) rfl rfl ?_
                      refine x_iconst (v := 1) rfl ki_1 ?_
                      refine y_iadd (v := 3) rfl (by decide) ?_
                      refine x_inv (N := m_X6_belongs) (As := [.int v452, .int v6, .int 3]) (b := 120) (st := []) (dx9 := 15) (mc := 0) (ms := 0) (host := "") 6 rfl t_X6_belongs ⟨Or.inl q_6_127, i_X6_belongs.1, i_X6_belongs.2⟩ ⟨by decide, rfl⟩ (congrArg Prod.fst (J.1.1 120 (6, 8) rfl)) rfl (by decide) rfl rfl ⟨by decide, by decide⟩ (sf_X6_belongs_r120_c3d (jr_of rfl (by omega)) (jr_of rfl (by omega)) hD J rfl  (fun v456 h ev456 J S453 X454 X455 => ?_))
                      have Sm := jSm_tr rfl Sm S453
                      try rw [X454] at D
                      try rw [X455] at D
                      show jX m_X6_byParents 16 0 0 84 [(5, .int v404), (4, .int v6), (3, .int v4), (0, .ref 120), (1, .int a1), (2, .int 2)] [.int v456] _ 0 0 _
                      exact jX.sub jsb_n (ct_X6_byParents_r120_c2d_84 hD hQ  v456 h (jr_of rfl (by omega)) J Sm D)
                ·
                  rw [if_neg (by omega)] at D
                  refine x_aloadn (x := 70) rfl rfl ?_
                  refine x_iloadn (x := v406) rfl rfl ?_
                  refine x_iconst (v := 1) rfl ki_1 ?_
                  refine x_inv (N := m_X5_lengthOf) (As := [.int v406, .int 1]) (b := 70) (st := []) (dx9 := 13) (mc := 0) (ms := 0) (host := "") 5 rfl t_X5_lengthOf ⟨Or.inl q_5_133, i_X5_lengthOf.1, i_X5_lengthOf.2⟩ ⟨by decide, rfl⟩ (congrArg Prod.fst (J.1.1 70 (5, 9) rfl)) rfl (by decide) rfl rfl ⟨by decide, by decide⟩ (jC.of rfl k_X5_lengthOf rfl ?_)
                  show jX m_X5_lengthOf 13 0 0 0 [(0, .ref 70), (1, .int v406), (2, .int 1)] [] _ 0 0 _
                  refine x_iloadn (x := v406) rfl rfl ?_
                  refine x_iconst (v := 2) rfl ki_2 ?_
                  refine z_imul rfl rfl jk_2 (by omega) (fun v457 ev457 => ?_)
                  refine x_iloadn (x := 1) rfl rfl ?_
                  refine z_iadd rfl rfl jk_1 (by omega) (fun v458 ev458 => ?_)
                  refine x_istoren (lsx9 := [(3, .int v458), (0, .ref 70), (1, .int v406), (2, .int 1)]) rfl rfl rfl ?_
                  refine x_iloadn (x := v458) rfl rfl ?_
                  refine x_iflt (tgt := 26) rfl rfl (ti_lt rfl jk_0 (br_f (by omega) ?_))
                  refine x_iloadn (x := v458) rfl rfl ?_
                  refine x_sipush (v := 1200) rfl ks_1200 ?_
                  refine x_icge (tgt := 26) rfl rfl (ti_ge rfl jk_1200 ⟨fun c459 => ?_, fun c459 => ?_⟩)
                  ·
                    rw [if_pos (by omega)] at D
                    refine x_iconst (v := (-1)) rfl ki_m1 ?_
                    refine x_iret rfl rfl ?_
                    show jX m_X5_isNamed 14 0 0 15 [(0, .ref 70), (1, .int v406)] [.int (-1)] _ 0 0 _
                    refine x_iflt (tgt := 22) rfl rfl (ti_lt jk_m1 jk_0 (br_t (by omega) ?_))
                    refine x_iconst (v := 0) rfl ki_0 ?_
                    refine x_zret rfl rfl (by decide) ?_
                    show jX m_X7_namedSoul 15 0 0 8 [(0, .ref 78), (1, .int v406)] [.int 0] _ 0 0 _
                    refine x_ifeq (tgt := 19) rfl rfl (ti_eq jk_0 jk_0 (br_t (by omega) ?_))
                    refine x_iconst (v := (-1)) rfl ki_m1 ?_
                    refine x_iret rfl rfl ?_
                    show jX m_X6_byParents 16 0 0 76 [(5, .int v404), (4, .int v6), (3, .int v4), (0, .ref 120), (1, .int a1), (2, .int 2)] [.int (-1), .ref 120] _ 0 0 _
                    refine x_iload (x := v6) rfl rfl ?_
                    refine x_iloadn (x := 2) rfl rfl ?_
                    refine x_iconst (v := 1) rfl ki_1 ?_
                    refine y_iadd (v := 3) rfl (by decide) ?_
                    refine x_inv (N := m_X6_belongs) (As := [.int (-1), .int v6, .int 3]) (b := 120) (st := []) (dx9 := 15) (mc := 0) (ms := 0) (host := "") 6 rfl t_X6_belongs ⟨Or.inl q_6_127, i_X6_belongs.1, i_X6_belongs.2⟩ ⟨by decide, rfl⟩ (congrArg Prod.fst (J.1.1 120 (6, 8) rfl)) rfl (by decide) rfl rfl ⟨by decide, by decide⟩ (sf_X6_belongs_r120_c3d (jr_of jk_m1 (by omega)) (jr_of rfl (by omega)) hD J rfl  (fun v463 h ev463 J S460 X461 X462 => ?_))
                    have Sm := jSm_tr rfl Sm S460
                    try rw [jk_m1] at X461
                    try rw [jk_m1] at X462
                    try rw [X461] at D
                    try rw [X462] at D
                    show jX m_X6_byParents 16 0 0 84 [(5, .int v404), (4, .int v6), (3, .int v4), (0, .ref 120), (1, .int a1), (2, .int 2)] [.int v463] _ 0 0 _
                    exact jX.sub jsb_n (ct_X6_byParents_r120_c2d_84 hD hQ  v463 h (jr_of rfl (by omega)) J Sm D)
                  ·
                    rw [if_neg (by omega)] at D
                    refine x_aloadn (x := 70) rfl rfl ?_
                    refine z_getR (N := 9) (b := 76) 5 7 rfl f_5_28 rfl J rfl 8967 ⟨rfl, rfl⟩ rfl ?_
                    refine x_iloadn (x := v458) rfl rfl ?_
                    refine z_iald (N := 1200) rfl J rfl sg_76_0_1200_1_0_1 rfl (by omega) (fun v464 qv464 ev464 => ?_)
                    try rw [vrd (jmb_c S401 qv464 rfl) (show (((v4.toInt + 2) * 2) + 1) = v458.toInt from by omega)] at D
                    refine x_goto (tgt := 27) rfl rfl ?_
                    refine x_iret rfl rfl ?_
                    show jX m_X5_isNamed 14 0 0 15 [(0, .ref 70), (1, .int v406)] [.int v464] _ 0 0 _
                    refine x_iflt (tgt := 22) rfl rfl (ti_lt rfl jk_0 ⟨fun c465 => ?_, fun c465 => ?_⟩)
                    ·
                      rw [if_pos (by omega)] at D
                      refine x_iconst (v := 0) rfl ki_0 ?_
                      refine x_zret rfl rfl (by decide) ?_
                      show jX m_X7_namedSoul 15 0 0 8 [(0, .ref 78), (1, .int v406)] [.int 0] _ 0 0 _
                      refine x_ifeq (tgt := 19) rfl rfl (ti_eq jk_0 jk_0 (br_t (by omega) ?_))
                      refine x_iconst (v := (-1)) rfl ki_m1 ?_
                      refine x_iret rfl rfl ?_
                      show jX m_X6_byParents 16 0 0 76 [(5, .int v404), (4, .int v6), (3, .int v4), (0, .ref 120), (1, .int a1), (2, .int 2)] [.int (-1), .ref 120] _ 0 0 _
                      refine x_iload (x := v6) rfl rfl ?_
                      refine x_iloadn (x := 2) rfl rfl ?_
                      refine x_iconst (v := 1) rfl ki_1 ?_
                      refine y_iadd (v := 3) rfl (by decide) ?_
                      refine x_inv (N := m_X6_belongs) (As := [.int (-1), .int v6, .int 3]) (b := 120) (st := []) (dx9 := 15) (mc := 0) (ms := 0) (host := "") 6 rfl t_X6_belongs ⟨Or.inl q_6_127, i_X6_belongs.1, i_X6_belongs.2⟩ ⟨by decide, rfl⟩ (congrArg Prod.fst (J.1.1 120 (6, 8) rfl)) rfl (by decide) rfl rfl ⟨by decide, by decide⟩ (sf_X6_belongs_r120_c3d (jr_of jk_m1 (by omega)) (jr_of rfl (by omega)) hD J rfl  (fun v469 h ev469 J S466 X467 X468 => ?_))
                      have Sm := jSm_tr rfl Sm S466
                      try rw [jk_m1] at X467
                      try rw [jk_m1] at X468
                      try rw [X467] at D
                      try rw [X468] at D
                      show jX m_X6_byParents 16 0 0 84 [(5, .int v404), (4, .int v6), (3, .int v4), (0, .ref 120), (1, .int a1), (2, .int 2)] [.int v469] _ 0 0 _
                      exact jX.sub jsb_n (ct_X6_byParents_r120_c2d_84 hD hQ  v469 h (jr_of rfl (by omega)) J Sm D)
                    ·
                      rw [if_neg (by omega)] at D
                      refine x_iconst (v := 1) rfl ki_1 ?_
                      refine x_goto (tgt := 23) rfl rfl ?_
                      refine x_zret rfl rfl (by decide) ?_
                      show jX m_X7_namedSoul 15 0 0 8 [(0, .ref 78), (1, .int v406)] [.int 1] _ 0 0 _
                      refine x_ifeq (tgt := 19) rfl rfl (ti_eq jk_1 jk_0 (br_f (by omega) ?_))
                      refine x_aloadn (x := 78) rfl rfl ?_
                      refine x_iloadn (x := v406) rfl rfl ?_
                      refine x_inv (N := m_X7_soulAt) (As := [.int v406]) (b := 78) (st := []) (dx9 := 14) (mc := 0) (ms := 0) (host := "") 7 rfl t_X7_soulAt ⟨Or.inl q_7_153, i_X7_soulAt.1, i_X7_soulAt.2⟩ ⟨by decide, rfl⟩ (congrArg Prod.fst (J.1.1 78 (7, 16) rfl)) rfl (by decide) rfl rfl ⟨by decide, by decide⟩ (jC.of rfl k_X7_soulAt rfl ?_)
                      show jX m_X7_soulAt 14 0 0 0 [(0, .ref 78), (1, .int v406)] [] _ 0 0 _
                      refine x_iloadn (x := v406) rfl rfl ?_
                      refine x_iflt (tgt := 36) rfl rfl (ti_lt rfl jk_0 (br_f (by omega) ?_))
                      refine x_iloadn (x := v406) rfl rfl ?_
                      refine x_sipush (v := 600) rfl ks_600 ?_
                      refine x_icge (tgt := 36) rfl rfl (ti_ge rfl jk_600 ⟨fun c470 => ?_, fun c470 => ?_⟩)
                      ·
                        rw [if_pos (by omega)] at D
                        refine x_iconst (v := (-1)) rfl ki_m1 ?_
                        refine x_iret rfl rfl ?_
                        show jX m_X7_namedSoul 15 0 0 16 [(0, .ref 78), (1, .int v406)] [.int (-1)] _ 0 0 _
                        refine x_goto (tgt := 20) rfl rfl ?_
                        refine x_iret rfl rfl ?_
                        show jX m_X6_byParents 16 0 0 76 [(5, .int v404), (4, .int v6), (3, .int v4), (0, .ref 120), (1, .int a1), (2, .int 2)] [.int (-1), .ref 120] _ 0 0 _
                        refine x_iload (x := v6) rfl rfl ?_
                        refine x_iloadn (x := 2) rfl rfl ?_
                        refine x_iconst (v := 1) rfl ki_1 ?_
                        refine y_iadd (v := 3) rfl (by decide) ?_
                        refine x_inv (N := m_X6_belongs) (As := [.int (-1), .int v6, .int 3]) (b := 120) (st := []) (dx9 := 15) (mc := 0) (ms := 0) (host := "") 6 rfl t_X6_belongs ⟨Or.inl q_6_127, i_X6_belongs.1, i_X6_belongs.2⟩ ⟨by decide, rfl⟩ (congrArg Prod.fst (J.1.1 120 (6, 8) rfl)) rfl (by decide) rfl rfl ⟨by decide, by decide⟩ (sf_X6_belongs_r120_c3d (jr_of jk_m1 (by omega)) (jr_of rfl (by omega)) hD J rfl  (fun v474 h ev474 J S471 X472 X473 => ?_))
                        have Sm := jSm_tr rfl Sm S471
                        try rw [jk_m1] at X472
                        try rw [jk_m1] at X473
                        try rw [X472] at D
                        try rw [X473] at D
                        show jX m_X6_byParents 16 0 0 84 [(5, .int v404), (4, .int v6), (3, .int v4), (0, .ref 120), (1, .int a1), (2, .int 2)] [.int v474] _ 0 0 _
                        exact jX.sub jsb_n (ct_X6_byParents_r120_c2d_84 hD hQ  v474 h (jr_of rfl (by omega)) J Sm D)
                      ·
                        rw [if_neg (by omega)] at D
                        refine x_iloadn (x := v406) rfl rfl ?_
                        refine x_iconst (v := 3) rfl ki_3 ?_
                        refine z_idiv rfl rfl jk_3 (by omega) (by omega) (fun v475 ev475 => ?_)
                        refine x_aloadn (x := 78) rfl rfl ?_
                        refine z_getR (N := 16) (b := 32) 7 0 rfl f_7_55 rfl J rfl 9984 ⟨rfl, rfl⟩ rfl ?_
                        refine z_getR (N := 20) (b := 33) 1 0 rfl f_7_63 rfl J rfl 4096 ⟨rfl, rfl⟩ rfl ?_
                        refine z_getM (N := 4) (v := v399) 8 3 rfl f_7_85 rfl J rfl (jmc S401 rfl qv399) ?_
                        refine x_icge (tgt := 36) rfl rfl (ti_ge rfl rfl ⟨fun c476 => ?_, fun c476 => ?_⟩)
                        ·
                          rw [if_pos (by omega)] at D
                          refine x_iconst (v := (-1)) rfl ki_m1 ?_
                          refine x_iret rfl rfl ?_
                          show jX m_X7_namedSoul 15 0 0 16 [(0, .ref 78), (1, .int v406)] [.int (-1)] _ 0 0 _
                          refine x_goto (tgt := 20) rfl rfl ?_
                          refine x_iret rfl rfl ?_
                          show jX m_X6_byParents 16 0 0 76 [(5, .int v404), (4, .int v6), (3, .int v4), (0, .ref 120), (1, .int a1), (2, .int 2)] [.int (-1), .ref 120] _ 0 0 _
                          refine x_iload (x := v6) rfl rfl ?_
                          refine x_iloadn (x := 2) rfl rfl ?_
                          refine x_iconst (v := 1) rfl ki_1 ?_
                          refine y_iadd (v := 3) rfl (by decide) ?_
                          refine x_inv (N := m_X6_belongs) (As := [.int (-1), .int v6, .int 3]) (b := 120) (st := []) (dx9 := 15) (mc := 0) (ms := 0) (host := "") 6 rfl t_X6_belongs ⟨Or.inl q_6_127, i_X6_belongs.1, i_X6_belongs.2⟩ ⟨by decide, rfl⟩ (congrArg Prod.fst (J.1.1 120 (6, 8) rfl)) rfl (by decide) rfl rfl ⟨by decide, by decide⟩ (sf_X6_belongs_r120_c3d (jr_of jk_m1 (by omega)) (jr_of rfl (by omega)) hD J rfl  (fun v480 h ev480 J S477 X478 X479 => ?_))
                          have Sm := jSm_tr rfl Sm S477
                          try rw [jk_m1] at X478
                          try rw [jk_m1] at X479
                          try rw [X478] at D
                          try rw [X479] at D
                          show jX m_X6_byParents 16 0 0 84 [(5, .int v404), (4, .int v6), (3, .int v4), (0, .ref 120), (1, .int a1), (2, .int 2)] [.int v480] _ 0 0 _
                          exact jX.sub jsb_n (ct_X6_byParents_r120_c2d_84 hD hQ  v480 h (jr_of rfl (by omega)) J Sm D)
                        ·
                          rw [if_neg (by omega)] at D
                          refine x_aloadn (x := 78) rfl rfl ?_
                          refine z_getR (N := 16) (b := 82) 7 10 rfl f_7_37 rfl J rfl 9994 ⟨rfl, rfl⟩ rfl ?_
                          refine x_iloadn (x := v406) rfl rfl ?_
                          refine z_iald (N := 600) rfl J rfl sg_82_0_600_1_0_1 rfl (by omega) (fun v481 qv481 ev481 => ?_)
                          try rw [vrd (jmb_c S401 qv481 rfl) (show (v4.toInt + 2) = v406.toInt from by omega)] at D
                          refine x_goto (tgt := 37) rfl rfl ?_
                          refine x_iret rfl rfl ?_
                          show jX m_X7_namedSoul 15 0 0 16 [(0, .ref 78), (1, .int v406)] [.int v481] _ 0 0 _
                          refine x_goto (tgt := 20) rfl rfl ?_
                          refine x_iret rfl rfl ?_
                          show jX m_X6_byParents 16 0 0 76 [(5, .int v404), (4, .int v6), (3, .int v4), (0, .ref 120), (1, .int a1), (2, .int 2)] [.int v481, .ref 120] _ 0 0 _
                          refine x_iload (x := v6) rfl rfl ?_
                          refine x_iloadn (x := 2) rfl rfl ?_
                          refine x_iconst (v := 1) rfl ki_1 ?_
                          refine y_iadd (v := 3) rfl (by decide) ?_
                          refine x_inv (N := m_X6_belongs) (As := [.int v481, .int v6, .int 3]) (b := 120) (st := []) (dx9 := 15) (mc := 0) (ms := 0) (host := "") 6 rfl t_X6_belongs ⟨Or.inl q_6_127, i_X6_belongs.1, i_X6_belongs.2⟩ ⟨by decide, rfl⟩ (congrArg Prod.fst (J.1.1 120 (6, 8) rfl)) rfl (by decide) rfl rfl ⟨by decide, by decide⟩ (sf_X6_belongs_r120_c3d (jr_of rfl (by omega)) (jr_of rfl (by omega)) hD J rfl  (fun v485 h ev485 J S482 X483 X484 => ?_))
                          have Sm := jSm_tr rfl Sm S482
                          try rw [X483] at D
                          try rw [X484] at D
                          show jX m_X6_byParents 16 0 0 84 [(5, .int v404), (4, .int v6), (3, .int v4), (0, .ref 120), (1, .int a1), (2, .int 2)] [.int v485] _ 0 0 _
                          exact jX.sub jsb_n (ct_X6_byParents_r120_c2d_84 hD hQ  v485 h (jr_of rfl (by omega)) J Sm D)
            ·
              rw [if_neg (by omega)] at D
              refine x_iload (x := v404) rfl rfl ?_
              refine x_goto (tgt := 84) rfl rfl ?_
              exact jX.sub jsb_n (ct_X6_byParents_r120_c2d_84 hD hQ  v404 h (jr_of rfl (by omega)) J Sm D)
          ·
            rw [if_neg (by omega)] at D
            refine x_aloadn (x := 78) rfl rfl ?_
            refine z_getR (N := 16) (b := 82) 7 10 rfl f_7_37 rfl J rfl 9994 ⟨rfl, rfl⟩ rfl ?_
            refine x_iloadn (x := v7) rfl rfl ?_
            refine z_iald (N := 600) rfl J rfl sg_82_0_600_1_0_1 rfl (by omega) (fun v486 qv486 ev486 => ?_)
            try rw [vrd qv486 (show (v4.toInt + 1) = v7.toInt from by omega)] at D
            refine x_goto (tgt := 37) rfl rfl ?_
            refine x_iret rfl rfl ?_
            show jX m_X7_namedSoul 15 0 0 16 [(0, .ref 78), (1, .int v7)] [.int v486] _ 0 0 _
            refine x_goto (tgt := 20) rfl rfl ?_
            refine x_iret rfl rfl ?_
            show jX m_X6_byParents 16 0 0 44 [(4, .int v6), (3, .int v4), (0, .ref 120), (1, .int a1), (2, .int 2)] [.int v486, .ref 120] _ 0 0 _
            refine x_iload (x := v6) rfl rfl ?_
            refine x_iloadn (x := 2) rfl rfl ?_
            refine x_iconst (v := 1) rfl ki_1 ?_
            refine y_iadd (v := 3) rfl (by decide) ?_
            refine x_inv (N := m_X6_belongs) (As := [.int v486, .int v6, .int 3]) (b := 120) (st := []) (dx9 := 15) (mc := 0) (ms := 0) (host := "") 6 rfl t_X6_belongs ⟨Or.inl q_6_127, i_X6_belongs.1, i_X6_belongs.2⟩ ⟨by decide, rfl⟩ (congrArg Prod.fst (J.1.1 120 (6, 8) rfl)) rfl (by decide) rfl rfl ⟨by decide, by decide⟩ (sf_X6_belongs_r120_c3d (jr_of rfl (by omega)) (jr_of rfl (by omega)) hD J rfl  (fun v490 h ev490 J S487 X488 X489 => ?_))
            have Sm := jSm_tr rfl Sm S487
            try rw [X488] at D
            try rw [X489] at D
            show jX m_X6_byParents 16 0 0 52 [(4, .int v6), (3, .int v4), (0, .ref 120), (1, .int a1), (2, .int 2)] [.int v490] _ 0 0 _
            refine x_istore (lsx9 := [(5, .int v490), (4, .int v6), (3, .int v4), (0, .ref 120), (1, .int a1), (2, .int 2)]) rfl rfl rfl ?_
            refine x_iload (x := v490) rfl rfl ?_
            refine x_iconst (v := (-1)) rfl ki_m1 ?_
            refine x_iceq (tgt := 65) rfl rfl (ti_eq rfl jk_m1 ⟨fun c491 => ?_, fun c491 => ?_⟩)
            ·
              rw [if_pos (by omega)] at D
              refine x_aloadn (x := 120) rfl rfl ?_
              refine x_aloadn (x := 120) rfl rfl ?_
              refine z_getR (N := 8) (b := 78) 6 1 rfl f_6_32 rfl J rfl 15361 ⟨rfl, rfl⟩ rfl ?_
              refine x_iloadn (x := v4) rfl rfl ?_
              refine x_iconst (v := 2) rfl ki_2 ?_
              refine z_iadd rfl rfl jk_2 (by omega) (fun v492 ev492 => ?_)
              refine x_inv (N := m_X7_namedSoul) (As := [.int v492]) (b := 78) (st := [.ref 120]) (dx9 := 15) (mc := 0) (ms := 0) (host := "") 7 rfl t_X7_namedSoul ⟨Or.inl q_6_124, i_X7_namedSoul.1, i_X7_namedSoul.2⟩ ⟨by decide, rfl⟩ (congrArg Prod.fst (J.1.1 78 (7, 16) rfl)) rfl (by decide) rfl rfl ⟨by decide, by decide⟩ (jC.of rfl k_X7_namedSoul rfl ?_)
              show jX m_X7_namedSoul 15 0 0 0 [(0, .ref 78), (1, .int v492)] [] _ 0 0 _
              refine x_aloadn (x := 78) rfl rfl ?_
              refine z_getR (N := 16) (b := 70) 7 1 rfl f_7_59 rfl J rfl 9985 ⟨rfl, rfl⟩ rfl ?_
              refine x_iloadn (x := v492) rfl rfl ?_
              refine x_inv (N := m_X5_isNamed) (As := [.int v492]) (b := 70) (st := []) (dx9 := 14) (mc := 0) (ms := 0) (host := "") 5 rfl t_X5_isNamed ⟨Or.inl q_7_173, i_X5_isNamed.1, i_X5_isNamed.2⟩ ⟨by decide, rfl⟩ (congrArg Prod.fst (J.1.1 70 (5, 9) rfl)) rfl (by decide) rfl rfl ⟨by decide, by decide⟩ (jC.of rfl k_X5_isNamed rfl ?_)
              show jX m_X5_isNamed 14 0 0 0 [(0, .ref 70), (1, .int v492)] [] _ 0 0 _
              refine x_aloadn (x := 70) rfl rfl ?_
              refine x_iloadn (x := v492) rfl rfl ?_
              refine x_iconst (v := 0) rfl ki_0 ?_
              refine x_inv (N := m_X5_lengthOf) (As := [.int v492, .int 0]) (b := 70) (st := []) (dx9 := 13) (mc := 0) (ms := 0) (host := "") 5 rfl t_X5_lengthOf ⟨Or.inl q_5_133, i_X5_lengthOf.1, i_X5_lengthOf.2⟩ ⟨by decide, rfl⟩ (congrArg Prod.fst (J.1.1 70 (5, 9) rfl)) rfl (by decide) rfl rfl ⟨by decide, by decide⟩ (jC.of rfl k_X5_lengthOf rfl ?_)
              show jX m_X5_lengthOf 13 0 0 0 [(0, .ref 70), (1, .int v492), (2, .int 0)] [] _ 0 0 _
              refine x_iloadn (x := v492) rfl rfl ?_
              refine x_iconst (v := 2) rfl ki_2 ?_
              refine z_imul rfl rfl jk_2 (by omega) (fun v493 ev493 => ?_)
              refine x_iloadn (x := 0) rfl rfl ?_
              refine z_iadd rfl rfl jk_0 (by omega) (fun v494 ev494 => ?_)
              refine x_istoren (lsx9 := [(3, .int v494), (0, .ref 70), (1, .int v492), (2, .int 0)]) rfl rfl rfl ?_
              refine x_iloadn (x := v494) rfl rfl ?_
              refine x_iflt (tgt := 26) rfl rfl (ti_lt rfl jk_0 (br_f (by omega) ?_))
              refine x_iloadn (x := v494) rfl rfl ?_
              refine x_sipush (v := 1200) rfl ks_1200 ?_
              refine x_icge (tgt := 26) rfl rfl (ti_ge rfl jk_1200 ⟨fun c495 => ?_, fun c495 => ?_⟩)
              ·
                rw [if_pos (by omega)] at D
                refine x_iconst (v := (-1)) rfl ki_m1 ?_
                refine x_iret rfl rfl ?_
                show jX m_X5_isNamed 14 0 0 6 [(0, .ref 70), (1, .int v492)] [.int (-1)] _ 0 0 _
                refine x_ifge (tgt := 18) rfl rfl (ti_ge jk_m1 jk_0 (br_f (by omega) ?_))
                refine x_aloadn (x := 70) rfl rfl ?_
                refine x_iloadn (x := v492) rfl rfl ?_
                refine x_iconst (v := 1) rfl ki_1 ?_
                refine x_inv (N := m_X5_lengthOf) (As := [.int v492, .int 1]) (b := 70) (st := []) (dx9 := 13) (mc := 0) (ms := 0) (host := "") 5 rfl t_X5_lengthOf ⟨Or.inl q_5_133, i_X5_lengthOf.1, i_X5_lengthOf.2⟩ ⟨by decide, rfl⟩ (congrArg Prod.fst (J.1.1 70 (5, 9) rfl)) rfl (by decide) rfl rfl ⟨by decide, by decide⟩ (jC.of rfl k_X5_lengthOf rfl ?_)
                show jX m_X5_lengthOf 13 0 0 0 [(0, .ref 70), (1, .int v492), (2, .int 1)] [] _ 0 0 _
                refine x_iloadn (x := v492) rfl rfl ?_
                refine x_iconst (v := 2) rfl ki_2 ?_
                refine z_imul rfl rfl jk_2 (by omega) (fun v496 ev496 => ?_)
                refine x_iloadn (x := 1) rfl rfl ?_
                refine z_iadd rfl rfl jk_1 (by omega) (fun v497 ev497 => ?_)
                refine x_istoren (lsx9 := [(3, .int v497), (0, .ref 70), (1, .int v492), (2, .int 1)]) rfl rfl rfl ?_
                refine x_iloadn (x := v497) rfl rfl ?_
                refine x_iflt (tgt := 26) rfl rfl (ti_lt rfl jk_0 (br_f (by omega) ?_))
                refine x_iloadn (x := v497) rfl rfl ?_
                refine x_sipush (v := 1200) rfl ks_1200 ?_
                refine x_icge (tgt := 26) rfl rfl (ti_ge rfl jk_1200 ⟨fun c498 => ?_, fun c498 => ?_⟩)
                ·
                  rw [if_pos (by omega)] at D
                  refine x_iconst (v := (-1)) rfl ki_m1 ?_
                  refine x_iret rfl rfl ?_
                  show jX m_X5_isNamed 14 0 0 15 [(0, .ref 70), (1, .int v492)] [.int (-1)] _ 0 0 _
                  refine x_iflt (tgt := 22) rfl rfl (ti_lt jk_m1 jk_0 (br_t (by omega) ?_))
                  refine x_iconst (v := 0) rfl ki_0 ?_
                  refine x_zret rfl rfl (by decide) ?_
                  show jX m_X7_namedSoul 15 0 0 8 [(0, .ref 78), (1, .int v492)] [.int 0] _ 0 0 _
                  refine x_ifeq (tgt := 19) rfl rfl (ti_eq jk_0 jk_0 (br_t (by omega) ?_))
                  refine x_iconst (v := (-1)) rfl ki_m1 ?_
                  refine x_iret rfl rfl ?_
                  show jX m_X6_byParents 16 0 0 76 [(5, .int v490), (4, .int v6), (3, .int v4), (0, .ref 120), (1, .int a1), (2, .int 2)] [.int (-1), .ref 120] _ 0 0 _
                  refine x_iload (x := v6) rfl rfl ?_
                  refine x_iloadn (x := 2) rfl rfl ?_
                  refine x_iconst (v := 1) rfl ki_1 ?_
                  refine y_iadd (v := 3) rfl (by decide) ?_
                  refine x_inv (N := m_X6_belongs) (As := [.int (-1), .int v6, .int 3]) (b := 120) (st := []) (dx9 := 15) (mc := 0) (ms := 0) (host := "") 6 rfl t_X6_belongs ⟨Or.inl q_6_127, i_X6_belongs.1, i_X6_belongs.2⟩ ⟨by decide, rfl⟩ (congrArg Prod.fst (J.1.1 120 (6, 8) rfl)) rfl (by decide) rfl rfl ⟨by decide, by decide⟩ (sf_X6_belongs_r120_c3d (jr_of jk_m1 (by omega)) (jr_of rfl (by omega)) hD J rfl  (fun v502 h ev502 J S499 X500 X501 => ?_))
                  have Sm := jSm_tr rfl Sm S499
                  try rw [jk_m1] at X500
                  try rw [jk_m1] at X501
                  try rw [X500] at D
                  try rw [X501] at D
                  show jX m_X6_byParents 16 0 0 84 [(5, .int v490), (4, .int v6), (3, .int v4), (0, .ref 120), (1, .int a1), (2, .int 2)] [.int v502] _ 0 0 _
                  exact jX.sub jsb_n (ct_X6_byParents_r120_c2d_84 hD hQ  v502 h (jr_of rfl (by omega)) J Sm D)
                ·
                  rw [if_neg (by omega)] at D
                  refine x_aloadn (x := 70) rfl rfl ?_
                  refine z_getR (N := 9) (b := 76) 5 7 rfl f_5_28 rfl J rfl 8967 ⟨rfl, rfl⟩ rfl ?_
                  refine x_iloadn (x := v497) rfl rfl ?_
                  refine z_iald (N := 1200) rfl J rfl sg_76_0_1200_1_0_1 rfl (by omega) (fun v503 qv503 ev503 => ?_)
                  try rw [vrd (jmb_c S487 qv503 rfl) (show (((v4.toInt + 2) * 2) + 1) = v497.toInt from by omega)] at D
                  refine x_goto (tgt := 27) rfl rfl ?_
                  refine x_iret rfl rfl ?_
                  show jX m_X5_isNamed 14 0 0 15 [(0, .ref 70), (1, .int v492)] [.int v503] _ 0 0 _
                  refine x_iflt (tgt := 22) rfl rfl (ti_lt rfl jk_0 ⟨fun c504 => ?_, fun c504 => ?_⟩)
                  ·
                    rw [if_pos (by omega)] at D
                    refine x_iconst (v := 0) rfl ki_0 ?_
                    refine x_zret rfl rfl (by decide) ?_
                    show jX m_X7_namedSoul 15 0 0 8 [(0, .ref 78), (1, .int v492)] [.int 0] _ 0 0 _
                    refine x_ifeq (tgt := 19) rfl rfl (ti_eq jk_0 jk_0 (br_t (by omega) ?_))
                    refine x_iconst (v := (-1)) rfl ki_m1 ?_
                    refine x_iret rfl rfl ?_
                    show jX m_X6_byParents 16 0 0 76 [(5, .int v490), (4, .int v6), (3, .int v4), (0, .ref 120), (1, .int a1), (2, .int 2)] [.int (-1), .ref 120] _ 0 0 _
                    refine x_iload (x := v6) rfl rfl ?_
                    refine x_iloadn (x := 2) rfl rfl ?_
                    refine x_iconst (v := 1) rfl ki_1 ?_
                    refine y_iadd (v := 3) rfl (by decide) ?_
                    refine x_inv (N := m_X6_belongs) (As := [.int (-1), .int v6, .int 3]) (b := 120) (st := []) (dx9 := 15) (mc := 0) (ms := 0) (host := "") 6 rfl t_X6_belongs ⟨Or.inl q_6_127, i_X6_belongs.1, i_X6_belongs.2⟩ ⟨by decide, rfl⟩ (congrArg Prod.fst (J.1.1 120 (6, 8) rfl)) rfl (by decide) rfl rfl ⟨by decide, by decide⟩ (sf_X6_belongs_r120_c3d (jr_of jk_m1 (by omega)) (jr_of rfl (by omega)) hD J rfl  (fun v508 h ev508 J S505 X506 X507 => ?_))
                    have Sm := jSm_tr rfl Sm S505
                    try rw [jk_m1] at X506
                    try rw [jk_m1] at X507
                    try rw [X506] at D
                    try rw [X507] at D
                    show jX m_X6_byParents 16 0 0 84 [(5, .int v490), (4, .int v6), (3, .int v4), (0, .ref 120), (1, .int a1), (2, .int 2)] [.int v508] _ 0 0 _
                    exact jX.sub jsb_n (ct_X6_byParents_r120_c2d_84 hD hQ  v508 h (jr_of rfl (by omega)) J Sm D)
                  ·
                    rw [if_neg (by omega)] at D
                    refine x_iconst (v := 1) rfl ki_1 ?_
                    refine x_goto (tgt := 23) rfl rfl ?_
                    refine x_zret rfl rfl (by decide) ?_
                    show jX m_X7_namedSoul 15 0 0 8 [(0, .ref 78), (1, .int v492)] [.int 1] _ 0 0 _
                    refine x_ifeq (tgt := 19) rfl rfl (ti_eq jk_1 jk_0 (br_f (by omega) ?_))
                    refine x_aloadn (x := 78) rfl rfl ?_
                    refine x_iloadn (x := v492) rfl rfl ?_
                    refine x_inv (N := m_X7_soulAt) (As := [.int v492]) (b := 78) (st := []) (dx9 := 14) (mc := 0) (ms := 0) (host := "") 7 rfl t_X7_soulAt ⟨Or.inl q_7_153, i_X7_soulAt.1, i_X7_soulAt.2⟩ ⟨by decide, rfl⟩ (congrArg Prod.fst (J.1.1 78 (7, 16) rfl)) rfl (by decide) rfl rfl ⟨by decide, by decide⟩ (jC.of rfl k_X7_soulAt rfl ?_)
                    show jX m_X7_soulAt 14 0 0 0 [(0, .ref 78), (1, .int v492)] [] _ 0 0 _
                    refine x_iloadn (x := v492) rfl rfl ?_
                    refine x_iflt (tgt := 36) rfl rfl (ti_lt rfl jk_0 (br_f (by omega) ?_))
                    refine x_iloadn (x := v492) rfl rfl ?_
                    refine x_sipush (v := 600) rfl ks_600 ?_
                    refine x_icge (tgt := 36) rfl rfl (ti_ge rfl jk_600 ⟨fun c509 => ?_, fun c509 => ?_⟩)
                    ·
                      rw [if_pos (by omega)] at D
                      refine x_iconst (v := (-1)) rfl ki_m1 ?_
                      refine x_iret rfl rfl ?_
                      show jX m_X7_namedSoul 15 0 0 16 [(0, .ref 78), (1, .int v492)] [.int (-1)] _ 0 0 _
                      refine x_goto (tgt := 20) rfl rfl ?_
                      refine x_iret rfl rfl ?_
                      show jX m_X6_byParents 16 0 0 76 [(5, .int v490), (4, .int v6), (3, .int v4), (0, .ref 120), (1, .int a1), (2, .int 2)] [.int (-1), .ref 120] _ 0 0 _
                      refine x_iload (x := v6) rfl rfl ?_
                      refine x_iloadn (x := 2) rfl rfl ?_
                      refine x_iconst (v := 1) rfl ki_1 ?_
                      refine y_iadd (v := 3) rfl (by decide) ?_
                      refine x_inv (N := m_X6_belongs) (As := [.int (-1), .int v6, .int 3]) (b := 120) (st := []) (dx9 := 15) (mc := 0) (ms := 0) (host := "") 6 rfl t_X6_belongs ⟨Or.inl q_6_127, i_X6_belongs.1, i_X6_belongs.2⟩ ⟨by decide, rfl⟩ (congrArg Prod.fst (J.1.1 120 (6, 8) rfl)) rfl (by decide) rfl rfl ⟨by decide, by decide⟩ (sf_X6_belongs_r120_c3d (jr_of jk_m1 (by omega)) (jr_of rfl (by omega)) hD J rfl  (fun v513 h ev513 J S510 X511 X512 => ?_))
                      have Sm := jSm_tr rfl Sm S510
                      try rw [jk_m1] at X511
                      try rw [jk_m1] at X512
                      try rw [X511] at D
                      try rw [X512] at D
                      show jX m_X6_byParents 16 0 0 84 [(5, .int v490), (4, .int v6), (3, .int v4), (0, .ref 120), (1, .int a1), (2, .int 2)] [.int v513] _ 0 0 _
                      exact jX.sub jsb_n (ct_X6_byParents_r120_c2d_84 hD hQ  v513 h (jr_of rfl (by omega)) J Sm D)
                    ·
                      rw [if_neg (by omega)] at D
                      refine x_iloadn (x := v492) rfl rfl ?_
                      refine x_iconst (v := 3) rfl ki_3 ?_
                      refine z_idiv rfl rfl jk_3 (by omega) (by omega) (fun v514 ev514 => ?_)
                      refine x_aloadn (x := 78) rfl rfl ?_
                      refine z_getR (N := 16) (b := 32) 7 0 rfl f_7_55 rfl J rfl 9984 ⟨rfl, rfl⟩ rfl ?_
                      refine z_getR (N := 20) (b := 33) 1 0 rfl f_7_63 rfl J rfl 4096 ⟨rfl, rfl⟩ rfl ?_
                      refine z_getM (N := 4) (v := v399) 8 3 rfl f_7_85 rfl J rfl (jmc S487 rfl qv399) ?_
                      refine x_icge (tgt := 36) rfl rfl (ti_ge rfl rfl ⟨fun c515 => ?_, fun c515 => ?_⟩)
                      ·
                        rw [if_pos (by omega)] at D
                        refine x_iconst (v := (-1)) rfl ki_m1 ?_
                        refine x_iret rfl rfl ?_
                        show jX m_X7_namedSoul 15 0 0 16 [(0, .ref 78), (1, .int v492)] [.int (-1)] _ 0 0 _
                        refine x_goto (tgt := 20) rfl rfl ?_
                        refine x_iret rfl rfl ?_
                        show jX m_X6_byParents 16 0 0 76 [(5, .int v490), (4, .int v6), (3, .int v4), (0, .ref 120), (1, .int a1), (2, .int 2)] [.int (-1), .ref 120] _ 0 0 _
                        refine x_iload (x := v6) rfl rfl ?_
                        refine x_iloadn (x := 2) rfl rfl ?_
                        refine x_iconst (v := 1) rfl ki_1 ?_
                        refine y_iadd (v := 3) rfl (by decide) ?_
                        refine x_inv (N := m_X6_belongs) (As := [.int (-1), .int v6, .int 3]) (b := 120) (st := []) (dx9 := 15) (mc := 0) (ms := 0) (host := "") 6 rfl t_X6_belongs ⟨Or.inl q_6_127, i_X6_belongs.1, i_X6_belongs.2⟩ ⟨by decide, rfl⟩ (congrArg Prod.fst (J.1.1 120 (6, 8) rfl)) rfl (by decide) rfl rfl ⟨by decide, by decide⟩ (sf_X6_belongs_r120_c3d (jr_of jk_m1 (by omega)) (jr_of rfl (by omega)) hD J rfl  (fun v519 h ev519 J S516 X517 X518 => ?_))
                        have Sm := jSm_tr rfl Sm S516
                        try rw [jk_m1] at X517
                        try rw [jk_m1] at X518
                        try rw [X517] at D
                        try rw [X518] at D
                        show jX m_X6_byParents 16 0 0 84 [(5, .int v490), (4, .int v6), (3, .int v4), (0, .ref 120), (1, .int a1), (2, .int 2)] [.int v519] _ 0 0 _
                        exact jX.sub jsb_n (ct_X6_byParents_r120_c2d_84 hD hQ  v519 h (jr_of rfl (by omega)) J Sm D)
                      ·
                        rw [if_neg (by omega)] at D
                        refine x_aloadn (x := 78) rfl rfl ?_
                        refine z_getR (N := 16) (b := 82) 7 10 rfl f_7_37 rfl J rfl 9994 ⟨rfl, rfl⟩ rfl ?_
                        refine x_iloadn (x := v492) rfl rfl ?_
                        refine z_iald (N := 600) rfl J rfl sg_82_0_600_1_0_1 rfl (by omega) (fun v520 qv520 ev520 => ?_)
                        try rw [vrd (jmb_c S487 qv520 rfl) (show (v4.toInt + 2) = v492.toInt from by omega)] at D
                        refine x_goto (tgt := 37) rfl rfl ?_
                        refine x_iret rfl rfl ?_
                        show jX m_X7_namedSoul 15 0 0 16 [(0, .ref 78), (1, .int v492)] [.int v520] _ 0 0 _
                        refine x_goto (tgt := 20) rfl rfl ?_
                        refine x_iret rfl rfl ?_
                        show jX m_X6_byParents 16 0 0 76 [(5, .int v490), (4, .int v6), (3, .int v4), (0, .ref 120), (1, .int a1), (2, .int 2)] [.int v520, .ref 120] _ 0 0 _
                        refine x_iload (x := v6) rfl rfl ?_
                        refine x_iloadn (x := 2) rfl rfl ?_
                        refine x_iconst (v := 1) rfl ki_1 ?_
                        refine y_iadd (v := 3) rfl (by decide) ?_
                        refine x_inv (N := m_X6_belongs) (As := [.int v520, .int v6, .int 3]) (b := 120) (st := []) (dx9 := 15) (mc := 0) (ms := 0) (host := "") 6 rfl t_X6_belongs ⟨Or.inl q_6_127, i_X6_belongs.1, i_X6_belongs.2⟩ ⟨by decide, rfl⟩ (congrArg Prod.fst (J.1.1 120 (6, 8) rfl)) rfl (by decide) rfl rfl ⟨by decide, by decide⟩ (sf_X6_belongs_r120_c3d (jr_of rfl (by omega)) (jr_of rfl (by omega)) hD J rfl  (fun v524 h ev524 J S521 X522 X523 => ?_))
                        have Sm := jSm_tr rfl Sm S521
                        try rw [X522] at D
                        try rw [X523] at D
                        show jX m_X6_byParents 16 0 0 84 [(5, .int v490), (4, .int v6), (3, .int v4), (0, .ref 120), (1, .int a1), (2, .int 2)] [.int v524] _ 0 0 _
                        exact jX.sub jsb_n (ct_X6_byParents_r120_c2d_84 hD hQ  v524 h (jr_of rfl (by omega)) J Sm D)
              ·
                rw [if_neg (by omega)] at D
                refine x_aloadn (x := 70) rfl rfl ?_
                refine z_getR (N := 9) (b := 76) 5 7 rfl f_5_28 rfl J rfl 8967 ⟨rfl, rfl⟩ rfl ?_
                refine x_iloadn (x := v494) rfl rfl ?_
                refine z_iald (N := 1200) rfl J rfl sg_76_0_1200_1_0_1 rfl (by omega) (fun v525 qv525 ev525 => ?_)
                try rw [vrd (jmb_c S487 qv525 rfl) (show (((v4.toInt + 2) * 2) + 0) = v494.toInt from by omega)] at D
                refine x_goto (tgt := 27) rfl rfl ?_
                refine x_iret rfl rfl ?_
                show jX m_X5_isNamed 14 0 0 6 [(0, .ref 70), (1, .int v492)] [.int v525] _ 0 0 _
                refine x_ifge (tgt := 18) rfl rfl (ti_ge rfl jk_0 ⟨fun c526 => ?_, fun c526 => ?_⟩)
                ·
                  rw [if_pos (by omega)] at D
                  refine x_iconst (v := 1) rfl ki_1 ?_
                  refine x_goto (tgt := 23) rfl rfl ?_
                  refine x_zret rfl rfl (by decide) ?_
                  show jX m_X7_namedSoul 15 0 0 8 [(0, .ref 78), (1, .int v492)] [.int 1] _ 0 0 _
                  refine x_ifeq (tgt := 19) rfl rfl (ti_eq jk_1 jk_0 (br_f (by omega) ?_))
                  refine x_aloadn (x := 78) rfl rfl ?_
                  refine x_iloadn (x := v492) rfl rfl ?_
                  refine x_inv (N := m_X7_soulAt) (As := [.int v492]) (b := 78) (st := []) (dx9 := 14) (mc := 0) (ms := 0) (host := "") 7 rfl t_X7_soulAt ⟨Or.inl q_7_153, i_X7_soulAt.1, i_X7_soulAt.2⟩ ⟨by decide, rfl⟩ (congrArg Prod.fst (J.1.1 78 (7, 16) rfl)) rfl (by decide) rfl rfl ⟨by decide, by decide⟩ (jC.of rfl k_X7_soulAt rfl ?_)
                  show jX m_X7_soulAt 14 0 0 0 [(0, .ref 78), (1, .int v492)] [] _ 0 0 _
                  refine x_iloadn (x := v492) rfl rfl ?_
                  refine x_iflt (tgt := 36) rfl rfl (ti_lt rfl jk_0 (br_f (by omega) ?_))
                  refine x_iloadn (x := v492) rfl rfl ?_
                  refine x_sipush (v := 600) rfl ks_600 ?_
                  refine x_icge (tgt := 36) rfl rfl (ti_ge rfl jk_600 ⟨fun c527 => ?_, fun c527 => ?_⟩)
                  ·
                    rw [if_pos (by omega)] at D
                    refine x_iconst (v := (-1)) rfl ki_m1 ?_
                    refine x_iret rfl rfl ?_
                    show jX m_X7_namedSoul 15 0 0 16 [(0, .ref 78), (1, .int v492)] [.int (-1)] _ 0 0 _
                    refine x_goto (tgt := 20) rfl rfl ?_
                    refine x_iret rfl rfl ?_
                    show jX m_X6_byParents 16 0 0 76 [(5, .int v490), (4, .int v6), (3, .int v4), (0, .ref 120), (1, .int a1), (2, .int 2)] [.int (-1), .ref 120] _ 0 0 _
                    refine x_iload (x := v6) rfl rfl ?_
                    refine x_iloadn (x := 2) rfl rfl ?_
                    refine x_iconst (v := 1) rfl ki_1 ?_
                    refine y_iadd (v := 3) rfl (by decide) ?_
                    refine x_inv (N := m_X6_belongs) (As := [.int (-1), .int v6, .int 3]) (b := 120) (st := []) (dx9 := 15) (mc := 0) (ms := 0) (host := "") 6 rfl t_X6_belongs ⟨Or.inl q_6_127, i_X6_belongs.1, i_X6_belongs.2⟩ ⟨by decide, rfl⟩ (congrArg Prod.fst (J.1.1 120 (6, 8) rfl)) rfl (by decide) rfl rfl ⟨by decide, by decide⟩ (sf_X6_belongs_r120_c3d (jr_of jk_m1 (by omega)) (jr_of rfl (by omega)) hD J rfl  (fun v531 h ev531 J S528 X529 X530 => ?_))
                    have Sm := jSm_tr rfl Sm S528
                    try rw [jk_m1] at X529
                    try rw [jk_m1] at X530
                    try rw [X529] at D
                    try rw [X530] at D
                    show jX m_X6_byParents 16 0 0 84 [(5, .int v490), (4, .int v6), (3, .int v4), (0, .ref 120), (1, .int a1), (2, .int 2)] [.int v531] _ 0 0 _
                    exact jX.sub jsb_n (ct_X6_byParents_r120_c2d_84 hD hQ  v531 h (jr_of rfl (by omega)) J Sm D)
                  ·
                    rw [if_neg (by omega)] at D
                    refine x_iloadn (x := v492) rfl rfl ?_
                    refine x_iconst (v := 3) rfl ki_3 ?_
                    refine z_idiv rfl rfl jk_3 (by omega) (by omega) (fun v532 ev532 => ?_)
                    refine x_aloadn (x := 78) rfl rfl ?_
                    refine z_getR (N := 16) (b := 32) 7 0 rfl f_7_55 rfl J rfl 9984 ⟨rfl, rfl⟩ rfl ?_
                    refine z_getR (N := 20) (b := 33) 1 0 rfl f_7_63 rfl J rfl 4096 ⟨rfl, rfl⟩ rfl ?_
                    refine z_getM (N := 4) (v := v399) 8 3 rfl f_7_85 rfl J rfl (jmc S487 rfl qv399) ?_
                    refine x_icge (tgt := 36) rfl rfl (ti_ge rfl rfl ⟨fun c533 => ?_, fun c533 => ?_⟩)
                    ·
                      rw [if_pos (by omega)] at D
                      refine x_iconst (v := (-1)) rfl ki_m1 ?_
                      refine x_iret rfl rfl ?_
                      show jX m_X7_namedSoul 15 0 0 16 [(0, .ref 78), (1, .int v492)] [.int (-1)] _ 0 0 _
                      refine x_goto (tgt := 20) rfl rfl ?_
                      refine x_iret rfl rfl ?_
                      show jX m_X6_byParents 16 0 0 76 [(5, .int v490), (4, .int v6), (3, .int v4), (0, .ref 120), (1, .int a1), (2, .int 2)] [.int (-1), .ref 120] _ 0 0 _
                      refine x_iload (x := v6) rfl rfl ?_
                      refine x_iloadn (x := 2) rfl rfl ?_
                      refine x_iconst (v := 1) rfl ki_1 ?_
                      refine y_iadd (v := 3) rfl (by decide) ?_
                      refine x_inv (N := m_X6_belongs) (As := [.int (-1), .int v6, .int 3]) (b := 120) (st := []) (dx9 := 15) (mc := 0) (ms := 0) (host := "") 6 rfl t_X6_belongs ⟨Or.inl q_6_127, i_X6_belongs.1, i_X6_belongs.2⟩ ⟨by decide, rfl⟩ (congrArg Prod.fst (J.1.1 120 (6, 8) rfl)) rfl (by decide) rfl rfl ⟨by decide, by decide⟩ (sf_X6_belongs_r120_c3d (jr_of jk_m1 (by omega)) (jr_of rfl (by omega)) hD J rfl  (fun v537 h ev537 J S534 X535 X536 => ?_))
                      have Sm := jSm_tr rfl Sm S534
                      try rw [jk_m1] at X535
                      try rw [jk_m1] at X536
                      try rw [X535] at D
                      try rw [X536] at D
                      show jX m_X6_byParents 16 0 0 84 [(5, .int v490), (4, .int v6), (3, .int v4), (0, .ref 120), (1, .int a1), (2, .int 2)] [.int v537] _ 0 0 _
                      exact jX.sub jsb_n (ct_X6_byParents_r120_c2d_84 hD hQ  v537 h (jr_of rfl (by omega)) J Sm D)
                    ·
                      rw [if_neg (by omega)] at D
                      refine x_aloadn (x := 78) rfl rfl ?_
                      refine z_getR (N := 16) (b := 82) 7 10 rfl f_7_37 rfl J rfl 9994 ⟨rfl, rfl⟩ rfl ?_
                      refine x_iloadn (x := v492) rfl rfl ?_
                      refine z_iald (N := 600) rfl J rfl sg_82_0_600_1_0_1 rfl (by omega) (fun v538 qv538 ev538 => ?_)
                      try rw [vrd (jmb_c S487 qv538 rfl) (show (v4.toInt + 2) = v492.toInt from by omega)] at D
                      refine x_goto (tgt := 37) rfl rfl ?_
                      refine x_iret rfl rfl ?_
                      show jX m_X7_namedSoul 15 0 0 16 [(0, .ref 78), (1, .int v492)] [.int v538] _ 0 0 _
                      refine x_goto (tgt := 20) rfl rfl ?_
                      refine x_iret rfl rfl ?_
                      show jX m_X6_byParents 16 0 0 76 [(5, .int v490), (4, .int v6), (3, .int v4), (0, .ref 120), (1, .int a1), (2, .int 2)] [.int v538, .ref 120] _ 0 0 _
                      refine x_iload (x := v6) rfl rfl ?_
                      refine x_iloadn (x := 2) rfl rfl ?_
                      refine x_iconst (v := 1) rfl ki_1 ?_
                      refine y_iadd (v := 3) rfl (by decide) ?_
                      refine x_inv (N := m_X6_belongs) (As := [.int v538, .int v6, .int 3]) (b := 120) (st := []) (dx9 := 15) (mc := 0) (ms := 0) (host := "") 6 rfl t_X6_belongs ⟨Or.inl q_6_127, i_X6_belongs.1, i_X6_belongs.2⟩ ⟨by decide, rfl⟩ (congrArg Prod.fst (J.1.1 120 (6, 8) rfl)) rfl (by decide) rfl rfl ⟨by decide, by decide⟩ (sf_X6_belongs_r120_c3d (jr_of rfl (by omega)) (jr_of rfl (by omega)) hD J rfl  (fun v542 h ev542 J S539 X540 X541 => ?_))
                      have Sm := jSm_tr rfl Sm S539
                      try rw [X540] at D
                      try rw [X541] at D
                      show jX m_X6_byParents 16 0 0 84 [(5, .int v490), (4, .int v6), (3, .int v4), (0, .ref 120), (1, .int a1), (2, .int 2)] [.int v542] _ 0 0 _
                      exact jX.sub jsb_n (ct_X6_byParents_r120_c2d_84 hD hQ  v542 h (jr_of rfl (by omega)) J Sm D)
                ·
                  rw [if_neg (by omega)] at D
                  refine x_aloadn (x := 70) rfl rfl ?_
                  refine x_iloadn (x := v492) rfl rfl ?_
                  refine x_iconst (v := 1) rfl ki_1 ?_
                  refine x_inv (N := m_X5_lengthOf) (As := [.int v492, .int 1]) (b := 70) (st := []) (dx9 := 13) (mc := 0) (ms := 0) (host := "") 5 rfl t_X5_lengthOf ⟨Or.inl q_5_133, i_X5_lengthOf.1, i_X5_lengthOf.2⟩ ⟨by decide, rfl⟩ (congrArg Prod.fst (J.1.1 70 (5, 9) rfl)) rfl (by decide) rfl rfl ⟨by decide, by decide⟩ (jC.of rfl k_X5_lengthOf rfl ?_)
                  show jX m_X5_lengthOf 13 0 0 0 [(0, .ref 70), (1, .int v492), (2, .int 1)] [] _ 0 0 _
                  refine x_iloadn (x := v492) rfl rfl ?_
                  refine x_iconst (v := 2) rfl ki_2 ?_
                  refine z_imul rfl rfl jk_2 (by omega) (fun v543 ev543 => ?_)
                  refine x_iloadn (x := 1) rfl rfl ?_
                  refine z_iadd rfl rfl jk_1 (by omega) (fun v544 ev544 => ?_)
                  refine x_istoren (lsx9 := [(3, .int v544), (0, .ref 70), (1, .int v492), (2, .int 1)]) rfl rfl rfl ?_
                  refine x_iloadn (x := v544) rfl rfl ?_
                  refine x_iflt (tgt := 26) rfl rfl (ti_lt rfl jk_0 (br_f (by omega) ?_))
                  refine x_iloadn (x := v544) rfl rfl ?_
                  refine x_sipush (v := 1200) rfl ks_1200 ?_
                  refine x_icge (tgt := 26) rfl rfl (ti_ge rfl jk_1200 ⟨fun c545 => ?_, fun c545 => ?_⟩)
                  ·
                    rw [if_pos (by omega)] at D
                    refine x_iconst (v := (-1)) rfl ki_m1 ?_
                    refine x_iret rfl rfl ?_
                    show jX m_X5_isNamed 14 0 0 15 [(0, .ref 70), (1, .int v492)] [.int (-1)] _ 0 0 _
                    refine x_iflt (tgt := 22) rfl rfl (ti_lt jk_m1 jk_0 (br_t (by omega) ?_))
                    refine x_iconst (v := 0) rfl ki_0 ?_
                    refine x_zret rfl rfl (by decide) ?_
                    show jX m_X7_namedSoul 15 0 0 8 [(0, .ref 78), (1, .int v492)] [.int 0] _ 0 0 _
                    refine x_ifeq (tgt := 19) rfl rfl (ti_eq jk_0 jk_0 (br_t (by omega) ?_))
                    refine x_iconst (v := (-1)) rfl ki_m1 ?_
                    refine x_iret rfl rfl ?_
                    show jX m_X6_byParents 16 0 0 76 [(5, .int v490), (4, .int v6), (3, .int v4), (0, .ref 120), (1, .int a1), (2, .int 2)] [.int (-1), .ref 120] _ 0 0 _
                    refine x_iload (x := v6) rfl rfl ?_
                    refine x_iloadn (x := 2) rfl rfl ?_
                    refine x_iconst (v := 1) rfl ki_1 ?_
                    refine y_iadd (v := 3) rfl (by decide) ?_
                    refine x_inv (N := m_X6_belongs) (As := [.int (-1), .int v6, .int 3]) (b := 120) (st := []) (dx9 := 15) (mc := 0) (ms := 0) (host := "") 6 rfl t_X6_belongs ⟨Or.inl q_6_127, i_X6_belongs.1, i_X6_belongs.2⟩ ⟨by decide, rfl⟩ (congrArg Prod.fst (J.1.1 120 (6, 8) rfl)) rfl (by decide) rfl rfl ⟨by decide, by decide⟩ (sf_X6_belongs_r120_c3d (jr_of jk_m1 (by omega)) (jr_of rfl (by omega)) hD J rfl  (fun v549 h ev549 J S546 X547 X548 => ?_))
                    have Sm := jSm_tr rfl Sm S546
                    try rw [jk_m1] at X547
                    try rw [jk_m1] at X548
                    try rw [X547] at D
                    try rw [X548] at D
                    show jX m_X6_byParents 16 0 0 84 [(5, .int v490), (4, .int v6), (3, .int v4), (0, .ref 120), (1, .int a1), (2, .int 2)] [.int v549] _ 0 0 _
                    exact jX.sub jsb_n (ct_X6_byParents_r120_c2d_84 hD hQ  v549 h (jr_of rfl (by omega)) J Sm D)
                  ·
                    rw [if_neg (by omega)] at D
                    refine x_aloadn (x := 70) rfl rfl ?_
                    refine z_getR (N := 9) (b := 76) 5 7 rfl f_5_28 rfl J rfl 8967 ⟨rfl, rfl⟩ rfl ?_
                    refine x_iloadn (x := v544) rfl rfl ?_
                    refine z_iald (N := 1200) rfl J rfl sg_76_0_1200_1_0_1 rfl (by omega) (fun v550 qv550 ev550 => ?_)
                    try rw [vrd (jmb_c S487 qv550 rfl) (show (((v4.toInt + 2) * 2) + 1) = v544.toInt from by omega)] at D
                    refine x_goto (tgt := 27) rfl rfl ?_
                    refine x_iret rfl rfl ?_
                    show jX m_X5_isNamed 14 0 0 15 [(0, .ref 70), (1, .int v492)] [.int v550] _ 0 0 _
                    refine x_iflt (tgt := 22) rfl rfl (ti_lt rfl jk_0 ⟨fun c551 => ?_, fun c551 => ?_⟩)
                    ·
                      rw [if_pos (by omega)] at D
                      refine x_iconst (v := 0) rfl ki_0 ?_
                      refine x_zret rfl rfl (by decide) ?_
                      show jX m_X7_namedSoul 15 0 0 8 [(0, .ref 78), (1, .int v492)] [.int 0] _ 0 0 _
                      refine x_ifeq (tgt := 19) rfl rfl (ti_eq jk_0 jk_0 (br_t (by omega) ?_))
                      refine x_iconst (v := (-1)) rfl ki_m1 ?_
                      refine x_iret rfl rfl ?_
                      show jX m_X6_byParents 16 0 0 76 [(5, .int v490), (4, .int v6), (3, .int v4), (0, .ref 120), (1, .int a1), (2, .int 2)] [.int (-1), .ref 120] _ 0 0 _
                      refine x_iload (x := v6) rfl rfl ?_
                      refine x_iloadn (x := 2) rfl rfl ?_
                      refine x_iconst (v := 1) rfl ki_1 ?_
                      refine y_iadd (v := 3) rfl (by decide) ?_
                      refine x_inv (N := m_X6_belongs) (As := [.int (-1), .int v6, .int 3]) (b := 120) (st := []) (dx9 := 15) (mc := 0) (ms := 0) (host := "") 6 rfl t_X6_belongs ⟨Or.inl q_6_127, i_X6_belongs.1, i_X6_belongs.2⟩ ⟨by decide, rfl⟩ (congrArg Prod.fst (J.1.1 120 (6, 8) rfl)) rfl (by decide) rfl rfl ⟨by decide, by decide⟩ (sf_X6_belongs_r120_c3d (jr_of jk_m1 (by omega)) (jr_of rfl (by omega)) hD J rfl  (fun v555 h ev555 J S552 X553 X554 => ?_))
                      have Sm := jSm_tr rfl Sm S552
                      try rw [jk_m1] at X553
                      try rw [jk_m1] at X554
                      try rw [X553] at D
                      try rw [X554] at D
                      show jX m_X6_byParents 16 0 0 84 [(5, .int v490), (4, .int v6), (3, .int v4), (0, .ref 120), (1, .int a1), (2, .int 2)] [.int v555] _ 0 0 _
                      exact jX.sub jsb_n (ct_X6_byParents_r120_c2d_84 hD hQ  v555 h (jr_of rfl (by omega)) J Sm D)
                    ·
                      rw [if_neg (by omega)] at D
                      refine x_iconst (v := 1) rfl ki_1 ?_
                      refine x_goto (tgt := 23) rfl rfl ?_
                      refine x_zret rfl rfl (by decide) ?_
                      show jX m_X7_namedSoul 15 0 0 8 [(0, .ref 78), (1, .int v492)] [.int 1] _ 0 0 _
                      refine x_ifeq (tgt := 19) rfl rfl (ti_eq jk_1 jk_0 (br_f (by omega) ?_))
                      refine x_aloadn (x := 78) rfl rfl ?_
                      refine x_iloadn (x := v492) rfl rfl ?_
                      refine x_inv (N := m_X7_soulAt) (As := [.int v492]) (b := 78) (st := []) (dx9 := 14) (mc := 0) (ms := 0) (host := "") 7 rfl t_X7_soulAt ⟨Or.inl q_7_153, i_X7_soulAt.1, i_X7_soulAt.2⟩ ⟨by decide, rfl⟩ (congrArg Prod.fst (J.1.1 78 (7, 16) rfl)) rfl (by decide) rfl rfl ⟨by decide, by decide⟩ (jC.of rfl k_X7_soulAt rfl ?_)
                      show jX m_X7_soulAt 14 0 0 0 [(0, .ref 78), (1, .int v492)] [] _ 0 0 _
                      refine x_iloadn (x := v492) rfl rfl ?_
                      refine x_iflt (tgt := 36) rfl rfl (ti_lt rfl jk_0 (br_f (by omega) ?_))
                      refine x_iloadn (x := v492) rfl rfl ?_
                      refine x_sipush (v := 600) rfl ks_600 ?_
                      refine x_icge (tgt := 36) rfl rfl (ti_ge rfl jk_600 ⟨fun c556 => ?_, fun c556 => ?_⟩)
                      ·
                        rw [if_pos (by omega)] at D
                        refine x_iconst (v := (-1)) rfl ki_m1 ?_
                        refine x_iret rfl rfl ?_
                        show jX m_X7_namedSoul 15 0 0 16 [(0, .ref 78), (1, .int v492)] [.int (-1)] _ 0 0 _
                        refine x_goto (tgt := 20) rfl rfl ?_
                        refine x_iret rfl rfl ?_
                        show jX m_X6_byParents 16 0 0 76 [(5, .int v490), (4, .int v6), (3, .int v4), (0, .ref 120), (1, .int a1), (2, .int 2)] [.int (-1), .ref 120] _ 0 0 _
                        refine x_iload (x := v6) rfl rfl ?_
                        refine x_iloadn (x := 2) rfl rfl ?_
                        refine x_iconst (v := 1) rfl ki_1 ?_
                        refine y_iadd (v := 3) rfl (by decide) ?_
                        refine x_inv (N := m_X6_belongs) (As := [.int (-1), .int v6, .int 3]) (b := 120) (st := []) (dx9 := 15) (mc := 0) (ms := 0) (host := "") 6 rfl t_X6_belongs ⟨Or.inl q_6_127, i_X6_belongs.1, i_X6_belongs.2⟩ ⟨by decide, rfl⟩ (congrArg Prod.fst (J.1.1 120 (6, 8) rfl)) rfl (by decide) rfl rfl ⟨by decide, by decide⟩ (sf_X6_belongs_r120_c3d (jr_of jk_m1 (by omega)) (jr_of rfl (by omega)) hD J rfl  (fun v560 h ev560 J S557 X558 X559 => ?_))
                        have Sm := jSm_tr rfl Sm S557
                        try rw [jk_m1] at X558
                        try rw [jk_m1] at X559
                        try rw [X558] at D
                        try rw [X559] at D
                        show jX m_X6_byParents 16 0 0 84 [(5, .int v490), (4, .int v6), (3, .int v4), (0, .ref 120), (1, .int a1), (2, .int 2)] [.int v560] _ 0 0 _
                        exact jX.sub jsb_n (ct_X6_byParents_r120_c2d_84 hD hQ  v560 h (jr_of rfl (by omega)) J Sm D)
                      ·
                        rw [if_neg (by omega)] at D
                        refine x_iloadn (x := v492) rfl rfl ?_
                        refine x_iconst (v := 3) rfl ki_3 ?_
                        refine z_idiv rfl rfl jk_3 (by omega) (by omega) (fun v561 ev561 => ?_)
                        refine x_aloadn (x := 78) rfl rfl ?_
                        refine z_getR (N := 16) (b := 32) 7 0 rfl f_7_55 rfl J rfl 9984 ⟨rfl, rfl⟩ rfl ?_
                        refine z_getR (N := 20) (b := 33) 1 0 rfl f_7_63 rfl J rfl 4096 ⟨rfl, rfl⟩ rfl ?_
                        refine z_getM (N := 4) (v := v399) 8 3 rfl f_7_85 rfl J rfl (jmc S487 rfl qv399) ?_
                        refine x_icge (tgt := 36) rfl rfl (ti_ge rfl rfl ⟨fun c562 => ?_, fun c562 => ?_⟩)
                        ·
                          rw [if_pos (by omega)] at D
                          refine x_iconst (v := (-1)) rfl ki_m1 ?_
                          refine x_iret rfl rfl ?_
                          show jX m_X7_namedSoul 15 0 0 16 [(0, .ref 78), (1, .int v492)] [.int (-1)] _ 0 0 _
                          refine x_goto (tgt := 20) rfl rfl ?_
                          refine x_iret rfl rfl ?_
                          show jX m_X6_byParents 16 0 0 76 [(5, .int v490), (4, .int v6), (3, .int v4), (0, .ref 120), (1, .int a1), (2, .int 2)] [.int (-1), .ref 120] _ 0 0 _
                          refine x_iload (x := v6) rfl rfl ?_
                          refine x_iloadn (x := 2) rfl rfl ?_
                          refine x_iconst (v := 1) rfl ki_1 ?_
                          refine y_iadd (v := 3) rfl (by decide) ?_
                          refine x_inv (N := m_X6_belongs) (As := [.int (-1), .int v6, .int 3]) (b := 120) (st := []) (dx9 := 15) (mc := 0) (ms := 0) (host := "") 6 rfl t_X6_belongs ⟨Or.inl q_6_127, i_X6_belongs.1, i_X6_belongs.2⟩ ⟨by decide, rfl⟩ (congrArg Prod.fst (J.1.1 120 (6, 8) rfl)) rfl (by decide) rfl rfl ⟨by decide, by decide⟩ (sf_X6_belongs_r120_c3d (jr_of jk_m1 (by omega)) (jr_of rfl (by omega)) hD J rfl  (fun v566 h ev566 J S563 X564 X565 => ?_))
                          have Sm := jSm_tr rfl Sm S563
                          try rw [jk_m1] at X564
                          try rw [jk_m1] at X565
                          try rw [X564] at D
                          try rw [X565] at D
                          show jX m_X6_byParents 16 0 0 84 [(5, .int v490), (4, .int v6), (3, .int v4), (0, .ref 120), (1, .int a1), (2, .int 2)] [.int v566] _ 0 0 _
                          exact jX.sub jsb_n (ct_X6_byParents_r120_c2d_84 hD hQ  v566 h (jr_of rfl (by omega)) J Sm D)
                        ·
                          rw [if_neg (by omega)] at D
                          refine x_aloadn (x := 78) rfl rfl ?_
                          refine z_getR (N := 16) (b := 82) 7 10 rfl f_7_37 rfl J rfl 9994 ⟨rfl, rfl⟩ rfl ?_
                          refine x_iloadn (x := v492) rfl rfl ?_
                          refine z_iald (N := 600) rfl J rfl sg_82_0_600_1_0_1 rfl (by omega) (fun v567 qv567 ev567 => ?_)
                          try rw [vrd (jmb_c S487 qv567 rfl) (show (v4.toInt + 2) = v492.toInt from by omega)] at D
                          refine x_goto (tgt := 37) rfl rfl ?_
                          refine x_iret rfl rfl ?_
                          show jX m_X7_namedSoul 15 0 0 16 [(0, .ref 78), (1, .int v492)] [.int v567] _ 0 0 _
                          refine x_goto (tgt := 20) rfl rfl ?_
                          refine x_iret rfl rfl ?_
                          show jX m_X6_byParents 16 0 0 76 [(5, .int v490), (4, .int v6), (3, .int v4), (0, .ref 120), (1, .int a1), (2, .int 2)] [.int v567, .ref 120] _ 0 0 _
                          refine x_iload (x := v6) rfl rfl ?_
                          refine x_iloadn (x := 2) rfl rfl ?_
                          refine x_iconst (v := 1) rfl ki_1 ?_
                          refine y_iadd (v := 3) rfl (by decide) ?_
                          refine x_inv (N := m_X6_belongs) (As := [.int v567, .int v6, .int 3]) (b := 120) (st := []) (dx9 := 15) (mc := 0) (ms := 0) (host := "") 6 rfl t_X6_belongs ⟨Or.inl q_6_127, i_X6_belongs.1, i_X6_belongs.2⟩ ⟨by decide, rfl⟩ (congrArg Prod.fst (J.1.1 120 (6, 8) rfl)) rfl (by decide) rfl rfl ⟨by decide, by decide⟩ (sf_X6_belongs_r120_c3d (jr_of rfl (by omega)) (jr_of rfl (by omega)) hD J rfl  (fun v571 h ev571 J S568 X569 X570 => ?_))
                          have Sm := jSm_tr rfl Sm S568
                          try rw [X569] at D
                          try rw [X570] at D
                          show jX m_X6_byParents 16 0 0 84 [(5, .int v490), (4, .int v6), (3, .int v4), (0, .ref 120), (1, .int a1), (2, .int 2)] [.int v571] _ 0 0 _
                          exact jX.sub jsb_n (ct_X6_byParents_r120_c2d_84 hD hQ  v571 h (jr_of rfl (by omega)) J Sm D)
            ·
              rw [if_neg (by omega)] at D
              refine x_iload (x := v490) rfl rfl ?_
              refine x_goto (tgt := 84) rfl rfl ?_
              exact jX.sub jsb_n (ct_X6_byParents_r120_c2d_84 hD hQ  v490 h (jr_of rfl (by omega)) J Sm D)
      ·
        rw [if_neg (by omega)] at D
        refine x_aloadn (x := 70) rfl rfl ?_
        refine x_iloadn (x := v7) rfl rfl ?_
        refine x_iconst (v := 1) rfl ki_1 ?_
        refine x_inv (N := m_X5_lengthOf) (As := [.int v7, .int 1]) (b := 70) (st := []) (dx9 := 13) (mc := 0) (ms := 0) (host := "") 5 rfl t_X5_lengthOf ⟨Or.inl q_5_133, i_X5_lengthOf.1, i_X5_lengthOf.2⟩ ⟨by decide, rfl⟩ (congrArg Prod.fst (J.1.1 70 (5, 9) rfl)) rfl (by decide) rfl rfl ⟨by decide, by decide⟩ (jC.of rfl k_X5_lengthOf rfl ?_)
        show jX m_X5_lengthOf 13 0 0 0 [(0, .ref 70), (1, .int v7), (2, .int 1)] [] _ 0 0 _
        refine x_iloadn (x := v7) rfl rfl ?_
        refine x_iconst (v := 2) rfl ki_2 ?_
        refine z_imul rfl rfl jk_2 (by omega) (fun v572 ev572 => ?_)
        refine x_iloadn (x := 1) rfl rfl ?_
        refine z_iadd rfl rfl jk_1 (by omega) (fun v573 ev573 => ?_)
        refine x_istoren (lsx9 := [(3, .int v573), (0, .ref 70), (1, .int v7), (2, .int 1)]) rfl rfl rfl ?_
        refine x_iloadn (x := v573) rfl rfl ?_
        refine x_iflt (tgt := 26) rfl rfl (ti_lt rfl jk_0 (br_f (by omega) ?_))
        refine x_iloadn (x := v573) rfl rfl ?_
        refine x_sipush (v := 1200) rfl ks_1200 ?_
        refine x_icge (tgt := 26) rfl rfl (ti_ge rfl jk_1200 ⟨fun c574 => ?_, fun c574 => ?_⟩)
        ·
          rw [if_pos (by omega)] at D
          refine x_iconst (v := (-1)) rfl ki_m1 ?_
          refine x_iret rfl rfl ?_
          show jX m_X5_isNamed 14 0 0 15 [(0, .ref 70), (1, .int v7)] [.int (-1)] _ 0 0 _
          refine x_iflt (tgt := 22) rfl rfl (ti_lt jk_m1 jk_0 (br_t (by omega) ?_))
          refine x_iconst (v := 0) rfl ki_0 ?_
          refine x_zret rfl rfl (by decide) ?_
          show jX m_X7_namedSoul 15 0 0 8 [(0, .ref 78), (1, .int v7)] [.int 0] _ 0 0 _
          refine x_ifeq (tgt := 19) rfl rfl (ti_eq jk_0 jk_0 (br_t (by omega) ?_))
          refine x_iconst (v := (-1)) rfl ki_m1 ?_
          refine x_iret rfl rfl ?_
          show jX m_X6_byParents 16 0 0 44 [(4, .int v6), (3, .int v4), (0, .ref 120), (1, .int a1), (2, .int 2)] [.int (-1), .ref 120] _ 0 0 _
          refine x_iload (x := v6) rfl rfl ?_
          refine x_iloadn (x := 2) rfl rfl ?_
          refine x_iconst (v := 1) rfl ki_1 ?_
          refine y_iadd (v := 3) rfl (by decide) ?_
          refine x_inv (N := m_X6_belongs) (As := [.int (-1), .int v6, .int 3]) (b := 120) (st := []) (dx9 := 15) (mc := 0) (ms := 0) (host := "") 6 rfl t_X6_belongs ⟨Or.inl q_6_127, i_X6_belongs.1, i_X6_belongs.2⟩ ⟨by decide, rfl⟩ (congrArg Prod.fst (J.1.1 120 (6, 8) rfl)) rfl (by decide) rfl rfl ⟨by decide, by decide⟩ (sf_X6_belongs_r120_c3d (jr_of jk_m1 (by omega)) (jr_of rfl (by omega)) hD J rfl  (fun v578 h ev578 J S575 X576 X577 => ?_))
          have Sm := jSm_tr rfl Sm S575
          try rw [jk_m1] at X576
          try rw [jk_m1] at X577
          try rw [X576] at D
          try rw [X577] at D
          show jX m_X6_byParents 16 0 0 52 [(4, .int v6), (3, .int v4), (0, .ref 120), (1, .int a1), (2, .int 2)] [.int v578] _ 0 0 _
          refine x_istore (lsx9 := [(5, .int v578), (4, .int v6), (3, .int v4), (0, .ref 120), (1, .int a1), (2, .int 2)]) rfl rfl rfl ?_
          refine x_iload (x := v578) rfl rfl ?_
          refine x_iconst (v := (-1)) rfl ki_m1 ?_
          refine x_iceq (tgt := 65) rfl rfl (ti_eq rfl jk_m1 ⟨fun c579 => ?_, fun c579 => ?_⟩)
          ·
            rw [if_pos (by omega)] at D
            refine x_aloadn (x := 120) rfl rfl ?_
            refine x_aloadn (x := 120) rfl rfl ?_
            refine z_getR (N := 8) (b := 78) 6 1 rfl f_6_32 rfl J rfl 15361 ⟨rfl, rfl⟩ rfl ?_
            refine x_iloadn (x := v4) rfl rfl ?_
            refine x_iconst (v := 2) rfl ki_2 ?_
            refine z_iadd rfl rfl jk_2 (by omega) (fun v580 ev580 => ?_)
            refine x_inv (N := m_X7_namedSoul) (As := [.int v580]) (b := 78) (st := [.ref 120]) (dx9 := 15) (mc := 0) (ms := 0) (host := "") 7 rfl t_X7_namedSoul ⟨Or.inl q_6_124, i_X7_namedSoul.1, i_X7_namedSoul.2⟩ ⟨by decide, rfl⟩ (congrArg Prod.fst (J.1.1 78 (7, 16) rfl)) rfl (by decide) rfl rfl ⟨by decide, by decide⟩ (jC.of rfl k_X7_namedSoul rfl ?_)
            show jX m_X7_namedSoul 15 0 0 0 [(0, .ref 78), (1, .int v580)] [] _ 0 0 _
            refine x_aloadn (x := 78) rfl rfl ?_
            refine z_getR (N := 16) (b := 70) 7 1 rfl f_7_59 rfl J rfl 9985 ⟨rfl, rfl⟩ rfl ?_
            refine x_iloadn (x := v580) rfl rfl ?_
            refine x_inv (N := m_X5_isNamed) (As := [.int v580]) (b := 70) (st := []) (dx9 := 14) (mc := 0) (ms := 0) (host := "") 5 rfl t_X5_isNamed ⟨Or.inl q_7_173, i_X5_isNamed.1, i_X5_isNamed.2⟩ ⟨by decide, rfl⟩ (congrArg Prod.fst (J.1.1 70 (5, 9) rfl)) rfl (by decide) rfl rfl ⟨by decide, by decide⟩ (jC.of rfl k_X5_isNamed rfl ?_)
            show jX m_X5_isNamed 14 0 0 0 [(0, .ref 70), (1, .int v580)] [] _ 0 0 _
            refine x_aloadn (x := 70) rfl rfl ?_
            refine x_iloadn (x := v580) rfl rfl ?_
            refine x_iconst (v := 0) rfl ki_0 ?_
            refine x_inv (N := m_X5_lengthOf) (As := [.int v580, .int 0]) (b := 70) (st := []) (dx9 := 13) (mc := 0) (ms := 0) (host := "") 5 rfl t_X5_lengthOf ⟨Or.inl q_5_133, i_X5_lengthOf.1, i_X5_lengthOf.2⟩ ⟨by decide, rfl⟩ (congrArg Prod.fst (J.1.1 70 (5, 9) rfl)) rfl (by decide) rfl rfl ⟨by decide, by decide⟩ (jC.of rfl k_X5_lengthOf rfl ?_)
            show jX m_X5_lengthOf 13 0 0 0 [(0, .ref 70), (1, .int v580), (2, .int 0)] [] _ 0 0 _
            refine x_iloadn (x := v580) rfl rfl ?_
            refine x_iconst (v := 2) rfl ki_2 ?_
            refine z_imul rfl rfl jk_2 (by omega) (fun v581 ev581 => ?_)
            refine x_iloadn (x := 0) rfl rfl ?_
            refine z_iadd rfl rfl jk_0 (by omega) (fun v582 ev582 => ?_)
            refine x_istoren (lsx9 := [(3, .int v582), (0, .ref 70), (1, .int v580), (2, .int 0)]) rfl rfl rfl ?_
            refine x_iloadn (x := v582) rfl rfl ?_
            refine x_iflt (tgt := 26) rfl rfl (ti_lt rfl jk_0 (br_f (by omega) ?_))
            refine x_iloadn (x := v582) rfl rfl ?_
            refine x_sipush (v := 1200) rfl ks_1200 ?_
            refine x_icge (tgt := 26) rfl rfl (ti_ge rfl jk_1200 ⟨fun c583 => ?_, fun c583 => ?_⟩)
            ·
              rw [if_pos (by omega)] at D
              refine x_iconst (v := (-1)) rfl ki_m1 ?_
              refine x_iret rfl rfl ?_
              show jX m_X5_isNamed 14 0 0 6 [(0, .ref 70), (1, .int v580)] [.int (-1)] _ 0 0 _
              refine x_ifge (tgt := 18) rfl rfl (ti_ge jk_m1 jk_0 (br_f (by omega) ?_))
              refine x_aloadn (x := 70) rfl rfl ?_
              refine x_iloadn (x := v580) rfl rfl ?_
              refine x_iconst (v := 1) rfl ki_1 ?_
              refine x_inv (N := m_X5_lengthOf) (As := [.int v580, .int 1]) (b := 70) (st := []) (dx9 := 13) (mc := 0) (ms := 0) (host := "") 5 rfl t_X5_lengthOf ⟨Or.inl q_5_133, i_X5_lengthOf.1, i_X5_lengthOf.2⟩ ⟨by decide, rfl⟩ (congrArg Prod.fst (J.1.1 70 (5, 9) rfl)) rfl (by decide) rfl rfl ⟨by decide, by decide⟩ (jC.of rfl k_X5_lengthOf rfl ?_)
              show jX m_X5_lengthOf 13 0 0 0 [(0, .ref 70), (1, .int v580), (2, .int 1)] [] _ 0 0 _
              refine x_iloadn (x := v580) rfl rfl ?_
              refine x_iconst (v := 2) rfl ki_2 ?_
              refine z_imul rfl rfl jk_2 (by omega) (fun v584 ev584 => ?_)
              refine x_iloadn (x := 1) rfl rfl ?_
              refine z_iadd rfl rfl jk_1 (by omega) (fun v585 ev585 => ?_)
              refine x_istoren (lsx9 := [(3, .int v585), (0, .ref 70), (1, .int v580), (2, .int 1)]) rfl rfl rfl ?_
              refine x_iloadn (x := v585) rfl rfl ?_
              refine x_iflt (tgt := 26) rfl rfl (ti_lt rfl jk_0 (br_f (by omega) ?_))
              refine x_iloadn (x := v585) rfl rfl ?_
              refine x_sipush (v := 1200) rfl ks_1200 ?_
              refine x_icge (tgt := 26) rfl rfl (ti_ge rfl jk_1200 ⟨fun c586 => ?_, fun c586 => ?_⟩)
              ·
                rw [if_pos (by omega)] at D
                refine x_iconst (v := (-1)) rfl ki_m1 ?_
                refine x_iret rfl rfl ?_
                show jX m_X5_isNamed 14 0 0 15 [(0, .ref 70), (1, .int v580)] [.int (-1)] _ 0 0 _
                refine x_iflt (tgt := 22) rfl rfl (ti_lt jk_m1 jk_0 (br_t (by omega) ?_))
                refine x_iconst (v := 0) rfl ki_0 ?_
                refine x_zret rfl rfl (by decide) ?_
                show jX m_X7_namedSoul 15 0 0 8 [(0, .ref 78), (1, .int v580)] [.int 0] _ 0 0 _
                refine x_ifeq (tgt := 19) rfl rfl (ti_eq jk_0 jk_0 (br_t (by omega) ?_))
                refine x_iconst (v := (-1)) rfl ki_m1 ?_
                refine x_iret rfl rfl ?_
                show jX m_X6_byParents 16 0 0 76 [(5, .int v578), (4, .int v6), (3, .int v4), (0, .ref 120), (1, .int a1), (2, .int 2)] [.int (-1), .ref 120] _ 0 0 _
                refine x_iload (x := v6) rfl rfl ?_
                refine x_iloadn (x := 2) rfl rfl ?_
                refine x_iconst (v := 1) rfl ki_1 ?_
                refine y_iadd (v := 3) rfl (by decide) ?_
                refine x_inv (N := m_X6_belongs) (As := [.int (-1), .int v6, .int 3]) (b := 120) (st := []) (dx9 := 15) (mc := 0) (ms := 0) (host := "") 6 rfl t_X6_belongs ⟨Or.inl q_6_127, i_X6_belongs.1, i_X6_belongs.2⟩ ⟨by decide, rfl⟩ (congrArg Prod.fst (J.1.1 120 (6, 8) rfl)) rfl (by decide) rfl rfl ⟨by decide, by decide⟩ (sf_X6_belongs_r120_c3d (jr_of jk_m1 (by omega)) (jr_of rfl (by omega)) hD J rfl  (fun v590 h ev590 J S587 X588 X589 => ?_))
                have Sm := jSm_tr rfl Sm S587
                try rw [jk_m1] at X588
                try rw [jk_m1] at X589
                try rw [X588] at D
                try rw [X589] at D
                show jX m_X6_byParents 16 0 0 84 [(5, .int v578), (4, .int v6), (3, .int v4), (0, .ref 120), (1, .int a1), (2, .int 2)] [.int v590] _ 0 0 _
                exact jX.sub jsb_n (ct_X6_byParents_r120_c2d_84 hD hQ  v590 h (jr_of rfl (by omega)) J Sm D)
              ·
                rw [if_neg (by omega)] at D
                refine x_aloadn (x := 70) rfl rfl ?_
                refine z_getR (N := 9) (b := 76) 5 7 rfl f_5_28 rfl J rfl 8967 ⟨rfl, rfl⟩ rfl ?_
                refine x_iloadn (x := v585) rfl rfl ?_
                refine z_iald (N := 1200) rfl J rfl sg_76_0_1200_1_0_1 rfl (by omega) (fun v591 qv591 ev591 => ?_)
                try rw [vrd (jmb_c S575 qv591 rfl) (show (((v4.toInt + 2) * 2) + 1) = v585.toInt from by omega)] at D
                refine x_goto (tgt := 27) rfl rfl ?_
                refine x_iret rfl rfl ?_
                show jX m_X5_isNamed 14 0 0 15 [(0, .ref 70), (1, .int v580)] [.int v591] _ 0 0 _
                refine x_iflt (tgt := 22) rfl rfl (ti_lt rfl jk_0 ⟨fun c592 => ?_, fun c592 => ?_⟩)
                ·
                  rw [if_pos (by omega)] at D
                  refine x_iconst (v := 0) rfl ki_0 ?_
                  refine x_zret rfl rfl (by decide) ?_
                  show jX m_X7_namedSoul 15 0 0 8 [(0, .ref 78), (1, .int v580)] [.int 0] _ 0 0 _
                  refine x_ifeq (tgt := 19) rfl rfl (ti_eq jk_0 jk_0 (br_t (by omega) ?_))
                  refine x_iconst (v := (-1)) rfl ki_m1 ?_
                  refine x_iret rfl rfl ?_
                  show jX m_X6_byParents 16 0 0 76 [(5, .int v578), (4, .int v6), (3, .int v4), (0, .ref 120), (1, .int a1), (2, .int 2)] [.int (-1), .ref 120] _ 0 0 _
                  refine x_iload (x := v6) rfl rfl ?_
                  refine x_iloadn (x := 2) rfl rfl ?_
                  refine x_iconst (v := 1) rfl ki_1 ?_
                  refine y_iadd (v := 3) rfl (by decide) ?_
                  refine x_inv (N := m_X6_belongs) (As := [.int (-1), .int v6, .int 3]) (b := 120) (st := []) (dx9 := 15) (mc := 0) (ms := 0) (host := "") 6 rfl t_X6_belongs ⟨Or.inl q_6_127, i_X6_belongs.1, i_X6_belongs.2⟩ ⟨by decide, rfl⟩ (congrArg Prod.fst (J.1.1 120 (6, 8) rfl)) rfl (by decide) rfl rfl ⟨by decide, by decide⟩ (sf_X6_belongs_r120_c3d (jr_of jk_m1 (by omega)) (jr_of rfl (by omega)) hD J rfl  (fun v596 h ev596 J S593 X594 X595 => ?_))
                  have Sm := jSm_tr rfl Sm S593
                  try rw [jk_m1] at X594
                  try rw [jk_m1] at X595
                  try rw [X594] at D
                  try rw [X595] at D
                  show jX m_X6_byParents 16 0 0 84 [(5, .int v578), (4, .int v6), (3, .int v4), (0, .ref 120), (1, .int a1), (2, .int 2)] [.int v596] _ 0 0 _
                  exact jX.sub jsb_n (ct_X6_byParents_r120_c2d_84 hD hQ  v596 h (jr_of rfl (by omega)) J Sm D)
                ·
                  rw [if_neg (by omega)] at D
                  refine x_iconst (v := 1) rfl ki_1 ?_
                  refine x_goto (tgt := 23) rfl rfl ?_
                  refine x_zret rfl rfl (by decide) ?_
                  show jX m_X7_namedSoul 15 0 0 8 [(0, .ref 78), (1, .int v580)] [.int 1] _ 0 0 _
                  refine x_ifeq (tgt := 19) rfl rfl (ti_eq jk_1 jk_0 (br_f (by omega) ?_))
                  refine x_aloadn (x := 78) rfl rfl ?_
                  refine x_iloadn (x := v580) rfl rfl ?_
                  refine x_inv (N := m_X7_soulAt) (As := [.int v580]) (b := 78) (st := []) (dx9 := 14) (mc := 0) (ms := 0) (host := "") 7 rfl t_X7_soulAt ⟨Or.inl q_7_153, i_X7_soulAt.1, i_X7_soulAt.2⟩ ⟨by decide, rfl⟩ (congrArg Prod.fst (J.1.1 78 (7, 16) rfl)) rfl (by decide) rfl rfl ⟨by decide, by decide⟩ (jC.of rfl k_X7_soulAt rfl ?_)
                  show jX m_X7_soulAt 14 0 0 0 [(0, .ref 78), (1, .int v580)] [] _ 0 0 _
                  refine x_iloadn (x := v580) rfl rfl ?_
                  refine x_iflt (tgt := 36) rfl rfl (ti_lt rfl jk_0 (br_f (by omega) ?_))
                  refine x_iloadn (x := v580) rfl rfl ?_
                  refine x_sipush (v := 600) rfl ks_600 ?_
                  refine x_icge (tgt := 36) rfl rfl (ti_ge rfl jk_600 ⟨fun c597 => ?_, fun c597 => ?_⟩)
                  ·
                    rw [if_pos (by omega)] at D
                    refine x_iconst (v := (-1)) rfl ki_m1 ?_
                    refine x_iret rfl rfl ?_
                    show jX m_X7_namedSoul 15 0 0 16 [(0, .ref 78), (1, .int v580)] [.int (-1)] _ 0 0 _
                    refine x_goto (tgt := 20) rfl rfl ?_
                    refine x_iret rfl rfl ?_
                    show jX m_X6_byParents 16 0 0 76 [(5, .int v578), (4, .int v6), (3, .int v4), (0, .ref 120), (1, .int a1), (2, .int 2)] [.int (-1), .ref 120] _ 0 0 _
                    refine x_iload (x := v6) rfl rfl ?_
                    refine x_iloadn (x := 2) rfl rfl ?_
                    refine x_iconst (v := 1) rfl ki_1 ?_
                    refine y_iadd (v := 3) rfl (by decide) ?_
                    refine x_inv (N := m_X6_belongs) (As := [.int (-1), .int v6, .int 3]) (b := 120) (st := []) (dx9 := 15) (mc := 0) (ms := 0) (host := "") 6 rfl t_X6_belongs ⟨Or.inl q_6_127, i_X6_belongs.1, i_X6_belongs.2⟩ ⟨by decide, rfl⟩ (congrArg Prod.fst (J.1.1 120 (6, 8) rfl)) rfl (by decide) rfl rfl ⟨by decide, by decide⟩ (sf_X6_belongs_r120_c3d (jr_of jk_m1 (by omega)) (jr_of rfl (by omega)) hD J rfl  (fun v601 h ev601 J S598 X599 X600 => ?_))
                    have Sm := jSm_tr rfl Sm S598
                    try rw [jk_m1] at X599
                    try rw [jk_m1] at X600
                    try rw [X599] at D
                    try rw [X600] at D
                    show jX m_X6_byParents 16 0 0 84 [(5, .int v578), (4, .int v6), (3, .int v4), (0, .ref 120), (1, .int a1), (2, .int 2)] [.int v601] _ 0 0 _
                    exact jX.sub jsb_n (ct_X6_byParents_r120_c2d_84 hD hQ  v601 h (jr_of rfl (by omega)) J Sm D)
                  ·
                    rw [if_neg (by omega)] at D
                    refine x_iloadn (x := v580) rfl rfl ?_
                    refine x_iconst (v := 3) rfl ki_3 ?_
                    refine z_idiv rfl rfl jk_3 (by omega) (by omega) (fun v602 ev602 => ?_)
                    refine x_aloadn (x := 78) rfl rfl ?_
                    refine z_getR (N := 16) (b := 32) 7 0 rfl f_7_55 rfl J rfl 9984 ⟨rfl, rfl⟩ rfl ?_
                    refine z_getR (N := 20) (b := 33) 1 0 rfl f_7_63 rfl J rfl 4096 ⟨rfl, rfl⟩ rfl ?_
                    refine z_getI (N := 4) 8 3 rfl f_7_85 rfl J rfl sg_33_3_4_1_0_1 (fun v603 qv603 ev603 => ?_)
                    try rw [vrf (jmb_c S575 qv603 rfl)] at D
                    refine x_icge (tgt := 36) rfl rfl (ti_ge rfl rfl ⟨fun c604 => ?_, fun c604 => ?_⟩)
                    ·
                      rw [if_pos (by omega)] at D
                      refine x_iconst (v := (-1)) rfl ki_m1 ?_
                      refine x_iret rfl rfl ?_
                      show jX m_X7_namedSoul 15 0 0 16 [(0, .ref 78), (1, .int v580)] [.int (-1)] _ 0 0 _
                      refine x_goto (tgt := 20) rfl rfl ?_
                      refine x_iret rfl rfl ?_
                      show jX m_X6_byParents 16 0 0 76 [(5, .int v578), (4, .int v6), (3, .int v4), (0, .ref 120), (1, .int a1), (2, .int 2)] [.int (-1), .ref 120] _ 0 0 _
                      refine x_iload (x := v6) rfl rfl ?_
                      refine x_iloadn (x := 2) rfl rfl ?_
                      refine x_iconst (v := 1) rfl ki_1 ?_
                      refine y_iadd (v := 3) rfl (by decide) ?_
                      refine x_inv (N := m_X6_belongs) (As := [.int (-1), .int v6, .int 3]) (b := 120) (st := []) (dx9 := 15) (mc := 0) (ms := 0) (host := "") 6 rfl t_X6_belongs ⟨Or.inl q_6_127, i_X6_belongs.1, i_X6_belongs.2⟩ ⟨by decide, rfl⟩ (congrArg Prod.fst (J.1.1 120 (6, 8) rfl)) rfl (by decide) rfl rfl ⟨by decide, by decide⟩ (sf_X6_belongs_r120_c3d (jr_of jk_m1 (by omega)) (jr_of rfl (by omega)) hD J rfl  (fun v608 h ev608 J S605 X606 X607 => ?_))
                      have Sm := jSm_tr rfl Sm S605
                      try rw [jk_m1] at X606
                      try rw [jk_m1] at X607
                      try rw [X606] at D
                      try rw [X607] at D
                      show jX m_X6_byParents 16 0 0 84 [(5, .int v578), (4, .int v6), (3, .int v4), (0, .ref 120), (1, .int a1), (2, .int 2)] [.int v608] _ 0 0 _
                      exact jX.sub jsb_n (ct_X6_byParents_r120_c2d_84 hD hQ  v608 h (jr_of rfl (by omega)) J Sm D)
                    ·
                      rw [if_neg (by omega)] at D
                      refine x_aloadn (x := 78) rfl rfl ?_
                      refine z_getR (N := 16) (b := 82) 7 10 rfl f_7_37 rfl J rfl 9994 ⟨rfl, rfl⟩ rfl ?_
                      refine x_iloadn (x := v580) rfl rfl ?_
                      refine z_iald (N := 600) rfl J rfl sg_82_0_600_1_0_1 rfl (by omega) (fun v609 qv609 ev609 => ?_)
                      try rw [vrd (jmb_c S575 qv609 rfl) (show (v4.toInt + 2) = v580.toInt from by omega)] at D
                      refine x_goto (tgt := 37) rfl rfl ?_
                      refine x_iret rfl rfl ?_
                      show jX m_X7_namedSoul 15 0 0 16 [(0, .ref 78), (1, .int v580)] [.int v609] _ 0 0 _
                      refine x_goto (tgt := 20) rfl rfl ?_
                      refine x_iret rfl rfl ?_
                      show jX m_X6_byParents 16 0 0 76 [(5, .int v578), (4, .int v6), (3, .int v4), (0, .ref 120), (1, .int a1), (2, .int 2)] [.int v609, .ref 120] _ 0 0 _
                      refine x_iload (x := v6) rfl rfl ?_
                      refine x_iloadn (x := 2) rfl rfl ?_
                      refine x_iconst (v := 1) rfl ki_1 ?_
                      refine y_iadd (v := 3) rfl (by decide) ?_
                      refine x_inv (N := m_X6_belongs) (As := [.int v609, .int v6, .int 3]) (b := 120) (st := []) (dx9 := 15) (mc := 0) (ms := 0) (host := "") 6 rfl t_X6_belongs ⟨Or.inl q_6_127, i_X6_belongs.1, i_X6_belongs.2⟩ ⟨by decide, rfl⟩ (congrArg Prod.fst (J.1.1 120 (6, 8) rfl)) rfl (by decide) rfl rfl ⟨by decide, by decide⟩ (sf_X6_belongs_r120_c3d (jr_of rfl (by omega)) (jr_of rfl (by omega)) hD J rfl  (fun v613 h ev613 J S610 X611 X612 => ?_))
                      have Sm := jSm_tr rfl Sm S610
                      try rw [X611] at D
                      try rw [X612] at D
                      show jX m_X6_byParents 16 0 0 84 [(5, .int v578), (4, .int v6), (3, .int v4), (0, .ref 120), (1, .int a1), (2, .int 2)] [.int v613] _ 0 0 _
                      exact jX.sub jsb_n (ct_X6_byParents_r120_c2d_84 hD hQ  v613 h (jr_of rfl (by omega)) J Sm D)
            ·
              rw [if_neg (by omega)] at D
              refine x_aloadn (x := 70) rfl rfl ?_
              refine z_getR (N := 9) (b := 76) 5 7 rfl f_5_28 rfl J rfl 8967 ⟨rfl, rfl⟩ rfl ?_
              refine x_iloadn (x := v582) rfl rfl ?_
              refine z_iald (N := 1200) rfl J rfl sg_76_0_1200_1_0_1 rfl (by omega) (fun v614 qv614 ev614 => ?_)
              try rw [vrd (jmb_c S575 qv614 rfl) (show (((v4.toInt + 2) * 2) + 0) = v582.toInt from by omega)] at D
              refine x_goto (tgt := 27) rfl rfl ?_
              refine x_iret rfl rfl ?_
              show jX m_X5_isNamed 14 0 0 6 [(0, .ref 70), (1, .int v580)] [.int v614] _ 0 0 _
              refine x_ifge (tgt := 18) rfl rfl (ti_ge rfl jk_0 ⟨fun c615 => ?_, fun c615 => ?_⟩)
              ·
                rw [if_pos (by omega)] at D
                refine x_iconst (v := 1) rfl ki_1 ?_
                refine x_goto (tgt := 23) rfl rfl ?_
                refine x_zret rfl rfl (by decide) ?_
                show jX m_X7_namedSoul 15 0 0 8 [(0, .ref 78), (1, .int v580)] [.int 1] _ 0 0 _
                refine x_ifeq (tgt := 19) rfl rfl (ti_eq jk_1 jk_0 (br_f (by omega) ?_))
                refine x_aloadn (x := 78) rfl rfl ?_
                refine x_iloadn (x := v580) rfl rfl ?_
                refine x_inv (N := m_X7_soulAt) (As := [.int v580]) (b := 78) (st := []) (dx9 := 14) (mc := 0) (ms := 0) (host := "") 7 rfl t_X7_soulAt ⟨Or.inl q_7_153, i_X7_soulAt.1, i_X7_soulAt.2⟩ ⟨by decide, rfl⟩ (congrArg Prod.fst (J.1.1 78 (7, 16) rfl)) rfl (by decide) rfl rfl ⟨by decide, by decide⟩ (jC.of rfl k_X7_soulAt rfl ?_)
                show jX m_X7_soulAt 14 0 0 0 [(0, .ref 78), (1, .int v580)] [] _ 0 0 _
                refine x_iloadn (x := v580) rfl rfl ?_
                refine x_iflt (tgt := 36) rfl rfl (ti_lt rfl jk_0 (br_f (by omega) ?_))
                refine x_iloadn (x := v580) rfl rfl ?_
                refine x_sipush (v := 600) rfl ks_600 ?_
                refine x_icge (tgt := 36) rfl rfl (ti_ge rfl jk_600 ⟨fun c616 => ?_, fun c616 => ?_⟩)
                ·
                  rw [if_pos (by omega)] at D
                  refine x_iconst (v := (-1)) rfl ki_m1 ?_
                  refine x_iret rfl rfl ?_
                  show jX m_X7_namedSoul 15 0 0 16 [(0, .ref 78), (1, .int v580)] [.int (-1)] _ 0 0 _
                  refine x_goto (tgt := 20) rfl rfl ?_
                  refine x_iret rfl rfl ?_
                  show jX m_X6_byParents 16 0 0 76 [(5, .int v578), (4, .int v6), (3, .int v4), (0, .ref 120), (1, .int a1), (2, .int 2)] [.int (-1), .ref 120] _ 0 0 _
                  refine x_iload (x := v6) rfl rfl ?_
                  refine x_iloadn (x := 2) rfl rfl ?_
                  refine x_iconst (v := 1) rfl ki_1 ?_
                  refine y_iadd (v := 3) rfl (by decide) ?_
                  refine x_inv (N := m_X6_belongs) (As := [.int (-1), .int v6, .int 3]) (b := 120) (st := []) (dx9 := 15) (mc := 0) (ms := 0) (host := "") 6 rfl t_X6_belongs ⟨Or.inl q_6_127, i_X6_belongs.1, i_X6_belongs.2⟩ ⟨by decide, rfl⟩ (congrArg Prod.fst (J.1.1 120 (6, 8) rfl)) rfl (by decide) rfl rfl ⟨by decide, by decide⟩ (sf_X6_belongs_r120_c3d (jr_of jk_m1 (by omega)) (jr_of rfl (by omega)) hD J rfl  (fun v620 h ev620 J S617 X618 X619 => ?_))
                  have Sm := jSm_tr rfl Sm S617
                  try rw [jk_m1] at X618
                  try rw [jk_m1] at X619
                  try rw [X618] at D
                  try rw [X619] at D
                  show jX m_X6_byParents 16 0 0 84 [(5, .int v578), (4, .int v6), (3, .int v4), (0, .ref 120), (1, .int a1), (2, .int 2)] [.int v620] _ 0 0 _
                  exact jX.sub jsb_n (ct_X6_byParents_r120_c2d_84 hD hQ  v620 h (jr_of rfl (by omega)) J Sm D)
                ·
                  rw [if_neg (by omega)] at D
                  refine x_iloadn (x := v580) rfl rfl ?_
                  refine x_iconst (v := 3) rfl ki_3 ?_
                  refine z_idiv rfl rfl jk_3 (by omega) (by omega) (fun v621 ev621 => ?_)
                  refine x_aloadn (x := 78) rfl rfl ?_
                  refine z_getR (N := 16) (b := 32) 7 0 rfl f_7_55 rfl J rfl 9984 ⟨rfl, rfl⟩ rfl ?_
                  refine z_getR (N := 20) (b := 33) 1 0 rfl f_7_63 rfl J rfl 4096 ⟨rfl, rfl⟩ rfl ?_
                  refine z_getI (N := 4) 8 3 rfl f_7_85 rfl J rfl sg_33_3_4_1_0_1 (fun v622 qv622 ev622 => ?_)
                  try rw [vrf (jmb_c S575 qv622 rfl)] at D
                  refine x_icge (tgt := 36) rfl rfl (ti_ge rfl rfl ⟨fun c623 => ?_, fun c623 => ?_⟩)
                  ·
                    rw [if_pos (by omega)] at D
                    refine x_iconst (v := (-1)) rfl ki_m1 ?_
                    refine x_iret rfl rfl ?_
                    show jX m_X7_namedSoul 15 0 0 16 [(0, .ref 78), (1, .int v580)] [.int (-1)] _ 0 0 _
                    refine x_goto (tgt := 20) rfl rfl ?_
                    refine x_iret rfl rfl ?_
                    show jX m_X6_byParents 16 0 0 76 [(5, .int v578), (4, .int v6), (3, .int v4), (0, .ref 120), (1, .int a1), (2, .int 2)] [.int (-1), .ref 120] _ 0 0 _
                    refine x_iload (x := v6) rfl rfl ?_
                    refine x_iloadn (x := 2) rfl rfl ?_
                    refine x_iconst (v := 1) rfl ki_1 ?_
                    refine y_iadd (v := 3) rfl (by decide) ?_
                    refine x_inv (N := m_X6_belongs) (As := [.int (-1), .int v6, .int 3]) (b := 120) (st := []) (dx9 := 15) (mc := 0) (ms := 0) (host := "") 6 rfl t_X6_belongs ⟨Or.inl q_6_127, i_X6_belongs.1, i_X6_belongs.2⟩ ⟨by decide, rfl⟩ (congrArg Prod.fst (J.1.1 120 (6, 8) rfl)) rfl (by decide) rfl rfl ⟨by decide, by decide⟩ (sf_X6_belongs_r120_c3d (jr_of jk_m1 (by omega)) (jr_of rfl (by omega)) hD J rfl  (fun v627 h ev627 J S624 X625 X626 => ?_))
                    have Sm := jSm_tr rfl Sm S624
                    try rw [jk_m1] at X625
                    try rw [jk_m1] at X626
                    try rw [X625] at D
                    try rw [X626] at D
                    show jX m_X6_byParents 16 0 0 84 [(5, .int v578), (4, .int v6), (3, .int v4), (0, .ref 120), (1, .int a1), (2, .int 2)] [.int v627] _ 0 0 _
                    exact jX.sub jsb_n (ct_X6_byParents_r120_c2d_84 hD hQ  v627 h (jr_of rfl (by omega)) J Sm D)
                  ·
                    rw [if_neg (by omega)] at D
                    refine x_aloadn (x := 78) rfl rfl ?_
                    refine z_getR (N := 16) (b := 82) 7 10 rfl f_7_37 rfl J rfl 9994 ⟨rfl, rfl⟩ rfl ?_
                    refine x_iloadn (x := v580) rfl rfl ?_
                    refine z_iald (N := 600) rfl J rfl sg_82_0_600_1_0_1 rfl (by omega) (fun v628 qv628 ev628 => ?_)
                    try rw [vrd (jmb_c S575 qv628 rfl) (show (v4.toInt + 2) = v580.toInt from by omega)] at D
                    refine x_goto (tgt := 37) rfl rfl ?_
                    refine x_iret rfl rfl ?_
                    show jX m_X7_namedSoul 15 0 0 16 [(0, .ref 78), (1, .int v580)] [.int v628] _ 0 0 _
                    refine x_goto (tgt := 20) rfl rfl ?_
                    refine x_iret rfl rfl ?_
                    show jX m_X6_byParents 16 0 0 76 [(5, .int v578), (4, .int v6), (3, .int v4), (0, .ref 120), (1, .int a1), (2, .int 2)] [.int v628, .ref 120] _ 0 0 _
                    refine x_iload (x := v6) rfl rfl ?_
                    refine x_iloadn (x := 2) rfl rfl ?_
                    refine x_iconst (v := 1) rfl ki_1 ?_
                    refine y_iadd (v := 3) rfl (by decide) ?_
                    refine x_inv (N := m_X6_belongs) (As := [.int v628, .int v6, .int 3]) (b := 120) (st := []) (dx9 := 15) (mc := 0) (ms := 0) (host := "") 6 rfl t_X6_belongs ⟨Or.inl q_6_127, i_X6_belongs.1, i_X6_belongs.2⟩ ⟨by decide, rfl⟩ (congrArg Prod.fst (J.1.1 120 (6, 8) rfl)) rfl (by decide) rfl rfl ⟨by decide, by decide⟩ (sf_X6_belongs_r120_c3d (jr_of rfl (by omega)) (jr_of rfl (by omega)) hD J rfl  (fun v632 h ev632 J S629 X630 X631 => ?_))
                    have Sm := jSm_tr rfl Sm S629
                    try rw [X630] at D
                    try rw [X631] at D
                    show jX m_X6_byParents 16 0 0 84 [(5, .int v578), (4, .int v6), (3, .int v4), (0, .ref 120), (1, .int a1), (2, .int 2)] [.int v632] _ 0 0 _
                    exact jX.sub jsb_n (ct_X6_byParents_r120_c2d_84 hD hQ  v632 h (jr_of rfl (by omega)) J Sm D)
              ·
                rw [if_neg (by omega)] at D
                refine x_aloadn (x := 70) rfl rfl ?_
                refine x_iloadn (x := v580) rfl rfl ?_
                refine x_iconst (v := 1) rfl ki_1 ?_
                refine x_inv (N := m_X5_lengthOf) (As := [.int v580, .int 1]) (b := 70) (st := []) (dx9 := 13) (mc := 0) (ms := 0) (host := "") 5 rfl t_X5_lengthOf ⟨Or.inl q_5_133, i_X5_lengthOf.1, i_X5_lengthOf.2⟩ ⟨by decide, rfl⟩ (congrArg Prod.fst (J.1.1 70 (5, 9) rfl)) rfl (by decide) rfl rfl ⟨by decide, by decide⟩ (jC.of rfl k_X5_lengthOf rfl ?_)
                show jX m_X5_lengthOf 13 0 0 0 [(0, .ref 70), (1, .int v580), (2, .int 1)] [] _ 0 0 _
                refine x_iloadn (x := v580) rfl rfl ?_
                refine x_iconst (v := 2) rfl ki_2 ?_
                refine z_imul rfl rfl jk_2 (by omega) (fun v633 ev633 => ?_)
                refine x_iloadn (x := 1) rfl rfl ?_
                refine z_iadd rfl rfl jk_1 (by omega) (fun v634 ev634 => ?_)
                refine x_istoren (lsx9 := [(3, .int v634), (0, .ref 70), (1, .int v580), (2, .int 1)]) rfl rfl rfl ?_
                refine x_iloadn (x := v634) rfl rfl ?_
                refine x_iflt (tgt := 26) rfl rfl (ti_lt rfl jk_0 (br_f (by omega) ?_))
                refine x_iloadn (x := v634) rfl rfl ?_
                refine x_sipush (v := 1200) rfl ks_1200 ?_
                refine x_icge (tgt := 26) rfl rfl (ti_ge rfl jk_1200 ⟨fun c635 => ?_, fun c635 => ?_⟩)
                ·
                  rw [if_pos (by omega)] at D
                  refine x_iconst (v := (-1)) rfl ki_m1 ?_
                  refine x_iret rfl rfl ?_
                  show jX m_X5_isNamed 14 0 0 15 [(0, .ref 70), (1, .int v580)] [.int (-1)] _ 0 0 _
                  refine x_iflt (tgt := 22) rfl rfl (ti_lt jk_m1 jk_0 (br_t (by omega) ?_))
                  refine x_iconst (v := 0) rfl ki_0 ?_
                  refine x_zret rfl rfl (by decide) ?_
                  show jX m_X7_namedSoul 15 0 0 8 [(0, .ref 78), (1, .int v580)] [.int 0] _ 0 0 _
                  refine x_ifeq (tgt := 19) rfl rfl (ti_eq jk_0 jk_0 (br_t (by omega) ?_))
                  refine x_iconst (v := (-1)) rfl ki_m1 ?_
                  refine x_iret rfl rfl ?_
                  show jX m_X6_byParents 16 0 0 76 [(5, .int v578), (4, .int v6), (3, .int v4), (0, .ref 120), (1, .int a1), (2, .int 2)] [.int (-1), .ref 120] _ 0 0 _
                  refine x_iload (x := v6) rfl rfl ?_
                  refine x_iloadn (x := 2) rfl rfl ?_
                  refine x_iconst (v := 1) rfl ki_1 ?_
                  refine y_iadd (v := 3) rfl (by decide) ?_
                  refine x_inv (N := m_X6_belongs) (As := [.int (-1), .int v6, .int 3]) (b := 120) (st := []) (dx9 := 15) (mc := 0) (ms := 0) (host := "") 6 rfl t_X6_belongs ⟨Or.inl q_6_127, i_X6_belongs.1, i_X6_belongs.2⟩ ⟨by decide, rfl⟩ (congrArg Prod.fst (J.1.1 120 (6, 8) rfl)) rfl (by decide) rfl rfl ⟨by decide, by decide⟩ (sf_X6_belongs_r120_c3d (jr_of jk_m1 (by omega)) (jr_of rfl (by omega)) hD J rfl  (fun v639 h ev639 J S636 X637 X638 => ?_))
                  have Sm := jSm_tr rfl Sm S636
                  try rw [jk_m1] at X637
                  try rw [jk_m1] at X638
                  try rw [X637] at D
                  try rw [X638] at D
                  show jX m_X6_byParents 16 0 0 84 [(5, .int v578), (4, .int v6), (3, .int v4), (0, .ref 120), (1, .int a1), (2, .int 2)] [.int v639] _ 0 0 _
                  exact jX.sub jsb_n (ct_X6_byParents_r120_c2d_84 hD hQ  v639 h (jr_of rfl (by omega)) J Sm D)
                ·
                  rw [if_neg (by omega)] at D
                  refine x_aloadn (x := 70) rfl rfl ?_
                  refine z_getR (N := 9) (b := 76) 5 7 rfl f_5_28 rfl J rfl 8967 ⟨rfl, rfl⟩ rfl ?_
                  refine x_iloadn (x := v634) rfl rfl ?_
                  refine z_iald (N := 1200) rfl J rfl sg_76_0_1200_1_0_1 rfl (by omega) (fun v640 qv640 ev640 => ?_)
                  try rw [vrd (jmb_c S575 qv640 rfl) (show (((v4.toInt + 2) * 2) + 1) = v634.toInt from by omega)] at D
                  refine x_goto (tgt := 27) rfl rfl ?_
                  refine x_iret rfl rfl ?_
                  show jX m_X5_isNamed 14 0 0 15 [(0, .ref 70), (1, .int v580)] [.int v640] _ 0 0 _
                  refine x_iflt (tgt := 22) rfl rfl (ti_lt rfl jk_0 ⟨fun c641 => ?_, fun c641 => ?_⟩)
                  ·
                    rw [if_pos (by omega)] at D
                    refine x_iconst (v := 0) rfl ki_0 ?_
                    refine x_zret rfl rfl (by decide) ?_
                    show jX m_X7_namedSoul 15 0 0 8 [(0, .ref 78), (1, .int v580)] [.int 0] _ 0 0 _
                    refine x_ifeq (tgt := 19) rfl rfl (ti_eq jk_0 jk_0 (br_t (by omega) ?_))
                    refine x_iconst (v := (-1)) rfl ki_m1 ?_
                    refine x_iret rfl rfl ?_
                    show jX m_X6_byParents 16 0 0 76 [(5, .int v578), (4, .int v6), (3, .int v4), (0, .ref 120), (1, .int a1), (2, .int 2)] [.int (-1), .ref 120] _ 0 0 _
                    refine x_iload (x := v6) rfl rfl ?_
                    refine x_iloadn (x := 2) rfl rfl ?_
                    refine x_iconst (v := 1) rfl ki_1 ?_
                    refine y_iadd (v := 3) rfl (by decide) ?_
                    refine x_inv (N := m_X6_belongs) (As := [.int (-1), .int v6, .int 3]) (b := 120) (st := []) (dx9 := 15) (mc := 0) (ms := 0) (host := "") 6 rfl t_X6_belongs ⟨Or.inl q_6_127, i_X6_belongs.1, i_X6_belongs.2⟩ ⟨by decide, rfl⟩ (congrArg Prod.fst (J.1.1 120 (6, 8) rfl)) rfl (by decide) rfl rfl ⟨by decide, by decide⟩ (sf_X6_belongs_r120_c3d (jr_of jk_m1 (by omega)) (jr_of rfl (by omega)) hD J rfl  (fun v645 h ev645 J S642 X643 X644 => ?_))
                    have Sm := jSm_tr rfl Sm S642
                    try rw [jk_m1] at X643
                    try rw [jk_m1] at X644
                    try rw [X643] at D
                    try rw [X644] at D
                    show jX m_X6_byParents 16 0 0 84 [(5, .int v578), (4, .int v6), (3, .int v4), (0, .ref 120), (1, .int a1), (2, .int 2)] [.int v645] _ 0 0 _
                    exact jX.sub jsb_n (ct_X6_byParents_r120_c2d_84 hD hQ  v645 h (jr_of rfl (by omega)) J Sm D)
                  ·
                    rw [if_neg (by omega)] at D
                    refine x_iconst (v := 1) rfl ki_1 ?_
                    refine x_goto (tgt := 23) rfl rfl ?_
                    refine x_zret rfl rfl (by decide) ?_
                    show jX m_X7_namedSoul 15 0 0 8 [(0, .ref 78), (1, .int v580)] [.int 1] _ 0 0 _
                    refine x_ifeq (tgt := 19) rfl rfl (ti_eq jk_1 jk_0 (br_f (by omega) ?_))
                    refine x_aloadn (x := 78) rfl rfl ?_
                    refine x_iloadn (x := v580) rfl rfl ?_
                    refine x_inv (N := m_X7_soulAt) (As := [.int v580]) (b := 78) (st := []) (dx9 := 14) (mc := 0) (ms := 0) (host := "") 7 rfl t_X7_soulAt ⟨Or.inl q_7_153, i_X7_soulAt.1, i_X7_soulAt.2⟩ ⟨by decide, rfl⟩ (congrArg Prod.fst (J.1.1 78 (7, 16) rfl)) rfl (by decide) rfl rfl ⟨by decide, by decide⟩ (jC.of rfl k_X7_soulAt rfl ?_)
                    show jX m_X7_soulAt 14 0 0 0 [(0, .ref 78), (1, .int v580)] [] _ 0 0 _
                    refine x_iloadn (x := v580) rfl rfl ?_
                    refine x_iflt (tgt := 36) rfl rfl (ti_lt rfl jk_0 (br_f (by omega) ?_))
                    refine x_iloadn (x := v580) rfl rfl ?_
                    refine x_sipush (v := 600) rfl ks_600 ?_
                    refine x_icge (tgt := 36) rfl rfl (ti_ge rfl jk_600 ⟨fun c646 => ?_, fun c646 => ?_⟩)
                    ·
                      rw [if_pos (by omega)] at D
                      refine x_iconst (v := (-1)) rfl ki_m1 ?_
                      refine x_iret rfl rfl ?_
                      show jX m_X7_namedSoul 15 0 0 16 [(0, .ref 78), (1, .int v580)] [.int (-1)] _ 0 0 _
                      refine x_goto (tgt := 20) rfl rfl ?_
                      refine x_iret rfl rfl ?_
                      show jX m_X6_byParents 16 0 0 76 [(5, .int v578), (4, .int v6), (3, .int v4), (0, .ref 120), (1, .int a1), (2, .int 2)] [.int (-1), .ref 120] _ 0 0 _
                      refine x_iload (x := v6) rfl rfl ?_
                      refine x_iloadn (x := 2) rfl rfl ?_
                      refine x_iconst (v := 1) rfl ki_1 ?_
                      refine y_iadd (v := 3) rfl (by decide) ?_
                      refine x_inv (N := m_X6_belongs) (As := [.int (-1), .int v6, .int 3]) (b := 120) (st := []) (dx9 := 15) (mc := 0) (ms := 0) (host := "") 6 rfl t_X6_belongs ⟨Or.inl q_6_127, i_X6_belongs.1, i_X6_belongs.2⟩ ⟨by decide, rfl⟩ (congrArg Prod.fst (J.1.1 120 (6, 8) rfl)) rfl (by decide) rfl rfl ⟨by decide, by decide⟩ (sf_X6_belongs_r120_c3d (jr_of jk_m1 (by omega)) (jr_of rfl (by omega)) hD J rfl  (fun v650 h ev650 J S647 X648 X649 => ?_))
                      have Sm := jSm_tr rfl Sm S647
                      try rw [jk_m1] at X648
                      try rw [jk_m1] at X649
                      try rw [X648] at D
                      try rw [X649] at D
                      show jX m_X6_byParents 16 0 0 84 [(5, .int v578), (4, .int v6), (3, .int v4), (0, .ref 120), (1, .int a1), (2, .int 2)] [.int v650] _ 0 0 _
                      exact jX.sub jsb_n (ct_X6_byParents_r120_c2d_84 hD hQ  v650 h (jr_of rfl (by omega)) J Sm D)
                    ·
                      rw [if_neg (by omega)] at D
                      refine x_iloadn (x := v580) rfl rfl ?_
                      refine x_iconst (v := 3) rfl ki_3 ?_
                      refine z_idiv rfl rfl jk_3 (by omega) (by omega) (fun v651 ev651 => ?_)
                      refine x_aloadn (x := 78) rfl rfl ?_
                      refine z_getR (N := 16) (b := 32) 7 0 rfl f_7_55 rfl J rfl 9984 ⟨rfl, rfl⟩ rfl ?_
                      refine z_getR (N := 20) (b := 33) 1 0 rfl f_7_63 rfl J rfl 4096 ⟨rfl, rfl⟩ rfl ?_
                      refine z_getI (N := 4) 8 3 rfl f_7_85 rfl J rfl sg_33_3_4_1_0_1 (fun v652 qv652 ev652 => ?_)
                      try rw [vrf (jmb_c S575 qv652 rfl)] at D
                      refine x_icge (tgt := 36) rfl rfl (ti_ge rfl rfl ⟨fun c653 => ?_, fun c653 => ?_⟩)
                      ·
                        rw [if_pos (by omega)] at D
                        refine x_iconst (v := (-1)) rfl ki_m1 ?_
                        refine x_iret rfl rfl ?_
                        show jX m_X7_namedSoul 15 0 0 16 [(0, .ref 78), (1, .int v580)] [.int (-1)] _ 0 0 _
                        refine x_goto (tgt := 20) rfl rfl ?_
                        refine x_iret rfl rfl ?_
                        show jX m_X6_byParents 16 0 0 76 [(5, .int v578), (4, .int v6), (3, .int v4), (0, .ref 120), (1, .int a1), (2, .int 2)] [.int (-1), .ref 120] _ 0 0 _
                        refine x_iload (x := v6) rfl rfl ?_
                        refine x_iloadn (x := 2) rfl rfl ?_
                        refine x_iconst (v := 1) rfl ki_1 ?_
                        refine y_iadd (v := 3) rfl (by decide) ?_
                        refine x_inv (N := m_X6_belongs) (As := [.int (-1), .int v6, .int 3]) (b := 120) (st := []) (dx9 := 15) (mc := 0) (ms := 0) (host := "") 6 rfl t_X6_belongs ⟨Or.inl q_6_127, i_X6_belongs.1, i_X6_belongs.2⟩ ⟨by decide, rfl⟩ (congrArg Prod.fst (J.1.1 120 (6, 8) rfl)) rfl (by decide) rfl rfl ⟨by decide, by decide⟩ (sf_X6_belongs_r120_c3d (jr_of jk_m1 (by omega)) (jr_of rfl (by omega)) hD J rfl  (fun v657 h ev657 J S654 X655 X656 => ?_))
                        have Sm := jSm_tr rfl Sm S654
                        try rw [jk_m1] at X655
                        try rw [jk_m1] at X656
                        try rw [X655] at D
                        try rw [X656] at D
                        show jX m_X6_byParents 16 0 0 84 [(5, .int v578), (4, .int v6), (3, .int v4), (0, .ref 120), (1, .int a1), (2, .int 2)] [.int v657] _ 0 0 _
                        exact jX.sub jsb_n (ct_X6_byParents_r120_c2d_84 hD hQ  v657 h (jr_of rfl (by omega)) J Sm D)
                      ·
                        rw [if_neg (by omega)] at D
                        refine x_aloadn (x := 78) rfl rfl ?_
                        refine z_getR (N := 16) (b := 82) 7 10 rfl f_7_37 rfl J rfl 9994 ⟨rfl, rfl⟩ rfl ?_
                        refine x_iloadn (x := v580) rfl rfl ?_
                        refine z_iald (N := 600) rfl J rfl sg_82_0_600_1_0_1 rfl (by omega) (fun v658 qv658 ev658 => ?_)
                        try rw [vrd (jmb_c S575 qv658 rfl) (show (v4.toInt + 2) = v580.toInt from by omega)] at D
                        refine x_goto (tgt := 37) rfl rfl ?_
                        refine x_iret rfl rfl ?_
                        show jX m_X7_namedSoul 15 0 0 16 [(0, .ref 78), (1, .int v580)] [.int v658] _ 0 0 _
                        refine x_goto (tgt := 20) rfl rfl ?_
                        refine x_iret rfl rfl ?_
                        show jX m_X6_byParents 16 0 0 76 [(5, .int v578), (4, .int v6), (3, .int v4), (0, .ref 120), (1, .int a1), (2, .int 2)] [.int v658, .ref 120] _ 0 0 _
                        refine x_iload (x := v6) rfl rfl ?_
                        refine x_iloadn (x := 2) rfl rfl ?_
                        refine x_iconst (v := 1) rfl ki_1 ?_
                        refine y_iadd (v := 3) rfl (by decide) ?_
                        refine x_inv (N := m_X6_belongs) (As := [.int v658, .int v6, .int 3]) (b := 120) (st := []) (dx9 := 15) (mc := 0) (ms := 0) (host := "") 6 rfl t_X6_belongs ⟨Or.inl q_6_127, i_X6_belongs.1, i_X6_belongs.2⟩ ⟨by decide, rfl⟩ (congrArg Prod.fst (J.1.1 120 (6, 8) rfl)) rfl (by decide) rfl rfl ⟨by decide, by decide⟩ (sf_X6_belongs_r120_c3d (jr_of rfl (by omega)) (jr_of rfl (by omega)) hD J rfl  (fun v662 h ev662 J S659 X660 X661 => ?_))
                        have Sm := jSm_tr rfl Sm S659
                        try rw [X660] at D
                        try rw [X661] at D
                        show jX m_X6_byParents 16 0 0 84 [(5, .int v578), (4, .int v6), (3, .int v4), (0, .ref 120), (1, .int a1), (2, .int 2)] [.int v662] _ 0 0 _
                        exact jX.sub jsb_n (ct_X6_byParents_r120_c2d_84 hD hQ  v662 h (jr_of rfl (by omega)) J Sm D)
          ·
            rw [if_neg (by omega)] at D
            refine x_iload (x := v578) rfl rfl ?_
            refine x_goto (tgt := 84) rfl rfl ?_
            exact jX.sub jsb_n (ct_X6_byParents_r120_c2d_84 hD hQ  v578 h (jr_of rfl (by omega)) J Sm D)
        ·
          rw [if_neg (by omega)] at D
          refine x_aloadn (x := 70) rfl rfl ?_
          refine z_getR (N := 9) (b := 76) 5 7 rfl f_5_28 rfl J rfl 8967 ⟨rfl, rfl⟩ rfl ?_
          refine x_iloadn (x := v573) rfl rfl ?_
          refine z_iald (N := 1200) rfl J rfl sg_76_0_1200_1_0_1 rfl (by omega) (fun v663 qv663 ev663 => ?_)
          try rw [vrd qv663 (show (((v4.toInt + 1) * 2) + 1) = v573.toInt from by omega)] at D
          refine x_goto (tgt := 27) rfl rfl ?_
          refine x_iret rfl rfl ?_
          show jX m_X5_isNamed 14 0 0 15 [(0, .ref 70), (1, .int v7)] [.int v663] _ 0 0 _
          refine x_iflt (tgt := 22) rfl rfl (ti_lt rfl jk_0 ⟨fun c664 => ?_, fun c664 => ?_⟩)
          ·
            rw [if_pos (by omega)] at D
            refine x_iconst (v := 0) rfl ki_0 ?_
            refine x_zret rfl rfl (by decide) ?_
            show jX m_X7_namedSoul 15 0 0 8 [(0, .ref 78), (1, .int v7)] [.int 0] _ 0 0 _
            refine x_ifeq (tgt := 19) rfl rfl (ti_eq jk_0 jk_0 (br_t (by omega) ?_))
            refine x_iconst (v := (-1)) rfl ki_m1 ?_
            refine x_iret rfl rfl ?_
            show jX m_X6_byParents 16 0 0 44 [(4, .int v6), (3, .int v4), (0, .ref 120), (1, .int a1), (2, .int 2)] [.int (-1), .ref 120] _ 0 0 _
            refine x_iload (x := v6) rfl rfl ?_
            refine x_iloadn (x := 2) rfl rfl ?_
            refine x_iconst (v := 1) rfl ki_1 ?_
            refine y_iadd (v := 3) rfl (by decide) ?_
            refine x_inv (N := m_X6_belongs) (As := [.int (-1), .int v6, .int 3]) (b := 120) (st := []) (dx9 := 15) (mc := 0) (ms := 0) (host := "") 6 rfl t_X6_belongs ⟨Or.inl q_6_127, i_X6_belongs.1, i_X6_belongs.2⟩ ⟨by decide, rfl⟩ (congrArg Prod.fst (J.1.1 120 (6, 8) rfl)) rfl (by decide) rfl rfl ⟨by decide, by decide⟩ (sf_X6_belongs_r120_c3d (jr_of jk_m1 (by omega)) (jr_of rfl (by omega)) hD J rfl  (fun v668 h ev668 J S665 X666 X667 => ?_))
            have Sm := jSm_tr rfl Sm S665
            try rw [jk_m1] at X666
            try rw [jk_m1] at X667
            try rw [X666] at D
            try rw [X667] at D
            show jX m_X6_byParents 16 0 0 52 [(4, .int v6), (3, .int v4), (0, .ref 120), (1, .int a1), (2, .int 2)] [.int v668] _ 0 0 _
            refine x_istore (lsx9 := [(5, .int v668), (4, .int v6), (3, .int v4), (0, .ref 120), (1, .int a1), (2, .int 2)]) rfl rfl rfl ?_
            refine x_iload (x := v668) rfl rfl ?_
            refine x_iconst (v := (-1)) rfl ki_m1 ?_
            refine x_iceq (tgt := 65) rfl rfl (ti_eq rfl jk_m1 ⟨fun c669 => ?_, fun c669 => ?_⟩)
            ·
              rw [if_pos (by omega)] at D
              refine x_aloadn (x := 120) rfl rfl ?_
              refine x_aloadn (x := 120) rfl rfl ?_
              refine z_getR (N := 8) (b := 78) 6 1 rfl f_6_32 rfl J rfl 15361 ⟨rfl, rfl⟩ rfl ?_
              refine x_iloadn (x := v4) rfl rfl ?_
              refine x_iconst (v := 2) rfl ki_2 ?_
              refine z_iadd rfl rfl jk_2 (by omega) (fun v670 ev670 => ?_)
              refine x_inv (N := m_X7_namedSoul) (As := [.int v670]) (b := 78) (st := [.ref 120]) (dx9 := 15) (mc := 0) (ms := 0) (host := "") 7 rfl t_X7_namedSoul ⟨Or.inl q_6_124, i_X7_namedSoul.1, i_X7_namedSoul.2⟩ ⟨by decide, rfl⟩ (congrArg Prod.fst (J.1.1 78 (7, 16) rfl)) rfl (by decide) rfl rfl ⟨by decide, by decide⟩ (jC.of rfl k_X7_namedSoul rfl ?_)
              show jX m_X7_namedSoul 15 0 0 0 [(0, .ref 78), (1, .int v670)] [] _ 0 0 _
              refine x_aloadn (x := 78) rfl rfl ?_
              refine z_getR (N := 16) (b := 70) 7 1 rfl f_7_59 rfl J rfl 9985 ⟨rfl, rfl⟩ rfl ?_
              refine x_iloadn (x := v670) rfl rfl ?_
              refine x_inv (N := m_X5_isNamed) (As := [.int v670]) (b := 70) (st := []) (dx9 := 14) (mc := 0) (ms := 0) (host := "") 5 rfl t_X5_isNamed ⟨Or.inl q_7_173, i_X5_isNamed.1, i_X5_isNamed.2⟩ ⟨by decide, rfl⟩ (congrArg Prod.fst (J.1.1 70 (5, 9) rfl)) rfl (by decide) rfl rfl ⟨by decide, by decide⟩ (jC.of rfl k_X5_isNamed rfl ?_)
              show jX m_X5_isNamed 14 0 0 0 [(0, .ref 70), (1, .int v670)] [] _ 0 0 _
              refine x_aloadn (x := 70) rfl rfl ?_
              refine x_iloadn (x := v670) rfl rfl ?_
              refine x_iconst (v := 0) rfl ki_0 ?_
              refine x_inv (N := m_X5_lengthOf) (As := [.int v670, .int 0]) (b := 70) (st := []) (dx9 := 13) (mc := 0) (ms := 0) (host := "") 5 rfl t_X5_lengthOf ⟨Or.inl q_5_133, i_X5_lengthOf.1, i_X5_lengthOf.2⟩ ⟨by decide, rfl⟩ (congrArg Prod.fst (J.1.1 70 (5, 9) rfl)) rfl (by decide) rfl rfl ⟨by decide, by decide⟩ (jC.of rfl k_X5_lengthOf rfl ?_)
              show jX m_X5_lengthOf 13 0 0 0 [(0, .ref 70), (1, .int v670), (2, .int 0)] [] _ 0 0 _
              refine x_iloadn (x := v670) rfl rfl ?_
              refine x_iconst (v := 2) rfl ki_2 ?_
              refine z_imul rfl rfl jk_2 (by omega) (fun v671 ev671 => ?_)
              refine x_iloadn (x := 0) rfl rfl ?_
              refine z_iadd rfl rfl jk_0 (by omega) (fun v672 ev672 => ?_)
              refine x_istoren (lsx9 := [(3, .int v672), (0, .ref 70), (1, .int v670), (2, .int 0)]) rfl rfl rfl ?_
              refine x_iloadn (x := v672) rfl rfl ?_
              refine x_iflt (tgt := 26) rfl rfl (ti_lt rfl jk_0 (br_f (by omega) ?_))
              refine x_iloadn (x := v672) rfl rfl ?_
              refine x_sipush (v := 1200) rfl ks_1200 ?_
              refine x_icge (tgt := 26) rfl rfl (ti_ge rfl jk_1200 ⟨fun c673 => ?_, fun c673 => ?_⟩)
              ·
                rw [if_pos (by omega)] at D
                refine x_iconst (v := (-1)) rfl ki_m1 ?_
                refine x_iret rfl rfl ?_
                show jX m_X5_isNamed 14 0 0 6 [(0, .ref 70), (1, .int v670)] [.int (-1)] _ 0 0 _
                refine x_ifge (tgt := 18) rfl rfl (ti_ge jk_m1 jk_0 (br_f (by omega) ?_))
                refine x_aloadn (x := 70) rfl rfl ?_
                refine x_iloadn (x := v670) rfl rfl ?_
                refine x_iconst (v := 1) rfl ki_1 ?_
                refine x_inv (N := m_X5_lengthOf) (As := [.int v670, .int 1]) (b := 70) (st := []) (dx9 := 13) (mc := 0) (ms := 0) (host := "") 5 rfl t_X5_lengthOf ⟨Or.inl q_5_133, i_X5_lengthOf.1, i_X5_lengthOf.2⟩ ⟨by decide, rfl⟩ (congrArg Prod.fst (J.1.1 70 (5, 9) rfl)) rfl (by decide) rfl rfl ⟨by decide, by decide⟩ (jC.of rfl k_X5_lengthOf rfl ?_)
                show jX m_X5_lengthOf 13 0 0 0 [(0, .ref 70), (1, .int v670), (2, .int 1)] [] _ 0 0 _
                refine x_iloadn (x := v670) rfl rfl ?_
                refine x_iconst (v := 2) rfl ki_2 ?_
                refine z_imul rfl rfl jk_2 (by omega) (fun v674 ev674 => ?_)
                refine x_iloadn (x := 1) rfl rfl ?_
                refine z_iadd rfl rfl jk_1 (by omega) (fun v675 ev675 => ?_)
                refine x_istoren (lsx9 := [(3, .int v675), (0, .ref 70), (1, .int v670), (2, .int 1)]) rfl rfl rfl ?_
                refine x_iloadn (x := v675) rfl rfl ?_
                refine x_iflt (tgt := 26) rfl rfl (ti_lt rfl jk_0 (br_f (by omega) ?_))
                refine x_iloadn (x := v675) rfl rfl ?_
                refine x_sipush (v := 1200) rfl ks_1200 ?_
                refine x_icge (tgt := 26) rfl rfl (ti_ge rfl jk_1200 ⟨fun c676 => ?_, fun c676 => ?_⟩)
                ·
                  rw [if_pos (by omega)] at D
                  refine x_iconst (v := (-1)) rfl ki_m1 ?_
                  refine x_iret rfl rfl ?_
                  show jX m_X5_isNamed 14 0 0 15 [(0, .ref 70), (1, .int v670)] [.int (-1)] _ 0 0 _
                  refine x_iflt (tgt := 22) rfl rfl (ti_lt jk_m1 jk_0 (br_t (by omega) ?_))
                  refine x_iconst (v := 0) rfl ki_0 ?_
                  refine x_zret rfl rfl (by decide) ?_
                  show jX m_X7_namedSoul 15 0 0 8 [(0, .ref 78), (1, .int v670)] [.int 0] _ 0 0 _
                  refine x_ifeq (tgt := 19) rfl rfl (ti_eq jk_0 jk_0 (br_t (by omega) ?_))
                  refine x_iconst (v := (-1)) rfl ki_m1 ?_
                  refine x_iret rfl rfl ?_
                  show jX m_X6_byParents 16 0 0 76 [(5, .int v668), (4, .int v6), (3, .int v4), (0, .ref 120), (1, .int a1), (2, .int 2)] [.int (-1), .ref 120] _ 0 0 _
                  refine x_iload (x := v6) rfl rfl ?_
                  refine x_iloadn (x := 2) rfl rfl ?_
                  refine x_iconst (v := 1) rfl ki_1 ?_
                  refine y_iadd (v := 3) rfl (by decide) ?_
                  refine x_inv (N := m_X6_belongs) (As := [.int (-1), .int v6, .int 3]) (b := 120) (st := []) (dx9 := 15) (mc := 0) (ms := 0) (host := "") 6 rfl t_X6_belongs ⟨Or.inl q_6_127, i_X6_belongs.1, i_X6_belongs.2⟩ ⟨by decide, rfl⟩ (congrArg Prod.fst (J.1.1 120 (6, 8) rfl)) rfl (by decide) rfl rfl ⟨by decide, by decide⟩ (sf_X6_belongs_r120_c3d (jr_of jk_m1 (by omega)) (jr_of rfl (by omega)) hD J rfl  (fun v680 h ev680 J S677 X678 X679 => ?_))
                  have Sm := jSm_tr rfl Sm S677
                  try rw [jk_m1] at X678
                  try rw [jk_m1] at X679
                  try rw [X678] at D
                  try rw [X679] at D
                  show jX m_X6_byParents 16 0 0 84 [(5, .int v668), (4, .int v6), (3, .int v4), (0, .ref 120), (1, .int a1), (2, .int 2)] [.int v680] _ 0 0 _
                  exact jX.sub jsb_n (ct_X6_byParents_r120_c2d_84 hD hQ  v680 h (jr_of rfl (by omega)) J Sm D)
                ·
                  rw [if_neg (by omega)] at D
                  refine x_aloadn (x := 70) rfl rfl ?_
                  refine z_getR (N := 9) (b := 76) 5 7 rfl f_5_28 rfl J rfl 8967 ⟨rfl, rfl⟩ rfl ?_
                  refine x_iloadn (x := v675) rfl rfl ?_
                  refine z_iald (N := 1200) rfl J rfl sg_76_0_1200_1_0_1 rfl (by omega) (fun v681 qv681 ev681 => ?_)
                  try rw [vrd (jmb_c S665 qv681 rfl) (show (((v4.toInt + 2) * 2) + 1) = v675.toInt from by omega)] at D
                  refine x_goto (tgt := 27) rfl rfl ?_
                  refine x_iret rfl rfl ?_
                  show jX m_X5_isNamed 14 0 0 15 [(0, .ref 70), (1, .int v670)] [.int v681] _ 0 0 _
                  refine x_iflt (tgt := 22) rfl rfl (ti_lt rfl jk_0 ⟨fun c682 => ?_, fun c682 => ?_⟩)
                  ·
                    rw [if_pos (by omega)] at D
                    refine x_iconst (v := 0) rfl ki_0 ?_
                    refine x_zret rfl rfl (by decide) ?_
                    show jX m_X7_namedSoul 15 0 0 8 [(0, .ref 78), (1, .int v670)] [.int 0] _ 0 0 _
                    refine x_ifeq (tgt := 19) rfl rfl (ti_eq jk_0 jk_0 (br_t (by omega) ?_))
                    refine x_iconst (v := (-1)) rfl ki_m1 ?_
                    refine x_iret rfl rfl ?_
                    show jX m_X6_byParents 16 0 0 76 [(5, .int v668), (4, .int v6), (3, .int v4), (0, .ref 120), (1, .int a1), (2, .int 2)] [.int (-1), .ref 120] _ 0 0 _
                    refine x_iload (x := v6) rfl rfl ?_
                    refine x_iloadn (x := 2) rfl rfl ?_
                    refine x_iconst (v := 1) rfl ki_1 ?_
                    refine y_iadd (v := 3) rfl (by decide) ?_
                    refine x_inv (N := m_X6_belongs) (As := [.int (-1), .int v6, .int 3]) (b := 120) (st := []) (dx9 := 15) (mc := 0) (ms := 0) (host := "") 6 rfl t_X6_belongs ⟨Or.inl q_6_127, i_X6_belongs.1, i_X6_belongs.2⟩ ⟨by decide, rfl⟩ (congrArg Prod.fst (J.1.1 120 (6, 8) rfl)) rfl (by decide) rfl rfl ⟨by decide, by decide⟩ (sf_X6_belongs_r120_c3d (jr_of jk_m1 (by omega)) (jr_of rfl (by omega)) hD J rfl  (fun v686 h ev686 J S683 X684 X685 => ?_))
                    have Sm := jSm_tr rfl Sm S683
                    try rw [jk_m1] at X684
                    try rw [jk_m1] at X685
                    try rw [X684] at D
                    try rw [X685] at D
                    show jX m_X6_byParents 16 0 0 84 [(5, .int v668), (4, .int v6), (3, .int v4), (0, .ref 120), (1, .int a1), (2, .int 2)] [.int v686] _ 0 0 _
                    exact jX.sub jsb_n (ct_X6_byParents_r120_c2d_84 hD hQ  v686 h (jr_of rfl (by omega)) J Sm D)
                  ·
                    rw [if_neg (by omega)] at D
                    refine x_iconst (v := 1) rfl ki_1 ?_
                    refine x_goto (tgt := 23) rfl rfl ?_
                    refine x_zret rfl rfl (by decide) ?_
                    show jX m_X7_namedSoul 15 0 0 8 [(0, .ref 78), (1, .int v670)] [.int 1] _ 0 0 _
                    refine x_ifeq (tgt := 19) rfl rfl (ti_eq jk_1 jk_0 (br_f (by omega) ?_))
                    refine x_aloadn (x := 78) rfl rfl ?_
                    refine x_iloadn (x := v670) rfl rfl ?_
                    refine x_inv (N := m_X7_soulAt) (As := [.int v670]) (b := 78) (st := []) (dx9 := 14) (mc := 0) (ms := 0) (host := "") 7 rfl t_X7_soulAt ⟨Or.inl q_7_153, i_X7_soulAt.1, i_X7_soulAt.2⟩ ⟨by decide, rfl⟩ (congrArg Prod.fst (J.1.1 78 (7, 16) rfl)) rfl (by decide) rfl rfl ⟨by decide, by decide⟩ (jC.of rfl k_X7_soulAt rfl ?_)
                    show jX m_X7_soulAt 14 0 0 0 [(0, .ref 78), (1, .int v670)] [] _ 0 0 _
                    refine x_iloadn (x := v670) rfl rfl ?_
                    refine x_iflt (tgt := 36) rfl rfl (ti_lt rfl jk_0 (br_f (by omega) ?_))
                    refine x_iloadn (x := v670) rfl rfl ?_
                    refine x_sipush (v := 600) rfl ks_600 ?_
                    refine x_icge (tgt := 36) rfl rfl (ti_ge rfl jk_600 ⟨fun c687 => ?_, fun c687 => ?_⟩)
                    ·
                      rw [if_pos (by omega)] at D
                      refine x_iconst (v := (-1)) rfl ki_m1 ?_
                      refine x_iret rfl rfl ?_
                      show jX m_X7_namedSoul 15 0 0 16 [(0, .ref 78), (1, .int v670)] [.int (-1)] _ 0 0 _
                      refine x_goto (tgt := 20) rfl rfl ?_
                      refine x_iret rfl rfl ?_
                      show jX m_X6_byParents 16 0 0 76 [(5, .int v668), (4, .int v6), (3, .int v4), (0, .ref 120), (1, .int a1), (2, .int 2)] [.int (-1), .ref 120] _ 0 0 _
                      refine x_iload (x := v6) rfl rfl ?_
                      refine x_iloadn (x := 2) rfl rfl ?_
                      refine x_iconst (v := 1) rfl ki_1 ?_
                      refine y_iadd (v := 3) rfl (by decide) ?_
                      refine x_inv (N := m_X6_belongs) (As := [.int (-1), .int v6, .int 3]) (b := 120) (st := []) (dx9 := 15) (mc := 0) (ms := 0) (host := "") 6 rfl t_X6_belongs ⟨Or.inl q_6_127, i_X6_belongs.1, i_X6_belongs.2⟩ ⟨by decide, rfl⟩ (congrArg Prod.fst (J.1.1 120 (6, 8) rfl)) rfl (by decide) rfl rfl ⟨by decide, by decide⟩ (sf_X6_belongs_r120_c3d (jr_of jk_m1 (by omega)) (jr_of rfl (by omega)) hD J rfl  (fun v691 h ev691 J S688 X689 X690 => ?_))
                      have Sm := jSm_tr rfl Sm S688
                      try rw [jk_m1] at X689
                      try rw [jk_m1] at X690
                      try rw [X689] at D
                      try rw [X690] at D
                      show jX m_X6_byParents 16 0 0 84 [(5, .int v668), (4, .int v6), (3, .int v4), (0, .ref 120), (1, .int a1), (2, .int 2)] [.int v691] _ 0 0 _
                      exact jX.sub jsb_n (ct_X6_byParents_r120_c2d_84 hD hQ  v691 h (jr_of rfl (by omega)) J Sm D)
                    ·
                      rw [if_neg (by omega)] at D
                      refine x_iloadn (x := v670) rfl rfl ?_
                      refine x_iconst (v := 3) rfl ki_3 ?_
                      refine z_idiv rfl rfl jk_3 (by omega) (by omega) (fun v692 ev692 => ?_)
                      refine x_aloadn (x := 78) rfl rfl ?_
                      refine z_getR (N := 16) (b := 32) 7 0 rfl f_7_55 rfl J rfl 9984 ⟨rfl, rfl⟩ rfl ?_
                      refine z_getR (N := 20) (b := 33) 1 0 rfl f_7_63 rfl J rfl 4096 ⟨rfl, rfl⟩ rfl ?_
                      refine z_getI (N := 4) 8 3 rfl f_7_85 rfl J rfl sg_33_3_4_1_0_1 (fun v693 qv693 ev693 => ?_)
                      try rw [vrf (jmb_c S665 qv693 rfl)] at D
                      refine x_icge (tgt := 36) rfl rfl (ti_ge rfl rfl ⟨fun c694 => ?_, fun c694 => ?_⟩)
                      ·
                        rw [if_pos (by omega)] at D
                        refine x_iconst (v := (-1)) rfl ki_m1 ?_
                        refine x_iret rfl rfl ?_
                        show jX m_X7_namedSoul 15 0 0 16 [(0, .ref 78), (1, .int v670)] [.int (-1)] _ 0 0 _
                        refine x_goto (tgt := 20) rfl rfl ?_
                        refine x_iret rfl rfl ?_
                        show jX m_X6_byParents 16 0 0 76 [(5, .int v668), (4, .int v6), (3, .int v4), (0, .ref 120), (1, .int a1), (2, .int 2)] [.int (-1), .ref 120] _ 0 0 _
                        refine x_iload (x := v6) rfl rfl ?_
                        refine x_iloadn (x := 2) rfl rfl ?_
                        refine x_iconst (v := 1) rfl ki_1 ?_
                        refine y_iadd (v := 3) rfl (by decide) ?_
                        refine x_inv (N := m_X6_belongs) (As := [.int (-1), .int v6, .int 3]) (b := 120) (st := []) (dx9 := 15) (mc := 0) (ms := 0) (host := "") 6 rfl t_X6_belongs ⟨Or.inl q_6_127, i_X6_belongs.1, i_X6_belongs.2⟩ ⟨by decide, rfl⟩ (congrArg Prod.fst (J.1.1 120 (6, 8) rfl)) rfl (by decide) rfl rfl ⟨by decide, by decide⟩ (sf_X6_belongs_r120_c3d (jr_of jk_m1 (by omega)) (jr_of rfl (by omega)) hD J rfl  (fun v698 h ev698 J S695 X696 X697 => ?_))
                        have Sm := jSm_tr rfl Sm S695
                        try rw [jk_m1] at X696
                        try rw [jk_m1] at X697
                        try rw [X696] at D
                        try rw [X697] at D
                        show jX m_X6_byParents 16 0 0 84 [(5, .int v668), (4, .int v6), (3, .int v4), (0, .ref 120), (1, .int a1), (2, .int 2)] [.int v698] _ 0 0 _
                        exact jX.sub jsb_n (ct_X6_byParents_r120_c2d_84 hD hQ  v698 h (jr_of rfl (by omega)) J Sm D)
                      ·
                        rw [if_neg (by omega)] at D
                        refine x_aloadn (x := 78) rfl rfl ?_
                        refine z_getR (N := 16) (b := 82) 7 10 rfl f_7_37 rfl J rfl 9994 ⟨rfl, rfl⟩ rfl ?_
                        refine x_iloadn (x := v670) rfl rfl ?_
                        refine z_iald (N := 600) rfl J rfl sg_82_0_600_1_0_1 rfl (by omega) (fun v699 qv699 ev699 => ?_)
                        try rw [vrd (jmb_c S665 qv699 rfl) (show (v4.toInt + 2) = v670.toInt from by omega)] at D
                        refine x_goto (tgt := 37) rfl rfl ?_
                        refine x_iret rfl rfl ?_
                        show jX m_X7_namedSoul 15 0 0 16 [(0, .ref 78), (1, .int v670)] [.int v699] _ 0 0 _
                        refine x_goto (tgt := 20) rfl rfl ?_
                        refine x_iret rfl rfl ?_
                        show jX m_X6_byParents 16 0 0 76 [(5, .int v668), (4, .int v6), (3, .int v4), (0, .ref 120), (1, .int a1), (2, .int 2)] [.int v699, .ref 120] _ 0 0 _
                        refine x_iload (x := v6) rfl rfl ?_
                        refine x_iloadn (x := 2) rfl rfl ?_
                        refine x_iconst (v := 1) rfl ki_1 ?_
                        refine y_iadd (v := 3) rfl (by decide) ?_
                        refine x_inv (N := m_X6_belongs) (As := [.int v699, .int v6, .int 3]) (b := 120) (st := []) (dx9 := 15) (mc := 0) (ms := 0) (host := "") 6 rfl t_X6_belongs ⟨Or.inl q_6_127, i_X6_belongs.1, i_X6_belongs.2⟩ ⟨by decide, rfl⟩ (congrArg Prod.fst (J.1.1 120 (6, 8) rfl)) rfl (by decide) rfl rfl ⟨by decide, by decide⟩ (sf_X6_belongs_r120_c3d (jr_of rfl (by omega)) (jr_of rfl (by omega)) hD J rfl  (fun v703 h ev703 J S700 X701 X702 => ?_))
                        have Sm := jSm_tr rfl Sm S700
                        try rw [X701] at D
                        try rw [X702] at D
                        show jX m_X6_byParents 16 0 0 84 [(5, .int v668), (4, .int v6), (3, .int v4), (0, .ref 120), (1, .int a1), (2, .int 2)] [.int v703] _ 0 0 _
                        exact jX.sub jsb_n (ct_X6_byParents_r120_c2d_84 hD hQ  v703 h (jr_of rfl (by omega)) J Sm D)
              ·
                rw [if_neg (by omega)] at D
                refine x_aloadn (x := 70) rfl rfl ?_
                refine z_getR (N := 9) (b := 76) 5 7 rfl f_5_28 rfl J rfl 8967 ⟨rfl, rfl⟩ rfl ?_
                refine x_iloadn (x := v672) rfl rfl ?_
                refine z_iald (N := 1200) rfl J rfl sg_76_0_1200_1_0_1 rfl (by omega) (fun v704 qv704 ev704 => ?_)
                try rw [vrd (jmb_c S665 qv704 rfl) (show (((v4.toInt + 2) * 2) + 0) = v672.toInt from by omega)] at D
                refine x_goto (tgt := 27) rfl rfl ?_
                refine x_iret rfl rfl ?_
                show jX m_X5_isNamed 14 0 0 6 [(0, .ref 70), (1, .int v670)] [.int v704] _ 0 0 _
                refine x_ifge (tgt := 18) rfl rfl (ti_ge rfl jk_0 ⟨fun c705 => ?_, fun c705 => ?_⟩)
                ·
                  rw [if_pos (by omega)] at D
                  refine x_iconst (v := 1) rfl ki_1 ?_
                  refine x_goto (tgt := 23) rfl rfl ?_
                  refine x_zret rfl rfl (by decide) ?_
                  show jX m_X7_namedSoul 15 0 0 8 [(0, .ref 78), (1, .int v670)] [.int 1] _ 0 0 _
                  refine x_ifeq (tgt := 19) rfl rfl (ti_eq jk_1 jk_0 (br_f (by omega) ?_))
                  refine x_aloadn (x := 78) rfl rfl ?_
                  refine x_iloadn (x := v670) rfl rfl ?_
                  refine x_inv (N := m_X7_soulAt) (As := [.int v670]) (b := 78) (st := []) (dx9 := 14) (mc := 0) (ms := 0) (host := "") 7 rfl t_X7_soulAt ⟨Or.inl q_7_153, i_X7_soulAt.1, i_X7_soulAt.2⟩ ⟨by decide, rfl⟩ (congrArg Prod.fst (J.1.1 78 (7, 16) rfl)) rfl (by decide) rfl rfl ⟨by decide, by decide⟩ (jC.of rfl k_X7_soulAt rfl ?_)
                  show jX m_X7_soulAt 14 0 0 0 [(0, .ref 78), (1, .int v670)] [] _ 0 0 _
                  refine x_iloadn (x := v670) rfl rfl ?_
                  refine x_iflt (tgt := 36) rfl rfl (ti_lt rfl jk_0 (br_f (by omega) ?_))
                  refine x_iloadn (x := v670) rfl rfl ?_
                  refine x_sipush (v := 600) rfl ks_600 ?_
                  refine x_icge (tgt := 36) rfl rfl (ti_ge rfl jk_600 ⟨fun c706 => ?_, fun c706 => ?_⟩)
                  ·
                    rw [if_pos (by omega)] at D
                    refine x_iconst (v := (-1)) rfl ki_m1 ?_
                    refine x_iret rfl rfl ?_
                    show jX m_X7_namedSoul 15 0 0 16 [(0, .ref 78), (1, .int v670)] [.int (-1)] _ 0 0 _
                    refine x_goto (tgt := 20) rfl rfl ?_
                    refine x_iret rfl rfl ?_
                    show jX m_X6_byParents 16 0 0 76 [(5, .int v668), (4, .int v6), (3, .int v4), (0, .ref 120), (1, .int a1), (2, .int 2)] [.int (-1), .ref 120] _ 0 0 _
                    refine x_iload (x := v6) rfl rfl ?_
                    refine x_iloadn (x := 2) rfl rfl ?_
                    refine x_iconst (v := 1) rfl ki_1 ?_
                    refine y_iadd (v := 3) rfl (by decide) ?_
                    refine x_inv (N := m_X6_belongs) (As := [.int (-1), .int v6, .int 3]) (b := 120) (st := []) (dx9 := 15) (mc := 0) (ms := 0) (host := "") 6 rfl t_X6_belongs ⟨Or.inl q_6_127, i_X6_belongs.1, i_X6_belongs.2⟩ ⟨by decide, rfl⟩ (congrArg Prod.fst (J.1.1 120 (6, 8) rfl)) rfl (by decide) rfl rfl ⟨by decide, by decide⟩ (sf_X6_belongs_r120_c3d (jr_of jk_m1 (by omega)) (jr_of rfl (by omega)) hD J rfl  (fun v710 h ev710 J S707 X708 X709 => ?_))
                    have Sm := jSm_tr rfl Sm S707
                    try rw [jk_m1] at X708
                    try rw [jk_m1] at X709
                    try rw [X708] at D
                    try rw [X709] at D
                    show jX m_X6_byParents 16 0 0 84 [(5, .int v668), (4, .int v6), (3, .int v4), (0, .ref 120), (1, .int a1), (2, .int 2)] [.int v710] _ 0 0 _
                    exact jX.sub jsb_n (ct_X6_byParents_r120_c2d_84 hD hQ  v710 h (jr_of rfl (by omega)) J Sm D)
                  ·
                    rw [if_neg (by omega)] at D
                    refine x_iloadn (x := v670) rfl rfl ?_
                    refine x_iconst (v := 3) rfl ki_3 ?_
                    refine z_idiv rfl rfl jk_3 (by omega) (by omega) (fun v711 ev711 => ?_)
                    refine x_aloadn (x := 78) rfl rfl ?_
                    refine z_getR (N := 16) (b := 32) 7 0 rfl f_7_55 rfl J rfl 9984 ⟨rfl, rfl⟩ rfl ?_
                    refine z_getR (N := 20) (b := 33) 1 0 rfl f_7_63 rfl J rfl 4096 ⟨rfl, rfl⟩ rfl ?_
                    refine z_getI (N := 4) 8 3 rfl f_7_85 rfl J rfl sg_33_3_4_1_0_1 (fun v712 qv712 ev712 => ?_)
                    try rw [vrf (jmb_c S665 qv712 rfl)] at D
                    refine x_icge (tgt := 36) rfl rfl (ti_ge rfl rfl ⟨fun c713 => ?_, fun c713 => ?_⟩)
                    ·
                      rw [if_pos (by omega)] at D
                      refine x_iconst (v := (-1)) rfl ki_m1 ?_
                      refine x_iret rfl rfl ?_
                      show jX m_X7_namedSoul 15 0 0 16 [(0, .ref 78), (1, .int v670)] [.int (-1)] _ 0 0 _
                      refine x_goto (tgt := 20) rfl rfl ?_
                      refine x_iret rfl rfl ?_
                      show jX m_X6_byParents 16 0 0 76 [(5, .int v668), (4, .int v6), (3, .int v4), (0, .ref 120), (1, .int a1), (2, .int 2)] [.int (-1), .ref 120] _ 0 0 _
                      refine x_iload (x := v6) rfl rfl ?_
                      refine x_iloadn (x := 2) rfl rfl ?_
                      refine x_iconst (v := 1) rfl ki_1 ?_
                      refine y_iadd (v := 3) rfl (by decide) ?_
                      refine x_inv (N := m_X6_belongs) (As := [.int (-1), .int v6, .int 3]) (b := 120) (st := []) (dx9 := 15) (mc := 0) (ms := 0) (host := "") 6 rfl t_X6_belongs ⟨Or.inl q_6_127, i_X6_belongs.1, i_X6_belongs.2⟩ ⟨by decide, rfl⟩ (congrArg Prod.fst (J.1.1 120 (6, 8) rfl)) rfl (by decide) rfl rfl ⟨by decide, by decide⟩ (sf_X6_belongs_r120_c3d (jr_of jk_m1 (by omega)) (jr_of rfl (by omega)) hD J rfl  (fun v717 h ev717 J S714 X715 X716 => ?_))
                      have Sm := jSm_tr rfl Sm S714
                      try rw [jk_m1] at X715
                      try rw [jk_m1] at X716
                      try rw [X715] at D
                      try rw [X716] at D
                      show jX m_X6_byParents 16 0 0 84 [(5, .int v668), (4, .int v6), (3, .int v4), (0, .ref 120), (1, .int a1), (2, .int 2)] [.int v717] _ 0 0 _
                      exact jX.sub jsb_n (ct_X6_byParents_r120_c2d_84 hD hQ  v717 h (jr_of rfl (by omega)) J Sm D)
                    ·
                      rw [if_neg (by omega)] at D
                      refine x_aloadn (x := 78) rfl rfl ?_
                      refine z_getR (N := 16) (b := 82) 7 10 rfl f_7_37 rfl J rfl 9994 ⟨rfl, rfl⟩ rfl ?_
                      refine x_iloadn (x := v670) rfl rfl ?_
                      refine z_iald (N := 600) rfl J rfl sg_82_0_600_1_0_1 rfl (by omega) (fun v718 qv718 ev718 => ?_)
                      try rw [vrd (jmb_c S665 qv718 rfl) (show (v4.toInt + 2) = v670.toInt from by omega)] at D
                      refine x_goto (tgt := 37) rfl rfl ?_
                      refine x_iret rfl rfl ?_
                      show jX m_X7_namedSoul 15 0 0 16 [(0, .ref 78), (1, .int v670)] [.int v718] _ 0 0 _
                      refine x_goto (tgt := 20) rfl rfl ?_
                      refine x_iret rfl rfl ?_
                      show jX m_X6_byParents 16 0 0 76 [(5, .int v668), (4, .int v6), (3, .int v4), (0, .ref 120), (1, .int a1), (2, .int 2)] [.int v718, .ref 120] _ 0 0 _
                      refine x_iload (x := v6) rfl rfl ?_
                      refine x_iloadn (x := 2) rfl rfl ?_
                      refine x_iconst (v := 1) rfl ki_1 ?_
                      refine y_iadd (v := 3) rfl (by decide) ?_
                      refine x_inv (N := m_X6_belongs) (As := [.int v718, .int v6, .int 3]) (b := 120) (st := []) (dx9 := 15) (mc := 0) (ms := 0) (host := "") 6 rfl t_X6_belongs ⟨Or.inl q_6_127, i_X6_belongs.1, i_X6_belongs.2⟩ ⟨by decide, rfl⟩ (congrArg Prod.fst (J.1.1 120 (6, 8) rfl)) rfl (by decide) rfl rfl ⟨by decide, by decide⟩ (sf_X6_belongs_r120_c3d (jr_of rfl (by omega)) (jr_of rfl (by omega)) hD J rfl  (fun v722 h ev722 J S719 X720 X721 => ?_))
                      have Sm := jSm_tr rfl Sm S719
                      try rw [X720] at D
                      try rw [X721] at D
                      show jX m_X6_byParents 16 0 0 84 [(5, .int v668), (4, .int v6), (3, .int v4), (0, .ref 120), (1, .int a1), (2, .int 2)] [.int v722] _ 0 0 _
                      exact jX.sub jsb_n (ct_X6_byParents_r120_c2d_84 hD hQ  v722 h (jr_of rfl (by omega)) J Sm D)
                ·
                  rw [if_neg (by omega)] at D
                  refine x_aloadn (x := 70) rfl rfl ?_
                  refine x_iloadn (x := v670) rfl rfl ?_
                  refine x_iconst (v := 1) rfl ki_1 ?_
                  refine x_inv (N := m_X5_lengthOf) (As := [.int v670, .int 1]) (b := 70) (st := []) (dx9 := 13) (mc := 0) (ms := 0) (host := "") 5 rfl t_X5_lengthOf ⟨Or.inl q_5_133, i_X5_lengthOf.1, i_X5_lengthOf.2⟩ ⟨by decide, rfl⟩ (congrArg Prod.fst (J.1.1 70 (5, 9) rfl)) rfl (by decide) rfl rfl ⟨by decide, by decide⟩ (jC.of rfl k_X5_lengthOf rfl ?_)
                  show jX m_X5_lengthOf 13 0 0 0 [(0, .ref 70), (1, .int v670), (2, .int 1)] [] _ 0 0 _
                  refine x_iloadn (x := v670) rfl rfl ?_
                  refine x_iconst (v := 2) rfl ki_2 ?_
                  refine z_imul rfl rfl jk_2 (by omega) (fun v723 ev723 => ?_)
                  refine x_iloadn (x := 1) rfl rfl ?_
                  refine z_iadd rfl rfl jk_1 (by omega) (fun v724 ev724 => ?_)
                  refine x_istoren (lsx9 := [(3, .int v724), (0, .ref 70), (1, .int v670), (2, .int 1)]) rfl rfl rfl ?_
                  refine x_iloadn (x := v724) rfl rfl ?_
                  refine x_iflt (tgt := 26) rfl rfl (ti_lt rfl jk_0 (br_f (by omega) ?_))
                  refine x_iloadn (x := v724) rfl rfl ?_
                  refine x_sipush (v := 1200) rfl ks_1200 ?_
                  refine x_icge (tgt := 26) rfl rfl (ti_ge rfl jk_1200 ⟨fun c725 => ?_, fun c725 => ?_⟩)
                  ·
                    rw [if_pos (by omega)] at D
                    refine x_iconst (v := (-1)) rfl ki_m1 ?_
                    refine x_iret rfl rfl ?_
                    show jX m_X5_isNamed 14 0 0 15 [(0, .ref 70), (1, .int v670)] [.int (-1)] _ 0 0 _
                    refine x_iflt (tgt := 22) rfl rfl (ti_lt jk_m1 jk_0 (br_t (by omega) ?_))
                    refine x_iconst (v := 0) rfl ki_0 ?_
                    refine x_zret rfl rfl (by decide) ?_
                    show jX m_X7_namedSoul 15 0 0 8 [(0, .ref 78), (1, .int v670)] [.int 0] _ 0 0 _
                    refine x_ifeq (tgt := 19) rfl rfl (ti_eq jk_0 jk_0 (br_t (by omega) ?_))
                    refine x_iconst (v := (-1)) rfl ki_m1 ?_
                    refine x_iret rfl rfl ?_
                    show jX m_X6_byParents 16 0 0 76 [(5, .int v668), (4, .int v6), (3, .int v4), (0, .ref 120), (1, .int a1), (2, .int 2)] [.int (-1), .ref 120] _ 0 0 _
                    refine x_iload (x := v6) rfl rfl ?_
                    refine x_iloadn (x := 2) rfl rfl ?_
                    refine x_iconst (v := 1) rfl ki_1 ?_
                    refine y_iadd (v := 3) rfl (by decide) ?_
                    refine x_inv (N := m_X6_belongs) (As := [.int (-1), .int v6, .int 3]) (b := 120) (st := []) (dx9 := 15) (mc := 0) (ms := 0) (host := "") 6 rfl t_X6_belongs ⟨Or.inl q_6_127, i_X6_belongs.1, i_X6_belongs.2⟩ ⟨by decide, rfl⟩ (congrArg Prod.fst (J.1.1 120 (6, 8) rfl)) rfl (by decide) rfl rfl ⟨by decide, by decide⟩ (sf_X6_belongs_r120_c3d (jr_of jk_m1 (by omega)) (jr_of rfl (by omega)) hD J rfl  (fun v729 h ev729 J S726 X727 X728 => ?_))
                    have Sm := jSm_tr rfl Sm S726
                    try rw [jk_m1] at X727
                    try rw [jk_m1] at X728
                    try rw [X727] at D
                    try rw [X728] at D
                    show jX m_X6_byParents 16 0 0 84 [(5, .int v668), (4, .int v6), (3, .int v4), (0, .ref 120), (1, .int a1), (2, .int 2)] [.int v729] _ 0 0 _
                    exact jX.sub jsb_n (ct_X6_byParents_r120_c2d_84 hD hQ  v729 h (jr_of rfl (by omega)) J Sm D)
                  ·
                    rw [if_neg (by omega)] at D
                    refine x_aloadn (x := 70) rfl rfl ?_
                    refine z_getR (N := 9) (b := 76) 5 7 rfl f_5_28 rfl J rfl 8967 ⟨rfl, rfl⟩ rfl ?_
                    refine x_iloadn (x := v724) rfl rfl ?_
                    refine z_iald (N := 1200) rfl J rfl sg_76_0_1200_1_0_1 rfl (by omega) (fun v730 qv730 ev730 => ?_)
                    try rw [vrd (jmb_c S665 qv730 rfl) (show (((v4.toInt + 2) * 2) + 1) = v724.toInt from by omega)] at D
                    refine x_goto (tgt := 27) rfl rfl ?_
                    refine x_iret rfl rfl ?_
                    show jX m_X5_isNamed 14 0 0 15 [(0, .ref 70), (1, .int v670)] [.int v730] _ 0 0 _
                    refine x_iflt (tgt := 22) rfl rfl (ti_lt rfl jk_0 ⟨fun c731 => ?_, fun c731 => ?_⟩)
                    ·
                      rw [if_pos (by omega)] at D
                      refine x_iconst (v := 0) rfl ki_0 ?_
                      refine x_zret rfl rfl (by decide) ?_
                      show jX m_X7_namedSoul 15 0 0 8 [(0, .ref 78), (1, .int v670)] [.int 0] _ 0 0 _
                      refine x_ifeq (tgt := 19) rfl rfl (ti_eq jk_0 jk_0 (br_t (by omega) ?_))
                      refine x_iconst (v := (-1)) rfl ki_m1 ?_
                      refine x_iret rfl rfl ?_
                      show jX m_X6_byParents 16 0 0 76 [(5, .int v668), (4, .int v6), (3, .int v4), (0, .ref 120), (1, .int a1), (2, .int 2)] [.int (-1), .ref 120] _ 0 0 _
                      refine x_iload (x := v6) rfl rfl ?_
                      refine x_iloadn (x := 2) rfl rfl ?_
                      refine x_iconst (v := 1) rfl ki_1 ?_
                      refine y_iadd (v := 3) rfl (by decide) ?_
                      refine x_inv (N := m_X6_belongs) (As := [.int (-1), .int v6, .int 3]) (b := 120) (st := []) (dx9 := 15) (mc := 0) (ms := 0) (host := "") 6 rfl t_X6_belongs ⟨Or.inl q_6_127, i_X6_belongs.1, i_X6_belongs.2⟩ ⟨by decide, rfl⟩ (congrArg Prod.fst (J.1.1 120 (6, 8) rfl)) rfl (by decide) rfl rfl ⟨by decide, by decide⟩ (sf_X6_belongs_r120_c3d (jr_of jk_m1 (by omega)) (jr_of rfl (by omega)) hD J rfl  (fun v735 h ev735 J S732 X733 X734 => ?_))
                      have Sm := jSm_tr rfl Sm S732
                      try rw [jk_m1] at X733
                      try rw [jk_m1] at X734
                      try rw [X733] at D
                      try rw [X734] at D
                      show jX m_X6_byParents 16 0 0 84 [(5, .int v668), (4, .int v6), (3, .int v4), (0, .ref 120), (1, .int a1), (2, .int 2)] [.int v735] _ 0 0 _
                      exact jX.sub jsb_n (ct_X6_byParents_r120_c2d_84 hD hQ  v735 h (jr_of rfl (by omega)) J Sm D)
                    ·
                      rw [if_neg (by omega)] at D
                      refine x_iconst (v := 1) rfl ki_1 ?_
                      refine x_goto (tgt := 23) rfl rfl ?_
                      refine x_zret rfl rfl (by decide) ?_
                      show jX m_X7_namedSoul 15 0 0 8 [(0, .ref 78), (1, .int v670)] [.int 1] _ 0 0 _
                      refine x_ifeq (tgt := 19) rfl rfl (ti_eq jk_1 jk_0 (br_f (by omega) ?_))
                      refine x_aloadn (x := 78) rfl rfl ?_
                      refine x_iloadn (x := v670) rfl rfl ?_
                      refine x_inv (N := m_X7_soulAt) (As := [.int v670]) (b := 78) (st := []) (dx9 := 14) (mc := 0) (ms := 0) (host := "") 7 rfl t_X7_soulAt ⟨Or.inl q_7_153, i_X7_soulAt.1, i_X7_soulAt.2⟩ ⟨by decide, rfl⟩ (congrArg Prod.fst (J.1.1 78 (7, 16) rfl)) rfl (by decide) rfl rfl ⟨by decide, by decide⟩ (jC.of rfl k_X7_soulAt rfl ?_)
                      show jX m_X7_soulAt 14 0 0 0 [(0, .ref 78), (1, .int v670)] [] _ 0 0 _
                      refine x_iloadn (x := v670) rfl rfl ?_
                      refine x_iflt (tgt := 36) rfl rfl (ti_lt rfl jk_0 (br_f (by omega) ?_))
                      refine x_iloadn (x := v670) rfl rfl ?_
                      refine x_sipush (v := 600) rfl ks_600 ?_
                      refine x_icge (tgt := 36) rfl rfl (ti_ge rfl jk_600 ⟨fun c736 => ?_, fun c736 => ?_⟩)
                      ·
                        rw [if_pos (by omega)] at D
                        refine x_iconst (v := (-1)) rfl ki_m1 ?_
                        refine x_iret rfl rfl ?_
                        show jX m_X7_namedSoul 15 0 0 16 [(0, .ref 78), (1, .int v670)] [.int (-1)] _ 0 0 _
                        refine x_goto (tgt := 20) rfl rfl ?_
                        refine x_iret rfl rfl ?_
                        show jX m_X6_byParents 16 0 0 76 [(5, .int v668), (4, .int v6), (3, .int v4), (0, .ref 120), (1, .int a1), (2, .int 2)] [.int (-1), .ref 120] _ 0 0 _
                        refine x_iload (x := v6) rfl rfl ?_
                        refine x_iloadn (x := 2) rfl rfl ?_
                        refine x_iconst (v := 1) rfl ki_1 ?_
                        refine y_iadd (v := 3) rfl (by decide) ?_
                        refine x_inv (N := m_X6_belongs) (As := [.int (-1), .int v6, .int 3]) (b := 120) (st := []) (dx9 := 15) (mc := 0) (ms := 0) (host := "") 6 rfl t_X6_belongs ⟨Or.inl q_6_127, i_X6_belongs.1, i_X6_belongs.2⟩ ⟨by decide, rfl⟩ (congrArg Prod.fst (J.1.1 120 (6, 8) rfl)) rfl (by decide) rfl rfl ⟨by decide, by decide⟩ (sf_X6_belongs_r120_c3d (jr_of jk_m1 (by omega)) (jr_of rfl (by omega)) hD J rfl  (fun v740 h ev740 J S737 X738 X739 => ?_))
                        have Sm := jSm_tr rfl Sm S737
                        try rw [jk_m1] at X738
                        try rw [jk_m1] at X739
                        try rw [X738] at D
                        try rw [X739] at D
                        show jX m_X6_byParents 16 0 0 84 [(5, .int v668), (4, .int v6), (3, .int v4), (0, .ref 120), (1, .int a1), (2, .int 2)] [.int v740] _ 0 0 _
                        exact jX.sub jsb_n (ct_X6_byParents_r120_c2d_84 hD hQ  v740 h (jr_of rfl (by omega)) J Sm D)
                      ·
                        rw [if_neg (by omega)] at D
                        refine x_iloadn (x := v670) rfl rfl ?_
                        refine x_iconst (v := 3) rfl ki_3 ?_
                        refine z_idiv rfl rfl jk_3 (by omega) (by omega) (fun v741 ev741 => ?_)
                        refine x_aloadn (x := 78) rfl rfl ?_
                        refine z_getR (N := 16) (b := 32) 7 0 rfl f_7_55 rfl J rfl 9984 ⟨rfl, rfl⟩ rfl ?_
                        refine z_getR (N := 20) (b := 33) 1 0 rfl f_7_63 rfl J rfl 4096 ⟨rfl, rfl⟩ rfl ?_
                        refine z_getI (N := 4) 8 3 rfl f_7_85 rfl J rfl sg_33_3_4_1_0_1 (fun v742 qv742 ev742 => ?_)
                        try rw [vrf (jmb_c S665 qv742 rfl)] at D
                        refine x_icge (tgt := 36) rfl rfl (ti_ge rfl rfl ⟨fun c743 => ?_, fun c743 => ?_⟩)
                        ·
                          rw [if_pos (by omega)] at D
                          refine x_iconst (v := (-1)) rfl ki_m1 ?_
                          refine x_iret rfl rfl ?_
                          show jX m_X7_namedSoul 15 0 0 16 [(0, .ref 78), (1, .int v670)] [.int (-1)] _ 0 0 _
                          refine x_goto (tgt := 20) rfl rfl ?_
                          refine x_iret rfl rfl ?_
                          show jX m_X6_byParents 16 0 0 76 [(5, .int v668), (4, .int v6), (3, .int v4), (0, .ref 120), (1, .int a1), (2, .int 2)] [.int (-1), .ref 120] _ 0 0 _
                          refine x_iload (x := v6) rfl rfl ?_
                          refine x_iloadn (x := 2) rfl rfl ?_
                          refine x_iconst (v := 1) rfl ki_1 ?_
                          refine y_iadd (v := 3) rfl (by decide) ?_
                          refine x_inv (N := m_X6_belongs) (As := [.int (-1), .int v6, .int 3]) (b := 120) (st := []) (dx9 := 15) (mc := 0) (ms := 0) (host := "") 6 rfl t_X6_belongs ⟨Or.inl q_6_127, i_X6_belongs.1, i_X6_belongs.2⟩ ⟨by decide, rfl⟩ (congrArg Prod.fst (J.1.1 120 (6, 8) rfl)) rfl (by decide) rfl rfl ⟨by decide, by decide⟩ (sf_X6_belongs_r120_c3d (jr_of jk_m1 (by omega)) (jr_of rfl (by omega)) hD J rfl  (fun v747 h ev747 J S744 X745 X746 => ?_))
                          have Sm := jSm_tr rfl Sm S744
                          try rw [jk_m1] at X745
                          try rw [jk_m1] at X746
                          try rw [X745] at D
                          try rw [X746] at D
                          show jX m_X6_byParents 16 0 0 84 [(5, .int v668), (4, .int v6), (3, .int v4), (0, .ref 120), (1, .int a1), (2, .int 2)] [.int v747] _ 0 0 _
                          exact jX.sub jsb_n (ct_X6_byParents_r120_c2d_84 hD hQ  v747 h (jr_of rfl (by omega)) J Sm D)
                        ·
                          rw [if_neg (by omega)] at D
                          refine x_aloadn (x := 78) rfl rfl ?_
                          refine z_getR (N := 16) (b := 82) 7 10 rfl f_7_37 rfl J rfl 9994 ⟨rfl, rfl⟩ rfl ?_
                          refine x_iloadn (x := v670) rfl rfl ?_
                          refine z_iald (N := 600) rfl J rfl sg_82_0_600_1_0_1 rfl (by omega) (fun v748 qv748 ev748 => ?_)
                          try rw [vrd (jmb_c S665 qv748 rfl) (show (v4.toInt + 2) = v670.toInt from by omega)] at D
                          refine x_goto (tgt := 37) rfl rfl ?_
                          refine x_iret rfl rfl ?_
                          show jX m_X7_namedSoul 15 0 0 16 [(0, .ref 78), (1, .int v670)] [.int v748] _ 0 0 _
                          refine x_goto (tgt := 20) rfl rfl ?_
                          refine x_iret rfl rfl ?_
                          show jX m_X6_byParents 16 0 0 76 [(5, .int v668), (4, .int v6), (3, .int v4), (0, .ref 120), (1, .int a1), (2, .int 2)] [.int v748, .ref 120] _ 0 0 _
                          refine x_iload (x := v6) rfl rfl ?_
                          refine x_iloadn (x := 2) rfl rfl ?_
                          refine x_iconst (v := 1) rfl ki_1 ?_
                          refine y_iadd (v := 3) rfl (by decide) ?_
                          refine x_inv (N := m_X6_belongs) (As := [.int v748, .int v6, .int 3]) (b := 120) (st := []) (dx9 := 15) (mc := 0) (ms := 0) (host := "") 6 rfl t_X6_belongs ⟨Or.inl q_6_127, i_X6_belongs.1, i_X6_belongs.2⟩ ⟨by decide, rfl⟩ (congrArg Prod.fst (J.1.1 120 (6, 8) rfl)) rfl (by decide) rfl rfl ⟨by decide, by decide⟩ (sf_X6_belongs_r120_c3d (jr_of rfl (by omega)) (jr_of rfl (by omega)) hD J rfl  (fun v752 h ev752 J S749 X750 X751 => ?_))
                          have Sm := jSm_tr rfl Sm S749
                          try rw [X750] at D
                          try rw [X751] at D
                          show jX m_X6_byParents 16 0 0 84 [(5, .int v668), (4, .int v6), (3, .int v4), (0, .ref 120), (1, .int a1), (2, .int 2)] [.int v752] _ 0 0 _
                          exact jX.sub jsb_n (ct_X6_byParents_r120_c2d_84 hD hQ  v752 h (jr_of rfl (by omega)) J Sm D)
            ·
              rw [if_neg (by omega)] at D
              refine x_iload (x := v668) rfl rfl ?_
              refine x_goto (tgt := 84) rfl rfl ?_
              exact jX.sub jsb_n (ct_X6_byParents_r120_c2d_84 hD hQ  v668 h (jr_of rfl (by omega)) J Sm D)
          ·
            rw [if_neg (by omega)] at D
            refine x_iconst (v := 1) rfl ki_1 ?_
            refine x_goto (tgt := 23) rfl rfl ?_
            refine x_zret rfl rfl (by decide) ?_
            show jX m_X7_namedSoul 15 0 0 8 [(0, .ref 78), (1, .int v7)] [.int 1] _ 0 0 _
            refine x_ifeq (tgt := 19) rfl rfl (ti_eq jk_1 jk_0 (br_f (by omega) ?_))
            refine x_aloadn (x := 78) rfl rfl ?_
            refine x_iloadn (x := v7) rfl rfl ?_
            refine x_inv (N := m_X7_soulAt) (As := [.int v7]) (b := 78) (st := []) (dx9 := 14) (mc := 0) (ms := 0) (host := "") 7 rfl t_X7_soulAt ⟨Or.inl q_7_153, i_X7_soulAt.1, i_X7_soulAt.2⟩ ⟨by decide, rfl⟩ (congrArg Prod.fst (J.1.1 78 (7, 16) rfl)) rfl (by decide) rfl rfl ⟨by decide, by decide⟩ (jC.of rfl k_X7_soulAt rfl ?_)
            show jX m_X7_soulAt 14 0 0 0 [(0, .ref 78), (1, .int v7)] [] _ 0 0 _
            refine x_iloadn (x := v7) rfl rfl ?_
            refine x_iflt (tgt := 36) rfl rfl (ti_lt rfl jk_0 (br_f (by omega) ?_))
            refine x_iloadn (x := v7) rfl rfl ?_
            refine x_sipush (v := 600) rfl ks_600 ?_
            refine x_icge (tgt := 36) rfl rfl (ti_ge rfl jk_600 ⟨fun c753 => ?_, fun c753 => ?_⟩)
            ·
              rw [if_pos (by omega)] at D
              refine x_iconst (v := (-1)) rfl ki_m1 ?_
              refine x_iret rfl rfl ?_
              show jX m_X7_namedSoul 15 0 0 16 [(0, .ref 78), (1, .int v7)] [.int (-1)] _ 0 0 _
              refine x_goto (tgt := 20) rfl rfl ?_
              refine x_iret rfl rfl ?_
              show jX m_X6_byParents 16 0 0 44 [(4, .int v6), (3, .int v4), (0, .ref 120), (1, .int a1), (2, .int 2)] [.int (-1), .ref 120] _ 0 0 _
              refine x_iload (x := v6) rfl rfl ?_
              refine x_iloadn (x := 2) rfl rfl ?_
              refine x_iconst (v := 1) rfl ki_1 ?_
              refine y_iadd (v := 3) rfl (by decide) ?_
              refine x_inv (N := m_X6_belongs) (As := [.int (-1), .int v6, .int 3]) (b := 120) (st := []) (dx9 := 15) (mc := 0) (ms := 0) (host := "") 6 rfl t_X6_belongs ⟨Or.inl q_6_127, i_X6_belongs.1, i_X6_belongs.2⟩ ⟨by decide, rfl⟩ (congrArg Prod.fst (J.1.1 120 (6, 8) rfl)) rfl (by decide) rfl rfl ⟨by decide, by decide⟩ (sf_X6_belongs_r120_c3d (jr_of jk_m1 (by omega)) (jr_of rfl (by omega)) hD J rfl  (fun v757 h ev757 J S754 X755 X756 => ?_))
              have Sm := jSm_tr rfl Sm S754
              try rw [jk_m1] at X755
              try rw [jk_m1] at X756
              try rw [X755] at D
              try rw [X756] at D
              show jX m_X6_byParents 16 0 0 52 [(4, .int v6), (3, .int v4), (0, .ref 120), (1, .int a1), (2, .int 2)] [.int v757] _ 0 0 _
              refine x_istore (lsx9 := [(5, .int v757), (4, .int v6), (3, .int v4), (0, .ref 120), (1, .int a1), (2, .int 2)]) rfl rfl rfl ?_
              refine x_iload (x := v757) rfl rfl ?_
              refine x_iconst (v := (-1)) rfl ki_m1 ?_
              refine x_iceq (tgt := 65) rfl rfl (ti_eq rfl jk_m1 ⟨fun c758 => ?_, fun c758 => ?_⟩)
              ·
                rw [if_pos (by omega)] at D
                refine x_aloadn (x := 120) rfl rfl ?_
                refine x_aloadn (x := 120) rfl rfl ?_
                refine z_getR (N := 8) (b := 78) 6 1 rfl f_6_32 rfl J rfl 15361 ⟨rfl, rfl⟩ rfl ?_
                refine x_iloadn (x := v4) rfl rfl ?_
                refine x_iconst (v := 2) rfl ki_2 ?_
                refine z_iadd rfl rfl jk_2 (by omega) (fun v759 ev759 => ?_)
                refine x_inv (N := m_X7_namedSoul) (As := [.int v759]) (b := 78) (st := [.ref 120]) (dx9 := 15) (mc := 0) (ms := 0) (host := "") 7 rfl t_X7_namedSoul ⟨Or.inl q_6_124, i_X7_namedSoul.1, i_X7_namedSoul.2⟩ ⟨by decide, rfl⟩ (congrArg Prod.fst (J.1.1 78 (7, 16) rfl)) rfl (by decide) rfl rfl ⟨by decide, by decide⟩ (jC.of rfl k_X7_namedSoul rfl ?_)
                show jX m_X7_namedSoul 15 0 0 0 [(0, .ref 78), (1, .int v759)] [] _ 0 0 _
                refine x_aloadn (x := 78) rfl rfl ?_
                refine z_getR (N := 16) (b := 70) 7 1 rfl f_7_59 rfl J rfl 9985 ⟨rfl, rfl⟩ rfl ?_
                refine x_iloadn (x := v759) rfl rfl ?_
                refine x_inv (N := m_X5_isNamed) (As := [.int v759]) (b := 70) (st := []) (dx9 := 14) (mc := 0) (ms := 0) (host := "") 5 rfl t_X5_isNamed ⟨Or.inl q_7_173, i_X5_isNamed.1, i_X5_isNamed.2⟩ ⟨by decide, rfl⟩ (congrArg Prod.fst (J.1.1 70 (5, 9) rfl)) rfl (by decide) rfl rfl ⟨by decide, by decide⟩ (jC.of rfl k_X5_isNamed rfl ?_)
                show jX m_X5_isNamed 14 0 0 0 [(0, .ref 70), (1, .int v759)] [] _ 0 0 _
                refine x_aloadn (x := 70) rfl rfl ?_
                refine x_iloadn (x := v759) rfl rfl ?_
                refine x_iconst (v := 0) rfl ki_0 ?_
                refine x_inv (N := m_X5_lengthOf) (As := [.int v759, .int 0]) (b := 70) (st := []) (dx9 := 13) (mc := 0) (ms := 0) (host := "") 5 rfl t_X5_lengthOf ⟨Or.inl q_5_133, i_X5_lengthOf.1, i_X5_lengthOf.2⟩ ⟨by decide, rfl⟩ (congrArg Prod.fst (J.1.1 70 (5, 9) rfl)) rfl (by decide) rfl rfl ⟨by decide, by decide⟩ (jC.of rfl k_X5_lengthOf rfl ?_)
                show jX m_X5_lengthOf 13 0 0 0 [(0, .ref 70), (1, .int v759), (2, .int 0)] [] _ 0 0 _
                refine x_iloadn (x := v759) rfl rfl ?_
                refine x_iconst (v := 2) rfl ki_2 ?_
                refine z_imul rfl rfl jk_2 (by omega) (fun v760 ev760 => ?_)
                refine x_iloadn (x := 0) rfl rfl ?_
                refine z_iadd rfl rfl jk_0 (by omega) (fun v761 ev761 => ?_)
                refine x_istoren (lsx9 := [(3, .int v761), (0, .ref 70), (1, .int v759), (2, .int 0)]) rfl rfl rfl ?_
                refine x_iloadn (x := v761) rfl rfl ?_
                refine x_iflt (tgt := 26) rfl rfl (ti_lt rfl jk_0 (br_f (by omega) ?_))
                refine x_iloadn (x := v761) rfl rfl ?_
                refine x_sipush (v := 1200) rfl ks_1200 ?_
                refine x_icge (tgt := 26) rfl rfl (ti_ge rfl jk_1200 (br_t (by omega) ?_))
                refine x_iconst (v := (-1)) rfl ki_m1 ?_
                refine x_iret rfl rfl ?_
                show jX m_X5_isNamed 14 0 0 6 [(0, .ref 70), (1, .int v759)] [.int (-1)] _ 0 0 _
                refine x_ifge (tgt := 18) rfl rfl (ti_ge jk_m1 jk_0 (br_f (by omega) ?_))
                refine x_aloadn (x := 70) rfl rfl ?_
                refine x_iloadn (x := v759) rfl rfl ?_
                refine x_iconst (v := 1) rfl ki_1 ?_
                refine x_inv (N := m_X5_lengthOf) (As := [.int v759, .int 1]) (b := 70) (st := []) (dx9 := 13) (mc := 0) (ms := 0) (host := "") 5 rfl t_X5_lengthOf ⟨Or.inl q_5_133, i_X5_lengthOf.1, i_X5_lengthOf.2⟩ ⟨by decide, rfl⟩ (congrArg Prod.fst (J.1.1 70 (5, 9) rfl)) rfl (by decide) rfl rfl ⟨by decide, by decide⟩ (jC.of rfl k_X5_lengthOf rfl ?_)
                show jX m_X5_lengthOf 13 0 0 0 [(0, .ref 70), (1, .int v759), (2, .int 1)] [] _ 0 0 _
                refine x_iloadn (x := v759) rfl rfl ?_
                refine x_iconst (v := 2) rfl ki_2 ?_
                refine z_imul rfl rfl jk_2 (by omega) (fun v762 ev762 => ?_)
                refine x_iloadn (x := 1) rfl rfl ?_
                refine z_iadd rfl rfl jk_1 (by omega) (fun v763 ev763 => ?_)
                refine x_istoren (lsx9 := [(3, .int v763), (0, .ref 70), (1, .int v759), (2, .int 1)]) rfl rfl rfl ?_
                refine x_iloadn (x := v763) rfl rfl ?_
                refine x_iflt (tgt := 26) rfl rfl (ti_lt rfl jk_0 (br_f (by omega) ?_))
                refine x_iloadn (x := v763) rfl rfl ?_
                refine x_sipush (v := 1200) rfl ks_1200 ?_
                refine x_icge (tgt := 26) rfl rfl (ti_ge rfl jk_1200 (br_t (by omega) ?_))
                refine x_iconst (v := (-1)) rfl ki_m1 ?_
                refine x_iret rfl rfl ?_
                show jX m_X5_isNamed 14 0 0 15 [(0, .ref 70), (1, .int v759)] [.int (-1)] _ 0 0 _
                refine x_iflt (tgt := 22) rfl rfl (ti_lt jk_m1 jk_0 (br_t (by omega) ?_))
                refine x_iconst (v := 0) rfl ki_0 ?_
                refine x_zret rfl rfl (by decide) ?_
                show jX m_X7_namedSoul 15 0 0 8 [(0, .ref 78), (1, .int v759)] [.int 0] _ 0 0 _
                refine x_ifeq (tgt := 19) rfl rfl (ti_eq jk_0 jk_0 (br_t (by omega) ?_))
                refine x_iconst (v := (-1)) rfl ki_m1 ?_
                refine x_iret rfl rfl ?_
                show jX m_X6_byParents 16 0 0 76 [(5, .int v757), (4, .int v6), (3, .int v4), (0, .ref 120), (1, .int a1), (2, .int 2)] [.int (-1), .ref 120] _ 0 0 _
                refine x_iload (x := v6) rfl rfl ?_
                refine x_iloadn (x := 2) rfl rfl ?_
                refine x_iconst (v := 1) rfl ki_1 ?_
                refine y_iadd (v := 3) rfl (by decide) ?_
                refine x_inv (N := m_X6_belongs) (As := [.int (-1), .int v6, .int 3]) (b := 120) (st := []) (dx9 := 15) (mc := 0) (ms := 0) (host := "") 6 rfl t_X6_belongs ⟨Or.inl q_6_127, i_X6_belongs.1, i_X6_belongs.2⟩ ⟨by decide, rfl⟩ (congrArg Prod.fst (J.1.1 120 (6, 8) rfl)) rfl (by decide) rfl rfl ⟨by decide, by decide⟩ (sf_X6_belongs_r120_c3d (jr_of jk_m1 (by omega)) (jr_of rfl (by omega)) hD J rfl  (fun v767 h ev767 J S764 X765 X766 => ?_))
                have Sm := jSm_tr rfl Sm S764
                try rw [jk_m1] at X765
                try rw [jk_m1] at X766
                try rw [X765] at D
                try rw [X766] at D
                show jX m_X6_byParents 16 0 0 84 [(5, .int v757), (4, .int v6), (3, .int v4), (0, .ref 120), (1, .int a1), (2, .int 2)] [.int v767] _ 0 0 _
                exact jX.sub jsb_n (ct_X6_byParents_r120_c2d_84 hD hQ  v767 h (jr_of rfl (by omega)) J Sm D)
              ·
                rw [if_neg (by omega)] at D
                refine x_iload (x := v757) rfl rfl ?_
                refine x_goto (tgt := 84) rfl rfl ?_
                exact jX.sub jsb_n (ct_X6_byParents_r120_c2d_84 hD hQ  v757 h (jr_of rfl (by omega)) J Sm D)
            ·
              rw [if_neg (by omega)] at D
              refine x_iloadn (x := v7) rfl rfl ?_
              refine x_iconst (v := 3) rfl ki_3 ?_
              refine z_idiv rfl rfl jk_3 (by omega) (by omega) (fun v768 ev768 => ?_)
              refine x_aloadn (x := 78) rfl rfl ?_
              refine z_getR (N := 16) (b := 32) 7 0 rfl f_7_55 rfl J rfl 9984 ⟨rfl, rfl⟩ rfl ?_
              refine z_getR (N := 20) (b := 33) 1 0 rfl f_7_63 rfl J rfl 4096 ⟨rfl, rfl⟩ rfl ?_
              refine z_getI (N := 4) 8 3 rfl f_7_85 rfl J rfl sg_33_3_4_1_0_1 (fun v769 qv769 ev769 => ?_)
              try rw [vrf qv769] at D
              refine x_icge (tgt := 36) rfl rfl (ti_ge rfl rfl ⟨fun c770 => ?_, fun c770 => ?_⟩)
              ·
                rw [if_pos (by omega)] at D
                refine x_iconst (v := (-1)) rfl ki_m1 ?_
                refine x_iret rfl rfl ?_
                show jX m_X7_namedSoul 15 0 0 16 [(0, .ref 78), (1, .int v7)] [.int (-1)] _ 0 0 _
                refine x_goto (tgt := 20) rfl rfl ?_
                refine x_iret rfl rfl ?_
                show jX m_X6_byParents 16 0 0 44 [(4, .int v6), (3, .int v4), (0, .ref 120), (1, .int a1), (2, .int 2)] [.int (-1), .ref 120] _ 0 0 _
                refine x_iload (x := v6) rfl rfl ?_
                refine x_iloadn (x := 2) rfl rfl ?_
                refine x_iconst (v := 1) rfl ki_1 ?_
                refine y_iadd (v := 3) rfl (by decide) ?_
                refine x_inv (N := m_X6_belongs) (As := [.int (-1), .int v6, .int 3]) (b := 120) (st := []) (dx9 := 15) (mc := 0) (ms := 0) (host := "") 6 rfl t_X6_belongs ⟨Or.inl q_6_127, i_X6_belongs.1, i_X6_belongs.2⟩ ⟨by decide, rfl⟩ (congrArg Prod.fst (J.1.1 120 (6, 8) rfl)) rfl (by decide) rfl rfl ⟨by decide, by decide⟩ (sf_X6_belongs_r120_c3d (jr_of jk_m1 (by omega)) (jr_of rfl (by omega)) hD J rfl  (fun v774 h ev774 J S771 X772 X773 => ?_))
                have Sm := jSm_tr rfl Sm S771
                try rw [jk_m1] at X772
                try rw [jk_m1] at X773
                try rw [X772] at D
                try rw [X773] at D
                show jX m_X6_byParents 16 0 0 52 [(4, .int v6), (3, .int v4), (0, .ref 120), (1, .int a1), (2, .int 2)] [.int v774] _ 0 0 _
                refine x_istore (lsx9 := [(5, .int v774), (4, .int v6), (3, .int v4), (0, .ref 120), (1, .int a1), (2, .int 2)]) rfl rfl rfl ?_
                refine x_iload (x := v774) rfl rfl ?_
                refine x_iconst (v := (-1)) rfl ki_m1 ?_
                refine x_iceq (tgt := 65) rfl rfl (ti_eq rfl jk_m1 ⟨fun c775 => ?_, fun c775 => ?_⟩)
                ·
                  rw [if_pos (by omega)] at D
                  refine x_aloadn (x := 120) rfl rfl ?_
                  refine x_aloadn (x := 120) rfl rfl ?_
                  refine z_getR (N := 8) (b := 78) 6 1 rfl f_6_32 rfl J rfl 15361 ⟨rfl, rfl⟩ rfl ?_
                  refine x_iloadn (x := v4) rfl rfl ?_
                  refine x_iconst (v := 2) rfl ki_2 ?_
                  refine z_iadd rfl rfl jk_2 (by omega) (fun v776 ev776 => ?_)
                  refine x_inv (N := m_X7_namedSoul) (As := [.int v776]) (b := 78) (st := [.ref 120]) (dx9 := 15) (mc := 0) (ms := 0) (host := "") 7 rfl t_X7_namedSoul ⟨Or.inl q_6_124, i_X7_namedSoul.1, i_X7_namedSoul.2⟩ ⟨by decide, rfl⟩ (congrArg Prod.fst (J.1.1 78 (7, 16) rfl)) rfl (by decide) rfl rfl ⟨by decide, by decide⟩ (jC.of rfl k_X7_namedSoul rfl ?_)
                  show jX m_X7_namedSoul 15 0 0 0 [(0, .ref 78), (1, .int v776)] [] _ 0 0 _
                  refine x_aloadn (x := 78) rfl rfl ?_
                  refine z_getR (N := 16) (b := 70) 7 1 rfl f_7_59 rfl J rfl 9985 ⟨rfl, rfl⟩ rfl ?_
                  refine x_iloadn (x := v776) rfl rfl ?_
                  refine x_inv (N := m_X5_isNamed) (As := [.int v776]) (b := 70) (st := []) (dx9 := 14) (mc := 0) (ms := 0) (host := "") 5 rfl t_X5_isNamed ⟨Or.inl q_7_173, i_X5_isNamed.1, i_X5_isNamed.2⟩ ⟨by decide, rfl⟩ (congrArg Prod.fst (J.1.1 70 (5, 9) rfl)) rfl (by decide) rfl rfl ⟨by decide, by decide⟩ (jC.of rfl k_X5_isNamed rfl ?_)
                  show jX m_X5_isNamed 14 0 0 0 [(0, .ref 70), (1, .int v776)] [] _ 0 0 _
                  refine x_aloadn (x := 70) rfl rfl ?_
                  refine x_iloadn (x := v776) rfl rfl ?_
                  refine x_iconst (v := 0) rfl ki_0 ?_
                  refine x_inv (N := m_X5_lengthOf) (As := [.int v776, .int 0]) (b := 70) (st := []) (dx9 := 13) (mc := 0) (ms := 0) (host := "") 5 rfl t_X5_lengthOf ⟨Or.inl q_5_133, i_X5_lengthOf.1, i_X5_lengthOf.2⟩ ⟨by decide, rfl⟩ (congrArg Prod.fst (J.1.1 70 (5, 9) rfl)) rfl (by decide) rfl rfl ⟨by decide, by decide⟩ (jC.of rfl k_X5_lengthOf rfl ?_)
                  show jX m_X5_lengthOf 13 0 0 0 [(0, .ref 70), (1, .int v776), (2, .int 0)] [] _ 0 0 _
                  refine x_iloadn (x := v776) rfl rfl ?_
                  refine x_iconst (v := 2) rfl ki_2 ?_
                  refine z_imul rfl rfl jk_2 (by omega) (fun v777 ev777 => ?_)
                  refine x_iloadn (x := 0) rfl rfl ?_
                  refine z_iadd rfl rfl jk_0 (by omega) (fun v778 ev778 => ?_)
                  refine x_istoren (lsx9 := [(3, .int v778), (0, .ref 70), (1, .int v776), (2, .int 0)]) rfl rfl rfl ?_
                  refine x_iloadn (x := v778) rfl rfl ?_
                  refine x_iflt (tgt := 26) rfl rfl (ti_lt rfl jk_0 (br_f (by omega) ?_))
                  refine x_iloadn (x := v778) rfl rfl ?_
                  refine x_sipush (v := 1200) rfl ks_1200 ?_
                  refine x_icge (tgt := 26) rfl rfl (ti_ge rfl jk_1200 ⟨fun c779 => ?_, fun c779 => ?_⟩)
                  ·
                    rw [if_pos (by omega)] at D
                    refine x_iconst (v := (-1)) rfl ki_m1 ?_
                    refine x_iret rfl rfl ?_
                    show jX m_X5_isNamed 14 0 0 6 [(0, .ref 70), (1, .int v776)] [.int (-1)] _ 0 0 _
                    refine x_ifge (tgt := 18) rfl rfl (ti_ge jk_m1 jk_0 (br_f (by omega) ?_))
                    refine x_aloadn (x := 70) rfl rfl ?_
                    refine x_iloadn (x := v776) rfl rfl ?_
                    refine x_iconst (v := 1) rfl ki_1 ?_
                    refine x_inv (N := m_X5_lengthOf) (As := [.int v776, .int 1]) (b := 70) (st := []) (dx9 := 13) (mc := 0) (ms := 0) (host := "") 5 rfl t_X5_lengthOf ⟨Or.inl q_5_133, i_X5_lengthOf.1, i_X5_lengthOf.2⟩ ⟨by decide, rfl⟩ (congrArg Prod.fst (J.1.1 70 (5, 9) rfl)) rfl (by decide) rfl rfl ⟨by decide, by decide⟩ (jC.of rfl k_X5_lengthOf rfl ?_)
                    show jX m_X5_lengthOf 13 0 0 0 [(0, .ref 70), (1, .int v776), (2, .int 1)] [] _ 0 0 _
                    refine x_iloadn (x := v776) rfl rfl ?_
                    refine x_iconst (v := 2) rfl ki_2 ?_
                    refine z_imul rfl rfl jk_2 (by omega) (fun v780 ev780 => ?_)
                    refine x_iloadn (x := 1) rfl rfl ?_
                    refine z_iadd rfl rfl jk_1 (by omega) (fun v781 ev781 => ?_)
                    refine x_istoren (lsx9 := [(3, .int v781), (0, .ref 70), (1, .int v776), (2, .int 1)]) rfl rfl rfl ?_
                    refine x_iloadn (x := v781) rfl rfl ?_
                    refine x_iflt (tgt := 26) rfl rfl (ti_lt rfl jk_0 (br_f (by omega) ?_))
                    refine x_iloadn (x := v781) rfl rfl ?_
                    refine x_sipush (v := 1200) rfl ks_1200 ?_
                    refine x_icge (tgt := 26) rfl rfl (ti_ge rfl jk_1200 ⟨fun c782 => ?_, fun c782 => ?_⟩)
                    ·
                      rw [if_pos (by omega)] at D
                      refine x_iconst (v := (-1)) rfl ki_m1 ?_
                      refine x_iret rfl rfl ?_
                      show jX m_X5_isNamed 14 0 0 15 [(0, .ref 70), (1, .int v776)] [.int (-1)] _ 0 0 _
                      refine x_iflt (tgt := 22) rfl rfl (ti_lt jk_m1 jk_0 (br_t (by omega) ?_))
                      refine x_iconst (v := 0) rfl ki_0 ?_
                      refine x_zret rfl rfl (by decide) ?_
                      show jX m_X7_namedSoul 15 0 0 8 [(0, .ref 78), (1, .int v776)] [.int 0] _ 0 0 _
                      refine x_ifeq (tgt := 19) rfl rfl (ti_eq jk_0 jk_0 (br_t (by omega) ?_))
                      refine x_iconst (v := (-1)) rfl ki_m1 ?_
                      refine x_iret rfl rfl ?_
                      show jX m_X6_byParents 16 0 0 76 [(5, .int v774), (4, .int v6), (3, .int v4), (0, .ref 120), (1, .int a1), (2, .int 2)] [.int (-1), .ref 120] _ 0 0 _
                      refine x_iload (x := v6) rfl rfl ?_
                      refine x_iloadn (x := 2) rfl rfl ?_
                      refine x_iconst (v := 1) rfl ki_1 ?_
                      refine y_iadd (v := 3) rfl (by decide) ?_
                      refine x_inv (N := m_X6_belongs) (As := [.int (-1), .int v6, .int 3]) (b := 120) (st := []) (dx9 := 15) (mc := 0) (ms := 0) (host := "") 6 rfl t_X6_belongs ⟨Or.inl q_6_127, i_X6_belongs.1, i_X6_belongs.2⟩ ⟨by decide, rfl⟩ (congrArg Prod.fst (J.1.1 120 (6, 8) rfl)) rfl (by decide) rfl rfl ⟨by decide, by decide⟩ (sf_X6_belongs_r120_c3d (jr_of jk_m1 (by omega)) (jr_of rfl (by omega)) hD J rfl  (fun v786 h ev786 J S783 X784 X785 => ?_))
                      have Sm := jSm_tr rfl Sm S783
                      try rw [jk_m1] at X784
                      try rw [jk_m1] at X785
                      try rw [X784] at D
                      try rw [X785] at D
                      show jX m_X6_byParents 16 0 0 84 [(5, .int v774), (4, .int v6), (3, .int v4), (0, .ref 120), (1, .int a1), (2, .int 2)] [.int v786] _ 0 0 _
                      exact jX.sub jsb_n (ct_X6_byParents_r120_c2d_84 hD hQ  v786 h (jr_of rfl (by omega)) J Sm D)
                    ·
                      rw [if_neg (by omega)] at D
                      refine x_aloadn (x := 70) rfl rfl ?_
                      refine z_getR (N := 9) (b := 76) 5 7 rfl f_5_28 rfl J rfl 8967 ⟨rfl, rfl⟩ rfl ?_
                      refine x_iloadn (x := v781) rfl rfl ?_
                      refine z_iald (N := 1200) rfl J rfl sg_76_0_1200_1_0_1 rfl (by omega) (fun v787 qv787 ev787 => ?_)
                      try rw [vrd (jmb_c S771 qv787 rfl) (show (((v4.toInt + 2) * 2) + 1) = v781.toInt from by omega)] at D
                      refine x_goto (tgt := 27) rfl rfl ?_
                      refine x_iret rfl rfl ?_
                      show jX m_X5_isNamed 14 0 0 15 [(0, .ref 70), (1, .int v776)] [.int v787] _ 0 0 _
                      refine x_iflt (tgt := 22) rfl rfl (ti_lt rfl jk_0 ⟨fun c788 => ?_, fun c788 => ?_⟩)
                      ·
                        rw [if_pos (by omega)] at D
                        refine x_iconst (v := 0) rfl ki_0 ?_
                        refine x_zret rfl rfl (by decide) ?_
                        show jX m_X7_namedSoul 15 0 0 8 [(0, .ref 78), (1, .int v776)] [.int 0] _ 0 0 _
                        refine x_ifeq (tgt := 19) rfl rfl (ti_eq jk_0 jk_0 (br_t (by omega) ?_))
                        refine x_iconst (v := (-1)) rfl ki_m1 ?_
                        refine x_iret rfl rfl ?_
                        show jX m_X6_byParents 16 0 0 76 [(5, .int v774), (4, .int v6), (3, .int v4), (0, .ref 120), (1, .int a1), (2, .int 2)] [.int (-1), .ref 120] _ 0 0 _
                        refine x_iload (x := v6) rfl rfl ?_
                        refine x_iloadn (x := 2) rfl rfl ?_
                        refine x_iconst (v := 1) rfl ki_1 ?_
                        refine y_iadd (v := 3) rfl (by decide) ?_
                        refine x_inv (N := m_X6_belongs) (As := [.int (-1), .int v6, .int 3]) (b := 120) (st := []) (dx9 := 15) (mc := 0) (ms := 0) (host := "") 6 rfl t_X6_belongs ⟨Or.inl q_6_127, i_X6_belongs.1, i_X6_belongs.2⟩ ⟨by decide, rfl⟩ (congrArg Prod.fst (J.1.1 120 (6, 8) rfl)) rfl (by decide) rfl rfl ⟨by decide, by decide⟩ (sf_X6_belongs_r120_c3d (jr_of jk_m1 (by omega)) (jr_of rfl (by omega)) hD J rfl  (fun v792 h ev792 J S789 X790 X791 => ?_))
                        have Sm := jSm_tr rfl Sm S789
                        try rw [jk_m1] at X790
                        try rw [jk_m1] at X791
                        try rw [X790] at D
                        try rw [X791] at D
                        show jX m_X6_byParents 16 0 0 84 [(5, .int v774), (4, .int v6), (3, .int v4), (0, .ref 120), (1, .int a1), (2, .int 2)] [.int v792] _ 0 0 _
                        exact jX.sub jsb_n (ct_X6_byParents_r120_c2d_84 hD hQ  v792 h (jr_of rfl (by omega)) J Sm D)
                      ·
                        rw [if_neg (by omega)] at D
                        refine x_iconst (v := 1) rfl ki_1 ?_
                        refine x_goto (tgt := 23) rfl rfl ?_
                        refine x_zret rfl rfl (by decide) ?_
                        show jX m_X7_namedSoul 15 0 0 8 [(0, .ref 78), (1, .int v776)] [.int 1] _ 0 0 _
                        refine x_ifeq (tgt := 19) rfl rfl (ti_eq jk_1 jk_0 (br_f (by omega) ?_))
                        refine x_aloadn (x := 78) rfl rfl ?_
                        refine x_iloadn (x := v776) rfl rfl ?_
                        refine x_inv (N := m_X7_soulAt) (As := [.int v776]) (b := 78) (st := []) (dx9 := 14) (mc := 0) (ms := 0) (host := "") 7 rfl t_X7_soulAt ⟨Or.inl q_7_153, i_X7_soulAt.1, i_X7_soulAt.2⟩ ⟨by decide, rfl⟩ (congrArg Prod.fst (J.1.1 78 (7, 16) rfl)) rfl (by decide) rfl rfl ⟨by decide, by decide⟩ (jC.of rfl k_X7_soulAt rfl ?_)
                        show jX m_X7_soulAt 14 0 0 0 [(0, .ref 78), (1, .int v776)] [] _ 0 0 _
                        refine x_iloadn (x := v776) rfl rfl ?_
                        refine x_iflt (tgt := 36) rfl rfl (ti_lt rfl jk_0 (br_f (by omega) ?_))
                        refine x_iloadn (x := v776) rfl rfl ?_
                        refine x_sipush (v := 600) rfl ks_600 ?_
                        refine x_icge (tgt := 36) rfl rfl (ti_ge rfl jk_600 ⟨fun c793 => ?_, fun c793 => ?_⟩)
                        ·
                          rw [if_pos (by omega)] at D
                          refine x_iconst (v := (-1)) rfl ki_m1 ?_
                          refine x_iret rfl rfl ?_
                          show jX m_X7_namedSoul 15 0 0 16 [(0, .ref 78), (1, .int v776)] [.int (-1)] _ 0 0 _
                          refine x_goto (tgt := 20) rfl rfl ?_
                          refine x_iret rfl rfl ?_
                          show jX m_X6_byParents 16 0 0 76 [(5, .int v774), (4, .int v6), (3, .int v4), (0, .ref 120), (1, .int a1), (2, .int 2)] [.int (-1), .ref 120] _ 0 0 _
                          refine x_iload (x := v6) rfl rfl ?_
                          refine x_iloadn (x := 2) rfl rfl ?_
                          refine x_iconst (v := 1) rfl ki_1 ?_
                          refine y_iadd (v := 3) rfl (by decide) ?_
                          refine x_inv (N := m_X6_belongs) (As := [.int (-1), .int v6, .int 3]) (b := 120) (st := []) (dx9 := 15) (mc := 0) (ms := 0) (host := "") 6 rfl t_X6_belongs ⟨Or.inl q_6_127, i_X6_belongs.1, i_X6_belongs.2⟩ ⟨by decide, rfl⟩ (congrArg Prod.fst (J.1.1 120 (6, 8) rfl)) rfl (by decide) rfl rfl ⟨by decide, by decide⟩ (sf_X6_belongs_r120_c3d (jr_of jk_m1 (by omega)) (jr_of rfl (by omega)) hD J rfl  (fun v797 h ev797 J S794 X795 X796 => ?_))
                          have Sm := jSm_tr rfl Sm S794
                          try rw [jk_m1] at X795
                          try rw [jk_m1] at X796
                          try rw [X795] at D
                          try rw [X796] at D
                          show jX m_X6_byParents 16 0 0 84 [(5, .int v774), (4, .int v6), (3, .int v4), (0, .ref 120), (1, .int a1), (2, .int 2)] [.int v797] _ 0 0 _
                          exact jX.sub jsb_n (ct_X6_byParents_r120_c2d_84 hD hQ  v797 h (jr_of rfl (by omega)) J Sm D)
                        ·
                          rw [if_neg (by omega)] at D
                          refine x_iloadn (x := v776) rfl rfl ?_
                          refine x_iconst (v := 3) rfl ki_3 ?_
                          refine z_idiv rfl rfl jk_3 (by omega) (by omega) (fun v798 ev798 => ?_)
                          refine x_aloadn (x := 78) rfl rfl ?_
                          refine z_getR (N := 16) (b := 32) 7 0 rfl f_7_55 rfl J rfl 9984 ⟨rfl, rfl⟩ rfl ?_
                          refine z_getR (N := 20) (b := 33) 1 0 rfl f_7_63 rfl J rfl 4096 ⟨rfl, rfl⟩ rfl ?_
                          refine z_getM (N := 4) (v := v769) 8 3 rfl f_7_85 rfl J rfl (jmc S771 rfl qv769) ?_
                          refine x_icge (tgt := 36) rfl rfl (ti_ge rfl rfl ⟨fun c799 => ?_, fun c799 => ?_⟩)
                          ·
                            rw [if_pos (by omega)] at D
                            refine x_iconst (v := (-1)) rfl ki_m1 ?_
                            refine x_iret rfl rfl ?_
                            show jX m_X7_namedSoul 15 0 0 16 [(0, .ref 78), (1, .int v776)] [.int (-1)] _ 0 0 _
                            refine x_goto (tgt := 20) rfl rfl ?_
                            refine x_iret rfl rfl ?_
                            show jX m_X6_byParents 16 0 0 76 [(5, .int v774), (4, .int v6), (3, .int v4), (0, .ref 120), (1, .int a1), (2, .int 2)] [.int (-1), .ref 120] _ 0 0 _
                            refine x_iload (x := v6) rfl rfl ?_
                            refine x_iloadn (x := 2) rfl rfl ?_
                            refine x_iconst (v := 1) rfl ki_1 ?_
                            refine y_iadd (v := 3) rfl (by decide) ?_
                            refine x_inv (N := m_X6_belongs) (As := [.int (-1), .int v6, .int 3]) (b := 120) (st := []) (dx9 := 15) (mc := 0) (ms := 0) (host := "") 6 rfl t_X6_belongs ⟨Or.inl q_6_127, i_X6_belongs.1, i_X6_belongs.2⟩ ⟨by decide, rfl⟩ (congrArg Prod.fst (J.1.1 120 (6, 8) rfl)) rfl (by decide) rfl rfl ⟨by decide, by decide⟩ (sf_X6_belongs_r120_c3d (jr_of jk_m1 (by omega)) (jr_of rfl (by omega)) hD J rfl  (fun v803 h ev803 J S800 X801 X802 => ?_))
                            have Sm := jSm_tr rfl Sm S800
                            try rw [jk_m1] at X801
                            try rw [jk_m1] at X802
                            try rw [X801] at D
                            try rw [X802] at D
                            show jX m_X6_byParents 16 0 0 84 [(5, .int v774), (4, .int v6), (3, .int v4), (0, .ref 120), (1, .int a1), (2, .int 2)] [.int v803] _ 0 0 _
                            exact jX.sub jsb_n (ct_X6_byParents_r120_c2d_84 hD hQ  v803 h (jr_of rfl (by omega)) J Sm D)
                          ·
                            rw [if_neg (by omega)] at D
                            refine x_aloadn (x := 78) rfl rfl ?_
                            refine z_getR (N := 16) (b := 82) 7 10 rfl f_7_37 rfl J rfl 9994 ⟨rfl, rfl⟩ rfl ?_
                            refine x_iloadn (x := v776) rfl rfl ?_
                            refine z_iald (N := 600) rfl J rfl sg_82_0_600_1_0_1 rfl (by omega) (fun v804 qv804 ev804 => ?_)
                            try rw [vrd (jmb_c S771 qv804 rfl) (show (v4.toInt + 2) = v776.toInt from by omega)] at D
                            refine x_goto (tgt := 37) rfl rfl ?_
                            refine x_iret rfl rfl ?_
                            show jX m_X7_namedSoul 15 0 0 16 [(0, .ref 78), (1, .int v776)] [.int v804] _ 0 0 _
                            refine x_goto (tgt := 20) rfl rfl ?_
                            refine x_iret rfl rfl ?_
                            show jX m_X6_byParents 16 0 0 76 [(5, .int v774), (4, .int v6), (3, .int v4), (0, .ref 120), (1, .int a1), (2, .int 2)] [.int v804, .ref 120] _ 0 0 _
                            refine x_iload (x := v6) rfl rfl ?_
                            refine x_iloadn (x := 2) rfl rfl ?_
                            refine x_iconst (v := 1) rfl ki_1 ?_
                            refine y_iadd (v := 3) rfl (by decide) ?_
                            refine x_inv (N := m_X6_belongs) (As := [.int v804, .int v6, .int 3]) (b := 120) (st := []) (dx9 := 15) (mc := 0) (ms := 0) (host := "") 6 rfl t_X6_belongs ⟨Or.inl q_6_127, i_X6_belongs.1, i_X6_belongs.2⟩ ⟨by decide, rfl⟩ (congrArg Prod.fst (J.1.1 120 (6, 8) rfl)) rfl (by decide) rfl rfl ⟨by decide, by decide⟩ (sf_X6_belongs_r120_c3d (jr_of rfl (by omega)) (jr_of rfl (by omega)) hD J rfl  (fun v808 h ev808 J S805 X806 X807 => ?_))
                            have Sm := jSm_tr rfl Sm S805
                            try rw [X806] at D
                            try rw [X807] at D
                            show jX m_X6_byParents 16 0 0 84 [(5, .int v774), (4, .int v6), (3, .int v4), (0, .ref 120), (1, .int a1), (2, .int 2)] [.int v808] _ 0 0 _
                            exact jX.sub jsb_n (ct_X6_byParents_r120_c2d_84 hD hQ  v808 h (jr_of rfl (by omega)) J Sm D)
                  ·
                    rw [if_neg (by omega)] at D
                    refine x_aloadn (x := 70) rfl rfl ?_
                    refine z_getR (N := 9) (b := 76) 5 7 rfl f_5_28 rfl J rfl 8967 ⟨rfl, rfl⟩ rfl ?_
                    refine x_iloadn (x := v778) rfl rfl ?_
                    refine z_iald (N := 1200) rfl J rfl sg_76_0_1200_1_0_1 rfl (by omega) (fun v809 qv809 ev809 => ?_)
                    try rw [vrd (jmb_c S771 qv809 rfl) (show (((v4.toInt + 2) * 2) + 0) = v778.toInt from by omega)] at D
                    refine x_goto (tgt := 27) rfl rfl ?_
                    refine x_iret rfl rfl ?_
                    show jX m_X5_isNamed 14 0 0 6 [(0, .ref 70), (1, .int v776)] [.int v809] _ 0 0 _
                    refine x_ifge (tgt := 18) rfl rfl (ti_ge rfl jk_0 ⟨fun c810 => ?_, fun c810 => ?_⟩)
                    ·
                      rw [if_pos (by omega)] at D
                      refine x_iconst (v := 1) rfl ki_1 ?_
                      refine x_goto (tgt := 23) rfl rfl ?_
                      refine x_zret rfl rfl (by decide) ?_
                      show jX m_X7_namedSoul 15 0 0 8 [(0, .ref 78), (1, .int v776)] [.int 1] _ 0 0 _
                      refine x_ifeq (tgt := 19) rfl rfl (ti_eq jk_1 jk_0 (br_f (by omega) ?_))
                      refine x_aloadn (x := 78) rfl rfl ?_
                      refine x_iloadn (x := v776) rfl rfl ?_
                      refine x_inv (N := m_X7_soulAt) (As := [.int v776]) (b := 78) (st := []) (dx9 := 14) (mc := 0) (ms := 0) (host := "") 7 rfl t_X7_soulAt ⟨Or.inl q_7_153, i_X7_soulAt.1, i_X7_soulAt.2⟩ ⟨by decide, rfl⟩ (congrArg Prod.fst (J.1.1 78 (7, 16) rfl)) rfl (by decide) rfl rfl ⟨by decide, by decide⟩ (jC.of rfl k_X7_soulAt rfl ?_)
                      show jX m_X7_soulAt 14 0 0 0 [(0, .ref 78), (1, .int v776)] [] _ 0 0 _
                      refine x_iloadn (x := v776) rfl rfl ?_
                      refine x_iflt (tgt := 36) rfl rfl (ti_lt rfl jk_0 (br_f (by omega) ?_))
                      refine x_iloadn (x := v776) rfl rfl ?_
                      refine x_sipush (v := 600) rfl ks_600 ?_
                      refine x_icge (tgt := 36) rfl rfl (ti_ge rfl jk_600 ⟨fun c811 => ?_, fun c811 => ?_⟩)
                      ·
                        rw [if_pos (by omega)] at D
                        refine x_iconst (v := (-1)) rfl ki_m1 ?_
                        refine x_iret rfl rfl ?_
                        show jX m_X7_namedSoul 15 0 0 16 [(0, .ref 78), (1, .int v776)] [.int (-1)] _ 0 0 _
                        refine x_goto (tgt := 20) rfl rfl ?_
                        refine x_iret rfl rfl ?_
                        show jX m_X6_byParents 16 0 0 76 [(5, .int v774), (4, .int v6), (3, .int v4), (0, .ref 120), (1, .int a1), (2, .int 2)] [.int (-1), .ref 120] _ 0 0 _
                        refine x_iload (x := v6) rfl rfl ?_
                        refine x_iloadn (x := 2) rfl rfl ?_
                        refine x_iconst (v := 1) rfl ki_1 ?_
                        refine y_iadd (v := 3) rfl (by decide) ?_
                        refine x_inv (N := m_X6_belongs) (As := [.int (-1), .int v6, .int 3]) (b := 120) (st := []) (dx9 := 15) (mc := 0) (ms := 0) (host := "") 6 rfl t_X6_belongs ⟨Or.inl q_6_127, i_X6_belongs.1, i_X6_belongs.2⟩ ⟨by decide, rfl⟩ (congrArg Prod.fst (J.1.1 120 (6, 8) rfl)) rfl (by decide) rfl rfl ⟨by decide, by decide⟩ (sf_X6_belongs_r120_c3d (jr_of jk_m1 (by omega)) (jr_of rfl (by omega)) hD J rfl  (fun v815 h ev815 J S812 X813 X814 => ?_))
                        have Sm := jSm_tr rfl Sm S812
                        try rw [jk_m1] at X813
                        try rw [jk_m1] at X814
                        try rw [X813] at D
                        try rw [X814] at D
                        show jX m_X6_byParents 16 0 0 84 [(5, .int v774), (4, .int v6), (3, .int v4), (0, .ref 120), (1, .int a1), (2, .int 2)] [.int v815] _ 0 0 _
                        exact jX.sub jsb_n (ct_X6_byParents_r120_c2d_84 hD hQ  v815 h (jr_of rfl (by omega)) J Sm D)
                      ·
                        rw [if_neg (by omega)] at D
                        refine x_iloadn (x := v776) rfl rfl ?_
                        refine x_iconst (v := 3) rfl ki_3 ?_
                        refine z_idiv rfl rfl jk_3 (by omega) (by omega) (fun v816 ev816 => ?_)
                        refine x_aloadn (x := 78) rfl rfl ?_
                        refine z_getR (N := 16) (b := 32) 7 0 rfl f_7_55 rfl J rfl 9984 ⟨rfl, rfl⟩ rfl ?_
                        refine z_getR (N := 20) (b := 33) 1 0 rfl f_7_63 rfl J rfl 4096 ⟨rfl, rfl⟩ rfl ?_
                        refine z_getM (N := 4) (v := v769) 8 3 rfl f_7_85 rfl J rfl (jmc S771 rfl qv769) ?_
                        refine x_icge (tgt := 36) rfl rfl (ti_ge rfl rfl ⟨fun c817 => ?_, fun c817 => ?_⟩)
                        ·
                          rw [if_pos (by omega)] at D
                          refine x_iconst (v := (-1)) rfl ki_m1 ?_
                          refine x_iret rfl rfl ?_
                          show jX m_X7_namedSoul 15 0 0 16 [(0, .ref 78), (1, .int v776)] [.int (-1)] _ 0 0 _
                          refine x_goto (tgt := 20) rfl rfl ?_
                          refine x_iret rfl rfl ?_
                          show jX m_X6_byParents 16 0 0 76 [(5, .int v774), (4, .int v6), (3, .int v4), (0, .ref 120), (1, .int a1), (2, .int 2)] [.int (-1), .ref 120] _ 0 0 _
                          refine x_iload (x := v6) rfl rfl ?_
                          refine x_iloadn (x := 2) rfl rfl ?_
                          refine x_iconst (v := 1) rfl ki_1 ?_
                          refine y_iadd (v := 3) rfl (by decide) ?_
                          refine x_inv (N := m_X6_belongs) (As := [.int (-1), .int v6, .int 3]) (b := 120) (st := []) (dx9 := 15) (mc := 0) (ms := 0) (host := "") 6 rfl t_X6_belongs ⟨Or.inl q_6_127, i_X6_belongs.1, i_X6_belongs.2⟩ ⟨by decide, rfl⟩ (congrArg Prod.fst (J.1.1 120 (6, 8) rfl)) rfl (by decide) rfl rfl ⟨by decide, by decide⟩ (sf_X6_belongs_r120_c3d (jr_of jk_m1 (by omega)) (jr_of rfl (by omega)) hD J rfl  (fun v821 h ev821 J S818 X819 X820 => ?_))
                          have Sm := jSm_tr rfl Sm S818
                          try rw [jk_m1] at X819
                          try rw [jk_m1] at X820
                          try rw [X819] at D
                          try rw [X820] at D
                          show jX m_X6_byParents 16 0 0 84 [(5, .int v774), (4, .int v6), (3, .int v4), (0, .ref 120), (1, .int a1), (2, .int 2)] [.int v821] _ 0 0 _
                          exact jX.sub jsb_n (ct_X6_byParents_r120_c2d_84 hD hQ  v821 h (jr_of rfl (by omega)) J Sm D)
                        ·
                          rw [if_neg (by omega)] at D
                          refine x_aloadn (x := 78) rfl rfl ?_
                          refine z_getR (N := 16) (b := 82) 7 10 rfl f_7_37 rfl J rfl 9994 ⟨rfl, rfl⟩ rfl ?_
                          refine x_iloadn (x := v776) rfl rfl ?_
                          refine z_iald (N := 600) rfl J rfl sg_82_0_600_1_0_1 rfl (by omega) (fun v822 qv822 ev822 => ?_)
                          try rw [vrd (jmb_c S771 qv822 rfl) (show (v4.toInt + 2) = v776.toInt from by omega)] at D
                          refine x_goto (tgt := 37) rfl rfl ?_
                          refine x_iret rfl rfl ?_
                          show jX m_X7_namedSoul 15 0 0 16 [(0, .ref 78), (1, .int v776)] [.int v822] _ 0 0 _
                          refine x_goto (tgt := 20) rfl rfl ?_
                          refine x_iret rfl rfl ?_
                          show jX m_X6_byParents 16 0 0 76 [(5, .int v774), (4, .int v6), (3, .int v4), (0, .ref 120), (1, .int a1), (2, .int 2)] [.int v822, .ref 120] _ 0 0 _
                          refine x_iload (x := v6) rfl rfl ?_
                          refine x_iloadn (x := 2) rfl rfl ?_
                          refine x_iconst (v := 1) rfl ki_1 ?_
                          refine y_iadd (v := 3) rfl (by decide) ?_
                          refine x_inv (N := m_X6_belongs) (As := [.int v822, .int v6, .int 3]) (b := 120) (st := []) (dx9 := 15) (mc := 0) (ms := 0) (host := "") 6 rfl t_X6_belongs ⟨Or.inl q_6_127, i_X6_belongs.1, i_X6_belongs.2⟩ ⟨by decide, rfl⟩ (congrArg Prod.fst (J.1.1 120 (6, 8) rfl)) rfl (by decide) rfl rfl ⟨by decide, by decide⟩ (sf_X6_belongs_r120_c3d (jr_of rfl (by omega)) (jr_of rfl (by omega)) hD J rfl  (fun v826 h ev826 J S823 X824 X825 => ?_))
                          have Sm := jSm_tr rfl Sm S823
                          try rw [X824] at D
                          try rw [X825] at D
                          show jX m_X6_byParents 16 0 0 84 [(5, .int v774), (4, .int v6), (3, .int v4), (0, .ref 120), (1, .int a1), (2, .int 2)] [.int v826] _ 0 0 _
                          exact jX.sub jsb_n (ct_X6_byParents_r120_c2d_84 hD hQ  v826 h (jr_of rfl (by omega)) J Sm D)
                    ·
                      rw [if_neg (by omega)] at D
                      refine x_aloadn (x := 70) rfl rfl ?_
                      refine x_iloadn (x := v776) rfl rfl ?_
                      refine x_iconst (v := 1) rfl ki_1 ?_
                      refine x_inv (N := m_X5_lengthOf) (As := [.int v776, .int 1]) (b := 70) (st := []) (dx9 := 13) (mc := 0) (ms := 0) (host := "") 5 rfl t_X5_lengthOf ⟨Or.inl q_5_133, i_X5_lengthOf.1, i_X5_lengthOf.2⟩ ⟨by decide, rfl⟩ (congrArg Prod.fst (J.1.1 70 (5, 9) rfl)) rfl (by decide) rfl rfl ⟨by decide, by decide⟩ (jC.of rfl k_X5_lengthOf rfl ?_)
                      show jX m_X5_lengthOf 13 0 0 0 [(0, .ref 70), (1, .int v776), (2, .int 1)] [] _ 0 0 _
                      refine x_iloadn (x := v776) rfl rfl ?_
                      refine x_iconst (v := 2) rfl ki_2 ?_
                      refine z_imul rfl rfl jk_2 (by omega) (fun v827 ev827 => ?_)
                      refine x_iloadn (x := 1) rfl rfl ?_
                      refine z_iadd rfl rfl jk_1 (by omega) (fun v828 ev828 => ?_)
                      refine x_istoren (lsx9 := [(3, .int v828), (0, .ref 70), (1, .int v776), (2, .int 1)]) rfl rfl rfl ?_
                      refine x_iloadn (x := v828) rfl rfl ?_
                      refine x_iflt (tgt := 26) rfl rfl (ti_lt rfl jk_0 (br_f (by omega) ?_))
                      refine x_iloadn (x := v828) rfl rfl ?_
                      refine x_sipush (v := 1200) rfl ks_1200 ?_
                      refine x_icge (tgt := 26) rfl rfl (ti_ge rfl jk_1200 ⟨fun c829 => ?_, fun c829 => ?_⟩)
                      ·
                        rw [if_pos (by omega)] at D
                        refine x_iconst (v := (-1)) rfl ki_m1 ?_
                        refine x_iret rfl rfl ?_
                        show jX m_X5_isNamed 14 0 0 15 [(0, .ref 70), (1, .int v776)] [.int (-1)] _ 0 0 _
                        refine x_iflt (tgt := 22) rfl rfl (ti_lt jk_m1 jk_0 (br_t (by omega) ?_))
                        refine x_iconst (v := 0) rfl ki_0 ?_
                        refine x_zret rfl rfl (by decide) ?_
                        show jX m_X7_namedSoul 15 0 0 8 [(0, .ref 78), (1, .int v776)] [.int 0] _ 0 0 _
                        refine x_ifeq (tgt := 19) rfl rfl (ti_eq jk_0 jk_0 (br_t (by omega) ?_))
                        refine x_iconst (v := (-1)) rfl ki_m1 ?_
                        refine x_iret rfl rfl ?_
                        show jX m_X6_byParents 16 0 0 76 [(5, .int v774), (4, .int v6), (3, .int v4), (0, .ref 120), (1, .int a1), (2, .int 2)] [.int (-1), .ref 120] _ 0 0 _
                        refine x_iload (x := v6) rfl rfl ?_
                        refine x_iloadn (x := 2) rfl rfl ?_
                        refine x_iconst (v := 1) rfl ki_1 ?_
                        refine y_iadd (v := 3) rfl (by decide) ?_
                        refine x_inv (N := m_X6_belongs) (As := [.int (-1), .int v6, .int 3]) (b := 120) (st := []) (dx9 := 15) (mc := 0) (ms := 0) (host := "") 6 rfl t_X6_belongs ⟨Or.inl q_6_127, i_X6_belongs.1, i_X6_belongs.2⟩ ⟨by decide, rfl⟩ (congrArg Prod.fst (J.1.1 120 (6, 8) rfl)) rfl (by decide) rfl rfl ⟨by decide, by decide⟩ (sf_X6_belongs_r120_c3d (jr_of jk_m1 (by omega)) (jr_of rfl (by omega)) hD J rfl  (fun v833 h ev833 J S830 X831 X832 => ?_))
                        have Sm := jSm_tr rfl Sm S830
                        try rw [jk_m1] at X831
                        try rw [jk_m1] at X832
                        try rw [X831] at D
                        try rw [X832] at D
                        show jX m_X6_byParents 16 0 0 84 [(5, .int v774), (4, .int v6), (3, .int v4), (0, .ref 120), (1, .int a1), (2, .int 2)] [.int v833] _ 0 0 _
                        exact jX.sub jsb_n (ct_X6_byParents_r120_c2d_84 hD hQ  v833 h (jr_of rfl (by omega)) J Sm D)
                      ·
                        rw [if_neg (by omega)] at D
                        refine x_aloadn (x := 70) rfl rfl ?_
                        refine z_getR (N := 9) (b := 76) 5 7 rfl f_5_28 rfl J rfl 8967 ⟨rfl, rfl⟩ rfl ?_
                        refine x_iloadn (x := v828) rfl rfl ?_
                        refine z_iald (N := 1200) rfl J rfl sg_76_0_1200_1_0_1 rfl (by omega) (fun v834 qv834 ev834 => ?_)
                        try rw [vrd (jmb_c S771 qv834 rfl) (show (((v4.toInt + 2) * 2) + 1) = v828.toInt from by omega)] at D
                        refine x_goto (tgt := 27) rfl rfl ?_
                        refine x_iret rfl rfl ?_
                        show jX m_X5_isNamed 14 0 0 15 [(0, .ref 70), (1, .int v776)] [.int v834] _ 0 0 _
                        refine x_iflt (tgt := 22) rfl rfl (ti_lt rfl jk_0 ⟨fun c835 => ?_, fun c835 => ?_⟩)
                        ·
                          rw [if_pos (by omega)] at D
                          refine x_iconst (v := 0) rfl ki_0 ?_
                          refine x_zret rfl rfl (by decide) ?_
                          show jX m_X7_namedSoul 15 0 0 8 [(0, .ref 78), (1, .int v776)] [.int 0] _ 0 0 _
                          refine x_ifeq (tgt := 19) rfl rfl (ti_eq jk_0 jk_0 (br_t (by omega) ?_))
                          refine x_iconst (v := (-1)) rfl ki_m1 ?_
                          refine x_iret rfl rfl ?_
                          show jX m_X6_byParents 16 0 0 76 [(5, .int v774), (4, .int v6), (3, .int v4), (0, .ref 120), (1, .int a1), (2, .int 2)] [.int (-1), .ref 120] _ 0 0 _
                          refine x_iload (x := v6) rfl rfl ?_
                          refine x_iloadn (x := 2) rfl rfl ?_
                          refine x_iconst (v := 1) rfl ki_1 ?_
                          refine y_iadd (v := 3) rfl (by decide) ?_
                          refine x_inv (N := m_X6_belongs) (As := [.int (-1), .int v6, .int 3]) (b := 120) (st := []) (dx9 := 15) (mc := 0) (ms := 0) (host := "") 6 rfl t_X6_belongs ⟨Or.inl q_6_127, i_X6_belongs.1, i_X6_belongs.2⟩ ⟨by decide, rfl⟩ (congrArg Prod.fst (J.1.1 120 (6, 8) rfl)) rfl (by decide) rfl rfl ⟨by decide, by decide⟩ (sf_X6_belongs_r120_c3d (jr_of jk_m1 (by omega)) (jr_of rfl (by omega)) hD J rfl  (fun v839 h ev839 J S836 X837 X838 => ?_))
                          have Sm := jSm_tr rfl Sm S836
                          try rw [jk_m1] at X837
                          try rw [jk_m1] at X838
                          try rw [X837] at D
                          try rw [X838] at D
                          show jX m_X6_byParents 16 0 0 84 [(5, .int v774), (4, .int v6), (3, .int v4), (0, .ref 120), (1, .int a1), (2, .int 2)] [.int v839] _ 0 0 _
                          exact jX.sub jsb_n (ct_X6_byParents_r120_c2d_84 hD hQ  v839 h (jr_of rfl (by omega)) J Sm D)
                        ·
                          rw [if_neg (by omega)] at D
                          refine x_iconst (v := 1) rfl ki_1 ?_
                          refine x_goto (tgt := 23) rfl rfl ?_
                          refine x_zret rfl rfl (by decide) ?_
                          show jX m_X7_namedSoul 15 0 0 8 [(0, .ref 78), (1, .int v776)] [.int 1] _ 0 0 _
                          refine x_ifeq (tgt := 19) rfl rfl (ti_eq jk_1 jk_0 (br_f (by omega) ?_))
                          refine x_aloadn (x := 78) rfl rfl ?_
                          refine x_iloadn (x := v776) rfl rfl ?_
                          refine x_inv (N := m_X7_soulAt) (As := [.int v776]) (b := 78) (st := []) (dx9 := 14) (mc := 0) (ms := 0) (host := "") 7 rfl t_X7_soulAt ⟨Or.inl q_7_153, i_X7_soulAt.1, i_X7_soulAt.2⟩ ⟨by decide, rfl⟩ (congrArg Prod.fst (J.1.1 78 (7, 16) rfl)) rfl (by decide) rfl rfl ⟨by decide, by decide⟩ (jC.of rfl k_X7_soulAt rfl ?_)
                          show jX m_X7_soulAt 14 0 0 0 [(0, .ref 78), (1, .int v776)] [] _ 0 0 _
                          refine x_iloadn (x := v776) rfl rfl ?_
                          refine x_iflt (tgt := 36) rfl rfl (ti_lt rfl jk_0 (br_f (by omega) ?_))
                          refine x_iloadn (x := v776) rfl rfl ?_
                          refine x_sipush (v := 600) rfl ks_600 ?_
                          refine x_icge (tgt := 36) rfl rfl (ti_ge rfl jk_600 ⟨fun c840 => ?_, fun c840 => ?_⟩)
                          ·
                            rw [if_pos (by omega)] at D
                            refine x_iconst (v := (-1)) rfl ki_m1 ?_
                            refine x_iret rfl rfl ?_
                            show jX m_X7_namedSoul 15 0 0 16 [(0, .ref 78), (1, .int v776)] [.int (-1)] _ 0 0 _
                            refine x_goto (tgt := 20) rfl rfl ?_
                            refine x_iret rfl rfl ?_
                            show jX m_X6_byParents 16 0 0 76 [(5, .int v774), (4, .int v6), (3, .int v4), (0, .ref 120), (1, .int a1), (2, .int 2)] [.int (-1), .ref 120] _ 0 0 _
                            refine x_iload (x := v6) rfl rfl ?_
                            refine x_iloadn (x := 2) rfl rfl ?_
                            refine x_iconst (v := 1) rfl ki_1 ?_
                            refine y_iadd (v := 3) rfl (by decide) ?_
                            refine x_inv (N := m_X6_belongs) (As := [.int (-1), .int v6, .int 3]) (b := 120) (st := []) (dx9 := 15) (mc := 0) (ms := 0) (host := "") 6 rfl t_X6_belongs ⟨Or.inl q_6_127, i_X6_belongs.1, i_X6_belongs.2⟩ ⟨by decide, rfl⟩ (congrArg Prod.fst (J.1.1 120 (6, 8) rfl)) rfl (by decide) rfl rfl ⟨by decide, by decide⟩ (sf_X6_belongs_r120_c3d (jr_of jk_m1 (by omega)) (jr_of rfl (by omega)) hD J rfl  (fun v844 h ev844 J S841 X842 X843 => ?_))
                            have Sm := jSm_tr rfl Sm S841
                            try rw [jk_m1] at X842
                            try rw [jk_m1] at X843
                            try rw [X842] at D
                            try rw [X843] at D
                            show jX m_X6_byParents 16 0 0 84 [(5, .int v774), (4, .int v6), (3, .int v4), (0, .ref 120), (1, .int a1), (2, .int 2)] [.int v844] _ 0 0 _
                            exact jX.sub jsb_n (ct_X6_byParents_r120_c2d_84 hD hQ  v844 h (jr_of rfl (by omega)) J Sm D)
                          ·
                            rw [if_neg (by omega)] at D
                            refine x_iloadn (x := v776) rfl rfl ?_
                            refine x_iconst (v := 3) rfl ki_3 ?_
                            refine z_idiv rfl rfl jk_3 (by omega) (by omega) (fun v845 ev845 => ?_)
                            refine x_aloadn (x := 78) rfl rfl ?_
                            refine z_getR (N := 16) (b := 32) 7 0 rfl f_7_55 rfl J rfl 9984 ⟨rfl, rfl⟩ rfl ?_
                            refine z_getR (N := 20) (b := 33) 1 0 rfl f_7_63 rfl J rfl 4096 ⟨rfl, rfl⟩ rfl ?_
                            refine z_getM (N := 4) (v := v769) 8 3 rfl f_7_85 rfl J rfl (jmc S771 rfl qv769) ?_
                            refine x_icge (tgt := 36) rfl rfl (ti_ge rfl rfl ⟨fun c846 => ?_, fun c846 => ?_⟩)
                            ·
                              rw [if_pos (by omega)] at D
                              refine x_iconst (v := (-1)) rfl ki_m1 ?_
                              refine x_iret rfl rfl ?_
                              show jX m_X7_namedSoul 15 0 0 16 [(0, .ref 78), (1, .int v776)] [.int (-1)] _ 0 0 _
                              refine x_goto (tgt := 20) rfl rfl ?_
                              refine x_iret rfl rfl ?_
                              show jX m_X6_byParents 16 0 0 76 [(5, .int v774), (4, .int v6), (3, .int v4), (0, .ref 120), (1, .int a1), (2, .int 2)] [.int (-1), .ref 120] _ 0 0 _
                              refine x_iload (x := v6) rfl rfl ?_
                              refine x_iloadn (x := 2) rfl rfl ?_
                              refine x_iconst (v := 1) rfl ki_1 ?_
                              refine y_iadd (v := 3) rfl (by decide) ?_
                              refine x_inv (N := m_X6_belongs) (As := [.int (-1), .int v6, .int 3]) (b := 120) (st := []) (dx9 := 15) (mc := 0) (ms := 0) (host := "") 6 rfl t_X6_belongs ⟨Or.inl q_6_127, i_X6_belongs.1, i_X6_belongs.2⟩ ⟨by decide, rfl⟩ (congrArg Prod.fst (J.1.1 120 (6, 8) rfl)) rfl (by decide) rfl rfl ⟨by decide, by decide⟩ (sf_X6_belongs_r120_c3d (jr_of jk_m1 (by omega)) (jr_of rfl (by omega)) hD J rfl  (fun v850 h ev850 J S847 X848 X849 => ?_))
                              have Sm := jSm_tr rfl Sm S847
                              try rw [jk_m1] at X848
                              try rw [jk_m1] at X849
                              try rw [X848] at D
                              try rw [X849] at D
                              show jX m_X6_byParents 16 0 0 84 [(5, .int v774), (4, .int v6), (3, .int v4), (0, .ref 120), (1, .int a1), (2, .int 2)] [.int v850] _ 0 0 _
                              exact jX.sub jsb_n (ct_X6_byParents_r120_c2d_84 hD hQ  v850 h (jr_of rfl (by omega)) J Sm D)
                            ·
                              rw [if_neg (by omega)] at D
                              refine x_aloadn (x := 78) rfl rfl ?_
                              refine z_getR (N := 16) (b := 82) 7 10 rfl f_7_37 rfl J rfl 9994 ⟨rfl, rfl⟩ rfl ?_
                              refine x_iloadn (x := v776) rfl rfl ?_
                              refine z_iald (N := 600) rfl J rfl sg_82_0_600_1_0_1 rfl (by omega) (fun v851 qv851 ev851 => ?_)
                              try rw [vrd (jmb_c S771 qv851 rfl) (show (v4.toInt + 2) = v776.toInt from by omega)] at D
                              refine x_goto (tgt := 37) rfl rfl ?_
                              refine x_iret rfl rfl ?_
                              show jX m_X7_namedSoul 15 0 0 16 [(0, .ref 78), (1, .int v776)] [.int v851] _ 0 0 _
                              refine x_goto (tgt := 20) rfl rfl ?_
                              refine x_iret rfl rfl ?_
                              show jX m_X6_byParents 16 0 0 76 [(5, .int v774), (4, .int v6), (3, .int v4), (0, .ref 120), (1, .int a1), (2, .int 2)] [.int v851, .ref 120] _ 0 0 _
                              refine x_iload (x := v6) rfl rfl ?_
                              refine x_iloadn (x := 2) rfl rfl ?_
                              refine x_iconst (v := 1) rfl ki_1 ?_
                              refine y_iadd (v := 3) rfl (by decide) ?_
                              refine x_inv (N := m_X6_belongs) (As := [.int v851, .int v6, .int 3]) (b := 120) (st := []) (dx9 := 15) (mc := 0) (ms := 0) (host := "") 6 rfl t_X6_belongs ⟨Or.inl q_6_127, i_X6_belongs.1, i_X6_belongs.2⟩ ⟨by decide, rfl⟩ (congrArg Prod.fst (J.1.1 120 (6, 8) rfl)) rfl (by decide) rfl rfl ⟨by decide, by decide⟩ (sf_X6_belongs_r120_c3d (jr_of rfl (by omega)) (jr_of rfl (by omega)) hD J rfl  (fun v855 h ev855 J S852 X853 X854 => ?_))
                              have Sm := jSm_tr rfl Sm S852
                              try rw [X853] at D
                              try rw [X854] at D
                              show jX m_X6_byParents 16 0 0 84 [(5, .int v774), (4, .int v6), (3, .int v4), (0, .ref 120), (1, .int a1), (2, .int 2)] [.int v855] _ 0 0 _
                              exact jX.sub jsb_n (ct_X6_byParents_r120_c2d_84 hD hQ  v855 h (jr_of rfl (by omega)) J Sm D)
                ·
                  rw [if_neg (by omega)] at D
                  refine x_iload (x := v774) rfl rfl ?_
                  refine x_goto (tgt := 84) rfl rfl ?_
                  exact jX.sub jsb_n (ct_X6_byParents_r120_c2d_84 hD hQ  v774 h (jr_of rfl (by omega)) J Sm D)
              ·
                rw [if_neg (by omega)] at D
                refine x_aloadn (x := 78) rfl rfl ?_
                refine z_getR (N := 16) (b := 82) 7 10 rfl f_7_37 rfl J rfl 9994 ⟨rfl, rfl⟩ rfl ?_
                refine x_iloadn (x := v7) rfl rfl ?_
                refine z_iald (N := 600) rfl J rfl sg_82_0_600_1_0_1 rfl (by omega) (fun v856 qv856 ev856 => ?_)
                try rw [vrd qv856 (show (v4.toInt + 1) = v7.toInt from by omega)] at D
                refine x_goto (tgt := 37) rfl rfl ?_
                refine x_iret rfl rfl ?_
                show jX m_X7_namedSoul 15 0 0 16 [(0, .ref 78), (1, .int v7)] [.int v856] _ 0 0 _
                refine x_goto (tgt := 20) rfl rfl ?_
                refine x_iret rfl rfl ?_
                show jX m_X6_byParents 16 0 0 44 [(4, .int v6), (3, .int v4), (0, .ref 120), (1, .int a1), (2, .int 2)] [.int v856, .ref 120] _ 0 0 _
                refine x_iload (x := v6) rfl rfl ?_
                refine x_iloadn (x := 2) rfl rfl ?_
                refine x_iconst (v := 1) rfl ki_1 ?_
                refine y_iadd (v := 3) rfl (by decide) ?_
                refine x_inv (N := m_X6_belongs) (As := [.int v856, .int v6, .int 3]) (b := 120) (st := []) (dx9 := 15) (mc := 0) (ms := 0) (host := "") 6 rfl t_X6_belongs ⟨Or.inl q_6_127, i_X6_belongs.1, i_X6_belongs.2⟩ ⟨by decide, rfl⟩ (congrArg Prod.fst (J.1.1 120 (6, 8) rfl)) rfl (by decide) rfl rfl ⟨by decide, by decide⟩ (sf_X6_belongs_r120_c3d (jr_of rfl (by omega)) (jr_of rfl (by omega)) hD J rfl  (fun v860 h ev860 J S857 X858 X859 => ?_))
                have Sm := jSm_tr rfl Sm S857
                try rw [X858] at D
                try rw [X859] at D
                show jX m_X6_byParents 16 0 0 52 [(4, .int v6), (3, .int v4), (0, .ref 120), (1, .int a1), (2, .int 2)] [.int v860] _ 0 0 _
                refine x_istore (lsx9 := [(5, .int v860), (4, .int v6), (3, .int v4), (0, .ref 120), (1, .int a1), (2, .int 2)]) rfl rfl rfl ?_
                refine x_iload (x := v860) rfl rfl ?_
                refine x_iconst (v := (-1)) rfl ki_m1 ?_
                refine x_iceq (tgt := 65) rfl rfl (ti_eq rfl jk_m1 ⟨fun c861 => ?_, fun c861 => ?_⟩)
                ·
                  rw [if_pos (by omega)] at D
                  refine x_aloadn (x := 120) rfl rfl ?_
                  refine x_aloadn (x := 120) rfl rfl ?_
                  refine z_getR (N := 8) (b := 78) 6 1 rfl f_6_32 rfl J rfl 15361 ⟨rfl, rfl⟩ rfl ?_
                  refine x_iloadn (x := v4) rfl rfl ?_
                  refine x_iconst (v := 2) rfl ki_2 ?_
                  refine z_iadd rfl rfl jk_2 (by omega) (fun v862 ev862 => ?_)
                  refine x_inv (N := m_X7_namedSoul) (As := [.int v862]) (b := 78) (st := [.ref 120]) (dx9 := 15) (mc := 0) (ms := 0) (host := "") 7 rfl t_X7_namedSoul ⟨Or.inl q_6_124, i_X7_namedSoul.1, i_X7_namedSoul.2⟩ ⟨by decide, rfl⟩ (congrArg Prod.fst (J.1.1 78 (7, 16) rfl)) rfl (by decide) rfl rfl ⟨by decide, by decide⟩ (jC.of rfl k_X7_namedSoul rfl ?_)
                  show jX m_X7_namedSoul 15 0 0 0 [(0, .ref 78), (1, .int v862)] [] _ 0 0 _
                  refine x_aloadn (x := 78) rfl rfl ?_
                  refine z_getR (N := 16) (b := 70) 7 1 rfl f_7_59 rfl J rfl 9985 ⟨rfl, rfl⟩ rfl ?_
                  refine x_iloadn (x := v862) rfl rfl ?_
                  refine x_inv (N := m_X5_isNamed) (As := [.int v862]) (b := 70) (st := []) (dx9 := 14) (mc := 0) (ms := 0) (host := "") 5 rfl t_X5_isNamed ⟨Or.inl q_7_173, i_X5_isNamed.1, i_X5_isNamed.2⟩ ⟨by decide, rfl⟩ (congrArg Prod.fst (J.1.1 70 (5, 9) rfl)) rfl (by decide) rfl rfl ⟨by decide, by decide⟩ (jC.of rfl k_X5_isNamed rfl ?_)
                  show jX m_X5_isNamed 14 0 0 0 [(0, .ref 70), (1, .int v862)] [] _ 0 0 _
                  refine x_aloadn (x := 70) rfl rfl ?_
                  refine x_iloadn (x := v862) rfl rfl ?_
                  refine x_iconst (v := 0) rfl ki_0 ?_
                  refine x_inv (N := m_X5_lengthOf) (As := [.int v862, .int 0]) (b := 70) (st := []) (dx9 := 13) (mc := 0) (ms := 0) (host := "") 5 rfl t_X5_lengthOf ⟨Or.inl q_5_133, i_X5_lengthOf.1, i_X5_lengthOf.2⟩ ⟨by decide, rfl⟩ (congrArg Prod.fst (J.1.1 70 (5, 9) rfl)) rfl (by decide) rfl rfl ⟨by decide, by decide⟩ (jC.of rfl k_X5_lengthOf rfl ?_)
                  show jX m_X5_lengthOf 13 0 0 0 [(0, .ref 70), (1, .int v862), (2, .int 0)] [] _ 0 0 _
                  refine x_iloadn (x := v862) rfl rfl ?_
                  refine x_iconst (v := 2) rfl ki_2 ?_
                  refine z_imul rfl rfl jk_2 (by omega) (fun v863 ev863 => ?_)
                  refine x_iloadn (x := 0) rfl rfl ?_
                  refine z_iadd rfl rfl jk_0 (by omega) (fun v864 ev864 => ?_)
                  refine x_istoren (lsx9 := [(3, .int v864), (0, .ref 70), (1, .int v862), (2, .int 0)]) rfl rfl rfl ?_
                  refine x_iloadn (x := v864) rfl rfl ?_
                  refine x_iflt (tgt := 26) rfl rfl (ti_lt rfl jk_0 (br_f (by omega) ?_))
                  refine x_iloadn (x := v864) rfl rfl ?_
                  refine x_sipush (v := 1200) rfl ks_1200 ?_
                  refine x_icge (tgt := 26) rfl rfl (ti_ge rfl jk_1200 ⟨fun c865 => ?_, fun c865 => ?_⟩)
                  ·
                    rw [if_pos (by omega)] at D
                    refine x_iconst (v := (-1)) rfl ki_m1 ?_
                    refine x_iret rfl rfl ?_
                    show jX m_X5_isNamed 14 0 0 6 [(0, .ref 70), (1, .int v862)] [.int (-1)] _ 0 0 _
                    refine x_ifge (tgt := 18) rfl rfl (ti_ge jk_m1 jk_0 (br_f (by omega) ?_))
                    refine x_aloadn (x := 70) rfl rfl ?_
                    refine x_iloadn (x := v862) rfl rfl ?_
                    refine x_iconst (v := 1) rfl ki_1 ?_
                    refine x_inv (N := m_X5_lengthOf) (As := [.int v862, .int 1]) (b := 70) (st := []) (dx9 := 13) (mc := 0) (ms := 0) (host := "") 5 rfl t_X5_lengthOf ⟨Or.inl q_5_133, i_X5_lengthOf.1, i_X5_lengthOf.2⟩ ⟨by decide, rfl⟩ (congrArg Prod.fst (J.1.1 70 (5, 9) rfl)) rfl (by decide) rfl rfl ⟨by decide, by decide⟩ (jC.of rfl k_X5_lengthOf rfl ?_)
                    show jX m_X5_lengthOf 13 0 0 0 [(0, .ref 70), (1, .int v862), (2, .int 1)] [] _ 0 0 _
                    refine x_iloadn (x := v862) rfl rfl ?_
                    refine x_iconst (v := 2) rfl ki_2 ?_
                    refine z_imul rfl rfl jk_2 (by omega) (fun v866 ev866 => ?_)
                    refine x_iloadn (x := 1) rfl rfl ?_
                    refine z_iadd rfl rfl jk_1 (by omega) (fun v867 ev867 => ?_)
                    refine x_istoren (lsx9 := [(3, .int v867), (0, .ref 70), (1, .int v862), (2, .int 1)]) rfl rfl rfl ?_
                    refine x_iloadn (x := v867) rfl rfl ?_
                    refine x_iflt (tgt := 26) rfl rfl (ti_lt rfl jk_0 (br_f (by omega) ?_))
                    refine x_iloadn (x := v867) rfl rfl ?_
                    refine x_sipush (v := 1200) rfl ks_1200 ?_
                    refine x_icge (tgt := 26) rfl rfl (ti_ge rfl jk_1200 ⟨fun c868 => ?_, fun c868 => ?_⟩)
                    ·
                      rw [if_pos (by omega)] at D
                      refine x_iconst (v := (-1)) rfl ki_m1 ?_
                      refine x_iret rfl rfl ?_
                      show jX m_X5_isNamed 14 0 0 15 [(0, .ref 70), (1, .int v862)] [.int (-1)] _ 0 0 _
                      refine x_iflt (tgt := 22) rfl rfl (ti_lt jk_m1 jk_0 (br_t (by omega) ?_))
                      refine x_iconst (v := 0) rfl ki_0 ?_
                      refine x_zret rfl rfl (by decide) ?_
                      show jX m_X7_namedSoul 15 0 0 8 [(0, .ref 78), (1, .int v862)] [.int 0] _ 0 0 _
                      refine x_ifeq (tgt := 19) rfl rfl (ti_eq jk_0 jk_0 (br_t (by omega) ?_))
                      refine x_iconst (v := (-1)) rfl ki_m1 ?_
                      refine x_iret rfl rfl ?_
                      show jX m_X6_byParents 16 0 0 76 [(5, .int v860), (4, .int v6), (3, .int v4), (0, .ref 120), (1, .int a1), (2, .int 2)] [.int (-1), .ref 120] _ 0 0 _
                      refine x_iload (x := v6) rfl rfl ?_
                      refine x_iloadn (x := 2) rfl rfl ?_
                      refine x_iconst (v := 1) rfl ki_1 ?_
                      refine y_iadd (v := 3) rfl (by decide) ?_
                      refine x_inv (N := m_X6_belongs) (As := [.int (-1), .int v6, .int 3]) (b := 120) (st := []) (dx9 := 15) (mc := 0) (ms := 0) (host := "") 6 rfl t_X6_belongs ⟨Or.inl q_6_127, i_X6_belongs.1, i_X6_belongs.2⟩ ⟨by decide, rfl⟩ (congrArg Prod.fst (J.1.1 120 (6, 8) rfl)) rfl (by decide) rfl rfl ⟨by decide, by decide⟩ (sf_X6_belongs_r120_c3d (jr_of jk_m1 (by omega)) (jr_of rfl (by omega)) hD J rfl  (fun v872 h ev872 J S869 X870 X871 => ?_))
                      have Sm := jSm_tr rfl Sm S869
                      try rw [jk_m1] at X870
                      try rw [jk_m1] at X871
                      try rw [X870] at D
                      try rw [X871] at D
                      show jX m_X6_byParents 16 0 0 84 [(5, .int v860), (4, .int v6), (3, .int v4), (0, .ref 120), (1, .int a1), (2, .int 2)] [.int v872] _ 0 0 _
                      exact jX.sub jsb_n (ct_X6_byParents_r120_c2d_84 hD hQ  v872 h (jr_of rfl (by omega)) J Sm D)
                    ·
                      rw [if_neg (by omega)] at D
                      refine x_aloadn (x := 70) rfl rfl ?_
                      refine z_getR (N := 9) (b := 76) 5 7 rfl f_5_28 rfl J rfl 8967 ⟨rfl, rfl⟩ rfl ?_
                      refine x_iloadn (x := v867) rfl rfl ?_
                      refine z_iald (N := 1200) rfl J rfl sg_76_0_1200_1_0_1 rfl (by omega) (fun v873 qv873 ev873 => ?_)
                      try rw [vrd (jmb_c S857 qv873 rfl) (show (((v4.toInt + 2) * 2) + 1) = v867.toInt from by omega)] at D
                      refine x_goto (tgt := 27) rfl rfl ?_
                      refine x_iret rfl rfl ?_
                      show jX m_X5_isNamed 14 0 0 15 [(0, .ref 70), (1, .int v862)] [.int v873] _ 0 0 _
                      refine x_iflt (tgt := 22) rfl rfl (ti_lt rfl jk_0 ⟨fun c874 => ?_, fun c874 => ?_⟩)
                      ·
                        rw [if_pos (by omega)] at D
                        refine x_iconst (v := 0) rfl ki_0 ?_
                        refine x_zret rfl rfl (by decide) ?_
                        show jX m_X7_namedSoul 15 0 0 8 [(0, .ref 78), (1, .int v862)] [.int 0] _ 0 0 _
                        refine x_ifeq (tgt := 19) rfl rfl (ti_eq jk_0 jk_0 (br_t (by omega) ?_))
                        refine x_iconst (v := (-1)) rfl ki_m1 ?_
                        refine x_iret rfl rfl ?_
                        show jX m_X6_byParents 16 0 0 76 [(5, .int v860), (4, .int v6), (3, .int v4), (0, .ref 120), (1, .int a1), (2, .int 2)] [.int (-1), .ref 120] _ 0 0 _
                        refine x_iload (x := v6) rfl rfl ?_
                        refine x_iloadn (x := 2) rfl rfl ?_
                        refine x_iconst (v := 1) rfl ki_1 ?_
                        refine y_iadd (v := 3) rfl (by decide) ?_
                        refine x_inv (N := m_X6_belongs) (As := [.int (-1), .int v6, .int 3]) (b := 120) (st := []) (dx9 := 15) (mc := 0) (ms := 0) (host := "") 6 rfl t_X6_belongs ⟨Or.inl q_6_127, i_X6_belongs.1, i_X6_belongs.2⟩ ⟨by decide, rfl⟩ (congrArg Prod.fst (J.1.1 120 (6, 8) rfl)) rfl (by decide) rfl rfl ⟨by decide, by decide⟩ (sf_X6_belongs_r120_c3d (jr_of jk_m1 (by omega)) (jr_of rfl (by omega)) hD J rfl  (fun v878 h ev878 J S875 X876 X877 => ?_))
                        have Sm := jSm_tr rfl Sm S875
                        try rw [jk_m1] at X876
                        try rw [jk_m1] at X877
                        try rw [X876] at D
                        try rw [X877] at D
                        show jX m_X6_byParents 16 0 0 84 [(5, .int v860), (4, .int v6), (3, .int v4), (0, .ref 120), (1, .int a1), (2, .int 2)] [.int v878] _ 0 0 _
                        exact jX.sub jsb_n (ct_X6_byParents_r120_c2d_84 hD hQ  v878 h (jr_of rfl (by omega)) J Sm D)
                      ·
                        rw [if_neg (by omega)] at D
                        refine x_iconst (v := 1) rfl ki_1 ?_
                        refine x_goto (tgt := 23) rfl rfl ?_
                        refine x_zret rfl rfl (by decide) ?_
                        show jX m_X7_namedSoul 15 0 0 8 [(0, .ref 78), (1, .int v862)] [.int 1] _ 0 0 _
                        refine x_ifeq (tgt := 19) rfl rfl (ti_eq jk_1 jk_0 (br_f (by omega) ?_))
                        refine x_aloadn (x := 78) rfl rfl ?_
                        refine x_iloadn (x := v862) rfl rfl ?_
                        refine x_inv (N := m_X7_soulAt) (As := [.int v862]) (b := 78) (st := []) (dx9 := 14) (mc := 0) (ms := 0) (host := "") 7 rfl t_X7_soulAt ⟨Or.inl q_7_153, i_X7_soulAt.1, i_X7_soulAt.2⟩ ⟨by decide, rfl⟩ (congrArg Prod.fst (J.1.1 78 (7, 16) rfl)) rfl (by decide) rfl rfl ⟨by decide, by decide⟩ (jC.of rfl k_X7_soulAt rfl ?_)
                        show jX m_X7_soulAt 14 0 0 0 [(0, .ref 78), (1, .int v862)] [] _ 0 0 _
                        refine x_iloadn (x := v862) rfl rfl ?_
                        refine x_iflt (tgt := 36) rfl rfl (ti_lt rfl jk_0 (br_f (by omega) ?_))
                        refine x_iloadn (x := v862) rfl rfl ?_
                        refine x_sipush (v := 600) rfl ks_600 ?_
                        refine x_icge (tgt := 36) rfl rfl (ti_ge rfl jk_600 ⟨fun c879 => ?_, fun c879 => ?_⟩)
                        ·
                          rw [if_pos (by omega)] at D
                          refine x_iconst (v := (-1)) rfl ki_m1 ?_
                          refine x_iret rfl rfl ?_
                          show jX m_X7_namedSoul 15 0 0 16 [(0, .ref 78), (1, .int v862)] [.int (-1)] _ 0 0 _
                          refine x_goto (tgt := 20) rfl rfl ?_
                          refine x_iret rfl rfl ?_
                          show jX m_X6_byParents 16 0 0 76 [(5, .int v860), (4, .int v6), (3, .int v4), (0, .ref 120), (1, .int a1), (2, .int 2)] [.int (-1), .ref 120] _ 0 0 _
                          refine x_iload (x := v6) rfl rfl ?_
                          refine x_iloadn (x := 2) rfl rfl ?_
                          refine x_iconst (v := 1) rfl ki_1 ?_
                          refine y_iadd (v := 3) rfl (by decide) ?_
                          refine x_inv (N := m_X6_belongs) (As := [.int (-1), .int v6, .int 3]) (b := 120) (st := []) (dx9 := 15) (mc := 0) (ms := 0) (host := "") 6 rfl t_X6_belongs ⟨Or.inl q_6_127, i_X6_belongs.1, i_X6_belongs.2⟩ ⟨by decide, rfl⟩ (congrArg Prod.fst (J.1.1 120 (6, 8) rfl)) rfl (by decide) rfl rfl ⟨by decide, by decide⟩ (sf_X6_belongs_r120_c3d (jr_of jk_m1 (by omega)) (jr_of rfl (by omega)) hD J rfl  (fun v883 h ev883 J S880 X881 X882 => ?_))
                          have Sm := jSm_tr rfl Sm S880
                          try rw [jk_m1] at X881
                          try rw [jk_m1] at X882
                          try rw [X881] at D
                          try rw [X882] at D
                          show jX m_X6_byParents 16 0 0 84 [(5, .int v860), (4, .int v6), (3, .int v4), (0, .ref 120), (1, .int a1), (2, .int 2)] [.int v883] _ 0 0 _
                          exact jX.sub jsb_n (ct_X6_byParents_r120_c2d_84 hD hQ  v883 h (jr_of rfl (by omega)) J Sm D)
                        ·
                          rw [if_neg (by omega)] at D
                          refine x_iloadn (x := v862) rfl rfl ?_
                          refine x_iconst (v := 3) rfl ki_3 ?_
                          refine z_idiv rfl rfl jk_3 (by omega) (by omega) (fun v884 ev884 => ?_)
                          refine x_aloadn (x := 78) rfl rfl ?_
                          refine z_getR (N := 16) (b := 32) 7 0 rfl f_7_55 rfl J rfl 9984 ⟨rfl, rfl⟩ rfl ?_
                          refine z_getR (N := 20) (b := 33) 1 0 rfl f_7_63 rfl J rfl 4096 ⟨rfl, rfl⟩ rfl ?_
                          refine z_getM (N := 4) (v := v769) 8 3 rfl f_7_85 rfl J rfl (jmc S857 rfl qv769) ?_
                          refine x_icge (tgt := 36) rfl rfl (ti_ge rfl rfl ⟨fun c885 => ?_, fun c885 => ?_⟩)
                          ·
                            rw [if_pos (by omega)] at D
                            refine x_iconst (v := (-1)) rfl ki_m1 ?_
                            refine x_iret rfl rfl ?_
                            show jX m_X7_namedSoul 15 0 0 16 [(0, .ref 78), (1, .int v862)] [.int (-1)] _ 0 0 _
                            refine x_goto (tgt := 20) rfl rfl ?_
                            refine x_iret rfl rfl ?_
                            show jX m_X6_byParents 16 0 0 76 [(5, .int v860), (4, .int v6), (3, .int v4), (0, .ref 120), (1, .int a1), (2, .int 2)] [.int (-1), .ref 120] _ 0 0 _
                            refine x_iload (x := v6) rfl rfl ?_
                            refine x_iloadn (x := 2) rfl rfl ?_
                            refine x_iconst (v := 1) rfl ki_1 ?_
                            refine y_iadd (v := 3) rfl (by decide) ?_
                            refine x_inv (N := m_X6_belongs) (As := [.int (-1), .int v6, .int 3]) (b := 120) (st := []) (dx9 := 15) (mc := 0) (ms := 0) (host := "") 6 rfl t_X6_belongs ⟨Or.inl q_6_127, i_X6_belongs.1, i_X6_belongs.2⟩ ⟨by decide, rfl⟩ (congrArg Prod.fst (J.1.1 120 (6, 8) rfl)) rfl (by decide) rfl rfl ⟨by decide, by decide⟩ (sf_X6_belongs_r120_c3d (jr_of jk_m1 (by omega)) (jr_of rfl (by omega)) hD J rfl  (fun v889 h ev889 J S886 X887 X888 => ?_))
                            have Sm := jSm_tr rfl Sm S886
                            try rw [jk_m1] at X887
                            try rw [jk_m1] at X888
                            try rw [X887] at D
                            try rw [X888] at D
                            show jX m_X6_byParents 16 0 0 84 [(5, .int v860), (4, .int v6), (3, .int v4), (0, .ref 120), (1, .int a1), (2, .int 2)] [.int v889] _ 0 0 _
                            exact jX.sub jsb_n (ct_X6_byParents_r120_c2d_84 hD hQ  v889 h (jr_of rfl (by omega)) J Sm D)
                          ·
                            rw [if_neg (by omega)] at D
                            refine x_aloadn (x := 78) rfl rfl ?_
                            refine z_getR (N := 16) (b := 82) 7 10 rfl f_7_37 rfl J rfl 9994 ⟨rfl, rfl⟩ rfl ?_
                            refine x_iloadn (x := v862) rfl rfl ?_
                            refine z_iald (N := 600) rfl J rfl sg_82_0_600_1_0_1 rfl (by omega) (fun v890 qv890 ev890 => ?_)
                            try rw [vrd (jmb_c S857 qv890 rfl) (show (v4.toInt + 2) = v862.toInt from by omega)] at D
                            refine x_goto (tgt := 37) rfl rfl ?_
                            refine x_iret rfl rfl ?_
                            show jX m_X7_namedSoul 15 0 0 16 [(0, .ref 78), (1, .int v862)] [.int v890] _ 0 0 _
                            refine x_goto (tgt := 20) rfl rfl ?_
                            refine x_iret rfl rfl ?_
                            show jX m_X6_byParents 16 0 0 76 [(5, .int v860), (4, .int v6), (3, .int v4), (0, .ref 120), (1, .int a1), (2, .int 2)] [.int v890, .ref 120] _ 0 0 _
                            refine x_iload (x := v6) rfl rfl ?_
                            refine x_iloadn (x := 2) rfl rfl ?_
                            refine x_iconst (v := 1) rfl ki_1 ?_
                            refine y_iadd (v := 3) rfl (by decide) ?_
                            refine x_inv (N := m_X6_belongs) (As := [.int v890, .int v6, .int 3]) (b := 120) (st := []) (dx9 := 15) (mc := 0) (ms := 0) (host := "") 6 rfl t_X6_belongs ⟨Or.inl q_6_127, i_X6_belongs.1, i_X6_belongs.2⟩ ⟨by decide, rfl⟩ (congrArg Prod.fst (J.1.1 120 (6, 8) rfl)) rfl (by decide) rfl rfl ⟨by decide, by decide⟩ (sf_X6_belongs_r120_c3d (jr_of rfl (by omega)) (jr_of rfl (by omega)) hD J rfl  (fun v894 h ev894 J S891 X892 X893 => ?_))
                            have Sm := jSm_tr rfl Sm S891
                            try rw [X892] at D
                            try rw [X893] at D
                            show jX m_X6_byParents 16 0 0 84 [(5, .int v860), (4, .int v6), (3, .int v4), (0, .ref 120), (1, .int a1), (2, .int 2)] [.int v894] _ 0 0 _
                            exact jX.sub jsb_n (ct_X6_byParents_r120_c2d_84 hD hQ  v894 h (jr_of rfl (by omega)) J Sm D)
                  ·
                    rw [if_neg (by omega)] at D
                    refine x_aloadn (x := 70) rfl rfl ?_
                    refine z_getR (N := 9) (b := 76) 5 7 rfl f_5_28 rfl J rfl 8967 ⟨rfl, rfl⟩ rfl ?_
                    refine x_iloadn (x := v864) rfl rfl ?_
                    refine z_iald (N := 1200) rfl J rfl sg_76_0_1200_1_0_1 rfl (by omega) (fun v895 qv895 ev895 => ?_)
                    try rw [vrd (jmb_c S857 qv895 rfl) (show (((v4.toInt + 2) * 2) + 0) = v864.toInt from by omega)] at D
                    refine x_goto (tgt := 27) rfl rfl ?_
                    refine x_iret rfl rfl ?_
                    show jX m_X5_isNamed 14 0 0 6 [(0, .ref 70), (1, .int v862)] [.int v895] _ 0 0 _
                    refine x_ifge (tgt := 18) rfl rfl (ti_ge rfl jk_0 ⟨fun c896 => ?_, fun c896 => ?_⟩)
                    ·
                      rw [if_pos (by omega)] at D
                      refine x_iconst (v := 1) rfl ki_1 ?_
                      refine x_goto (tgt := 23) rfl rfl ?_
                      refine x_zret rfl rfl (by decide) ?_
                      show jX m_X7_namedSoul 15 0 0 8 [(0, .ref 78), (1, .int v862)] [.int 1] _ 0 0 _
                      refine x_ifeq (tgt := 19) rfl rfl (ti_eq jk_1 jk_0 (br_f (by omega) ?_))
                      refine x_aloadn (x := 78) rfl rfl ?_
                      refine x_iloadn (x := v862) rfl rfl ?_
                      refine x_inv (N := m_X7_soulAt) (As := [.int v862]) (b := 78) (st := []) (dx9 := 14) (mc := 0) (ms := 0) (host := "") 7 rfl t_X7_soulAt ⟨Or.inl q_7_153, i_X7_soulAt.1, i_X7_soulAt.2⟩ ⟨by decide, rfl⟩ (congrArg Prod.fst (J.1.1 78 (7, 16) rfl)) rfl (by decide) rfl rfl ⟨by decide, by decide⟩ (jC.of rfl k_X7_soulAt rfl ?_)
                      show jX m_X7_soulAt 14 0 0 0 [(0, .ref 78), (1, .int v862)] [] _ 0 0 _
                      refine x_iloadn (x := v862) rfl rfl ?_
                      refine x_iflt (tgt := 36) rfl rfl (ti_lt rfl jk_0 (br_f (by omega) ?_))
                      refine x_iloadn (x := v862) rfl rfl ?_
                      refine x_sipush (v := 600) rfl ks_600 ?_
                      refine x_icge (tgt := 36) rfl rfl (ti_ge rfl jk_600 ⟨fun c897 => ?_, fun c897 => ?_⟩)
                      ·
                        rw [if_pos (by omega)] at D
                        refine x_iconst (v := (-1)) rfl ki_m1 ?_
                        refine x_iret rfl rfl ?_
                        show jX m_X7_namedSoul 15 0 0 16 [(0, .ref 78), (1, .int v862)] [.int (-1)] _ 0 0 _
                        refine x_goto (tgt := 20) rfl rfl ?_
                        refine x_iret rfl rfl ?_
                        show jX m_X6_byParents 16 0 0 76 [(5, .int v860), (4, .int v6), (3, .int v4), (0, .ref 120), (1, .int a1), (2, .int 2)] [.int (-1), .ref 120] _ 0 0 _
                        refine x_iload (x := v6) rfl rfl ?_
                        refine x_iloadn (x := 2) rfl rfl ?_
                        refine x_iconst (v := 1) rfl ki_1 ?_
                        refine y_iadd (v := 3) rfl (by decide) ?_
                        refine x_inv (N := m_X6_belongs) (As := [.int (-1), .int v6, .int 3]) (b := 120) (st := []) (dx9 := 15) (mc := 0) (ms := 0) (host := "") 6 rfl t_X6_belongs ⟨Or.inl q_6_127, i_X6_belongs.1, i_X6_belongs.2⟩ ⟨by decide, rfl⟩ (congrArg Prod.fst (J.1.1 120 (6, 8) rfl)) rfl (by decide) rfl rfl ⟨by decide, by decide⟩ (sf_X6_belongs_r120_c3d (jr_of jk_m1 (by omega)) (jr_of rfl (by omega)) hD J rfl  (fun v901 h ev901 J S898 X899 X900 => ?_))
                        have Sm := jSm_tr rfl Sm S898
                        try rw [jk_m1] at X899
                        try rw [jk_m1] at X900
                        try rw [X899] at D
                        try rw [X900] at D
                        show jX m_X6_byParents 16 0 0 84 [(5, .int v860), (4, .int v6), (3, .int v4), (0, .ref 120), (1, .int a1), (2, .int 2)] [.int v901] _ 0 0 _
                        exact jX.sub jsb_n (ct_X6_byParents_r120_c2d_84 hD hQ  v901 h (jr_of rfl (by omega)) J Sm D)
                      ·
                        rw [if_neg (by omega)] at D
                        refine x_iloadn (x := v862) rfl rfl ?_
                        refine x_iconst (v := 3) rfl ki_3 ?_
                        refine z_idiv rfl rfl jk_3 (by omega) (by omega) (fun v902 ev902 => ?_)
                        refine x_aloadn (x := 78) rfl rfl ?_
                        refine z_getR (N := 16) (b := 32) 7 0 rfl f_7_55 rfl J rfl 9984 ⟨rfl, rfl⟩ rfl ?_
                        refine z_getR (N := 20) (b := 33) 1 0 rfl f_7_63 rfl J rfl 4096 ⟨rfl, rfl⟩ rfl ?_
                        refine z_getM (N := 4) (v := v769) 8 3 rfl f_7_85 rfl J rfl (jmc S857 rfl qv769) ?_
                        refine x_icge (tgt := 36) rfl rfl (ti_ge rfl rfl ⟨fun c903 => ?_, fun c903 => ?_⟩)
                        ·
                          rw [if_pos (by omega)] at D
                          refine x_iconst (v := (-1)) rfl ki_m1 ?_
                          refine x_iret rfl rfl ?_
                          show jX m_X7_namedSoul 15 0 0 16 [(0, .ref 78), (1, .int v862)] [.int (-1)] _ 0 0 _
                          refine x_goto (tgt := 20) rfl rfl ?_
                          refine x_iret rfl rfl ?_
                          show jX m_X6_byParents 16 0 0 76 [(5, .int v860), (4, .int v6), (3, .int v4), (0, .ref 120), (1, .int a1), (2, .int 2)] [.int (-1), .ref 120] _ 0 0 _
                          refine x_iload (x := v6) rfl rfl ?_
                          refine x_iloadn (x := 2) rfl rfl ?_
                          refine x_iconst (v := 1) rfl ki_1 ?_
                          refine y_iadd (v := 3) rfl (by decide) ?_
                          refine x_inv (N := m_X6_belongs) (As := [.int (-1), .int v6, .int 3]) (b := 120) (st := []) (dx9 := 15) (mc := 0) (ms := 0) (host := "") 6 rfl t_X6_belongs ⟨Or.inl q_6_127, i_X6_belongs.1, i_X6_belongs.2⟩ ⟨by decide, rfl⟩ (congrArg Prod.fst (J.1.1 120 (6, 8) rfl)) rfl (by decide) rfl rfl ⟨by decide, by decide⟩ (sf_X6_belongs_r120_c3d (jr_of jk_m1 (by omega)) (jr_of rfl (by omega)) hD J rfl  (fun v907 h ev907 J S904 X905 X906 => ?_))
                          have Sm := jSm_tr rfl Sm S904
                          try rw [jk_m1] at X905
                          try rw [jk_m1] at X906
                          try rw [X905] at D
                          try rw [X906] at D
                          show jX m_X6_byParents 16 0 0 84 [(5, .int v860), (4, .int v6), (3, .int v4), (0, .ref 120), (1, .int a1), (2, .int 2)] [.int v907] _ 0 0 _
                          exact jX.sub jsb_n (ct_X6_byParents_r120_c2d_84 hD hQ  v907 h (jr_of rfl (by omega)) J Sm D)
                        ·
                          rw [if_neg (by omega)] at D
                          refine x_aloadn (x := 78) rfl rfl ?_
                          refine z_getR (N := 16) (b := 82) 7 10 rfl f_7_37 rfl J rfl 9994 ⟨rfl, rfl⟩ rfl ?_
                          refine x_iloadn (x := v862) rfl rfl ?_
                          refine z_iald (N := 600) rfl J rfl sg_82_0_600_1_0_1 rfl (by omega) (fun v908 qv908 ev908 => ?_)
                          try rw [vrd (jmb_c S857 qv908 rfl) (show (v4.toInt + 2) = v862.toInt from by omega)] at D
                          refine x_goto (tgt := 37) rfl rfl ?_
                          refine x_iret rfl rfl ?_
                          show jX m_X7_namedSoul 15 0 0 16 [(0, .ref 78), (1, .int v862)] [.int v908] _ 0 0 _
                          refine x_goto (tgt := 20) rfl rfl ?_
                          refine x_iret rfl rfl ?_
                          show jX m_X6_byParents 16 0 0 76 [(5, .int v860), (4, .int v6), (3, .int v4), (0, .ref 120), (1, .int a1), (2, .int 2)] [.int v908, .ref 120] _ 0 0 _
                          refine x_iload (x := v6) rfl rfl ?_
                          refine x_iloadn (x := 2) rfl rfl ?_
                          refine x_iconst (v := 1) rfl ki_1 ?_
                          refine y_iadd (v := 3) rfl (by decide) ?_
                          refine x_inv (N := m_X6_belongs) (As := [.int v908, .int v6, .int 3]) (b := 120) (st := []) (dx9 := 15) (mc := 0) (ms := 0) (host := "") 6 rfl t_X6_belongs ⟨Or.inl q_6_127, i_X6_belongs.1, i_X6_belongs.2⟩ ⟨by decide, rfl⟩ (congrArg Prod.fst (J.1.1 120 (6, 8) rfl)) rfl (by decide) rfl rfl ⟨by decide, by decide⟩ (sf_X6_belongs_r120_c3d (jr_of rfl (by omega)) (jr_of rfl (by omega)) hD J rfl  (fun v912 h ev912 J S909 X910 X911 => ?_))
                          have Sm := jSm_tr rfl Sm S909
                          try rw [X910] at D
                          try rw [X911] at D
                          show jX m_X6_byParents 16 0 0 84 [(5, .int v860), (4, .int v6), (3, .int v4), (0, .ref 120), (1, .int a1), (2, .int 2)] [.int v912] _ 0 0 _
                          exact jX.sub jsb_n (ct_X6_byParents_r120_c2d_84 hD hQ  v912 h (jr_of rfl (by omega)) J Sm D)
                    ·
                      rw [if_neg (by omega)] at D
                      refine x_aloadn (x := 70) rfl rfl ?_
                      refine x_iloadn (x := v862) rfl rfl ?_
                      refine x_iconst (v := 1) rfl ki_1 ?_
                      refine x_inv (N := m_X5_lengthOf) (As := [.int v862, .int 1]) (b := 70) (st := []) (dx9 := 13) (mc := 0) (ms := 0) (host := "") 5 rfl t_X5_lengthOf ⟨Or.inl q_5_133, i_X5_lengthOf.1, i_X5_lengthOf.2⟩ ⟨by decide, rfl⟩ (congrArg Prod.fst (J.1.1 70 (5, 9) rfl)) rfl (by decide) rfl rfl ⟨by decide, by decide⟩ (jC.of rfl k_X5_lengthOf rfl ?_)
                      show jX m_X5_lengthOf 13 0 0 0 [(0, .ref 70), (1, .int v862), (2, .int 1)] [] _ 0 0 _
                      refine x_iloadn (x := v862) rfl rfl ?_
                      refine x_iconst (v := 2) rfl ki_2 ?_
                      refine z_imul rfl rfl jk_2 (by omega) (fun v913 ev913 => ?_)
                      refine x_iloadn (x := 1) rfl rfl ?_
                      refine z_iadd rfl rfl jk_1 (by omega) (fun v914 ev914 => ?_)
                      refine x_istoren (lsx9 := [(3, .int v914), (0, .ref 70), (1, .int v862), (2, .int 1)]) rfl rfl rfl ?_
                      refine x_iloadn (x := v914) rfl rfl ?_
                      refine x_iflt (tgt := 26) rfl rfl (ti_lt rfl jk_0 (br_f (by omega) ?_))
                      refine x_iloadn (x := v914) rfl rfl ?_
                      refine x_sipush (v := 1200) rfl ks_1200 ?_
                      refine x_icge (tgt := 26) rfl rfl (ti_ge rfl jk_1200 ⟨fun c915 => ?_, fun c915 => ?_⟩)
                      ·
                        rw [if_pos (by omega)] at D
                        refine x_iconst (v := (-1)) rfl ki_m1 ?_
                        refine x_iret rfl rfl ?_
                        show jX m_X5_isNamed 14 0 0 15 [(0, .ref 70), (1, .int v862)] [.int (-1)] _ 0 0 _
                        refine x_iflt (tgt := 22) rfl rfl (ti_lt jk_m1 jk_0 (br_t (by omega) ?_))
                        refine x_iconst (v := 0) rfl ki_0 ?_
                        refine x_zret rfl rfl (by decide) ?_
                        show jX m_X7_namedSoul 15 0 0 8 [(0, .ref 78), (1, .int v862)] [.int 0] _ 0 0 _
                        refine x_ifeq (tgt := 19) rfl rfl (ti_eq jk_0 jk_0 (br_t (by omega) ?_))
                        refine x_iconst (v := (-1)) rfl ki_m1 ?_
                        refine x_iret rfl rfl ?_
                        show jX m_X6_byParents 16 0 0 76 [(5, .int v860), (4, .int v6), (3, .int v4), (0, .ref 120), (1, .int a1), (2, .int 2)] [.int (-1), .ref 120] _ 0 0 _
                        refine x_iload (x := v6) rfl rfl ?_
                        refine x_iloadn (x := 2) rfl rfl ?_
                        refine x_iconst (v := 1) rfl ki_1 ?_
                        refine y_iadd (v := 3) rfl (by decide) ?_
                        refine x_inv (N := m_X6_belongs) (As := [.int (-1), .int v6, .int 3]) (b := 120) (st := []) (dx9 := 15) (mc := 0) (ms := 0) (host := "") 6 rfl t_X6_belongs ⟨Or.inl q_6_127, i_X6_belongs.1, i_X6_belongs.2⟩ ⟨by decide, rfl⟩ (congrArg Prod.fst (J.1.1 120 (6, 8) rfl)) rfl (by decide) rfl rfl ⟨by decide, by decide⟩ (sf_X6_belongs_r120_c3d (jr_of jk_m1 (by omega)) (jr_of rfl (by omega)) hD J rfl  (fun v919 h ev919 J S916 X917 X918 => ?_))
                        have Sm := jSm_tr rfl Sm S916
                        try rw [jk_m1] at X917
                        try rw [jk_m1] at X918
                        try rw [X917] at D
                        try rw [X918] at D
                        show jX m_X6_byParents 16 0 0 84 [(5, .int v860), (4, .int v6), (3, .int v4), (0, .ref 120), (1, .int a1), (2, .int 2)] [.int v919] _ 0 0 _
                        exact jX.sub jsb_n (ct_X6_byParents_r120_c2d_84 hD hQ  v919 h (jr_of rfl (by omega)) J Sm D)
                      ·
                        rw [if_neg (by omega)] at D
                        refine x_aloadn (x := 70) rfl rfl ?_
                        refine z_getR (N := 9) (b := 76) 5 7 rfl f_5_28 rfl J rfl 8967 ⟨rfl, rfl⟩ rfl ?_
                        refine x_iloadn (x := v914) rfl rfl ?_
                        refine z_iald (N := 1200) rfl J rfl sg_76_0_1200_1_0_1 rfl (by omega) (fun v920 qv920 ev920 => ?_)
                        try rw [vrd (jmb_c S857 qv920 rfl) (show (((v4.toInt + 2) * 2) + 1) = v914.toInt from by omega)] at D
                        refine x_goto (tgt := 27) rfl rfl ?_
                        refine x_iret rfl rfl ?_
                        show jX m_X5_isNamed 14 0 0 15 [(0, .ref 70), (1, .int v862)] [.int v920] _ 0 0 _
                        refine x_iflt (tgt := 22) rfl rfl (ti_lt rfl jk_0 ⟨fun c921 => ?_, fun c921 => ?_⟩)
                        ·
                          rw [if_pos (by omega)] at D
                          refine x_iconst (v := 0) rfl ki_0 ?_
                          refine x_zret rfl rfl (by decide) ?_
                          show jX m_X7_namedSoul 15 0 0 8 [(0, .ref 78), (1, .int v862)] [.int 0] _ 0 0 _
                          refine x_ifeq (tgt := 19) rfl rfl (ti_eq jk_0 jk_0 (br_t (by omega) ?_))
                          refine x_iconst (v := (-1)) rfl ki_m1 ?_
                          refine x_iret rfl rfl ?_
                          show jX m_X6_byParents 16 0 0 76 [(5, .int v860), (4, .int v6), (3, .int v4), (0, .ref 120), (1, .int a1), (2, .int 2)] [.int (-1), .ref 120] _ 0 0 _
                          refine x_iload (x := v6) rfl rfl ?_
                          refine x_iloadn (x := 2) rfl rfl ?_
                          refine x_iconst (v := 1) rfl ki_1 ?_
                          refine y_iadd (v := 3) rfl (by decide) ?_
                          refine x_inv (N := m_X6_belongs) (As := [.int (-1), .int v6, .int 3]) (b := 120) (st := []) (dx9 := 15) (mc := 0) (ms := 0) (host := "") 6 rfl t_X6_belongs ⟨Or.inl q_6_127, i_X6_belongs.1, i_X6_belongs.2⟩ ⟨by decide, rfl⟩ (congrArg Prod.fst (J.1.1 120 (6, 8) rfl)) rfl (by decide) rfl rfl ⟨by decide, by decide⟩ (sf_X6_belongs_r120_c3d (jr_of jk_m1 (by omega)) (jr_of rfl (by omega)) hD J rfl  (fun v925 h ev925 J S922 X923 X924 => ?_))
                          have Sm := jSm_tr rfl Sm S922
                          try rw [jk_m1] at X923
                          try rw [jk_m1] at X924
                          try rw [X923] at D
                          try rw [X924] at D
                          show jX m_X6_byParents 16 0 0 84 [(5, .int v860), (4, .int v6), (3, .int v4), (0, .ref 120), (1, .int a1), (2, .int 2)] [.int v925] _ 0 0 _
                          exact jX.sub jsb_n (ct_X6_byParents_r120_c2d_84 hD hQ  v925 h (jr_of rfl (by omega)) J Sm D)
                        ·
                          rw [if_neg (by omega)] at D
                          refine x_iconst (v := 1) rfl ki_1 ?_
                          refine x_goto (tgt := 23) rfl rfl ?_
                          refine x_zret rfl rfl (by decide) ?_
                          show jX m_X7_namedSoul 15 0 0 8 [(0, .ref 78), (1, .int v862)] [.int 1] _ 0 0 _
                          refine x_ifeq (tgt := 19) rfl rfl (ti_eq jk_1 jk_0 (br_f (by omega) ?_))
                          refine x_aloadn (x := 78) rfl rfl ?_
                          refine x_iloadn (x := v862) rfl rfl ?_
                          refine x_inv (N := m_X7_soulAt) (As := [.int v862]) (b := 78) (st := []) (dx9 := 14) (mc := 0) (ms := 0) (host := "") 7 rfl t_X7_soulAt ⟨Or.inl q_7_153, i_X7_soulAt.1, i_X7_soulAt.2⟩ ⟨by decide, rfl⟩ (congrArg Prod.fst (J.1.1 78 (7, 16) rfl)) rfl (by decide) rfl rfl ⟨by decide, by decide⟩ (jC.of rfl k_X7_soulAt rfl ?_)
                          show jX m_X7_soulAt 14 0 0 0 [(0, .ref 78), (1, .int v862)] [] _ 0 0 _
                          refine x_iloadn (x := v862) rfl rfl ?_
                          refine x_iflt (tgt := 36) rfl rfl (ti_lt rfl jk_0 (br_f (by omega) ?_))
                          refine x_iloadn (x := v862) rfl rfl ?_
                          refine x_sipush (v := 600) rfl ks_600 ?_
                          refine x_icge (tgt := 36) rfl rfl (ti_ge rfl jk_600 ⟨fun c926 => ?_, fun c926 => ?_⟩)
                          ·
                            rw [if_pos (by omega)] at D
                            refine x_iconst (v := (-1)) rfl ki_m1 ?_
                            refine x_iret rfl rfl ?_
                            show jX m_X7_namedSoul 15 0 0 16 [(0, .ref 78), (1, .int v862)] [.int (-1)] _ 0 0 _
                            refine x_goto (tgt := 20) rfl rfl ?_
                            refine x_iret rfl rfl ?_
                            show jX m_X6_byParents 16 0 0 76 [(5, .int v860), (4, .int v6), (3, .int v4), (0, .ref 120), (1, .int a1), (2, .int 2)] [.int (-1), .ref 120] _ 0 0 _
                            refine x_iload (x := v6) rfl rfl ?_
                            refine x_iloadn (x := 2) rfl rfl ?_
                            refine x_iconst (v := 1) rfl ki_1 ?_
                            refine y_iadd (v := 3) rfl (by decide) ?_
                            refine x_inv (N := m_X6_belongs) (As := [.int (-1), .int v6, .int 3]) (b := 120) (st := []) (dx9 := 15) (mc := 0) (ms := 0) (host := "") 6 rfl t_X6_belongs ⟨Or.inl q_6_127, i_X6_belongs.1, i_X6_belongs.2⟩ ⟨by decide, rfl⟩ (congrArg Prod.fst (J.1.1 120 (6, 8) rfl)) rfl (by decide) rfl rfl ⟨by decide, by decide⟩ (sf_X6_belongs_r120_c3d (jr_of jk_m1 (by omega)) (jr_of rfl (by omega)) hD J rfl  (fun v930 h ev930 J S927 X928 X929 => ?_))
                            have Sm := jSm_tr rfl Sm S927
                            try rw [jk_m1] at X928
                            try rw [jk_m1] at X929
                            try rw [X928] at D
                            try rw [X929] at D
                            show jX m_X6_byParents 16 0 0 84 [(5, .int v860), (4, .int v6), (3, .int v4), (0, .ref 120), (1, .int a1), (2, .int 2)] [.int v930] _ 0 0 _
                            exact jX.sub jsb_n (ct_X6_byParents_r120_c2d_84 hD hQ  v930 h (jr_of rfl (by omega)) J Sm D)
                          ·
                            rw [if_neg (by omega)] at D
                            refine x_iloadn (x := v862) rfl rfl ?_
                            refine x_iconst (v := 3) rfl ki_3 ?_
                            refine z_idiv rfl rfl jk_3 (by omega) (by omega) (fun v931 ev931 => ?_)
                            refine x_aloadn (x := 78) rfl rfl ?_
                            refine z_getR (N := 16) (b := 32) 7 0 rfl f_7_55 rfl J rfl 9984 ⟨rfl, rfl⟩ rfl ?_
                            refine z_getR (N := 20) (b := 33) 1 0 rfl f_7_63 rfl J rfl 4096 ⟨rfl, rfl⟩ rfl ?_
                            refine z_getM (N := 4) (v := v769) 8 3 rfl f_7_85 rfl J rfl (jmc S857 rfl qv769) ?_
                            refine x_icge (tgt := 36) rfl rfl (ti_ge rfl rfl ⟨fun c932 => ?_, fun c932 => ?_⟩)
                            ·
                              rw [if_pos (by omega)] at D
                              refine x_iconst (v := (-1)) rfl ki_m1 ?_
                              refine x_iret rfl rfl ?_
                              show jX m_X7_namedSoul 15 0 0 16 [(0, .ref 78), (1, .int v862)] [.int (-1)] _ 0 0 _
                              refine x_goto (tgt := 20) rfl rfl ?_
                              refine x_iret rfl rfl ?_
                              show jX m_X6_byParents 16 0 0 76 [(5, .int v860), (4, .int v6), (3, .int v4), (0, .ref 120), (1, .int a1), (2, .int 2)] [.int (-1), .ref 120] _ 0 0 _
                              refine x_iload (x := v6) rfl rfl ?_
                              refine x_iloadn (x := 2) rfl rfl ?_
                              refine x_iconst (v := 1) rfl ki_1 ?_
                              refine y_iadd (v := 3) rfl (by decide) ?_
                              refine x_inv (N := m_X6_belongs) (As := [.int (-1), .int v6, .int 3]) (b := 120) (st := []) (dx9 := 15) (mc := 0) (ms := 0) (host := "") 6 rfl t_X6_belongs ⟨Or.inl q_6_127, i_X6_belongs.1, i_X6_belongs.2⟩ ⟨by decide, rfl⟩ (congrArg Prod.fst (J.1.1 120 (6, 8) rfl)) rfl (by decide) rfl rfl ⟨by decide, by decide⟩ (sf_X6_belongs_r120_c3d (jr_of jk_m1 (by omega)) (jr_of rfl (by omega)) hD J rfl  (fun v936 h ev936 J S933 X934 X935 => ?_))
                              have Sm := jSm_tr rfl Sm S933
                              try rw [jk_m1] at X934
                              try rw [jk_m1] at X935
                              try rw [X934] at D
                              try rw [X935] at D
                              show jX m_X6_byParents 16 0 0 84 [(5, .int v860), (4, .int v6), (3, .int v4), (0, .ref 120), (1, .int a1), (2, .int 2)] [.int v936] _ 0 0 _
                              exact jX.sub jsb_n (ct_X6_byParents_r120_c2d_84 hD hQ  v936 h (jr_of rfl (by omega)) J Sm D)
                            ·
                              rw [if_neg (by omega)] at D
                              refine x_aloadn (x := 78) rfl rfl ?_
                              refine z_getR (N := 16) (b := 82) 7 10 rfl f_7_37 rfl J rfl 9994 ⟨rfl, rfl⟩ rfl ?_
                              refine x_iloadn (x := v862) rfl rfl ?_
                              refine z_iald (N := 600) rfl J rfl sg_82_0_600_1_0_1 rfl (by omega) (fun v937 qv937 ev937 => ?_)
                              try rw [vrd (jmb_c S857 qv937 rfl) (show (v4.toInt + 2) = v862.toInt from by omega)] at D
                              refine x_goto (tgt := 37) rfl rfl ?_
                              refine x_iret rfl rfl ?_
                              show jX m_X7_namedSoul 15 0 0 16 [(0, .ref 78), (1, .int v862)] [.int v937] _ 0 0 _
                              refine x_goto (tgt := 20) rfl rfl ?_
                              refine x_iret rfl rfl ?_
                              show jX m_X6_byParents 16 0 0 76 [(5, .int v860), (4, .int v6), (3, .int v4), (0, .ref 120), (1, .int a1), (2, .int 2)] [.int v937, .ref 120] _ 0 0 _
                              refine x_iload (x := v6) rfl rfl ?_
                              refine x_iloadn (x := 2) rfl rfl ?_
                              refine x_iconst (v := 1) rfl ki_1 ?_
                              refine y_iadd (v := 3) rfl (by decide) ?_
                              refine x_inv (N := m_X6_belongs) (As := [.int v937, .int v6, .int 3]) (b := 120) (st := []) (dx9 := 15) (mc := 0) (ms := 0) (host := "") 6 rfl t_X6_belongs ⟨Or.inl q_6_127, i_X6_belongs.1, i_X6_belongs.2⟩ ⟨by decide, rfl⟩ (congrArg Prod.fst (J.1.1 120 (6, 8) rfl)) rfl (by decide) rfl rfl ⟨by decide, by decide⟩ (sf_X6_belongs_r120_c3d (jr_of rfl (by omega)) (jr_of rfl (by omega)) hD J rfl  (fun v941 h ev941 J S938 X939 X940 => ?_))
                              have Sm := jSm_tr rfl Sm S938
                              try rw [X939] at D
                              try rw [X940] at D
                              show jX m_X6_byParents 16 0 0 84 [(5, .int v860), (4, .int v6), (3, .int v4), (0, .ref 120), (1, .int a1), (2, .int 2)] [.int v941] _ 0 0 _
                              exact jX.sub jsb_n (ct_X6_byParents_r120_c2d_84 hD hQ  v941 h (jr_of rfl (by omega)) J Sm D)
                ·
                  rw [if_neg (by omega)] at D
                  refine x_iload (x := v860) rfl rfl ?_
                  refine x_goto (tgt := 84) rfl rfl ?_
                  exact jX.sub jsb_n (ct_X6_byParents_r120_c2d_84 hD hQ  v860 h (jr_of rfl (by omega)) J Sm D)
