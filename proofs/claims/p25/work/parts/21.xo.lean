def fp_X6_byParents_r120_c0 : jFp := [(85, 0, 4), (98, 10, 11), (98, 11, 12), (98, 12, 13), (99, 0, 30), (100, 0, 30), (101, 0, 3), (102, 0, 40), (103, 0, 40), (104, 0, 40), (105, 0, 3), (106, 0, 100), (120, 6, 7), (120, 7, 8), (121, 0, 42), (122, 0, 42)]
set_option maxRecDepth 100000 in
set_option maxHeartbeats 4000000 in
theorem ct_X6_byParents_r120_c0_20 {Dy : jH → Prop} {h0 : jH} {Q : Option Value → jH → Prop} (hD : jDk Dy) (hQ : ∀ (v : Int32) hx9, (-1) ≤ v.toInt ∧ v.toInt ≤ 11 → jJ jSgX Dy hx9 → jSm fp_X6_byParents_r120_c0 h0 hx9 → Q (some (.int v)) hx9) : ∀ (h : jH), jJ jSgX Dy h → jSm fp_X6_byParents_r120_c0 h0 h → jX m_X6_byParents 22 0 0 20 [] [] h 0 0 Q := by
  intro  h    J Sm
  refine x_iconst (v := (-1)) rfl ki_m1 ?_
  refine x_iret rfl rfl ?_
  exact hQ _ _ (jr_of jk_m1 (by omega)) J Sm
set_option maxRecDepth 100000 in
set_option maxHeartbeats 4000000 in
theorem ct_X6_byParents_r120_c0_84 {Dy : jH → Prop} {h0 : jH} {Q : Option Value → jH → Prop} (hD : jDk Dy) (hQ : ∀ (v : Int32) hx9, (-1) ≤ v.toInt ∧ v.toInt ≤ 11 → jJ jSgX Dy hx9 → jSm fp_X6_byParents_r120_c0 h0 hx9 → Q (some (.int v)) hx9) : ∀ (s0 : Int32) (h : jH), (-1) ≤ s0.toInt ∧ s0.toInt ≤ 11 → jJ jSgX Dy h → jSm fp_X6_byParents_r120_c0 h0 h → jX m_X6_byParents 22 0 0 84 [] [.int s0] h 0 0 Q := by
  intro s0 h y0   J Sm
  refine x_iret rfl rfl ?_
  exact hQ _ _ (jr_of rfl (by omega)) J Sm
set_option maxRecDepth 100000 in
set_option maxHeartbeats 4000000 in
theorem sf_X6_byParents_r120_c0 {Dy : jH → Prop} {h : jH} {Q : Option Value → jH → Prop} {a1 : Int32} (y1 : 0 ≤ a1.toInt ∧ a1.toInt ≤ 599) (hD : jDk Dy) (J : jJ jSgX Dy h) (hQ : ∀ (v : Int32) hx9, (-1) ≤ v.toInt ∧ v.toInt ≤ 11 → jJ jSgX Dy hx9 → jSm fp_X6_byParents_r120_c0 h hx9 → Q (some (.int v)) hx9) : jC m_X6_byParents 22 0 0 [.ref 120, .int a1, .int 0] h Q := by
  refine jC.of rfl k_X6_byParents rfl ?_
  have Sm := jSm_rf fp_X6_byParents_r120_c0 h
  show jX m_X6_byParents 22 0 0 0 [(0, .ref 120), (1, .int a1), (2, .int 0)] [] _ 0 0 _
  refine x_aloadn (x := 120) rfl rfl ?_
  refine z_getR (N := 8) (b := 78) 6 1 rfl f_6_32 rfl J rfl 15361 ⟨rfl, rfl⟩ rfl ?_
  refine x_iloadn (x := a1) rfl rfl ?_
  refine x_inv (N := m_X7_birthOf) (As := [.int a1]) (b := 78) (st := []) (dx9 := 1) (mc := 0) (ms := 0) (host := "") 7 rfl t_X7_birthOf ⟨Or.inl q_6_130, i_X7_birthOf.1, i_X7_birthOf.2⟩ ⟨by decide, rfl⟩ (congrArg Prod.fst (J.1.1 78 (7, 16) rfl)) rfl (by decide) rfl rfl ⟨by decide, by decide⟩ (sf_X7_birthOf_r78 (jr_of rfl (by omega)) hD J  (fun v2 h ev2 J S1 => ?_))
  have Sm := jSm_tr rfl Sm S1
  show jX m_X6_byParents 22 0 0 8 [(0, .ref 120), (1, .int a1), (2, .int 0)] [.int v2] _ 0 0 _
  refine x_istoren (lsx9 := [(3, .int v2), (0, .ref 120), (1, .int a1), (2, .int 0)]) rfl rfl rfl ?_
  refine x_iloadn (x := v2) rfl rfl ?_
  refine x_iconst (v := (-1)) rfl ki_m1 ?_
  refine x_iceq (tgt := 20) rfl rfl (ti_eq rfl jk_m1 ⟨fun c3 => ?_, fun c3 => ?_⟩)
  ·
    exact jX.sub jsb_n (ct_X6_byParents_r120_c0_20 hD hQ  h J Sm)
  ·
    refine x_iloadn (x := 0) rfl rfl ?_
    refine x_bipush (v := 6) rfl kb_6 ?_
    refine x_iclt (tgt := 22) rfl rfl (ti_lt jk_0 jk_6 (br_t (by omega) ?_))
    refine x_aloadn (x := 120) rfl rfl ?_
    refine z_getR (N := 8) (b := 78) 6 1 rfl f_6_32 rfl J rfl 15361 ⟨rfl, rfl⟩ rfl ?_
    refine z_getR (N := 16) (b := 80) 7 8 rfl f_6_118 rfl J rfl 9992 ⟨rfl, rfl⟩ rfl ?_
    refine x_iloadn (x := v2) rfl rfl ?_
    refine z_iald (N := 600) rfl J rfl sg_80_0_600_1_0_1 rfl (by omega) (fun v4 qv4 ev4 => ?_)
    refine x_istore (lsx9 := [(4, .int v4), (3, .int v2), (0, .ref 120), (1, .int a1), (2, .int 0)]) rfl rfl rfl ?_
    refine x_aloadn (x := 120) rfl rfl ?_
    refine x_aloadn (x := 120) rfl rfl ?_
    refine z_getR (N := 8) (b := 78) 6 1 rfl f_6_32 rfl J rfl 15361 ⟨rfl, rfl⟩ rfl ?_
    refine x_iloadn (x := v2) rfl rfl ?_
    refine x_iconst (v := 1) rfl ki_1 ?_
    refine z_iadd rfl rfl jk_1 (by omega) (fun v5 ev5 => ?_)
    refine x_inv (N := m_X7_namedSoul) (As := [.int v5]) (b := 78) (st := [.ref 120]) (dx9 := 21) (mc := 0) (ms := 0) (host := "") 7 rfl t_X7_namedSoul ⟨Or.inl q_6_124, i_X7_namedSoul.1, i_X7_namedSoul.2⟩ ⟨by decide, rfl⟩ (congrArg Prod.fst (J.1.1 78 (7, 16) rfl)) rfl (by decide) rfl rfl ⟨by decide, by decide⟩ (jC.of rfl k_X7_namedSoul rfl ?_)
    show jX m_X7_namedSoul 21 0 0 0 [(0, .ref 78), (1, .int v5)] [] _ 0 0 _
    refine x_aloadn (x := 78) rfl rfl ?_
    refine z_getR (N := 16) (b := 70) 7 1 rfl f_7_59 rfl J rfl 9985 ⟨rfl, rfl⟩ rfl ?_
    refine x_iloadn (x := v5) rfl rfl ?_
    refine x_inv (N := m_X5_isNamed) (As := [.int v5]) (b := 70) (st := []) (dx9 := 20) (mc := 0) (ms := 0) (host := "") 5 rfl t_X5_isNamed ⟨Or.inl q_7_173, i_X5_isNamed.1, i_X5_isNamed.2⟩ ⟨by decide, rfl⟩ (congrArg Prod.fst (J.1.1 70 (5, 9) rfl)) rfl (by decide) rfl rfl ⟨by decide, by decide⟩ (jC.of rfl k_X5_isNamed rfl ?_)
    show jX m_X5_isNamed 20 0 0 0 [(0, .ref 70), (1, .int v5)] [] _ 0 0 _
    refine x_aloadn (x := 70) rfl rfl ?_
    refine x_iloadn (x := v5) rfl rfl ?_
    refine x_iconst (v := 0) rfl ki_0 ?_
    refine x_inv (N := m_X5_lengthOf) (As := [.int v5, .int 0]) (b := 70) (st := []) (dx9 := 19) (mc := 0) (ms := 0) (host := "") 5 rfl t_X5_lengthOf ⟨Or.inl q_5_133, i_X5_lengthOf.1, i_X5_lengthOf.2⟩ ⟨by decide, rfl⟩ (congrArg Prod.fst (J.1.1 70 (5, 9) rfl)) rfl (by decide) rfl rfl ⟨by decide, by decide⟩ (jC.of rfl k_X5_lengthOf rfl ?_)
    show jX m_X5_lengthOf 19 0 0 0 [(0, .ref 70), (1, .int v5), (2, .int 0)] [] _ 0 0 _
    refine x_iloadn (x := v5) rfl rfl ?_
    refine x_iconst (v := 2) rfl ki_2 ?_
    refine z_imul rfl rfl jk_2 (by omega) (fun v6 ev6 => ?_)
    refine x_iloadn (x := 0) rfl rfl ?_
    refine z_iadd rfl rfl jk_0 (by omega) (fun v7 ev7 => ?_)
    refine x_istoren (lsx9 := [(3, .int v7), (0, .ref 70), (1, .int v5), (2, .int 0)]) rfl rfl rfl ?_
    refine x_iloadn (x := v7) rfl rfl ?_
    refine x_iflt (tgt := 26) rfl rfl (ti_lt rfl jk_0 (br_f (by omega) ?_))
    refine x_iloadn (x := v7) rfl rfl ?_
    refine x_sipush (v := 1200) rfl ks_1200 ?_
    refine x_icge (tgt := 26) rfl rfl (ti_ge rfl jk_1200 ⟨fun c8 => ?_, fun c8 => ?_⟩)
    ·
      refine x_iconst (v := (-1)) rfl ki_m1 ?_
      refine x_iret rfl rfl ?_
      show jX m_X5_isNamed 20 0 0 6 [(0, .ref 70), (1, .int v5)] [.int (-1)] _ 0 0 _
      refine x_ifge (tgt := 18) rfl rfl (ti_ge jk_m1 jk_0 (br_f (by omega) ?_))
      refine x_aloadn (x := 70) rfl rfl ?_
      refine x_iloadn (x := v5) rfl rfl ?_
      refine x_iconst (v := 1) rfl ki_1 ?_
      refine x_inv (N := m_X5_lengthOf) (As := [.int v5, .int 1]) (b := 70) (st := []) (dx9 := 19) (mc := 0) (ms := 0) (host := "") 5 rfl t_X5_lengthOf ⟨Or.inl q_5_133, i_X5_lengthOf.1, i_X5_lengthOf.2⟩ ⟨by decide, rfl⟩ (congrArg Prod.fst (J.1.1 70 (5, 9) rfl)) rfl (by decide) rfl rfl ⟨by decide, by decide⟩ (jC.of rfl k_X5_lengthOf rfl ?_)
      show jX m_X5_lengthOf 19 0 0 0 [(0, .ref 70), (1, .int v5), (2, .int 1)] [] _ 0 0 _
      refine x_iloadn (x := v5) rfl rfl ?_
      refine x_iconst (v := 2) rfl ki_2 ?_
      refine z_imul rfl rfl jk_2 (by omega) (fun v9 ev9 => ?_)
      refine x_iloadn (x := 1) rfl rfl ?_
      refine z_iadd rfl rfl jk_1 (by omega) (fun v10 ev10 => ?_)
      refine x_istoren (lsx9 := [(3, .int v10), (0, .ref 70), (1, .int v5), (2, .int 1)]) rfl rfl rfl ?_
      refine x_iloadn (x := v10) rfl rfl ?_
      refine x_iflt (tgt := 26) rfl rfl (ti_lt rfl jk_0 (br_f (by omega) ?_))
      refine x_iloadn (x := v10) rfl rfl ?_
      refine x_sipush (v := 1200) rfl ks_1200 ?_
      refine x_icge (tgt := 26) rfl rfl (ti_ge rfl jk_1200 ⟨fun c11 => ?_, fun c11 => ?_⟩)
      ·
        refine x_iconst (v := (-1)) rfl ki_m1 ?_
        refine x_iret rfl rfl ?_
        show jX m_X5_isNamed 20 0 0 15 [(0, .ref 70), (1, .int v5)] [.int (-1)] _ 0 0 _
        refine x_iflt (tgt := 22) rfl rfl (ti_lt jk_m1 jk_0 (br_t (by omega) ?_))
        refine x_iconst (v := 0) rfl ki_0 ?_
        refine x_zret rfl rfl (by decide) ?_
        show jX m_X7_namedSoul 21 0 0 8 [(0, .ref 78), (1, .int v5)] [.int 0] _ 0 0 _
        refine x_ifeq (tgt := 19) rfl rfl (ti_eq jk_0 jk_0 (br_t (by omega) ?_))
        refine x_iconst (v := (-1)) rfl ki_m1 ?_
        refine x_iret rfl rfl ?_
        show jX m_X6_byParents 22 0 0 44 [(4, .int v4), (3, .int v2), (0, .ref 120), (1, .int a1), (2, .int 0)] [.int (-1), .ref 120] _ 0 0 _
        refine x_iload (x := v4) rfl rfl ?_
        refine x_iloadn (x := 0) rfl rfl ?_
        refine x_iconst (v := 1) rfl ki_1 ?_
        refine y_iadd (v := 1) rfl (by decide) ?_
        refine x_inv (N := m_X6_belongs) (As := [.int (-1), .int v4, .int 1]) (b := 120) (st := []) (dx9 := 21) (mc := 0) (ms := 0) (host := "") 6 rfl t_X6_belongs ⟨Or.inl q_6_127, i_X6_belongs.1, i_X6_belongs.2⟩ ⟨by decide, rfl⟩ (congrArg Prod.fst (J.1.1 120 (6, 8) rfl)) rfl (by decide) rfl rfl ⟨by decide, by decide⟩ (sf_X6_belongs_r120_c1 (jr_of jk_m1 (by omega)) (jr_of rfl (by omega)) hD J  (fun v13 h ev13 J S12 => ?_))
        have Sm := jSm_tr rfl Sm S12
        show jX m_X6_byParents 22 0 0 52 [(4, .int v4), (3, .int v2), (0, .ref 120), (1, .int a1), (2, .int 0)] [.int v13] _ 0 0 _
        refine x_istore (lsx9 := [(5, .int v13), (4, .int v4), (3, .int v2), (0, .ref 120), (1, .int a1), (2, .int 0)]) rfl rfl rfl ?_
        refine x_iload (x := v13) rfl rfl ?_
        refine x_iconst (v := (-1)) rfl ki_m1 ?_
        refine x_iceq (tgt := 65) rfl rfl (ti_eq rfl jk_m1 ⟨fun c14 => ?_, fun c14 => ?_⟩)
        ·
          refine x_aloadn (x := 120) rfl rfl ?_
          refine x_aloadn (x := 120) rfl rfl ?_
          refine z_getR (N := 8) (b := 78) 6 1 rfl f_6_32 rfl J rfl 15361 ⟨rfl, rfl⟩ rfl ?_
          refine x_iloadn (x := v2) rfl rfl ?_
          refine x_iconst (v := 2) rfl ki_2 ?_
          refine z_iadd rfl rfl jk_2 (by omega) (fun v15 ev15 => ?_)
          refine x_inv (N := m_X7_namedSoul) (As := [.int v15]) (b := 78) (st := [.ref 120]) (dx9 := 21) (mc := 0) (ms := 0) (host := "") 7 rfl t_X7_namedSoul ⟨Or.inl q_6_124, i_X7_namedSoul.1, i_X7_namedSoul.2⟩ ⟨by decide, rfl⟩ (congrArg Prod.fst (J.1.1 78 (7, 16) rfl)) rfl (by decide) rfl rfl ⟨by decide, by decide⟩ (jC.of rfl k_X7_namedSoul rfl ?_)
          show jX m_X7_namedSoul 21 0 0 0 [(0, .ref 78), (1, .int v15)] [] _ 0 0 _
          refine x_aloadn (x := 78) rfl rfl ?_
          refine z_getR (N := 16) (b := 70) 7 1 rfl f_7_59 rfl J rfl 9985 ⟨rfl, rfl⟩ rfl ?_
          refine x_iloadn (x := v15) rfl rfl ?_
          refine x_inv (N := m_X5_isNamed) (As := [.int v15]) (b := 70) (st := []) (dx9 := 20) (mc := 0) (ms := 0) (host := "") 5 rfl t_X5_isNamed ⟨Or.inl q_7_173, i_X5_isNamed.1, i_X5_isNamed.2⟩ ⟨by decide, rfl⟩ (congrArg Prod.fst (J.1.1 70 (5, 9) rfl)) rfl (by decide) rfl rfl ⟨by decide, by decide⟩ (jC.of rfl k_X5_isNamed rfl ?_)
          show jX m_X5_isNamed 20 0 0 0 [(0, .ref 70), (1, .int v15)] [] _ 0 0 _
          refine x_aloadn (x := 70) rfl rfl ?_
          refine x_iloadn (x := v15) rfl rfl ?_
          refine x_iconst (v := 0) rfl ki_0 ?_
          refine x_inv (N := m_X5_lengthOf) (As := [.int v15, .int 0]) (b := 70) (st := []) (dx9 := 19) (mc := 0) (ms := 0) (host := "") 5 rfl t_X5_lengthOf ⟨Or.inl q_5_133, i_X5_lengthOf.1, i_X5_lengthOf.2⟩ ⟨by decide, rfl⟩ (congrArg Prod.fst (J.1.1 70 (5, 9) rfl)) rfl (by decide) rfl rfl ⟨by decide, by decide⟩ (jC.of rfl k_X5_lengthOf rfl ?_)
          show jX m_X5_lengthOf 19 0 0 0 [(0, .ref 70), (1, .int v15), (2, .int 0)] [] _ 0 0 _
          refine x_iloadn (x := v15) rfl rfl ?_
          refine x_iconst (v := 2) rfl ki_2 ?_
          refine z_imul rfl rfl jk_2 (by omega) (fun v16 ev16 => ?_)
          refine x_iloadn (x := 0) rfl rfl ?_
          refine z_iadd rfl rfl jk_0 (by omega) (fun v17 ev17 => ?_)
          refine x_istoren (lsx9 := [(3, .int v17), (0, .ref 70), (1, .int v15), (2, .int 0)]) rfl rfl rfl ?_
          refine x_iloadn (x := v17) rfl rfl ?_
          refine x_iflt (tgt := 26) rfl rfl (ti_lt rfl jk_0 (br_f (by omega) ?_))
          refine x_iloadn (x := v17) rfl rfl ?_
          refine x_sipush (v := 1200) rfl ks_1200 ?_
          refine x_icge (tgt := 26) rfl rfl (ti_ge rfl jk_1200 ⟨fun c18 => ?_, fun c18 => ?_⟩)
          ·
            refine x_iconst (v := (-1)) rfl ki_m1 ?_
            refine x_iret rfl rfl ?_
            show jX m_X5_isNamed 20 0 0 6 [(0, .ref 70), (1, .int v15)] [.int (-1)] _ 0 0 _
            refine x_ifge (tgt := 18) rfl rfl (ti_ge jk_m1 jk_0 (br_f (by omega) ?_))
            refine x_aloadn (x := 70) rfl rfl ?_
            refine x_iloadn (x := v15) rfl rfl ?_
            refine x_iconst (v := 1) rfl ki_1 ?_
            refine x_inv (N := m_X5_lengthOf) (As := [.int v15, .int 1]) (b := 70) (st := []) (dx9 := 19) (mc := 0) (ms := 0) (host := "") 5 rfl t_X5_lengthOf ⟨Or.inl q_5_133, i_X5_lengthOf.1, i_X5_lengthOf.2⟩ ⟨by decide, rfl⟩ (congrArg Prod.fst (J.1.1 70 (5, 9) rfl)) rfl (by decide) rfl rfl ⟨by decide, by decide⟩ (jC.of rfl k_X5_lengthOf rfl ?_)
            show jX m_X5_lengthOf 19 0 0 0 [(0, .ref 70), (1, .int v15), (2, .int 1)] [] _ 0 0 _
            refine x_iloadn (x := v15) rfl rfl ?_
            refine x_iconst (v := 2) rfl ki_2 ?_
            refine z_imul rfl rfl jk_2 (by omega) (fun v19 ev19 => ?_)
            refine x_iloadn (x := 1) rfl rfl ?_
            refine z_iadd rfl rfl jk_1 (by omega) (fun v20 ev20 => ?_)
            refine x_istoren (lsx9 := [(3, .int v20), (0, .ref 70), (1, .int v15), (2, .int 1)]) rfl rfl rfl ?_
            refine x_iloadn (x := v20) rfl rfl ?_
            refine x_iflt (tgt := 26) rfl rfl (ti_lt rfl jk_0 (br_f (by omega) ?_))
            refine x_iloadn (x := v20) rfl rfl ?_
            refine x_sipush (v := 1200) rfl ks_1200 ?_
            refine x_icge (tgt := 26) rfl rfl (ti_ge rfl jk_1200 ⟨fun c21 => ?_, fun c21 => ?_⟩)
            ·
              refine x_iconst (v := (-1)) rfl ki_m1 ?_
              refine x_iret rfl rfl ?_
              show jX m_X5_isNamed 20 0 0 15 [(0, .ref 70), (1, .int v15)] [.int (-1)] _ 0 0 _
              refine x_iflt (tgt := 22) rfl rfl (ti_lt jk_m1 jk_0 (br_t (by omega) ?_))
              refine x_iconst (v := 0) rfl ki_0 ?_
              refine x_zret rfl rfl (by decide) ?_
              show jX m_X7_namedSoul 21 0 0 8 [(0, .ref 78), (1, .int v15)] [.int 0] _ 0 0 _
              refine x_ifeq (tgt := 19) rfl rfl (ti_eq jk_0 jk_0 (br_t (by omega) ?_))
              refine x_iconst (v := (-1)) rfl ki_m1 ?_
              refine x_iret rfl rfl ?_
              show jX m_X6_byParents 22 0 0 76 [(5, .int v13), (4, .int v4), (3, .int v2), (0, .ref 120), (1, .int a1), (2, .int 0)] [.int (-1), .ref 120] _ 0 0 _
              refine x_iload (x := v4) rfl rfl ?_
              refine x_iloadn (x := 0) rfl rfl ?_
              refine x_iconst (v := 1) rfl ki_1 ?_
              refine y_iadd (v := 1) rfl (by decide) ?_
              refine x_inv (N := m_X6_belongs) (As := [.int (-1), .int v4, .int 1]) (b := 120) (st := []) (dx9 := 21) (mc := 0) (ms := 0) (host := "") 6 rfl t_X6_belongs ⟨Or.inl q_6_127, i_X6_belongs.1, i_X6_belongs.2⟩ ⟨by decide, rfl⟩ (congrArg Prod.fst (J.1.1 120 (6, 8) rfl)) rfl (by decide) rfl rfl ⟨by decide, by decide⟩ (sf_X6_belongs_r120_c1 (jr_of jk_m1 (by omega)) (jr_of rfl (by omega)) hD J  (fun v23 h ev23 J S22 => ?_))
              have Sm := jSm_tr rfl Sm S22
              show jX m_X6_byParents 22 0 0 84 [(5, .int v13), (4, .int v4), (3, .int v2), (0, .ref 120), (1, .int a1), (2, .int 0)] [.int v23] _ 0 0 _
              exact jX.sub jsb_n (ct_X6_byParents_r120_c0_84 hD hQ  v23 h (jr_of rfl (by omega)) J Sm)
            ·
              refine x_aloadn (x := 70) rfl rfl ?_
              refine z_getR (N := 9) (b := 76) 5 7 rfl f_5_28 rfl J rfl 8967 ⟨rfl, rfl⟩ rfl ?_
              refine x_iloadn (x := v20) rfl rfl ?_
              refine z_iald (N := 1200) rfl J rfl sg_76_0_1200_1_0_1 rfl (by omega) (fun v24 qv24 ev24 => ?_)
              refine x_goto (tgt := 27) rfl rfl ?_
              refine x_iret rfl rfl ?_
              show jX m_X5_isNamed 20 0 0 15 [(0, .ref 70), (1, .int v15)] [.int v24] _ 0 0 _
              refine x_iflt (tgt := 22) rfl rfl (ti_lt rfl jk_0 ⟨fun c25 => ?_, fun c25 => ?_⟩)
              ·
                refine x_iconst (v := 0) rfl ki_0 ?_
                refine x_zret rfl rfl (by decide) ?_
                show jX m_X7_namedSoul 21 0 0 8 [(0, .ref 78), (1, .int v15)] [.int 0] _ 0 0 _
                refine x_ifeq (tgt := 19) rfl rfl (ti_eq jk_0 jk_0 (br_t (by omega) ?_))
                refine x_iconst (v := (-1)) rfl ki_m1 ?_
                refine x_iret rfl rfl ?_
                show jX m_X6_byParents 22 0 0 76 [(5, .int v13), (4, .int v4), (3, .int v2), (0, .ref 120), (1, .int a1), (2, .int 0)] [.int (-1), .ref 120] _ 0 0 _
                refine x_iload (x := v4) rfl rfl ?_
                refine x_iloadn (x := 0) rfl rfl ?_
                refine x_iconst (v := 1) rfl ki_1 ?_
                refine y_iadd (v := 1) rfl (by decide) ?_
                refine x_inv (N := m_X6_belongs) (As := [.int (-1), .int v4, .int 1]) (b := 120) (st := []) (dx9 := 21) (mc := 0) (ms := 0) (host := "") 6 rfl t_X6_belongs ⟨Or.inl q_6_127, i_X6_belongs.1, i_X6_belongs.2⟩ ⟨by decide, rfl⟩ (congrArg Prod.fst (J.1.1 120 (6, 8) rfl)) rfl (by decide) rfl rfl ⟨by decide, by decide⟩ (sf_X6_belongs_r120_c1 (jr_of jk_m1 (by omega)) (jr_of rfl (by omega)) hD J  (fun v27 h ev27 J S26 => ?_))
                have Sm := jSm_tr rfl Sm S26
                show jX m_X6_byParents 22 0 0 84 [(5, .int v13), (4, .int v4), (3, .int v2), (0, .ref 120), (1, .int a1), (2, .int 0)] [.int v27] _ 0 0 _
                exact jX.sub jsb_n (ct_X6_byParents_r120_c0_84 hD hQ  v27 h (jr_of rfl (by omega)) J Sm)
              ·
                refine x_iconst (v := 1) rfl ki_1 ?_
                refine x_goto (tgt := 23) rfl rfl ?_
                refine x_zret rfl rfl (by decide) ?_
                show jX m_X7_namedSoul 21 0 0 8 [(0, .ref 78), (1, .int v15)] [.int 1] _ 0 0 _
                refine x_ifeq (tgt := 19) rfl rfl (ti_eq jk_1 jk_0 (br_f (by omega) ?_))
                refine x_aloadn (x := 78) rfl rfl ?_
                refine x_iloadn (x := v15) rfl rfl ?_
                refine x_inv (N := m_X7_soulAt) (As := [.int v15]) (b := 78) (st := []) (dx9 := 20) (mc := 0) (ms := 0) (host := "") 7 rfl t_X7_soulAt ⟨Or.inl q_7_153, i_X7_soulAt.1, i_X7_soulAt.2⟩ ⟨by decide, rfl⟩ (congrArg Prod.fst (J.1.1 78 (7, 16) rfl)) rfl (by decide) rfl rfl ⟨by decide, by decide⟩ (jC.of rfl k_X7_soulAt rfl ?_)
                show jX m_X7_soulAt 20 0 0 0 [(0, .ref 78), (1, .int v15)] [] _ 0 0 _
                refine x_iloadn (x := v15) rfl rfl ?_
                refine x_iflt (tgt := 36) rfl rfl (ti_lt rfl jk_0 (br_f (by omega) ?_))
                refine x_iloadn (x := v15) rfl rfl ?_
                refine x_sipush (v := 600) rfl ks_600 ?_
                refine x_icge (tgt := 36) rfl rfl (ti_ge rfl jk_600 ⟨fun c28 => ?_, fun c28 => ?_⟩)
                ·
                  refine x_iconst (v := (-1)) rfl ki_m1 ?_
                  refine x_iret rfl rfl ?_
                  show jX m_X7_namedSoul 21 0 0 16 [(0, .ref 78), (1, .int v15)] [.int (-1)] _ 0 0 _
                  refine x_goto (tgt := 20) rfl rfl ?_
                  refine x_iret rfl rfl ?_
                  show jX m_X6_byParents 22 0 0 76 [(5, .int v13), (4, .int v4), (3, .int v2), (0, .ref 120), (1, .int a1), (2, .int 0)] [.int (-1), .ref 120] _ 0 0 _
                  refine x_iload (x := v4) rfl rfl ?_
                  refine x_iloadn (x := 0) rfl rfl ?_
                  refine x_iconst (v := 1) rfl ki_1 ?_
                  refine y_iadd (v := 1) rfl (by decide) ?_
                  refine x_inv (N := m_X6_belongs) (As := [.int (-1), .int v4, .int 1]) (b := 120) (st := []) (dx9 := 21) (mc := 0) (ms := 0) (host := "") 6 rfl t_X6_belongs ⟨Or.inl q_6_127, i_X6_belongs.1, i_X6_belongs.2⟩ ⟨by decide, rfl⟩ (congrArg Prod.fst (J.1.1 120 (6, 8) rfl)) rfl (by decide) rfl rfl ⟨by decide, by decide⟩ (sf_X6_belongs_r120_c1 (jr_of jk_m1 (by omega)) (jr_of rfl (by omega)) hD J  (fun v30 h ev30 J S29 => ?_))
                  have Sm := jSm_tr rfl Sm S29
                  show jX m_X6_byParents 22 0 0 84 [(5, .int v13), (4, .int v4), (3, .int v2), (0, .ref 120), (1, .int a1), (2, .int 0)] [.int v30] _ 0 0 _
                  exact jX.sub jsb_n (ct_X6_byParents_r120_c0_84 hD hQ  v30 h (jr_of rfl (by omega)) J Sm)
                ·
                  refine x_iloadn (x := v15) rfl rfl ?_
                  refine x_iconst (v := 3) rfl ki_3 ?_
                  refine z_idiv rfl rfl jk_3 (by omega) (by omega) (fun v31 ev31 => ?_)
                  refine x_aloadn (x := 78) rfl rfl ?_
                  refine z_getR (N := 16) (b := 32) 7 0 rfl f_7_55 rfl J rfl 9984 ⟨rfl, rfl⟩ rfl ?_
                  refine z_getR (N := 20) (b := 33) 1 0 rfl f_7_63 rfl J rfl 4096 ⟨rfl, rfl⟩ rfl ?_
                  refine z_getI (N := 4) 8 3 rfl f_7_85 rfl J rfl sg_33_3_4_1_0_1 (fun v32 qv32 ev32 => ?_)
                  refine x_icge (tgt := 36) rfl rfl (ti_ge rfl rfl ⟨fun c33 => ?_, fun c33 => ?_⟩)
                  ·
                    refine x_iconst (v := (-1)) rfl ki_m1 ?_
                    refine x_iret rfl rfl ?_
                    show jX m_X7_namedSoul 21 0 0 16 [(0, .ref 78), (1, .int v15)] [.int (-1)] _ 0 0 _
                    refine x_goto (tgt := 20) rfl rfl ?_
                    refine x_iret rfl rfl ?_
                    show jX m_X6_byParents 22 0 0 76 [(5, .int v13), (4, .int v4), (3, .int v2), (0, .ref 120), (1, .int a1), (2, .int 0)] [.int (-1), .ref 120] _ 0 0 _
                    refine x_iload (x := v4) rfl rfl ?_
                    refine x_iloadn (x := 0) rfl rfl ?_
                    refine x_iconst (v := 1) rfl ki_1 ?_
                    refine y_iadd (v := 1) rfl (by decide) ?_
                    refine x_inv (N := m_X6_belongs) (As := [.int (-1), .int v4, .int 1]) (b := 120) (st := []) (dx9 := 21) (mc := 0) (ms := 0) (host := "") 6 rfl t_X6_belongs ⟨Or.inl q_6_127, i_X6_belongs.1, i_X6_belongs.2⟩ ⟨by decide, rfl⟩ (congrArg Prod.fst (J.1.1 120 (6, 8) rfl)) rfl (by decide) rfl rfl ⟨by decide, by decide⟩ (sf_X6_belongs_r120_c1 (jr_of jk_m1 (by omega)) (jr_of rfl (by omega)) hD J  (fun v35 h ev35 J S34 => ?_))
                    have Sm := jSm_tr rfl Sm S34
                    show jX m_X6_byParents 22 0 0 84 [(5, .int v13), (4, .int v4), (3, .int v2), (0, .ref 120), (1, .int a1), (2, .int 0)] [.int v35] _ 0 0 _
                    exact jX.sub jsb_n (ct_X6_byParents_r120_c0_84 hD hQ  v35 h (jr_of rfl (by omega)) J Sm)
                  ·
                    refine x_aloadn (x := 78) rfl rfl ?_
                    refine z_getR (N := 16) (b := 82) 7 10 rfl f_7_37 rfl J rfl 9994 ⟨rfl, rfl⟩ rfl ?_
                    refine x_iloadn (x := v15) rfl rfl ?_
                    refine z_iald (N := 600) rfl J rfl sg_82_0_600_1_0_1 rfl (by omega) (fun v36 qv36 ev36 => ?_)
                    refine x_goto (tgt := 37) rfl rfl ?_
                    refine x_iret rfl rfl ?_
                    show jX m_X7_namedSoul 21 0 0 16 [(0, .ref 78), (1, .int v15)] [.int v36] _ 0 0 _
                    refine x_goto (tgt := 20) rfl rfl ?_
                    refine x_iret rfl rfl ?_
                    show jX m_X6_byParents 22 0 0 76 [(5, .int v13), (4, .int v4), (3, .int v2), (0, .ref 120), (1, .int a1), (2, .int 0)] [.int v36, .ref 120] _ 0 0 _
                    refine x_iload (x := v4) rfl rfl ?_
                    refine x_iloadn (x := 0) rfl rfl ?_
                    refine x_iconst (v := 1) rfl ki_1 ?_
                    refine y_iadd (v := 1) rfl (by decide) ?_
                    refine x_inv (N := m_X6_belongs) (As := [.int v36, .int v4, .int 1]) (b := 120) (st := []) (dx9 := 21) (mc := 0) (ms := 0) (host := "") 6 rfl t_X6_belongs ⟨Or.inl q_6_127, i_X6_belongs.1, i_X6_belongs.2⟩ ⟨by decide, rfl⟩ (congrArg Prod.fst (J.1.1 120 (6, 8) rfl)) rfl (by decide) rfl rfl ⟨by decide, by decide⟩ (sf_X6_belongs_r120_c1 (jr_of rfl (by omega)) (jr_of rfl (by omega)) hD J  (fun v38 h ev38 J S37 => ?_))
                    have Sm := jSm_tr rfl Sm S37
                    show jX m_X6_byParents 22 0 0 84 [(5, .int v13), (4, .int v4), (3, .int v2), (0, .ref 120), (1, .int a1), (2, .int 0)] [.int v38] _ 0 0 _
                    exact jX.sub jsb_n (ct_X6_byParents_r120_c0_84 hD hQ  v38 h (jr_of rfl (by omega)) J Sm)
          ·
            refine x_aloadn (x := 70) rfl rfl ?_
            refine z_getR (N := 9) (b := 76) 5 7 rfl f_5_28 rfl J rfl 8967 ⟨rfl, rfl⟩ rfl ?_
            refine x_iloadn (x := v17) rfl rfl ?_
            refine z_iald (N := 1200) rfl J rfl sg_76_0_1200_1_0_1 rfl (by omega) (fun v39 qv39 ev39 => ?_)
            refine x_goto (tgt := 27) rfl rfl ?_
            refine x_iret rfl rfl ?_
            show jX m_X5_isNamed 20 0 0 6 [(0, .ref 70), (1, .int v15)] [.int v39] _ 0 0 _
            refine x_ifge (tgt := 18) rfl rfl (ti_ge rfl jk_0 ⟨fun c40 => ?_, fun c40 => ?_⟩)
            ·
              refine x_iconst (v := 1) rfl ki_1 ?_
              refine x_goto (tgt := 23) rfl rfl ?_
              refine x_zret rfl rfl (by decide) ?_
              show jX m_X7_namedSoul 21 0 0 8 [(0, .ref 78), (1, .int v15)] [.int 1] _ 0 0 _
              refine x_ifeq (tgt := 19) rfl rfl (ti_eq jk_1 jk_0 (br_f (by omega) ?_))
              refine x_aloadn (x := 78) rfl rfl ?_
              refine x_iloadn (x := v15) rfl rfl ?_
              refine x_inv (N := m_X7_soulAt) (As := [.int v15]) (b := 78) (st := []) (dx9 := 20) (mc := 0) (ms := 0) (host := "") 7 rfl t_X7_soulAt ⟨Or.inl q_7_153, i_X7_soulAt.1, i_X7_soulAt.2⟩ ⟨by decide, rfl⟩ (congrArg Prod.fst (J.1.1 78 (7, 16) rfl)) rfl (by decide) rfl rfl ⟨by decide, by decide⟩ (jC.of rfl k_X7_soulAt rfl ?_)
              show jX m_X7_soulAt 20 0 0 0 [(0, .ref 78), (1, .int v15)] [] _ 0 0 _
              refine x_iloadn (x := v15) rfl rfl ?_
              refine x_iflt (tgt := 36) rfl rfl (ti_lt rfl jk_0 (br_f (by omega) ?_))
              refine x_iloadn (x := v15) rfl rfl ?_
              refine x_sipush (v := 600) rfl ks_600 ?_
              refine x_icge (tgt := 36) rfl rfl (ti_ge rfl jk_600 ⟨fun c41 => ?_, fun c41 => ?_⟩)
              ·
                refine x_iconst (v := (-1)) rfl ki_m1 ?_
                refine x_iret rfl rfl ?_
                show jX m_X7_namedSoul 21 0 0 16 [(0, .ref 78), (1, .int v15)] [.int (-1)] _ 0 0 _
                refine x_goto (tgt := 20) rfl rfl ?_
                refine x_iret rfl rfl ?_
                show jX m_X6_byParents 22 0 0 76 [(5, .int v13), (4, .int v4), (3, .int v2), (0, .ref 120), (1, .int a1), (2, .int 0)] [.int (-1), .ref 120] _ 0 0 _
                refine x_iload (x := v4) rfl rfl ?_
                refine x_iloadn (x := 0) rfl rfl ?_
                refine x_iconst (v := 1) rfl ki_1 ?_
                refine y_iadd (v := 1) rfl (by decide) ?_
                refine x_inv (N := m_X6_belongs) (As := [.int (-1), .int v4, .int 1]) (b := 120) (st := []) (dx9 := 21) (mc := 0) (ms := 0) (host := "") 6 rfl t_X6_belongs ⟨Or.inl q_6_127, i_X6_belongs.1, i_X6_belongs.2⟩ ⟨by decide, rfl⟩ (congrArg Prod.fst (J.1.1 120 (6, 8) rfl)) rfl (by decide) rfl rfl ⟨by decide, by decide⟩ (sf_X6_belongs_r120_c1 (jr_of jk_m1 (by omega)) (jr_of rfl (by omega)) hD J  (fun v43 h ev43 J S42 => ?_))
                have Sm := jSm_tr rfl Sm S42
                show jX m_X6_byParents 22 0 0 84 [(5, .int v13), (4, .int v4), (3, .int v2), (0, .ref 120), (1, .int a1), (2, .int 0)] [.int v43] _ 0 0 _
                exact jX.sub jsb_n (ct_X6_byParents_r120_c0_84 hD hQ  v43 h (jr_of rfl (by omega)) J Sm)
              ·
                refine x_iloadn (x := v15) rfl rfl ?_
                refine x_iconst (v := 3) rfl ki_3 ?_
                refine z_idiv rfl rfl jk_3 (by omega) (by omega) (fun v44 ev44 => ?_)
                refine x_aloadn (x := 78) rfl rfl ?_
                refine z_getR (N := 16) (b := 32) 7 0 rfl f_7_55 rfl J rfl 9984 ⟨rfl, rfl⟩ rfl ?_
                refine z_getR (N := 20) (b := 33) 1 0 rfl f_7_63 rfl J rfl 4096 ⟨rfl, rfl⟩ rfl ?_
                refine z_getI (N := 4) 8 3 rfl f_7_85 rfl J rfl sg_33_3_4_1_0_1 (fun v45 qv45 ev45 => ?_)
                refine x_icge (tgt := 36) rfl rfl (ti_ge rfl rfl ⟨fun c46 => ?_, fun c46 => ?_⟩)
                ·
                  refine x_iconst (v := (-1)) rfl ki_m1 ?_
                  refine x_iret rfl rfl ?_
                  show jX m_X7_namedSoul 21 0 0 16 [(0, .ref 78), (1, .int v15)] [.int (-1)] _ 0 0 _
                  refine x_goto (tgt := 20) rfl rfl ?_
                  refine x_iret rfl rfl ?_
                  show jX m_X6_byParents 22 0 0 76 [(5, .int v13), (4, .int v4), (3, .int v2), (0, .ref 120), (1, .int a1), (2, .int 0)] [.int (-1), .ref 120] _ 0 0 _
                  refine x_iload (x := v4) rfl rfl ?_
                  refine x_iloadn (x := 0) rfl rfl ?_
                  refine x_iconst (v := 1) rfl ki_1 ?_
                  refine y_iadd (v := 1) rfl (by decide) ?_
                  refine x_inv (N := m_X6_belongs) (As := [.int (-1), .int v4, .int 1]) (b := 120) (st := []) (dx9 := 21) (mc := 0) (ms := 0) (host := "") 6 rfl t_X6_belongs ⟨Or.inl q_6_127, i_X6_belongs.1, i_X6_belongs.2⟩ ⟨by decide, rfl⟩ (congrArg Prod.fst (J.1.1 120 (6, 8) rfl)) rfl (by decide) rfl rfl ⟨by decide, by decide⟩ (sf_X6_belongs_r120_c1 (jr_of jk_m1 (by omega)) (jr_of rfl (by omega)) hD J  (fun v48 h ev48 J S47 => ?_))
                  have Sm := jSm_tr rfl Sm S47
                  show jX m_X6_byParents 22 0 0 84 [(5, .int v13), (4, .int v4), (3, .int v2), (0, .ref 120), (1, .int a1), (2, .int 0)] [.int v48] _ 0 0 _
                  exact jX.sub jsb_n (ct_X6_byParents_r120_c0_84 hD hQ  v48 h (jr_of rfl (by omega)) J Sm)
                ·
                  refine x_aloadn (x := 78) rfl rfl ?_
                  refine z_getR (N := 16) (b := 82) 7 10 rfl f_7_37 rfl J rfl 9994 ⟨rfl, rfl⟩ rfl ?_
                  refine x_iloadn (x := v15) rfl rfl ?_
                  refine z_iald (N := 600) rfl J rfl sg_82_0_600_1_0_1 rfl (by omega) (fun v49 qv49 ev49 => ?_)
                  refine x_goto (tgt := 37) rfl rfl ?_
                  refine x_iret rfl rfl ?_
                  show jX m_X7_namedSoul 21 0 0 16 [(0, .ref 78), (1, .int v15)] [.int v49] _ 0 0 _
                  refine x_goto (tgt := 20) rfl rfl ?_
                  refine x_iret rfl rfl ?_
                  show jX m_X6_byParents 22 0 0 76 [(5, .int v13), (4, .int v4), (3, .int v2), (0, .ref 120), (1, .int a1), (2, .int 0)] [.int v49, .ref 120] _ 0 0 _
                  refine x_iload (x := v4) rfl rfl ?_
                  refine x_iloadn (x := 0) rfl rfl ?_
                  refine x_iconst (v := 1) rfl ki_1 ?_
                  refine y_iadd (v := 1) rfl (by decide) ?_
                  refine x_inv (N := m_X6_belongs) (As := [.int v49, .int v4, .int 1]) (b := 120) (st := []) (dx9 := 21) (mc := 0) (ms := 0) (host := "") 6 rfl t_X6_belongs ⟨Or.inl q_6_127, i_X6_belongs.1, i_X6_belongs.2⟩ ⟨by decide, rfl⟩ (congrArg Prod.fst (J.1.1 120 (6, 8) rfl)) rfl (by decide) rfl rfl ⟨by decide, by decide⟩ (sf_X6_belongs_r120_c1 (jr_of rfl (by omega)) (jr_of rfl (by omega)) hD J  (fun v51 h ev51 J S50 => ?_))
                  have Sm := jSm_tr rfl Sm S50
                  show jX m_X6_byParents 22 0 0 84 [(5, .int v13), (4, .int v4), (3, .int v2), (0, .ref 120), (1, .int a1), (2, .int 0)] [.int v51] _ 0 0 _
                  exact jX.sub jsb_n (ct_X6_byParents_r120_c0_84 hD hQ  v51 h (jr_of rfl (by omega)) J Sm)
            ·
              refine x_aloadn (x := 70) rfl rfl ?_
              refine x_iloadn (x := v15) rfl rfl ?_
              refine x_iconst (v := 1) rfl ki_1 ?_
              refine x_inv (N := m_X5_lengthOf) (As := [.int v15, .int 1]) (b := 70) (st := []) (dx9 := 19) (mc := 0) (ms := 0) (host := "") 5 rfl t_X5_lengthOf ⟨Or.inl q_5_133, i_X5_lengthOf.1, i_X5_lengthOf.2⟩ ⟨by decide, rfl⟩ (congrArg Prod.fst (J.1.1 70 (5, 9) rfl)) rfl (by decide) rfl rfl ⟨by decide, by decide⟩ (jC.of rfl k_X5_lengthOf rfl ?_)
              show jX m_X5_lengthOf 19 0 0 0 [(0, .ref 70), (1, .int v15), (2, .int 1)] [] _ 0 0 _
              refine x_iloadn (x := v15) rfl rfl ?_
              refine x_iconst (v := 2) rfl ki_2 ?_
              refine z_imul rfl rfl jk_2 (by omega) (fun v52 ev52 => ?_)
              refine x_iloadn (x := 1) rfl rfl ?_
              refine z_iadd rfl rfl jk_1 (by omega) (fun v53 ev53 => ?_)
              refine x_istoren (lsx9 := [(3, .int v53), (0, .ref 70), (1, .int v15), (2, .int 1)]) rfl rfl rfl ?_
              refine x_iloadn (x := v53) rfl rfl ?_
              refine x_iflt (tgt := 26) rfl rfl (ti_lt rfl jk_0 (br_f (by omega) ?_))
              refine x_iloadn (x := v53) rfl rfl ?_
              refine x_sipush (v := 1200) rfl ks_1200 ?_
              refine x_icge (tgt := 26) rfl rfl (ti_ge rfl jk_1200 ⟨fun c54 => ?_, fun c54 => ?_⟩)
              ·
                refine x_iconst (v := (-1)) rfl ki_m1 ?_
                refine x_iret rfl rfl ?_
                show jX m_X5_isNamed 20 0 0 15 [(0, .ref 70), (1, .int v15)] [.int (-1)] _ 0 0 _
                refine x_iflt (tgt := 22) rfl rfl (ti_lt jk_m1 jk_0 (br_t (by omega) ?_))
                refine x_iconst (v := 0) rfl ki_0 ?_
                refine x_zret rfl rfl (by decide) ?_
                show jX m_X7_namedSoul 21 0 0 8 [(0, .ref 78), (1, .int v15)] [.int 0] _ 0 0 _
                refine x_ifeq (tgt := 19) rfl rfl (ti_eq jk_0 jk_0 (br_t (by omega) ?_))
                refine x_iconst (v := (-1)) rfl ki_m1 ?_
                refine x_iret rfl rfl ?_
                show jX m_X6_byParents 22 0 0 76 [(5, .int v13), (4, .int v4), (3, .int v2), (0, .ref 120), (1, .int a1), (2, .int 0)] [.int (-1), .ref 120] _ 0 0 _
                refine x_iload (x := v4) rfl rfl ?_
                refine x_iloadn (x := 0) rfl rfl ?_
                refine x_iconst (v := 1) rfl ki_1 ?_
                refine y_iadd (v := 1) rfl (by decide) ?_
                refine x_inv (N := m_X6_belongs) (As := [.int (-1), .int v4, .int 1]) (b := 120) (st := []) (dx9 := 21) (mc := 0) (ms := 0) (host := "") 6 rfl t_X6_belongs ⟨Or.inl q_6_127, i_X6_belongs.1, i_X6_belongs.2⟩ ⟨by decide, rfl⟩ (congrArg Prod.fst (J.1.1 120 (6, 8) rfl)) rfl (by decide) rfl rfl ⟨by decide, by decide⟩ (sf_X6_belongs_r120_c1 (jr_of jk_m1 (by omega)) (jr_of rfl (by omega)) hD J  (fun v56 h ev56 J S55 => ?_))
                have Sm := jSm_tr rfl Sm S55
                show jX m_X6_byParents 22 0 0 84 [(5, .int v13), (4, .int v4), (3, .int v2), (0, .ref 120), (1, .int a1), (2, .int 0)] [.int v56] _ 0 0 _
                exact jX.sub jsb_n (ct_X6_byParents_r120_c0_84 hD hQ  v56 h (jr_of rfl (by omega)) J Sm)
              ·
                refine x_aloadn (x := 70) rfl rfl ?_
                refine z_getR (N := 9) (b := 76) 5 7 rfl f_5_28 rfl J rfl 8967 ⟨rfl, rfl⟩ rfl ?_
                refine x_iloadn (x := v53) rfl rfl ?_
                refine z_iald (N := 1200) rfl J rfl sg_76_0_1200_1_0_1 rfl (by omega) (fun v57 qv57 ev57 => ?_)
                refine x_goto (tgt := 27) rfl rfl ?_
                refine x_iret rfl rfl ?_
                show jX m_X5_isNamed 20 0 0 15 [(0, .ref 70), (1, .int v15)] [.int v57] _ 0 0 _
                refine x_iflt (tgt := 22) rfl rfl (ti_lt rfl jk_0 ⟨fun c58 => ?_, fun c58 => ?_⟩)
                ·
                  refine x_iconst (v := 0) rfl ki_0 ?_
                  refine x_zret rfl rfl (by decide) ?_
                  show jX m_X7_namedSoul 21 0 0 8 [(0, .ref 78), (1, .int v15)] [.int 0] _ 0 0 _
                  refine x_ifeq (tgt := 19) rfl rfl (ti_eq jk_0 jk_0 (br_t (by omega) ?_))
                  refine x_iconst (v := (-1)) rfl ki_m1 ?_
                  refine x_iret rfl rfl ?_
                  show jX m_X6_byParents 22 0 0 76 [(5, .int v13), (4, .int v4), (3, .int v2), (0, .ref 120), (1, .int a1), (2, .int 0)] [.int (-1), .ref 120] _ 0 0 _
                  refine x_iload (x := v4) rfl rfl ?_
                  refine x_iloadn (x := 0) rfl rfl ?_
                  refine x_iconst (v := 1) rfl ki_1 ?_
                  refine y_iadd (v := 1) rfl (by decide) ?_
                  refine x_inv (N := m_X6_belongs) (As := [.int (-1), .int v4, .int 1]) (b := 120) (st := []) (dx9 := 21) (mc := 0) (ms := 0) (host := "") 6 rfl t_X6_belongs ⟨Or.inl q_6_127, i_X6_belongs.1, i_X6_belongs.2⟩ ⟨by decide, rfl⟩ (congrArg Prod.fst (J.1.1 120 (6, 8) rfl)) rfl (by decide) rfl rfl ⟨by decide, by decide⟩ (sf_X6_belongs_r120_c1 (jr_of jk_m1 (by omega)) (jr_of rfl (by omega)) hD J  (fun v60 h ev60 J S59 => ?_))
                  have Sm := jSm_tr rfl Sm S59
                  show jX m_X6_byParents 22 0 0 84 [(5, .int v13), (4, .int v4), (3, .int v2), (0, .ref 120), (1, .int a1), (2, .int 0)] [.int v60] _ 0 0 _
                  exact jX.sub jsb_n (ct_X6_byParents_r120_c0_84 hD hQ  v60 h (jr_of rfl (by omega)) J Sm)
                ·
                  refine x_iconst (v := 1) rfl ki_1 ?_
                  refine x_goto (tgt := 23) rfl rfl ?_
                  refine x_zret rfl rfl (by decide) ?_
                  show jX m_X7_namedSoul 21 0 0 8 [(0, .ref 78), (1, .int v15)] [.int 1] _ 0 0 _
                  refine x_ifeq (tgt := 19) rfl rfl (ti_eq jk_1 jk_0 (br_f (by omega) ?_))
                  refine x_aloadn (x := 78) rfl rfl ?_
                  refine x_iloadn (x := v15) rfl rfl ?_
                  refine x_inv (N := m_X7_soulAt) (As := [.int v15]) (b := 78) (st := []) (dx9 := 20) (mc := 0) (ms := 0) (host := "") 7 rfl t_X7_soulAt ⟨Or.inl q_7_153, i_X7_soulAt.1, i_X7_soulAt.2⟩ ⟨by decide, rfl⟩ (congrArg Prod.fst (J.1.1 78 (7, 16) rfl)) rfl (by decide) rfl rfl ⟨by decide, by decide⟩ (jC.of rfl k_X7_soulAt rfl ?_)
                  show jX m_X7_soulAt 20 0 0 0 [(0, .ref 78), (1, .int v15)] [] _ 0 0 _
                  refine x_iloadn (x := v15) rfl rfl ?_
                  refine x_iflt (tgt := 36) rfl rfl (ti_lt rfl jk_0 (br_f (by omega) ?_))
                  refine x_iloadn (x := v15) rfl rfl ?_
                  refine x_sipush (v := 600) rfl ks_600 ?_
                  refine x_icge (tgt := 36) rfl rfl (ti_ge rfl jk_600 ⟨fun c61 => ?_, fun c61 => ?_⟩)
                  ·
                    refine x_iconst (v := (-1)) rfl ki_m1 ?_
                    refine x_iret rfl rfl ?_
                    show jX m_X7_namedSoul 21 0 0 16 [(0, .ref 78), (1, .int v15)] [.int (-1)] _ 0 0 _
                    refine x_goto (tgt := 20) rfl rfl ?_
                    refine x_iret rfl rfl ?_
                    show jX m_X6_byParents 22 0 0 76 [(5, .int v13), (4, .int v4), (3, .int v2), (0, .ref 120), (1, .int a1), (2, .int 0)] [.int (-1), .ref 120] _ 0 0 _
                    refine x_iload (x := v4) rfl rfl ?_
                    refine x_iloadn (x := 0) rfl rfl ?_
                    refine x_iconst (v := 1) rfl ki_1 ?_
                    refine y_iadd (v := 1) rfl (by decide) ?_
                    refine x_inv (N := m_X6_belongs) (As := [.int (-1), .int v4, .int 1]) (b := 120) (st := []) (dx9 := 21) (mc := 0) (ms := 0) (host := "") 6 rfl t_X6_belongs ⟨Or.inl q_6_127, i_X6_belongs.1, i_X6_belongs.2⟩ ⟨by decide, rfl⟩ (congrArg Prod.fst (J.1.1 120 (6, 8) rfl)) rfl (by decide) rfl rfl ⟨by decide, by decide⟩ (sf_X6_belongs_r120_c1 (jr_of jk_m1 (by omega)) (jr_of rfl (by omega)) hD J  (fun v63 h ev63 J S62 => ?_))
                    have Sm := jSm_tr rfl Sm S62
                    show jX m_X6_byParents 22 0 0 84 [(5, .int v13), (4, .int v4), (3, .int v2), (0, .ref 120), (1, .int a1), (2, .int 0)] [.int v63] _ 0 0 _
                    exact jX.sub jsb_n (ct_X6_byParents_r120_c0_84 hD hQ  v63 h (jr_of rfl (by omega)) J Sm)
                  ·
                    refine x_iloadn (x := v15) rfl rfl ?_
                    refine x_iconst (v := 3) rfl ki_3 ?_
                    refine z_idiv rfl rfl jk_3 (by omega) (by omega) (fun v64 ev64 => ?_)
                    refine x_aloadn (x := 78) rfl rfl ?_
                    refine z_getR (N := 16) (b := 32) 7 0 rfl f_7_55 rfl J rfl 9984 ⟨rfl, rfl⟩ rfl ?_
                    refine z_getR (N := 20) (b := 33) 1 0 rfl f_7_63 rfl J rfl 4096 ⟨rfl, rfl⟩ rfl ?_
                    refine z_getI (N := 4) 8 3 rfl f_7_85 rfl J rfl sg_33_3_4_1_0_1 (fun v65 qv65 ev65 => ?_)
                    refine x_icge (tgt := 36) rfl rfl (ti_ge rfl rfl ⟨fun c66 => ?_, fun c66 => ?_⟩)
                    ·
                      refine x_iconst (v := (-1)) rfl ki_m1 ?_
                      refine x_iret rfl rfl ?_
                      show jX m_X7_namedSoul 21 0 0 16 [(0, .ref 78), (1, .int v15)] [.int (-1)] _ 0 0 _
                      refine x_goto (tgt := 20) rfl rfl ?_
                      refine x_iret rfl rfl ?_
                      show jX m_X6_byParents 22 0 0 76 [(5, .int v13), (4, .int v4), (3, .int v2), (0, .ref 120), (1, .int a1), (2, .int 0)] [.int (-1), .ref 120] _ 0 0 _
                      refine x_iload (x := v4) rfl rfl ?_
                      refine x_iloadn (x := 0) rfl rfl ?_
                      refine x_iconst (v := 1) rfl ki_1 ?_
                      refine y_iadd (v := 1) rfl (by decide) ?_
                      refine x_inv (N := m_X6_belongs) (As := [.int (-1), .int v4, .int 1]) (b := 120) (st := []) (dx9 := 21) (mc := 0) (ms := 0) (host := "") 6 rfl t_X6_belongs ⟨Or.inl q_6_127, i_X6_belongs.1, i_X6_belongs.2⟩ ⟨by decide, rfl⟩ (congrArg Prod.fst (J.1.1 120 (6, 8) rfl)) rfl (by decide) rfl rfl ⟨by decide, by decide⟩ (sf_X6_belongs_r120_c1 (jr_of jk_m1 (by omega)) (jr_of rfl (by omega)) hD J  (fun v68 h ev68 J S67 => ?_))
                      have Sm := jSm_tr rfl Sm S67
                      show jX m_X6_byParents 22 0 0 84 [(5, .int v13), (4, .int v4), (3, .int v2), (0, .ref 120), (1, .int a1), (2, .int 0)] [.int v68] _ 0 0 _
                      exact jX.sub jsb_n (ct_X6_byParents_r120_c0_84 hD hQ  v68 h (jr_of rfl (by omega)) J Sm)
                    ·
                      refine x_aloadn (x := 78) rfl rfl ?_
                      refine z_getR (N := 16) (b := 82) 7 10 rfl f_7_37 rfl J rfl 9994 ⟨rfl, rfl⟩ rfl ?_
                      refine x_iloadn (x := v15) rfl rfl ?_
                      refine z_iald (N := 600) rfl J rfl sg_82_0_600_1_0_1 rfl (by omega) (fun v69 qv69 ev69 => ?_)
                      refine x_goto (tgt := 37) rfl rfl ?_
                      refine x_iret rfl rfl ?_
                      show jX m_X7_namedSoul 21 0 0 16 [(0, .ref 78), (1, .int v15)] [.int v69] _ 0 0 _
                      refine x_goto (tgt := 20) rfl rfl ?_
                      refine x_iret rfl rfl ?_
                      show jX m_X6_byParents 22 0 0 76 [(5, .int v13), (4, .int v4), (3, .int v2), (0, .ref 120), (1, .int a1), (2, .int 0)] [.int v69, .ref 120] _ 0 0 _
                      refine x_iload (x := v4) rfl rfl ?_
                      refine x_iloadn (x := 0) rfl rfl ?_
                      refine x_iconst (v := 1) rfl ki_1 ?_
                      refine y_iadd (v := 1) rfl (by decide) ?_
                      refine x_inv (N := m_X6_belongs) (As := [.int v69, .int v4, .int 1]) (b := 120) (st := []) (dx9 := 21) (mc := 0) (ms := 0) (host := "") 6 rfl t_X6_belongs ⟨Or.inl q_6_127, i_X6_belongs.1, i_X6_belongs.2⟩ ⟨by decide, rfl⟩ (congrArg Prod.fst (J.1.1 120 (6, 8) rfl)) rfl (by decide) rfl rfl ⟨by decide, by decide⟩ (sf_X6_belongs_r120_c1 (jr_of rfl (by omega)) (jr_of rfl (by omega)) hD J  (fun v71 h ev71 J S70 => ?_))
                      have Sm := jSm_tr rfl Sm S70
                      show jX m_X6_byParents 22 0 0 84 [(5, .int v13), (4, .int v4), (3, .int v2), (0, .ref 120), (1, .int a1), (2, .int 0)] [.int v71] _ 0 0 _
                      exact jX.sub jsb_n (ct_X6_byParents_r120_c0_84 hD hQ  v71 h (jr_of rfl (by omega)) J Sm)
        ·
          refine x_iload (x := v13) rfl rfl ?_
          refine x_goto (tgt := 84) rfl rfl ?_
          exact jX.sub jsb_n (ct_X6_byParents_r120_c0_84 hD hQ  v13 h (jr_of rfl (by omega)) J Sm)
      ·
        refine x_aloadn (x := 70) rfl rfl ?_
        refine z_getR (N := 9) (b := 76) 5 7 rfl f_5_28 rfl J rfl 8967 ⟨rfl, rfl⟩ rfl ?_
        refine x_iloadn (x := v10) rfl rfl ?_
        refine z_iald (N := 1200) rfl J rfl sg_76_0_1200_1_0_1 rfl (by omega) (fun v72 qv72 ev72 => ?_)
        refine x_goto (tgt := 27) rfl rfl ?_
        refine x_iret rfl rfl ?_
        show jX m_X5_isNamed 20 0 0 15 [(0, .ref 70), (1, .int v5)] [.int v72] _ 0 0 _
        refine x_iflt (tgt := 22) rfl rfl (ti_lt rfl jk_0 ⟨fun c73 => ?_, fun c73 => ?_⟩)
        ·
          refine x_iconst (v := 0) rfl ki_0 ?_
          refine x_zret rfl rfl (by decide) ?_
          show jX m_X7_namedSoul 21 0 0 8 [(0, .ref 78), (1, .int v5)] [.int 0] _ 0 0 _
          refine x_ifeq (tgt := 19) rfl rfl (ti_eq jk_0 jk_0 (br_t (by omega) ?_))
          refine x_iconst (v := (-1)) rfl ki_m1 ?_
          refine x_iret rfl rfl ?_
          show jX m_X6_byParents 22 0 0 44 [(4, .int v4), (3, .int v2), (0, .ref 120), (1, .int a1), (2, .int 0)] [.int (-1), .ref 120] _ 0 0 _
          refine x_iload (x := v4) rfl rfl ?_
          refine x_iloadn (x := 0) rfl rfl ?_
          refine x_iconst (v := 1) rfl ki_1 ?_
          refine y_iadd (v := 1) rfl (by decide) ?_
          refine x_inv (N := m_X6_belongs) (As := [.int (-1), .int v4, .int 1]) (b := 120) (st := []) (dx9 := 21) (mc := 0) (ms := 0) (host := "") 6 rfl t_X6_belongs ⟨Or.inl q_6_127, i_X6_belongs.1, i_X6_belongs.2⟩ ⟨by decide, rfl⟩ (congrArg Prod.fst (J.1.1 120 (6, 8) rfl)) rfl (by decide) rfl rfl ⟨by decide, by decide⟩ (sf_X6_belongs_r120_c1 (jr_of jk_m1 (by omega)) (jr_of rfl (by omega)) hD J  (fun v75 h ev75 J S74 => ?_))
          have Sm := jSm_tr rfl Sm S74
          show jX m_X6_byParents 22 0 0 52 [(4, .int v4), (3, .int v2), (0, .ref 120), (1, .int a1), (2, .int 0)] [.int v75] _ 0 0 _
          refine x_istore (lsx9 := [(5, .int v75), (4, .int v4), (3, .int v2), (0, .ref 120), (1, .int a1), (2, .int 0)]) rfl rfl rfl ?_
          refine x_iload (x := v75) rfl rfl ?_
          refine x_iconst (v := (-1)) rfl ki_m1 ?_
          refine x_iceq (tgt := 65) rfl rfl (ti_eq rfl jk_m1 ⟨fun c76 => ?_, fun c76 => ?_⟩)
          ·
            refine x_aloadn (x := 120) rfl rfl ?_
            refine x_aloadn (x := 120) rfl rfl ?_
            refine z_getR (N := 8) (b := 78) 6 1 rfl f_6_32 rfl J rfl 15361 ⟨rfl, rfl⟩ rfl ?_
            refine x_iloadn (x := v2) rfl rfl ?_
            refine x_iconst (v := 2) rfl ki_2 ?_
            refine z_iadd rfl rfl jk_2 (by omega) (fun v77 ev77 => ?_)
            refine x_inv (N := m_X7_namedSoul) (As := [.int v77]) (b := 78) (st := [.ref 120]) (dx9 := 21) (mc := 0) (ms := 0) (host := "") 7 rfl t_X7_namedSoul ⟨Or.inl q_6_124, i_X7_namedSoul.1, i_X7_namedSoul.2⟩ ⟨by decide, rfl⟩ (congrArg Prod.fst (J.1.1 78 (7, 16) rfl)) rfl (by decide) rfl rfl ⟨by decide, by decide⟩ (jC.of rfl k_X7_namedSoul rfl ?_)
            show jX m_X7_namedSoul 21 0 0 0 [(0, .ref 78), (1, .int v77)] [] _ 0 0 _
            refine x_aloadn (x := 78) rfl rfl ?_
            refine z_getR (N := 16) (b := 70) 7 1 rfl f_7_59 rfl J rfl 9985 ⟨rfl, rfl⟩ rfl ?_
            refine x_iloadn (x := v77) rfl rfl ?_
            refine x_inv (N := m_X5_isNamed) (As := [.int v77]) (b := 70) (st := []) (dx9 := 20) (mc := 0) (ms := 0) (host := "") 5 rfl t_X5_isNamed ⟨Or.inl q_7_173, i_X5_isNamed.1, i_X5_isNamed.2⟩ ⟨by decide, rfl⟩ (congrArg Prod.fst (J.1.1 70 (5, 9) rfl)) rfl (by decide) rfl rfl ⟨by decide, by decide⟩ (jC.of rfl k_X5_isNamed rfl ?_)
            show jX m_X5_isNamed 20 0 0 0 [(0, .ref 70), (1, .int v77)] [] _ 0 0 _
            refine x_aloadn (x := 70) rfl rfl ?_
            refine x_iloadn (x := v77) rfl rfl ?_
            refine x_iconst (v := 0) rfl ki_0 ?_
            refine x_inv (N := m_X5_lengthOf) (As := [.int v77, .int 0]) (b := 70) (st := []) (dx9 := 19) (mc := 0) (ms := 0) (host := "") 5 rfl t_X5_lengthOf ⟨Or.inl q_5_133, i_X5_lengthOf.1, i_X5_lengthOf.2⟩ ⟨by decide, rfl⟩ (congrArg Prod.fst (J.1.1 70 (5, 9) rfl)) rfl (by decide) rfl rfl ⟨by decide, by decide⟩ (jC.of rfl k_X5_lengthOf rfl ?_)
            show jX m_X5_lengthOf 19 0 0 0 [(0, .ref 70), (1, .int v77), (2, .int 0)] [] _ 0 0 _
            refine x_iloadn (x := v77) rfl rfl ?_
            refine x_iconst (v := 2) rfl ki_2 ?_
            refine z_imul rfl rfl jk_2 (by omega) (fun v78 ev78 => ?_)
            refine x_iloadn (x := 0) rfl rfl ?_
            refine z_iadd rfl rfl jk_0 (by omega) (fun v79 ev79 => ?_)
            refine x_istoren (lsx9 := [(3, .int v79), (0, .ref 70), (1, .int v77), (2, .int 0)]) rfl rfl rfl ?_
            refine x_iloadn (x := v79) rfl rfl ?_
            refine x_iflt (tgt := 26) rfl rfl (ti_lt rfl jk_0 (br_f (by omega) ?_))
            refine x_iloadn (x := v79) rfl rfl ?_
            refine x_sipush (v := 1200) rfl ks_1200 ?_
            refine x_icge (tgt := 26) rfl rfl (ti_ge rfl jk_1200 ⟨fun c80 => ?_, fun c80 => ?_⟩)
            ·
              refine x_iconst (v := (-1)) rfl ki_m1 ?_
              refine x_iret rfl rfl ?_
              show jX m_X5_isNamed 20 0 0 6 [(0, .ref 70), (1, .int v77)] [.int (-1)] _ 0 0 _
              refine x_ifge (tgt := 18) rfl rfl (ti_ge jk_m1 jk_0 (br_f (by omega) ?_))
              refine x_aloadn (x := 70) rfl rfl ?_
              refine x_iloadn (x := v77) rfl rfl ?_
              refine x_iconst (v := 1) rfl ki_1 ?_
              refine x_inv (N := m_X5_lengthOf) (As := [.int v77, .int 1]) (b := 70) (st := []) (dx9 := 19) (mc := 0) (ms := 0) (host := "") 5 rfl t_X5_lengthOf ⟨Or.inl q_5_133, i_X5_lengthOf.1, i_X5_lengthOf.2⟩ ⟨by decide, rfl⟩ (congrArg Prod.fst (J.1.1 70 (5, 9) rfl)) rfl (by decide) rfl rfl ⟨by decide, by decide⟩ (jC.of rfl k_X5_lengthOf rfl ?_)
              show jX m_X5_lengthOf 19 0 0 0 [(0, .ref 70), (1, .int v77), (2, .int 1)] [] _ 0 0 _
              refine x_iloadn (x := v77) rfl rfl ?_
              refine x_iconst (v := 2) rfl ki_2 ?_
              refine z_imul rfl rfl jk_2 (by omega) (fun v81 ev81 => ?_)
              refine x_iloadn (x := 1) rfl rfl ?_
              refine z_iadd rfl rfl jk_1 (by omega) (fun v82 ev82 => ?_)
              refine x_istoren (lsx9 := [(3, .int v82), (0, .ref 70), (1, .int v77), (2, .int 1)]) rfl rfl rfl ?_
              refine x_iloadn (x := v82) rfl rfl ?_
              refine x_iflt (tgt := 26) rfl rfl (ti_lt rfl jk_0 (br_f (by omega) ?_))
              refine x_iloadn (x := v82) rfl rfl ?_
              refine x_sipush (v := 1200) rfl ks_1200 ?_
              refine x_icge (tgt := 26) rfl rfl (ti_ge rfl jk_1200 ⟨fun c83 => ?_, fun c83 => ?_⟩)
              ·
                refine x_iconst (v := (-1)) rfl ki_m1 ?_
                refine x_iret rfl rfl ?_
                show jX m_X5_isNamed 20 0 0 15 [(0, .ref 70), (1, .int v77)] [.int (-1)] _ 0 0 _
                refine x_iflt (tgt := 22) rfl rfl (ti_lt jk_m1 jk_0 (br_t (by omega) ?_))
                refine x_iconst (v := 0) rfl ki_0 ?_
                refine x_zret rfl rfl (by decide) ?_
                show jX m_X7_namedSoul 21 0 0 8 [(0, .ref 78), (1, .int v77)] [.int 0] _ 0 0 _
                refine x_ifeq (tgt := 19) rfl rfl (ti_eq jk_0 jk_0 (br_t (by omega) ?_))
                refine x_iconst (v := (-1)) rfl ki_m1 ?_
                refine x_iret rfl rfl ?_
                show jX m_X6_byParents 22 0 0 76 [(5, .int v75), (4, .int v4), (3, .int v2), (0, .ref 120), (1, .int a1), (2, .int 0)] [.int (-1), .ref 120] _ 0 0 _
                refine x_iload (x := v4) rfl rfl ?_
                refine x_iloadn (x := 0) rfl rfl ?_
                refine x_iconst (v := 1) rfl ki_1 ?_
                refine y_iadd (v := 1) rfl (by decide) ?_
                refine x_inv (N := m_X6_belongs) (As := [.int (-1), .int v4, .int 1]) (b := 120) (st := []) (dx9 := 21) (mc := 0) (ms := 0) (host := "") 6 rfl t_X6_belongs ⟨Or.inl q_6_127, i_X6_belongs.1, i_X6_belongs.2⟩ ⟨by decide, rfl⟩ (congrArg Prod.fst (J.1.1 120 (6, 8) rfl)) rfl (by decide) rfl rfl ⟨by decide, by decide⟩ (sf_X6_belongs_r120_c1 (jr_of jk_m1 (by omega)) (jr_of rfl (by omega)) hD J  (fun v85 h ev85 J S84 => ?_))
                have Sm := jSm_tr rfl Sm S84
                show jX m_X6_byParents 22 0 0 84 [(5, .int v75), (4, .int v4), (3, .int v2), (0, .ref 120), (1, .int a1), (2, .int 0)] [.int v85] _ 0 0 _
                exact jX.sub jsb_n (ct_X6_byParents_r120_c0_84 hD hQ  v85 h (jr_of rfl (by omega)) J Sm)
              ·
                refine x_aloadn (x := 70) rfl rfl ?_
                refine z_getR (N := 9) (b := 76) 5 7 rfl f_5_28 rfl J rfl 8967 ⟨rfl, rfl⟩ rfl ?_
                refine x_iloadn (x := v82) rfl rfl ?_
                refine z_iald (N := 1200) rfl J rfl sg_76_0_1200_1_0_1 rfl (by omega) (fun v86 qv86 ev86 => ?_)
                refine x_goto (tgt := 27) rfl rfl ?_
                refine x_iret rfl rfl ?_
                show jX m_X5_isNamed 20 0 0 15 [(0, .ref 70), (1, .int v77)] [.int v86] _ 0 0 _
                refine x_iflt (tgt := 22) rfl rfl (ti_lt rfl jk_0 ⟨fun c87 => ?_, fun c87 => ?_⟩)
                ·
                  refine x_iconst (v := 0) rfl ki_0 ?_
                  refine x_zret rfl rfl (by decide) ?_
                  show jX m_X7_namedSoul 21 0 0 8 [(0, .ref 78), (1, .int v77)] [.int 0] _ 0 0 _
                  refine x_ifeq (tgt := 19) rfl rfl (ti_eq jk_0 jk_0 (br_t (by omega) ?_))
                  refine x_iconst (v := (-1)) rfl ki_m1 ?_
                  refine x_iret rfl rfl ?_
                  show jX m_X6_byParents 22 0 0 76 [(5, .int v75), (4, .int v4), (3, .int v2), (0, .ref 120), (1, .int a1), (2, .int 0)] [.int (-1), .ref 120] _ 0 0 _
                  refine x_iload (x := v4) rfl rfl ?_
                  refine x_iloadn (x := 0) rfl rfl ?_
                  refine x_iconst (v := 1) rfl ki_1 ?_
                  refine y_iadd (v := 1) rfl (by decide) ?_
                  refine x_inv (N := m_X6_belongs) (As := [.int (-1), .int v4, .int 1]) (b := 120) (st := []) (dx9 := 21) (mc := 0) (ms := 0) (host := "") 6 rfl t_X6_belongs ⟨Or.inl q_6_127, i_X6_belongs.1, i_X6_belongs.2⟩ ⟨by decide, rfl⟩ (congrArg Prod.fst (J.1.1 120 (6, 8) rfl)) rfl (by decide) rfl rfl ⟨by decide, by decide⟩ (sf_X6_belongs_r120_c1 (jr_of jk_m1 (by omega)) (jr_of rfl (by omega)) hD J  (fun v89 h ev89 J S88 => ?_))
                  have Sm := jSm_tr rfl Sm S88
                  show jX m_X6_byParents 22 0 0 84 [(5, .int v75), (4, .int v4), (3, .int v2), (0, .ref 120), (1, .int a1), (2, .int 0)] [.int v89] _ 0 0 _
                  exact jX.sub jsb_n (ct_X6_byParents_r120_c0_84 hD hQ  v89 h (jr_of rfl (by omega)) J Sm)
                ·
                  refine x_iconst (v := 1) rfl ki_1 ?_
                  refine x_goto (tgt := 23) rfl rfl ?_
                  refine x_zret rfl rfl (by decide) ?_
                  show jX m_X7_namedSoul 21 0 0 8 [(0, .ref 78), (1, .int v77)] [.int 1] _ 0 0 _
                  refine x_ifeq (tgt := 19) rfl rfl (ti_eq jk_1 jk_0 (br_f (by omega) ?_))
                  refine x_aloadn (x := 78) rfl rfl ?_
                  refine x_iloadn (x := v77) rfl rfl ?_
                  refine x_inv (N := m_X7_soulAt) (As := [.int v77]) (b := 78) (st := []) (dx9 := 20) (mc := 0) (ms := 0) (host := "") 7 rfl t_X7_soulAt ⟨Or.inl q_7_153, i_X7_soulAt.1, i_X7_soulAt.2⟩ ⟨by decide, rfl⟩ (congrArg Prod.fst (J.1.1 78 (7, 16) rfl)) rfl (by decide) rfl rfl ⟨by decide, by decide⟩ (jC.of rfl k_X7_soulAt rfl ?_)
                  show jX m_X7_soulAt 20 0 0 0 [(0, .ref 78), (1, .int v77)] [] _ 0 0 _
                  refine x_iloadn (x := v77) rfl rfl ?_
                  refine x_iflt (tgt := 36) rfl rfl (ti_lt rfl jk_0 (br_f (by omega) ?_))
                  refine x_iloadn (x := v77) rfl rfl ?_
                  refine x_sipush (v := 600) rfl ks_600 ?_
                  refine x_icge (tgt := 36) rfl rfl (ti_ge rfl jk_600 ⟨fun c90 => ?_, fun c90 => ?_⟩)
                  ·
                    refine x_iconst (v := (-1)) rfl ki_m1 ?_
                    refine x_iret rfl rfl ?_
                    show jX m_X7_namedSoul 21 0 0 16 [(0, .ref 78), (1, .int v77)] [.int (-1)] _ 0 0 _
                    refine x_goto (tgt := 20) rfl rfl ?_
                    refine x_iret rfl rfl ?_
                    show jX m_X6_byParents 22 0 0 76 [(5, .int v75), (4, .int v4), (3, .int v2), (0, .ref 120), (1, .int a1), (2, .int 0)] [.int (-1), .ref 120] _ 0 0 _
                    refine x_iload (x := v4) rfl rfl ?_
                    refine x_iloadn (x := 0) rfl rfl ?_
                    refine x_iconst (v := 1) rfl ki_1 ?_
                    refine y_iadd (v := 1) rfl (by decide) ?_
                    refine x_inv (N := m_X6_belongs) (As := [.int (-1), .int v4, .int 1]) (b := 120) (st := []) (dx9 := 21) (mc := 0) (ms := 0) (host := "") 6 rfl t_X6_belongs ⟨Or.inl q_6_127, i_X6_belongs.1, i_X6_belongs.2⟩ ⟨by decide, rfl⟩ (congrArg Prod.fst (J.1.1 120 (6, 8) rfl)) rfl (by decide) rfl rfl ⟨by decide, by decide⟩ (sf_X6_belongs_r120_c1 (jr_of jk_m1 (by omega)) (jr_of rfl (by omega)) hD J  (fun v92 h ev92 J S91 => ?_))
                    have Sm := jSm_tr rfl Sm S91
                    show jX m_X6_byParents 22 0 0 84 [(5, .int v75), (4, .int v4), (3, .int v2), (0, .ref 120), (1, .int a1), (2, .int 0)] [.int v92] _ 0 0 _
                    exact jX.sub jsb_n (ct_X6_byParents_r120_c0_84 hD hQ  v92 h (jr_of rfl (by omega)) J Sm)
                  ·
                    refine x_iloadn (x := v77) rfl rfl ?_
                    refine x_iconst (v := 3) rfl ki_3 ?_
                    refine z_idiv rfl rfl jk_3 (by omega) (by omega) (fun v93 ev93 => ?_)
                    refine x_aloadn (x := 78) rfl rfl ?_
                    refine z_getR (N := 16) (b := 32) 7 0 rfl f_7_55 rfl J rfl 9984 ⟨rfl, rfl⟩ rfl ?_
                    refine z_getR (N := 20) (b := 33) 1 0 rfl f_7_63 rfl J rfl 4096 ⟨rfl, rfl⟩ rfl ?_
                    refine z_getI (N := 4) 8 3 rfl f_7_85 rfl J rfl sg_33_3_4_1_0_1 (fun v94 qv94 ev94 => ?_)
                    refine x_icge (tgt := 36) rfl rfl (ti_ge rfl rfl ⟨fun c95 => ?_, fun c95 => ?_⟩)
                    ·
                      refine x_iconst (v := (-1)) rfl ki_m1 ?_
                      refine x_iret rfl rfl ?_
                      show jX m_X7_namedSoul 21 0 0 16 [(0, .ref 78), (1, .int v77)] [.int (-1)] _ 0 0 _
                      refine x_goto (tgt := 20) rfl rfl ?_
                      refine x_iret rfl rfl ?_
                      show jX m_X6_byParents 22 0 0 76 [(5, .int v75), (4, .int v4), (3, .int v2), (0, .ref 120), (1, .int a1), (2, .int 0)] [.int (-1), .ref 120] _ 0 0 _
                      refine x_iload (x := v4) rfl rfl ?_
                      refine x_iloadn (x := 0) rfl rfl ?_
                      refine x_iconst (v := 1) rfl ki_1 ?_
                      refine y_iadd (v := 1) rfl (by decide) ?_
                      refine x_inv (N := m_X6_belongs) (As := [.int (-1), .int v4, .int 1]) (b := 120) (st := []) (dx9 := 21) (mc := 0) (ms := 0) (host := "") 6 rfl t_X6_belongs ⟨Or.inl q_6_127, i_X6_belongs.1, i_X6_belongs.2⟩ ⟨by decide, rfl⟩ (congrArg Prod.fst (J.1.1 120 (6, 8) rfl)) rfl (by decide) rfl rfl ⟨by decide, by decide⟩ (sf_X6_belongs_r120_c1 (jr_of jk_m1 (by omega)) (jr_of rfl (by omega)) hD J  (fun v97 h ev97 J S96 => ?_))
                      have Sm := jSm_tr rfl Sm S96
                      show jX m_X6_byParents 22 0 0 84 [(5, .int v75), (4, .int v4), (3, .int v2), (0, .ref 120), (1, .int a1), (2, .int 0)] [.int v97] _ 0 0 _
                      exact jX.sub jsb_n (ct_X6_byParents_r120_c0_84 hD hQ  v97 h (jr_of rfl (by omega)) J Sm)
                    ·
                      refine x_aloadn (x := 78) rfl rfl ?_
                      refine z_getR (N := 16) (b := 82) 7 10 rfl f_7_37 rfl J rfl 9994 ⟨rfl, rfl⟩ rfl ?_
                      refine x_iloadn (x := v77) rfl rfl ?_
                      refine z_iald (N := 600) rfl J rfl sg_82_0_600_1_0_1 rfl (by omega) (fun v98 qv98 ev98 => ?_)
                      refine x_goto (tgt := 37) rfl rfl ?_
                      refine x_iret rfl rfl ?_
                      show jX m_X7_namedSoul 21 0 0 16 [(0, .ref 78), (1, .int v77)] [.int v98] _ 0 0 _
                      refine x_goto (tgt := 20) rfl rfl ?_
                      refine x_iret rfl rfl ?_
                      show jX m_X6_byParents 22 0 0 76 [(5, .int v75), (4, .int v4), (3, .int v2), (0, .ref 120), (1, .int a1), (2, .int 0)] [.int v98, .ref 120] _ 0 0 _
                      refine x_iload (x := v4) rfl rfl ?_
                      refine x_iloadn (x := 0) rfl rfl ?_
                      refine x_iconst (v := 1) rfl ki_1 ?_
                      refine y_iadd (v := 1) rfl (by decide) ?_
                      refine x_inv (N := m_X6_belongs) (As := [.int v98, .int v4, .int 1]) (b := 120) (st := []) (dx9 := 21) (mc := 0) (ms := 0) (host := "") 6 rfl t_X6_belongs ⟨Or.inl q_6_127, i_X6_belongs.1, i_X6_belongs.2⟩ ⟨by decide, rfl⟩ (congrArg Prod.fst (J.1.1 120 (6, 8) rfl)) rfl (by decide) rfl rfl ⟨by decide, by decide⟩ (sf_X6_belongs_r120_c1 (jr_of rfl (by omega)) (jr_of rfl (by omega)) hD J  (fun v100 h ev100 J S99 => ?_))
                      have Sm := jSm_tr rfl Sm S99
                      show jX m_X6_byParents 22 0 0 84 [(5, .int v75), (4, .int v4), (3, .int v2), (0, .ref 120), (1, .int a1), (2, .int 0)] [.int v100] _ 0 0 _
                      exact jX.sub jsb_n (ct_X6_byParents_r120_c0_84 hD hQ  v100 h (jr_of rfl (by omega)) J Sm)
            ·
              refine x_aloadn (x := 70) rfl rfl ?_
              refine z_getR (N := 9) (b := 76) 5 7 rfl f_5_28 rfl J rfl 8967 ⟨rfl, rfl⟩ rfl ?_
              refine x_iloadn (x := v79) rfl rfl ?_
              refine z_iald (N := 1200) rfl J rfl sg_76_0_1200_1_0_1 rfl (by omega) (fun v101 qv101 ev101 => ?_)
              refine x_goto (tgt := 27) rfl rfl ?_
              refine x_iret rfl rfl ?_
              show jX m_X5_isNamed 20 0 0 6 [(0, .ref 70), (1, .int v77)] [.int v101] _ 0 0 _
              refine x_ifge (tgt := 18) rfl rfl (ti_ge rfl jk_0 ⟨fun c102 => ?_, fun c102 => ?_⟩)
              ·
                refine x_iconst (v := 1) rfl ki_1 ?_
                refine x_goto (tgt := 23) rfl rfl ?_
                refine x_zret rfl rfl (by decide) ?_
                show jX m_X7_namedSoul 21 0 0 8 [(0, .ref 78), (1, .int v77)] [.int 1] _ 0 0 _
                refine x_ifeq (tgt := 19) rfl rfl (ti_eq jk_1 jk_0 (br_f (by omega) ?_))
                refine x_aloadn (x := 78) rfl rfl ?_
                refine x_iloadn (x := v77) rfl rfl ?_
                refine x_inv (N := m_X7_soulAt) (As := [.int v77]) (b := 78) (st := []) (dx9 := 20) (mc := 0) (ms := 0) (host := "") 7 rfl t_X7_soulAt ⟨Or.inl q_7_153, i_X7_soulAt.1, i_X7_soulAt.2⟩ ⟨by decide, rfl⟩ (congrArg Prod.fst (J.1.1 78 (7, 16) rfl)) rfl (by decide) rfl rfl ⟨by decide, by decide⟩ (jC.of rfl k_X7_soulAt rfl ?_)
                show jX m_X7_soulAt 20 0 0 0 [(0, .ref 78), (1, .int v77)] [] _ 0 0 _
                refine x_iloadn (x := v77) rfl rfl ?_
                refine x_iflt (tgt := 36) rfl rfl (ti_lt rfl jk_0 (br_f (by omega) ?_))
                refine x_iloadn (x := v77) rfl rfl ?_
                refine x_sipush (v := 600) rfl ks_600 ?_
                refine x_icge (tgt := 36) rfl rfl (ti_ge rfl jk_600 ⟨fun c103 => ?_, fun c103 => ?_⟩)
                ·
                  refine x_iconst (v := (-1)) rfl ki_m1 ?_
                  refine x_iret rfl rfl ?_
                  show jX m_X7_namedSoul 21 0 0 16 [(0, .ref 78), (1, .int v77)] [.int (-1)] _ 0 0 _
                  refine x_goto (tgt := 20) rfl rfl ?_
                  refine x_iret rfl rfl ?_
                  show jX m_X6_byParents 22 0 0 76 [(5, .int v75), (4, .int v4), (3, .int v2), (0, .ref 120), (1, .int a1), (2, .int 0)] [.int (-1), .ref 120] _ 0 0 _
                  refine x_iload (x := v4) rfl rfl ?_
                  refine x_iloadn (x := 0) rfl rfl ?_
                  refine x_iconst (v := 1) rfl ki_1 ?_
                  refine y_iadd (v := 1) rfl (by decide) ?_
                  refine x_inv (N := m_X6_belongs) (As := [.int (-1), .int v4, .int 1]) (b := 120) (st := []) (dx9 := 21) (mc := 0) (ms := 0) (host := "") 6 rfl t_X6_belongs ⟨Or.inl q_6_127, i_X6_belongs.1, i_X6_belongs.2⟩ ⟨by decide, rfl⟩ (congrArg Prod.fst (J.1.1 120 (6, 8) rfl)) rfl (by decide) rfl rfl ⟨by decide, by decide⟩ (sf_X6_belongs_r120_c1 (jr_of jk_m1 (by omega)) (jr_of rfl (by omega)) hD J  (fun v105 h ev105 J S104 => ?_))
                  have Sm := jSm_tr rfl Sm S104
                  show jX m_X6_byParents 22 0 0 84 [(5, .int v75), (4, .int v4), (3, .int v2), (0, .ref 120), (1, .int a1), (2, .int 0)] [.int v105] _ 0 0 _
                  exact jX.sub jsb_n (ct_X6_byParents_r120_c0_84 hD hQ  v105 h (jr_of rfl (by omega)) J Sm)
                ·
                  refine x_iloadn (x := v77) rfl rfl ?_
                  refine x_iconst (v := 3) rfl ki_3 ?_
                  refine z_idiv rfl rfl jk_3 (by omega) (by omega) (fun v106 ev106 => ?_)
                  refine x_aloadn (x := 78) rfl rfl ?_
                  refine z_getR (N := 16) (b := 32) 7 0 rfl f_7_55 rfl J rfl 9984 ⟨rfl, rfl⟩ rfl ?_
                  refine z_getR (N := 20) (b := 33) 1 0 rfl f_7_63 rfl J rfl 4096 ⟨rfl, rfl⟩ rfl ?_
                  refine z_getI (N := 4) 8 3 rfl f_7_85 rfl J rfl sg_33_3_4_1_0_1 (fun v107 qv107 ev107 => ?_)
                  refine x_icge (tgt := 36) rfl rfl (ti_ge rfl rfl ⟨fun c108 => ?_, fun c108 => ?_⟩)
                  ·
                    refine x_iconst (v := (-1)) rfl ki_m1 ?_
                    refine x_iret rfl rfl ?_
                    show jX m_X7_namedSoul 21 0 0 16 [(0, .ref 78), (1, .int v77)] [.int (-1)] _ 0 0 _
                    refine x_goto (tgt := 20) rfl rfl ?_
                    refine x_iret rfl rfl ?_
                    show jX m_X6_byParents 22 0 0 76 [(5, .int v75), (4, .int v4), (3, .int v2), (0, .ref 120), (1, .int a1), (2, .int 0)] [.int (-1), .ref 120] _ 0 0 _
                    refine x_iload (x := v4) rfl rfl ?_
                    refine x_iloadn (x := 0) rfl rfl ?_
                    refine x_iconst (v := 1) rfl ki_1 ?_
                    refine y_iadd (v := 1) rfl (by decide) ?_
                    refine x_inv (N := m_X6_belongs) (As := [.int (-1), .int v4, .int 1]) (b := 120) (st := []) (dx9 := 21) (mc := 0) (ms := 0) (host := "") 6 rfl t_X6_belongs ⟨Or.inl q_6_127, i_X6_belongs.1, i_X6_belongs.2⟩ ⟨by decide, rfl⟩ (congrArg Prod.fst (J.1.1 120 (6, 8) rfl)) rfl (by decide) rfl rfl ⟨by decide, by decide⟩ (sf_X6_belongs_r120_c1 (jr_of jk_m1 (by omega)) (jr_of rfl (by omega)) hD J  (fun v110 h ev110 J S109 => ?_))
                    have Sm := jSm_tr rfl Sm S109
                    show jX m_X6_byParents 22 0 0 84 [(5, .int v75), (4, .int v4), (3, .int v2), (0, .ref 120), (1, .int a1), (2, .int 0)] [.int v110] _ 0 0 _
                    exact jX.sub jsb_n (ct_X6_byParents_r120_c0_84 hD hQ  v110 h (jr_of rfl (by omega)) J Sm)
                  ·
                    refine x_aloadn (x := 78) rfl rfl ?_
                    refine z_getR (N := 16) (b := 82) 7 10 rfl f_7_37 rfl J rfl 9994 ⟨rfl, rfl⟩ rfl ?_
                    refine x_iloadn (x := v77) rfl rfl ?_
                    refine z_iald (N := 600) rfl J rfl sg_82_0_600_1_0_1 rfl (by omega) (fun v111 qv111 ev111 => ?_)
                    refine x_goto (tgt := 37) rfl rfl ?_
                    refine x_iret rfl rfl ?_
                    show jX m_X7_namedSoul 21 0 0 16 [(0, .ref 78), (1, .int v77)] [.int v111] _ 0 0 _
                    refine x_goto (tgt := 20) rfl rfl ?_
                    refine x_iret rfl rfl ?_
                    show jX m_X6_byParents 22 0 0 76 [(5, .int v75), (4, .int v4), (3, .int v2), (0, .ref 120), (1, .int a1), (2, .int 0)] [.int v111, .ref 120] _ 0 0 _
                    refine x_iload (x := v4) rfl rfl ?_
                    refine x_iloadn (x := 0) rfl rfl ?_
                    refine x_iconst (v := 1) rfl ki_1 ?_
                    refine y_iadd (v := 1) rfl (by decide) ?_
                    refine x_inv (N := m_X6_belongs) (As := [.int v111, .int v4, .int 1]) (b := 120) (st := []) (dx9 := 21) (mc := 0) (ms := 0) (host := "") 6 rfl t_X6_belongs ⟨Or.inl q_6_127, i_X6_belongs.1, i_X6_belongs.2⟩ ⟨by decide, rfl⟩ (congrArg Prod.fst (J.1.1 120 (6, 8) rfl)) rfl (by decide) rfl rfl ⟨by decide, by decide⟩ (sf_X6_belongs_r120_c1 (jr_of rfl (by omega)) (jr_of rfl (by omega)) hD J  (fun v113 h ev113 J S112 => ?_))
                    have Sm := jSm_tr rfl Sm S112
                    show jX m_X6_byParents 22 0 0 84 [(5, .int v75), (4, .int v4), (3, .int v2), (0, .ref 120), (1, .int a1), (2, .int 0)] [.int v113] _ 0 0 _
                    exact jX.sub jsb_n (ct_X6_byParents_r120_c0_84 hD hQ  v113 h (jr_of rfl (by omega)) J Sm)
              ·
                refine x_aloadn (x := 70) rfl rfl ?_
                refine x_iloadn (x := v77) rfl rfl ?_
                refine x_iconst (v := 1) rfl ki_1 ?_
                refine x_inv (N := m_X5_lengthOf) (As := [.int v77, .int 1]) (b := 70) (st := []) (dx9 := 19) (mc := 0) (ms := 0) (host := "") 5 rfl t_X5_lengthOf ⟨Or.inl q_5_133, i_X5_lengthOf.1, i_X5_lengthOf.2⟩ ⟨by decide, rfl⟩ (congrArg Prod.fst (J.1.1 70 (5, 9) rfl)) rfl (by decide) rfl rfl ⟨by decide, by decide⟩ (jC.of rfl k_X5_lengthOf rfl ?_)
                show jX m_X5_lengthOf 19 0 0 0 [(0, .ref 70), (1, .int v77), (2, .int 1)] [] _ 0 0 _
                refine x_iloadn (x := v77) rfl rfl ?_
                refine x_iconst (v := 2) rfl ki_2 ?_
                refine z_imul rfl rfl jk_2 (by omega) (fun v114 ev114 => ?_)
                refine x_iloadn (x := 1) rfl rfl ?_
                refine z_iadd rfl rfl jk_1 (by omega) (fun v115 ev115 => ?_)
                refine x_istoren (lsx9 := [(3, .int v115), (0, .ref 70), (1, .int v77), (2, .int 1)]) rfl rfl rfl ?_
                refine x_iloadn (x := v115) rfl rfl ?_
                refine x_iflt (tgt := 26) rfl rfl (ti_lt rfl jk_0 (br_f (by omega) ?_))
                refine x_iloadn (x := v115) rfl rfl ?_
                refine x_sipush (v := 1200) rfl ks_1200 ?_
                refine x_icge (tgt := 26) rfl rfl (ti_ge rfl jk_1200 ⟨fun c116 => ?_, fun c116 => ?_⟩)
                ·
                  refine x_iconst (v := (-1)) rfl ki_m1 ?_
                  refine x_iret rfl rfl ?_
                  show jX m_X5_isNamed 20 0 0 15 [(0, .ref 70), (1, .int v77)] [.int (-1)] _ 0 0 _
                  refine x_iflt (tgt := 22) rfl rfl (ti_lt jk_m1 jk_0 (br_t (by omega) ?_))
                  refine x_iconst (v := 0) rfl ki_0 ?_
                  refine x_zret rfl rfl (by decide) ?_
                  show jX m_X7_namedSoul 21 0 0 8 [(0, .ref 78), (1, .int v77)] [.int 0] _ 0 0 _
                  refine x_ifeq (tgt := 19) rfl rfl (ti_eq jk_0 jk_0 (br_t (by omega) ?_))
                  refine x_iconst (v := (-1)) rfl ki_m1 ?_
                  refine x_iret rfl rfl ?_
                  show jX m_X6_byParents 22 0 0 76 [(5, .int v75), (4, .int v4), (3, .int v2), (0, .ref 120), (1, .int a1), (2, .int 0)] [.int (-1), .ref 120] _ 0 0 _
                  refine x_iload (x := v4) rfl rfl ?_
                  refine x_iloadn (x := 0) rfl rfl ?_
                  refine x_iconst (v := 1) rfl ki_1 ?_
                  refine y_iadd (v := 1) rfl (by decide) ?_
                  refine x_inv (N := m_X6_belongs) (As := [.int (-1), .int v4, .int 1]) (b := 120) (st := []) (dx9 := 21) (mc := 0) (ms := 0) (host := "") 6 rfl t_X6_belongs ⟨Or.inl q_6_127, i_X6_belongs.1, i_X6_belongs.2⟩ ⟨by decide, rfl⟩ (congrArg Prod.fst (J.1.1 120 (6, 8) rfl)) rfl (by decide) rfl rfl ⟨by decide, by decide⟩ (sf_X6_belongs_r120_c1 (jr_of jk_m1 (by omega)) (jr_of rfl (by omega)) hD J  (fun v118 h ev118 J S117 => ?_))
                  have Sm := jSm_tr rfl Sm S117
                  show jX m_X6_byParents 22 0 0 84 [(5, .int v75), (4, .int v4), (3, .int v2), (0, .ref 120), (1, .int a1), (2, .int 0)] [.int v118] _ 0 0 _
                  exact jX.sub jsb_n (ct_X6_byParents_r120_c0_84 hD hQ  v118 h (jr_of rfl (by omega)) J Sm)
                ·
                  refine x_aloadn (x := 70) rfl rfl ?_
                  refine z_getR (N := 9) (b := 76) 5 7 rfl f_5_28 rfl J rfl 8967 ⟨rfl, rfl⟩ rfl ?_
                  refine x_iloadn (x := v115) rfl rfl ?_
                  refine z_iald (N := 1200) rfl J rfl sg_76_0_1200_1_0_1 rfl (by omega) (fun v119 qv119 ev119 => ?_)
                  refine x_goto (tgt := 27) rfl rfl ?_
                  refine x_iret rfl rfl ?_
                  show jX m_X5_isNamed 20 0 0 15 [(0, .ref 70), (1, .int v77)] [.int v119] _ 0 0 _
                  refine x_iflt (tgt := 22) rfl rfl (ti_lt rfl jk_0 ⟨fun c120 => ?_, fun c120 => ?_⟩)
                  ·
                    refine x_iconst (v := 0) rfl ki_0 ?_
                    refine x_zret rfl rfl (by decide) ?_
                    show jX m_X7_namedSoul 21 0 0 8 [(0, .ref 78), (1, .int v77)] [.int 0] _ 0 0 _
                    refine x_ifeq (tgt := 19) rfl rfl (ti_eq jk_0 jk_0 (br_t (by omega) ?_))
                    refine x_iconst (v := (-1)) rfl ki_m1 ?_
                    refine x_iret rfl rfl ?_
                    show jX m_X6_byParents 22 0 0 76 [(5, .int v75), (4, .int v4), (3, .int v2), (0, .ref 120), (1, .int a1), (2, .int 0)] [.int (-1), .ref 120] _ 0 0 _
                    refine x_iload (x := v4) rfl rfl ?_
                    refine x_iloadn (x := 0) rfl rfl ?_
                    refine x_iconst (v := 1) rfl ki_1 ?_
                    refine y_iadd (v := 1) rfl (by decide) ?_
                    refine x_inv (N := m_X6_belongs) (As := [.int (-1), .int v4, .int 1]) (b := 120) (st := []) (dx9 := 21) (mc := 0) (ms := 0) (host := "") 6 rfl t_X6_belongs ⟨Or.inl q_6_127, i_X6_belongs.1, i_X6_belongs.2⟩ ⟨by decide, rfl⟩ (congrArg Prod.fst (J.1.1 120 (6, 8) rfl)) rfl (by decide) rfl rfl ⟨by decide, by decide⟩ (sf_X6_belongs_r120_c1 (jr_of jk_m1 (by omega)) (jr_of rfl (by omega)) hD J  (fun v122 h ev122 J S121 => ?_))
                    have Sm := jSm_tr rfl Sm S121
                    show jX m_X6_byParents 22 0 0 84 [(5, .int v75), (4, .int v4), (3, .int v2), (0, .ref 120), (1, .int a1), (2, .int 0)] [.int v122] _ 0 0 _
                    exact jX.sub jsb_n (ct_X6_byParents_r120_c0_84 hD hQ  v122 h (jr_of rfl (by omega)) J Sm)
                  ·
                    refine x_iconst (v := 1) rfl ki_1 ?_
                    refine x_goto (tgt := 23) rfl rfl ?_
                    refine x_zret rfl rfl (by decide) ?_
                    show jX m_X7_namedSoul 21 0 0 8 [(0, .ref 78), (1, .int v77)] [.int 1] _ 0 0 _
                    refine x_ifeq (tgt := 19) rfl rfl (ti_eq jk_1 jk_0 (br_f (by omega) ?_))
                    refine x_aloadn (x := 78) rfl rfl ?_
                    refine x_iloadn (x := v77) rfl rfl ?_
                    refine x_inv (N := m_X7_soulAt) (As := [.int v77]) (b := 78) (st := []) (dx9 := 20) (mc := 0) (ms := 0) (host := "") 7 rfl t_X7_soulAt ⟨Or.inl q_7_153, i_X7_soulAt.1, i_X7_soulAt.2⟩ ⟨by decide, rfl⟩ (congrArg Prod.fst (J.1.1 78 (7, 16) rfl)) rfl (by decide) rfl rfl ⟨by decide, by decide⟩ (jC.of rfl k_X7_soulAt rfl ?_)
                    show jX m_X7_soulAt 20 0 0 0 [(0, .ref 78), (1, .int v77)] [] _ 0 0 _
                    refine x_iloadn (x := v77) rfl rfl ?_
                    refine x_iflt (tgt := 36) rfl rfl (ti_lt rfl jk_0 (br_f (by omega) ?_))
                    refine x_iloadn (x := v77) rfl rfl ?_
                    refine x_sipush (v := 600) rfl ks_600 ?_
                    refine x_icge (tgt := 36) rfl rfl (ti_ge rfl jk_600 ⟨fun c123 => ?_, fun c123 => ?_⟩)
                    ·
                      refine x_iconst (v := (-1)) rfl ki_m1 ?_
                      refine x_iret rfl rfl ?_
                      show jX m_X7_namedSoul 21 0 0 16 [(0, .ref 78), (1, .int v77)] [.int (-1)] _ 0 0 _
                      refine x_goto (tgt := 20) rfl rfl ?_
                      refine x_iret rfl rfl ?_
                      show jX m_X6_byParents 22 0 0 76 [(5, .int v75), (4, .int v4), (3, .int v2), (0, .ref 120), (1, .int a1), (2, .int 0)] [.int (-1), .ref 120] _ 0 0 _
                      refine x_iload (x := v4) rfl rfl ?_
                      refine x_iloadn (x := 0) rfl rfl ?_
                      refine x_iconst (v := 1) rfl ki_1 ?_
                      refine y_iadd (v := 1) rfl (by decide) ?_
                      refine x_inv (N := m_X6_belongs) (As := [.int (-1), .int v4, .int 1]) (b := 120) (st := []) (dx9 := 21) (mc := 0) (ms := 0) (host := "") 6 rfl t_X6_belongs ⟨Or.inl q_6_127, i_X6_belongs.1, i_X6_belongs.2⟩ ⟨by decide, rfl⟩ (congrArg Prod.fst (J.1.1 120 (6, 8) rfl)) rfl (by decide) rfl rfl ⟨by decide, by decide⟩ (sf_X6_belongs_r120_c1 (jr_of jk_m1 (by omega)) (jr_of rfl (by omega)) hD J  (fun v125 h ev125 J S124 => ?_))
                      have Sm := jSm_tr rfl Sm S124
                      show jX m_X6_byParents 22 0 0 84 [(5, .int v75), (4, .int v4), (3, .int v2), (0, .ref 120), (1, .int a1), (2, .int 0)] [.int v125] _ 0 0 _
                      exact jX.sub jsb_n (ct_X6_byParents_r120_c0_84 hD hQ  v125 h (jr_of rfl (by omega)) J Sm)
                    ·
                      refine x_iloadn (x := v77) rfl rfl ?_
                      refine x_iconst (v := 3) rfl ki_3 ?_
                      refine z_idiv rfl rfl jk_3 (by omega) (by omega) (fun v126 ev126 => ?_)
                      refine x_aloadn (x := 78) rfl rfl ?_
                      refine z_getR (N := 16) (b := 32) 7 0 rfl f_7_55 rfl J rfl 9984 ⟨rfl, rfl⟩ rfl ?_
                      refine z_getR (N := 20) (b := 33) 1 0 rfl f_7_63 rfl J rfl 4096 ⟨rfl, rfl⟩ rfl ?_
                      refine z_getI (N := 4) 8 3 rfl f_7_85 rfl J rfl sg_33_3_4_1_0_1 (fun v127 qv127 ev127 => ?_)
                      refine x_icge (tgt := 36) rfl rfl (ti_ge rfl rfl ⟨fun c128 => ?_, fun c128 => ?_⟩)
                      ·
                        refine x_iconst (v := (-1)) rfl ki_m1 ?_
                        refine x_iret rfl rfl ?_
                        show jX m_X7_namedSoul 21 0 0 16 [(0, .ref 78), (1, .int v77)] [.int (-1)] _ 0 0 _
                        refine x_goto (tgt := 20) rfl rfl ?_
                        refine x_iret rfl rfl ?_
                        show jX m_X6_byParents 22 0 0 76 [(5, .int v75), (4, .int v4), (3, .int v2), (0, .ref 120), (1, .int a1), (2, .int 0)] [.int (-1), .ref 120] _ 0 0 _
                        refine x_iload (x := v4) rfl rfl ?_
                        refine x_iloadn (x := 0) rfl rfl ?_
                        refine x_iconst (v := 1) rfl ki_1 ?_
                        refine y_iadd (v := 1) rfl (by decide) ?_
                        refine x_inv (N := m_X6_belongs) (As := [.int (-1), .int v4, .int 1]) (b := 120) (st := []) (dx9 := 21) (mc := 0) (ms := 0) (host := "") 6 rfl t_X6_belongs ⟨Or.inl q_6_127, i_X6_belongs.1, i_X6_belongs.2⟩ ⟨by decide, rfl⟩ (congrArg Prod.fst (J.1.1 120 (6, 8) rfl)) rfl (by decide) rfl rfl ⟨by decide, by decide⟩ (sf_X6_belongs_r120_c1 (jr_of jk_m1 (by omega)) (jr_of rfl (by omega)) hD J  (fun v130 h ev130 J S129 => ?_))
                        have Sm := jSm_tr rfl Sm S129
                        show jX m_X6_byParents 22 0 0 84 [(5, .int v75), (4, .int v4), (3, .int v2), (0, .ref 120), (1, .int a1), (2, .int 0)] [.int v130] _ 0 0 _
                        exact jX.sub jsb_n (ct_X6_byParents_r120_c0_84 hD hQ  v130 h (jr_of rfl (by omega)) J Sm)
                      ·
                        refine x_aloadn (x := 78) rfl rfl ?_
                        refine z_getR (N := 16) (b := 82) 7 10 rfl f_7_37 rfl J rfl 9994 ⟨rfl, rfl⟩ rfl ?_
                        refine x_iloadn (x := v77) rfl rfl ?_
                        refine z_iald (N := 600) rfl J rfl sg_82_0_600_1_0_1 rfl (by omega) (fun v131 qv131 ev131 => ?_)
                        refine x_goto (tgt := 37) rfl rfl ?_
                        refine x_iret rfl rfl ?_
                        show jX m_X7_namedSoul 21 0 0 16 [(0, .ref 78), (1, .int v77)] [.int v131] _ 0 0 _
                        refine x_goto (tgt := 20) rfl rfl ?_
                        refine x_iret rfl rfl ?_
                        show jX m_X6_byParents 22 0 0 76 [(5, .int v75), (4, .int v4), (3, .int v2), (0, .ref 120), (1, .int a1), (2, .int 0)] [.int v131, .ref 120] _ 0 0 _
                        refine x_iload (x := v4) rfl rfl ?_
                        refine x_iloadn (x := 0) rfl rfl ?_
                        refine x_iconst (v := 1) rfl ki_1 ?_
                        refine y_iadd (v := 1) rfl (by decide) ?_
                        refine x_inv (N := m_X6_belongs) (As := [.int v131, .int v4, .int 1]) (b := 120) (st := []) (dx9 := 21) (mc := 0) (ms := 0) (host := "") 6 rfl t_X6_belongs ⟨Or.inl q_6_127, i_X6_belongs.1, i_X6_belongs.2⟩ ⟨by decide, rfl⟩ (congrArg Prod.fst (J.1.1 120 (6, 8) rfl)) rfl (by decide) rfl rfl ⟨by decide, by decide⟩ (sf_X6_belongs_r120_c1 (jr_of rfl (by omega)) (jr_of rfl (by omega)) hD J  (fun v133 h ev133 J S132 => ?_))
                        have Sm := jSm_tr rfl Sm S132
                        show jX m_X6_byParents 22 0 0 84 [(5, .int v75), (4, .int v4), (3, .int v2), (0, .ref 120), (1, .int a1), (2, .int 0)] [.int v133] _ 0 0 _
                        exact jX.sub jsb_n (ct_X6_byParents_r120_c0_84 hD hQ  v133 h (jr_of rfl (by omega)) J Sm)
          ·
            refine x_iload (x := v75) rfl rfl ?_
            refine x_goto (tgt := 84) rfl rfl ?_
            exact jX.sub jsb_n (ct_X6_byParents_r120_c0_84 hD hQ  v75 h (jr_of rfl (by omega)) J Sm)
        ·
          refine x_iconst (v := 1) rfl ki_1 ?_
          refine x_goto (tgt := 23) rfl rfl ?_
          refine x_zret rfl rfl (by decide) ?_
          show jX m_X7_namedSoul 21 0 0 8 [(0, .ref 78), (1, .int v5)] [.int 1] _ 0 0 _
          refine x_ifeq (tgt := 19) rfl rfl (ti_eq jk_1 jk_0 (br_f (by omega) ?_))
          refine x_aloadn (x := 78) rfl rfl ?_
          refine x_iloadn (x := v5) rfl rfl ?_
          refine x_inv (N := m_X7_soulAt) (As := [.int v5]) (b := 78) (st := []) (dx9 := 20) (mc := 0) (ms := 0) (host := "") 7 rfl t_X7_soulAt ⟨Or.inl q_7_153, i_X7_soulAt.1, i_X7_soulAt.2⟩ ⟨by decide, rfl⟩ (congrArg Prod.fst (J.1.1 78 (7, 16) rfl)) rfl (by decide) rfl rfl ⟨by decide, by decide⟩ (jC.of rfl k_X7_soulAt rfl ?_)
          show jX m_X7_soulAt 20 0 0 0 [(0, .ref 78), (1, .int v5)] [] _ 0 0 _
          refine x_iloadn (x := v5) rfl rfl ?_
          refine x_iflt (tgt := 36) rfl rfl (ti_lt rfl jk_0 (br_f (by omega) ?_))
          refine x_iloadn (x := v5) rfl rfl ?_
          refine x_sipush (v := 600) rfl ks_600 ?_
          refine x_icge (tgt := 36) rfl rfl (ti_ge rfl jk_600 ⟨fun c134 => ?_, fun c134 => ?_⟩)
          ·
            refine x_iconst (v := (-1)) rfl ki_m1 ?_
            refine x_iret rfl rfl ?_
            show jX m_X7_namedSoul 21 0 0 16 [(0, .ref 78), (1, .int v5)] [.int (-1)] _ 0 0 _
            refine x_goto (tgt := 20) rfl rfl ?_
            refine x_iret rfl rfl ?_
            show jX m_X6_byParents 22 0 0 44 [(4, .int v4), (3, .int v2), (0, .ref 120), (1, .int a1), (2, .int 0)] [.int (-1), .ref 120] _ 0 0 _
            refine x_iload (x := v4) rfl rfl ?_
            refine x_iloadn (x := 0) rfl rfl ?_
            refine x_iconst (v := 1) rfl ki_1 ?_
            refine y_iadd (v := 1) rfl (by decide) ?_
            refine x_inv (N := m_X6_belongs) (As := [.int (-1), .int v4, .int 1]) (b := 120) (st := []) (dx9 := 21) (mc := 0) (ms := 0) (host := "") 6 rfl t_X6_belongs ⟨Or.inl q_6_127, i_X6_belongs.1, i_X6_belongs.2⟩ ⟨by decide, rfl⟩ (congrArg Prod.fst (J.1.1 120 (6, 8) rfl)) rfl (by decide) rfl rfl ⟨by decide, by decide⟩ (sf_X6_belongs_r120_c1 (jr_of jk_m1 (by omega)) (jr_of rfl (by omega)) hD J  (fun v136 h ev136 J S135 => ?_))
            have Sm := jSm_tr rfl Sm S135
            show jX m_X6_byParents 22 0 0 52 [(4, .int v4), (3, .int v2), (0, .ref 120), (1, .int a1), (2, .int 0)] [.int v136] _ 0 0 _
            refine x_istore (lsx9 := [(5, .int v136), (4, .int v4), (3, .int v2), (0, .ref 120), (1, .int a1), (2, .int 0)]) rfl rfl rfl ?_
            refine x_iload (x := v136) rfl rfl ?_
            refine x_iconst (v := (-1)) rfl ki_m1 ?_
            refine x_iceq (tgt := 65) rfl rfl (ti_eq rfl jk_m1 ⟨fun c137 => ?_, fun c137 => ?_⟩)
            ·
              refine x_aloadn (x := 120) rfl rfl ?_
              refine x_aloadn (x := 120) rfl rfl ?_
              refine z_getR (N := 8) (b := 78) 6 1 rfl f_6_32 rfl J rfl 15361 ⟨rfl, rfl⟩ rfl ?_
              refine x_iloadn (x := v2) rfl rfl ?_
              refine x_iconst (v := 2) rfl ki_2 ?_
              refine z_iadd rfl rfl jk_2 (by omega) (fun v138 ev138 => ?_)
              refine x_inv (N := m_X7_namedSoul) (As := [.int v138]) (b := 78) (st := [.ref 120]) (dx9 := 21) (mc := 0) (ms := 0) (host := "") 7 rfl t_X7_namedSoul ⟨Or.inl q_6_124, i_X7_namedSoul.1, i_X7_namedSoul.2⟩ ⟨by decide, rfl⟩ (congrArg Prod.fst (J.1.1 78 (7, 16) rfl)) rfl (by decide) rfl rfl ⟨by decide, by decide⟩ (jC.of rfl k_X7_namedSoul rfl ?_)
              show jX m_X7_namedSoul 21 0 0 0 [(0, .ref 78), (1, .int v138)] [] _ 0 0 _
              refine x_aloadn (x := 78) rfl rfl ?_
              refine z_getR (N := 16) (b := 70) 7 1 rfl f_7_59 rfl J rfl 9985 ⟨rfl, rfl⟩ rfl ?_
              refine x_iloadn (x := v138) rfl rfl ?_
              refine x_inv (N := m_X5_isNamed) (As := [.int v138]) (b := 70) (st := []) (dx9 := 20) (mc := 0) (ms := 0) (host := "") 5 rfl t_X5_isNamed ⟨Or.inl q_7_173, i_X5_isNamed.1, i_X5_isNamed.2⟩ ⟨by decide, rfl⟩ (congrArg Prod.fst (J.1.1 70 (5, 9) rfl)) rfl (by decide) rfl rfl ⟨by decide, by decide⟩ (jC.of rfl k_X5_isNamed rfl ?_)
              show jX m_X5_isNamed 20 0 0 0 [(0, .ref 70), (1, .int v138)] [] _ 0 0 _
              refine x_aloadn (x := 70) rfl rfl ?_
              refine x_iloadn (x := v138) rfl rfl ?_
              refine x_iconst (v := 0) rfl ki_0 ?_
              refine x_inv (N := m_X5_lengthOf) (As := [.int v138, .int 0]) (b := 70) (st := []) (dx9 := 19) (mc := 0) (ms := 0) (host := "") 5 rfl t_X5_lengthOf ⟨Or.inl q_5_133, i_X5_lengthOf.1, i_X5_lengthOf.2⟩ ⟨by decide, rfl⟩ (congrArg Prod.fst (J.1.1 70 (5, 9) rfl)) rfl (by decide) rfl rfl ⟨by decide, by decide⟩ (jC.of rfl k_X5_lengthOf rfl ?_)
              show jX m_X5_lengthOf 19 0 0 0 [(0, .ref 70), (1, .int v138), (2, .int 0)] [] _ 0 0 _
              refine x_iloadn (x := v138) rfl rfl ?_
              refine x_iconst (v := 2) rfl ki_2 ?_
              refine z_imul rfl rfl jk_2 (by omega) (fun v139 ev139 => ?_)
              refine x_iloadn (x := 0) rfl rfl ?_
              refine z_iadd rfl rfl jk_0 (by omega) (fun v140 ev140 => ?_)
              refine x_istoren (lsx9 := [(3, .int v140), (0, .ref 70), (1, .int v138), (2, .int 0)]) rfl rfl rfl ?_
              refine x_iloadn (x := v140) rfl rfl ?_
              refine x_iflt (tgt := 26) rfl rfl (ti_lt rfl jk_0 (br_f (by omega) ?_))
              refine x_iloadn (x := v140) rfl rfl ?_
              refine x_sipush (v := 1200) rfl ks_1200 ?_
              refine x_icge (tgt := 26) rfl rfl (ti_ge rfl jk_1200 (br_t (by omega) ?_))
              refine x_iconst (v := (-1)) rfl ki_m1 ?_
              refine x_iret rfl rfl ?_
              show jX m_X5_isNamed 20 0 0 6 [(0, .ref 70), (1, .int v138)] [.int (-1)] _ 0 0 _
              refine x_ifge (tgt := 18) rfl rfl (ti_ge jk_m1 jk_0 (br_f (by omega) ?_))
              refine x_aloadn (x := 70) rfl rfl ?_
              refine x_iloadn (x := v138) rfl rfl ?_
              refine x_iconst (v := 1) rfl ki_1 ?_
              refine x_inv (N := m_X5_lengthOf) (As := [.int v138, .int 1]) (b := 70) (st := []) (dx9 := 19) (mc := 0) (ms := 0) (host := "") 5 rfl t_X5_lengthOf ⟨Or.inl q_5_133, i_X5_lengthOf.1, i_X5_lengthOf.2⟩ ⟨by decide, rfl⟩ (congrArg Prod.fst (J.1.1 70 (5, 9) rfl)) rfl (by decide) rfl rfl ⟨by decide, by decide⟩ (jC.of rfl k_X5_lengthOf rfl ?_)
              show jX m_X5_lengthOf 19 0 0 0 [(0, .ref 70), (1, .int v138), (2, .int 1)] [] _ 0 0 _
              refine x_iloadn (x := v138) rfl rfl ?_
              refine x_iconst (v := 2) rfl ki_2 ?_
              refine z_imul rfl rfl jk_2 (by omega) (fun v141 ev141 => ?_)
              refine x_iloadn (x := 1) rfl rfl ?_
              refine z_iadd rfl rfl jk_1 (by omega) (fun v142 ev142 => ?_)
              refine x_istoren (lsx9 := [(3, .int v142), (0, .ref 70), (1, .int v138), (2, .int 1)]) rfl rfl rfl ?_
              refine x_iloadn (x := v142) rfl rfl ?_
              refine x_iflt (tgt := 26) rfl rfl (ti_lt rfl jk_0 (br_f (by omega) ?_))
              refine x_iloadn (x := v142) rfl rfl ?_
              refine x_sipush (v := 1200) rfl ks_1200 ?_
              refine x_icge (tgt := 26) rfl rfl (ti_ge rfl jk_1200 (br_t (by omega) ?_))
              refine x_iconst (v := (-1)) rfl ki_m1 ?_
              refine x_iret rfl rfl ?_
              show jX m_X5_isNamed 20 0 0 15 [(0, .ref 70), (1, .int v138)] [.int (-1)] _ 0 0 _
              refine x_iflt (tgt := 22) rfl rfl (ti_lt jk_m1 jk_0 (br_t (by omega) ?_))
              refine x_iconst (v := 0) rfl ki_0 ?_
              refine x_zret rfl rfl (by decide) ?_
              show jX m_X7_namedSoul 21 0 0 8 [(0, .ref 78), (1, .int v138)] [.int 0] _ 0 0 _
              refine x_ifeq (tgt := 19) rfl rfl (ti_eq jk_0 jk_0 (br_t (by omega) ?_))
              refine x_iconst (v := (-1)) rfl ki_m1 ?_
              refine x_iret rfl rfl ?_
              show jX m_X6_byParents 22 0 0 76 [(5, .int v136), (4, .int v4), (3, .int v2), (0, .ref 120), (1, .int a1), (2, .int 0)] [.int (-1), .ref 120] _ 0 0 _
              refine x_iload (x := v4) rfl rfl ?_
              refine x_iloadn (x := 0) rfl rfl ?_
              refine x_iconst (v := 1) rfl ki_1 ?_
              refine y_iadd (v := 1) rfl (by decide) ?_
              refine x_inv (N := m_X6_belongs) (As := [.int (-1), .int v4, .int 1]) (b := 120) (st := []) (dx9 := 21) (mc := 0) (ms := 0) (host := "") 6 rfl t_X6_belongs ⟨Or.inl q_6_127, i_X6_belongs.1, i_X6_belongs.2⟩ ⟨by decide, rfl⟩ (congrArg Prod.fst (J.1.1 120 (6, 8) rfl)) rfl (by decide) rfl rfl ⟨by decide, by decide⟩ (sf_X6_belongs_r120_c1 (jr_of jk_m1 (by omega)) (jr_of rfl (by omega)) hD J  (fun v144 h ev144 J S143 => ?_))
              have Sm := jSm_tr rfl Sm S143
              show jX m_X6_byParents 22 0 0 84 [(5, .int v136), (4, .int v4), (3, .int v2), (0, .ref 120), (1, .int a1), (2, .int 0)] [.int v144] _ 0 0 _
              exact jX.sub jsb_n (ct_X6_byParents_r120_c0_84 hD hQ  v144 h (jr_of rfl (by omega)) J Sm)
            ·
              refine x_iload (x := v136) rfl rfl ?_
              refine x_goto (tgt := 84) rfl rfl ?_
              exact jX.sub jsb_n (ct_X6_byParents_r120_c0_84 hD hQ  v136 h (jr_of rfl (by omega)) J Sm)
          ·
            refine x_iloadn (x := v5) rfl rfl ?_
            refine x_iconst (v := 3) rfl ki_3 ?_
            refine z_idiv rfl rfl jk_3 (by omega) (by omega) (fun v145 ev145 => ?_)
            refine x_aloadn (x := 78) rfl rfl ?_
            refine z_getR (N := 16) (b := 32) 7 0 rfl f_7_55 rfl J rfl 9984 ⟨rfl, rfl⟩ rfl ?_
            refine z_getR (N := 20) (b := 33) 1 0 rfl f_7_63 rfl J rfl 4096 ⟨rfl, rfl⟩ rfl ?_
            refine z_getI (N := 4) 8 3 rfl f_7_85 rfl J rfl sg_33_3_4_1_0_1 (fun v146 qv146 ev146 => ?_)
            refine x_icge (tgt := 36) rfl rfl (ti_ge rfl rfl ⟨fun c147 => ?_, fun c147 => ?_⟩)
            ·
              refine x_iconst (v := (-1)) rfl ki_m1 ?_
              refine x_iret rfl rfl ?_
              show jX m_X7_namedSoul 21 0 0 16 [(0, .ref 78), (1, .int v5)] [.int (-1)] _ 0 0 _
              refine x_goto (tgt := 20) rfl rfl ?_
              refine x_iret rfl rfl ?_
              show jX m_X6_byParents 22 0 0 44 [(4, .int v4), (3, .int v2), (0, .ref 120), (1, .int a1), (2, .int 0)] [.int (-1), .ref 120] _ 0 0 _
              refine x_iload (x := v4) rfl rfl ?_
              refine x_iloadn (x := 0) rfl rfl ?_
              refine x_iconst (v := 1) rfl ki_1 ?_
              refine y_iadd (v := 1) rfl (by decide) ?_
              refine x_inv (N := m_X6_belongs) (As := [.int (-1), .int v4, .int 1]) (b := 120) (st := []) (dx9 := 21) (mc := 0) (ms := 0) (host := "") 6 rfl t_X6_belongs ⟨Or.inl q_6_127, i_X6_belongs.1, i_X6_belongs.2⟩ ⟨by decide, rfl⟩ (congrArg Prod.fst (J.1.1 120 (6, 8) rfl)) rfl (by decide) rfl rfl ⟨by decide, by decide⟩ (sf_X6_belongs_r120_c1 (jr_of jk_m1 (by omega)) (jr_of rfl (by omega)) hD J  (fun v149 h ev149 J S148 => ?_))
              have Sm := jSm_tr rfl Sm S148
              show jX m_X6_byParents 22 0 0 52 [(4, .int v4), (3, .int v2), (0, .ref 120), (1, .int a1), (2, .int 0)] [.int v149] _ 0 0 _
              refine x_istore (lsx9 := [(5, .int v149), (4, .int v4), (3, .int v2), (0, .ref 120), (1, .int a1), (2, .int 0)]) rfl rfl rfl ?_
              refine x_iload (x := v149) rfl rfl ?_
              refine x_iconst (v := (-1)) rfl ki_m1 ?_
              refine x_iceq (tgt := 65) rfl rfl (ti_eq rfl jk_m1 ⟨fun c150 => ?_, fun c150 => ?_⟩)
              ·
                refine x_aloadn (x := 120) rfl rfl ?_
                refine x_aloadn (x := 120) rfl rfl ?_
                refine z_getR (N := 8) (b := 78) 6 1 rfl f_6_32 rfl J rfl 15361 ⟨rfl, rfl⟩ rfl ?_
                refine x_iloadn (x := v2) rfl rfl ?_
                refine x_iconst (v := 2) rfl ki_2 ?_
                refine z_iadd rfl rfl jk_2 (by omega) (fun v151 ev151 => ?_)
                refine x_inv (N := m_X7_namedSoul) (As := [.int v151]) (b := 78) (st := [.ref 120]) (dx9 := 21) (mc := 0) (ms := 0) (host := "") 7 rfl t_X7_namedSoul ⟨Or.inl q_6_124, i_X7_namedSoul.1, i_X7_namedSoul.2⟩ ⟨by decide, rfl⟩ (congrArg Prod.fst (J.1.1 78 (7, 16) rfl)) rfl (by decide) rfl rfl ⟨by decide, by decide⟩ (jC.of rfl k_X7_namedSoul rfl ?_)
                show jX m_X7_namedSoul 21 0 0 0 [(0, .ref 78), (1, .int v151)] [] _ 0 0 _
                refine x_aloadn (x := 78) rfl rfl ?_
                refine z_getR (N := 16) (b := 70) 7 1 rfl f_7_59 rfl J rfl 9985 ⟨rfl, rfl⟩ rfl ?_
                refine x_iloadn (x := v151) rfl rfl ?_
                refine x_inv (N := m_X5_isNamed) (As := [.int v151]) (b := 70) (st := []) (dx9 := 20) (mc := 0) (ms := 0) (host := "") 5 rfl t_X5_isNamed ⟨Or.inl q_7_173, i_X5_isNamed.1, i_X5_isNamed.2⟩ ⟨by decide, rfl⟩ (congrArg Prod.fst (J.1.1 70 (5, 9) rfl)) rfl (by decide) rfl rfl ⟨by decide, by decide⟩ (jC.of rfl k_X5_isNamed rfl ?_)
                show jX m_X5_isNamed 20 0 0 0 [(0, .ref 70), (1, .int v151)] [] _ 0 0 _
                refine x_aloadn (x := 70) rfl rfl ?_
                refine x_iloadn (x := v151) rfl rfl ?_
                refine x_iconst (v := 0) rfl ki_0 ?_
                refine x_inv (N := m_X5_lengthOf) (As := [.int v151, .int 0]) (b := 70) (st := []) (dx9 := 19) (mc := 0) (ms := 0) (host := "") 5 rfl t_X5_lengthOf ⟨Or.inl q_5_133, i_X5_lengthOf.1, i_X5_lengthOf.2⟩ ⟨by decide, rfl⟩ (congrArg Prod.fst (J.1.1 70 (5, 9) rfl)) rfl (by decide) rfl rfl ⟨by decide, by decide⟩ (jC.of rfl k_X5_lengthOf rfl ?_)
                show jX m_X5_lengthOf 19 0 0 0 [(0, .ref 70), (1, .int v151), (2, .int 0)] [] _ 0 0 _
                refine x_iloadn (x := v151) rfl rfl ?_
                refine x_iconst (v := 2) rfl ki_2 ?_
                refine z_imul rfl rfl jk_2 (by omega) (fun v152 ev152 => ?_)
                refine x_iloadn (x := 0) rfl rfl ?_
                refine z_iadd rfl rfl jk_0 (by omega) (fun v153 ev153 => ?_)
                refine x_istoren (lsx9 := [(3, .int v153), (0, .ref 70), (1, .int v151), (2, .int 0)]) rfl rfl rfl ?_
                refine x_iloadn (x := v153) rfl rfl ?_
                refine x_iflt (tgt := 26) rfl rfl (ti_lt rfl jk_0 (br_f (by omega) ?_))
                refine x_iloadn (x := v153) rfl rfl ?_
                refine x_sipush (v := 1200) rfl ks_1200 ?_
                refine x_icge (tgt := 26) rfl rfl (ti_ge rfl jk_1200 ⟨fun c154 => ?_, fun c154 => ?_⟩)
                ·
                  refine x_iconst (v := (-1)) rfl ki_m1 ?_
                  refine x_iret rfl rfl ?_
                  show jX m_X5_isNamed 20 0 0 6 [(0, .ref 70), (1, .int v151)] [.int (-1)] _ 0 0 _
                  refine x_ifge (tgt := 18) rfl rfl (ti_ge jk_m1 jk_0 (br_f (by omega) ?_))
                  refine x_aloadn (x := 70) rfl rfl ?_
                  refine x_iloadn (x := v151) rfl rfl ?_
                  refine x_iconst (v := 1) rfl ki_1 ?_
                  refine x_inv (N := m_X5_lengthOf) (As := [.int v151, .int 1]) (b := 70) (st := []) (dx9 := 19) (mc := 0) (ms := 0) (host := "") 5 rfl t_X5_lengthOf ⟨Or.inl q_5_133, i_X5_lengthOf.1, i_X5_lengthOf.2⟩ ⟨by decide, rfl⟩ (congrArg Prod.fst (J.1.1 70 (5, 9) rfl)) rfl (by decide) rfl rfl ⟨by decide, by decide⟩ (jC.of rfl k_X5_lengthOf rfl ?_)
                  show jX m_X5_lengthOf 19 0 0 0 [(0, .ref 70), (1, .int v151), (2, .int 1)] [] _ 0 0 _
                  refine x_iloadn (x := v151) rfl rfl ?_
                  refine x_iconst (v := 2) rfl ki_2 ?_
                  refine z_imul rfl rfl jk_2 (by omega) (fun v155 ev155 => ?_)
                  refine x_iloadn (x := 1) rfl rfl ?_
                  refine z_iadd rfl rfl jk_1 (by omega) (fun v156 ev156 => ?_)
                  refine x_istoren (lsx9 := [(3, .int v156), (0, .ref 70), (1, .int v151), (2, .int 1)]) rfl rfl rfl ?_
                  refine x_iloadn (x := v156) rfl rfl ?_
                  refine x_iflt (tgt := 26) rfl rfl (ti_lt rfl jk_0 (br_f (by omega) ?_))
                  refine x_iloadn (x := v156) rfl rfl ?_
                  refine x_sipush (v := 1200) rfl ks_1200 ?_
                  refine x_icge (tgt := 26) rfl rfl (ti_ge rfl jk_1200 ⟨fun c157 => ?_, fun c157 => ?_⟩)
                  ·
                    refine x_iconst (v := (-1)) rfl ki_m1 ?_
                    refine x_iret rfl rfl ?_
                    show jX m_X5_isNamed 20 0 0 15 [(0, .ref 70), (1, .int v151)] [.int (-1)] _ 0 0 _
                    refine x_iflt (tgt := 22) rfl rfl (ti_lt jk_m1 jk_0 (br_t (by omega) ?_))
                    refine x_iconst (v := 0) rfl ki_0 ?_
                    refine x_zret rfl rfl (by decide) ?_
                    show jX m_X7_namedSoul 21 0 0 8 [(0, .ref 78), (1, .int v151)] [.int 0] _ 0 0 _
                    refine x_ifeq (tgt := 19) rfl rfl (ti_eq jk_0 jk_0 (br_t (by omega) ?_))
                    refine x_iconst (v := (-1)) rfl ki_m1 ?_
                    refine x_iret rfl rfl ?_
                    show jX m_X6_byParents 22 0 0 76 [(5, .int v149), (4, .int v4), (3, .int v2), (0, .ref 120), (1, .int a1), (2, .int 0)] [.int (-1), .ref 120] _ 0 0 _
                    refine x_iload (x := v4) rfl rfl ?_
                    refine x_iloadn (x := 0) rfl rfl ?_
                    refine x_iconst (v := 1) rfl ki_1 ?_
                    refine y_iadd (v := 1) rfl (by decide) ?_
                    refine x_inv (N := m_X6_belongs) (As := [.int (-1), .int v4, .int 1]) (b := 120) (st := []) (dx9 := 21) (mc := 0) (ms := 0) (host := "") 6 rfl t_X6_belongs ⟨Or.inl q_6_127, i_X6_belongs.1, i_X6_belongs.2⟩ ⟨by decide, rfl⟩ (congrArg Prod.fst (J.1.1 120 (6, 8) rfl)) rfl (by decide) rfl rfl ⟨by decide, by decide⟩ (sf_X6_belongs_r120_c1 (jr_of jk_m1 (by omega)) (jr_of rfl (by omega)) hD J  (fun v159 h ev159 J S158 => ?_))
                    have Sm := jSm_tr rfl Sm S158
                    show jX m_X6_byParents 22 0 0 84 [(5, .int v149), (4, .int v4), (3, .int v2), (0, .ref 120), (1, .int a1), (2, .int 0)] [.int v159] _ 0 0 _
                    exact jX.sub jsb_n (ct_X6_byParents_r120_c0_84 hD hQ  v159 h (jr_of rfl (by omega)) J Sm)
                  ·
                    refine x_aloadn (x := 70) rfl rfl ?_
                    refine z_getR (N := 9) (b := 76) 5 7 rfl f_5_28 rfl J rfl 8967 ⟨rfl, rfl⟩ rfl ?_
                    refine x_iloadn (x := v156) rfl rfl ?_
                    refine z_iald (N := 1200) rfl J rfl sg_76_0_1200_1_0_1 rfl (by omega) (fun v160 qv160 ev160 => ?_)
                    refine x_goto (tgt := 27) rfl rfl ?_
                    refine x_iret rfl rfl ?_
                    show jX m_X5_isNamed 20 0 0 15 [(0, .ref 70), (1, .int v151)] [.int v160] _ 0 0 _
                    refine x_iflt (tgt := 22) rfl rfl (ti_lt rfl jk_0 ⟨fun c161 => ?_, fun c161 => ?_⟩)
                    ·
                      refine x_iconst (v := 0) rfl ki_0 ?_
                      refine x_zret rfl rfl (by decide) ?_
                      show jX m_X7_namedSoul 21 0 0 8 [(0, .ref 78), (1, .int v151)] [.int 0] _ 0 0 _
                      refine x_ifeq (tgt := 19) rfl rfl (ti_eq jk_0 jk_0 (br_t (by omega) ?_))
                      refine x_iconst (v := (-1)) rfl ki_m1 ?_
                      refine x_iret rfl rfl ?_
                      show jX m_X6_byParents 22 0 0 76 [(5, .int v149), (4, .int v4), (3, .int v2), (0, .ref 120), (1, .int a1), (2, .int 0)] [.int (-1), .ref 120] _ 0 0 _
                      refine x_iload (x := v4) rfl rfl ?_
                      refine x_iloadn (x := 0) rfl rfl ?_
                      refine x_iconst (v := 1) rfl ki_1 ?_
                      refine y_iadd (v := 1) rfl (by decide) ?_
                      refine x_inv (N := m_X6_belongs) (As := [.int (-1), .int v4, .int 1]) (b := 120) (st := []) (dx9 := 21) (mc := 0) (ms := 0) (host := "") 6 rfl t_X6_belongs ⟨Or.inl q_6_127, i_X6_belongs.1, i_X6_belongs.2⟩ ⟨by decide, rfl⟩ (congrArg Prod.fst (J.1.1 120 (6, 8) rfl)) rfl (by decide) rfl rfl ⟨by decide, by decide⟩ (sf_X6_belongs_r120_c1 (jr_of jk_m1 (by omega)) (jr_of rfl (by omega)) hD J  (fun v163 h ev163 J S162 => ?_))
                      have Sm := jSm_tr rfl Sm S162
                      show jX m_X6_byParents 22 0 0 84 [(5, .int v149), (4, .int v4), (3, .int v2), (0, .ref 120), (1, .int a1), (2, .int 0)] [.int v163] _ 0 0 _
                      exact jX.sub jsb_n (ct_X6_byParents_r120_c0_84 hD hQ  v163 h (jr_of rfl (by omega)) J Sm)
                    ·
                      refine x_iconst (v := 1) rfl ki_1 ?_
                      refine x_goto (tgt := 23) rfl rfl ?_
                      refine x_zret rfl rfl (by decide) ?_
                      show jX m_X7_namedSoul 21 0 0 8 [(0, .ref 78), (1, .int v151)] [.int 1] _ 0 0 _
                      refine x_ifeq (tgt := 19) rfl rfl (ti_eq jk_1 jk_0 (br_f (by omega) ?_))
                      refine x_aloadn (x := 78) rfl rfl ?_
                      refine x_iloadn (x := v151) rfl rfl ?_
                      refine x_inv (N := m_X7_soulAt) (As := [.int v151]) (b := 78) (st := []) (dx9 := 20) (mc := 0) (ms := 0) (host := "") 7 rfl t_X7_soulAt ⟨Or.inl q_7_153, i_X7_soulAt.1, i_X7_soulAt.2⟩ ⟨by decide, rfl⟩ (congrArg Prod.fst (J.1.1 78 (7, 16) rfl)) rfl (by decide) rfl rfl ⟨by decide, by decide⟩ (jC.of rfl k_X7_soulAt rfl ?_)
                      show jX m_X7_soulAt 20 0 0 0 [(0, .ref 78), (1, .int v151)] [] _ 0 0 _
                      refine x_iloadn (x := v151) rfl rfl ?_
                      refine x_iflt (tgt := 36) rfl rfl (ti_lt rfl jk_0 (br_f (by omega) ?_))
                      refine x_iloadn (x := v151) rfl rfl ?_
                      refine x_sipush (v := 600) rfl ks_600 ?_
                      refine x_icge (tgt := 36) rfl rfl (ti_ge rfl jk_600 ⟨fun c164 => ?_, fun c164 => ?_⟩)
                      ·
                        refine x_iconst (v := (-1)) rfl ki_m1 ?_
                        refine x_iret rfl rfl ?_
                        show jX m_X7_namedSoul 21 0 0 16 [(0, .ref 78), (1, .int v151)] [.int (-1)] _ 0 0 _
                        refine x_goto (tgt := 20) rfl rfl ?_
                        refine x_iret rfl rfl ?_
                        show jX m_X6_byParents 22 0 0 76 [(5, .int v149), (4, .int v4), (3, .int v2), (0, .ref 120), (1, .int a1), (2, .int 0)] [.int (-1), .ref 120] _ 0 0 _
                        refine x_iload (x := v4) rfl rfl ?_
                        refine x_iloadn (x := 0) rfl rfl ?_
                        refine x_iconst (v := 1) rfl ki_1 ?_
                        refine y_iadd (v := 1) rfl (by decide) ?_
                        refine x_inv (N := m_X6_belongs) (As := [.int (-1), .int v4, .int 1]) (b := 120) (st := []) (dx9 := 21) (mc := 0) (ms := 0) (host := "") 6 rfl t_X6_belongs ⟨Or.inl q_6_127, i_X6_belongs.1, i_X6_belongs.2⟩ ⟨by decide, rfl⟩ (congrArg Prod.fst (J.1.1 120 (6, 8) rfl)) rfl (by decide) rfl rfl ⟨by decide, by decide⟩ (sf_X6_belongs_r120_c1 (jr_of jk_m1 (by omega)) (jr_of rfl (by omega)) hD J  (fun v166 h ev166 J S165 => ?_))
                        have Sm := jSm_tr rfl Sm S165
                        show jX m_X6_byParents 22 0 0 84 [(5, .int v149), (4, .int v4), (3, .int v2), (0, .ref 120), (1, .int a1), (2, .int 0)] [.int v166] _ 0 0 _
                        exact jX.sub jsb_n (ct_X6_byParents_r120_c0_84 hD hQ  v166 h (jr_of rfl (by omega)) J Sm)
                      ·
                        refine x_iloadn (x := v151) rfl rfl ?_
                        refine x_iconst (v := 3) rfl ki_3 ?_
                        refine z_idiv rfl rfl jk_3 (by omega) (by omega) (fun v167 ev167 => ?_)
                        refine x_aloadn (x := 78) rfl rfl ?_
                        refine z_getR (N := 16) (b := 32) 7 0 rfl f_7_55 rfl J rfl 9984 ⟨rfl, rfl⟩ rfl ?_
                        refine z_getR (N := 20) (b := 33) 1 0 rfl f_7_63 rfl J rfl 4096 ⟨rfl, rfl⟩ rfl ?_
                        refine z_getM (N := 4) (v := v146) 8 3 rfl f_7_85 rfl J rfl (jmc S148 rfl qv146) ?_
                        refine x_icge (tgt := 36) rfl rfl (ti_ge rfl rfl ⟨fun c168 => ?_, fun c168 => ?_⟩)
                        ·
                          refine x_iconst (v := (-1)) rfl ki_m1 ?_
                          refine x_iret rfl rfl ?_
                          show jX m_X7_namedSoul 21 0 0 16 [(0, .ref 78), (1, .int v151)] [.int (-1)] _ 0 0 _
                          refine x_goto (tgt := 20) rfl rfl ?_
                          refine x_iret rfl rfl ?_
                          show jX m_X6_byParents 22 0 0 76 [(5, .int v149), (4, .int v4), (3, .int v2), (0, .ref 120), (1, .int a1), (2, .int 0)] [.int (-1), .ref 120] _ 0 0 _
                          refine x_iload (x := v4) rfl rfl ?_
                          refine x_iloadn (x := 0) rfl rfl ?_
                          refine x_iconst (v := 1) rfl ki_1 ?_
                          refine y_iadd (v := 1) rfl (by decide) ?_
                          refine x_inv (N := m_X6_belongs) (As := [.int (-1), .int v4, .int 1]) (b := 120) (st := []) (dx9 := 21) (mc := 0) (ms := 0) (host := "") 6 rfl t_X6_belongs ⟨Or.inl q_6_127, i_X6_belongs.1, i_X6_belongs.2⟩ ⟨by decide, rfl⟩ (congrArg Prod.fst (J.1.1 120 (6, 8) rfl)) rfl (by decide) rfl rfl ⟨by decide, by decide⟩ (sf_X6_belongs_r120_c1 (jr_of jk_m1 (by omega)) (jr_of rfl (by omega)) hD J  (fun v170 h ev170 J S169 => ?_))
                          have Sm := jSm_tr rfl Sm S169
                          show jX m_X6_byParents 22 0 0 84 [(5, .int v149), (4, .int v4), (3, .int v2), (0, .ref 120), (1, .int a1), (2, .int 0)] [.int v170] _ 0 0 _
                          exact jX.sub jsb_n (ct_X6_byParents_r120_c0_84 hD hQ  v170 h (jr_of rfl (by omega)) J Sm)
                        ·
                          refine x_aloadn (x := 78) rfl rfl ?_
                          refine z_getR (N := 16) (b := 82) 7 10 rfl f_7_37 rfl J rfl 9994 ⟨rfl, rfl⟩ rfl ?_
                          refine x_iloadn (x := v151) rfl rfl ?_
                          refine z_iald (N := 600) rfl J rfl sg_82_0_600_1_0_1 rfl (by omega) (fun v171 qv171 ev171 => ?_)
                          refine x_goto (tgt := 37) rfl rfl ?_
                          refine x_iret rfl rfl ?_
                          show jX m_X7_namedSoul 21 0 0 16 [(0, .ref 78), (1, .int v151)] [.int v171] _ 0 0 _
                          refine x_goto (tgt := 20) rfl rfl ?_
                          refine x_iret rfl rfl ?_
                          show jX m_X6_byParents 22 0 0 76 [(5, .int v149), (4, .int v4), (3, .int v2), (0, .ref 120), (1, .int a1), (2, .int 0)] [.int v171, .ref 120] _ 0 0 _
                          refine x_iload (x := v4) rfl rfl ?_
                          refine x_iloadn (x := 0) rfl rfl ?_
                          refine x_iconst (v := 1) rfl ki_1 ?_
                          refine y_iadd (v := 1) rfl (by decide) ?_
                          refine x_inv (N := m_X6_belongs) (As := [.int v171, .int v4, .int 1]) (b := 120) (st := []) (dx9 := 21) (mc := 0) (ms := 0) (host := "") 6 rfl t_X6_belongs ⟨Or.inl q_6_127, i_X6_belongs.1, i_X6_belongs.2⟩ ⟨by decide, rfl⟩ (congrArg Prod.fst (J.1.1 120 (6, 8) rfl)) rfl (by decide) rfl rfl ⟨by decide, by decide⟩ (sf_X6_belongs_r120_c1 (jr_of rfl (by omega)) (jr_of rfl (by omega)) hD J  (fun v173 h ev173 J S172 => ?_))
                          have Sm := jSm_tr rfl Sm S172
                          show jX m_X6_byParents 22 0 0 84 [(5, .int v149), (4, .int v4), (3, .int v2), (0, .ref 120), (1, .int a1), (2, .int 0)] [.int v173] _ 0 0 _
                          exact jX.sub jsb_n (ct_X6_byParents_r120_c0_84 hD hQ  v173 h (jr_of rfl (by omega)) J Sm)
                ·
                  refine x_aloadn (x := 70) rfl rfl ?_
                  refine z_getR (N := 9) (b := 76) 5 7 rfl f_5_28 rfl J rfl 8967 ⟨rfl, rfl⟩ rfl ?_
                  refine x_iloadn (x := v153) rfl rfl ?_
                  refine z_iald (N := 1200) rfl J rfl sg_76_0_1200_1_0_1 rfl (by omega) (fun v174 qv174 ev174 => ?_)
                  refine x_goto (tgt := 27) rfl rfl ?_
                  refine x_iret rfl rfl ?_
                  show jX m_X5_isNamed 20 0 0 6 [(0, .ref 70), (1, .int v151)] [.int v174] _ 0 0 _
                  refine x_ifge (tgt := 18) rfl rfl (ti_ge rfl jk_0 ⟨fun c175 => ?_, fun c175 => ?_⟩)
                  ·
                    refine x_iconst (v := 1) rfl ki_1 ?_
                    refine x_goto (tgt := 23) rfl rfl ?_
                    refine x_zret rfl rfl (by decide) ?_
                    show jX m_X7_namedSoul 21 0 0 8 [(0, .ref 78), (1, .int v151)] [.int 1] _ 0 0 _
                    refine x_ifeq (tgt := 19) rfl rfl (ti_eq jk_1 jk_0 (br_f (by omega) ?_))
                    refine x_aloadn (x := 78) rfl rfl ?_
                    refine x_iloadn (x := v151) rfl rfl ?_
                    refine x_inv (N := m_X7_soulAt) (As := [.int v151]) (b := 78) (st := []) (dx9 := 20) (mc := 0) (ms := 0) (host := "") 7 rfl t_X7_soulAt ⟨Or.inl q_7_153, i_X7_soulAt.1, i_X7_soulAt.2⟩ ⟨by decide, rfl⟩ (congrArg Prod.fst (J.1.1 78 (7, 16) rfl)) rfl (by decide) rfl rfl ⟨by decide, by decide⟩ (jC.of rfl k_X7_soulAt rfl ?_)
                    show jX m_X7_soulAt 20 0 0 0 [(0, .ref 78), (1, .int v151)] [] _ 0 0 _
                    refine x_iloadn (x := v151) rfl rfl ?_
                    refine x_iflt (tgt := 36) rfl rfl (ti_lt rfl jk_0 (br_f (by omega) ?_))
                    refine x_iloadn (x := v151) rfl rfl ?_
                    refine x_sipush (v := 600) rfl ks_600 ?_
                    refine x_icge (tgt := 36) rfl rfl (ti_ge rfl jk_600 ⟨fun c176 => ?_, fun c176 => ?_⟩)
                    ·
                      refine x_iconst (v := (-1)) rfl ki_m1 ?_
                      refine x_iret rfl rfl ?_
                      show jX m_X7_namedSoul 21 0 0 16 [(0, .ref 78), (1, .int v151)] [.int (-1)] _ 0 0 _
                      refine x_goto (tgt := 20) rfl rfl ?_
                      refine x_iret rfl rfl ?_
                      show jX m_X6_byParents 22 0 0 76 [(5, .int v149), (4, .int v4), (3, .int v2), (0, .ref 120), (1, .int a1), (2, .int 0)] [.int (-1), .ref 120] _ 0 0 _
                      refine x_iload (x := v4) rfl rfl ?_
                      refine x_iloadn (x := 0) rfl rfl ?_
                      refine x_iconst (v := 1) rfl ki_1 ?_
                      refine y_iadd (v := 1) rfl (by decide) ?_
                      refine x_inv (N := m_X6_belongs) (As := [.int (-1), .int v4, .int 1]) (b := 120) (st := []) (dx9 := 21) (mc := 0) (ms := 0) (host := "") 6 rfl t_X6_belongs ⟨Or.inl q_6_127, i_X6_belongs.1, i_X6_belongs.2⟩ ⟨by decide, rfl⟩ (congrArg Prod.fst (J.1.1 120 (6, 8) rfl)) rfl (by decide) rfl rfl ⟨by decide, by decide⟩ (sf_X6_belongs_r120_c1 (jr_of jk_m1 (by omega)) (jr_of rfl (by omega)) hD J  (fun v178 h ev178 J S177 => ?_))
                      have Sm := jSm_tr rfl Sm S177
                      show jX m_X6_byParents 22 0 0 84 [(5, .int v149), (4, .int v4), (3, .int v2), (0, .ref 120), (1, .int a1), (2, .int 0)] [.int v178] _ 0 0 _
                      exact jX.sub jsb_n (ct_X6_byParents_r120_c0_84 hD hQ  v178 h (jr_of rfl (by omega)) J Sm)
                    ·
                      refine x_iloadn (x := v151) rfl rfl ?_
                      refine x_iconst (v := 3) rfl ki_3 ?_
                      refine z_idiv rfl rfl jk_3 (by omega) (by omega) (fun v179 ev179 => ?_)
                      refine x_aloadn (x := 78) rfl rfl ?_
                      refine z_getR (N := 16) (b := 32) 7 0 rfl f_7_55 rfl J rfl 9984 ⟨rfl, rfl⟩ rfl ?_
                      refine z_getR (N := 20) (b := 33) 1 0 rfl f_7_63 rfl J rfl 4096 ⟨rfl, rfl⟩ rfl ?_
                      refine z_getM (N := 4) (v := v146) 8 3 rfl f_7_85 rfl J rfl (jmc S148 rfl qv146) ?_
                      refine x_icge (tgt := 36) rfl rfl (ti_ge rfl rfl ⟨fun c180 => ?_, fun c180 => ?_⟩)
                      ·
                        refine x_iconst (v := (-1)) rfl ki_m1 ?_
                        refine x_iret rfl rfl ?_
                        show jX m_X7_namedSoul 21 0 0 16 [(0, .ref 78), (1, .int v151)] [.int (-1)] _ 0 0 _
                        refine x_goto (tgt := 20) rfl rfl ?_
                        refine x_iret rfl rfl ?_
                        show jX m_X6_byParents 22 0 0 76 [(5, .int v149), (4, .int v4), (3, .int v2), (0, .ref 120), (1, .int a1), (2, .int 0)] [.int (-1), .ref 120] _ 0 0 _
                        refine x_iload (x := v4) rfl rfl ?_
                        refine x_iloadn (x := 0) rfl rfl ?_
                        refine x_iconst (v := 1) rfl ki_1 ?_
                        refine y_iadd (v := 1) rfl (by decide) ?_
                        refine x_inv (N := m_X6_belongs) (As := [.int (-1), .int v4, .int 1]) (b := 120) (st := []) (dx9 := 21) (mc := 0) (ms := 0) (host := "") 6 rfl t_X6_belongs ⟨Or.inl q_6_127, i_X6_belongs.1, i_X6_belongs.2⟩ ⟨by decide, rfl⟩ (congrArg Prod.fst (J.1.1 120 (6, 8) rfl)) rfl (by decide) rfl rfl ⟨by decide, by decide⟩ (sf_X6_belongs_r120_c1 (jr_of jk_m1 (by omega)) (jr_of rfl (by omega)) hD J  (fun v182 h ev182 J S181 => ?_))
                        have Sm := jSm_tr rfl Sm S181
                        show jX m_X6_byParents 22 0 0 84 [(5, .int v149), (4, .int v4), (3, .int v2), (0, .ref 120), (1, .int a1), (2, .int 0)] [.int v182] _ 0 0 _
                        exact jX.sub jsb_n (ct_X6_byParents_r120_c0_84 hD hQ  v182 h (jr_of rfl (by omega)) J Sm)
                      ·
                        refine x_aloadn (x := 78) rfl rfl ?_
                        refine z_getR (N := 16) (b := 82) 7 10 rfl f_7_37 rfl J rfl 9994 ⟨rfl, rfl⟩ rfl ?_
                        refine x_iloadn (x := v151) rfl rfl ?_
                        refine z_iald (N := 600) rfl J rfl sg_82_0_600_1_0_1 rfl (by omega) (fun v183 qv183 ev183 => ?_)
                        refine x_goto (tgt := 37) rfl rfl ?_
                        refine x_iret rfl rfl ?_
                        show jX m_X7_namedSoul 21 0 0 16 [(0, .ref 78), (1, .int v151)] [.int v183] _ 0 0 _
                        refine x_goto (tgt := 20) rfl rfl ?_
                        refine x_iret rfl rfl ?_
                        show jX m_X6_byParents 22 0 0 76 [(5, .int v149), (4, .int v4), (3, .int v2), (0, .ref 120), (1, .int a1), (2, .int 0)] [.int v183, .ref 120] _ 0 0 _
                        refine x_iload (x := v4) rfl rfl ?_
                        refine x_iloadn (x := 0) rfl rfl ?_
                        refine x_iconst (v := 1) rfl ki_1 ?_
                        refine y_iadd (v := 1) rfl (by decide) ?_
                        refine x_inv (N := m_X6_belongs) (As := [.int v183, .int v4, .int 1]) (b := 120) (st := []) (dx9 := 21) (mc := 0) (ms := 0) (host := "") 6 rfl t_X6_belongs ⟨Or.inl q_6_127, i_X6_belongs.1, i_X6_belongs.2⟩ ⟨by decide, rfl⟩ (congrArg Prod.fst (J.1.1 120 (6, 8) rfl)) rfl (by decide) rfl rfl ⟨by decide, by decide⟩ (sf_X6_belongs_r120_c1 (jr_of rfl (by omega)) (jr_of rfl (by omega)) hD J  (fun v185 h ev185 J S184 => ?_))
                        have Sm := jSm_tr rfl Sm S184
                        show jX m_X6_byParents 22 0 0 84 [(5, .int v149), (4, .int v4), (3, .int v2), (0, .ref 120), (1, .int a1), (2, .int 0)] [.int v185] _ 0 0 _
                        exact jX.sub jsb_n (ct_X6_byParents_r120_c0_84 hD hQ  v185 h (jr_of rfl (by omega)) J Sm)
                  ·
                    refine x_aloadn (x := 70) rfl rfl ?_
                    refine x_iloadn (x := v151) rfl rfl ?_
                    refine x_iconst (v := 1) rfl ki_1 ?_
                    refine x_inv (N := m_X5_lengthOf) (As := [.int v151, .int 1]) (b := 70) (st := []) (dx9 := 19) (mc := 0) (ms := 0) (host := "") 5 rfl t_X5_lengthOf ⟨Or.inl q_5_133, i_X5_lengthOf.1, i_X5_lengthOf.2⟩ ⟨by decide, rfl⟩ (congrArg Prod.fst (J.1.1 70 (5, 9) rfl)) rfl (by decide) rfl rfl ⟨by decide, by decide⟩ (jC.of rfl k_X5_lengthOf rfl ?_)
                    show jX m_X5_lengthOf 19 0 0 0 [(0, .ref 70), (1, .int v151), (2, .int 1)] [] _ 0 0 _
                    refine x_iloadn (x := v151) rfl rfl ?_
                    refine x_iconst (v := 2) rfl ki_2 ?_
                    refine z_imul rfl rfl jk_2 (by omega) (fun v186 ev186 => ?_)
                    refine x_iloadn (x := 1) rfl rfl ?_
                    refine z_iadd rfl rfl jk_1 (by omega) (fun v187 ev187 => ?_)
                    refine x_istoren (lsx9 := [(3, .int v187), (0, .ref 70), (1, .int v151), (2, .int 1)]) rfl rfl rfl ?_
                    refine x_iloadn (x := v187) rfl rfl ?_
                    refine x_iflt (tgt := 26) rfl rfl (ti_lt rfl jk_0 (br_f (by omega) ?_))
                    refine x_iloadn (x := v187) rfl rfl ?_
                    refine x_sipush (v := 1200) rfl ks_1200 ?_
                    refine x_icge (tgt := 26) rfl rfl (ti_ge rfl jk_1200 ⟨fun c188 => ?_, fun c188 => ?_⟩)
                    ·
                      refine x_iconst (v := (-1)) rfl ki_m1 ?_
                      refine x_iret rfl rfl ?_
                      show jX m_X5_isNamed 20 0 0 15 [(0, .ref 70), (1, .int v151)] [.int (-1)] _ 0 0 _
                      refine x_iflt (tgt := 22) rfl rfl (ti_lt jk_m1 jk_0 (br_t (by omega) ?_))
                      refine x_iconst (v := 0) rfl ki_0 ?_
                      refine x_zret rfl rfl (by decide) ?_
                      show jX m_X7_namedSoul 21 0 0 8 [(0, .ref 78), (1, .int v151)] [.int 0] _ 0 0 _
                      refine x_ifeq (tgt := 19) rfl rfl (ti_eq jk_0 jk_0 (br_t (by omega) ?_))
                      refine x_iconst (v := (-1)) rfl ki_m1 ?_
                      refine x_iret rfl rfl ?_
                      show jX m_X6_byParents 22 0 0 76 [(5, .int v149), (4, .int v4), (3, .int v2), (0, .ref 120), (1, .int a1), (2, .int 0)] [.int (-1), .ref 120] _ 0 0 _
                      refine x_iload (x := v4) rfl rfl ?_
                      refine x_iloadn (x := 0) rfl rfl ?_
                      refine x_iconst (v := 1) rfl ki_1 ?_
                      refine y_iadd (v := 1) rfl (by decide) ?_
                      refine x_inv (N := m_X6_belongs) (As := [.int (-1), .int v4, .int 1]) (b := 120) (st := []) (dx9 := 21) (mc := 0) (ms := 0) (host := "") 6 rfl t_X6_belongs ⟨Or.inl q_6_127, i_X6_belongs.1, i_X6_belongs.2⟩ ⟨by decide, rfl⟩ (congrArg Prod.fst (J.1.1 120 (6, 8) rfl)) rfl (by decide) rfl rfl ⟨by decide, by decide⟩ (sf_X6_belongs_r120_c1 (jr_of jk_m1 (by omega)) (jr_of rfl (by omega)) hD J  (fun v190 h ev190 J S189 => ?_))
                      have Sm := jSm_tr rfl Sm S189
                      show jX m_X6_byParents 22 0 0 84 [(5, .int v149), (4, .int v4), (3, .int v2), (0, .ref 120), (1, .int a1), (2, .int 0)] [.int v190] _ 0 0 _
                      exact jX.sub jsb_n (ct_X6_byParents_r120_c0_84 hD hQ  v190 h (jr_of rfl (by omega)) J Sm)
                    ·
                      refine x_aloadn (x := 70) rfl rfl ?_
                      refine z_getR (N := 9) (b := 76) 5 7 rfl f_5_28 rfl J rfl 8967 ⟨rfl, rfl⟩ rfl ?_
                      refine x_iloadn (x := v187) rfl rfl ?_
                      refine z_iald (N := 1200) rfl J rfl sg_76_0_1200_1_0_1 rfl (by omega) (fun v191 qv191 ev191 => ?_)
                      refine x_goto (tgt := 27) rfl rfl ?_
                      refine x_iret rfl rfl ?_
                      show jX m_X5_isNamed 20 0 0 15 [(0, .ref 70), (1, .int v151)] [.int v191] _ 0 0 _
                      refine x_iflt (tgt := 22) rfl rfl (ti_lt rfl jk_0 ⟨fun c192 => ?_, fun c192 => ?_⟩)
                      ·
                        refine x_iconst (v := 0) rfl ki_0 ?_
                        refine x_zret rfl rfl (by decide) ?_
                        show jX m_X7_namedSoul 21 0 0 8 [(0, .ref 78), (1, .int v151)] [.int 0] _ 0 0 _
                        refine x_ifeq (tgt := 19) rfl rfl (ti_eq jk_0 jk_0 (br_t (by omega) ?_))
                        refine x_iconst (v := (-1)) rfl ki_m1 ?_
                        refine x_iret rfl rfl ?_
                        show jX m_X6_byParents 22 0 0 76 [(5, .int v149), (4, .int v4), (3, .int v2), (0, .ref 120), (1, .int a1), (2, .int 0)] [.int (-1), .ref 120] _ 0 0 _
                        refine x_iload (x := v4) rfl rfl ?_
                        refine x_iloadn (x := 0) rfl rfl ?_
                        refine x_iconst (v := 1) rfl ki_1 ?_
                        refine y_iadd (v := 1) rfl (by decide) ?_
                        refine x_inv (N := m_X6_belongs) (As := [.int (-1), .int v4, .int 1]) (b := 120) (st := []) (dx9 := 21) (mc := 0) (ms := 0) (host := "") 6 rfl t_X6_belongs ⟨Or.inl q_6_127, i_X6_belongs.1, i_X6_belongs.2⟩ ⟨by decide, rfl⟩ (congrArg Prod.fst (J.1.1 120 (6, 8) rfl)) rfl (by decide) rfl rfl ⟨by decide, by decide⟩ (sf_X6_belongs_r120_c1 (jr_of jk_m1 (by omega)) (jr_of rfl (by omega)) hD J  (fun v194 h ev194 J S193 => ?_))
                        have Sm := jSm_tr rfl Sm S193
                        show jX m_X6_byParents 22 0 0 84 [(5, .int v149), (4, .int v4), (3, .int v2), (0, .ref 120), (1, .int a1), (2, .int 0)] [.int v194] _ 0 0 _
                        exact jX.sub jsb_n (ct_X6_byParents_r120_c0_84 hD hQ  v194 h (jr_of rfl (by omega)) J Sm)
                      ·
                        refine x_iconst (v := 1) rfl ki_1 ?_
                        refine x_goto (tgt := 23) rfl rfl ?_
                        refine x_zret rfl rfl (by decide) ?_
                        show jX m_X7_namedSoul 21 0 0 8 [(0, .ref 78), (1, .int v151)] [.int 1] _ 0 0 _
                        refine x_ifeq (tgt := 19) rfl rfl (ti_eq jk_1 jk_0 (br_f (by omega) ?_))
                        refine x_aloadn (x := 78) rfl rfl ?_
                        refine x_iloadn (x := v151) rfl rfl ?_
                        refine x_inv (N := m_X7_soulAt) (As := [.int v151]) (b := 78) (st := []) (dx9 := 20) (mc := 0) (ms := 0) (host := "") 7 rfl t_X7_soulAt ⟨Or.inl q_7_153, i_X7_soulAt.1, i_X7_soulAt.2⟩ ⟨by decide, rfl⟩ (congrArg Prod.fst (J.1.1 78 (7, 16) rfl)) rfl (by decide) rfl rfl ⟨by decide, by decide⟩ (jC.of rfl k_X7_soulAt rfl ?_)
                        show jX m_X7_soulAt 20 0 0 0 [(0, .ref 78), (1, .int v151)] [] _ 0 0 _
                        refine x_iloadn (x := v151) rfl rfl ?_
                        refine x_iflt (tgt := 36) rfl rfl (ti_lt rfl jk_0 (br_f (by omega) ?_))
                        refine x_iloadn (x := v151) rfl rfl ?_
                        refine x_sipush (v := 600) rfl ks_600 ?_
                        refine x_icge (tgt := 36) rfl rfl (ti_ge rfl jk_600 ⟨fun c195 => ?_, fun c195 => ?_⟩)
                        ·
                          refine x_iconst (v := (-1)) rfl ki_m1 ?_
                          refine x_iret rfl rfl ?_
                          show jX m_X7_namedSoul 21 0 0 16 [(0, .ref 78), (1, .int v151)] [.int (-1)] _ 0 0 _
                          refine x_goto (tgt := 20) rfl rfl ?_
                          refine x_iret rfl rfl ?_
                          show jX m_X6_byParents 22 0 0 76 [(5, .int v149), (4, .int v4), (3, .int v2), (0, .ref 120), (1, .int a1), (2, .int 0)] [.int (-1), .ref 120] _ 0 0 _
                          refine x_iload (x := v4) rfl rfl ?_
                          refine x_iloadn (x := 0) rfl rfl ?_
                          refine x_iconst (v := 1) rfl ki_1 ?_
                          refine y_iadd (v := 1) rfl (by decide) ?_
                          refine x_inv (N := m_X6_belongs) (As := [.int (-1), .int v4, .int 1]) (b := 120) (st := []) (dx9 := 21) (mc := 0) (ms := 0) (host := "") 6 rfl t_X6_belongs ⟨Or.inl q_6_127, i_X6_belongs.1, i_X6_belongs.2⟩ ⟨by decide, rfl⟩ (congrArg Prod.fst (J.1.1 120 (6, 8) rfl)) rfl (by decide) rfl rfl ⟨by decide, by decide⟩ (sf_X6_belongs_r120_c1 (jr_of jk_m1 (by omega)) (jr_of rfl (by omega)) hD J  (fun v197 h ev197 J S196 => ?_))
                          have Sm := jSm_tr rfl Sm S196
                          show jX m_X6_byParents 22 0 0 84 [(5, .int v149), (4, .int v4), (3, .int v2), (0, .ref 120), (1, .int a1), (2, .int 0)] [.int v197] _ 0 0 _
                          exact jX.sub jsb_n (ct_X6_byParents_r120_c0_84 hD hQ  v197 h (jr_of rfl (by omega)) J Sm)
                        ·
                          refine x_iloadn (x := v151) rfl rfl ?_
                          refine x_iconst (v := 3) rfl ki_3 ?_
                          refine z_idiv rfl rfl jk_3 (by omega) (by omega) (fun v198 ev198 => ?_)
                          refine x_aloadn (x := 78) rfl rfl ?_
                          refine z_getR (N := 16) (b := 32) 7 0 rfl f_7_55 rfl J rfl 9984 ⟨rfl, rfl⟩ rfl ?_
                          refine z_getR (N := 20) (b := 33) 1 0 rfl f_7_63 rfl J rfl 4096 ⟨rfl, rfl⟩ rfl ?_
                          refine z_getM (N := 4) (v := v146) 8 3 rfl f_7_85 rfl J rfl (jmc S148 rfl qv146) ?_
                          refine x_icge (tgt := 36) rfl rfl (ti_ge rfl rfl ⟨fun c199 => ?_, fun c199 => ?_⟩)
                          ·
                            refine x_iconst (v := (-1)) rfl ki_m1 ?_
                            refine x_iret rfl rfl ?_
                            show jX m_X7_namedSoul 21 0 0 16 [(0, .ref 78), (1, .int v151)] [.int (-1)] _ 0 0 _
                            refine x_goto (tgt := 20) rfl rfl ?_
                            refine x_iret rfl rfl ?_
                            show jX m_X6_byParents 22 0 0 76 [(5, .int v149), (4, .int v4), (3, .int v2), (0, .ref 120), (1, .int a1), (2, .int 0)] [.int (-1), .ref 120] _ 0 0 _
                            refine x_iload (x := v4) rfl rfl ?_
                            refine x_iloadn (x := 0) rfl rfl ?_
                            refine x_iconst (v := 1) rfl ki_1 ?_
                            refine y_iadd (v := 1) rfl (by decide) ?_
                            refine x_inv (N := m_X6_belongs) (As := [.int (-1), .int v4, .int 1]) (b := 120) (st := []) (dx9 := 21) (mc := 0) (ms := 0) (host := "") 6 rfl t_X6_belongs ⟨Or.inl q_6_127, i_X6_belongs.1, i_X6_belongs.2⟩ ⟨by decide, rfl⟩ (congrArg Prod.fst (J.1.1 120 (6, 8) rfl)) rfl (by decide) rfl rfl ⟨by decide, by decide⟩ (sf_X6_belongs_r120_c1 (jr_of jk_m1 (by omega)) (jr_of rfl (by omega)) hD J  (fun v201 h ev201 J S200 => ?_))
                            have Sm := jSm_tr rfl Sm S200
                            show jX m_X6_byParents 22 0 0 84 [(5, .int v149), (4, .int v4), (3, .int v2), (0, .ref 120), (1, .int a1), (2, .int 0)] [.int v201] _ 0 0 _
                            exact jX.sub jsb_n (ct_X6_byParents_r120_c0_84 hD hQ  v201 h (jr_of rfl (by omega)) J Sm)
                          ·
                            refine x_aloadn (x := 78) rfl rfl ?_
                            refine z_getR (N := 16) (b := 82) 7 10 rfl f_7_37 rfl J rfl 9994 ⟨rfl, rfl⟩ rfl ?_
                            refine x_iloadn (x := v151) rfl rfl ?_
                            refine z_iald (N := 600) rfl J rfl sg_82_0_600_1_0_1 rfl (by omega) (fun v202 qv202 ev202 => ?_)
                            refine x_goto (tgt := 37) rfl rfl ?_
                            refine x_iret rfl rfl ?_
                            show jX m_X7_namedSoul 21 0 0 16 [(0, .ref 78), (1, .int v151)] [.int v202] _ 0 0 _
                            refine x_goto (tgt := 20) rfl rfl ?_
                            refine x_iret rfl rfl ?_
                            show jX m_X6_byParents 22 0 0 76 [(5, .int v149), (4, .int v4), (3, .int v2), (0, .ref 120), (1, .int a1), (2, .int 0)] [.int v202, .ref 120] _ 0 0 _
                            refine x_iload (x := v4) rfl rfl ?_
                            refine x_iloadn (x := 0) rfl rfl ?_
                            refine x_iconst (v := 1) rfl ki_1 ?_
                            refine y_iadd (v := 1) rfl (by decide) ?_
                            refine x_inv (N := m_X6_belongs) (As := [.int v202, .int v4, .int 1]) (b := 120) (st := []) (dx9 := 21) (mc := 0) (ms := 0) (host := "") 6 rfl t_X6_belongs ⟨Or.inl q_6_127, i_X6_belongs.1, i_X6_belongs.2⟩ ⟨by decide, rfl⟩ (congrArg Prod.fst (J.1.1 120 (6, 8) rfl)) rfl (by decide) rfl rfl ⟨by decide, by decide⟩ (sf_X6_belongs_r120_c1 (jr_of rfl (by omega)) (jr_of rfl (by omega)) hD J  (fun v204 h ev204 J S203 => ?_))
                            have Sm := jSm_tr rfl Sm S203
                            show jX m_X6_byParents 22 0 0 84 [(5, .int v149), (4, .int v4), (3, .int v2), (0, .ref 120), (1, .int a1), (2, .int 0)] [.int v204] _ 0 0 _
                            exact jX.sub jsb_n (ct_X6_byParents_r120_c0_84 hD hQ  v204 h (jr_of rfl (by omega)) J Sm)
              ·
                refine x_iload (x := v149) rfl rfl ?_
                refine x_goto (tgt := 84) rfl rfl ?_
                exact jX.sub jsb_n (ct_X6_byParents_r120_c0_84 hD hQ  v149 h (jr_of rfl (by omega)) J Sm)
            ·
              refine x_aloadn (x := 78) rfl rfl ?_
              refine z_getR (N := 16) (b := 82) 7 10 rfl f_7_37 rfl J rfl 9994 ⟨rfl, rfl⟩ rfl ?_
              refine x_iloadn (x := v5) rfl rfl ?_
              refine z_iald (N := 600) rfl J rfl sg_82_0_600_1_0_1 rfl (by omega) (fun v205 qv205 ev205 => ?_)
              refine x_goto (tgt := 37) rfl rfl ?_
              refine x_iret rfl rfl ?_
              show jX m_X7_namedSoul 21 0 0 16 [(0, .ref 78), (1, .int v5)] [.int v205] _ 0 0 _
              refine x_goto (tgt := 20) rfl rfl ?_
              refine x_iret rfl rfl ?_
              show jX m_X6_byParents 22 0 0 44 [(4, .int v4), (3, .int v2), (0, .ref 120), (1, .int a1), (2, .int 0)] [.int v205, .ref 120] _ 0 0 _
              refine x_iload (x := v4) rfl rfl ?_
              refine x_iloadn (x := 0) rfl rfl ?_
              refine x_iconst (v := 1) rfl ki_1 ?_
              refine y_iadd (v := 1) rfl (by decide) ?_
              refine x_inv (N := m_X6_belongs) (As := [.int v205, .int v4, .int 1]) (b := 120) (st := []) (dx9 := 21) (mc := 0) (ms := 0) (host := "") 6 rfl t_X6_belongs ⟨Or.inl q_6_127, i_X6_belongs.1, i_X6_belongs.2⟩ ⟨by decide, rfl⟩ (congrArg Prod.fst (J.1.1 120 (6, 8) rfl)) rfl (by decide) rfl rfl ⟨by decide, by decide⟩ (sf_X6_belongs_r120_c1 (jr_of rfl (by omega)) (jr_of rfl (by omega)) hD J  (fun v207 h ev207 J S206 => ?_))
              have Sm := jSm_tr rfl Sm S206
              show jX m_X6_byParents 22 0 0 52 [(4, .int v4), (3, .int v2), (0, .ref 120), (1, .int a1), (2, .int 0)] [.int v207] _ 0 0 _
              refine x_istore (lsx9 := [(5, .int v207), (4, .int v4), (3, .int v2), (0, .ref 120), (1, .int a1), (2, .int 0)]) rfl rfl rfl ?_
              refine x_iload (x := v207) rfl rfl ?_
              refine x_iconst (v := (-1)) rfl ki_m1 ?_
              refine x_iceq (tgt := 65) rfl rfl (ti_eq rfl jk_m1 ⟨fun c208 => ?_, fun c208 => ?_⟩)
              ·
                refine x_aloadn (x := 120) rfl rfl ?_
                refine x_aloadn (x := 120) rfl rfl ?_
                refine z_getR (N := 8) (b := 78) 6 1 rfl f_6_32 rfl J rfl 15361 ⟨rfl, rfl⟩ rfl ?_
                refine x_iloadn (x := v2) rfl rfl ?_
                refine x_iconst (v := 2) rfl ki_2 ?_
                refine z_iadd rfl rfl jk_2 (by omega) (fun v209 ev209 => ?_)
                refine x_inv (N := m_X7_namedSoul) (As := [.int v209]) (b := 78) (st := [.ref 120]) (dx9 := 21) (mc := 0) (ms := 0) (host := "") 7 rfl t_X7_namedSoul ⟨Or.inl q_6_124, i_X7_namedSoul.1, i_X7_namedSoul.2⟩ ⟨by decide, rfl⟩ (congrArg Prod.fst (J.1.1 78 (7, 16) rfl)) rfl (by decide) rfl rfl ⟨by decide, by decide⟩ (jC.of rfl k_X7_namedSoul rfl ?_)
                show jX m_X7_namedSoul 21 0 0 0 [(0, .ref 78), (1, .int v209)] [] _ 0 0 _
                refine x_aloadn (x := 78) rfl rfl ?_
                refine z_getR (N := 16) (b := 70) 7 1 rfl f_7_59 rfl J rfl 9985 ⟨rfl, rfl⟩ rfl ?_
                refine x_iloadn (x := v209) rfl rfl ?_
                refine x_inv (N := m_X5_isNamed) (As := [.int v209]) (b := 70) (st := []) (dx9 := 20) (mc := 0) (ms := 0) (host := "") 5 rfl t_X5_isNamed ⟨Or.inl q_7_173, i_X5_isNamed.1, i_X5_isNamed.2⟩ ⟨by decide, rfl⟩ (congrArg Prod.fst (J.1.1 70 (5, 9) rfl)) rfl (by decide) rfl rfl ⟨by decide, by decide⟩ (jC.of rfl k_X5_isNamed rfl ?_)
                show jX m_X5_isNamed 20 0 0 0 [(0, .ref 70), (1, .int v209)] [] _ 0 0 _
                refine x_aloadn (x := 70) rfl rfl ?_
                refine x_iloadn (x := v209) rfl rfl ?_
                refine x_iconst (v := 0) rfl ki_0 ?_
                refine x_inv (N := m_X5_lengthOf) (As := [.int v209, .int 0]) (b := 70) (st := []) (dx9 := 19) (mc := 0) (ms := 0) (host := "") 5 rfl t_X5_lengthOf ⟨Or.inl q_5_133, i_X5_lengthOf.1, i_X5_lengthOf.2⟩ ⟨by decide, rfl⟩ (congrArg Prod.fst (J.1.1 70 (5, 9) rfl)) rfl (by decide) rfl rfl ⟨by decide, by decide⟩ (jC.of rfl k_X5_lengthOf rfl ?_)
                show jX m_X5_lengthOf 19 0 0 0 [(0, .ref 70), (1, .int v209), (2, .int 0)] [] _ 0 0 _
                refine x_iloadn (x := v209) rfl rfl ?_
                refine x_iconst (v := 2) rfl ki_2 ?_
                refine z_imul rfl rfl jk_2 (by omega) (fun v210 ev210 => ?_)
                refine x_iloadn (x := 0) rfl rfl ?_
                refine z_iadd rfl rfl jk_0 (by omega) (fun v211 ev211 => ?_)
                refine x_istoren (lsx9 := [(3, .int v211), (0, .ref 70), (1, .int v209), (2, .int 0)]) rfl rfl rfl ?_
                refine x_iloadn (x := v211) rfl rfl ?_
                refine x_iflt (tgt := 26) rfl rfl (ti_lt rfl jk_0 (br_f (by omega) ?_))
                refine x_iloadn (x := v211) rfl rfl ?_
                refine x_sipush (v := 1200) rfl ks_1200 ?_
                refine x_icge (tgt := 26) rfl rfl (ti_ge rfl jk_1200 ⟨fun c212 => ?_, fun c212 => ?_⟩)
                ·
                  refine x_iconst (v := (-1)) rfl ki_m1 ?_
                  refine x_iret rfl rfl ?_
                  show jX m_X5_isNamed 20 0 0 6 [(0, .ref 70), (1, .int v209)] [.int (-1)] _ 0 0 _
                  refine x_ifge (tgt := 18) rfl rfl (ti_ge jk_m1 jk_0 (br_f (by omega) ?_))
                  refine x_aloadn (x := 70) rfl rfl ?_
                  refine x_iloadn (x := v209) rfl rfl ?_
                  refine x_iconst (v := 1) rfl ki_1 ?_
                  refine x_inv (N := m_X5_lengthOf) (As := [.int v209, .int 1]) (b := 70) (st := []) (dx9 := 19) (mc := 0) (ms := 0) (host := "") 5 rfl t_X5_lengthOf ⟨Or.inl q_5_133, i_X5_lengthOf.1, i_X5_lengthOf.2⟩ ⟨by decide, rfl⟩ (congrArg Prod.fst (J.1.1 70 (5, 9) rfl)) rfl (by decide) rfl rfl ⟨by decide, by decide⟩ (jC.of rfl k_X5_lengthOf rfl ?_)
                  show jX m_X5_lengthOf 19 0 0 0 [(0, .ref 70), (1, .int v209), (2, .int 1)] [] _ 0 0 _
                  refine x_iloadn (x := v209) rfl rfl ?_
                  refine x_iconst (v := 2) rfl ki_2 ?_
                  refine z_imul rfl rfl jk_2 (by omega) (fun v213 ev213 => ?_)
                  refine x_iloadn (x := 1) rfl rfl ?_
                  refine z_iadd rfl rfl jk_1 (by omega) (fun v214 ev214 => ?_)
                  refine x_istoren (lsx9 := [(3, .int v214), (0, .ref 70), (1, .int v209), (2, .int 1)]) rfl rfl rfl ?_
                  refine x_iloadn (x := v214) rfl rfl ?_
                  refine x_iflt (tgt := 26) rfl rfl (ti_lt rfl jk_0 (br_f (by omega) ?_))
                  refine x_iloadn (x := v214) rfl rfl ?_
                  refine x_sipush (v := 1200) rfl ks_1200 ?_
                  refine x_icge (tgt := 26) rfl rfl (ti_ge rfl jk_1200 ⟨fun c215 => ?_, fun c215 => ?_⟩)
                  ·
                    refine x_iconst (v := (-1)) rfl ki_m1 ?_
                    refine x_iret rfl rfl ?_
                    show jX m_X5_isNamed 20 0 0 15 [(0, .ref 70), (1, .int v209)] [.int (-1)] _ 0 0 _
                    refine x_iflt (tgt := 22) rfl rfl (ti_lt jk_m1 jk_0 (br_t (by omega) ?_))
                    refine x_iconst (v := 0) rfl ki_0 ?_
                    refine x_zret rfl rfl (by decide) ?_
                    show jX m_X7_namedSoul 21 0 0 8 [(0, .ref 78), (1, .int v209)] [.int 0] _ 0 0 _
                    refine x_ifeq (tgt := 19) rfl rfl (ti_eq jk_0 jk_0 (br_t (by omega) ?_))
                    refine x_iconst (v := (-1)) rfl ki_m1 ?_
                    refine x_iret rfl rfl ?_
                    show jX m_X6_byParents 22 0 0 76 [(5, .int v207), (4, .int v4), (3, .int v2), (0, .ref 120), (1, .int a1), (2, .int 0)] [.int (-1), .ref 120] _ 0 0 _
                    refine x_iload (x := v4) rfl rfl ?_
                    refine x_iloadn (x := 0) rfl rfl ?_
                    refine x_iconst (v := 1) rfl ki_1 ?_
                    refine y_iadd (v := 1) rfl (by decide) ?_
                    refine x_inv (N := m_X6_belongs) (As := [.int (-1), .int v4, .int 1]) (b := 120) (st := []) (dx9 := 21) (mc := 0) (ms := 0) (host := "") 6 rfl t_X6_belongs ⟨Or.inl q_6_127, i_X6_belongs.1, i_X6_belongs.2⟩ ⟨by decide, rfl⟩ (congrArg Prod.fst (J.1.1 120 (6, 8) rfl)) rfl (by decide) rfl rfl ⟨by decide, by decide⟩ (sf_X6_belongs_r120_c1 (jr_of jk_m1 (by omega)) (jr_of rfl (by omega)) hD J  (fun v217 h ev217 J S216 => ?_))
                    have Sm := jSm_tr rfl Sm S216
                    show jX m_X6_byParents 22 0 0 84 [(5, .int v207), (4, .int v4), (3, .int v2), (0, .ref 120), (1, .int a1), (2, .int 0)] [.int v217] _ 0 0 _
                    exact jX.sub jsb_n (ct_X6_byParents_r120_c0_84 hD hQ  v217 h (jr_of rfl (by omega)) J Sm)
                  ·
                    refine x_aloadn (x := 70) rfl rfl ?_
                    refine z_getR (N := 9) (b := 76) 5 7 rfl f_5_28 rfl J rfl 8967 ⟨rfl, rfl⟩ rfl ?_
                    refine x_iloadn (x := v214) rfl rfl ?_
                    refine z_iald (N := 1200) rfl J rfl sg_76_0_1200_1_0_1 rfl (by omega) (fun v218 qv218 ev218 => ?_)
                    refine x_goto (tgt := 27) rfl rfl ?_
                    refine x_iret rfl rfl ?_
                    show jX m_X5_isNamed 20 0 0 15 [(0, .ref 70), (1, .int v209)] [.int v218] _ 0 0 _
                    refine x_iflt (tgt := 22) rfl rfl (ti_lt rfl jk_0 ⟨fun c219 => ?_, fun c219 => ?_⟩)
                    ·
                      refine x_iconst (v := 0) rfl ki_0 ?_
                      refine x_zret rfl rfl (by decide) ?_
                      show jX m_X7_namedSoul 21 0 0 8 [(0, .ref 78), (1, .int v209)] [.int 0] _ 0 0 _
                      refine x_ifeq (tgt := 19) rfl rfl (ti_eq jk_0 jk_0 (br_t (by omega) ?_))
                      refine x_iconst (v := (-1)) rfl ki_m1 ?_
                      refine x_iret rfl rfl ?_
                      show jX m_X6_byParents 22 0 0 76 [(5, .int v207), (4, .int v4), (3, .int v2), (0, .ref 120), (1, .int a1), (2, .int 0)] [.int (-1), .ref 120] _ 0 0 _
                      refine x_iload (x := v4) rfl rfl ?_
                      refine x_iloadn (x := 0) rfl rfl ?_
                      refine x_iconst (v := 1) rfl ki_1 ?_
                      refine y_iadd (v := 1) rfl (by decide) ?_
                      refine x_inv (N := m_X6_belongs) (As := [.int (-1), .int v4, .int 1]) (b := 120) (st := []) (dx9 := 21) (mc := 0) (ms := 0) (host := "") 6 rfl t_X6_belongs ⟨Or.inl q_6_127, i_X6_belongs.1, i_X6_belongs.2⟩ ⟨by decide, rfl⟩ (congrArg Prod.fst (J.1.1 120 (6, 8) rfl)) rfl (by decide) rfl rfl ⟨by decide, by decide⟩ (sf_X6_belongs_r120_c1 (jr_of jk_m1 (by omega)) (jr_of rfl (by omega)) hD J  (fun v221 h ev221 J S220 => ?_))
                      have Sm := jSm_tr rfl Sm S220
                      show jX m_X6_byParents 22 0 0 84 [(5, .int v207), (4, .int v4), (3, .int v2), (0, .ref 120), (1, .int a1), (2, .int 0)] [.int v221] _ 0 0 _
                      exact jX.sub jsb_n (ct_X6_byParents_r120_c0_84 hD hQ  v221 h (jr_of rfl (by omega)) J Sm)
                    ·
                      refine x_iconst (v := 1) rfl ki_1 ?_
                      refine x_goto (tgt := 23) rfl rfl ?_
                      refine x_zret rfl rfl (by decide) ?_
                      show jX m_X7_namedSoul 21 0 0 8 [(0, .ref 78), (1, .int v209)] [.int 1] _ 0 0 _
                      refine x_ifeq (tgt := 19) rfl rfl (ti_eq jk_1 jk_0 (br_f (by omega) ?_))
                      refine x_aloadn (x := 78) rfl rfl ?_
                      refine x_iloadn (x := v209) rfl rfl ?_
                      refine x_inv (N := m_X7_soulAt) (As := [.int v209]) (b := 78) (st := []) (dx9 := 20) (mc := 0) (ms := 0) (host := "") 7 rfl t_X7_soulAt ⟨Or.inl q_7_153, i_X7_soulAt.1, i_X7_soulAt.2⟩ ⟨by decide, rfl⟩ (congrArg Prod.fst (J.1.1 78 (7, 16) rfl)) rfl (by decide) rfl rfl ⟨by decide, by decide⟩ (jC.of rfl k_X7_soulAt rfl ?_)
                      show jX m_X7_soulAt 20 0 0 0 [(0, .ref 78), (1, .int v209)] [] _ 0 0 _
                      refine x_iloadn (x := v209) rfl rfl ?_
                      refine x_iflt (tgt := 36) rfl rfl (ti_lt rfl jk_0 (br_f (by omega) ?_))
                      refine x_iloadn (x := v209) rfl rfl ?_
                      refine x_sipush (v := 600) rfl ks_600 ?_
                      refine x_icge (tgt := 36) rfl rfl (ti_ge rfl jk_600 ⟨fun c222 => ?_, fun c222 => ?_⟩)
                      ·
                        refine x_iconst (v := (-1)) rfl ki_m1 ?_
                        refine x_iret rfl rfl ?_
                        show jX m_X7_namedSoul 21 0 0 16 [(0, .ref 78), (1, .int v209)] [.int (-1)] _ 0 0 _
                        refine x_goto (tgt := 20) rfl rfl ?_
                        refine x_iret rfl rfl ?_
                        show jX m_X6_byParents 22 0 0 76 [(5, .int v207), (4, .int v4), (3, .int v2), (0, .ref 120), (1, .int a1), (2, .int 0)] [.int (-1), .ref 120] _ 0 0 _
                        refine x_iload (x := v4) rfl rfl ?_
                        refine x_iloadn (x := 0) rfl rfl ?_
                        refine x_iconst (v := 1) rfl ki_1 ?_
                        refine y_iadd (v := 1) rfl (by decide) ?_
                        refine x_inv (N := m_X6_belongs) (As := [.int (-1), .int v4, .int 1]) (b := 120) (st := []) (dx9 := 21) (mc := 0) (ms := 0) (host := "") 6 rfl t_X6_belongs ⟨Or.inl q_6_127, i_X6_belongs.1, i_X6_belongs.2⟩ ⟨by decide, rfl⟩ (congrArg Prod.fst (J.1.1 120 (6, 8) rfl)) rfl (by decide) rfl rfl ⟨by decide, by decide⟩ (sf_X6_belongs_r120_c1 (jr_of jk_m1 (by omega)) (jr_of rfl (by omega)) hD J  (fun v224 h ev224 J S223 => ?_))
                        have Sm := jSm_tr rfl Sm S223
                        show jX m_X6_byParents 22 0 0 84 [(5, .int v207), (4, .int v4), (3, .int v2), (0, .ref 120), (1, .int a1), (2, .int 0)] [.int v224] _ 0 0 _
                        exact jX.sub jsb_n (ct_X6_byParents_r120_c0_84 hD hQ  v224 h (jr_of rfl (by omega)) J Sm)
                      ·
                        refine x_iloadn (x := v209) rfl rfl ?_
                        refine x_iconst (v := 3) rfl ki_3 ?_
                        refine z_idiv rfl rfl jk_3 (by omega) (by omega) (fun v225 ev225 => ?_)
                        refine x_aloadn (x := 78) rfl rfl ?_
                        refine z_getR (N := 16) (b := 32) 7 0 rfl f_7_55 rfl J rfl 9984 ⟨rfl, rfl⟩ rfl ?_
                        refine z_getR (N := 20) (b := 33) 1 0 rfl f_7_63 rfl J rfl 4096 ⟨rfl, rfl⟩ rfl ?_
                        refine z_getM (N := 4) (v := v146) 8 3 rfl f_7_85 rfl J rfl (jmc S206 rfl qv146) ?_
                        refine x_icge (tgt := 36) rfl rfl (ti_ge rfl rfl ⟨fun c226 => ?_, fun c226 => ?_⟩)
                        ·
                          refine x_iconst (v := (-1)) rfl ki_m1 ?_
                          refine x_iret rfl rfl ?_
                          show jX m_X7_namedSoul 21 0 0 16 [(0, .ref 78), (1, .int v209)] [.int (-1)] _ 0 0 _
                          refine x_goto (tgt := 20) rfl rfl ?_
                          refine x_iret rfl rfl ?_
                          show jX m_X6_byParents 22 0 0 76 [(5, .int v207), (4, .int v4), (3, .int v2), (0, .ref 120), (1, .int a1), (2, .int 0)] [.int (-1), .ref 120] _ 0 0 _
                          refine x_iload (x := v4) rfl rfl ?_
                          refine x_iloadn (x := 0) rfl rfl ?_
                          refine x_iconst (v := 1) rfl ki_1 ?_
                          refine y_iadd (v := 1) rfl (by decide) ?_
                          refine x_inv (N := m_X6_belongs) (As := [.int (-1), .int v4, .int 1]) (b := 120) (st := []) (dx9 := 21) (mc := 0) (ms := 0) (host := "") 6 rfl t_X6_belongs ⟨Or.inl q_6_127, i_X6_belongs.1, i_X6_belongs.2⟩ ⟨by decide, rfl⟩ (congrArg Prod.fst (J.1.1 120 (6, 8) rfl)) rfl (by decide) rfl rfl ⟨by decide, by decide⟩ (sf_X6_belongs_r120_c1 (jr_of jk_m1 (by omega)) (jr_of rfl (by omega)) hD J  (fun v228 h ev228 J S227 => ?_))
                          have Sm := jSm_tr rfl Sm S227
                          show jX m_X6_byParents 22 0 0 84 [(5, .int v207), (4, .int v4), (3, .int v2), (0, .ref 120), (1, .int a1), (2, .int 0)] [.int v228] _ 0 0 _
                          exact jX.sub jsb_n (ct_X6_byParents_r120_c0_84 hD hQ  v228 h (jr_of rfl (by omega)) J Sm)
                        ·
                          refine x_aloadn (x := 78) rfl rfl ?_
                          refine z_getR (N := 16) (b := 82) 7 10 rfl f_7_37 rfl J rfl 9994 ⟨rfl, rfl⟩ rfl ?_
                          refine x_iloadn (x := v209) rfl rfl ?_
                          refine z_iald (N := 600) rfl J rfl sg_82_0_600_1_0_1 rfl (by omega) (fun v229 qv229 ev229 => ?_)
                          refine x_goto (tgt := 37) rfl rfl ?_
                          refine x_iret rfl rfl ?_
                          show jX m_X7_namedSoul 21 0 0 16 [(0, .ref 78), (1, .int v209)] [.int v229] _ 0 0 _
                          refine x_goto (tgt := 20) rfl rfl ?_
                          refine x_iret rfl rfl ?_
                          show jX m_X6_byParents 22 0 0 76 [(5, .int v207), (4, .int v4), (3, .int v2), (0, .ref 120), (1, .int a1), (2, .int 0)] [.int v229, .ref 120] _ 0 0 _
                          refine x_iload (x := v4) rfl rfl ?_
                          refine x_iloadn (x := 0) rfl rfl ?_
                          refine x_iconst (v := 1) rfl ki_1 ?_
                          refine y_iadd (v := 1) rfl (by decide) ?_
                          refine x_inv (N := m_X6_belongs) (As := [.int v229, .int v4, .int 1]) (b := 120) (st := []) (dx9 := 21) (mc := 0) (ms := 0) (host := "") 6 rfl t_X6_belongs ⟨Or.inl q_6_127, i_X6_belongs.1, i_X6_belongs.2⟩ ⟨by decide, rfl⟩ (congrArg Prod.fst (J.1.1 120 (6, 8) rfl)) rfl (by decide) rfl rfl ⟨by decide, by decide⟩ (sf_X6_belongs_r120_c1 (jr_of rfl (by omega)) (jr_of rfl (by omega)) hD J  (fun v231 h ev231 J S230 => ?_))
                          have Sm := jSm_tr rfl Sm S230
                          show jX m_X6_byParents 22 0 0 84 [(5, .int v207), (4, .int v4), (3, .int v2), (0, .ref 120), (1, .int a1), (2, .int 0)] [.int v231] _ 0 0 _
                          exact jX.sub jsb_n (ct_X6_byParents_r120_c0_84 hD hQ  v231 h (jr_of rfl (by omega)) J Sm)
                ·
                  refine x_aloadn (x := 70) rfl rfl ?_
                  refine z_getR (N := 9) (b := 76) 5 7 rfl f_5_28 rfl J rfl 8967 ⟨rfl, rfl⟩ rfl ?_
                  refine x_iloadn (x := v211) rfl rfl ?_
                  refine z_iald (N := 1200) rfl J rfl sg_76_0_1200_1_0_1 rfl (by omega) (fun v232 qv232 ev232 => ?_)
                  refine x_goto (tgt := 27) rfl rfl ?_
                  refine x_iret rfl rfl ?_
                  show jX m_X5_isNamed 20 0 0 6 [(0, .ref 70), (1, .int v209)] [.int v232] _ 0 0 _
                  refine x_ifge (tgt := 18) rfl rfl (ti_ge rfl jk_0 ⟨fun c233 => ?_, fun c233 => ?_⟩)
                  ·
                    refine x_iconst (v := 1) rfl ki_1 ?_
                    refine x_goto (tgt := 23) rfl rfl ?_
                    refine x_zret rfl rfl (by decide) ?_
                    show jX m_X7_namedSoul 21 0 0 8 [(0, .ref 78), (1, .int v209)] [.int 1] _ 0 0 _
                    refine x_ifeq (tgt := 19) rfl rfl (ti_eq jk_1 jk_0 (br_f (by omega) ?_))
                    refine x_aloadn (x := 78) rfl rfl ?_
                    refine x_iloadn (x := v209) rfl rfl ?_
                    refine x_inv (N := m_X7_soulAt) (As := [.int v209]) (b := 78) (st := []) (dx9 := 20) (mc := 0) (ms := 0) (host := "") 7 rfl t_X7_soulAt ⟨Or.inl q_7_153, i_X7_soulAt.1, i_X7_soulAt.2⟩ ⟨by decide, rfl⟩ (congrArg Prod.fst (J.1.1 78 (7, 16) rfl)) rfl (by decide) rfl rfl ⟨by decide, by decide⟩ (jC.of rfl k_X7_soulAt rfl ?_)
                    show jX m_X7_soulAt 20 0 0 0 [(0, .ref 78), (1, .int v209)] [] _ 0 0 _
                    refine x_iloadn (x := v209) rfl rfl ?_
                    refine x_iflt (tgt := 36) rfl rfl (ti_lt rfl jk_0 (br_f (by omega) ?_))
                    refine x_iloadn (x := v209) rfl rfl ?_
                    refine x_sipush (v := 600) rfl ks_600 ?_
                    refine x_icge (tgt := 36) rfl rfl (ti_ge rfl jk_600 ⟨fun c234 => ?_, fun c234 => ?_⟩)
                    ·
                      refine x_iconst (v := (-1)) rfl ki_m1 ?_
                      refine x_iret rfl rfl ?_
                      show jX m_X7_namedSoul 21 0 0 16 [(0, .ref 78), (1, .int v209)] [.int (-1)] _ 0 0 _
                      refine x_goto (tgt := 20) rfl rfl ?_
                      refine x_iret rfl rfl ?_
                      show jX m_X6_byParents 22 0 0 76 [(5, .int v207), (4, .int v4), (3, .int v2), (0, .ref 120), (1, .int a1), (2, .int 0)] [.int (-1), .ref 120] _ 0 0 _
                      refine x_iload (x := v4) rfl rfl ?_
                      refine x_iloadn (x := 0) rfl rfl ?_
                      refine x_iconst (v := 1) rfl ki_1 ?_
                      refine y_iadd (v := 1) rfl (by decide) ?_
                      refine x_inv (N := m_X6_belongs) (As := [.int (-1), .int v4, .int 1]) (b := 120) (st := []) (dx9 := 21) (mc := 0) (ms := 0) (host := "") 6 rfl t_X6_belongs ⟨Or.inl q_6_127, i_X6_belongs.1, i_X6_belongs.2⟩ ⟨by decide, rfl⟩ (congrArg Prod.fst (J.1.1 120 (6, 8) rfl)) rfl (by decide) rfl rfl ⟨by decide, by decide⟩ (sf_X6_belongs_r120_c1 (jr_of jk_m1 (by omega)) (jr_of rfl (by omega)) hD J  (fun v236 h ev236 J S235 => ?_))
                      have Sm := jSm_tr rfl Sm S235
                      show jX m_X6_byParents 22 0 0 84 [(5, .int v207), (4, .int v4), (3, .int v2), (0, .ref 120), (1, .int a1), (2, .int 0)] [.int v236] _ 0 0 _
                      exact jX.sub jsb_n (ct_X6_byParents_r120_c0_84 hD hQ  v236 h (jr_of rfl (by omega)) J Sm)
                    ·
                      refine x_iloadn (x := v209) rfl rfl ?_
                      refine x_iconst (v := 3) rfl ki_3 ?_
                      refine z_idiv rfl rfl jk_3 (by omega) (by omega) (fun v237 ev237 => ?_)
                      refine x_aloadn (x := 78) rfl rfl ?_
                      refine z_getR (N := 16) (b := 32) 7 0 rfl f_7_55 rfl J rfl 9984 ⟨rfl, rfl⟩ rfl ?_
                      refine z_getR (N := 20) (b := 33) 1 0 rfl f_7_63 rfl J rfl 4096 ⟨rfl, rfl⟩ rfl ?_
                      refine z_getM (N := 4) (v := v146) 8 3 rfl f_7_85 rfl J rfl (jmc S206 rfl qv146) ?_
                      refine x_icge (tgt := 36) rfl rfl (ti_ge rfl rfl ⟨fun c238 => ?_, fun c238 => ?_⟩)
                      ·
                        refine x_iconst (v := (-1)) rfl ki_m1 ?_
                        refine x_iret rfl rfl ?_
                        show jX m_X7_namedSoul 21 0 0 16 [(0, .ref 78), (1, .int v209)] [.int (-1)] _ 0 0 _
                        refine x_goto (tgt := 20) rfl rfl ?_
                        refine x_iret rfl rfl ?_
                        show jX m_X6_byParents 22 0 0 76 [(5, .int v207), (4, .int v4), (3, .int v2), (0, .ref 120), (1, .int a1), (2, .int 0)] [.int (-1), .ref 120] _ 0 0 _
                        refine x_iload (x := v4) rfl rfl ?_
                        refine x_iloadn (x := 0) rfl rfl ?_
                        refine x_iconst (v := 1) rfl ki_1 ?_
                        refine y_iadd (v := 1) rfl (by decide) ?_
                        refine x_inv (N := m_X6_belongs) (As := [.int (-1), .int v4, .int 1]) (b := 120) (st := []) (dx9 := 21) (mc := 0) (ms := 0) (host := "") 6 rfl t_X6_belongs ⟨Or.inl q_6_127, i_X6_belongs.1, i_X6_belongs.2⟩ ⟨by decide, rfl⟩ (congrArg Prod.fst (J.1.1 120 (6, 8) rfl)) rfl (by decide) rfl rfl ⟨by decide, by decide⟩ (sf_X6_belongs_r120_c1 (jr_of jk_m1 (by omega)) (jr_of rfl (by omega)) hD J  (fun v240 h ev240 J S239 => ?_))
                        have Sm := jSm_tr rfl Sm S239
                        show jX m_X6_byParents 22 0 0 84 [(5, .int v207), (4, .int v4), (3, .int v2), (0, .ref 120), (1, .int a1), (2, .int 0)] [.int v240] _ 0 0 _
                        exact jX.sub jsb_n (ct_X6_byParents_r120_c0_84 hD hQ  v240 h (jr_of rfl (by omega)) J Sm)
                      ·
                        refine x_aloadn (x := 78) rfl rfl ?_
                        refine z_getR (N := 16) (b := 82) 7 10 rfl f_7_37 rfl J rfl 9994 ⟨rfl, rfl⟩ rfl ?_
                        refine x_iloadn (x := v209) rfl rfl ?_
                        refine z_iald (N := 600) rfl J rfl sg_82_0_600_1_0_1 rfl (by omega) (fun v241 qv241 ev241 => ?_)
                        refine x_goto (tgt := 37) rfl rfl ?_
                        refine x_iret rfl rfl ?_
                        show jX m_X7_namedSoul 21 0 0 16 [(0, .ref 78), (1, .int v209)] [.int v241] _ 0 0 _
                        refine x_goto (tgt := 20) rfl rfl ?_
                        refine x_iret rfl rfl ?_
                        show jX m_X6_byParents 22 0 0 76 [(5, .int v207), (4, .int v4), (3, .int v2), (0, .ref 120), (1, .int a1), (2, .int 0)] [.int v241, .ref 120] _ 0 0 _
                        refine x_iload (x := v4) rfl rfl ?_
                        refine x_iloadn (x := 0) rfl rfl ?_
                        refine x_iconst (v := 1) rfl ki_1 ?_
                        refine y_iadd (v := 1) rfl (by decide) ?_
                        refine x_inv (N := m_X6_belongs) (As := [.int v241, .int v4, .int 1]) (b := 120) (st := []) (dx9 := 21) (mc := 0) (ms := 0) (host := "") 6 rfl t_X6_belongs ⟨Or.inl q_6_127, i_X6_belongs.1, i_X6_belongs.2⟩ ⟨by decide, rfl⟩ (congrArg Prod.fst (J.1.1 120 (6, 8) rfl)) rfl (by decide) rfl rfl ⟨by decide, by decide⟩ (sf_X6_belongs_r120_c1 (jr_of rfl (by omega)) (jr_of rfl (by omega)) hD J  (fun v243 h ev243 J S242 => ?_))
                        have Sm := jSm_tr rfl Sm S242
                        show jX m_X6_byParents 22 0 0 84 [(5, .int v207), (4, .int v4), (3, .int v2), (0, .ref 120), (1, .int a1), (2, .int 0)] [.int v243] _ 0 0 _
                        exact jX.sub jsb_n (ct_X6_byParents_r120_c0_84 hD hQ  v243 h (jr_of rfl (by omega)) J Sm)
                  ·
                    refine x_aloadn (x := 70) rfl rfl ?_
                    refine x_iloadn (x := v209) rfl rfl ?_
                    refine x_iconst (v := 1) rfl ki_1 ?_
                    refine x_inv (N := m_X5_lengthOf) (As := [.int v209, .int 1]) (b := 70) (st := []) (dx9 := 19) (mc := 0) (ms := 0) (host := "") 5 rfl t_X5_lengthOf ⟨Or.inl q_5_133, i_X5_lengthOf.1, i_X5_lengthOf.2⟩ ⟨by decide, rfl⟩ (congrArg Prod.fst (J.1.1 70 (5, 9) rfl)) rfl (by decide) rfl rfl ⟨by decide, by decide⟩ (jC.of rfl k_X5_lengthOf rfl ?_)
                    show jX m_X5_lengthOf 19 0 0 0 [(0, .ref 70), (1, .int v209), (2, .int 1)] [] _ 0 0 _
                    refine x_iloadn (x := v209) rfl rfl ?_
                    refine x_iconst (v := 2) rfl ki_2 ?_
                    refine z_imul rfl rfl jk_2 (by omega) (fun v244 ev244 => ?_)
                    refine x_iloadn (x := 1) rfl rfl ?_
                    refine z_iadd rfl rfl jk_1 (by omega) (fun v245 ev245 => ?_)
                    refine x_istoren (lsx9 := [(3, .int v245), (0, .ref 70), (1, .int v209), (2, .int 1)]) rfl rfl rfl ?_
                    refine x_iloadn (x := v245) rfl rfl ?_
                    refine x_iflt (tgt := 26) rfl rfl (ti_lt rfl jk_0 (br_f (by omega) ?_))
                    refine x_iloadn (x := v245) rfl rfl ?_
                    refine x_sipush (v := 1200) rfl ks_1200 ?_
                    refine x_icge (tgt := 26) rfl rfl (ti_ge rfl jk_1200 ⟨fun c246 => ?_, fun c246 => ?_⟩)
                    ·
                      refine x_iconst (v := (-1)) rfl ki_m1 ?_
                      refine x_iret rfl rfl ?_
                      show jX m_X5_isNamed 20 0 0 15 [(0, .ref 70), (1, .int v209)] [.int (-1)] _ 0 0 _
                      refine x_iflt (tgt := 22) rfl rfl (ti_lt jk_m1 jk_0 (br_t (by omega) ?_))
                      refine x_iconst (v := 0) rfl ki_0 ?_
                      refine x_zret rfl rfl (by decide) ?_
                      show jX m_X7_namedSoul 21 0 0 8 [(0, .ref 78), (1, .int v209)] [.int 0] _ 0 0 _
                      refine x_ifeq (tgt := 19) rfl rfl (ti_eq jk_0 jk_0 (br_t (by omega) ?_))
                      refine x_iconst (v := (-1)) rfl ki_m1 ?_
                      refine x_iret rfl rfl ?_
                      show jX m_X6_byParents 22 0 0 76 [(5, .int v207), (4, .int v4), (3, .int v2), (0, .ref 120), (1, .int a1), (2, .int 0)] [.int (-1), .ref 120] _ 0 0 _
                      refine x_iload (x := v4) rfl rfl ?_
                      refine x_iloadn (x := 0) rfl rfl ?_
                      refine x_iconst (v := 1) rfl ki_1 ?_
                      refine y_iadd (v := 1) rfl (by decide) ?_
                      refine x_inv (N := m_X6_belongs) (As := [.int (-1), .int v4, .int 1]) (b := 120) (st := []) (dx9 := 21) (mc := 0) (ms := 0) (host := "") 6 rfl t_X6_belongs ⟨Or.inl q_6_127, i_X6_belongs.1, i_X6_belongs.2⟩ ⟨by decide, rfl⟩ (congrArg Prod.fst (J.1.1 120 (6, 8) rfl)) rfl (by decide) rfl rfl ⟨by decide, by decide⟩ (sf_X6_belongs_r120_c1 (jr_of jk_m1 (by omega)) (jr_of rfl (by omega)) hD J  (fun v248 h ev248 J S247 => ?_))
                      have Sm := jSm_tr rfl Sm S247
                      show jX m_X6_byParents 22 0 0 84 [(5, .int v207), (4, .int v4), (3, .int v2), (0, .ref 120), (1, .int a1), (2, .int 0)] [.int v248] _ 0 0 _
                      exact jX.sub jsb_n (ct_X6_byParents_r120_c0_84 hD hQ  v248 h (jr_of rfl (by omega)) J Sm)
                    ·
                      refine x_aloadn (x := 70) rfl rfl ?_
                      refine z_getR (N := 9) (b := 76) 5 7 rfl f_5_28 rfl J rfl 8967 ⟨rfl, rfl⟩ rfl ?_
                      refine x_iloadn (x := v245) rfl rfl ?_
                      refine z_iald (N := 1200) rfl J rfl sg_76_0_1200_1_0_1 rfl (by omega) (fun v249 qv249 ev249 => ?_)
                      refine x_goto (tgt := 27) rfl rfl ?_
                      refine x_iret rfl rfl ?_
                      show jX m_X5_isNamed 20 0 0 15 [(0, .ref 70), (1, .int v209)] [.int v249] _ 0 0 _
                      refine x_iflt (tgt := 22) rfl rfl (ti_lt rfl jk_0 ⟨fun c250 => ?_, fun c250 => ?_⟩)
                      ·
                        refine x_iconst (v := 0) rfl ki_0 ?_
                        refine x_zret rfl rfl (by decide) ?_
                        show jX m_X7_namedSoul 21 0 0 8 [(0, .ref 78), (1, .int v209)] [.int 0] _ 0 0 _
                        refine x_ifeq (tgt := 19) rfl rfl (ti_eq jk_0 jk_0 (br_t (by omega) ?_))
                        refine x_iconst (v := (-1)) rfl ki_m1 ?_
                        refine x_iret rfl rfl ?_
                        show jX m_X6_byParents 22 0 0 76 [(5, .int v207), (4, .int v4), (3, .int v2), (0, .ref 120), (1, .int a1), (2, .int 0)] [.int (-1), .ref 120] _ 0 0 _
                        refine x_iload (x := v4) rfl rfl ?_
                        refine x_iloadn (x := 0) rfl rfl ?_
                        refine x_iconst (v := 1) rfl ki_1 ?_
                        refine y_iadd (v := 1) rfl (by decide) ?_
                        refine x_inv (N := m_X6_belongs) (As := [.int (-1), .int v4, .int 1]) (b := 120) (st := []) (dx9 := 21) (mc := 0) (ms := 0) (host := "") 6 rfl t_X6_belongs ⟨Or.inl q_6_127, i_X6_belongs.1, i_X6_belongs.2⟩ ⟨by decide, rfl⟩ (congrArg Prod.fst (J.1.1 120 (6, 8) rfl)) rfl (by decide) rfl rfl ⟨by decide, by decide⟩ (sf_X6_belongs_r120_c1 (jr_of jk_m1 (by omega)) (jr_of rfl (by omega)) hD J  (fun v252 h ev252 J S251 => ?_))
                        have Sm := jSm_tr rfl Sm S251
                        show jX m_X6_byParents 22 0 0 84 [(5, .int v207), (4, .int v4), (3, .int v2), (0, .ref 120), (1, .int a1), (2, .int 0)] [.int v252] _ 0 0 _
                        exact jX.sub jsb_n (ct_X6_byParents_r120_c0_84 hD hQ  v252 h (jr_of rfl (by omega)) J Sm)
                      ·
                        refine x_iconst (v := 1) rfl ki_1 ?_
                        refine x_goto (tgt := 23) rfl rfl ?_
                        refine x_zret rfl rfl (by decide) ?_
                        show jX m_X7_namedSoul 21 0 0 8 [(0, .ref 78), (1, .int v209)] [.int 1] _ 0 0 _
                        refine x_ifeq (tgt := 19) rfl rfl (ti_eq jk_1 jk_0 (br_f (by omega) ?_))
                        refine x_aloadn (x := 78) rfl rfl ?_
                        refine x_iloadn (x := v209) rfl rfl ?_
                        refine x_inv (N := m_X7_soulAt) (As := [.int v209]) (b := 78) (st := []) (dx9 := 20) (mc := 0) (ms := 0) (host := "") 7 rfl t_X7_soulAt ⟨Or.inl q_7_153, i_X7_soulAt.1, i_X7_soulAt.2⟩ ⟨by decide, rfl⟩ (congrArg Prod.fst (J.1.1 78 (7, 16) rfl)) rfl (by decide) rfl rfl ⟨by decide, by decide⟩ (jC.of rfl k_X7_soulAt rfl ?_)
                        show jX m_X7_soulAt 20 0 0 0 [(0, .ref 78), (1, .int v209)] [] _ 0 0 _
                        refine x_iloadn (x := v209) rfl rfl ?_
                        refine x_iflt (tgt := 36) rfl rfl (ti_lt rfl jk_0 (br_f (by omega) ?_))
                        refine x_iloadn (x := v209) rfl rfl ?_
                        refine x_sipush (v := 600) rfl ks_600 ?_
                        refine x_icge (tgt := 36) rfl rfl (ti_ge rfl jk_600 ⟨fun c253 => ?_, fun c253 => ?_⟩)
                        ·
                          refine x_iconst (v := (-1)) rfl ki_m1 ?_
                          refine x_iret rfl rfl ?_
                          show jX m_X7_namedSoul 21 0 0 16 [(0, .ref 78), (1, .int v209)] [.int (-1)] _ 0 0 _
                          refine x_goto (tgt := 20) rfl rfl ?_
                          refine x_iret rfl rfl ?_
                          show jX m_X6_byParents 22 0 0 76 [(5, .int v207), (4, .int v4), (3, .int v2), (0, .ref 120), (1, .int a1), (2, .int 0)] [.int (-1), .ref 120] _ 0 0 _
                          refine x_iload (x := v4) rfl rfl ?_
                          refine x_iloadn (x := 0) rfl rfl ?_
                          refine x_iconst (v := 1) rfl ki_1 ?_
                          refine y_iadd (v := 1) rfl (by decide) ?_
                          refine x_inv (N := m_X6_belongs) (As := [.int (-1), .int v4, .int 1]) (b := 120) (st := []) (dx9 := 21) (mc := 0) (ms := 0) (host := "") 6 rfl t_X6_belongs ⟨Or.inl q_6_127, i_X6_belongs.1, i_X6_belongs.2⟩ ⟨by decide, rfl⟩ (congrArg Prod.fst (J.1.1 120 (6, 8) rfl)) rfl (by decide) rfl rfl ⟨by decide, by decide⟩ (sf_X6_belongs_r120_c1 (jr_of jk_m1 (by omega)) (jr_of rfl (by omega)) hD J  (fun v255 h ev255 J S254 => ?_))
                          have Sm := jSm_tr rfl Sm S254
                          show jX m_X6_byParents 22 0 0 84 [(5, .int v207), (4, .int v4), (3, .int v2), (0, .ref 120), (1, .int a1), (2, .int 0)] [.int v255] _ 0 0 _
                          exact jX.sub jsb_n (ct_X6_byParents_r120_c0_84 hD hQ  v255 h (jr_of rfl (by omega)) J Sm)
                        ·
                          refine x_iloadn (x := v209) rfl rfl ?_
                          refine x_iconst (v := 3) rfl ki_3 ?_
                          refine z_idiv rfl rfl jk_3 (by omega) (by omega) (fun v256 ev256 => ?_)
                          refine x_aloadn (x := 78) rfl rfl ?_
                          refine z_getR (N := 16) (b := 32) 7 0 rfl f_7_55 rfl J rfl 9984 ⟨rfl, rfl⟩ rfl ?_
                          refine z_getR (N := 20) (b := 33) 1 0 rfl f_7_63 rfl J rfl 4096 ⟨rfl, rfl⟩ rfl ?_
                          refine z_getM (N := 4) (v := v146) 8 3 rfl f_7_85 rfl J rfl (jmc S206 rfl qv146) ?_
                          refine x_icge (tgt := 36) rfl rfl (ti_ge rfl rfl ⟨fun c257 => ?_, fun c257 => ?_⟩)
                          ·
                            refine x_iconst (v := (-1)) rfl ki_m1 ?_
                            refine x_iret rfl rfl ?_
                            show jX m_X7_namedSoul 21 0 0 16 [(0, .ref 78), (1, .int v209)] [.int (-1)] _ 0 0 _
                            refine x_goto (tgt := 20) rfl rfl ?_
                            refine x_iret rfl rfl ?_
                            show jX m_X6_byParents 22 0 0 76 [(5, .int v207), (4, .int v4), (3, .int v2), (0, .ref 120), (1, .int a1), (2, .int 0)] [.int (-1), .ref 120] _ 0 0 _
                            refine x_iload (x := v4) rfl rfl ?_
                            refine x_iloadn (x := 0) rfl rfl ?_
                            refine x_iconst (v := 1) rfl ki_1 ?_
                            refine y_iadd (v := 1) rfl (by decide) ?_
                            refine x_inv (N := m_X6_belongs) (As := [.int (-1), .int v4, .int 1]) (b := 120) (st := []) (dx9 := 21) (mc := 0) (ms := 0) (host := "") 6 rfl t_X6_belongs ⟨Or.inl q_6_127, i_X6_belongs.1, i_X6_belongs.2⟩ ⟨by decide, rfl⟩ (congrArg Prod.fst (J.1.1 120 (6, 8) rfl)) rfl (by decide) rfl rfl ⟨by decide, by decide⟩ (sf_X6_belongs_r120_c1 (jr_of jk_m1 (by omega)) (jr_of rfl (by omega)) hD J  (fun v259 h ev259 J S258 => ?_))
                            have Sm := jSm_tr rfl Sm S258
                            show jX m_X6_byParents 22 0 0 84 [(5, .int v207), (4, .int v4), (3, .int v2), (0, .ref 120), (1, .int a1), (2, .int 0)] [.int v259] _ 0 0 _
                            exact jX.sub jsb_n (ct_X6_byParents_r120_c0_84 hD hQ  v259 h (jr_of rfl (by omega)) J Sm)
                          ·
                            refine x_aloadn (x := 78) rfl rfl ?_
                            refine z_getR (N := 16) (b := 82) 7 10 rfl f_7_37 rfl J rfl 9994 ⟨rfl, rfl⟩ rfl ?_
                            refine x_iloadn (x := v209) rfl rfl ?_
                            refine z_iald (N := 600) rfl J rfl sg_82_0_600_1_0_1 rfl (by omega) (fun v260 qv260 ev260 => ?_)
                            refine x_goto (tgt := 37) rfl rfl ?_
                            refine x_iret rfl rfl ?_
                            show jX m_X7_namedSoul 21 0 0 16 [(0, .ref 78), (1, .int v209)] [.int v260] _ 0 0 _
                            refine x_goto (tgt := 20) rfl rfl ?_
                            refine x_iret rfl rfl ?_
                            show jX m_X6_byParents 22 0 0 76 [(5, .int v207), (4, .int v4), (3, .int v2), (0, .ref 120), (1, .int a1), (2, .int 0)] [.int v260, .ref 120] _ 0 0 _
                            refine x_iload (x := v4) rfl rfl ?_
                            refine x_iloadn (x := 0) rfl rfl ?_
                            refine x_iconst (v := 1) rfl ki_1 ?_
                            refine y_iadd (v := 1) rfl (by decide) ?_
                            refine x_inv (N := m_X6_belongs) (As := [.int v260, .int v4, .int 1]) (b := 120) (st := []) (dx9 := 21) (mc := 0) (ms := 0) (host := "") 6 rfl t_X6_belongs ⟨Or.inl q_6_127, i_X6_belongs.1, i_X6_belongs.2⟩ ⟨by decide, rfl⟩ (congrArg Prod.fst (J.1.1 120 (6, 8) rfl)) rfl (by decide) rfl rfl ⟨by decide, by decide⟩ (sf_X6_belongs_r120_c1 (jr_of rfl (by omega)) (jr_of rfl (by omega)) hD J  (fun v262 h ev262 J S261 => ?_))
                            have Sm := jSm_tr rfl Sm S261
                            show jX m_X6_byParents 22 0 0 84 [(5, .int v207), (4, .int v4), (3, .int v2), (0, .ref 120), (1, .int a1), (2, .int 0)] [.int v262] _ 0 0 _
                            exact jX.sub jsb_n (ct_X6_byParents_r120_c0_84 hD hQ  v262 h (jr_of rfl (by omega)) J Sm)
              ·
                refine x_iload (x := v207) rfl rfl ?_
                refine x_goto (tgt := 84) rfl rfl ?_
                exact jX.sub jsb_n (ct_X6_byParents_r120_c0_84 hD hQ  v207 h (jr_of rfl (by omega)) J Sm)
    ·
      refine x_aloadn (x := 70) rfl rfl ?_
      refine z_getR (N := 9) (b := 76) 5 7 rfl f_5_28 rfl J rfl 8967 ⟨rfl, rfl⟩ rfl ?_
      refine x_iloadn (x := v7) rfl rfl ?_
      refine z_iald (N := 1200) rfl J rfl sg_76_0_1200_1_0_1 rfl (by omega) (fun v263 qv263 ev263 => ?_)
      refine x_goto (tgt := 27) rfl rfl ?_
      refine x_iret rfl rfl ?_
      show jX m_X5_isNamed 20 0 0 6 [(0, .ref 70), (1, .int v5)] [.int v263] _ 0 0 _
      refine x_ifge (tgt := 18) rfl rfl (ti_ge rfl jk_0 ⟨fun c264 => ?_, fun c264 => ?_⟩)
      ·
        refine x_iconst (v := 1) rfl ki_1 ?_
        refine x_goto (tgt := 23) rfl rfl ?_
        refine x_zret rfl rfl (by decide) ?_
        show jX m_X7_namedSoul 21 0 0 8 [(0, .ref 78), (1, .int v5)] [.int 1] _ 0 0 _
        refine x_ifeq (tgt := 19) rfl rfl (ti_eq jk_1 jk_0 (br_f (by omega) ?_))
        refine x_aloadn (x := 78) rfl rfl ?_
        refine x_iloadn (x := v5) rfl rfl ?_
        refine x_inv (N := m_X7_soulAt) (As := [.int v5]) (b := 78) (st := []) (dx9 := 20) (mc := 0) (ms := 0) (host := "") 7 rfl t_X7_soulAt ⟨Or.inl q_7_153, i_X7_soulAt.1, i_X7_soulAt.2⟩ ⟨by decide, rfl⟩ (congrArg Prod.fst (J.1.1 78 (7, 16) rfl)) rfl (by decide) rfl rfl ⟨by decide, by decide⟩ (jC.of rfl k_X7_soulAt rfl ?_)
        show jX m_X7_soulAt 20 0 0 0 [(0, .ref 78), (1, .int v5)] [] _ 0 0 _
        refine x_iloadn (x := v5) rfl rfl ?_
        refine x_iflt (tgt := 36) rfl rfl (ti_lt rfl jk_0 (br_f (by omega) ?_))
        refine x_iloadn (x := v5) rfl rfl ?_
        refine x_sipush (v := 600) rfl ks_600 ?_
        refine x_icge (tgt := 36) rfl rfl (ti_ge rfl jk_600 ⟨fun c265 => ?_, fun c265 => ?_⟩)
        ·
          refine x_iconst (v := (-1)) rfl ki_m1 ?_
          refine x_iret rfl rfl ?_
          show jX m_X7_namedSoul 21 0 0 16 [(0, .ref 78), (1, .int v5)] [.int (-1)] _ 0 0 _
          refine x_goto (tgt := 20) rfl rfl ?_
          refine x_iret rfl rfl ?_
          show jX m_X6_byParents 22 0 0 44 [(4, .int v4), (3, .int v2), (0, .ref 120), (1, .int a1), (2, .int 0)] [.int (-1), .ref 120] _ 0 0 _
          refine x_iload (x := v4) rfl rfl ?_
          refine x_iloadn (x := 0) rfl rfl ?_
          refine x_iconst (v := 1) rfl ki_1 ?_
          refine y_iadd (v := 1) rfl (by decide) ?_
          refine x_inv (N := m_X6_belongs) (As := [.int (-1), .int v4, .int 1]) (b := 120) (st := []) (dx9 := 21) (mc := 0) (ms := 0) (host := "") 6 rfl t_X6_belongs ⟨Or.inl q_6_127, i_X6_belongs.1, i_X6_belongs.2⟩ ⟨by decide, rfl⟩ (congrArg Prod.fst (J.1.1 120 (6, 8) rfl)) rfl (by decide) rfl rfl ⟨by decide, by decide⟩ (sf_X6_belongs_r120_c1 (jr_of jk_m1 (by omega)) (jr_of rfl (by omega)) hD J  (fun v267 h ev267 J S266 => ?_))
          have Sm := jSm_tr rfl Sm S266
          show jX m_X6_byParents 22 0 0 52 [(4, .int v4), (3, .int v2), (0, .ref 120), (1, .int a1), (2, .int 0)] [.int v267] _ 0 0 _
          refine x_istore (lsx9 := [(5, .int v267), (4, .int v4), (3, .int v2), (0, .ref 120), (1, .int a1), (2, .int 0)]) rfl rfl rfl ?_
          refine x_iload (x := v267) rfl rfl ?_
          refine x_iconst (v := (-1)) rfl ki_m1 ?_
          refine x_iceq (tgt := 65) rfl rfl (ti_eq rfl jk_m1 ⟨fun c268 => ?_, fun c268 => ?_⟩)
          ·
            refine x_aloadn (x := 120) rfl rfl ?_
            refine x_aloadn (x := 120) rfl rfl ?_
            refine z_getR (N := 8) (b := 78) 6 1 rfl f_6_32 rfl J rfl 15361 ⟨rfl, rfl⟩ rfl ?_
            refine x_iloadn (x := v2) rfl rfl ?_
            refine x_iconst (v := 2) rfl ki_2 ?_
            refine z_iadd rfl rfl jk_2 (by omega) (fun v269 ev269 => ?_)
            refine x_inv (N := m_X7_namedSoul) (As := [.int v269]) (b := 78) (st := [.ref 120]) (dx9 := 21) (mc := 0) (ms := 0) (host := "") 7 rfl t_X7_namedSoul ⟨Or.inl q_6_124, i_X7_namedSoul.1, i_X7_namedSoul.2⟩ ⟨by decide, rfl⟩ (congrArg Prod.fst (J.1.1 78 (7, 16) rfl)) rfl (by decide) rfl rfl ⟨by decide, by decide⟩ (jC.of rfl k_X7_namedSoul rfl ?_)
            show jX m_X7_namedSoul 21 0 0 0 [(0, .ref 78), (1, .int v269)] [] _ 0 0 _
            refine x_aloadn (x := 78) rfl rfl ?_
            refine z_getR (N := 16) (b := 70) 7 1 rfl f_7_59 rfl J rfl 9985 ⟨rfl, rfl⟩ rfl ?_
            refine x_iloadn (x := v269) rfl rfl ?_
            refine x_inv (N := m_X5_isNamed) (As := [.int v269]) (b := 70) (st := []) (dx9 := 20) (mc := 0) (ms := 0) (host := "") 5 rfl t_X5_isNamed ⟨Or.inl q_7_173, i_X5_isNamed.1, i_X5_isNamed.2⟩ ⟨by decide, rfl⟩ (congrArg Prod.fst (J.1.1 70 (5, 9) rfl)) rfl (by decide) rfl rfl ⟨by decide, by decide⟩ (jC.of rfl k_X5_isNamed rfl ?_)
            show jX m_X5_isNamed 20 0 0 0 [(0, .ref 70), (1, .int v269)] [] _ 0 0 _
            refine x_aloadn (x := 70) rfl rfl ?_
            refine x_iloadn (x := v269) rfl rfl ?_
            refine x_iconst (v := 0) rfl ki_0 ?_
            refine x_inv (N := m_X5_lengthOf) (As := [.int v269, .int 0]) (b := 70) (st := []) (dx9 := 19) (mc := 0) (ms := 0) (host := "") 5 rfl t_X5_lengthOf ⟨Or.inl q_5_133, i_X5_lengthOf.1, i_X5_lengthOf.2⟩ ⟨by decide, rfl⟩ (congrArg Prod.fst (J.1.1 70 (5, 9) rfl)) rfl (by decide) rfl rfl ⟨by decide, by decide⟩ (jC.of rfl k_X5_lengthOf rfl ?_)
            show jX m_X5_lengthOf 19 0 0 0 [(0, .ref 70), (1, .int v269), (2, .int 0)] [] _ 0 0 _
            refine x_iloadn (x := v269) rfl rfl ?_
            refine x_iconst (v := 2) rfl ki_2 ?_
            refine z_imul rfl rfl jk_2 (by omega) (fun v270 ev270 => ?_)
            refine x_iloadn (x := 0) rfl rfl ?_
            refine z_iadd rfl rfl jk_0 (by omega) (fun v271 ev271 => ?_)
            refine x_istoren (lsx9 := [(3, .int v271), (0, .ref 70), (1, .int v269), (2, .int 0)]) rfl rfl rfl ?_
            refine x_iloadn (x := v271) rfl rfl ?_
            refine x_iflt (tgt := 26) rfl rfl (ti_lt rfl jk_0 (br_f (by omega) ?_))
            refine x_iloadn (x := v271) rfl rfl ?_
            refine x_sipush (v := 1200) rfl ks_1200 ?_
            refine x_icge (tgt := 26) rfl rfl (ti_ge rfl jk_1200 (br_t (by omega) ?_))
            refine x_iconst (v := (-1)) rfl ki_m1 ?_
            refine x_iret rfl rfl ?_
            show jX m_X5_isNamed 20 0 0 6 [(0, .ref 70), (1, .int v269)] [.int (-1)] _ 0 0 _
            refine x_ifge (tgt := 18) rfl rfl (ti_ge jk_m1 jk_0 (br_f (by omega) ?_))
            refine x_aloadn (x := 70) rfl rfl ?_
            refine x_iloadn (x := v269) rfl rfl ?_
            refine x_iconst (v := 1) rfl ki_1 ?_
            refine x_inv (N := m_X5_lengthOf) (As := [.int v269, .int 1]) (b := 70) (st := []) (dx9 := 19) (mc := 0) (ms := 0) (host := "") 5 rfl t_X5_lengthOf ⟨Or.inl q_5_133, i_X5_lengthOf.1, i_X5_lengthOf.2⟩ ⟨by decide, rfl⟩ (congrArg Prod.fst (J.1.1 70 (5, 9) rfl)) rfl (by decide) rfl rfl ⟨by decide, by decide⟩ (jC.of rfl k_X5_lengthOf rfl ?_)
            show jX m_X5_lengthOf 19 0 0 0 [(0, .ref 70), (1, .int v269), (2, .int 1)] [] _ 0 0 _
            refine x_iloadn (x := v269) rfl rfl ?_
            refine x_iconst (v := 2) rfl ki_2 ?_
            refine z_imul rfl rfl jk_2 (by omega) (fun v272 ev272 => ?_)
            refine x_iloadn (x := 1) rfl rfl ?_
            refine z_iadd rfl rfl jk_1 (by omega) (fun v273 ev273 => ?_)
            refine x_istoren (lsx9 := [(3, .int v273), (0, .ref 70), (1, .int v269), (2, .int 1)]) rfl rfl rfl ?_
            refine x_iloadn (x := v273) rfl rfl ?_
            refine x_iflt (tgt := 26) rfl rfl (ti_lt rfl jk_0 (br_f (by omega) ?_))
            refine x_iloadn (x := v273) rfl rfl ?_
            refine x_sipush (v := 1200) rfl ks_1200 ?_
            refine x_icge (tgt := 26) rfl rfl (ti_ge rfl jk_1200 (br_t (by omega) ?_))
            refine x_iconst (v := (-1)) rfl ki_m1 ?_
            refine x_iret rfl rfl ?_
            show jX m_X5_isNamed 20 0 0 15 [(0, .ref 70), (1, .int v269)] [.int (-1)] _ 0 0 _
            refine x_iflt (tgt := 22) rfl rfl (ti_lt jk_m1 jk_0 (br_t (by omega) ?_))
            refine x_iconst (v := 0) rfl ki_0 ?_
            refine x_zret rfl rfl (by decide) ?_
            show jX m_X7_namedSoul 21 0 0 8 [(0, .ref 78), (1, .int v269)] [.int 0] _ 0 0 _
            refine x_ifeq (tgt := 19) rfl rfl (ti_eq jk_0 jk_0 (br_t (by omega) ?_))
            refine x_iconst (v := (-1)) rfl ki_m1 ?_
            refine x_iret rfl rfl ?_
            show jX m_X6_byParents 22 0 0 76 [(5, .int v267), (4, .int v4), (3, .int v2), (0, .ref 120), (1, .int a1), (2, .int 0)] [.int (-1), .ref 120] _ 0 0 _
            refine x_iload (x := v4) rfl rfl ?_
            refine x_iloadn (x := 0) rfl rfl ?_
            refine x_iconst (v := 1) rfl ki_1 ?_
            refine y_iadd (v := 1) rfl (by decide) ?_
            refine x_inv (N := m_X6_belongs) (As := [.int (-1), .int v4, .int 1]) (b := 120) (st := []) (dx9 := 21) (mc := 0) (ms := 0) (host := "") 6 rfl t_X6_belongs ⟨Or.inl q_6_127, i_X6_belongs.1, i_X6_belongs.2⟩ ⟨by decide, rfl⟩ (congrArg Prod.fst (J.1.1 120 (6, 8) rfl)) rfl (by decide) rfl rfl ⟨by decide, by decide⟩ (sf_X6_belongs_r120_c1 (jr_of jk_m1 (by omega)) (jr_of rfl (by omega)) hD J  (fun v275 h ev275 J S274 => ?_))
            have Sm := jSm_tr rfl Sm S274
            show jX m_X6_byParents 22 0 0 84 [(5, .int v267), (4, .int v4), (3, .int v2), (0, .ref 120), (1, .int a1), (2, .int 0)] [.int v275] _ 0 0 _
            exact jX.sub jsb_n (ct_X6_byParents_r120_c0_84 hD hQ  v275 h (jr_of rfl (by omega)) J Sm)
          ·
            refine x_iload (x := v267) rfl rfl ?_
            refine x_goto (tgt := 84) rfl rfl ?_
            exact jX.sub jsb_n (ct_X6_byParents_r120_c0_84 hD hQ  v267 h (jr_of rfl (by omega)) J Sm)
        ·
          refine x_iloadn (x := v5) rfl rfl ?_
          refine x_iconst (v := 3) rfl ki_3 ?_
          refine z_idiv rfl rfl jk_3 (by omega) (by omega) (fun v276 ev276 => ?_)
          refine x_aloadn (x := 78) rfl rfl ?_
          refine z_getR (N := 16) (b := 32) 7 0 rfl f_7_55 rfl J rfl 9984 ⟨rfl, rfl⟩ rfl ?_
          refine z_getR (N := 20) (b := 33) 1 0 rfl f_7_63 rfl J rfl 4096 ⟨rfl, rfl⟩ rfl ?_
          refine z_getI (N := 4) 8 3 rfl f_7_85 rfl J rfl sg_33_3_4_1_0_1 (fun v277 qv277 ev277 => ?_)
          refine x_icge (tgt := 36) rfl rfl (ti_ge rfl rfl ⟨fun c278 => ?_, fun c278 => ?_⟩)
          ·
            refine x_iconst (v := (-1)) rfl ki_m1 ?_
            refine x_iret rfl rfl ?_
            show jX m_X7_namedSoul 21 0 0 16 [(0, .ref 78), (1, .int v5)] [.int (-1)] _ 0 0 _
            refine x_goto (tgt := 20) rfl rfl ?_
            refine x_iret rfl rfl ?_
            show jX m_X6_byParents 22 0 0 44 [(4, .int v4), (3, .int v2), (0, .ref 120), (1, .int a1), (2, .int 0)] [.int (-1), .ref 120] _ 0 0 _
            refine x_iload (x := v4) rfl rfl ?_
            refine x_iloadn (x := 0) rfl rfl ?_
            refine x_iconst (v := 1) rfl ki_1 ?_
            refine y_iadd (v := 1) rfl (by decide) ?_
            refine x_inv (N := m_X6_belongs) (As := [.int (-1), .int v4, .int 1]) (b := 120) (st := []) (dx9 := 21) (mc := 0) (ms := 0) (host := "") 6 rfl t_X6_belongs ⟨Or.inl q_6_127, i_X6_belongs.1, i_X6_belongs.2⟩ ⟨by decide, rfl⟩ (congrArg Prod.fst (J.1.1 120 (6, 8) rfl)) rfl (by decide) rfl rfl ⟨by decide, by decide⟩ (sf_X6_belongs_r120_c1 (jr_of jk_m1 (by omega)) (jr_of rfl (by omega)) hD J  (fun v280 h ev280 J S279 => ?_))
            have Sm := jSm_tr rfl Sm S279
            show jX m_X6_byParents 22 0 0 52 [(4, .int v4), (3, .int v2), (0, .ref 120), (1, .int a1), (2, .int 0)] [.int v280] _ 0 0 _
            refine x_istore (lsx9 := [(5, .int v280), (4, .int v4), (3, .int v2), (0, .ref 120), (1, .int a1), (2, .int 0)]) rfl rfl rfl ?_
            refine x_iload (x := v280) rfl rfl ?_
            refine x_iconst (v := (-1)) rfl ki_m1 ?_
            refine x_iceq (tgt := 65) rfl rfl (ti_eq rfl jk_m1 ⟨fun c281 => ?_, fun c281 => ?_⟩)
            ·
              refine x_aloadn (x := 120) rfl rfl ?_
              refine x_aloadn (x := 120) rfl rfl ?_
              refine z_getR (N := 8) (b := 78) 6 1 rfl f_6_32 rfl J rfl 15361 ⟨rfl, rfl⟩ rfl ?_
              refine x_iloadn (x := v2) rfl rfl ?_
              refine x_iconst (v := 2) rfl ki_2 ?_
              refine z_iadd rfl rfl jk_2 (by omega) (fun v282 ev282 => ?_)
              refine x_inv (N := m_X7_namedSoul) (As := [.int v282]) (b := 78) (st := [.ref 120]) (dx9 := 21) (mc := 0) (ms := 0) (host := "") 7 rfl t_X7_namedSoul ⟨Or.inl q_6_124, i_X7_namedSoul.1, i_X7_namedSoul.2⟩ ⟨by decide, rfl⟩ (congrArg Prod.fst (J.1.1 78 (7, 16) rfl)) rfl (by decide) rfl rfl ⟨by decide, by decide⟩ (jC.of rfl k_X7_namedSoul rfl ?_)
              show jX m_X7_namedSoul 21 0 0 0 [(0, .ref 78), (1, .int v282)] [] _ 0 0 _
              refine x_aloadn (x := 78) rfl rfl ?_
              refine z_getR (N := 16) (b := 70) 7 1 rfl f_7_59 rfl J rfl 9985 ⟨rfl, rfl⟩ rfl ?_
              refine x_iloadn (x := v282) rfl rfl ?_
              refine x_inv (N := m_X5_isNamed) (As := [.int v282]) (b := 70) (st := []) (dx9 := 20) (mc := 0) (ms := 0) (host := "") 5 rfl t_X5_isNamed ⟨Or.inl q_7_173, i_X5_isNamed.1, i_X5_isNamed.2⟩ ⟨by decide, rfl⟩ (congrArg Prod.fst (J.1.1 70 (5, 9) rfl)) rfl (by decide) rfl rfl ⟨by decide, by decide⟩ (jC.of rfl k_X5_isNamed rfl ?_)
              show jX m_X5_isNamed 20 0 0 0 [(0, .ref 70), (1, .int v282)] [] _ 0 0 _
              refine x_aloadn (x := 70) rfl rfl ?_
              refine x_iloadn (x := v282) rfl rfl ?_
              refine x_iconst (v := 0) rfl ki_0 ?_
              refine x_inv (N := m_X5_lengthOf) (As := [.int v282, .int 0]) (b := 70) (st := []) (dx9 := 19) (mc := 0) (ms := 0) (host := "") 5 rfl t_X5_lengthOf ⟨Or.inl q_5_133, i_X5_lengthOf.1, i_X5_lengthOf.2⟩ ⟨by decide, rfl⟩ (congrArg Prod.fst (J.1.1 70 (5, 9) rfl)) rfl (by decide) rfl rfl ⟨by decide, by decide⟩ (jC.of rfl k_X5_lengthOf rfl ?_)
              show jX m_X5_lengthOf 19 0 0 0 [(0, .ref 70), (1, .int v282), (2, .int 0)] [] _ 0 0 _
              refine x_iloadn (x := v282) rfl rfl ?_
              refine x_iconst (v := 2) rfl ki_2 ?_
              refine z_imul rfl rfl jk_2 (by omega) (fun v283 ev283 => ?_)
              refine x_iloadn (x := 0) rfl rfl ?_
              refine z_iadd rfl rfl jk_0 (by omega) (fun v284 ev284 => ?_)
              refine x_istoren (lsx9 := [(3, .int v284), (0, .ref 70), (1, .int v282), (2, .int 0)]) rfl rfl rfl ?_
              refine x_iloadn (x := v284) rfl rfl ?_
              refine x_iflt (tgt := 26) rfl rfl (ti_lt rfl jk_0 (br_f (by omega) ?_))
              refine x_iloadn (x := v284) rfl rfl ?_
              refine x_sipush (v := 1200) rfl ks_1200 ?_
              refine x_icge (tgt := 26) rfl rfl (ti_ge rfl jk_1200 ⟨fun c285 => ?_, fun c285 => ?_⟩)
              ·
                refine x_iconst (v := (-1)) rfl ki_m1 ?_
                refine x_iret rfl rfl ?_
                show jX m_X5_isNamed 20 0 0 6 [(0, .ref 70), (1, .int v282)] [.int (-1)] _ 0 0 _
                refine x_ifge (tgt := 18) rfl rfl (ti_ge jk_m1 jk_0 (br_f (by omega) ?_))
                refine x_aloadn (x := 70) rfl rfl ?_
                refine x_iloadn (x := v282) rfl rfl ?_
                refine x_iconst (v := 1) rfl ki_1 ?_
                refine x_inv (N := m_X5_lengthOf) (As := [.int v282, .int 1]) (b := 70) (st := []) (dx9 := 19) (mc := 0) (ms := 0) (host := "") 5 rfl t_X5_lengthOf ⟨Or.inl q_5_133, i_X5_lengthOf.1, i_X5_lengthOf.2⟩ ⟨by decide, rfl⟩ (congrArg Prod.fst (J.1.1 70 (5, 9) rfl)) rfl (by decide) rfl rfl ⟨by decide, by decide⟩ (jC.of rfl k_X5_lengthOf rfl ?_)
                show jX m_X5_lengthOf 19 0 0 0 [(0, .ref 70), (1, .int v282), (2, .int 1)] [] _ 0 0 _
                refine x_iloadn (x := v282) rfl rfl ?_
                refine x_iconst (v := 2) rfl ki_2 ?_
                refine z_imul rfl rfl jk_2 (by omega) (fun v286 ev286 => ?_)
                refine x_iloadn (x := 1) rfl rfl ?_
                refine z_iadd rfl rfl jk_1 (by omega) (fun v287 ev287 => ?_)
                refine x_istoren (lsx9 := [(3, .int v287), (0, .ref 70), (1, .int v282), (2, .int 1)]) rfl rfl rfl ?_
                refine x_iloadn (x := v287) rfl rfl ?_
                refine x_iflt (tgt := 26) rfl rfl (ti_lt rfl jk_0 (br_f (by omega) ?_))
                refine x_iloadn (x := v287) rfl rfl ?_
                refine x_sipush (v := 1200) rfl ks_1200 ?_
                refine x_icge (tgt := 26) rfl rfl (ti_ge rfl jk_1200 ⟨fun c288 => ?_, fun c288 => ?_⟩)
                ·
                  refine x_iconst (v := (-1)) rfl ki_m1 ?_
                  refine x_iret rfl rfl ?_
                  show jX m_X5_isNamed 20 0 0 15 [(0, .ref 70), (1, .int v282)] [.int (-1)] _ 0 0 _
                  refine x_iflt (tgt := 22) rfl rfl (ti_lt jk_m1 jk_0 (br_t (by omega) ?_))
                  refine x_iconst (v := 0) rfl ki_0 ?_
                  refine x_zret rfl rfl (by decide) ?_
                  show jX m_X7_namedSoul 21 0 0 8 [(0, .ref 78), (1, .int v282)] [.int 0] _ 0 0 _
                  refine x_ifeq (tgt := 19) rfl rfl (ti_eq jk_0 jk_0 (br_t (by omega) ?_))
                  refine x_iconst (v := (-1)) rfl ki_m1 ?_
                  refine x_iret rfl rfl ?_
                  show jX m_X6_byParents 22 0 0 76 [(5, .int v280), (4, .int v4), (3, .int v2), (0, .ref 120), (1, .int a1), (2, .int 0)] [.int (-1), .ref 120] _ 0 0 _
                  refine x_iload (x := v4) rfl rfl ?_
                  refine x_iloadn (x := 0) rfl rfl ?_
                  refine x_iconst (v := 1) rfl ki_1 ?_
                  refine y_iadd (v := 1) rfl (by decide) ?_
                  refine x_inv (N := m_X6_belongs) (As := [.int (-1), .int v4, .int 1]) (b := 120) (st := []) (dx9 := 21) (mc := 0) (ms := 0) (host := "") 6 rfl t_X6_belongs ⟨Or.inl q_6_127, i_X6_belongs.1, i_X6_belongs.2⟩ ⟨by decide, rfl⟩ (congrArg Prod.fst (J.1.1 120 (6, 8) rfl)) rfl (by decide) rfl rfl ⟨by decide, by decide⟩ (sf_X6_belongs_r120_c1 (jr_of jk_m1 (by omega)) (jr_of rfl (by omega)) hD J  (fun v290 h ev290 J S289 => ?_))
                  have Sm := jSm_tr rfl Sm S289
                  show jX m_X6_byParents 22 0 0 84 [(5, .int v280), (4, .int v4), (3, .int v2), (0, .ref 120), (1, .int a1), (2, .int 0)] [.int v290] _ 0 0 _
                  exact jX.sub jsb_n (ct_X6_byParents_r120_c0_84 hD hQ  v290 h (jr_of rfl (by omega)) J Sm)
                ·
                  refine x_aloadn (x := 70) rfl rfl ?_
                  refine z_getR (N := 9) (b := 76) 5 7 rfl f_5_28 rfl J rfl 8967 ⟨rfl, rfl⟩ rfl ?_
                  refine x_iloadn (x := v287) rfl rfl ?_
                  refine z_iald (N := 1200) rfl J rfl sg_76_0_1200_1_0_1 rfl (by omega) (fun v291 qv291 ev291 => ?_)
                  refine x_goto (tgt := 27) rfl rfl ?_
                  refine x_iret rfl rfl ?_
                  show jX m_X5_isNamed 20 0 0 15 [(0, .ref 70), (1, .int v282)] [.int v291] _ 0 0 _
                  refine x_iflt (tgt := 22) rfl rfl (ti_lt rfl jk_0 ⟨fun c292 => ?_, fun c292 => ?_⟩)
                  ·
                    refine x_iconst (v := 0) rfl ki_0 ?_
                    refine x_zret rfl rfl (by decide) ?_
                    show jX m_X7_namedSoul 21 0 0 8 [(0, .ref 78), (1, .int v282)] [.int 0] _ 0 0 _
                    refine x_ifeq (tgt := 19) rfl rfl (ti_eq jk_0 jk_0 (br_t (by omega) ?_))
                    refine x_iconst (v := (-1)) rfl ki_m1 ?_
                    refine x_iret rfl rfl ?_
                    show jX m_X6_byParents 22 0 0 76 [(5, .int v280), (4, .int v4), (3, .int v2), (0, .ref 120), (1, .int a1), (2, .int 0)] [.int (-1), .ref 120] _ 0 0 _
                    refine x_iload (x := v4) rfl rfl ?_
                    refine x_iloadn (x := 0) rfl rfl ?_
                    refine x_iconst (v := 1) rfl ki_1 ?_
                    refine y_iadd (v := 1) rfl (by decide) ?_
                    refine x_inv (N := m_X6_belongs) (As := [.int (-1), .int v4, .int 1]) (b := 120) (st := []) (dx9 := 21) (mc := 0) (ms := 0) (host := "") 6 rfl t_X6_belongs ⟨Or.inl q_6_127, i_X6_belongs.1, i_X6_belongs.2⟩ ⟨by decide, rfl⟩ (congrArg Prod.fst (J.1.1 120 (6, 8) rfl)) rfl (by decide) rfl rfl ⟨by decide, by decide⟩ (sf_X6_belongs_r120_c1 (jr_of jk_m1 (by omega)) (jr_of rfl (by omega)) hD J  (fun v294 h ev294 J S293 => ?_))
                    have Sm := jSm_tr rfl Sm S293
                    show jX m_X6_byParents 22 0 0 84 [(5, .int v280), (4, .int v4), (3, .int v2), (0, .ref 120), (1, .int a1), (2, .int 0)] [.int v294] _ 0 0 _
                    exact jX.sub jsb_n (ct_X6_byParents_r120_c0_84 hD hQ  v294 h (jr_of rfl (by omega)) J Sm)
                  ·
                    refine x_iconst (v := 1) rfl ki_1 ?_
                    refine x_goto (tgt := 23) rfl rfl ?_
                    refine x_zret rfl rfl (by decide) ?_
                    show jX m_X7_namedSoul 21 0 0 8 [(0, .ref 78), (1, .int v282)] [.int 1] _ 0 0 _
                    refine x_ifeq (tgt := 19) rfl rfl (ti_eq jk_1 jk_0 (br_f (by omega) ?_))
                    refine x_aloadn (x := 78) rfl rfl ?_
                    refine x_iloadn (x := v282) rfl rfl ?_
                    refine x_inv (N := m_X7_soulAt) (As := [.int v282]) (b := 78) (st := []) (dx9 := 20) (mc := 0) (ms := 0) (host := "") 7 rfl t_X7_soulAt ⟨Or.inl q_7_153, i_X7_soulAt.1, i_X7_soulAt.2⟩ ⟨by decide, rfl⟩ (congrArg Prod.fst (J.1.1 78 (7, 16) rfl)) rfl (by decide) rfl rfl ⟨by decide, by decide⟩ (jC.of rfl k_X7_soulAt rfl ?_)
                    show jX m_X7_soulAt 20 0 0 0 [(0, .ref 78), (1, .int v282)] [] _ 0 0 _
                    refine x_iloadn (x := v282) rfl rfl ?_
                    refine x_iflt (tgt := 36) rfl rfl (ti_lt rfl jk_0 (br_f (by omega) ?_))
                    refine x_iloadn (x := v282) rfl rfl ?_
                    refine x_sipush (v := 600) rfl ks_600 ?_
                    refine x_icge (tgt := 36) rfl rfl (ti_ge rfl jk_600 ⟨fun c295 => ?_, fun c295 => ?_⟩)
                    ·
                      refine x_iconst (v := (-1)) rfl ki_m1 ?_
                      refine x_iret rfl rfl ?_
                      show jX m_X7_namedSoul 21 0 0 16 [(0, .ref 78), (1, .int v282)] [.int (-1)] _ 0 0 _
                      refine x_goto (tgt := 20) rfl rfl ?_
                      refine x_iret rfl rfl ?_
                      show jX m_X6_byParents 22 0 0 76 [(5, .int v280), (4, .int v4), (3, .int v2), (0, .ref 120), (1, .int a1), (2, .int 0)] [.int (-1), .ref 120] _ 0 0 _
                      refine x_iload (x := v4) rfl rfl ?_
                      refine x_iloadn (x := 0) rfl rfl ?_
                      refine x_iconst (v := 1) rfl ki_1 ?_
                      refine y_iadd (v := 1) rfl (by decide) ?_
                      refine x_inv (N := m_X6_belongs) (As := [.int (-1), .int v4, .int 1]) (b := 120) (st := []) (dx9 := 21) (mc := 0) (ms := 0) (host := "") 6 rfl t_X6_belongs ⟨Or.inl q_6_127, i_X6_belongs.1, i_X6_belongs.2⟩ ⟨by decide, rfl⟩ (congrArg Prod.fst (J.1.1 120 (6, 8) rfl)) rfl (by decide) rfl rfl ⟨by decide, by decide⟩ (sf_X6_belongs_r120_c1 (jr_of jk_m1 (by omega)) (jr_of rfl (by omega)) hD J  (fun v297 h ev297 J S296 => ?_))
                      have Sm := jSm_tr rfl Sm S296
                      show jX m_X6_byParents 22 0 0 84 [(5, .int v280), (4, .int v4), (3, .int v2), (0, .ref 120), (1, .int a1), (2, .int 0)] [.int v297] _ 0 0 _
                      exact jX.sub jsb_n (ct_X6_byParents_r120_c0_84 hD hQ  v297 h (jr_of rfl (by omega)) J Sm)
                    ·
                      refine x_iloadn (x := v282) rfl rfl ?_
                      refine x_iconst (v := 3) rfl ki_3 ?_
                      refine z_idiv rfl rfl jk_3 (by omega) (by omega) (fun v298 ev298 => ?_)
                      refine x_aloadn (x := 78) rfl rfl ?_
                      refine z_getR (N := 16) (b := 32) 7 0 rfl f_7_55 rfl J rfl 9984 ⟨rfl, rfl⟩ rfl ?_
                      refine z_getR (N := 20) (b := 33) 1 0 rfl f_7_63 rfl J rfl 4096 ⟨rfl, rfl⟩ rfl ?_
                      refine z_getM (N := 4) (v := v277) 8 3 rfl f_7_85 rfl J rfl (jmc S279 rfl qv277) ?_
                      refine x_icge (tgt := 36) rfl rfl (ti_ge rfl rfl ⟨fun c299 => ?_, fun c299 => ?_⟩)
                      ·
                        refine x_iconst (v := (-1)) rfl ki_m1 ?_
                        refine x_iret rfl rfl ?_
                        show jX m_X7_namedSoul 21 0 0 16 [(0, .ref 78), (1, .int v282)] [.int (-1)] _ 0 0 _
                        refine x_goto (tgt := 20) rfl rfl ?_
                        refine x_iret rfl rfl ?_
                        show jX m_X6_byParents 22 0 0 76 [(5, .int v280), (4, .int v4), (3, .int v2), (0, .ref 120), (1, .int a1), (2, .int 0)] [.int (-1), .ref 120] _ 0 0 _
                        refine x_iload (x := v4) rfl rfl ?_
                        refine x_iloadn (x := 0) rfl rfl ?_
                        refine x_iconst (v := 1) rfl ki_1 ?_
                        refine y_iadd (v := 1) rfl (by decide) ?_
                        refine x_inv (N := m_X6_belongs) (As := [.int (-1), .int v4, .int 1]) (b := 120) (st := []) (dx9 := 21) (mc := 0) (ms := 0) (host := "") 6 rfl t_X6_belongs ⟨Or.inl q_6_127, i_X6_belongs.1, i_X6_belongs.2⟩ ⟨by decide, rfl⟩ (congrArg Prod.fst (J.1.1 120 (6, 8) rfl)) rfl (by decide) rfl rfl ⟨by decide, by decide⟩ (sf_X6_belongs_r120_c1 (jr_of jk_m1 (by omega)) (jr_of rfl (by omega)) hD J  (fun v301 h ev301 J S300 => ?_))
                        have Sm := jSm_tr rfl Sm S300
                        show jX m_X6_byParents 22 0 0 84 [(5, .int v280), (4, .int v4), (3, .int v2), (0, .ref 120), (1, .int a1), (2, .int 0)] [.int v301] _ 0 0 _
                        exact jX.sub jsb_n (ct_X6_byParents_r120_c0_84 hD hQ  v301 h (jr_of rfl (by omega)) J Sm)
                      ·
                        refine x_aloadn (x := 78) rfl rfl ?_
                        refine z_getR (N := 16) (b := 82) 7 10 rfl f_7_37 rfl J rfl 9994 ⟨rfl, rfl⟩ rfl ?_
                        refine x_iloadn (x := v282) rfl rfl ?_
                        refine z_iald (N := 600) rfl J rfl sg_82_0_600_1_0_1 rfl (by omega) (fun v302 qv302 ev302 => ?_)
                        refine x_goto (tgt := 37) rfl rfl ?_
                        refine x_iret rfl rfl ?_
                        show jX m_X7_namedSoul 21 0 0 16 [(0, .ref 78), (1, .int v282)] [.int v302] _ 0 0 _
                        refine x_goto (tgt := 20) rfl rfl ?_
                        refine x_iret rfl rfl ?_
                        show jX m_X6_byParents 22 0 0 76 [(5, .int v280), (4, .int v4), (3, .int v2), (0, .ref 120), (1, .int a1), (2, .int 0)] [.int v302, .ref 120] _ 0 0 _
                        refine x_iload (x := v4) rfl rfl ?_
                        refine x_iloadn (x := 0) rfl rfl ?_
                        refine x_iconst (v := 1) rfl ki_1 ?_
                        refine y_iadd (v := 1) rfl (by decide) ?_
                        refine x_inv (N := m_X6_belongs) (As := [.int v302, .int v4, .int 1]) (b := 120) (st := []) (dx9 := 21) (mc := 0) (ms := 0) (host := "") 6 rfl t_X6_belongs ⟨Or.inl q_6_127, i_X6_belongs.1, i_X6_belongs.2⟩ ⟨by decide, rfl⟩ (congrArg Prod.fst (J.1.1 120 (6, 8) rfl)) rfl (by decide) rfl rfl ⟨by decide, by decide⟩ (sf_X6_belongs_r120_c1 (jr_of rfl (by omega)) (jr_of rfl (by omega)) hD J  (fun v304 h ev304 J S303 => ?_))
                        have Sm := jSm_tr rfl Sm S303
                        show jX m_X6_byParents 22 0 0 84 [(5, .int v280), (4, .int v4), (3, .int v2), (0, .ref 120), (1, .int a1), (2, .int 0)] [.int v304] _ 0 0 _
                        exact jX.sub jsb_n (ct_X6_byParents_r120_c0_84 hD hQ  v304 h (jr_of rfl (by omega)) J Sm)
              ·
                refine x_aloadn (x := 70) rfl rfl ?_
                refine z_getR (N := 9) (b := 76) 5 7 rfl f_5_28 rfl J rfl 8967 ⟨rfl, rfl⟩ rfl ?_
                refine x_iloadn (x := v284) rfl rfl ?_
                refine z_iald (N := 1200) rfl J rfl sg_76_0_1200_1_0_1 rfl (by omega) (fun v305 qv305 ev305 => ?_)
                refine x_goto (tgt := 27) rfl rfl ?_
                refine x_iret rfl rfl ?_
                show jX m_X5_isNamed 20 0 0 6 [(0, .ref 70), (1, .int v282)] [.int v305] _ 0 0 _
                refine x_ifge (tgt := 18) rfl rfl (ti_ge rfl jk_0 ⟨fun c306 => ?_, fun c306 => ?_⟩)
                ·
                  refine x_iconst (v := 1) rfl ki_1 ?_
                  refine x_goto (tgt := 23) rfl rfl ?_
                  refine x_zret rfl rfl (by decide) ?_
                  show jX m_X7_namedSoul 21 0 0 8 [(0, .ref 78), (1, .int v282)] [.int 1] _ 0 0 _
                  refine x_ifeq (tgt := 19) rfl rfl (ti_eq jk_1 jk_0 (br_f (by omega) ?_))
                  refine x_aloadn (x := 78) rfl rfl ?_
                  refine x_iloadn (x := v282) rfl rfl ?_
                  refine x_inv (N := m_X7_soulAt) (As := [.int v282]) (b := 78) (st := []) (dx9 := 20) (mc := 0) (ms := 0) (host := "") 7 rfl t_X7_soulAt ⟨Or.inl q_7_153, i_X7_soulAt.1, i_X7_soulAt.2⟩ ⟨by decide, rfl⟩ (congrArg Prod.fst (J.1.1 78 (7, 16) rfl)) rfl (by decide) rfl rfl ⟨by decide, by decide⟩ (jC.of rfl k_X7_soulAt rfl ?_)
                  show jX m_X7_soulAt 20 0 0 0 [(0, .ref 78), (1, .int v282)] [] _ 0 0 _
                  refine x_iloadn (x := v282) rfl rfl ?_
                  refine x_iflt (tgt := 36) rfl rfl (ti_lt rfl jk_0 (br_f (by omega) ?_))
                  refine x_iloadn (x := v282) rfl rfl ?_
                  refine x_sipush (v := 600) rfl ks_600 ?_
                  refine x_icge (tgt := 36) rfl rfl (ti_ge rfl jk_600 ⟨fun c307 => ?_, fun c307 => ?_⟩)
                  ·
                    refine x_iconst (v := (-1)) rfl ki_m1 ?_
                    refine x_iret rfl rfl ?_
                    show jX m_X7_namedSoul 21 0 0 16 [(0, .ref 78), (1, .int v282)] [.int (-1)] _ 0 0 _
                    refine x_goto (tgt := 20) rfl rfl ?_
                    refine x_iret rfl rfl ?_
                    show jX m_X6_byParents 22 0 0 76 [(5, .int v280), (4, .int v4), (3, .int v2), (0, .ref 120), (1, .int a1), (2, .int 0)] [.int (-1), .ref 120] _ 0 0 _
                    refine x_iload (x := v4) rfl rfl ?_
                    refine x_iloadn (x := 0) rfl rfl ?_
                    refine x_iconst (v := 1) rfl ki_1 ?_
                    refine y_iadd (v := 1) rfl (by decide) ?_
                    refine x_inv (N := m_X6_belongs) (As := [.int (-1), .int v4, .int 1]) (b := 120) (st := []) (dx9 := 21) (mc := 0) (ms := 0) (host := "") 6 rfl t_X6_belongs ⟨Or.inl q_6_127, i_X6_belongs.1, i_X6_belongs.2⟩ ⟨by decide, rfl⟩ (congrArg Prod.fst (J.1.1 120 (6, 8) rfl)) rfl (by decide) rfl rfl ⟨by decide, by decide⟩ (sf_X6_belongs_r120_c1 (jr_of jk_m1 (by omega)) (jr_of rfl (by omega)) hD J  (fun v309 h ev309 J S308 => ?_))
                    have Sm := jSm_tr rfl Sm S308
                    show jX m_X6_byParents 22 0 0 84 [(5, .int v280), (4, .int v4), (3, .int v2), (0, .ref 120), (1, .int a1), (2, .int 0)] [.int v309] _ 0 0 _
                    exact jX.sub jsb_n (ct_X6_byParents_r120_c0_84 hD hQ  v309 h (jr_of rfl (by omega)) J Sm)
                  ·
                    refine x_iloadn (x := v282) rfl rfl ?_
                    refine x_iconst (v := 3) rfl ki_3 ?_
                    refine z_idiv rfl rfl jk_3 (by omega) (by omega) (fun v310 ev310 => ?_)
                    refine x_aloadn (x := 78) rfl rfl ?_
                    refine z_getR (N := 16) (b := 32) 7 0 rfl f_7_55 rfl J rfl 9984 ⟨rfl, rfl⟩ rfl ?_
                    refine z_getR (N := 20) (b := 33) 1 0 rfl f_7_63 rfl J rfl 4096 ⟨rfl, rfl⟩ rfl ?_
                    refine z_getM (N := 4) (v := v277) 8 3 rfl f_7_85 rfl J rfl (jmc S279 rfl qv277) ?_
                    refine x_icge (tgt := 36) rfl rfl (ti_ge rfl rfl ⟨fun c311 => ?_, fun c311 => ?_⟩)
                    ·
                      refine x_iconst (v := (-1)) rfl ki_m1 ?_
                      refine x_iret rfl rfl ?_
                      show jX m_X7_namedSoul 21 0 0 16 [(0, .ref 78), (1, .int v282)] [.int (-1)] _ 0 0 _
                      refine x_goto (tgt := 20) rfl rfl ?_
                      refine x_iret rfl rfl ?_
                      show jX m_X6_byParents 22 0 0 76 [(5, .int v280), (4, .int v4), (3, .int v2), (0, .ref 120), (1, .int a1), (2, .int 0)] [.int (-1), .ref 120] _ 0 0 _
                      refine x_iload (x := v4) rfl rfl ?_
                      refine x_iloadn (x := 0) rfl rfl ?_
                      refine x_iconst (v := 1) rfl ki_1 ?_
                      refine y_iadd (v := 1) rfl (by decide) ?_
                      refine x_inv (N := m_X6_belongs) (As := [.int (-1), .int v4, .int 1]) (b := 120) (st := []) (dx9 := 21) (mc := 0) (ms := 0) (host := "") 6 rfl t_X6_belongs ⟨Or.inl q_6_127, i_X6_belongs.1, i_X6_belongs.2⟩ ⟨by decide, rfl⟩ (congrArg Prod.fst (J.1.1 120 (6, 8) rfl)) rfl (by decide) rfl rfl ⟨by decide, by decide⟩ (sf_X6_belongs_r120_c1 (jr_of jk_m1 (by omega)) (jr_of rfl (by omega)) hD J  (fun v313 h ev313 J S312 => ?_))
                      have Sm := jSm_tr rfl Sm S312
                      show jX m_X6_byParents 22 0 0 84 [(5, .int v280), (4, .int v4), (3, .int v2), (0, .ref 120), (1, .int a1), (2, .int 0)] [.int v313] _ 0 0 _
                      exact jX.sub jsb_n (ct_X6_byParents_r120_c0_84 hD hQ  v313 h (jr_of rfl (by omega)) J Sm)
                    ·
                      refine x_aloadn (x := 78) rfl rfl ?_
                      refine z_getR (N := 16) (b := 82) 7 10 rfl f_7_37 rfl J rfl 9994 ⟨rfl, rfl⟩ rfl ?_
                      refine x_iloadn (x := v282) rfl rfl ?_
                      refine z_iald (N := 600) rfl J rfl sg_82_0_600_1_0_1 rfl (by omega) (fun v314 qv314 ev314 => ?_)
                      refine x_goto (tgt := 37) rfl rfl ?_
                      refine x_iret rfl rfl ?_
                      show jX m_X7_namedSoul 21 0 0 16 [(0, .ref 78), (1, .int v282)] [.int v314] _ 0 0 _
                      refine x_goto (tgt := 20) rfl rfl ?_
                      refine x_iret rfl rfl ?_
                      show jX m_X6_byParents 22 0 0 76 [(5, .int v280), (4, .int v4), (3, .int v2), (0, .ref 120), (1, .int a1), (2, .int 0)] [.int v314, .ref 120] _ 0 0 _
                      refine x_iload (x := v4) rfl rfl ?_
                      refine x_iloadn (x := 0) rfl rfl ?_
                      refine x_iconst (v := 1) rfl ki_1 ?_
                      refine y_iadd (v := 1) rfl (by decide) ?_
                      refine x_inv (N := m_X6_belongs) (As := [.int v314, .int v4, .int 1]) (b := 120) (st := []) (dx9 := 21) (mc := 0) (ms := 0) (host := "") 6 rfl t_X6_belongs ⟨Or.inl q_6_127, i_X6_belongs.1, i_X6_belongs.2⟩ ⟨by decide, rfl⟩ (congrArg Prod.fst (J.1.1 120 (6, 8) rfl)) rfl (by decide) rfl rfl ⟨by decide, by decide⟩ (sf_X6_belongs_r120_c1 (jr_of rfl (by omega)) (jr_of rfl (by omega)) hD J  (fun v316 h ev316 J S315 => ?_))
                      have Sm := jSm_tr rfl Sm S315
                      show jX m_X6_byParents 22 0 0 84 [(5, .int v280), (4, .int v4), (3, .int v2), (0, .ref 120), (1, .int a1), (2, .int 0)] [.int v316] _ 0 0 _
                      exact jX.sub jsb_n (ct_X6_byParents_r120_c0_84 hD hQ  v316 h (jr_of rfl (by omega)) J Sm)
                ·
                  refine x_aloadn (x := 70) rfl rfl ?_
                  refine x_iloadn (x := v282) rfl rfl ?_
                  refine x_iconst (v := 1) rfl ki_1 ?_
                  refine x_inv (N := m_X5_lengthOf) (As := [.int v282, .int 1]) (b := 70) (st := []) (dx9 := 19) (mc := 0) (ms := 0) (host := "") 5 rfl t_X5_lengthOf ⟨Or.inl q_5_133, i_X5_lengthOf.1, i_X5_lengthOf.2⟩ ⟨by decide, rfl⟩ (congrArg Prod.fst (J.1.1 70 (5, 9) rfl)) rfl (by decide) rfl rfl ⟨by decide, by decide⟩ (jC.of rfl k_X5_lengthOf rfl ?_)
                  show jX m_X5_lengthOf 19 0 0 0 [(0, .ref 70), (1, .int v282), (2, .int 1)] [] _ 0 0 _
                  refine x_iloadn (x := v282) rfl rfl ?_
                  refine x_iconst (v := 2) rfl ki_2 ?_
                  refine z_imul rfl rfl jk_2 (by omega) (fun v317 ev317 => ?_)
                  refine x_iloadn (x := 1) rfl rfl ?_
                  refine z_iadd rfl rfl jk_1 (by omega) (fun v318 ev318 => ?_)
                  refine x_istoren (lsx9 := [(3, .int v318), (0, .ref 70), (1, .int v282), (2, .int 1)]) rfl rfl rfl ?_
                  refine x_iloadn (x := v318) rfl rfl ?_
                  refine x_iflt (tgt := 26) rfl rfl (ti_lt rfl jk_0 (br_f (by omega) ?_))
                  refine x_iloadn (x := v318) rfl rfl ?_
                  refine x_sipush (v := 1200) rfl ks_1200 ?_
                  refine x_icge (tgt := 26) rfl rfl (ti_ge rfl jk_1200 ⟨fun c319 => ?_, fun c319 => ?_⟩)
                  ·
                    refine x_iconst (v := (-1)) rfl ki_m1 ?_
                    refine x_iret rfl rfl ?_
                    show jX m_X5_isNamed 20 0 0 15 [(0, .ref 70), (1, .int v282)] [.int (-1)] _ 0 0 _
                    refine x_iflt (tgt := 22) rfl rfl (ti_lt jk_m1 jk_0 (br_t (by omega) ?_))
                    refine x_iconst (v := 0) rfl ki_0 ?_
                    refine x_zret rfl rfl (by decide) ?_
                    show jX m_X7_namedSoul 21 0 0 8 [(0, .ref 78), (1, .int v282)] [.int 0] _ 0 0 _
                    refine x_ifeq (tgt := 19) rfl rfl (ti_eq jk_0 jk_0 (br_t (by omega) ?_))
                    refine x_iconst (v := (-1)) rfl ki_m1 ?_
                    refine x_iret rfl rfl ?_
                    show jX m_X6_byParents 22 0 0 76 [(5, .int v280), (4, .int v4), (3, .int v2), (0, .ref 120), (1, .int a1), (2, .int 0)] [.int (-1), .ref 120] _ 0 0 _
                    refine x_iload (x := v4) rfl rfl ?_
                    refine x_iloadn (x := 0) rfl rfl ?_
                    refine x_iconst (v := 1) rfl ki_1 ?_
                    refine y_iadd (v := 1) rfl (by decide) ?_
                    refine x_inv (N := m_X6_belongs) (As := [.int (-1), .int v4, .int 1]) (b := 120) (st := []) (dx9 := 21) (mc := 0) (ms := 0) (host := "") 6 rfl t_X6_belongs ⟨Or.inl q_6_127, i_X6_belongs.1, i_X6_belongs.2⟩ ⟨by decide, rfl⟩ (congrArg Prod.fst (J.1.1 120 (6, 8) rfl)) rfl (by decide) rfl rfl ⟨by decide, by decide⟩ (sf_X6_belongs_r120_c1 (jr_of jk_m1 (by omega)) (jr_of rfl (by omega)) hD J  (fun v321 h ev321 J S320 => ?_))
                    have Sm := jSm_tr rfl Sm S320
                    show jX m_X6_byParents 22 0 0 84 [(5, .int v280), (4, .int v4), (3, .int v2), (0, .ref 120), (1, .int a1), (2, .int 0)] [.int v321] _ 0 0 _
                    exact jX.sub jsb_n (ct_X6_byParents_r120_c0_84 hD hQ  v321 h (jr_of rfl (by omega)) J Sm)
                  ·
                    refine x_aloadn (x := 70) rfl rfl ?_
                    refine z_getR (N := 9) (b := 76) 5 7 rfl f_5_28 rfl J rfl 8967 ⟨rfl, rfl⟩ rfl ?_
                    refine x_iloadn (x := v318) rfl rfl ?_
                    refine z_iald (N := 1200) rfl J rfl sg_76_0_1200_1_0_1 rfl (by omega) (fun v322 qv322 ev322 => ?_)
                    refine x_goto (tgt := 27) rfl rfl ?_
                    refine x_iret rfl rfl ?_
                    show jX m_X5_isNamed 20 0 0 15 [(0, .ref 70), (1, .int v282)] [.int v322] _ 0 0 _
                    refine x_iflt (tgt := 22) rfl rfl (ti_lt rfl jk_0 ⟨fun c323 => ?_, fun c323 => ?_⟩)
                    ·
                      refine x_iconst (v := 0) rfl ki_0 ?_
                      refine x_zret rfl rfl (by decide) ?_
                      show jX m_X7_namedSoul 21 0 0 8 [(0, .ref 78), (1, .int v282)] [.int 0] _ 0 0 _
                      refine x_ifeq (tgt := 19) rfl rfl (ti_eq jk_0 jk_0 (br_t (by omega) ?_))
                      refine x_iconst (v := (-1)) rfl ki_m1 ?_
                      refine x_iret rfl rfl ?_
                      show jX m_X6_byParents 22 0 0 76 [(5, .int v280), (4, .int v4), (3, .int v2), (0, .ref 120), (1, .int a1), (2, .int 0)] [.int (-1), .ref 120] _ 0 0 _
                      refine x_iload (x := v4) rfl rfl ?_
                      refine x_iloadn (x := 0) rfl rfl ?_
                      refine x_iconst (v := 1) rfl ki_1 ?_
                      refine y_iadd (v := 1) rfl (by decide) ?_
                      refine x_inv (N := m_X6_belongs) (As := [.int (-1), .int v4, .int 1]) (b := 120) (st := []) (dx9 := 21) (mc := 0) (ms := 0) (host := "") 6 rfl t_X6_belongs ⟨Or.inl q_6_127, i_X6_belongs.1, i_X6_belongs.2⟩ ⟨by decide, rfl⟩ (congrArg Prod.fst (J.1.1 120 (6, 8) rfl)) rfl (by decide) rfl rfl ⟨by decide, by decide⟩ (sf_X6_belongs_r120_c1 (jr_of jk_m1 (by omega)) (jr_of rfl (by omega)) hD J  (fun v325 h ev325 J S324 => ?_))
                      have Sm := jSm_tr rfl Sm S324
                      show jX m_X6_byParents 22 0 0 84 [(5, .int v280), (4, .int v4), (3, .int v2), (0, .ref 120), (1, .int a1), (2, .int 0)] [.int v325] _ 0 0 _
                      exact jX.sub jsb_n (ct_X6_byParents_r120_c0_84 hD hQ  v325 h (jr_of rfl (by omega)) J Sm)
                    ·
                      refine x_iconst (v := 1) rfl ki_1 ?_
                      refine x_goto (tgt := 23) rfl rfl ?_
                      refine x_zret rfl rfl (by decide) ?_
                      show jX m_X7_namedSoul 21 0 0 8 [(0, .ref 78), (1, .int v282)] [.int 1] _ 0 0 _
                      refine x_ifeq (tgt := 19) rfl rfl (ti_eq jk_1 jk_0 (br_f (by omega) ?_))
                      refine x_aloadn (x := 78) rfl rfl ?_
                      refine x_iloadn (x := v282) rfl rfl ?_
                      refine x_inv (N := m_X7_soulAt) (As := [.int v282]) (b := 78) (st := []) (dx9 := 20) (mc := 0) (ms := 0) (host := "") 7 rfl t_X7_soulAt ⟨Or.inl q_7_153, i_X7_soulAt.1, i_X7_soulAt.2⟩ ⟨by decide, rfl⟩ (congrArg Prod.fst (J.1.1 78 (7, 16) rfl)) rfl (by decide) rfl rfl ⟨by decide, by decide⟩ (jC.of rfl k_X7_soulAt rfl ?_)
                      show jX m_X7_soulAt 20 0 0 0 [(0, .ref 78), (1, .int v282)] [] _ 0 0 _
                      refine x_iloadn (x := v282) rfl rfl ?_
                      refine x_iflt (tgt := 36) rfl rfl (ti_lt rfl jk_0 (br_f (by omega) ?_))
                      refine x_iloadn (x := v282) rfl rfl ?_
                      refine x_sipush (v := 600) rfl ks_600 ?_
                      refine x_icge (tgt := 36) rfl rfl (ti_ge rfl jk_600 ⟨fun c326 => ?_, fun c326 => ?_⟩)
                      ·
                        refine x_iconst (v := (-1)) rfl ki_m1 ?_
                        refine x_iret rfl rfl ?_
                        show jX m_X7_namedSoul 21 0 0 16 [(0, .ref 78), (1, .int v282)] [.int (-1)] _ 0 0 _
                        refine x_goto (tgt := 20) rfl rfl ?_
                        refine x_iret rfl rfl ?_
                        show jX m_X6_byParents 22 0 0 76 [(5, .int v280), (4, .int v4), (3, .int v2), (0, .ref 120), (1, .int a1), (2, .int 0)] [.int (-1), .ref 120] _ 0 0 _
                        refine x_iload (x := v4) rfl rfl ?_
                        refine x_iloadn (x := 0) rfl rfl ?_
                        refine x_iconst (v := 1) rfl ki_1 ?_
                        refine y_iadd (v := 1) rfl (by decide) ?_
                        refine x_inv (N := m_X6_belongs) (As := [.int (-1), .int v4, .int 1]) (b := 120) (st := []) (dx9 := 21) (mc := 0) (ms := 0) (host := "") 6 rfl t_X6_belongs ⟨Or.inl q_6_127, i_X6_belongs.1, i_X6_belongs.2⟩ ⟨by decide, rfl⟩ (congrArg Prod.fst (J.1.1 120 (6, 8) rfl)) rfl (by decide) rfl rfl ⟨by decide, by decide⟩ (sf_X6_belongs_r120_c1 (jr_of jk_m1 (by omega)) (jr_of rfl (by omega)) hD J  (fun v328 h ev328 J S327 => ?_))
                        have Sm := jSm_tr rfl Sm S327
                        show jX m_X6_byParents 22 0 0 84 [(5, .int v280), (4, .int v4), (3, .int v2), (0, .ref 120), (1, .int a1), (2, .int 0)] [.int v328] _ 0 0 _
                        exact jX.sub jsb_n (ct_X6_byParents_r120_c0_84 hD hQ  v328 h (jr_of rfl (by omega)) J Sm)
                      ·
                        refine x_iloadn (x := v282) rfl rfl ?_
                        refine x_iconst (v := 3) rfl ki_3 ?_
                        refine z_idiv rfl rfl jk_3 (by omega) (by omega) (fun v329 ev329 => ?_)
                        refine x_aloadn (x := 78) rfl rfl ?_
                        refine z_getR (N := 16) (b := 32) 7 0 rfl f_7_55 rfl J rfl 9984 ⟨rfl, rfl⟩ rfl ?_
                        refine z_getR (N := 20) (b := 33) 1 0 rfl f_7_63 rfl J rfl 4096 ⟨rfl, rfl⟩ rfl ?_
                        refine z_getM (N := 4) (v := v277) 8 3 rfl f_7_85 rfl J rfl (jmc S279 rfl qv277) ?_
                        refine x_icge (tgt := 36) rfl rfl (ti_ge rfl rfl ⟨fun c330 => ?_, fun c330 => ?_⟩)
                        ·
                          refine x_iconst (v := (-1)) rfl ki_m1 ?_
                          refine x_iret rfl rfl ?_
                          show jX m_X7_namedSoul 21 0 0 16 [(0, .ref 78), (1, .int v282)] [.int (-1)] _ 0 0 _
                          refine x_goto (tgt := 20) rfl rfl ?_
                          refine x_iret rfl rfl ?_
                          show jX m_X6_byParents 22 0 0 76 [(5, .int v280), (4, .int v4), (3, .int v2), (0, .ref 120), (1, .int a1), (2, .int 0)] [.int (-1), .ref 120] _ 0 0 _
                          refine x_iload (x := v4) rfl rfl ?_
                          refine x_iloadn (x := 0) rfl rfl ?_
                          refine x_iconst (v := 1) rfl ki_1 ?_
                          refine y_iadd (v := 1) rfl (by decide) ?_
                          refine x_inv (N := m_X6_belongs) (As := [.int (-1), .int v4, .int 1]) (b := 120) (st := []) (dx9 := 21) (mc := 0) (ms := 0) (host := "") 6 rfl t_X6_belongs ⟨Or.inl q_6_127, i_X6_belongs.1, i_X6_belongs.2⟩ ⟨by decide, rfl⟩ (congrArg Prod.fst (J.1.1 120 (6, 8) rfl)) rfl (by decide) rfl rfl ⟨by decide, by decide⟩ (sf_X6_belongs_r120_c1 (jr_of jk_m1 (by omega)) (jr_of rfl (by omega)) hD J  (fun v332 h ev332 J S331 => ?_))
                          have Sm := jSm_tr rfl Sm S331
                          show jX m_X6_byParents 22 0 0 84 [(5, .int v280), (4, .int v4), (3, .int v2), (0, .ref 120), (1, .int a1), (2, .int 0)] [.int v332] _ 0 0 _
                          exact jX.sub jsb_n (ct_X6_byParents_r120_c0_84 hD hQ  v332 h (jr_of rfl (by omega)) J Sm)
                        ·
                          refine x_aloadn (x := 78) rfl rfl ?_
                          refine z_getR (N := 16) (b := 82) 7 10 rfl f_7_37 rfl J rfl 9994 ⟨rfl, rfl⟩ rfl ?_
                          refine x_iloadn (x := v282) rfl rfl ?_
                          refine z_iald (N := 600) rfl J rfl sg_82_0_600_1_0_1 rfl (by omega) (fun v333 qv333 ev333 => ?_)
                          refine x_goto (tgt := 37) rfl rfl ?_
                          refine x_iret rfl rfl ?_
                          show jX m_X7_namedSoul 21 0 0 16 [(0, .ref 78), (1, .int v282)] [.int v333] _ 0 0 _
                          refine x_goto (tgt := 20) rfl rfl ?_
                          refine x_iret rfl rfl ?_
                          show jX m_X6_byParents 22 0 0 76 [(5, .int v280), (4, .int v4), (3, .int v2), (0, .ref 120), (1, .int a1), (2, .int 0)] [.int v333, .ref 120] _ 0 0 _
                          refine x_iload (x := v4) rfl rfl ?_
                          refine x_iloadn (x := 0) rfl rfl ?_
                          refine x_iconst (v := 1) rfl ki_1 ?_
                          refine y_iadd (v := 1) rfl (by decide) ?_
                          refine x_inv (N := m_X6_belongs) (As := [.int v333, .int v4, .int 1]) (b := 120) (st := []) (dx9 := 21) (mc := 0) (ms := 0) (host := "") 6 rfl t_X6_belongs ⟨Or.inl q_6_127, i_X6_belongs.1, i_X6_belongs.2⟩ ⟨by decide, rfl⟩ (congrArg Prod.fst (J.1.1 120 (6, 8) rfl)) rfl (by decide) rfl rfl ⟨by decide, by decide⟩ (sf_X6_belongs_r120_c1 (jr_of rfl (by omega)) (jr_of rfl (by omega)) hD J  (fun v335 h ev335 J S334 => ?_))
                          have Sm := jSm_tr rfl Sm S334
                          show jX m_X6_byParents 22 0 0 84 [(5, .int v280), (4, .int v4), (3, .int v2), (0, .ref 120), (1, .int a1), (2, .int 0)] [.int v335] _ 0 0 _
                          exact jX.sub jsb_n (ct_X6_byParents_r120_c0_84 hD hQ  v335 h (jr_of rfl (by omega)) J Sm)
            ·
              refine x_iload (x := v280) rfl rfl ?_
              refine x_goto (tgt := 84) rfl rfl ?_
              exact jX.sub jsb_n (ct_X6_byParents_r120_c0_84 hD hQ  v280 h (jr_of rfl (by omega)) J Sm)
          ·
            refine x_aloadn (x := 78) rfl rfl ?_
            refine z_getR (N := 16) (b := 82) 7 10 rfl f_7_37 rfl J rfl 9994 ⟨rfl, rfl⟩ rfl ?_
            refine x_iloadn (x := v5) rfl rfl ?_
            refine z_iald (N := 600) rfl J rfl sg_82_0_600_1_0_1 rfl (by omega) (fun v336 qv336 ev336 => ?_)
            refine x_goto (tgt := 37) rfl rfl ?_
            refine x_iret rfl rfl ?_
            show jX m_X7_namedSoul 21 0 0 16 [(0, .ref 78), (1, .int v5)] [.int v336] _ 0 0 _
            refine x_goto (tgt := 20) rfl rfl ?_
            refine x_iret rfl rfl ?_
            show jX m_X6_byParents 22 0 0 44 [(4, .int v4), (3, .int v2), (0, .ref 120), (1, .int a1), (2, .int 0)] [.int v336, .ref 120] _ 0 0 _
            refine x_iload (x := v4) rfl rfl ?_
            refine x_iloadn (x := 0) rfl rfl ?_
            refine x_iconst (v := 1) rfl ki_1 ?_
            refine y_iadd (v := 1) rfl (by decide) ?_
            refine x_inv (N := m_X6_belongs) (As := [.int v336, .int v4, .int 1]) (b := 120) (st := []) (dx9 := 21) (mc := 0) (ms := 0) (host := "") 6 rfl t_X6_belongs ⟨Or.inl q_6_127, i_X6_belongs.1, i_X6_belongs.2⟩ ⟨by decide, rfl⟩ (congrArg Prod.fst (J.1.1 120 (6, 8) rfl)) rfl (by decide) rfl rfl ⟨by decide, by decide⟩ (sf_X6_belongs_r120_c1 (jr_of rfl (by omega)) (jr_of rfl (by omega)) hD J  (fun v338 h ev338 J S337 => ?_))
            have Sm := jSm_tr rfl Sm S337
            show jX m_X6_byParents 22 0 0 52 [(4, .int v4), (3, .int v2), (0, .ref 120), (1, .int a1), (2, .int 0)] [.int v338] _ 0 0 _
            refine x_istore (lsx9 := [(5, .int v338), (4, .int v4), (3, .int v2), (0, .ref 120), (1, .int a1), (2, .int 0)]) rfl rfl rfl ?_
            refine x_iload (x := v338) rfl rfl ?_
            refine x_iconst (v := (-1)) rfl ki_m1 ?_
            refine x_iceq (tgt := 65) rfl rfl (ti_eq rfl jk_m1 ⟨fun c339 => ?_, fun c339 => ?_⟩)
            ·
              refine x_aloadn (x := 120) rfl rfl ?_
              refine x_aloadn (x := 120) rfl rfl ?_
              refine z_getR (N := 8) (b := 78) 6 1 rfl f_6_32 rfl J rfl 15361 ⟨rfl, rfl⟩ rfl ?_
              refine x_iloadn (x := v2) rfl rfl ?_
              refine x_iconst (v := 2) rfl ki_2 ?_
              refine z_iadd rfl rfl jk_2 (by omega) (fun v340 ev340 => ?_)
              refine x_inv (N := m_X7_namedSoul) (As := [.int v340]) (b := 78) (st := [.ref 120]) (dx9 := 21) (mc := 0) (ms := 0) (host := "") 7 rfl t_X7_namedSoul ⟨Or.inl q_6_124, i_X7_namedSoul.1, i_X7_namedSoul.2⟩ ⟨by decide, rfl⟩ (congrArg Prod.fst (J.1.1 78 (7, 16) rfl)) rfl (by decide) rfl rfl ⟨by decide, by decide⟩ (jC.of rfl k_X7_namedSoul rfl ?_)
              show jX m_X7_namedSoul 21 0 0 0 [(0, .ref 78), (1, .int v340)] [] _ 0 0 _
              refine x_aloadn (x := 78) rfl rfl ?_
              refine z_getR (N := 16) (b := 70) 7 1 rfl f_7_59 rfl J rfl 9985 ⟨rfl, rfl⟩ rfl ?_
              refine x_iloadn (x := v340) rfl rfl ?_
              refine x_inv (N := m_X5_isNamed) (As := [.int v340]) (b := 70) (st := []) (dx9 := 20) (mc := 0) (ms := 0) (host := "") 5 rfl t_X5_isNamed ⟨Or.inl q_7_173, i_X5_isNamed.1, i_X5_isNamed.2⟩ ⟨by decide, rfl⟩ (congrArg Prod.fst (J.1.1 70 (5, 9) rfl)) rfl (by decide) rfl rfl ⟨by decide, by decide⟩ (jC.of rfl k_X5_isNamed rfl ?_)
              show jX m_X5_isNamed 20 0 0 0 [(0, .ref 70), (1, .int v340)] [] _ 0 0 _
              refine x_aloadn (x := 70) rfl rfl ?_
              refine x_iloadn (x := v340) rfl rfl ?_
              refine x_iconst (v := 0) rfl ki_0 ?_
              refine x_inv (N := m_X5_lengthOf) (As := [.int v340, .int 0]) (b := 70) (st := []) (dx9 := 19) (mc := 0) (ms := 0) (host := "") 5 rfl t_X5_lengthOf ⟨Or.inl q_5_133, i_X5_lengthOf.1, i_X5_lengthOf.2⟩ ⟨by decide, rfl⟩ (congrArg Prod.fst (J.1.1 70 (5, 9) rfl)) rfl (by decide) rfl rfl ⟨by decide, by decide⟩ (jC.of rfl k_X5_lengthOf rfl ?_)
              show jX m_X5_lengthOf 19 0 0 0 [(0, .ref 70), (1, .int v340), (2, .int 0)] [] _ 0 0 _
              refine x_iloadn (x := v340) rfl rfl ?_
              refine x_iconst (v := 2) rfl ki_2 ?_
              refine z_imul rfl rfl jk_2 (by omega) (fun v341 ev341 => ?_)
              refine x_iloadn (x := 0) rfl rfl ?_
              refine z_iadd rfl rfl jk_0 (by omega) (fun v342 ev342 => ?_)
              refine x_istoren (lsx9 := [(3, .int v342), (0, .ref 70), (1, .int v340), (2, .int 0)]) rfl rfl rfl ?_
              refine x_iloadn (x := v342) rfl rfl ?_
              refine x_iflt (tgt := 26) rfl rfl (ti_lt rfl jk_0 (br_f (by omega) ?_))
              refine x_iloadn (x := v342) rfl rfl ?_
              refine x_sipush (v := 1200) rfl ks_1200 ?_
              refine x_icge (tgt := 26) rfl rfl (ti_ge rfl jk_1200 ⟨fun c343 => ?_, fun c343 => ?_⟩)
              ·
                refine x_iconst (v := (-1)) rfl ki_m1 ?_
                refine x_iret rfl rfl ?_
                show jX m_X5_isNamed 20 0 0 6 [(0, .ref 70), (1, .int v340)] [.int (-1)] _ 0 0 _
                refine x_ifge (tgt := 18) rfl rfl (ti_ge jk_m1 jk_0 (br_f (by omega) ?_))
                refine x_aloadn (x := 70) rfl rfl ?_
                refine x_iloadn (x := v340) rfl rfl ?_
                refine x_iconst (v := 1) rfl ki_1 ?_
                refine x_inv (N := m_X5_lengthOf) (As := [.int v340, .int 1]) (b := 70) (st := []) (dx9 := 19) (mc := 0) (ms := 0) (host := "") 5 rfl t_X5_lengthOf ⟨Or.inl q_5_133, i_X5_lengthOf.1, i_X5_lengthOf.2⟩ ⟨by decide, rfl⟩ (congrArg Prod.fst (J.1.1 70 (5, 9) rfl)) rfl (by decide) rfl rfl ⟨by decide, by decide⟩ (jC.of rfl k_X5_lengthOf rfl ?_)
                show jX m_X5_lengthOf 19 0 0 0 [(0, .ref 70), (1, .int v340), (2, .int 1)] [] _ 0 0 _
                refine x_iloadn (x := v340) rfl rfl ?_
                refine x_iconst (v := 2) rfl ki_2 ?_
                refine z_imul rfl rfl jk_2 (by omega) (fun v344 ev344 => ?_)
                refine x_iloadn (x := 1) rfl rfl ?_
                refine z_iadd rfl rfl jk_1 (by omega) (fun v345 ev345 => ?_)
                refine x_istoren (lsx9 := [(3, .int v345), (0, .ref 70), (1, .int v340), (2, .int 1)]) rfl rfl rfl ?_
                refine x_iloadn (x := v345) rfl rfl ?_
                refine x_iflt (tgt := 26) rfl rfl (ti_lt rfl jk_0 (br_f (by omega) ?_))
                refine x_iloadn (x := v345) rfl rfl ?_
                refine x_sipush (v := 1200) rfl ks_1200 ?_
                refine x_icge (tgt := 26) rfl rfl (ti_ge rfl jk_1200 ⟨fun c346 => ?_, fun c346 => ?_⟩)
                ·
                  refine x_iconst (v := (-1)) rfl ki_m1 ?_
                  refine x_iret rfl rfl ?_
                  show jX m_X5_isNamed 20 0 0 15 [(0, .ref 70), (1, .int v340)] [.int (-1)] _ 0 0 _
                  refine x_iflt (tgt := 22) rfl rfl (ti_lt jk_m1 jk_0 (br_t (by omega) ?_))
                  refine x_iconst (v := 0) rfl ki_0 ?_
                  refine x_zret rfl rfl (by decide) ?_
                  show jX m_X7_namedSoul 21 0 0 8 [(0, .ref 78), (1, .int v340)] [.int 0] _ 0 0 _
                  refine x_ifeq (tgt := 19) rfl rfl (ti_eq jk_0 jk_0 (br_t (by omega) ?_))
                  refine x_iconst (v := (-1)) rfl ki_m1 ?_
                  refine x_iret rfl rfl ?_
                  show jX m_X6_byParents 22 0 0 76 [(5, .int v338), (4, .int v4), (3, .int v2), (0, .ref 120), (1, .int a1), (2, .int 0)] [.int (-1), .ref 120] _ 0 0 _
                  refine x_iload (x := v4) rfl rfl ?_
                  refine x_iloadn (x := 0) rfl rfl ?_
                  refine x_iconst (v := 1) rfl ki_1 ?_
                  refine y_iadd (v := 1) rfl (by decide) ?_
                  refine x_inv (N := m_X6_belongs) (As := [.int (-1), .int v4, .int 1]) (b := 120) (st := []) (dx9 := 21) (mc := 0) (ms := 0) (host := "") 6 rfl t_X6_belongs ⟨Or.inl q_6_127, i_X6_belongs.1, i_X6_belongs.2⟩ ⟨by decide, rfl⟩ (congrArg Prod.fst (J.1.1 120 (6, 8) rfl)) rfl (by decide) rfl rfl ⟨by decide, by decide⟩ (sf_X6_belongs_r120_c1 (jr_of jk_m1 (by omega)) (jr_of rfl (by omega)) hD J  (fun v348 h ev348 J S347 => ?_))
                  have Sm := jSm_tr rfl Sm S347
                  show jX m_X6_byParents 22 0 0 84 [(5, .int v338), (4, .int v4), (3, .int v2), (0, .ref 120), (1, .int a1), (2, .int 0)] [.int v348] _ 0 0 _
                  exact jX.sub jsb_n (ct_X6_byParents_r120_c0_84 hD hQ  v348 h (jr_of rfl (by omega)) J Sm)
                ·
                  refine x_aloadn (x := 70) rfl rfl ?_
                  refine z_getR (N := 9) (b := 76) 5 7 rfl f_5_28 rfl J rfl 8967 ⟨rfl, rfl⟩ rfl ?_
                  refine x_iloadn (x := v345) rfl rfl ?_
                  refine z_iald (N := 1200) rfl J rfl sg_76_0_1200_1_0_1 rfl (by omega) (fun v349 qv349 ev349 => ?_)
                  refine x_goto (tgt := 27) rfl rfl ?_
                  refine x_iret rfl rfl ?_
                  show jX m_X5_isNamed 20 0 0 15 [(0, .ref 70), (1, .int v340)] [.int v349] _ 0 0 _
                  refine x_iflt (tgt := 22) rfl rfl (ti_lt rfl jk_0 ⟨fun c350 => ?_, fun c350 => ?_⟩)
                  ·
                    refine x_iconst (v := 0) rfl ki_0 ?_
                    refine x_zret rfl rfl (by decide) ?_
                    show jX m_X7_namedSoul 21 0 0 8 [(0, .ref 78), (1, .int v340)] [.int 0] _ 0 0 _
                    refine x_ifeq (tgt := 19) rfl rfl (ti_eq jk_0 jk_0 (br_t (by omega) ?_))
                    refine x_iconst (v := (-1)) rfl ki_m1 ?_
                    refine x_iret rfl rfl ?_
                    show jX m_X6_byParents 22 0 0 76 [(5, .int v338), (4, .int v4), (3, .int v2), (0, .ref 120), (1, .int a1), (2, .int 0)] [.int (-1), .ref 120] _ 0 0 _
                    refine x_iload (x := v4) rfl rfl ?_
                    refine x_iloadn (x := 0) rfl rfl ?_
                    refine x_iconst (v := 1) rfl ki_1 ?_
                    refine y_iadd (v := 1) rfl (by decide) ?_
                    refine x_inv (N := m_X6_belongs) (As := [.int (-1), .int v4, .int 1]) (b := 120) (st := []) (dx9 := 21) (mc := 0) (ms := 0) (host := "") 6 rfl t_X6_belongs ⟨Or.inl q_6_127, i_X6_belongs.1, i_X6_belongs.2⟩ ⟨by decide, rfl⟩ (congrArg Prod.fst (J.1.1 120 (6, 8) rfl)) rfl (by decide) rfl rfl ⟨by decide, by decide⟩ (sf_X6_belongs_r120_c1 (jr_of jk_m1 (by omega)) (jr_of rfl (by omega)) hD J  (fun v352 h ev352 J S351 => ?_))
                    have Sm := jSm_tr rfl Sm S351
                    show jX m_X6_byParents 22 0 0 84 [(5, .int v338), (4, .int v4), (3, .int v2), (0, .ref 120), (1, .int a1), (2, .int 0)] [.int v352] _ 0 0 _
                    exact jX.sub jsb_n (ct_X6_byParents_r120_c0_84 hD hQ  v352 h (jr_of rfl (by omega)) J Sm)
                  ·
                    refine x_iconst (v := 1) rfl ki_1 ?_
                    refine x_goto (tgt := 23) rfl rfl ?_
                    refine x_zret rfl rfl (by decide) ?_
                    show jX m_X7_namedSoul 21 0 0 8 [(0, .ref 78), (1, .int v340)] [.int 1] _ 0 0 _
                    refine x_ifeq (tgt := 19) rfl rfl (ti_eq jk_1 jk_0 (br_f (by omega) ?_))
                    refine x_aloadn (x := 78) rfl rfl ?_
                    refine x_iloadn (x := v340) rfl rfl ?_
                    refine x_inv (N := m_X7_soulAt) (As := [.int v340]) (b := 78) (st := []) (dx9 := 20) (mc := 0) (ms := 0) (host := "") 7 rfl t_X7_soulAt ⟨Or.inl q_7_153, i_X7_soulAt.1, i_X7_soulAt.2⟩ ⟨by decide, rfl⟩ (congrArg Prod.fst (J.1.1 78 (7, 16) rfl)) rfl (by decide) rfl rfl ⟨by decide, by decide⟩ (jC.of rfl k_X7_soulAt rfl ?_)
                    show jX m_X7_soulAt 20 0 0 0 [(0, .ref 78), (1, .int v340)] [] _ 0 0 _
                    refine x_iloadn (x := v340) rfl rfl ?_
                    refine x_iflt (tgt := 36) rfl rfl (ti_lt rfl jk_0 (br_f (by omega) ?_))
                    refine x_iloadn (x := v340) rfl rfl ?_
                    refine x_sipush (v := 600) rfl ks_600 ?_
                    refine x_icge (tgt := 36) rfl rfl (ti_ge rfl jk_600 ⟨fun c353 => ?_, fun c353 => ?_⟩)
                    ·
                      refine x_iconst (v := (-1)) rfl ki_m1 ?_
                      refine x_iret rfl rfl ?_
                      show jX m_X7_namedSoul 21 0 0 16 [(0, .ref 78), (1, .int v340)] [.int (-1)] _ 0 0 _
                      refine x_goto (tgt := 20) rfl rfl ?_
                      refine x_iret rfl rfl ?_
                      show jX m_X6_byParents 22 0 0 76 [(5, .int v338), (4, .int v4), (3, .int v2), (0, .ref 120), (1, .int a1), (2, .int 0)] [.int (-1), .ref 120] _ 0 0 _
                      refine x_iload (x := v4) rfl rfl ?_
                      refine x_iloadn (x := 0) rfl rfl ?_
                      refine x_iconst (v := 1) rfl ki_1 ?_
                      refine y_iadd (v := 1) rfl (by decide) ?_
                      refine x_inv (N := m_X6_belongs) (As := [.int (-1), .int v4, .int 1]) (b := 120) (st := []) (dx9 := 21) (mc := 0) (ms := 0) (host := "") 6 rfl t_X6_belongs ⟨Or.inl q_6_127, i_X6_belongs.1, i_X6_belongs.2⟩ ⟨by decide, rfl⟩ (congrArg Prod.fst (J.1.1 120 (6, 8) rfl)) rfl (by decide) rfl rfl ⟨by decide, by decide⟩ (sf_X6_belongs_r120_c1 (jr_of jk_m1 (by omega)) (jr_of rfl (by omega)) hD J  (fun v355 h ev355 J S354 => ?_))
                      have Sm := jSm_tr rfl Sm S354
                      show jX m_X6_byParents 22 0 0 84 [(5, .int v338), (4, .int v4), (3, .int v2), (0, .ref 120), (1, .int a1), (2, .int 0)] [.int v355] _ 0 0 _
                      exact jX.sub jsb_n (ct_X6_byParents_r120_c0_84 hD hQ  v355 h (jr_of rfl (by omega)) J Sm)
                    ·
                      refine x_iloadn (x := v340) rfl rfl ?_
                      refine x_iconst (v := 3) rfl ki_3 ?_
                      refine z_idiv rfl rfl jk_3 (by omega) (by omega) (fun v356 ev356 => ?_)
                      refine x_aloadn (x := 78) rfl rfl ?_
                      refine z_getR (N := 16) (b := 32) 7 0 rfl f_7_55 rfl J rfl 9984 ⟨rfl, rfl⟩ rfl ?_
                      refine z_getR (N := 20) (b := 33) 1 0 rfl f_7_63 rfl J rfl 4096 ⟨rfl, rfl⟩ rfl ?_
                      refine z_getM (N := 4) (v := v277) 8 3 rfl f_7_85 rfl J rfl (jmc S337 rfl qv277) ?_
                      refine x_icge (tgt := 36) rfl rfl (ti_ge rfl rfl ⟨fun c357 => ?_, fun c357 => ?_⟩)
                      ·
                        refine x_iconst (v := (-1)) rfl ki_m1 ?_
                        refine x_iret rfl rfl ?_
                        show jX m_X7_namedSoul 21 0 0 16 [(0, .ref 78), (1, .int v340)] [.int (-1)] _ 0 0 _
                        refine x_goto (tgt := 20) rfl rfl ?_
                        refine x_iret rfl rfl ?_
                        show jX m_X6_byParents 22 0 0 76 [(5, .int v338), (4, .int v4), (3, .int v2), (0, .ref 120), (1, .int a1), (2, .int 0)] [.int (-1), .ref 120] _ 0 0 _
                        refine x_iload (x := v4) rfl rfl ?_
                        refine x_iloadn (x := 0) rfl rfl ?_
                        refine x_iconst (v := 1) rfl ki_1 ?_
                        refine y_iadd (v := 1) rfl (by decide) ?_
                        refine x_inv (N := m_X6_belongs) (As := [.int (-1), .int v4, .int 1]) (b := 120) (st := []) (dx9 := 21) (mc := 0) (ms := 0) (host := "") 6 rfl t_X6_belongs ⟨Or.inl q_6_127, i_X6_belongs.1, i_X6_belongs.2⟩ ⟨by decide, rfl⟩ (congrArg Prod.fst (J.1.1 120 (6, 8) rfl)) rfl (by decide) rfl rfl ⟨by decide, by decide⟩ (sf_X6_belongs_r120_c1 (jr_of jk_m1 (by omega)) (jr_of rfl (by omega)) hD J  (fun v359 h ev359 J S358 => ?_))
                        have Sm := jSm_tr rfl Sm S358
                        show jX m_X6_byParents 22 0 0 84 [(5, .int v338), (4, .int v4), (3, .int v2), (0, .ref 120), (1, .int a1), (2, .int 0)] [.int v359] _ 0 0 _
                        exact jX.sub jsb_n (ct_X6_byParents_r120_c0_84 hD hQ  v359 h (jr_of rfl (by omega)) J Sm)
                      ·
                        refine x_aloadn (x := 78) rfl rfl ?_
                        refine z_getR (N := 16) (b := 82) 7 10 rfl f_7_37 rfl J rfl 9994 ⟨rfl, rfl⟩ rfl ?_
                        refine x_iloadn (x := v340) rfl rfl ?_
                        refine z_iald (N := 600) rfl J rfl sg_82_0_600_1_0_1 rfl (by omega) (fun v360 qv360 ev360 => ?_)
                        refine x_goto (tgt := 37) rfl rfl ?_
                        refine x_iret rfl rfl ?_
                        show jX m_X7_namedSoul 21 0 0 16 [(0, .ref 78), (1, .int v340)] [.int v360] _ 0 0 _
                        refine x_goto (tgt := 20) rfl rfl ?_
                        refine x_iret rfl rfl ?_
                        show jX m_X6_byParents 22 0 0 76 [(5, .int v338), (4, .int v4), (3, .int v2), (0, .ref 120), (1, .int a1), (2, .int 0)] [.int v360, .ref 120] _ 0 0 _
                        refine x_iload (x := v4) rfl rfl ?_
                        refine x_iloadn (x := 0) rfl rfl ?_
                        refine x_iconst (v := 1) rfl ki_1 ?_
                        refine y_iadd (v := 1) rfl (by decide) ?_
                        refine x_inv (N := m_X6_belongs) (As := [.int v360, .int v4, .int 1]) (b := 120) (st := []) (dx9 := 21) (mc := 0) (ms := 0) (host := "") 6 rfl t_X6_belongs ⟨Or.inl q_6_127, i_X6_belongs.1, i_X6_belongs.2⟩ ⟨by decide, rfl⟩ (congrArg Prod.fst (J.1.1 120 (6, 8) rfl)) rfl (by decide) rfl rfl ⟨by decide, by decide⟩ (sf_X6_belongs_r120_c1 (jr_of rfl (by omega)) (jr_of rfl (by omega)) hD J  (fun v362 h ev362 J S361 => ?_))
                        have Sm := jSm_tr rfl Sm S361
                        show jX m_X6_byParents 22 0 0 84 [(5, .int v338), (4, .int v4), (3, .int v2), (0, .ref 120), (1, .int a1), (2, .int 0)] [.int v362] _ 0 0 _
                        exact jX.sub jsb_n (ct_X6_byParents_r120_c0_84 hD hQ  v362 h (jr_of rfl (by omega)) J Sm)
              ·
                refine x_aloadn (x := 70) rfl rfl ?_
                refine z_getR (N := 9) (b := 76) 5 7 rfl f_5_28 rfl J rfl 8967 ⟨rfl, rfl⟩ rfl ?_
                refine x_iloadn (x := v342) rfl rfl ?_
                refine z_iald (N := 1200) rfl J rfl sg_76_0_1200_1_0_1 rfl (by omega) (fun v363 qv363 ev363 => ?_)
                refine x_goto (tgt := 27) rfl rfl ?_
                refine x_iret rfl rfl ?_
                show jX m_X5_isNamed 20 0 0 6 [(0, .ref 70), (1, .int v340)] [.int v363] _ 0 0 _
                refine x_ifge (tgt := 18) rfl rfl (ti_ge rfl jk_0 ⟨fun c364 => ?_, fun c364 => ?_⟩)
                ·
                  refine x_iconst (v := 1) rfl ki_1 ?_
                  refine x_goto (tgt := 23) rfl rfl ?_
                  refine x_zret rfl rfl (by decide) ?_
                  show jX m_X7_namedSoul 21 0 0 8 [(0, .ref 78), (1, .int v340)] [.int 1] _ 0 0 _
                  refine x_ifeq (tgt := 19) rfl rfl (ti_eq jk_1 jk_0 (br_f (by omega) ?_))
                  refine x_aloadn (x := 78) rfl rfl ?_
                  refine x_iloadn (x := v340) rfl rfl ?_
                  refine x_inv (N := m_X7_soulAt) (As := [.int v340]) (b := 78) (st := []) (dx9 := 20) (mc := 0) (ms := 0) (host := "") 7 rfl t_X7_soulAt ⟨Or.inl q_7_153, i_X7_soulAt.1, i_X7_soulAt.2⟩ ⟨by decide, rfl⟩ (congrArg Prod.fst (J.1.1 78 (7, 16) rfl)) rfl (by decide) rfl rfl ⟨by decide, by decide⟩ (jC.of rfl k_X7_soulAt rfl ?_)
                  show jX m_X7_soulAt 20 0 0 0 [(0, .ref 78), (1, .int v340)] [] _ 0 0 _
                  refine x_iloadn (x := v340) rfl rfl ?_
                  refine x_iflt (tgt := 36) rfl rfl (ti_lt rfl jk_0 (br_f (by omega) ?_))
                  refine x_iloadn (x := v340) rfl rfl ?_
                  refine x_sipush (v := 600) rfl ks_600 ?_
                  refine x_icge (tgt := 36) rfl rfl (ti_ge rfl jk_600 ⟨fun c365 => ?_, fun c365 => ?_⟩)
                  ·
                    refine x_iconst (v := (-1)) rfl ki_m1 ?_
                    refine x_iret rfl rfl ?_
                    show jX m_X7_namedSoul 21 0 0 16 [(0, .ref 78), (1, .int v340)] [.int (-1)] _ 0 0 _
                    refine x_goto (tgt := 20) rfl rfl ?_
                    refine x_iret rfl rfl ?_
                    show jX m_X6_byParents 22 0 0 76 [(5, .int v338), (4, .int v4), (3, .int v2), (0, .ref 120), (1, .int a1), (2, .int 0)] [.int (-1), .ref 120] _ 0 0 _
                    refine x_iload (x := v4) rfl rfl ?_
                    refine x_iloadn (x := 0) rfl rfl ?_
                    refine x_iconst (v := 1) rfl ki_1 ?_
                    refine y_iadd (v := 1) rfl (by decide) ?_
                    refine x_inv (N := m_X6_belongs) (As := [.int (-1), .int v4, .int 1]) (b := 120) (st := []) (dx9 := 21) (mc := 0) (ms := 0) (host := "") 6 rfl t_X6_belongs ⟨Or.inl q_6_127, i_X6_belongs.1, i_X6_belongs.2⟩ ⟨by decide, rfl⟩ (congrArg Prod.fst (J.1.1 120 (6, 8) rfl)) rfl (by decide) rfl rfl ⟨by decide, by decide⟩ (sf_X6_belongs_r120_c1 (jr_of jk_m1 (by omega)) (jr_of rfl (by omega)) hD J  (fun v367 h ev367 J S366 => ?_))
                    have Sm := jSm_tr rfl Sm S366
                    show jX m_X6_byParents 22 0 0 84 [(5, .int v338), (4, .int v4), (3, .int v2), (0, .ref 120), (1, .int a1), (2, .int 0)] [.int v367] _ 0 0 _
                    exact jX.sub jsb_n (ct_X6_byParents_r120_c0_84 hD hQ  v367 h (jr_of rfl (by omega)) J Sm)
                  ·
                    refine x_iloadn (x := v340) rfl rfl ?_
                    refine x_iconst (v := 3) rfl ki_3 ?_
                    refine z_idiv rfl rfl jk_3 (by omega) (by omega) (fun v368 ev368 => ?_)
                    refine x_aloadn (x := 78) rfl rfl ?_
                    refine z_getR (N := 16) (b := 32) 7 0 rfl f_7_55 rfl J rfl 9984 ⟨rfl, rfl⟩ rfl ?_
                    refine z_getR (N := 20) (b := 33) 1 0 rfl f_7_63 rfl J rfl 4096 ⟨rfl, rfl⟩ rfl ?_
                    refine z_getM (N := 4) (v := v277) 8 3 rfl f_7_85 rfl J rfl (jmc S337 rfl qv277) ?_
                    refine x_icge (tgt := 36) rfl rfl (ti_ge rfl rfl ⟨fun c369 => ?_, fun c369 => ?_⟩)
                    ·
                      refine x_iconst (v := (-1)) rfl ki_m1 ?_
                      refine x_iret rfl rfl ?_
                      show jX m_X7_namedSoul 21 0 0 16 [(0, .ref 78), (1, .int v340)] [.int (-1)] _ 0 0 _
                      refine x_goto (tgt := 20) rfl rfl ?_
                      refine x_iret rfl rfl ?_
                      show jX m_X6_byParents 22 0 0 76 [(5, .int v338), (4, .int v4), (3, .int v2), (0, .ref 120), (1, .int a1), (2, .int 0)] [.int (-1), .ref 120] _ 0 0 _
                      refine x_iload (x := v4) rfl rfl ?_
                      refine x_iloadn (x := 0) rfl rfl ?_
                      refine x_iconst (v := 1) rfl ki_1 ?_
                      refine y_iadd (v := 1) rfl (by decide) ?_
                      refine x_inv (N := m_X6_belongs) (As := [.int (-1), .int v4, .int 1]) (b := 120) (st := []) (dx9 := 21) (mc := 0) (ms := 0) (host := "") 6 rfl t_X6_belongs ⟨Or.inl q_6_127, i_X6_belongs.1, i_X6_belongs.2⟩ ⟨by decide, rfl⟩ (congrArg Prod.fst (J.1.1 120 (6, 8) rfl)) rfl (by decide) rfl rfl ⟨by decide, by decide⟩ (sf_X6_belongs_r120_c1 (jr_of jk_m1 (by omega)) (jr_of rfl (by omega)) hD J  (fun v371 h ev371 J S370 => ?_))
                      have Sm := jSm_tr rfl Sm S370
                      show jX m_X6_byParents 22 0 0 84 [(5, .int v338), (4, .int v4), (3, .int v2), (0, .ref 120), (1, .int a1), (2, .int 0)] [.int v371] _ 0 0 _
                      exact jX.sub jsb_n (ct_X6_byParents_r120_c0_84 hD hQ  v371 h (jr_of rfl (by omega)) J Sm)
                    ·
                      refine x_aloadn (x := 78) rfl rfl ?_
                      refine z_getR (N := 16) (b := 82) 7 10 rfl f_7_37 rfl J rfl 9994 ⟨rfl, rfl⟩ rfl ?_
                      refine x_iloadn (x := v340) rfl rfl ?_
                      refine z_iald (N := 600) rfl J rfl sg_82_0_600_1_0_1 rfl (by omega) (fun v372 qv372 ev372 => ?_)
                      refine x_goto (tgt := 37) rfl rfl ?_
                      refine x_iret rfl rfl ?_
                      show jX m_X7_namedSoul 21 0 0 16 [(0, .ref 78), (1, .int v340)] [.int v372] _ 0 0 _
                      refine x_goto (tgt := 20) rfl rfl ?_
                      refine x_iret rfl rfl ?_
                      show jX m_X6_byParents 22 0 0 76 [(5, .int v338), (4, .int v4), (3, .int v2), (0, .ref 120), (1, .int a1), (2, .int 0)] [.int v372, .ref 120] _ 0 0 _
                      refine x_iload (x := v4) rfl rfl ?_
                      refine x_iloadn (x := 0) rfl rfl ?_
                      refine x_iconst (v := 1) rfl ki_1 ?_
                      refine y_iadd (v := 1) rfl (by decide) ?_
                      refine x_inv (N := m_X6_belongs) (As := [.int v372, .int v4, .int 1]) (b := 120) (st := []) (dx9 := 21) (mc := 0) (ms := 0) (host := "") 6 rfl t_X6_belongs ⟨Or.inl q_6_127, i_X6_belongs.1, i_X6_belongs.2⟩ ⟨by decide, rfl⟩ (congrArg Prod.fst (J.1.1 120 (6, 8) rfl)) rfl (by decide) rfl rfl ⟨by decide, by decide⟩ (sf_X6_belongs_r120_c1 (jr_of rfl (by omega)) (jr_of rfl (by omega)) hD J  (fun v374 h ev374 J S373 => ?_))
                      have Sm := jSm_tr rfl Sm S373
                      show jX m_X6_byParents 22 0 0 84 [(5, .int v338), (4, .int v4), (3, .int v2), (0, .ref 120), (1, .int a1), (2, .int 0)] [.int v374] _ 0 0 _
                      exact jX.sub jsb_n (ct_X6_byParents_r120_c0_84 hD hQ  v374 h (jr_of rfl (by omega)) J Sm)
                ·
                  refine x_aloadn (x := 70) rfl rfl ?_
                  refine x_iloadn (x := v340) rfl rfl ?_
                  refine x_iconst (v := 1) rfl ki_1 ?_
                  refine x_inv (N := m_X5_lengthOf) (As := [.int v340, .int 1]) (b := 70) (st := []) (dx9 := 19) (mc := 0) (ms := 0) (host := "") 5 rfl t_X5_lengthOf ⟨Or.inl q_5_133, i_X5_lengthOf.1, i_X5_lengthOf.2⟩ ⟨by decide, rfl⟩ (congrArg Prod.fst (J.1.1 70 (5, 9) rfl)) rfl (by decide) rfl rfl ⟨by decide, by decide⟩ (jC.of rfl k_X5_lengthOf rfl ?_)
                  show jX m_X5_lengthOf 19 0 0 0 [(0, .ref 70), (1, .int v340), (2, .int 1)] [] _ 0 0 _
                  refine x_iloadn (x := v340) rfl rfl ?_
                  refine x_iconst (v := 2) rfl ki_2 ?_
                  refine z_imul rfl rfl jk_2 (by omega) (fun v375 ev375 => ?_)
                  refine x_iloadn (x := 1) rfl rfl ?_
                  refine z_iadd rfl rfl jk_1 (by omega) (fun v376 ev376 => ?_)
                  refine x_istoren (lsx9 := [(3, .int v376), (0, .ref 70), (1, .int v340), (2, .int 1)]) rfl rfl rfl ?_
                  refine x_iloadn (x := v376) rfl rfl ?_
                  refine x_iflt (tgt := 26) rfl rfl (ti_lt rfl jk_0 (br_f (by omega) ?_))
                  refine x_iloadn (x := v376) rfl rfl ?_
                  refine x_sipush (v := 1200) rfl ks_1200 ?_
                  refine x_icge (tgt := 26) rfl rfl (ti_ge rfl jk_1200 ⟨fun c377 => ?_, fun c377 => ?_⟩)
                  ·
                    refine x_iconst (v := (-1)) rfl ki_m1 ?_
                    refine x_iret rfl rfl ?_
                    show jX m_X5_isNamed 20 0 0 15 [(0, .ref 70), (1, .int v340)] [.int (-1)] _ 0 0 _
                    refine x_iflt (tgt := 22) rfl rfl (ti_lt jk_m1 jk_0 (br_t (by omega) ?_))
                    refine x_iconst (v := 0) rfl ki_0 ?_
                    refine x_zret rfl rfl (by decide) ?_
                    show jX m_X7_namedSoul 21 0 0 8 [(0, .ref 78), (1, .int v340)] [.int 0] _ 0 0 _
                    refine x_ifeq (tgt := 19) rfl rfl (ti_eq jk_0 jk_0 (br_t (by omega) ?_))
                    refine x_iconst (v := (-1)) rfl ki_m1 ?_
                    refine x_iret rfl rfl ?_
                    show jX m_X6_byParents 22 0 0 76 [(5, .int v338), (4, .int v4), (3, .int v2), (0, .ref 120), (1, .int a1), (2, .int 0)] [.int (-1), .ref 120] _ 0 0 _
                    refine x_iload (x := v4) rfl rfl ?_
                    refine x_iloadn (x := 0) rfl rfl ?_
                    refine x_iconst (v := 1) rfl ki_1 ?_
                    refine y_iadd (v := 1) rfl (by decide) ?_
                    refine x_inv (N := m_X6_belongs) (As := [.int (-1), .int v4, .int 1]) (b := 120) (st := []) (dx9 := 21) (mc := 0) (ms := 0) (host := "") 6 rfl t_X6_belongs ⟨Or.inl q_6_127, i_X6_belongs.1, i_X6_belongs.2⟩ ⟨by decide, rfl⟩ (congrArg Prod.fst (J.1.1 120 (6, 8) rfl)) rfl (by decide) rfl rfl ⟨by decide, by decide⟩ (sf_X6_belongs_r120_c1 (jr_of jk_m1 (by omega)) (jr_of rfl (by omega)) hD J  (fun v379 h ev379 J S378 => ?_))
                    have Sm := jSm_tr rfl Sm S378
                    show jX m_X6_byParents 22 0 0 84 [(5, .int v338), (4, .int v4), (3, .int v2), (0, .ref 120), (1, .int a1), (2, .int 0)] [.int v379] _ 0 0 _
                    exact jX.sub jsb_n (ct_X6_byParents_r120_c0_84 hD hQ  v379 h (jr_of rfl (by omega)) J Sm)
                  ·
                    refine x_aloadn (x := 70) rfl rfl ?_
                    refine z_getR (N := 9) (b := 76) 5 7 rfl f_5_28 rfl J rfl 8967 ⟨rfl, rfl⟩ rfl ?_
                    refine x_iloadn (x := v376) rfl rfl ?_
                    refine z_iald (N := 1200) rfl J rfl sg_76_0_1200_1_0_1 rfl (by omega) (fun v380 qv380 ev380 => ?_)
                    refine x_goto (tgt := 27) rfl rfl ?_
                    refine x_iret rfl rfl ?_
                    show jX m_X5_isNamed 20 0 0 15 [(0, .ref 70), (1, .int v340)] [.int v380] _ 0 0 _
                    refine x_iflt (tgt := 22) rfl rfl (ti_lt rfl jk_0 ⟨fun c381 => ?_, fun c381 => ?_⟩)
                    ·
                      refine x_iconst (v := 0) rfl ki_0 ?_
                      refine x_zret rfl rfl (by decide) ?_
                      show jX m_X7_namedSoul 21 0 0 8 [(0, .ref 78), (1, .int v340)] [.int 0] _ 0 0 _
                      refine x_ifeq (tgt := 19) rfl rfl (ti_eq jk_0 jk_0 (br_t (by omega) ?_))
                      refine x_iconst (v := (-1)) rfl ki_m1 ?_
                      refine x_iret rfl rfl ?_
                      show jX m_X6_byParents 22 0 0 76 [(5, .int v338), (4, .int v4), (3, .int v2), (0, .ref 120), (1, .int a1), (2, .int 0)] [.int (-1), .ref 120] _ 0 0 _
                      refine x_iload (x := v4) rfl rfl ?_
                      refine x_iloadn (x := 0) rfl rfl ?_
                      refine x_iconst (v := 1) rfl ki_1 ?_
                      refine y_iadd (v := 1) rfl (by decide) ?_
                      refine x_inv (N := m_X6_belongs) (As := [.int (-1), .int v4, .int 1]) (b := 120) (st := []) (dx9 := 21) (mc := 0) (ms := 0) (host := "") 6 rfl t_X6_belongs ⟨Or.inl q_6_127, i_X6_belongs.1, i_X6_belongs.2⟩ ⟨by decide, rfl⟩ (congrArg Prod.fst (J.1.1 120 (6, 8) rfl)) rfl (by decide) rfl rfl ⟨by decide, by decide⟩ (sf_X6_belongs_r120_c1 (jr_of jk_m1 (by omega)) (jr_of rfl (by omega)) hD J  (fun v383 h ev383 J S382 => ?_))
                      have Sm := jSm_tr rfl Sm S382
                      show jX m_X6_byParents 22 0 0 84 [(5, .int v338), (4, .int v4), (3, .int v2), (0, .ref 120), (1, .int a1), (2, .int 0)] [.int v383] _ 0 0 _
                      exact jX.sub jsb_n (ct_X6_byParents_r120_c0_84 hD hQ  v383 h (jr_of rfl (by omega)) J Sm)
                    ·
                      refine x_iconst (v := 1) rfl ki_1 ?_
                      refine x_goto (tgt := 23) rfl rfl ?_
                      refine x_zret rfl rfl (by decide) ?_
                      show jX m_X7_namedSoul 21 0 0 8 [(0, .ref 78), (1, .int v340)] [.int 1] _ 0 0 _
                      refine x_ifeq (tgt := 19) rfl rfl (ti_eq jk_1 jk_0 (br_f (by omega) ?_))
                      refine x_aloadn (x := 78) rfl rfl ?_
                      refine x_iloadn (x := v340) rfl rfl ?_
                      refine x_inv (N := m_X7_soulAt) (As := [.int v340]) (b := 78) (st := []) (dx9 := 20) (mc := 0) (ms := 0) (host := "") 7 rfl t_X7_soulAt ⟨Or.inl q_7_153, i_X7_soulAt.1, i_X7_soulAt.2⟩ ⟨by decide, rfl⟩ (congrArg Prod.fst (J.1.1 78 (7, 16) rfl)) rfl (by decide) rfl rfl ⟨by decide, by decide⟩ (jC.of rfl k_X7_soulAt rfl ?_)
                      show jX m_X7_soulAt 20 0 0 0 [(0, .ref 78), (1, .int v340)] [] _ 0 0 _
                      refine x_iloadn (x := v340) rfl rfl ?_
                      refine x_iflt (tgt := 36) rfl rfl (ti_lt rfl jk_0 (br_f (by omega) ?_))
                      refine x_iloadn (x := v340) rfl rfl ?_
                      refine x_sipush (v := 600) rfl ks_600 ?_
                      refine x_icge (tgt := 36) rfl rfl (ti_ge rfl jk_600 ⟨fun c384 => ?_, fun c384 => ?_⟩)
                      ·
                        refine x_iconst (v := (-1)) rfl ki_m1 ?_
                        refine x_iret rfl rfl ?_
                        show jX m_X7_namedSoul 21 0 0 16 [(0, .ref 78), (1, .int v340)] [.int (-1)] _ 0 0 _
                        refine x_goto (tgt := 20) rfl rfl ?_
                        refine x_iret rfl rfl ?_
                        show jX m_X6_byParents 22 0 0 76 [(5, .int v338), (4, .int v4), (3, .int v2), (0, .ref 120), (1, .int a1), (2, .int 0)] [.int (-1), .ref 120] _ 0 0 _
                        refine x_iload (x := v4) rfl rfl ?_
                        refine x_iloadn (x := 0) rfl rfl ?_
                        refine x_iconst (v := 1) rfl ki_1 ?_
                        refine y_iadd (v := 1) rfl (by decide) ?_
                        refine x_inv (N := m_X6_belongs) (As := [.int (-1), .int v4, .int 1]) (b := 120) (st := []) (dx9 := 21) (mc := 0) (ms := 0) (host := "") 6 rfl t_X6_belongs ⟨Or.inl q_6_127, i_X6_belongs.1, i_X6_belongs.2⟩ ⟨by decide, rfl⟩ (congrArg Prod.fst (J.1.1 120 (6, 8) rfl)) rfl (by decide) rfl rfl ⟨by decide, by decide⟩ (sf_X6_belongs_r120_c1 (jr_of jk_m1 (by omega)) (jr_of rfl (by omega)) hD J  (fun v386 h ev386 J S385 => ?_))
                        have Sm := jSm_tr rfl Sm S385
                        show jX m_X6_byParents 22 0 0 84 [(5, .int v338), (4, .int v4), (3, .int v2), (0, .ref 120), (1, .int a1), (2, .int 0)] [.int v386] _ 0 0 _
                        exact jX.sub jsb_n (ct_X6_byParents_r120_c0_84 hD hQ  v386 h (jr_of rfl (by omega)) J Sm)
                      ·
                        refine x_iloadn (x := v340) rfl rfl ?_
                        refine x_iconst (v := 3) rfl ki_3 ?_
                        refine z_idiv rfl rfl jk_3 (by omega) (by omega) (fun v387 ev387 => ?_)
                        refine x_aloadn (x := 78) rfl rfl ?_
                        refine z_getR (N := 16) (b := 32) 7 0 rfl f_7_55 rfl J rfl 9984 ⟨rfl, rfl⟩ rfl ?_
                        refine z_getR (N := 20) (b := 33) 1 0 rfl f_7_63 rfl J rfl 4096 ⟨rfl, rfl⟩ rfl ?_
                        refine z_getM (N := 4) (v := v277) 8 3 rfl f_7_85 rfl J rfl (jmc S337 rfl qv277) ?_
                        refine x_icge (tgt := 36) rfl rfl (ti_ge rfl rfl ⟨fun c388 => ?_, fun c388 => ?_⟩)
                        ·
                          refine x_iconst (v := (-1)) rfl ki_m1 ?_
                          refine x_iret rfl rfl ?_
                          show jX m_X7_namedSoul 21 0 0 16 [(0, .ref 78), (1, .int v340)] [.int (-1)] _ 0 0 _
                          refine x_goto (tgt := 20) rfl rfl ?_
                          refine x_iret rfl rfl ?_
                          show jX m_X6_byParents 22 0 0 76 [(5, .int v338), (4, .int v4), (3, .int v2), (0, .ref 120), (1, .int a1), (2, .int 0)] [.int (-1), .ref 120] _ 0 0 _
                          refine x_iload (x := v4) rfl rfl ?_
                          refine x_iloadn (x := 0) rfl rfl ?_
                          refine x_iconst (v := 1) rfl ki_1 ?_
                          refine y_iadd (v := 1) rfl (by decide) ?_
                          refine x_inv (N := m_X6_belongs) (As := [.int (-1), .int v4, .int 1]) (b := 120) (st := []) (dx9 := 21) (mc := 0) (ms := 0) (host := "") 6 rfl t_X6_belongs ⟨Or.inl q_6_127, i_X6_belongs.1, i_X6_belongs.2⟩ ⟨by decide, rfl⟩ (congrArg Prod.fst (J.1.1 120 (6, 8) rfl)) rfl (by decide) rfl rfl ⟨by decide, by decide⟩ (sf_X6_belongs_r120_c1 (jr_of jk_m1 (by omega)) (jr_of rfl (by omega)) hD J  (fun v390 h ev390 J S389 => ?_))
                          have Sm := jSm_tr rfl Sm S389
                          show jX m_X6_byParents 22 0 0 84 [(5, .int v338), (4, .int v4), (3, .int v2), (0, .ref 120), (1, .int a1), (2, .int 0)] [.int v390] _ 0 0 _
                          exact jX.sub jsb_n (ct_X6_byParents_r120_c0_84 hD hQ  v390 h (jr_of rfl (by omega)) J Sm)
                        ·
                          refine x_aloadn (x := 78) rfl rfl ?_
                          refine z_getR (N := 16) (b := 82) 7 10 rfl f_7_37 rfl J rfl 9994 ⟨rfl, rfl⟩ rfl ?_
                          refine x_iloadn (x := v340) rfl rfl ?_
                          refine z_iald (N := 600) rfl J rfl sg_82_0_600_1_0_1 rfl (by omega) (fun v391 qv391 ev391 => ?_)
                          refine x_goto (tgt := 37) rfl rfl ?_
                          refine x_iret rfl rfl ?_
                          show jX m_X7_namedSoul 21 0 0 16 [(0, .ref 78), (1, .int v340)] [.int v391] _ 0 0 _
                          refine x_goto (tgt := 20) rfl rfl ?_
                          refine x_iret rfl rfl ?_
                          show jX m_X6_byParents 22 0 0 76 [(5, .int v338), (4, .int v4), (3, .int v2), (0, .ref 120), (1, .int a1), (2, .int 0)] [.int v391, .ref 120] _ 0 0 _
                          refine x_iload (x := v4) rfl rfl ?_
                          refine x_iloadn (x := 0) rfl rfl ?_
                          refine x_iconst (v := 1) rfl ki_1 ?_
                          refine y_iadd (v := 1) rfl (by decide) ?_
                          refine x_inv (N := m_X6_belongs) (As := [.int v391, .int v4, .int 1]) (b := 120) (st := []) (dx9 := 21) (mc := 0) (ms := 0) (host := "") 6 rfl t_X6_belongs ⟨Or.inl q_6_127, i_X6_belongs.1, i_X6_belongs.2⟩ ⟨by decide, rfl⟩ (congrArg Prod.fst (J.1.1 120 (6, 8) rfl)) rfl (by decide) rfl rfl ⟨by decide, by decide⟩ (sf_X6_belongs_r120_c1 (jr_of rfl (by omega)) (jr_of rfl (by omega)) hD J  (fun v393 h ev393 J S392 => ?_))
                          have Sm := jSm_tr rfl Sm S392
                          show jX m_X6_byParents 22 0 0 84 [(5, .int v338), (4, .int v4), (3, .int v2), (0, .ref 120), (1, .int a1), (2, .int 0)] [.int v393] _ 0 0 _
                          exact jX.sub jsb_n (ct_X6_byParents_r120_c0_84 hD hQ  v393 h (jr_of rfl (by omega)) J Sm)
            ·
              refine x_iload (x := v338) rfl rfl ?_
              refine x_goto (tgt := 84) rfl rfl ?_
              exact jX.sub jsb_n (ct_X6_byParents_r120_c0_84 hD hQ  v338 h (jr_of rfl (by omega)) J Sm)
      ·
        refine x_aloadn (x := 70) rfl rfl ?_
        refine x_iloadn (x := v5) rfl rfl ?_
        refine x_iconst (v := 1) rfl ki_1 ?_
        refine x_inv (N := m_X5_lengthOf) (As := [.int v5, .int 1]) (b := 70) (st := []) (dx9 := 19) (mc := 0) (ms := 0) (host := "") 5 rfl t_X5_lengthOf ⟨Or.inl q_5_133, i_X5_lengthOf.1, i_X5_lengthOf.2⟩ ⟨by decide, rfl⟩ (congrArg Prod.fst (J.1.1 70 (5, 9) rfl)) rfl (by decide) rfl rfl ⟨by decide, by decide⟩ (jC.of rfl k_X5_lengthOf rfl ?_)
        show jX m_X5_lengthOf 19 0 0 0 [(0, .ref 70), (1, .int v5), (2, .int 1)] [] _ 0 0 _
        refine x_iloadn (x := v5) rfl rfl ?_
        refine x_iconst (v := 2) rfl ki_2 ?_
        refine z_imul rfl rfl jk_2 (by omega) (fun v394 ev394 => ?_)
        refine x_iloadn (x := 1) rfl rfl ?_
        refine z_iadd rfl rfl jk_1 (by omega) (fun v395 ev395 => ?_)
        refine x_istoren (lsx9 := [(3, .int v395), (0, .ref 70), (1, .int v5), (2, .int 1)]) rfl rfl rfl ?_
        refine x_iloadn (x := v395) rfl rfl ?_
        refine x_iflt (tgt := 26) rfl rfl (ti_lt rfl jk_0 (br_f (by omega) ?_))
        refine x_iloadn (x := v395) rfl rfl ?_
        refine x_sipush (v := 1200) rfl ks_1200 ?_
        refine x_icge (tgt := 26) rfl rfl (ti_ge rfl jk_1200 ⟨fun c396 => ?_, fun c396 => ?_⟩)
        ·
          refine x_iconst (v := (-1)) rfl ki_m1 ?_
          refine x_iret rfl rfl ?_
          show jX m_X5_isNamed 20 0 0 15 [(0, .ref 70), (1, .int v5)] [.int (-1)] _ 0 0 _
          refine x_iflt (tgt := 22) rfl rfl (ti_lt jk_m1 jk_0 (br_t (by omega) ?_))
          refine x_iconst (v := 0) rfl ki_0 ?_
          refine x_zret rfl rfl (by decide) ?_
          show jX m_X7_namedSoul 21 0 0 8 [(0, .ref 78), (1, .int v5)] [.int 0] _ 0 0 _
          refine x_ifeq (tgt := 19) rfl rfl (ti_eq jk_0 jk_0 (br_t (by omega) ?_))
          refine x_iconst (v := (-1)) rfl ki_m1 ?_
          refine x_iret rfl rfl ?_
          show jX m_X6_byParents 22 0 0 44 [(4, .int v4), (3, .int v2), (0, .ref 120), (1, .int a1), (2, .int 0)] [.int (-1), .ref 120] _ 0 0 _
          refine x_iload (x := v4) rfl rfl ?_
          refine x_iloadn (x := 0) rfl rfl ?_
          refine x_iconst (v := 1) rfl ki_1 ?_
          refine y_iadd (v := 1) rfl (by decide) ?_
          refine x_inv (N := m_X6_belongs) (As := [.int (-1), .int v4, .int 1]) (b := 120) (st := []) (dx9 := 21) (mc := 0) (ms := 0) (host := "") 6 rfl t_X6_belongs ⟨Or.inl q_6_127, i_X6_belongs.1, i_X6_belongs.2⟩ ⟨by decide, rfl⟩ (congrArg Prod.fst (J.1.1 120 (6, 8) rfl)) rfl (by decide) rfl rfl ⟨by decide, by decide⟩ (sf_X6_belongs_r120_c1 (jr_of jk_m1 (by omega)) (jr_of rfl (by omega)) hD J  (fun v398 h ev398 J S397 => ?_))
          have Sm := jSm_tr rfl Sm S397
          show jX m_X6_byParents 22 0 0 52 [(4, .int v4), (3, .int v2), (0, .ref 120), (1, .int a1), (2, .int 0)] [.int v398] _ 0 0 _
          refine x_istore (lsx9 := [(5, .int v398), (4, .int v4), (3, .int v2), (0, .ref 120), (1, .int a1), (2, .int 0)]) rfl rfl rfl ?_
          refine x_iload (x := v398) rfl rfl ?_
          refine x_iconst (v := (-1)) rfl ki_m1 ?_
          refine x_iceq (tgt := 65) rfl rfl (ti_eq rfl jk_m1 ⟨fun c399 => ?_, fun c399 => ?_⟩)
          ·
            refine x_aloadn (x := 120) rfl rfl ?_
            refine x_aloadn (x := 120) rfl rfl ?_
            refine z_getR (N := 8) (b := 78) 6 1 rfl f_6_32 rfl J rfl 15361 ⟨rfl, rfl⟩ rfl ?_
            refine x_iloadn (x := v2) rfl rfl ?_
            refine x_iconst (v := 2) rfl ki_2 ?_
            refine z_iadd rfl rfl jk_2 (by omega) (fun v400 ev400 => ?_)
            refine x_inv (N := m_X7_namedSoul) (As := [.int v400]) (b := 78) (st := [.ref 120]) (dx9 := 21) (mc := 0) (ms := 0) (host := "") 7 rfl t_X7_namedSoul ⟨Or.inl q_6_124, i_X7_namedSoul.1, i_X7_namedSoul.2⟩ ⟨by decide, rfl⟩ (congrArg Prod.fst (J.1.1 78 (7, 16) rfl)) rfl (by decide) rfl rfl ⟨by decide, by decide⟩ (jC.of rfl k_X7_namedSoul rfl ?_)
            show jX m_X7_namedSoul 21 0 0 0 [(0, .ref 78), (1, .int v400)] [] _ 0 0 _
            refine x_aloadn (x := 78) rfl rfl ?_
            refine z_getR (N := 16) (b := 70) 7 1 rfl f_7_59 rfl J rfl 9985 ⟨rfl, rfl⟩ rfl ?_
            refine x_iloadn (x := v400) rfl rfl ?_
            refine x_inv (N := m_X5_isNamed) (As := [.int v400]) (b := 70) (st := []) (dx9 := 20) (mc := 0) (ms := 0) (host := "") 5 rfl t_X5_isNamed ⟨Or.inl q_7_173, i_X5_isNamed.1, i_X5_isNamed.2⟩ ⟨by decide, rfl⟩ (congrArg Prod.fst (J.1.1 70 (5, 9) rfl)) rfl (by decide) rfl rfl ⟨by decide, by decide⟩ (jC.of rfl k_X5_isNamed rfl ?_)
            show jX m_X5_isNamed 20 0 0 0 [(0, .ref 70), (1, .int v400)] [] _ 0 0 _
            refine x_aloadn (x := 70) rfl rfl ?_
            refine x_iloadn (x := v400) rfl rfl ?_
            refine x_iconst (v := 0) rfl ki_0 ?_
            refine x_inv (N := m_X5_lengthOf) (As := [.int v400, .int 0]) (b := 70) (st := []) (dx9 := 19) (mc := 0) (ms := 0) (host := "") 5 rfl t_X5_lengthOf ⟨Or.inl q_5_133, i_X5_lengthOf.1, i_X5_lengthOf.2⟩ ⟨by decide, rfl⟩ (congrArg Prod.fst (J.1.1 70 (5, 9) rfl)) rfl (by decide) rfl rfl ⟨by decide, by decide⟩ (jC.of rfl k_X5_lengthOf rfl ?_)
            show jX m_X5_lengthOf 19 0 0 0 [(0, .ref 70), (1, .int v400), (2, .int 0)] [] _ 0 0 _
            refine x_iloadn (x := v400) rfl rfl ?_
            refine x_iconst (v := 2) rfl ki_2 ?_
            refine z_imul rfl rfl jk_2 (by omega) (fun v401 ev401 => ?_)
            refine x_iloadn (x := 0) rfl rfl ?_
            refine z_iadd rfl rfl jk_0 (by omega) (fun v402 ev402 => ?_)
            refine x_istoren (lsx9 := [(3, .int v402), (0, .ref 70), (1, .int v400), (2, .int 0)]) rfl rfl rfl ?_
            refine x_iloadn (x := v402) rfl rfl ?_
            refine x_iflt (tgt := 26) rfl rfl (ti_lt rfl jk_0 (br_f (by omega) ?_))
            refine x_iloadn (x := v402) rfl rfl ?_
            refine x_sipush (v := 1200) rfl ks_1200 ?_
            refine x_icge (tgt := 26) rfl rfl (ti_ge rfl jk_1200 ⟨fun c403 => ?_, fun c403 => ?_⟩)
            ·
              refine x_iconst (v := (-1)) rfl ki_m1 ?_
              refine x_iret rfl rfl ?_
              show jX m_X5_isNamed 20 0 0 6 [(0, .ref 70), (1, .int v400)] [.int (-1)] _ 0 0 _
              refine x_ifge (tgt := 18) rfl rfl (ti_ge jk_m1 jk_0 (br_f (by omega) ?_))
              refine x_aloadn (x := 70) rfl rfl ?_
              refine x_iloadn (x := v400) rfl rfl ?_
              refine x_iconst (v := 1) rfl ki_1 ?_
              refine x_inv (N := m_X5_lengthOf) (As := [.int v400, .int 1]) (b := 70) (st := []) (dx9 := 19) (mc := 0) (ms := 0) (host := "") 5 rfl t_X5_lengthOf ⟨Or.inl q_5_133, i_X5_lengthOf.1, i_X5_lengthOf.2⟩ ⟨by decide, rfl⟩ (congrArg Prod.fst (J.1.1 70 (5, 9) rfl)) rfl (by decide) rfl rfl ⟨by decide, by decide⟩ (jC.of rfl k_X5_lengthOf rfl ?_)
              show jX m_X5_lengthOf 19 0 0 0 [(0, .ref 70), (1, .int v400), (2, .int 1)] [] _ 0 0 _
              refine x_iloadn (x := v400) rfl rfl ?_
              refine x_iconst (v := 2) rfl ki_2 ?_
              refine z_imul rfl rfl jk_2 (by omega) (fun v404 ev404 => ?_)
              refine x_iloadn (x := 1) rfl rfl ?_
              refine z_iadd rfl rfl jk_1 (by omega) (fun v405 ev405 => ?_)
              refine x_istoren (lsx9 := [(3, .int v405), (0, .ref 70), (1, .int v400), (2, .int 1)]) rfl rfl rfl ?_
              refine x_iloadn (x := v405) rfl rfl ?_
              refine x_iflt (tgt := 26) rfl rfl (ti_lt rfl jk_0 (br_f (by omega) ?_))
              refine x_iloadn (x := v405) rfl rfl ?_
              refine x_sipush (v := 1200) rfl ks_1200 ?_
              refine x_icge (tgt := 26) rfl rfl (ti_ge rfl jk_1200 ⟨fun c406 => ?_, fun c406 => ?_⟩)
              ·
                refine x_iconst (v := (-1)) rfl ki_m1 ?_
                refine x_iret rfl rfl ?_
                show jX m_X5_isNamed 20 0 0 15 [(0, .ref 70), (1, .int v400)] [.int (-1)] _ 0 0 _
                refine x_iflt (tgt := 22) rfl rfl (ti_lt jk_m1 jk_0 (br_t (by omega) ?_))
                refine x_iconst (v := 0) rfl ki_0 ?_
                refine x_zret rfl rfl (by decide) ?_
                show jX m_X7_namedSoul 21 0 0 8 [(0, .ref 78), (1, .int v400)] [.int 0] _ 0 0 _
                refine x_ifeq (tgt := 19) rfl rfl (ti_eq jk_0 jk_0 (br_t (by omega) ?_))
                refine x_iconst (v := (-1)) rfl ki_m1 ?_
                refine x_iret rfl rfl ?_
                show jX m_X6_byParents 22 0 0 76 [(5, .int v398), (4, .int v4), (3, .int v2), (0, .ref 120), (1, .int a1), (2, .int 0)] [.int (-1), .ref 120] _ 0 0 _
                refine x_iload (x := v4) rfl rfl ?_
                refine x_iloadn (x := 0) rfl rfl ?_
                refine x_iconst (v := 1) rfl ki_1 ?_
                refine y_iadd (v := 1) rfl (by decide) ?_
                refine x_inv (N := m_X6_belongs) (As := [.int (-1), .int v4, .int 1]) (b := 120) (st := []) (dx9 := 21) (mc := 0) (ms := 0) (host := "") 6 rfl t_X6_belongs ⟨Or.inl q_6_127, i_X6_belongs.1, i_X6_belongs.2⟩ ⟨by decide, rfl⟩ (congrArg Prod.fst (J.1.1 120 (6, 8) rfl)) rfl (by decide) rfl rfl ⟨by decide, by decide⟩ (sf_X6_belongs_r120_c1 (jr_of jk_m1 (by omega)) (jr_of rfl (by omega)) hD J  (fun v408 h ev408 J S407 => ?_))
                have Sm := jSm_tr rfl Sm S407
                show jX m_X6_byParents 22 0 0 84 [(5, .int v398), (4, .int v4), (3, .int v2), (0, .ref 120), (1, .int a1), (2, .int 0)] [.int v408] _ 0 0 _
                exact jX.sub jsb_n (ct_X6_byParents_r120_c0_84 hD hQ  v408 h (jr_of rfl (by omega)) J Sm)
              ·
                refine x_aloadn (x := 70) rfl rfl ?_
                refine z_getR (N := 9) (b := 76) 5 7 rfl f_5_28 rfl J rfl 8967 ⟨rfl, rfl⟩ rfl ?_
                refine x_iloadn (x := v405) rfl rfl ?_
                refine z_iald (N := 1200) rfl J rfl sg_76_0_1200_1_0_1 rfl (by omega) (fun v409 qv409 ev409 => ?_)
                refine x_goto (tgt := 27) rfl rfl ?_
                refine x_iret rfl rfl ?_
                show jX m_X5_isNamed 20 0 0 15 [(0, .ref 70), (1, .int v400)] [.int v409] _ 0 0 _
                refine x_iflt (tgt := 22) rfl rfl (ti_lt rfl jk_0 ⟨fun c410 => ?_, fun c410 => ?_⟩)
                ·
                  refine x_iconst (v := 0) rfl ki_0 ?_
                  refine x_zret rfl rfl (by decide) ?_
                  show jX m_X7_namedSoul 21 0 0 8 [(0, .ref 78), (1, .int v400)] [.int 0] _ 0 0 _
                  refine x_ifeq (tgt := 19) rfl rfl (ti_eq jk_0 jk_0 (br_t (by omega) ?_))
                  refine x_iconst (v := (-1)) rfl ki_m1 ?_
                  refine x_iret rfl rfl ?_
                  show jX m_X6_byParents 22 0 0 76 [(5, .int v398), (4, .int v4), (3, .int v2), (0, .ref 120), (1, .int a1), (2, .int 0)] [.int (-1), .ref 120] _ 0 0 _
                  refine x_iload (x := v4) rfl rfl ?_
                  refine x_iloadn (x := 0) rfl rfl ?_
                  refine x_iconst (v := 1) rfl ki_1 ?_
                  refine y_iadd (v := 1) rfl (by decide) ?_
                  refine x_inv (N := m_X6_belongs) (As := [.int (-1), .int v4, .int 1]) (b := 120) (st := []) (dx9 := 21) (mc := 0) (ms := 0) (host := "") 6 rfl t_X6_belongs ⟨Or.inl q_6_127, i_X6_belongs.1, i_X6_belongs.2⟩ ⟨by decide, rfl⟩ (congrArg Prod.fst (J.1.1 120 (6, 8) rfl)) rfl (by decide) rfl rfl ⟨by decide, by decide⟩ (sf_X6_belongs_r120_c1 (jr_of jk_m1 (by omega)) (jr_of rfl (by omega)) hD J  (fun v412 h ev412 J S411 => ?_))
                  have Sm := jSm_tr rfl Sm S411
                  show jX m_X6_byParents 22 0 0 84 [(5, .int v398), (4, .int v4), (3, .int v2), (0, .ref 120), (1, .int a1), (2, .int 0)] [.int v412] _ 0 0 _
                  exact jX.sub jsb_n (ct_X6_byParents_r120_c0_84 hD hQ  v412 h (jr_of rfl (by omega)) J Sm)
                ·
                  refine x_iconst (v := 1) rfl ki_1 ?_
                  refine x_goto (tgt := 23) rfl rfl ?_
                  refine x_zret rfl rfl (by decide) ?_
                  show jX m_X7_namedSoul 21 0 0 8 [(0, .ref 78), (1, .int v400)] [.int 1] _ 0 0 _
                  refine x_ifeq (tgt := 19) rfl rfl (ti_eq jk_1 jk_0 (br_f (by omega) ?_))
                  refine x_aloadn (x := 78) rfl rfl ?_
                  refine x_iloadn (x := v400) rfl rfl ?_
                  refine x_inv (N := m_X7_soulAt) (As := [.int v400]) (b := 78) (st := []) (dx9 := 20) (mc := 0) (ms := 0) (host := "") 7 rfl t_X7_soulAt ⟨Or.inl q_7_153, i_X7_soulAt.1, i_X7_soulAt.2⟩ ⟨by decide, rfl⟩ (congrArg Prod.fst (J.1.1 78 (7, 16) rfl)) rfl (by decide) rfl rfl ⟨by decide, by decide⟩ (jC.of rfl k_X7_soulAt rfl ?_)
                  show jX m_X7_soulAt 20 0 0 0 [(0, .ref 78), (1, .int v400)] [] _ 0 0 _
                  refine x_iloadn (x := v400) rfl rfl ?_
                  refine x_iflt (tgt := 36) rfl rfl (ti_lt rfl jk_0 (br_f (by omega) ?_))
                  refine x_iloadn (x := v400) rfl rfl ?_
                  refine x_sipush (v := 600) rfl ks_600 ?_
                  refine x_icge (tgt := 36) rfl rfl (ti_ge rfl jk_600 ⟨fun c413 => ?_, fun c413 => ?_⟩)
                  ·
                    refine x_iconst (v := (-1)) rfl ki_m1 ?_
                    refine x_iret rfl rfl ?_
                    show jX m_X7_namedSoul 21 0 0 16 [(0, .ref 78), (1, .int v400)] [.int (-1)] _ 0 0 _
                    refine x_goto (tgt := 20) rfl rfl ?_
                    refine x_iret rfl rfl ?_
                    show jX m_X6_byParents 22 0 0 76 [(5, .int v398), (4, .int v4), (3, .int v2), (0, .ref 120), (1, .int a1), (2, .int 0)] [.int (-1), .ref 120] _ 0 0 _
                    refine x_iload (x := v4) rfl rfl ?_
                    refine x_iloadn (x := 0) rfl rfl ?_
                    refine x_iconst (v := 1) rfl ki_1 ?_
                    refine y_iadd (v := 1) rfl (by decide) ?_
                    refine x_inv (N := m_X6_belongs) (As := [.int (-1), .int v4, .int 1]) (b := 120) (st := []) (dx9 := 21) (mc := 0) (ms := 0) (host := "") 6 rfl t_X6_belongs ⟨Or.inl q_6_127, i_X6_belongs.1, i_X6_belongs.2⟩ ⟨by decide, rfl⟩ (congrArg Prod.fst (J.1.1 120 (6, 8) rfl)) rfl (by decide) rfl rfl ⟨by decide, by decide⟩ (sf_X6_belongs_r120_c1 (jr_of jk_m1 (by omega)) (jr_of rfl (by omega)) hD J  (fun v415 h ev415 J S414 => ?_))
                    have Sm := jSm_tr rfl Sm S414
                    show jX m_X6_byParents 22 0 0 84 [(5, .int v398), (4, .int v4), (3, .int v2), (0, .ref 120), (1, .int a1), (2, .int 0)] [.int v415] _ 0 0 _
                    exact jX.sub jsb_n (ct_X6_byParents_r120_c0_84 hD hQ  v415 h (jr_of rfl (by omega)) J Sm)
                  ·
                    refine x_iloadn (x := v400) rfl rfl ?_
                    refine x_iconst (v := 3) rfl ki_3 ?_
                    refine z_idiv rfl rfl jk_3 (by omega) (by omega) (fun v416 ev416 => ?_)
                    refine x_aloadn (x := 78) rfl rfl ?_
                    refine z_getR (N := 16) (b := 32) 7 0 rfl f_7_55 rfl J rfl 9984 ⟨rfl, rfl⟩ rfl ?_
                    refine z_getR (N := 20) (b := 33) 1 0 rfl f_7_63 rfl J rfl 4096 ⟨rfl, rfl⟩ rfl ?_
                    refine z_getI (N := 4) 8 3 rfl f_7_85 rfl J rfl sg_33_3_4_1_0_1 (fun v417 qv417 ev417 => ?_)
                    refine x_icge (tgt := 36) rfl rfl (ti_ge rfl rfl ⟨fun c418 => ?_, fun c418 => ?_⟩)
                    ·
                      refine x_iconst (v := (-1)) rfl ki_m1 ?_
                      refine x_iret rfl rfl ?_
                      show jX m_X7_namedSoul 21 0 0 16 [(0, .ref 78), (1, .int v400)] [.int (-1)] _ 0 0 _
                      refine x_goto (tgt := 20) rfl rfl ?_
                      refine x_iret rfl rfl ?_
                      show jX m_X6_byParents 22 0 0 76 [(5, .int v398), (4, .int v4), (3, .int v2), (0, .ref 120), (1, .int a1), (2, .int 0)] [.int (-1), .ref 120] _ 0 0 _
                      refine x_iload (x := v4) rfl rfl ?_
                      refine x_iloadn (x := 0) rfl rfl ?_
                      refine x_iconst (v := 1) rfl ki_1 ?_
                      refine y_iadd (v := 1) rfl (by decide) ?_
                      refine x_inv (N := m_X6_belongs) (As := [.int (-1), .int v4, .int 1]) (b := 120) (st := []) (dx9 := 21) (mc := 0) (ms := 0) (host := "") 6 rfl t_X6_belongs ⟨Or.inl q_6_127, i_X6_belongs.1, i_X6_belongs.2⟩ ⟨by decide, rfl⟩ (congrArg Prod.fst (J.1.1 120 (6, 8) rfl)) rfl (by decide) rfl rfl ⟨by decide, by decide⟩ (sf_X6_belongs_r120_c1 (jr_of jk_m1 (by omega)) (jr_of rfl (by omega)) hD J  (fun v420 h ev420 J S419 => ?_))
                      have Sm := jSm_tr rfl Sm S419
                      show jX m_X6_byParents 22 0 0 84 [(5, .int v398), (4, .int v4), (3, .int v2), (0, .ref 120), (1, .int a1), (2, .int 0)] [.int v420] _ 0 0 _
                      exact jX.sub jsb_n (ct_X6_byParents_r120_c0_84 hD hQ  v420 h (jr_of rfl (by omega)) J Sm)
                    ·
                      refine x_aloadn (x := 78) rfl rfl ?_
                      refine z_getR (N := 16) (b := 82) 7 10 rfl f_7_37 rfl J rfl 9994 ⟨rfl, rfl⟩ rfl ?_
                      refine x_iloadn (x := v400) rfl rfl ?_
                      refine z_iald (N := 600) rfl J rfl sg_82_0_600_1_0_1 rfl (by omega) (fun v421 qv421 ev421 => ?_)
                      refine x_goto (tgt := 37) rfl rfl ?_
                      refine x_iret rfl rfl ?_
                      show jX m_X7_namedSoul 21 0 0 16 [(0, .ref 78), (1, .int v400)] [.int v421] _ 0 0 _
                      refine x_goto (tgt := 20) rfl rfl ?_
                      refine x_iret rfl rfl ?_
                      show jX m_X6_byParents 22 0 0 76 [(5, .int v398), (4, .int v4), (3, .int v2), (0, .ref 120), (1, .int a1), (2, .int 0)] [.int v421, .ref 120] _ 0 0 _
                      refine x_iload (x := v4) rfl rfl ?_
                      refine x_iloadn (x := 0) rfl rfl ?_
                      refine x_iconst (v := 1) rfl ki_1 ?_
                      refine y_iadd (v := 1) rfl (by decide) ?_
                      refine x_inv (N := m_X6_belongs) (As := [.int v421, .int v4, .int 1]) (b := 120) (st := []) (dx9 := 21) (mc := 0) (ms := 0) (host := "") 6 rfl t_X6_belongs ⟨Or.inl q_6_127, i_X6_belongs.1, i_X6_belongs.2⟩ ⟨by decide, rfl⟩ (congrArg Prod.fst (J.1.1 120 (6, 8) rfl)) rfl (by decide) rfl rfl ⟨by decide, by decide⟩ (sf_X6_belongs_r120_c1 (jr_of rfl (by omega)) (jr_of rfl (by omega)) hD J  (fun v423 h ev423 J S422 => ?_))
                      have Sm := jSm_tr rfl Sm S422
                      show jX m_X6_byParents 22 0 0 84 [(5, .int v398), (4, .int v4), (3, .int v2), (0, .ref 120), (1, .int a1), (2, .int 0)] [.int v423] _ 0 0 _
                      exact jX.sub jsb_n (ct_X6_byParents_r120_c0_84 hD hQ  v423 h (jr_of rfl (by omega)) J Sm)
            ·
              refine x_aloadn (x := 70) rfl rfl ?_
              refine z_getR (N := 9) (b := 76) 5 7 rfl f_5_28 rfl J rfl 8967 ⟨rfl, rfl⟩ rfl ?_
              refine x_iloadn (x := v402) rfl rfl ?_
              refine z_iald (N := 1200) rfl J rfl sg_76_0_1200_1_0_1 rfl (by omega) (fun v424 qv424 ev424 => ?_)
              refine x_goto (tgt := 27) rfl rfl ?_
              refine x_iret rfl rfl ?_
              show jX m_X5_isNamed 20 0 0 6 [(0, .ref 70), (1, .int v400)] [.int v424] _ 0 0 _
              refine x_ifge (tgt := 18) rfl rfl (ti_ge rfl jk_0 ⟨fun c425 => ?_, fun c425 => ?_⟩)
              ·
                refine x_iconst (v := 1) rfl ki_1 ?_
                refine x_goto (tgt := 23) rfl rfl ?_
                refine x_zret rfl rfl (by decide) ?_
                show jX m_X7_namedSoul 21 0 0 8 [(0, .ref 78), (1, .int v400)] [.int 1] _ 0 0 _
                refine x_ifeq (tgt := 19) rfl rfl (ti_eq jk_1 jk_0 (br_f (by omega) ?_))
                refine x_aloadn (x := 78) rfl rfl ?_
                refine x_iloadn (x := v400) rfl rfl ?_
                refine x_inv (N := m_X7_soulAt) (As := [.int v400]) (b := 78) (st := []) (dx9 := 20) (mc := 0) (ms := 0) (host := "") 7 rfl t_X7_soulAt ⟨Or.inl q_7_153, i_X7_soulAt.1, i_X7_soulAt.2⟩ ⟨by decide, rfl⟩ (congrArg Prod.fst (J.1.1 78 (7, 16) rfl)) rfl (by decide) rfl rfl ⟨by decide, by decide⟩ (jC.of rfl k_X7_soulAt rfl ?_)
                show jX m_X7_soulAt 20 0 0 0 [(0, .ref 78), (1, .int v400)] [] _ 0 0 _
                refine x_iloadn (x := v400) rfl rfl ?_
                refine x_iflt (tgt := 36) rfl rfl (ti_lt rfl jk_0 (br_f (by omega) ?_))
                refine x_iloadn (x := v400) rfl rfl ?_
                refine x_sipush (v := 600) rfl ks_600 ?_
                refine x_icge (tgt := 36) rfl rfl (ti_ge rfl jk_600 ⟨fun c426 => ?_, fun c426 => ?_⟩)
                ·
                  refine x_iconst (v := (-1)) rfl ki_m1 ?_
                  refine x_iret rfl rfl ?_
                  show jX m_X7_namedSoul 21 0 0 16 [(0, .ref 78), (1, .int v400)] [.int (-1)] _ 0 0 _
                  refine x_goto (tgt := 20) rfl rfl ?_
                  refine x_iret rfl rfl ?_
                  show jX m_X6_byParents 22 0 0 76 [(5, .int v398), (4, .int v4), (3, .int v2), (0, .ref 120), (1, .int a1), (2, .int 0)] [.int (-1), .ref 120] _ 0 0 _
                  refine x_iload (x := v4) rfl rfl ?_
                  refine x_iloadn (x := 0) rfl rfl ?_
                  refine x_iconst (v := 1) rfl ki_1 ?_
                  refine y_iadd (v := 1) rfl (by decide) ?_
                  refine x_inv (N := m_X6_belongs) (As := [.int (-1), .int v4, .int 1]) (b := 120) (st := []) (dx9 := 21) (mc := 0) (ms := 0) (host := "") 6 rfl t_X6_belongs ⟨Or.inl q_6_127, i_X6_belongs.1, i_X6_belongs.2⟩ ⟨by decide, rfl⟩ (congrArg Prod.fst (J.1.1 120 (6, 8) rfl)) rfl (by decide) rfl rfl ⟨by decide, by decide⟩ (sf_X6_belongs_r120_c1 (jr_of jk_m1 (by omega)) (jr_of rfl (by omega)) hD J  (fun v428 h ev428 J S427 => ?_))
                  have Sm := jSm_tr rfl Sm S427
                  show jX m_X6_byParents 22 0 0 84 [(5, .int v398), (4, .int v4), (3, .int v2), (0, .ref 120), (1, .int a1), (2, .int 0)] [.int v428] _ 0 0 _
                  exact jX.sub jsb_n (ct_X6_byParents_r120_c0_84 hD hQ  v428 h (jr_of rfl (by omega)) J Sm)
                ·
                  refine x_iloadn (x := v400) rfl rfl ?_
                  refine x_iconst (v := 3) rfl ki_3 ?_
                  refine z_idiv rfl rfl jk_3 (by omega) (by omega) (fun v429 ev429 => ?_)
                  refine x_aloadn (x := 78) rfl rfl ?_
                  refine z_getR (N := 16) (b := 32) 7 0 rfl f_7_55 rfl J rfl 9984 ⟨rfl, rfl⟩ rfl ?_
                  refine z_getR (N := 20) (b := 33) 1 0 rfl f_7_63 rfl J rfl 4096 ⟨rfl, rfl⟩ rfl ?_
                  refine z_getI (N := 4) 8 3 rfl f_7_85 rfl J rfl sg_33_3_4_1_0_1 (fun v430 qv430 ev430 => ?_)
                  refine x_icge (tgt := 36) rfl rfl (ti_ge rfl rfl ⟨fun c431 => ?_, fun c431 => ?_⟩)
                  ·
                    refine x_iconst (v := (-1)) rfl ki_m1 ?_
                    refine x_iret rfl rfl ?_
                    show jX m_X7_namedSoul 21 0 0 16 [(0, .ref 78), (1, .int v400)] [.int (-1)] _ 0 0 _
                    refine x_goto (tgt := 20) rfl rfl ?_
                    refine x_iret rfl rfl ?_
                    show jX m_X6_byParents 22 0 0 76 [(5, .int v398), (4, .int v4), (3, .int v2), (0, .ref 120), (1, .int a1), (2, .int 0)] [.int (-1), .ref 120] _ 0 0 _
                    refine x_iload (x := v4) rfl rfl ?_
                    refine x_iloadn (x := 0) rfl rfl ?_
                    refine x_iconst (v := 1) rfl ki_1 ?_
                    refine y_iadd (v := 1) rfl (by decide) ?_
                    refine x_inv (N := m_X6_belongs) (As := [.int (-1), .int v4, .int 1]) (b := 120) (st := []) (dx9 := 21) (mc := 0) (ms := 0) (host := "") 6 rfl t_X6_belongs ⟨Or.inl q_6_127, i_X6_belongs.1, i_X6_belongs.2⟩ ⟨by decide, rfl⟩ (congrArg Prod.fst (J.1.1 120 (6, 8) rfl)) rfl (by decide) rfl rfl ⟨by decide, by decide⟩ (sf_X6_belongs_r120_c1 (jr_of jk_m1 (by omega)) (jr_of rfl (by omega)) hD J  (fun v433 h ev433 J S432 => ?_))
                    have Sm := jSm_tr rfl Sm S432
                    show jX m_X6_byParents 22 0 0 84 [(5, .int v398), (4, .int v4), (3, .int v2), (0, .ref 120), (1, .int a1), (2, .int 0)] [.int v433] _ 0 0 _
                    exact jX.sub jsb_n (ct_X6_byParents_r120_c0_84 hD hQ  v433 h (jr_of rfl (by omega)) J Sm)
                  ·
                    refine x_aloadn (x := 78) rfl rfl ?_
                    refine z_getR (N := 16) (b := 82) 7 10 rfl f_7_37 rfl J rfl 9994 ⟨rfl, rfl⟩ rfl ?_
                    refine x_iloadn (x := v400) rfl rfl ?_
                    refine z_iald (N := 600) rfl J rfl sg_82_0_600_1_0_1 rfl (by omega) (fun v434 qv434 ev434 => ?_)
                    refine x_goto (tgt := 37) rfl rfl ?_
                    refine x_iret rfl rfl ?_
                    show jX m_X7_namedSoul 21 0 0 16 [(0, .ref 78), (1, .int v400)] [.int v434] _ 0 0 _
                    refine x_goto (tgt := 20) rfl rfl ?_
                    refine x_iret rfl rfl ?_
                    show jX m_X6_byParents 22 0 0 76 [(5, .int v398), (4, .int v4), (3, .int v2), (0, .ref 120), (1, .int a1), (2, .int 0)] [.int v434, .ref 120] _ 0 0 _
                    refine x_iload (x := v4) rfl rfl ?_
                    refine x_iloadn (x := 0) rfl rfl ?_
                    refine x_iconst (v := 1) rfl ki_1 ?_
                    refine y_iadd (v := 1) rfl (by decide) ?_
                    refine x_inv (N := m_X6_belongs) (As := [.int v434, .int v4, .int 1]) (b := 120) (st := []) (dx9 := 21) (mc := 0) (ms := 0) (host := "") 6 rfl t_X6_belongs ⟨Or.inl q_6_127, i_X6_belongs.1, i_X6_belongs.2⟩ ⟨by decide, rfl⟩ (congrArg Prod.fst (J.1.1 120 (6, 8) rfl)) rfl (by decide) rfl rfl ⟨by decide, by decide⟩ (sf_X6_belongs_r120_c1 (jr_of rfl (by omega)) (jr_of rfl (by omega)) hD J  (fun v436 h ev436 J S435 => ?_))
                    have Sm := jSm_tr rfl Sm S435
                    show jX m_X6_byParents 22 0 0 84 [(5, .int v398), (4, .int v4), (3, .int v2), (0, .ref 120), (1, .int a1), (2, .int 0)] [.int v436] _ 0 0 _
                    exact jX.sub jsb_n (ct_X6_byParents_r120_c0_84 hD hQ  v436 h (jr_of rfl (by omega)) J Sm)
              ·
                refine x_aloadn (x := 70) rfl rfl ?_
                refine x_iloadn (x := v400) rfl rfl ?_
                refine x_iconst (v := 1) rfl ki_1 ?_
                refine x_inv (N := m_X5_lengthOf) (As := [.int v400, .int 1]) (b := 70) (st := []) (dx9 := 19) (mc := 0) (ms := 0) (host := "") 5 rfl t_X5_lengthOf ⟨Or.inl q_5_133, i_X5_lengthOf.1, i_X5_lengthOf.2⟩ ⟨by decide, rfl⟩ (congrArg Prod.fst (J.1.1 70 (5, 9) rfl)) rfl (by decide) rfl rfl ⟨by decide, by decide⟩ (jC.of rfl k_X5_lengthOf rfl ?_)
                show jX m_X5_lengthOf 19 0 0 0 [(0, .ref 70), (1, .int v400), (2, .int 1)] [] _ 0 0 _
                refine x_iloadn (x := v400) rfl rfl ?_
                refine x_iconst (v := 2) rfl ki_2 ?_
                refine z_imul rfl rfl jk_2 (by omega) (fun v437 ev437 => ?_)
                refine x_iloadn (x := 1) rfl rfl ?_
                refine z_iadd rfl rfl jk_1 (by omega) (fun v438 ev438 => ?_)
                refine x_istoren (lsx9 := [(3, .int v438), (0, .ref 70), (1, .int v400), (2, .int 1)]) rfl rfl rfl ?_
                refine x_iloadn (x := v438) rfl rfl ?_
                refine x_iflt (tgt := 26) rfl rfl (ti_lt rfl jk_0 (br_f (by omega) ?_))
                refine x_iloadn (x := v438) rfl rfl ?_
                refine x_sipush (v := 1200) rfl ks_1200 ?_
                refine x_icge (tgt := 26) rfl rfl (ti_ge rfl jk_1200 ⟨fun c439 => ?_, fun c439 => ?_⟩)
                ·
                  refine x_iconst (v := (-1)) rfl ki_m1 ?_
                  refine x_iret rfl rfl ?_
                  show jX m_X5_isNamed 20 0 0 15 [(0, .ref 70), (1, .int v400)] [.int (-1)] _ 0 0 _
                  refine x_iflt (tgt := 22) rfl rfl (ti_lt jk_m1 jk_0 (br_t (by omega) ?_))
                  refine x_iconst (v := 0) rfl ki_0 ?_
                  refine x_zret rfl rfl (by decide) ?_
                  show jX m_X7_namedSoul 21 0 0 8 [(0, .ref 78), (1, .int v400)] [.int 0] _ 0 0 _
                  refine x_ifeq (tgt := 19) rfl rfl (ti_eq jk_0 jk_0 (br_t (by omega) ?_))
                  refine x_iconst (v := (-1)) rfl ki_m1 ?_
                  refine x_iret rfl rfl ?_
                  show jX m_X6_byParents 22 0 0 76 [(5, .int v398), (4, .int v4), (3, .int v2), (0, .ref 120), (1, .int a1), (2, .int 0)] [.int (-1), .ref 120] _ 0 0 _
                  refine x_iload (x := v4) rfl rfl ?_
                  refine x_iloadn (x := 0) rfl rfl ?_
                  refine x_iconst (v := 1) rfl ki_1 ?_
                  refine y_iadd (v := 1) rfl (by decide) ?_
                  refine x_inv (N := m_X6_belongs) (As := [.int (-1), .int v4, .int 1]) (b := 120) (st := []) (dx9 := 21) (mc := 0) (ms := 0) (host := "") 6 rfl t_X6_belongs ⟨Or.inl q_6_127, i_X6_belongs.1, i_X6_belongs.2⟩ ⟨by decide, rfl⟩ (congrArg Prod.fst (J.1.1 120 (6, 8) rfl)) rfl (by decide) rfl rfl ⟨by decide, by decide⟩ (sf_X6_belongs_r120_c1 (jr_of jk_m1 (by omega)) (jr_of rfl (by omega)) hD J  (fun v441 h ev441 J S440 => ?_))
                  have Sm := jSm_tr rfl Sm S440
                  show jX m_X6_byParents 22 0 0 84 [(5, .int v398), (4, .int v4), (3, .int v2), (0, .ref 120), (1, .int a1), (2, .int 0)] [.int v441] _ 0 0 _
                  exact jX.sub jsb_n (ct_X6_byParents_r120_c0_84 hD hQ  v441 h (jr_of rfl (by omega)) J Sm)
                ·
                  refine x_aloadn (x := 70) rfl rfl ?_
                  refine z_getR (N := 9) (b := 76) 5 7 rfl f_5_28 rfl J rfl 8967 ⟨rfl, rfl⟩ rfl ?_
                  refine x_iloadn (x := v438) rfl rfl ?_
                  refine z_iald (N := 1200) rfl J rfl sg_76_0_1200_1_0_1 rfl (by omega) (fun v442 qv442 ev442 => ?_)
                  refine x_goto (tgt := 27) rfl rfl ?_
                  refine x_iret rfl rfl ?_
                  show jX m_X5_isNamed 20 0 0 15 [(0, .ref 70), (1, .int v400)] [.int v442] _ 0 0 _
                  refine x_iflt (tgt := 22) rfl rfl (ti_lt rfl jk_0 ⟨fun c443 => ?_, fun c443 => ?_⟩)
                  ·
                    refine x_iconst (v := 0) rfl ki_0 ?_
                    refine x_zret rfl rfl (by decide) ?_
                    show jX m_X7_namedSoul 21 0 0 8 [(0, .ref 78), (1, .int v400)] [.int 0] _ 0 0 _
                    refine x_ifeq (tgt := 19) rfl rfl (ti_eq jk_0 jk_0 (br_t (by omega) ?_))
                    refine x_iconst (v := (-1)) rfl ki_m1 ?_
                    refine x_iret rfl rfl ?_
                    show jX m_X6_byParents 22 0 0 76 [(5, .int v398), (4, .int v4), (3, .int v2), (0, .ref 120), (1, .int a1), (2, .int 0)] [.int (-1), .ref 120] _ 0 0 _
                    refine x_iload (x := v4) rfl rfl ?_
                    refine x_iloadn (x := 0) rfl rfl ?_
                    refine x_iconst (v := 1) rfl ki_1 ?_
                    refine y_iadd (v := 1) rfl (by decide) ?_
                    refine x_inv (N := m_X6_belongs) (As := [.int (-1), .int v4, .int 1]) (b := 120) (st := []) (dx9 := 21) (mc := 0) (ms := 0) (host := "") 6 rfl t_X6_belongs ⟨Or.inl q_6_127, i_X6_belongs.1, i_X6_belongs.2⟩ ⟨by decide, rfl⟩ (congrArg Prod.fst (J.1.1 120 (6, 8) rfl)) rfl (by decide) rfl rfl ⟨by decide, by decide⟩ (sf_X6_belongs_r120_c1 (jr_of jk_m1 (by omega)) (jr_of rfl (by omega)) hD J  (fun v445 h ev445 J S444 => ?_))
                    have Sm := jSm_tr rfl Sm S444
                    show jX m_X6_byParents 22 0 0 84 [(5, .int v398), (4, .int v4), (3, .int v2), (0, .ref 120), (1, .int a1), (2, .int 0)] [.int v445] _ 0 0 _
                    exact jX.sub jsb_n (ct_X6_byParents_r120_c0_84 hD hQ  v445 h (jr_of rfl (by omega)) J Sm)
                  ·
                    refine x_iconst (v := 1) rfl ki_1 ?_
                    refine x_goto (tgt := 23) rfl rfl ?_
                    refine x_zret rfl rfl (by decide) ?_
                    show jX m_X7_namedSoul 21 0 0 8 [(0, .ref 78), (1, .int v400)] [.int 1] _ 0 0 _
                    refine x_ifeq (tgt := 19) rfl rfl (ti_eq jk_1 jk_0 (br_f (by omega) ?_))
                    refine x_aloadn (x := 78) rfl rfl ?_
                    refine x_iloadn (x := v400) rfl rfl ?_
                    refine x_inv (N := m_X7_soulAt) (As := [.int v400]) (b := 78) (st := []) (dx9 := 20) (mc := 0) (ms := 0) (host := "") 7 rfl t_X7_soulAt ⟨Or.inl q_7_153, i_X7_soulAt.1, i_X7_soulAt.2⟩ ⟨by decide, rfl⟩ (congrArg Prod.fst (J.1.1 78 (7, 16) rfl)) rfl (by decide) rfl rfl ⟨by decide, by decide⟩ (jC.of rfl k_X7_soulAt rfl ?_)
                    show jX m_X7_soulAt 20 0 0 0 [(0, .ref 78), (1, .int v400)] [] _ 0 0 _
                    refine x_iloadn (x := v400) rfl rfl ?_
                    refine x_iflt (tgt := 36) rfl rfl (ti_lt rfl jk_0 (br_f (by omega) ?_))
                    refine x_iloadn (x := v400) rfl rfl ?_
                    refine x_sipush (v := 600) rfl ks_600 ?_
                    refine x_icge (tgt := 36) rfl rfl (ti_ge rfl jk_600 ⟨fun c446 => ?_, fun c446 => ?_⟩)
                    ·
                      refine x_iconst (v := (-1)) rfl ki_m1 ?_
                      refine x_iret rfl rfl ?_
                      show jX m_X7_namedSoul 21 0 0 16 [(0, .ref 78), (1, .int v400)] [.int (-1)] _ 0 0 _
                      refine x_goto (tgt := 20) rfl rfl ?_
                      refine x_iret rfl rfl ?_
                      show jX m_X6_byParents 22 0 0 76 [(5, .int v398), (4, .int v4), (3, .int v2), (0, .ref 120), (1, .int a1), (2, .int 0)] [.int (-1), .ref 120] _ 0 0 _
                      refine x_iload (x := v4) rfl rfl ?_
                      refine x_iloadn (x := 0) rfl rfl ?_
                      refine x_iconst (v := 1) rfl ki_1 ?_
                      refine y_iadd (v := 1) rfl (by decide) ?_
                      refine x_inv (N := m_X6_belongs) (As := [.int (-1), .int v4, .int 1]) (b := 120) (st := []) (dx9 := 21) (mc := 0) (ms := 0) (host := "") 6 rfl t_X6_belongs ⟨Or.inl q_6_127, i_X6_belongs.1, i_X6_belongs.2⟩ ⟨by decide, rfl⟩ (congrArg Prod.fst (J.1.1 120 (6, 8) rfl)) rfl (by decide) rfl rfl ⟨by decide, by decide⟩ (sf_X6_belongs_r120_c1 (jr_of jk_m1 (by omega)) (jr_of rfl (by omega)) hD J  (fun v448 h ev448 J S447 => ?_))
                      have Sm := jSm_tr rfl Sm S447
                      show jX m_X6_byParents 22 0 0 84 [(5, .int v398), (4, .int v4), (3, .int v2), (0, .ref 120), (1, .int a1), (2, .int 0)] [.int v448] _ 0 0 _
                      exact jX.sub jsb_n (ct_X6_byParents_r120_c0_84 hD hQ  v448 h (jr_of rfl (by omega)) J Sm)
                    ·
                      refine x_iloadn (x := v400) rfl rfl ?_
                      refine x_iconst (v := 3) rfl ki_3 ?_
                      refine z_idiv rfl rfl jk_3 (by omega) (by omega) (fun v449 ev449 => ?_)
                      refine x_aloadn (x := 78) rfl rfl ?_
                      refine z_getR (N := 16) (b := 32) 7 0 rfl f_7_55 rfl J rfl 9984 ⟨rfl, rfl⟩ rfl ?_
                      refine z_getR (N := 20) (b := 33) 1 0 rfl f_7_63 rfl J rfl 4096 ⟨rfl, rfl⟩ rfl ?_
                      refine z_getI (N := 4) 8 3 rfl f_7_85 rfl J rfl sg_33_3_4_1_0_1 (fun v450 qv450 ev450 => ?_)
                      refine x_icge (tgt := 36) rfl rfl (ti_ge rfl rfl ⟨fun c451 => ?_, fun c451 => ?_⟩)
                      ·
                        refine x_iconst (v := (-1)) rfl ki_m1 ?_
                        refine x_iret rfl rfl ?_
                        show jX m_X7_namedSoul 21 0 0 16 [(0, .ref 78), (1, .int v400)] [.int (-1)] _ 0 0 _
                        refine x_goto (tgt := 20) rfl rfl ?_
                        refine x_iret rfl rfl ?_
                        show jX m_X6_byParents 22 0 0 76 [(5, .int v398), (4, .int v4), (3, .int v2), (0, .ref 120), (1, .int a1), (2, .int 0)] [.int (-1), .ref 120] _ 0 0 _
                        refine x_iload (x := v4) rfl rfl ?_
                        refine x_iloadn (x := 0) rfl rfl ?_
                        refine x_iconst (v := 1) rfl ki_1 ?_
                        refine y_iadd (v := 1) rfl (by decide) ?_
                        refine x_inv (N := m_X6_belongs) (As := [.int (-1), .int v4, .int 1]) (b := 120) (st := []) (dx9 := 21) (mc := 0) (ms := 0) (host := "") 6 rfl t_X6_belongs ⟨Or.inl q_6_127, i_X6_belongs.1, i_X6_belongs.2⟩ ⟨by decide, rfl⟩ (congrArg Prod.fst (J.1.1 120 (6, 8) rfl)) rfl (by decide) rfl rfl ⟨by decide, by decide⟩ (sf_X6_belongs_r120_c1 (jr_of jk_m1 (by omega)) (jr_of rfl (by omega)) hD J  (fun v453 h ev453 J S452 => ?_))
                        have Sm := jSm_tr rfl Sm S452
                        show jX m_X6_byParents 22 0 0 84 [(5, .int v398), (4, .int v4), (3, .int v2), (0, .ref 120), (1, .int a1), (2, .int 0)] [.int v453] _ 0 0 _
                        exact jX.sub jsb_n (ct_X6_byParents_r120_c0_84 hD hQ  v453 h (jr_of rfl (by omega)) J Sm)
                      ·
                        refine x_aloadn (x := 78) rfl rfl ?_
                        refine z_getR (N := 16) (b := 82) 7 10 rfl f_7_37 rfl J rfl 9994 ⟨rfl, rfl⟩ rfl ?_
                        refine x_iloadn (x := v400) rfl rfl ?_
                        refine z_iald (N := 600) rfl J rfl sg_82_0_600_1_0_1 rfl (by omega) (fun v454 qv454 ev454 => ?_)
                        refine x_goto (tgt := 37) rfl rfl ?_
                        refine x_iret rfl rfl ?_
                        show jX m_X7_namedSoul 21 0 0 16 [(0, .ref 78), (1, .int v400)] [.int v454] _ 0 0 _
                        refine x_goto (tgt := 20) rfl rfl ?_
                        refine x_iret rfl rfl ?_
                        show jX m_X6_byParents 22 0 0 76 [(5, .int v398), (4, .int v4), (3, .int v2), (0, .ref 120), (1, .int a1), (2, .int 0)] [.int v454, .ref 120] _ 0 0 _
                        refine x_iload (x := v4) rfl rfl ?_
                        refine x_iloadn (x := 0) rfl rfl ?_
                        refine x_iconst (v := 1) rfl ki_1 ?_
                        refine y_iadd (v := 1) rfl (by decide) ?_
                        refine x_inv (N := m_X6_belongs) (As := [.int v454, .int v4, .int 1]) (b := 120) (st := []) (dx9 := 21) (mc := 0) (ms := 0) (host := "") 6 rfl t_X6_belongs ⟨Or.inl q_6_127, i_X6_belongs.1, i_X6_belongs.2⟩ ⟨by decide, rfl⟩ (congrArg Prod.fst (J.1.1 120 (6, 8) rfl)) rfl (by decide) rfl rfl ⟨by decide, by decide⟩ (sf_X6_belongs_r120_c1 (jr_of rfl (by omega)) (jr_of rfl (by omega)) hD J  (fun v456 h ev456 J S455 => ?_))
                        have Sm := jSm_tr rfl Sm S455
                        show jX m_X6_byParents 22 0 0 84 [(5, .int v398), (4, .int v4), (3, .int v2), (0, .ref 120), (1, .int a1), (2, .int 0)] [.int v456] _ 0 0 _
                        exact jX.sub jsb_n (ct_X6_byParents_r120_c0_84 hD hQ  v456 h (jr_of rfl (by omega)) J Sm)
          ·
            refine x_iload (x := v398) rfl rfl ?_
            refine x_goto (tgt := 84) rfl rfl ?_
            exact jX.sub jsb_n (ct_X6_byParents_r120_c0_84 hD hQ  v398 h (jr_of rfl (by omega)) J Sm)
        ·
          refine x_aloadn (x := 70) rfl rfl ?_
          refine z_getR (N := 9) (b := 76) 5 7 rfl f_5_28 rfl J rfl 8967 ⟨rfl, rfl⟩ rfl ?_
          refine x_iloadn (x := v395) rfl rfl ?_
          refine z_iald (N := 1200) rfl J rfl sg_76_0_1200_1_0_1 rfl (by omega) (fun v457 qv457 ev457 => ?_)
          refine x_goto (tgt := 27) rfl rfl ?_
          refine x_iret rfl rfl ?_
          show jX m_X5_isNamed 20 0 0 15 [(0, .ref 70), (1, .int v5)] [.int v457] _ 0 0 _
          refine x_iflt (tgt := 22) rfl rfl (ti_lt rfl jk_0 ⟨fun c458 => ?_, fun c458 => ?_⟩)
          ·
            refine x_iconst (v := 0) rfl ki_0 ?_
            refine x_zret rfl rfl (by decide) ?_
            show jX m_X7_namedSoul 21 0 0 8 [(0, .ref 78), (1, .int v5)] [.int 0] _ 0 0 _
            refine x_ifeq (tgt := 19) rfl rfl (ti_eq jk_0 jk_0 (br_t (by omega) ?_))
            refine x_iconst (v := (-1)) rfl ki_m1 ?_
            refine x_iret rfl rfl ?_
            show jX m_X6_byParents 22 0 0 44 [(4, .int v4), (3, .int v2), (0, .ref 120), (1, .int a1), (2, .int 0)] [.int (-1), .ref 120] _ 0 0 _
            refine x_iload (x := v4) rfl rfl ?_
            refine x_iloadn (x := 0) rfl rfl ?_
            refine x_iconst (v := 1) rfl ki_1 ?_
            refine y_iadd (v := 1) rfl (by decide) ?_
            refine x_inv (N := m_X6_belongs) (As := [.int (-1), .int v4, .int 1]) (b := 120) (st := []) (dx9 := 21) (mc := 0) (ms := 0) (host := "") 6 rfl t_X6_belongs ⟨Or.inl q_6_127, i_X6_belongs.1, i_X6_belongs.2⟩ ⟨by decide, rfl⟩ (congrArg Prod.fst (J.1.1 120 (6, 8) rfl)) rfl (by decide) rfl rfl ⟨by decide, by decide⟩ (sf_X6_belongs_r120_c1 (jr_of jk_m1 (by omega)) (jr_of rfl (by omega)) hD J  (fun v460 h ev460 J S459 => ?_))
            have Sm := jSm_tr rfl Sm S459
            show jX m_X6_byParents 22 0 0 52 [(4, .int v4), (3, .int v2), (0, .ref 120), (1, .int a1), (2, .int 0)] [.int v460] _ 0 0 _
            refine x_istore (lsx9 := [(5, .int v460), (4, .int v4), (3, .int v2), (0, .ref 120), (1, .int a1), (2, .int 0)]) rfl rfl rfl ?_
            refine x_iload (x := v460) rfl rfl ?_
            refine x_iconst (v := (-1)) rfl ki_m1 ?_
            refine x_iceq (tgt := 65) rfl rfl (ti_eq rfl jk_m1 ⟨fun c461 => ?_, fun c461 => ?_⟩)
            ·
              refine x_aloadn (x := 120) rfl rfl ?_
              refine x_aloadn (x := 120) rfl rfl ?_
              refine z_getR (N := 8) (b := 78) 6 1 rfl f_6_32 rfl J rfl 15361 ⟨rfl, rfl⟩ rfl ?_
              refine x_iloadn (x := v2) rfl rfl ?_
              refine x_iconst (v := 2) rfl ki_2 ?_
              refine z_iadd rfl rfl jk_2 (by omega) (fun v462 ev462 => ?_)
              refine x_inv (N := m_X7_namedSoul) (As := [.int v462]) (b := 78) (st := [.ref 120]) (dx9 := 21) (mc := 0) (ms := 0) (host := "") 7 rfl t_X7_namedSoul ⟨Or.inl q_6_124, i_X7_namedSoul.1, i_X7_namedSoul.2⟩ ⟨by decide, rfl⟩ (congrArg Prod.fst (J.1.1 78 (7, 16) rfl)) rfl (by decide) rfl rfl ⟨by decide, by decide⟩ (jC.of rfl k_X7_namedSoul rfl ?_)
              show jX m_X7_namedSoul 21 0 0 0 [(0, .ref 78), (1, .int v462)] [] _ 0 0 _
              refine x_aloadn (x := 78) rfl rfl ?_
              refine z_getR (N := 16) (b := 70) 7 1 rfl f_7_59 rfl J rfl 9985 ⟨rfl, rfl⟩ rfl ?_
              refine x_iloadn (x := v462) rfl rfl ?_
              refine x_inv (N := m_X5_isNamed) (As := [.int v462]) (b := 70) (st := []) (dx9 := 20) (mc := 0) (ms := 0) (host := "") 5 rfl t_X5_isNamed ⟨Or.inl q_7_173, i_X5_isNamed.1, i_X5_isNamed.2⟩ ⟨by decide, rfl⟩ (congrArg Prod.fst (J.1.1 70 (5, 9) rfl)) rfl (by decide) rfl rfl ⟨by decide, by decide⟩ (jC.of rfl k_X5_isNamed rfl ?_)
              show jX m_X5_isNamed 20 0 0 0 [(0, .ref 70), (1, .int v462)] [] _ 0 0 _
              refine x_aloadn (x := 70) rfl rfl ?_
              refine x_iloadn (x := v462) rfl rfl ?_
              refine x_iconst (v := 0) rfl ki_0 ?_
              refine x_inv (N := m_X5_lengthOf) (As := [.int v462, .int 0]) (b := 70) (st := []) (dx9 := 19) (mc := 0) (ms := 0) (host := "") 5 rfl t_X5_lengthOf ⟨Or.inl q_5_133, i_X5_lengthOf.1, i_X5_lengthOf.2⟩ ⟨by decide, rfl⟩ (congrArg Prod.fst (J.1.1 70 (5, 9) rfl)) rfl (by decide) rfl rfl ⟨by decide, by decide⟩ (jC.of rfl k_X5_lengthOf rfl ?_)
              show jX m_X5_lengthOf 19 0 0 0 [(0, .ref 70), (1, .int v462), (2, .int 0)] [] _ 0 0 _
              refine x_iloadn (x := v462) rfl rfl ?_
              refine x_iconst (v := 2) rfl ki_2 ?_
              refine z_imul rfl rfl jk_2 (by omega) (fun v463 ev463 => ?_)
              refine x_iloadn (x := 0) rfl rfl ?_
              refine z_iadd rfl rfl jk_0 (by omega) (fun v464 ev464 => ?_)
              refine x_istoren (lsx9 := [(3, .int v464), (0, .ref 70), (1, .int v462), (2, .int 0)]) rfl rfl rfl ?_
              refine x_iloadn (x := v464) rfl rfl ?_
              refine x_iflt (tgt := 26) rfl rfl (ti_lt rfl jk_0 (br_f (by omega) ?_))
              refine x_iloadn (x := v464) rfl rfl ?_
              refine x_sipush (v := 1200) rfl ks_1200 ?_
              refine x_icge (tgt := 26) rfl rfl (ti_ge rfl jk_1200 ⟨fun c465 => ?_, fun c465 => ?_⟩)
              ·
                refine x_iconst (v := (-1)) rfl ki_m1 ?_
                refine x_iret rfl rfl ?_
                show jX m_X5_isNamed 20 0 0 6 [(0, .ref 70), (1, .int v462)] [.int (-1)] _ 0 0 _
                refine x_ifge (tgt := 18) rfl rfl (ti_ge jk_m1 jk_0 (br_f (by omega) ?_))
                refine x_aloadn (x := 70) rfl rfl ?_
                refine x_iloadn (x := v462) rfl rfl ?_
                refine x_iconst (v := 1) rfl ki_1 ?_
                refine x_inv (N := m_X5_lengthOf) (As := [.int v462, .int 1]) (b := 70) (st := []) (dx9 := 19) (mc := 0) (ms := 0) (host := "") 5 rfl t_X5_lengthOf ⟨Or.inl q_5_133, i_X5_lengthOf.1, i_X5_lengthOf.2⟩ ⟨by decide, rfl⟩ (congrArg Prod.fst (J.1.1 70 (5, 9) rfl)) rfl (by decide) rfl rfl ⟨by decide, by decide⟩ (jC.of rfl k_X5_lengthOf rfl ?_)
                show jX m_X5_lengthOf 19 0 0 0 [(0, .ref 70), (1, .int v462), (2, .int 1)] [] _ 0 0 _
                refine x_iloadn (x := v462) rfl rfl ?_
                refine x_iconst (v := 2) rfl ki_2 ?_
                refine z_imul rfl rfl jk_2 (by omega) (fun v466 ev466 => ?_)
                refine x_iloadn (x := 1) rfl rfl ?_
                refine z_iadd rfl rfl jk_1 (by omega) (fun v467 ev467 => ?_)
                refine x_istoren (lsx9 := [(3, .int v467), (0, .ref 70), (1, .int v462), (2, .int 1)]) rfl rfl rfl ?_
                refine x_iloadn (x := v467) rfl rfl ?_
                refine x_iflt (tgt := 26) rfl rfl (ti_lt rfl jk_0 (br_f (by omega) ?_))
                refine x_iloadn (x := v467) rfl rfl ?_
                refine x_sipush (v := 1200) rfl ks_1200 ?_
                refine x_icge (tgt := 26) rfl rfl (ti_ge rfl jk_1200 ⟨fun c468 => ?_, fun c468 => ?_⟩)
                ·
                  refine x_iconst (v := (-1)) rfl ki_m1 ?_
                  refine x_iret rfl rfl ?_
                  show jX m_X5_isNamed 20 0 0 15 [(0, .ref 70), (1, .int v462)] [.int (-1)] _ 0 0 _
                  refine x_iflt (tgt := 22) rfl rfl (ti_lt jk_m1 jk_0 (br_t (by omega) ?_))
                  refine x_iconst (v := 0) rfl ki_0 ?_
                  refine x_zret rfl rfl (by decide) ?_
                  show jX m_X7_namedSoul 21 0 0 8 [(0, .ref 78), (1, .int v462)] [.int 0] _ 0 0 _
                  refine x_ifeq (tgt := 19) rfl rfl (ti_eq jk_0 jk_0 (br_t (by omega) ?_))
                  refine x_iconst (v := (-1)) rfl ki_m1 ?_
                  refine x_iret rfl rfl ?_
                  show jX m_X6_byParents 22 0 0 76 [(5, .int v460), (4, .int v4), (3, .int v2), (0, .ref 120), (1, .int a1), (2, .int 0)] [.int (-1), .ref 120] _ 0 0 _
                  refine x_iload (x := v4) rfl rfl ?_
                  refine x_iloadn (x := 0) rfl rfl ?_
                  refine x_iconst (v := 1) rfl ki_1 ?_
                  refine y_iadd (v := 1) rfl (by decide) ?_
                  refine x_inv (N := m_X6_belongs) (As := [.int (-1), .int v4, .int 1]) (b := 120) (st := []) (dx9 := 21) (mc := 0) (ms := 0) (host := "") 6 rfl t_X6_belongs ⟨Or.inl q_6_127, i_X6_belongs.1, i_X6_belongs.2⟩ ⟨by decide, rfl⟩ (congrArg Prod.fst (J.1.1 120 (6, 8) rfl)) rfl (by decide) rfl rfl ⟨by decide, by decide⟩ (sf_X6_belongs_r120_c1 (jr_of jk_m1 (by omega)) (jr_of rfl (by omega)) hD J  (fun v470 h ev470 J S469 => ?_))
                  have Sm := jSm_tr rfl Sm S469
                  show jX m_X6_byParents 22 0 0 84 [(5, .int v460), (4, .int v4), (3, .int v2), (0, .ref 120), (1, .int a1), (2, .int 0)] [.int v470] _ 0 0 _
                  exact jX.sub jsb_n (ct_X6_byParents_r120_c0_84 hD hQ  v470 h (jr_of rfl (by omega)) J Sm)
                ·
                  refine x_aloadn (x := 70) rfl rfl ?_
                  refine z_getR (N := 9) (b := 76) 5 7 rfl f_5_28 rfl J rfl 8967 ⟨rfl, rfl⟩ rfl ?_
                  refine x_iloadn (x := v467) rfl rfl ?_
                  refine z_iald (N := 1200) rfl J rfl sg_76_0_1200_1_0_1 rfl (by omega) (fun v471 qv471 ev471 => ?_)
                  refine x_goto (tgt := 27) rfl rfl ?_
                  refine x_iret rfl rfl ?_
                  show jX m_X5_isNamed 20 0 0 15 [(0, .ref 70), (1, .int v462)] [.int v471] _ 0 0 _
                  refine x_iflt (tgt := 22) rfl rfl (ti_lt rfl jk_0 ⟨fun c472 => ?_, fun c472 => ?_⟩)
                  ·
                    refine x_iconst (v := 0) rfl ki_0 ?_
                    refine x_zret rfl rfl (by decide) ?_
                    show jX m_X7_namedSoul 21 0 0 8 [(0, .ref 78), (1, .int v462)] [.int 0] _ 0 0 _
                    refine x_ifeq (tgt := 19) rfl rfl (ti_eq jk_0 jk_0 (br_t (by omega) ?_))
                    refine x_iconst (v := (-1)) rfl ki_m1 ?_
                    refine x_iret rfl rfl ?_
                    show jX m_X6_byParents 22 0 0 76 [(5, .int v460), (4, .int v4), (3, .int v2), (0, .ref 120), (1, .int a1), (2, .int 0)] [.int (-1), .ref 120] _ 0 0 _
                    refine x_iload (x := v4) rfl rfl ?_
                    refine x_iloadn (x := 0) rfl rfl ?_
                    refine x_iconst (v := 1) rfl ki_1 ?_
                    refine y_iadd (v := 1) rfl (by decide) ?_
                    refine x_inv (N := m_X6_belongs) (As := [.int (-1), .int v4, .int 1]) (b := 120) (st := []) (dx9 := 21) (mc := 0) (ms := 0) (host := "") 6 rfl t_X6_belongs ⟨Or.inl q_6_127, i_X6_belongs.1, i_X6_belongs.2⟩ ⟨by decide, rfl⟩ (congrArg Prod.fst (J.1.1 120 (6, 8) rfl)) rfl (by decide) rfl rfl ⟨by decide, by decide⟩ (sf_X6_belongs_r120_c1 (jr_of jk_m1 (by omega)) (jr_of rfl (by omega)) hD J  (fun v474 h ev474 J S473 => ?_))
                    have Sm := jSm_tr rfl Sm S473
                    show jX m_X6_byParents 22 0 0 84 [(5, .int v460), (4, .int v4), (3, .int v2), (0, .ref 120), (1, .int a1), (2, .int 0)] [.int v474] _ 0 0 _
                    exact jX.sub jsb_n (ct_X6_byParents_r120_c0_84 hD hQ  v474 h (jr_of rfl (by omega)) J Sm)
                  ·
                    refine x_iconst (v := 1) rfl ki_1 ?_
                    refine x_goto (tgt := 23) rfl rfl ?_
                    refine x_zret rfl rfl (by decide) ?_
                    show jX m_X7_namedSoul 21 0 0 8 [(0, .ref 78), (1, .int v462)] [.int 1] _ 0 0 _
                    refine x_ifeq (tgt := 19) rfl rfl (ti_eq jk_1 jk_0 (br_f (by omega) ?_))
                    refine x_aloadn (x := 78) rfl rfl ?_
                    refine x_iloadn (x := v462) rfl rfl ?_
                    refine x_inv (N := m_X7_soulAt) (As := [.int v462]) (b := 78) (st := []) (dx9 := 20) (mc := 0) (ms := 0) (host := "") 7 rfl t_X7_soulAt ⟨Or.inl q_7_153, i_X7_soulAt.1, i_X7_soulAt.2⟩ ⟨by decide, rfl⟩ (congrArg Prod.fst (J.1.1 78 (7, 16) rfl)) rfl (by decide) rfl rfl ⟨by decide, by decide⟩ (jC.of rfl k_X7_soulAt rfl ?_)
                    show jX m_X7_soulAt 20 0 0 0 [(0, .ref 78), (1, .int v462)] [] _ 0 0 _
                    refine x_iloadn (x := v462) rfl rfl ?_
                    refine x_iflt (tgt := 36) rfl rfl (ti_lt rfl jk_0 (br_f (by omega) ?_))
                    refine x_iloadn (x := v462) rfl rfl ?_
                    refine x_sipush (v := 600) rfl ks_600 ?_
                    refine x_icge (tgt := 36) rfl rfl (ti_ge rfl jk_600 ⟨fun c475 => ?_, fun c475 => ?_⟩)
                    ·
                      refine x_iconst (v := (-1)) rfl ki_m1 ?_
                      refine x_iret rfl rfl ?_
                      show jX m_X7_namedSoul 21 0 0 16 [(0, .ref 78), (1, .int v462)] [.int (-1)] _ 0 0 _
                      refine x_goto (tgt := 20) rfl rfl ?_
                      refine x_iret rfl rfl ?_
                      show jX m_X6_byParents 22 0 0 76 [(5, .int v460), (4, .int v4), (3, .int v2), (0, .ref 120), (1, .int a1), (2, .int 0)] [.int (-1), .ref 120] _ 0 0 _
                      refine x_iload (x := v4) rfl rfl ?_
                      refine x_iloadn (x := 0) rfl rfl ?_
                      refine x_iconst (v := 1) rfl ki_1 ?_
                      refine y_iadd (v := 1) rfl (by decide) ?_
                      refine x_inv (N := m_X6_belongs) (As := [.int (-1), .int v4, .int 1]) (b := 120) (st := []) (dx9 := 21) (mc := 0) (ms := 0) (host := "") 6 rfl t_X6_belongs ⟨Or.inl q_6_127, i_X6_belongs.1, i_X6_belongs.2⟩ ⟨by decide, rfl⟩ (congrArg Prod.fst (J.1.1 120 (6, 8) rfl)) rfl (by decide) rfl rfl ⟨by decide, by decide⟩ (sf_X6_belongs_r120_c1 (jr_of jk_m1 (by omega)) (jr_of rfl (by omega)) hD J  (fun v477 h ev477 J S476 => ?_))
                      have Sm := jSm_tr rfl Sm S476
                      show jX m_X6_byParents 22 0 0 84 [(5, .int v460), (4, .int v4), (3, .int v2), (0, .ref 120), (1, .int a1), (2, .int 0)] [.int v477] _ 0 0 _
                      exact jX.sub jsb_n (ct_X6_byParents_r120_c0_84 hD hQ  v477 h (jr_of rfl (by omega)) J Sm)
                    ·
                      refine x_iloadn (x := v462) rfl rfl ?_
                      refine x_iconst (v := 3) rfl ki_3 ?_
                      refine z_idiv rfl rfl jk_3 (by omega) (by omega) (fun v478 ev478 => ?_)
                      refine x_aloadn (x := 78) rfl rfl ?_
                      refine z_getR (N := 16) (b := 32) 7 0 rfl f_7_55 rfl J rfl 9984 ⟨rfl, rfl⟩ rfl ?_
                      refine z_getR (N := 20) (b := 33) 1 0 rfl f_7_63 rfl J rfl 4096 ⟨rfl, rfl⟩ rfl ?_
                      refine z_getI (N := 4) 8 3 rfl f_7_85 rfl J rfl sg_33_3_4_1_0_1 (fun v479 qv479 ev479 => ?_)
                      refine x_icge (tgt := 36) rfl rfl (ti_ge rfl rfl ⟨fun c480 => ?_, fun c480 => ?_⟩)
                      ·
                        refine x_iconst (v := (-1)) rfl ki_m1 ?_
                        refine x_iret rfl rfl ?_
                        show jX m_X7_namedSoul 21 0 0 16 [(0, .ref 78), (1, .int v462)] [.int (-1)] _ 0 0 _
                        refine x_goto (tgt := 20) rfl rfl ?_
                        refine x_iret rfl rfl ?_
                        show jX m_X6_byParents 22 0 0 76 [(5, .int v460), (4, .int v4), (3, .int v2), (0, .ref 120), (1, .int a1), (2, .int 0)] [.int (-1), .ref 120] _ 0 0 _
                        refine x_iload (x := v4) rfl rfl ?_
                        refine x_iloadn (x := 0) rfl rfl ?_
                        refine x_iconst (v := 1) rfl ki_1 ?_
                        refine y_iadd (v := 1) rfl (by decide) ?_
                        refine x_inv (N := m_X6_belongs) (As := [.int (-1), .int v4, .int 1]) (b := 120) (st := []) (dx9 := 21) (mc := 0) (ms := 0) (host := "") 6 rfl t_X6_belongs ⟨Or.inl q_6_127, i_X6_belongs.1, i_X6_belongs.2⟩ ⟨by decide, rfl⟩ (congrArg Prod.fst (J.1.1 120 (6, 8) rfl)) rfl (by decide) rfl rfl ⟨by decide, by decide⟩ (sf_X6_belongs_r120_c1 (jr_of jk_m1 (by omega)) (jr_of rfl (by omega)) hD J  (fun v482 h ev482 J S481 => ?_))
                        have Sm := jSm_tr rfl Sm S481
                        show jX m_X6_byParents 22 0 0 84 [(5, .int v460), (4, .int v4), (3, .int v2), (0, .ref 120), (1, .int a1), (2, .int 0)] [.int v482] _ 0 0 _
                        exact jX.sub jsb_n (ct_X6_byParents_r120_c0_84 hD hQ  v482 h (jr_of rfl (by omega)) J Sm)
                      ·
                        refine x_aloadn (x := 78) rfl rfl ?_
                        refine z_getR (N := 16) (b := 82) 7 10 rfl f_7_37 rfl J rfl 9994 ⟨rfl, rfl⟩ rfl ?_
                        refine x_iloadn (x := v462) rfl rfl ?_
                        refine z_iald (N := 600) rfl J rfl sg_82_0_600_1_0_1 rfl (by omega) (fun v483 qv483 ev483 => ?_)
                        refine x_goto (tgt := 37) rfl rfl ?_
                        refine x_iret rfl rfl ?_
                        show jX m_X7_namedSoul 21 0 0 16 [(0, .ref 78), (1, .int v462)] [.int v483] _ 0 0 _
                        refine x_goto (tgt := 20) rfl rfl ?_
                        refine x_iret rfl rfl ?_
                        show jX m_X6_byParents 22 0 0 76 [(5, .int v460), (4, .int v4), (3, .int v2), (0, .ref 120), (1, .int a1), (2, .int 0)] [.int v483, .ref 120] _ 0 0 _
                        refine x_iload (x := v4) rfl rfl ?_
                        refine x_iloadn (x := 0) rfl rfl ?_
                        refine x_iconst (v := 1) rfl ki_1 ?_
                        refine y_iadd (v := 1) rfl (by decide) ?_
                        refine x_inv (N := m_X6_belongs) (As := [.int v483, .int v4, .int 1]) (b := 120) (st := []) (dx9 := 21) (mc := 0) (ms := 0) (host := "") 6 rfl t_X6_belongs ⟨Or.inl q_6_127, i_X6_belongs.1, i_X6_belongs.2⟩ ⟨by decide, rfl⟩ (congrArg Prod.fst (J.1.1 120 (6, 8) rfl)) rfl (by decide) rfl rfl ⟨by decide, by decide⟩ (sf_X6_belongs_r120_c1 (jr_of rfl (by omega)) (jr_of rfl (by omega)) hD J  (fun v485 h ev485 J S484 => ?_))
                        have Sm := jSm_tr rfl Sm S484
                        show jX m_X6_byParents 22 0 0 84 [(5, .int v460), (4, .int v4), (3, .int v2), (0, .ref 120), (1, .int a1), (2, .int 0)] [.int v485] _ 0 0 _
                        exact jX.sub jsb_n (ct_X6_byParents_r120_c0_84 hD hQ  v485 h (jr_of rfl (by omega)) J Sm)
              ·
                refine x_aloadn (x := 70) rfl rfl ?_
                refine z_getR (N := 9) (b := 76) 5 7 rfl f_5_28 rfl J rfl 8967 ⟨rfl, rfl⟩ rfl ?_
                refine x_iloadn (x := v464) rfl rfl ?_
                refine z_iald (N := 1200) rfl J rfl sg_76_0_1200_1_0_1 rfl (by omega) (fun v486 qv486 ev486 => ?_)
                refine x_goto (tgt := 27) rfl rfl ?_
                refine x_iret rfl rfl ?_
                show jX m_X5_isNamed 20 0 0 6 [(0, .ref 70), (1, .int v462)] [.int v486] _ 0 0 _
                refine x_ifge (tgt := 18) rfl rfl (ti_ge rfl jk_0 ⟨fun c487 => ?_, fun c487 => ?_⟩)
                ·
                  refine x_iconst (v := 1) rfl ki_1 ?_
                  refine x_goto (tgt := 23) rfl rfl ?_
                  refine x_zret rfl rfl (by decide) ?_
                  show jX m_X7_namedSoul 21 0 0 8 [(0, .ref 78), (1, .int v462)] [.int 1] _ 0 0 _
                  refine x_ifeq (tgt := 19) rfl rfl (ti_eq jk_1 jk_0 (br_f (by omega) ?_))
                  refine x_aloadn (x := 78) rfl rfl ?_
                  refine x_iloadn (x := v462) rfl rfl ?_
                  refine x_inv (N := m_X7_soulAt) (As := [.int v462]) (b := 78) (st := []) (dx9 := 20) (mc := 0) (ms := 0) (host := "") 7 rfl t_X7_soulAt ⟨Or.inl q_7_153, i_X7_soulAt.1, i_X7_soulAt.2⟩ ⟨by decide, rfl⟩ (congrArg Prod.fst (J.1.1 78 (7, 16) rfl)) rfl (by decide) rfl rfl ⟨by decide, by decide⟩ (jC.of rfl k_X7_soulAt rfl ?_)
                  show jX m_X7_soulAt 20 0 0 0 [(0, .ref 78), (1, .int v462)] [] _ 0 0 _
                  refine x_iloadn (x := v462) rfl rfl ?_
                  refine x_iflt (tgt := 36) rfl rfl (ti_lt rfl jk_0 (br_f (by omega) ?_))
                  refine x_iloadn (x := v462) rfl rfl ?_
                  refine x_sipush (v := 600) rfl ks_600 ?_
                  refine x_icge (tgt := 36) rfl rfl (ti_ge rfl jk_600 ⟨fun c488 => ?_, fun c488 => ?_⟩)
                  ·
                    refine x_iconst (v := (-1)) rfl ki_m1 ?_
                    refine x_iret rfl rfl ?_
                    show jX m_X7_namedSoul 21 0 0 16 [(0, .ref 78), (1, .int v462)] [.int (-1)] _ 0 0 _
                    refine x_goto (tgt := 20) rfl rfl ?_
                    refine x_iret rfl rfl ?_
                    show jX m_X6_byParents 22 0 0 76 [(5, .int v460), (4, .int v4), (3, .int v2), (0, .ref 120), (1, .int a1), (2, .int 0)] [.int (-1), .ref 120] _ 0 0 _
                    refine x_iload (x := v4) rfl rfl ?_
                    refine x_iloadn (x := 0) rfl rfl ?_
                    refine x_iconst (v := 1) rfl ki_1 ?_
                    refine y_iadd (v := 1) rfl (by decide) ?_
                    refine x_inv (N := m_X6_belongs) (As := [.int (-1), .int v4, .int 1]) (b := 120) (st := []) (dx9 := 21) (mc := 0) (ms := 0) (host := "") 6 rfl t_X6_belongs ⟨Or.inl q_6_127, i_X6_belongs.1, i_X6_belongs.2⟩ ⟨by decide, rfl⟩ (congrArg Prod.fst (J.1.1 120 (6, 8) rfl)) rfl (by decide) rfl rfl ⟨by decide, by decide⟩ (sf_X6_belongs_r120_c1 (jr_of jk_m1 (by omega)) (jr_of rfl (by omega)) hD J  (fun v490 h ev490 J S489 => ?_))
                    have Sm := jSm_tr rfl Sm S489
                    show jX m_X6_byParents 22 0 0 84 [(5, .int v460), (4, .int v4), (3, .int v2), (0, .ref 120), (1, .int a1), (2, .int 0)] [.int v490] _ 0 0 _
                    exact jX.sub jsb_n (ct_X6_byParents_r120_c0_84 hD hQ  v490 h (jr_of rfl (by omega)) J Sm)
                  ·
                    refine x_iloadn (x := v462) rfl rfl ?_
                    refine x_iconst (v := 3) rfl ki_3 ?_
                    refine z_idiv rfl rfl jk_3 (by omega) (by omega) (fun v491 ev491 => ?_)
                    refine x_aloadn (x := 78) rfl rfl ?_
                    refine z_getR (N := 16) (b := 32) 7 0 rfl f_7_55 rfl J rfl 9984 ⟨rfl, rfl⟩ rfl ?_
                    refine z_getR (N := 20) (b := 33) 1 0 rfl f_7_63 rfl J rfl 4096 ⟨rfl, rfl⟩ rfl ?_
                    refine z_getI (N := 4) 8 3 rfl f_7_85 rfl J rfl sg_33_3_4_1_0_1 (fun v492 qv492 ev492 => ?_)
                    refine x_icge (tgt := 36) rfl rfl (ti_ge rfl rfl ⟨fun c493 => ?_, fun c493 => ?_⟩)
                    ·
                      refine x_iconst (v := (-1)) rfl ki_m1 ?_
                      refine x_iret rfl rfl ?_
                      show jX m_X7_namedSoul 21 0 0 16 [(0, .ref 78), (1, .int v462)] [.int (-1)] _ 0 0 _
                      refine x_goto (tgt := 20) rfl rfl ?_
                      refine x_iret rfl rfl ?_
                      show jX m_X6_byParents 22 0 0 76 [(5, .int v460), (4, .int v4), (3, .int v2), (0, .ref 120), (1, .int a1), (2, .int 0)] [.int (-1), .ref 120] _ 0 0 _
                      refine x_iload (x := v4) rfl rfl ?_
                      refine x_iloadn (x := 0) rfl rfl ?_
                      refine x_iconst (v := 1) rfl ki_1 ?_
                      refine y_iadd (v := 1) rfl (by decide) ?_
                      refine x_inv (N := m_X6_belongs) (As := [.int (-1), .int v4, .int 1]) (b := 120) (st := []) (dx9 := 21) (mc := 0) (ms := 0) (host := "") 6 rfl t_X6_belongs ⟨Or.inl q_6_127, i_X6_belongs.1, i_X6_belongs.2⟩ ⟨by decide, rfl⟩ (congrArg Prod.fst (J.1.1 120 (6, 8) rfl)) rfl (by decide) rfl rfl ⟨by decide, by decide⟩ (sf_X6_belongs_r120_c1 (jr_of jk_m1 (by omega)) (jr_of rfl (by omega)) hD J  (fun v495 h ev495 J S494 => ?_))
                      have Sm := jSm_tr rfl Sm S494
                      show jX m_X6_byParents 22 0 0 84 [(5, .int v460), (4, .int v4), (3, .int v2), (0, .ref 120), (1, .int a1), (2, .int 0)] [.int v495] _ 0 0 _
                      exact jX.sub jsb_n (ct_X6_byParents_r120_c0_84 hD hQ  v495 h (jr_of rfl (by omega)) J Sm)
                    ·
                      refine x_aloadn (x := 78) rfl rfl ?_
                      refine z_getR (N := 16) (b := 82) 7 10 rfl f_7_37 rfl J rfl 9994 ⟨rfl, rfl⟩ rfl ?_
                      refine x_iloadn (x := v462) rfl rfl ?_
                      refine z_iald (N := 600) rfl J rfl sg_82_0_600_1_0_1 rfl (by omega) (fun v496 qv496 ev496 => ?_)
                      refine x_goto (tgt := 37) rfl rfl ?_
                      refine x_iret rfl rfl ?_
                      show jX m_X7_namedSoul 21 0 0 16 [(0, .ref 78), (1, .int v462)] [.int v496] _ 0 0 _
                      refine x_goto (tgt := 20) rfl rfl ?_
                      refine x_iret rfl rfl ?_
                      show jX m_X6_byParents 22 0 0 76 [(5, .int v460), (4, .int v4), (3, .int v2), (0, .ref 120), (1, .int a1), (2, .int 0)] [.int v496, .ref 120] _ 0 0 _
                      refine x_iload (x := v4) rfl rfl ?_
                      refine x_iloadn (x := 0) rfl rfl ?_
                      refine x_iconst (v := 1) rfl ki_1 ?_
                      refine y_iadd (v := 1) rfl (by decide) ?_
                      refine x_inv (N := m_X6_belongs) (As := [.int v496, .int v4, .int 1]) (b := 120) (st := []) (dx9 := 21) (mc := 0) (ms := 0) (host := "") 6 rfl t_X6_belongs ⟨Or.inl q_6_127, i_X6_belongs.1, i_X6_belongs.2⟩ ⟨by decide, rfl⟩ (congrArg Prod.fst (J.1.1 120 (6, 8) rfl)) rfl (by decide) rfl rfl ⟨by decide, by decide⟩ (sf_X6_belongs_r120_c1 (jr_of rfl (by omega)) (jr_of rfl (by omega)) hD J  (fun v498 h ev498 J S497 => ?_))
                      have Sm := jSm_tr rfl Sm S497
                      show jX m_X6_byParents 22 0 0 84 [(5, .int v460), (4, .int v4), (3, .int v2), (0, .ref 120), (1, .int a1), (2, .int 0)] [.int v498] _ 0 0 _
                      exact jX.sub jsb_n (ct_X6_byParents_r120_c0_84 hD hQ  v498 h (jr_of rfl (by omega)) J Sm)
                ·
                  refine x_aloadn (x := 70) rfl rfl ?_
                  refine x_iloadn (x := v462) rfl rfl ?_
                  refine x_iconst (v := 1) rfl ki_1 ?_
                  refine x_inv (N := m_X5_lengthOf) (As := [.int v462, .int 1]) (b := 70) (st := []) (dx9 := 19) (mc := 0) (ms := 0) (host := "") 5 rfl t_X5_lengthOf ⟨Or.inl q_5_133, i_X5_lengthOf.1, i_X5_lengthOf.2⟩ ⟨by decide, rfl⟩ (congrArg Prod.fst (J.1.1 70 (5, 9) rfl)) rfl (by decide) rfl rfl ⟨by decide, by decide⟩ (jC.of rfl k_X5_lengthOf rfl ?_)
                  show jX m_X5_lengthOf 19 0 0 0 [(0, .ref 70), (1, .int v462), (2, .int 1)] [] _ 0 0 _
                  refine x_iloadn (x := v462) rfl rfl ?_
                  refine x_iconst (v := 2) rfl ki_2 ?_
                  refine z_imul rfl rfl jk_2 (by omega) (fun v499 ev499 => ?_)
                  refine x_iloadn (x := 1) rfl rfl ?_
                  refine z_iadd rfl rfl jk_1 (by omega) (fun v500 ev500 => ?_)
                  refine x_istoren (lsx9 := [(3, .int v500), (0, .ref 70), (1, .int v462), (2, .int 1)]) rfl rfl rfl ?_
                  refine x_iloadn (x := v500) rfl rfl ?_
                  refine x_iflt (tgt := 26) rfl rfl (ti_lt rfl jk_0 (br_f (by omega) ?_))
                  refine x_iloadn (x := v500) rfl rfl ?_
                  refine x_sipush (v := 1200) rfl ks_1200 ?_
                  refine x_icge (tgt := 26) rfl rfl (ti_ge rfl jk_1200 ⟨fun c501 => ?_, fun c501 => ?_⟩)
                  ·
                    refine x_iconst (v := (-1)) rfl ki_m1 ?_
                    refine x_iret rfl rfl ?_
                    show jX m_X5_isNamed 20 0 0 15 [(0, .ref 70), (1, .int v462)] [.int (-1)] _ 0 0 _
                    refine x_iflt (tgt := 22) rfl rfl (ti_lt jk_m1 jk_0 (br_t (by omega) ?_))
                    refine x_iconst (v := 0) rfl ki_0 ?_
                    refine x_zret rfl rfl (by decide) ?_
                    show jX m_X7_namedSoul 21 0 0 8 [(0, .ref 78), (1, .int v462)] [.int 0] _ 0 0 _
                    refine x_ifeq (tgt := 19) rfl rfl (ti_eq jk_0 jk_0 (br_t (by omega) ?_))
                    refine x_iconst (v := (-1)) rfl ki_m1 ?_
                    refine x_iret rfl rfl ?_
                    show jX m_X6_byParents 22 0 0 76 [(5, .int v460), (4, .int v4), (3, .int v2), (0, .ref 120), (1, .int a1), (2, .int 0)] [.int (-1), .ref 120] _ 0 0 _
                    refine x_iload (x := v4) rfl rfl ?_
                    refine x_iloadn (x := 0) rfl rfl ?_
                    refine x_iconst (v := 1) rfl ki_1 ?_
                    refine y_iadd (v := 1) rfl (by decide) ?_
                    refine x_inv (N := m_X6_belongs) (As := [.int (-1), .int v4, .int 1]) (b := 120) (st := []) (dx9 := 21) (mc := 0) (ms := 0) (host := "") 6 rfl t_X6_belongs ⟨Or.inl q_6_127, i_X6_belongs.1, i_X6_belongs.2⟩ ⟨by decide, rfl⟩ (congrArg Prod.fst (J.1.1 120 (6, 8) rfl)) rfl (by decide) rfl rfl ⟨by decide, by decide⟩ (sf_X6_belongs_r120_c1 (jr_of jk_m1 (by omega)) (jr_of rfl (by omega)) hD J  (fun v503 h ev503 J S502 => ?_))
                    have Sm := jSm_tr rfl Sm S502
                    show jX m_X6_byParents 22 0 0 84 [(5, .int v460), (4, .int v4), (3, .int v2), (0, .ref 120), (1, .int a1), (2, .int 0)] [.int v503] _ 0 0 _
                    exact jX.sub jsb_n (ct_X6_byParents_r120_c0_84 hD hQ  v503 h (jr_of rfl (by omega)) J Sm)
                  ·
                    refine x_aloadn (x := 70) rfl rfl ?_
                    refine z_getR (N := 9) (b := 76) 5 7 rfl f_5_28 rfl J rfl 8967 ⟨rfl, rfl⟩ rfl ?_
                    refine x_iloadn (x := v500) rfl rfl ?_
                    refine z_iald (N := 1200) rfl J rfl sg_76_0_1200_1_0_1 rfl (by omega) (fun v504 qv504 ev504 => ?_)
                    refine x_goto (tgt := 27) rfl rfl ?_
                    refine x_iret rfl rfl ?_
                    show jX m_X5_isNamed 20 0 0 15 [(0, .ref 70), (1, .int v462)] [.int v504] _ 0 0 _
                    refine x_iflt (tgt := 22) rfl rfl (ti_lt rfl jk_0 ⟨fun c505 => ?_, fun c505 => ?_⟩)
                    ·
                      refine x_iconst (v := 0) rfl ki_0 ?_
                      refine x_zret rfl rfl (by decide) ?_
                      show jX m_X7_namedSoul 21 0 0 8 [(0, .ref 78), (1, .int v462)] [.int 0] _ 0 0 _
                      refine x_ifeq (tgt := 19) rfl rfl (ti_eq jk_0 jk_0 (br_t (by omega) ?_))
                      refine x_iconst (v := (-1)) rfl ki_m1 ?_
                      refine x_iret rfl rfl ?_
                      show jX m_X6_byParents 22 0 0 76 [(5, .int v460), (4, .int v4), (3, .int v2), (0, .ref 120), (1, .int a1), (2, .int 0)] [.int (-1), .ref 120] _ 0 0 _
                      refine x_iload (x := v4) rfl rfl ?_
                      refine x_iloadn (x := 0) rfl rfl ?_
                      refine x_iconst (v := 1) rfl ki_1 ?_
                      refine y_iadd (v := 1) rfl (by decide) ?_
                      refine x_inv (N := m_X6_belongs) (As := [.int (-1), .int v4, .int 1]) (b := 120) (st := []) (dx9 := 21) (mc := 0) (ms := 0) (host := "") 6 rfl t_X6_belongs ⟨Or.inl q_6_127, i_X6_belongs.1, i_X6_belongs.2⟩ ⟨by decide, rfl⟩ (congrArg Prod.fst (J.1.1 120 (6, 8) rfl)) rfl (by decide) rfl rfl ⟨by decide, by decide⟩ (sf_X6_belongs_r120_c1 (jr_of jk_m1 (by omega)) (jr_of rfl (by omega)) hD J  (fun v507 h ev507 J S506 => ?_))
                      have Sm := jSm_tr rfl Sm S506
                      show jX m_X6_byParents 22 0 0 84 [(5, .int v460), (4, .int v4), (3, .int v2), (0, .ref 120), (1, .int a1), (2, .int 0)] [.int v507] _ 0 0 _
                      exact jX.sub jsb_n (ct_X6_byParents_r120_c0_84 hD hQ  v507 h (jr_of rfl (by omega)) J Sm)
                    ·
                      refine x_iconst (v := 1) rfl ki_1 ?_
                      refine x_goto (tgt := 23) rfl rfl ?_
                      refine x_zret rfl rfl (by decide) ?_
                      show jX m_X7_namedSoul 21 0 0 8 [(0, .ref 78), (1, .int v462)] [.int 1] _ 0 0 _
                      refine x_ifeq (tgt := 19) rfl rfl (ti_eq jk_1 jk_0 (br_f (by omega) ?_))
                      refine x_aloadn (x := 78) rfl rfl ?_
                      refine x_iloadn (x := v462) rfl rfl ?_
                      refine x_inv (N := m_X7_soulAt) (As := [.int v462]) (b := 78) (st := []) (dx9 := 20) (mc := 0) (ms := 0) (host := "") 7 rfl t_X7_soulAt ⟨Or.inl q_7_153, i_X7_soulAt.1, i_X7_soulAt.2⟩ ⟨by decide, rfl⟩ (congrArg Prod.fst (J.1.1 78 (7, 16) rfl)) rfl (by decide) rfl rfl ⟨by decide, by decide⟩ (jC.of rfl k_X7_soulAt rfl ?_)
                      show jX m_X7_soulAt 20 0 0 0 [(0, .ref 78), (1, .int v462)] [] _ 0 0 _
                      refine x_iloadn (x := v462) rfl rfl ?_
                      refine x_iflt (tgt := 36) rfl rfl (ti_lt rfl jk_0 (br_f (by omega) ?_))
                      refine x_iloadn (x := v462) rfl rfl ?_
                      refine x_sipush (v := 600) rfl ks_600 ?_
                      refine x_icge (tgt := 36) rfl rfl (ti_ge rfl jk_600 ⟨fun c508 => ?_, fun c508 => ?_⟩)
                      ·
                        refine x_iconst (v := (-1)) rfl ki_m1 ?_
                        refine x_iret rfl rfl ?_
                        show jX m_X7_namedSoul 21 0 0 16 [(0, .ref 78), (1, .int v462)] [.int (-1)] _ 0 0 _
                        refine x_goto (tgt := 20) rfl rfl ?_
                        refine x_iret rfl rfl ?_
                        show jX m_X6_byParents 22 0 0 76 [(5, .int v460), (4, .int v4), (3, .int v2), (0, .ref 120), (1, .int a1), (2, .int 0)] [.int (-1), .ref 120] _ 0 0 _
                        refine x_iload (x := v4) rfl rfl ?_
                        refine x_iloadn (x := 0) rfl rfl ?_
                        refine x_iconst (v := 1) rfl ki_1 ?_
                        refine y_iadd (v := 1) rfl (by decide) ?_
                        refine x_inv (N := m_X6_belongs) (As := [.int (-1), .int v4, .int 1]) (b := 120) (st := []) (dx9 := 21) (mc := 0) (ms := 0) (host := "") 6 rfl t_X6_belongs ⟨Or.inl q_6_127, i_X6_belongs.1, i_X6_belongs.2⟩ ⟨by decide, rfl⟩ (congrArg Prod.fst (J.1.1 120 (6, 8) rfl)) rfl (by decide) rfl rfl ⟨by decide, by decide⟩ (sf_X6_belongs_r120_c1 (jr_of jk_m1 (by omega)) (jr_of rfl (by omega)) hD J  (fun v510 h ev510 J S509 => ?_))
                        have Sm := jSm_tr rfl Sm S509
                        show jX m_X6_byParents 22 0 0 84 [(5, .int v460), (4, .int v4), (3, .int v2), (0, .ref 120), (1, .int a1), (2, .int 0)] [.int v510] _ 0 0 _
                        exact jX.sub jsb_n (ct_X6_byParents_r120_c0_84 hD hQ  v510 h (jr_of rfl (by omega)) J Sm)
                      ·
                        refine x_iloadn (x := v462) rfl rfl ?_
                        refine x_iconst (v := 3) rfl ki_3 ?_
                        refine z_idiv rfl rfl jk_3 (by omega) (by omega) (fun v511 ev511 => ?_)
                        refine x_aloadn (x := 78) rfl rfl ?_
                        refine z_getR (N := 16) (b := 32) 7 0 rfl f_7_55 rfl J rfl 9984 ⟨rfl, rfl⟩ rfl ?_
                        refine z_getR (N := 20) (b := 33) 1 0 rfl f_7_63 rfl J rfl 4096 ⟨rfl, rfl⟩ rfl ?_
                        refine z_getI (N := 4) 8 3 rfl f_7_85 rfl J rfl sg_33_3_4_1_0_1 (fun v512 qv512 ev512 => ?_)
                        refine x_icge (tgt := 36) rfl rfl (ti_ge rfl rfl ⟨fun c513 => ?_, fun c513 => ?_⟩)
                        ·
                          refine x_iconst (v := (-1)) rfl ki_m1 ?_
                          refine x_iret rfl rfl ?_
                          show jX m_X7_namedSoul 21 0 0 16 [(0, .ref 78), (1, .int v462)] [.int (-1)] _ 0 0 _
                          refine x_goto (tgt := 20) rfl rfl ?_
                          refine x_iret rfl rfl ?_
                          show jX m_X6_byParents 22 0 0 76 [(5, .int v460), (4, .int v4), (3, .int v2), (0, .ref 120), (1, .int a1), (2, .int 0)] [.int (-1), .ref 120] _ 0 0 _
                          refine x_iload (x := v4) rfl rfl ?_
                          refine x_iloadn (x := 0) rfl rfl ?_
                          refine x_iconst (v := 1) rfl ki_1 ?_
                          refine y_iadd (v := 1) rfl (by decide) ?_
                          refine x_inv (N := m_X6_belongs) (As := [.int (-1), .int v4, .int 1]) (b := 120) (st := []) (dx9 := 21) (mc := 0) (ms := 0) (host := "") 6 rfl t_X6_belongs ⟨Or.inl q_6_127, i_X6_belongs.1, i_X6_belongs.2⟩ ⟨by decide, rfl⟩ (congrArg Prod.fst (J.1.1 120 (6, 8) rfl)) rfl (by decide) rfl rfl ⟨by decide, by decide⟩ (sf_X6_belongs_r120_c1 (jr_of jk_m1 (by omega)) (jr_of rfl (by omega)) hD J  (fun v515 h ev515 J S514 => ?_))
                          have Sm := jSm_tr rfl Sm S514
                          show jX m_X6_byParents 22 0 0 84 [(5, .int v460), (4, .int v4), (3, .int v2), (0, .ref 120), (1, .int a1), (2, .int 0)] [.int v515] _ 0 0 _
                          exact jX.sub jsb_n (ct_X6_byParents_r120_c0_84 hD hQ  v515 h (jr_of rfl (by omega)) J Sm)
                        ·
                          refine x_aloadn (x := 78) rfl rfl ?_
                          refine z_getR (N := 16) (b := 82) 7 10 rfl f_7_37 rfl J rfl 9994 ⟨rfl, rfl⟩ rfl ?_
                          refine x_iloadn (x := v462) rfl rfl ?_
                          refine z_iald (N := 600) rfl J rfl sg_82_0_600_1_0_1 rfl (by omega) (fun v516 qv516 ev516 => ?_)
                          refine x_goto (tgt := 37) rfl rfl ?_
                          refine x_iret rfl rfl ?_
                          show jX m_X7_namedSoul 21 0 0 16 [(0, .ref 78), (1, .int v462)] [.int v516] _ 0 0 _
                          refine x_goto (tgt := 20) rfl rfl ?_
                          refine x_iret rfl rfl ?_
                          show jX m_X6_byParents 22 0 0 76 [(5, .int v460), (4, .int v4), (3, .int v2), (0, .ref 120), (1, .int a1), (2, .int 0)] [.int v516, .ref 120] _ 0 0 _
                          refine x_iload (x := v4) rfl rfl ?_
                          refine x_iloadn (x := 0) rfl rfl ?_
                          refine x_iconst (v := 1) rfl ki_1 ?_
                          refine y_iadd (v := 1) rfl (by decide) ?_
                          refine x_inv (N := m_X6_belongs) (As := [.int v516, .int v4, .int 1]) (b := 120) (st := []) (dx9 := 21) (mc := 0) (ms := 0) (host := "") 6 rfl t_X6_belongs ⟨Or.inl q_6_127, i_X6_belongs.1, i_X6_belongs.2⟩ ⟨by decide, rfl⟩ (congrArg Prod.fst (J.1.1 120 (6, 8) rfl)) rfl (by decide) rfl rfl ⟨by decide, by decide⟩ (sf_X6_belongs_r120_c1 (jr_of rfl (by omega)) (jr_of rfl (by omega)) hD J  (fun v518 h ev518 J S517 => ?_))
                          have Sm := jSm_tr rfl Sm S517
                          show jX m_X6_byParents 22 0 0 84 [(5, .int v460), (4, .int v4), (3, .int v2), (0, .ref 120), (1, .int a1), (2, .int 0)] [.int v518] _ 0 0 _
                          exact jX.sub jsb_n (ct_X6_byParents_r120_c0_84 hD hQ  v518 h (jr_of rfl (by omega)) J Sm)
            ·
              refine x_iload (x := v460) rfl rfl ?_
              refine x_goto (tgt := 84) rfl rfl ?_
              exact jX.sub jsb_n (ct_X6_byParents_r120_c0_84 hD hQ  v460 h (jr_of rfl (by omega)) J Sm)
          ·
            refine x_iconst (v := 1) rfl ki_1 ?_
            refine x_goto (tgt := 23) rfl rfl ?_
            refine x_zret rfl rfl (by decide) ?_
            show jX m_X7_namedSoul 21 0 0 8 [(0, .ref 78), (1, .int v5)] [.int 1] _ 0 0 _
            refine x_ifeq (tgt := 19) rfl rfl (ti_eq jk_1 jk_0 (br_f (by omega) ?_))
            refine x_aloadn (x := 78) rfl rfl ?_
            refine x_iloadn (x := v5) rfl rfl ?_
            refine x_inv (N := m_X7_soulAt) (As := [.int v5]) (b := 78) (st := []) (dx9 := 20) (mc := 0) (ms := 0) (host := "") 7 rfl t_X7_soulAt ⟨Or.inl q_7_153, i_X7_soulAt.1, i_X7_soulAt.2⟩ ⟨by decide, rfl⟩ (congrArg Prod.fst (J.1.1 78 (7, 16) rfl)) rfl (by decide) rfl rfl ⟨by decide, by decide⟩ (jC.of rfl k_X7_soulAt rfl ?_)
            show jX m_X7_soulAt 20 0 0 0 [(0, .ref 78), (1, .int v5)] [] _ 0 0 _
            refine x_iloadn (x := v5) rfl rfl ?_
            refine x_iflt (tgt := 36) rfl rfl (ti_lt rfl jk_0 (br_f (by omega) ?_))
            refine x_iloadn (x := v5) rfl rfl ?_
            refine x_sipush (v := 600) rfl ks_600 ?_
            refine x_icge (tgt := 36) rfl rfl (ti_ge rfl jk_600 ⟨fun c519 => ?_, fun c519 => ?_⟩)
            ·
              refine x_iconst (v := (-1)) rfl ki_m1 ?_
              refine x_iret rfl rfl ?_
              show jX m_X7_namedSoul 21 0 0 16 [(0, .ref 78), (1, .int v5)] [.int (-1)] _ 0 0 _
              refine x_goto (tgt := 20) rfl rfl ?_
              refine x_iret rfl rfl ?_
              show jX m_X6_byParents 22 0 0 44 [(4, .int v4), (3, .int v2), (0, .ref 120), (1, .int a1), (2, .int 0)] [.int (-1), .ref 120] _ 0 0 _
              refine x_iload (x := v4) rfl rfl ?_
              refine x_iloadn (x := 0) rfl rfl ?_
              refine x_iconst (v := 1) rfl ki_1 ?_
              refine y_iadd (v := 1) rfl (by decide) ?_
              refine x_inv (N := m_X6_belongs) (As := [.int (-1), .int v4, .int 1]) (b := 120) (st := []) (dx9 := 21) (mc := 0) (ms := 0) (host := "") 6 rfl t_X6_belongs ⟨Or.inl q_6_127, i_X6_belongs.1, i_X6_belongs.2⟩ ⟨by decide, rfl⟩ (congrArg Prod.fst (J.1.1 120 (6, 8) rfl)) rfl (by decide) rfl rfl ⟨by decide, by decide⟩ (sf_X6_belongs_r120_c1 (jr_of jk_m1 (by omega)) (jr_of rfl (by omega)) hD J  (fun v521 h ev521 J S520 => ?_))
              have Sm := jSm_tr rfl Sm S520
              show jX m_X6_byParents 22 0 0 52 [(4, .int v4), (3, .int v2), (0, .ref 120), (1, .int a1), (2, .int 0)] [.int v521] _ 0 0 _
              refine x_istore (lsx9 := [(5, .int v521), (4, .int v4), (3, .int v2), (0, .ref 120), (1, .int a1), (2, .int 0)]) rfl rfl rfl ?_
              refine x_iload (x := v521) rfl rfl ?_
              refine x_iconst (v := (-1)) rfl ki_m1 ?_
              refine x_iceq (tgt := 65) rfl rfl (ti_eq rfl jk_m1 ⟨fun c522 => ?_, fun c522 => ?_⟩)
              ·
                refine x_aloadn (x := 120) rfl rfl ?_
                refine x_aloadn (x := 120) rfl rfl ?_
                refine z_getR (N := 8) (b := 78) 6 1 rfl f_6_32 rfl J rfl 15361 ⟨rfl, rfl⟩ rfl ?_
                refine x_iloadn (x := v2) rfl rfl ?_
                refine x_iconst (v := 2) rfl ki_2 ?_
                refine z_iadd rfl rfl jk_2 (by omega) (fun v523 ev523 => ?_)
                refine x_inv (N := m_X7_namedSoul) (As := [.int v523]) (b := 78) (st := [.ref 120]) (dx9 := 21) (mc := 0) (ms := 0) (host := "") 7 rfl t_X7_namedSoul ⟨Or.inl q_6_124, i_X7_namedSoul.1, i_X7_namedSoul.2⟩ ⟨by decide, rfl⟩ (congrArg Prod.fst (J.1.1 78 (7, 16) rfl)) rfl (by decide) rfl rfl ⟨by decide, by decide⟩ (jC.of rfl k_X7_namedSoul rfl ?_)
                show jX m_X7_namedSoul 21 0 0 0 [(0, .ref 78), (1, .int v523)] [] _ 0 0 _
                refine x_aloadn (x := 78) rfl rfl ?_
                refine z_getR (N := 16) (b := 70) 7 1 rfl f_7_59 rfl J rfl 9985 ⟨rfl, rfl⟩ rfl ?_
                refine x_iloadn (x := v523) rfl rfl ?_
                refine x_inv (N := m_X5_isNamed) (As := [.int v523]) (b := 70) (st := []) (dx9 := 20) (mc := 0) (ms := 0) (host := "") 5 rfl t_X5_isNamed ⟨Or.inl q_7_173, i_X5_isNamed.1, i_X5_isNamed.2⟩ ⟨by decide, rfl⟩ (congrArg Prod.fst (J.1.1 70 (5, 9) rfl)) rfl (by decide) rfl rfl ⟨by decide, by decide⟩ (jC.of rfl k_X5_isNamed rfl ?_)
                show jX m_X5_isNamed 20 0 0 0 [(0, .ref 70), (1, .int v523)] [] _ 0 0 _
                refine x_aloadn (x := 70) rfl rfl ?_
                refine x_iloadn (x := v523) rfl rfl ?_
                refine x_iconst (v := 0) rfl ki_0 ?_
                refine x_inv (N := m_X5_lengthOf) (As := [.int v523, .int 0]) (b := 70) (st := []) (dx9 := 19) (mc := 0) (ms := 0) (host := "") 5 rfl t_X5_lengthOf ⟨Or.inl q_5_133, i_X5_lengthOf.1, i_X5_lengthOf.2⟩ ⟨by decide, rfl⟩ (congrArg Prod.fst (J.1.1 70 (5, 9) rfl)) rfl (by decide) rfl rfl ⟨by decide, by decide⟩ (jC.of rfl k_X5_lengthOf rfl ?_)
                show jX m_X5_lengthOf 19 0 0 0 [(0, .ref 70), (1, .int v523), (2, .int 0)] [] _ 0 0 _
                refine x_iloadn (x := v523) rfl rfl ?_
                refine x_iconst (v := 2) rfl ki_2 ?_
                refine z_imul rfl rfl jk_2 (by omega) (fun v524 ev524 => ?_)
                refine x_iloadn (x := 0) rfl rfl ?_
                refine z_iadd rfl rfl jk_0 (by omega) (fun v525 ev525 => ?_)
                refine x_istoren (lsx9 := [(3, .int v525), (0, .ref 70), (1, .int v523), (2, .int 0)]) rfl rfl rfl ?_
                refine x_iloadn (x := v525) rfl rfl ?_
                refine x_iflt (tgt := 26) rfl rfl (ti_lt rfl jk_0 (br_f (by omega) ?_))
                refine x_iloadn (x := v525) rfl rfl ?_
                refine x_sipush (v := 1200) rfl ks_1200 ?_
                refine x_icge (tgt := 26) rfl rfl (ti_ge rfl jk_1200 (br_t (by omega) ?_))
                refine x_iconst (v := (-1)) rfl ki_m1 ?_
                refine x_iret rfl rfl ?_
                show jX m_X5_isNamed 20 0 0 6 [(0, .ref 70), (1, .int v523)] [.int (-1)] _ 0 0 _
                refine x_ifge (tgt := 18) rfl rfl (ti_ge jk_m1 jk_0 (br_f (by omega) ?_))
                refine x_aloadn (x := 70) rfl rfl ?_
                refine x_iloadn (x := v523) rfl rfl ?_
                refine x_iconst (v := 1) rfl ki_1 ?_
                refine x_inv (N := m_X5_lengthOf) (As := [.int v523, .int 1]) (b := 70) (st := []) (dx9 := 19) (mc := 0) (ms := 0) (host := "") 5 rfl t_X5_lengthOf ⟨Or.inl q_5_133, i_X5_lengthOf.1, i_X5_lengthOf.2⟩ ⟨by decide, rfl⟩ (congrArg Prod.fst (J.1.1 70 (5, 9) rfl)) rfl (by decide) rfl rfl ⟨by decide, by decide⟩ (jC.of rfl k_X5_lengthOf rfl ?_)
                show jX m_X5_lengthOf 19 0 0 0 [(0, .ref 70), (1, .int v523), (2, .int 1)] [] _ 0 0 _
                refine x_iloadn (x := v523) rfl rfl ?_
                refine x_iconst (v := 2) rfl ki_2 ?_
                refine z_imul rfl rfl jk_2 (by omega) (fun v526 ev526 => ?_)
                refine x_iloadn (x := 1) rfl rfl ?_
                refine z_iadd rfl rfl jk_1 (by omega) (fun v527 ev527 => ?_)
                refine x_istoren (lsx9 := [(3, .int v527), (0, .ref 70), (1, .int v523), (2, .int 1)]) rfl rfl rfl ?_
                refine x_iloadn (x := v527) rfl rfl ?_
                refine x_iflt (tgt := 26) rfl rfl (ti_lt rfl jk_0 (br_f (by omega) ?_))
                refine x_iloadn (x := v527) rfl rfl ?_
                refine x_sipush (v := 1200) rfl ks_1200 ?_
                refine x_icge (tgt := 26) rfl rfl (ti_ge rfl jk_1200 (br_t (by omega) ?_))
                refine x_iconst (v := (-1)) rfl ki_m1 ?_
                refine x_iret rfl rfl ?_
                show jX m_X5_isNamed 20 0 0 15 [(0, .ref 70), (1, .int v523)] [.int (-1)] _ 0 0 _
                refine x_iflt (tgt := 22) rfl rfl (ti_lt jk_m1 jk_0 (br_t (by omega) ?_))
                refine x_iconst (v := 0) rfl ki_0 ?_
                refine x_zret rfl rfl (by decide) ?_
                show jX m_X7_namedSoul 21 0 0 8 [(0, .ref 78), (1, .int v523)] [.int 0] _ 0 0 _
                refine x_ifeq (tgt := 19) rfl rfl (ti_eq jk_0 jk_0 (br_t (by omega) ?_))
                refine x_iconst (v := (-1)) rfl ki_m1 ?_
                refine x_iret rfl rfl ?_
                show jX m_X6_byParents 22 0 0 76 [(5, .int v521), (4, .int v4), (3, .int v2), (0, .ref 120), (1, .int a1), (2, .int 0)] [.int (-1), .ref 120] _ 0 0 _
                refine x_iload (x := v4) rfl rfl ?_
                refine x_iloadn (x := 0) rfl rfl ?_
                refine x_iconst (v := 1) rfl ki_1 ?_
                refine y_iadd (v := 1) rfl (by decide) ?_
                refine x_inv (N := m_X6_belongs) (As := [.int (-1), .int v4, .int 1]) (b := 120) (st := []) (dx9 := 21) (mc := 0) (ms := 0) (host := "") 6 rfl t_X6_belongs ⟨Or.inl q_6_127, i_X6_belongs.1, i_X6_belongs.2⟩ ⟨by decide, rfl⟩ (congrArg Prod.fst (J.1.1 120 (6, 8) rfl)) rfl (by decide) rfl rfl ⟨by decide, by decide⟩ (sf_X6_belongs_r120_c1 (jr_of jk_m1 (by omega)) (jr_of rfl (by omega)) hD J  (fun v529 h ev529 J S528 => ?_))
                have Sm := jSm_tr rfl Sm S528
                show jX m_X6_byParents 22 0 0 84 [(5, .int v521), (4, .int v4), (3, .int v2), (0, .ref 120), (1, .int a1), (2, .int 0)] [.int v529] _ 0 0 _
                exact jX.sub jsb_n (ct_X6_byParents_r120_c0_84 hD hQ  v529 h (jr_of rfl (by omega)) J Sm)
              ·
                refine x_iload (x := v521) rfl rfl ?_
                refine x_goto (tgt := 84) rfl rfl ?_
                exact jX.sub jsb_n (ct_X6_byParents_r120_c0_84 hD hQ  v521 h (jr_of rfl (by omega)) J Sm)
            ·
              refine x_iloadn (x := v5) rfl rfl ?_
              refine x_iconst (v := 3) rfl ki_3 ?_
              refine z_idiv rfl rfl jk_3 (by omega) (by omega) (fun v530 ev530 => ?_)
              refine x_aloadn (x := 78) rfl rfl ?_
              refine z_getR (N := 16) (b := 32) 7 0 rfl f_7_55 rfl J rfl 9984 ⟨rfl, rfl⟩ rfl ?_
              refine z_getR (N := 20) (b := 33) 1 0 rfl f_7_63 rfl J rfl 4096 ⟨rfl, rfl⟩ rfl ?_
              refine z_getI (N := 4) 8 3 rfl f_7_85 rfl J rfl sg_33_3_4_1_0_1 (fun v531 qv531 ev531 => ?_)
              refine x_icge (tgt := 36) rfl rfl (ti_ge rfl rfl ⟨fun c532 => ?_, fun c532 => ?_⟩)
              ·
                refine x_iconst (v := (-1)) rfl ki_m1 ?_
                refine x_iret rfl rfl ?_
                show jX m_X7_namedSoul 21 0 0 16 [(0, .ref 78), (1, .int v5)] [.int (-1)] _ 0 0 _
                refine x_goto (tgt := 20) rfl rfl ?_
                refine x_iret rfl rfl ?_
                show jX m_X6_byParents 22 0 0 44 [(4, .int v4), (3, .int v2), (0, .ref 120), (1, .int a1), (2, .int 0)] [.int (-1), .ref 120] _ 0 0 _
                refine x_iload (x := v4) rfl rfl ?_
                refine x_iloadn (x := 0) rfl rfl ?_
                refine x_iconst (v := 1) rfl ki_1 ?_
                refine y_iadd (v := 1) rfl (by decide) ?_
                refine x_inv (N := m_X6_belongs) (As := [.int (-1), .int v4, .int 1]) (b := 120) (st := []) (dx9 := 21) (mc := 0) (ms := 0) (host := "") 6 rfl t_X6_belongs ⟨Or.inl q_6_127, i_X6_belongs.1, i_X6_belongs.2⟩ ⟨by decide, rfl⟩ (congrArg Prod.fst (J.1.1 120 (6, 8) rfl)) rfl (by decide) rfl rfl ⟨by decide, by decide⟩ (sf_X6_belongs_r120_c1 (jr_of jk_m1 (by omega)) (jr_of rfl (by omega)) hD J  (fun v534 h ev534 J S533 => ?_))
                have Sm := jSm_tr rfl Sm S533
                show jX m_X6_byParents 22 0 0 52 [(4, .int v4), (3, .int v2), (0, .ref 120), (1, .int a1), (2, .int 0)] [.int v534] _ 0 0 _
                refine x_istore (lsx9 := [(5, .int v534), (4, .int v4), (3, .int v2), (0, .ref 120), (1, .int a1), (2, .int 0)]) rfl rfl rfl ?_
                refine x_iload (x := v534) rfl rfl ?_
                refine x_iconst (v := (-1)) rfl ki_m1 ?_
                refine x_iceq (tgt := 65) rfl rfl (ti_eq rfl jk_m1 ⟨fun c535 => ?_, fun c535 => ?_⟩)
                ·
                  refine x_aloadn (x := 120) rfl rfl ?_
                  refine x_aloadn (x := 120) rfl rfl ?_
                  refine z_getR (N := 8) (b := 78) 6 1 rfl f_6_32 rfl J rfl 15361 ⟨rfl, rfl⟩ rfl ?_
                  refine x_iloadn (x := v2) rfl rfl ?_
                  refine x_iconst (v := 2) rfl ki_2 ?_
                  refine z_iadd rfl rfl jk_2 (by omega) (fun v536 ev536 => ?_)
                  refine x_inv (N := m_X7_namedSoul) (As := [.int v536]) (b := 78) (st := [.ref 120]) (dx9 := 21) (mc := 0) (ms := 0) (host := "") 7 rfl t_X7_namedSoul ⟨Or.inl q_6_124, i_X7_namedSoul.1, i_X7_namedSoul.2⟩ ⟨by decide, rfl⟩ (congrArg Prod.fst (J.1.1 78 (7, 16) rfl)) rfl (by decide) rfl rfl ⟨by decide, by decide⟩ (jC.of rfl k_X7_namedSoul rfl ?_)
                  show jX m_X7_namedSoul 21 0 0 0 [(0, .ref 78), (1, .int v536)] [] _ 0 0 _
                  refine x_aloadn (x := 78) rfl rfl ?_
                  refine z_getR (N := 16) (b := 70) 7 1 rfl f_7_59 rfl J rfl 9985 ⟨rfl, rfl⟩ rfl ?_
                  refine x_iloadn (x := v536) rfl rfl ?_
                  refine x_inv (N := m_X5_isNamed) (As := [.int v536]) (b := 70) (st := []) (dx9 := 20) (mc := 0) (ms := 0) (host := "") 5 rfl t_X5_isNamed ⟨Or.inl q_7_173, i_X5_isNamed.1, i_X5_isNamed.2⟩ ⟨by decide, rfl⟩ (congrArg Prod.fst (J.1.1 70 (5, 9) rfl)) rfl (by decide) rfl rfl ⟨by decide, by decide⟩ (jC.of rfl k_X5_isNamed rfl ?_)
                  show jX m_X5_isNamed 20 0 0 0 [(0, .ref 70), (1, .int v536)] [] _ 0 0 _
                  refine x_aloadn (x := 70) rfl rfl ?_
                  refine x_iloadn (x := v536) rfl rfl ?_
                  refine x_iconst (v := 0) rfl ki_0 ?_
                  refine x_inv (N := m_X5_lengthOf) (As := [.int v536, .int 0]) (b := 70) (st := []) (dx9 := 19) (mc := 0) (ms := 0) (host := "") 5 rfl t_X5_lengthOf ⟨Or.inl q_5_133, i_X5_lengthOf.1, i_X5_lengthOf.2⟩ ⟨by decide, rfl⟩ (congrArg Prod.fst (J.1.1 70 (5, 9) rfl)) rfl (by decide) rfl rfl ⟨by decide, by decide⟩ (jC.of rfl k_X5_lengthOf rfl ?_)
                  show jX m_X5_lengthOf 19 0 0 0 [(0, .ref 70), (1, .int v536), (2, .int 0)] [] _ 0 0 _
                  refine x_iloadn (x := v536) rfl rfl ?_
                  refine x_iconst (v := 2) rfl ki_2 ?_
                  refine z_imul rfl rfl jk_2 (by omega) (fun v537 ev537 => ?_)
                  refine x_iloadn (x := 0) rfl rfl ?_
                  refine z_iadd rfl rfl jk_0 (by omega) (fun v538 ev538 => ?_)
                  refine x_istoren (lsx9 := [(3, .int v538), (0, .ref 70), (1, .int v536), (2, .int 0)]) rfl rfl rfl ?_
                  refine x_iloadn (x := v538) rfl rfl ?_
                  refine x_iflt (tgt := 26) rfl rfl (ti_lt rfl jk_0 (br_f (by omega) ?_))
                  refine x_iloadn (x := v538) rfl rfl ?_
                  refine x_sipush (v := 1200) rfl ks_1200 ?_
                  refine x_icge (tgt := 26) rfl rfl (ti_ge rfl jk_1200 ⟨fun c539 => ?_, fun c539 => ?_⟩)
                  ·
                    refine x_iconst (v := (-1)) rfl ki_m1 ?_
                    refine x_iret rfl rfl ?_
                    show jX m_X5_isNamed 20 0 0 6 [(0, .ref 70), (1, .int v536)] [.int (-1)] _ 0 0 _
                    refine x_ifge (tgt := 18) rfl rfl (ti_ge jk_m1 jk_0 (br_f (by omega) ?_))
                    refine x_aloadn (x := 70) rfl rfl ?_
                    refine x_iloadn (x := v536) rfl rfl ?_
                    refine x_iconst (v := 1) rfl ki_1 ?_
                    refine x_inv (N := m_X5_lengthOf) (As := [.int v536, .int 1]) (b := 70) (st := []) (dx9 := 19) (mc := 0) (ms := 0) (host := "") 5 rfl t_X5_lengthOf ⟨Or.inl q_5_133, i_X5_lengthOf.1, i_X5_lengthOf.2⟩ ⟨by decide, rfl⟩ (congrArg Prod.fst (J.1.1 70 (5, 9) rfl)) rfl (by decide) rfl rfl ⟨by decide, by decide⟩ (jC.of rfl k_X5_lengthOf rfl ?_)
                    show jX m_X5_lengthOf 19 0 0 0 [(0, .ref 70), (1, .int v536), (2, .int 1)] [] _ 0 0 _
                    refine x_iloadn (x := v536) rfl rfl ?_
                    refine x_iconst (v := 2) rfl ki_2 ?_
                    refine z_imul rfl rfl jk_2 (by omega) (fun v540 ev540 => ?_)
                    refine x_iloadn (x := 1) rfl rfl ?_
                    refine z_iadd rfl rfl jk_1 (by omega) (fun v541 ev541 => ?_)
                    refine x_istoren (lsx9 := [(3, .int v541), (0, .ref 70), (1, .int v536), (2, .int 1)]) rfl rfl rfl ?_
                    refine x_iloadn (x := v541) rfl rfl ?_
                    refine x_iflt (tgt := 26) rfl rfl (ti_lt rfl jk_0 (br_f (by omega) ?_))
                    refine x_iloadn (x := v541) rfl rfl ?_
                    refine x_sipush (v := 1200) rfl ks_1200 ?_
                    refine x_icge (tgt := 26) rfl rfl (ti_ge rfl jk_1200 ⟨fun c542 => ?_, fun c542 => ?_⟩)
                    ·
                      refine x_iconst (v := (-1)) rfl ki_m1 ?_
                      refine x_iret rfl rfl ?_
                      show jX m_X5_isNamed 20 0 0 15 [(0, .ref 70), (1, .int v536)] [.int (-1)] _ 0 0 _
                      refine x_iflt (tgt := 22) rfl rfl (ti_lt jk_m1 jk_0 (br_t (by omega) ?_))
                      refine x_iconst (v := 0) rfl ki_0 ?_
                      refine x_zret rfl rfl (by decide) ?_
                      show jX m_X7_namedSoul 21 0 0 8 [(0, .ref 78), (1, .int v536)] [.int 0] _ 0 0 _
                      refine x_ifeq (tgt := 19) rfl rfl (ti_eq jk_0 jk_0 (br_t (by omega) ?_))
                      refine x_iconst (v := (-1)) rfl ki_m1 ?_
                      refine x_iret rfl rfl ?_
                      show jX m_X6_byParents 22 0 0 76 [(5, .int v534), (4, .int v4), (3, .int v2), (0, .ref 120), (1, .int a1), (2, .int 0)] [.int (-1), .ref 120] _ 0 0 _
                      refine x_iload (x := v4) rfl rfl ?_
                      refine x_iloadn (x := 0) rfl rfl ?_
                      refine x_iconst (v := 1) rfl ki_1 ?_
                      refine y_iadd (v := 1) rfl (by decide) ?_
                      refine x_inv (N := m_X6_belongs) (As := [.int (-1), .int v4, .int 1]) (b := 120) (st := []) (dx9 := 21) (mc := 0) (ms := 0) (host := "") 6 rfl t_X6_belongs ⟨Or.inl q_6_127, i_X6_belongs.1, i_X6_belongs.2⟩ ⟨by decide, rfl⟩ (congrArg Prod.fst (J.1.1 120 (6, 8) rfl)) rfl (by decide) rfl rfl ⟨by decide, by decide⟩ (sf_X6_belongs_r120_c1 (jr_of jk_m1 (by omega)) (jr_of rfl (by omega)) hD J  (fun v544 h ev544 J S543 => ?_))
                      have Sm := jSm_tr rfl Sm S543
                      show jX m_X6_byParents 22 0 0 84 [(5, .int v534), (4, .int v4), (3, .int v2), (0, .ref 120), (1, .int a1), (2, .int 0)] [.int v544] _ 0 0 _
                      exact jX.sub jsb_n (ct_X6_byParents_r120_c0_84 hD hQ  v544 h (jr_of rfl (by omega)) J Sm)
                    ·
                      refine x_aloadn (x := 70) rfl rfl ?_
                      refine z_getR (N := 9) (b := 76) 5 7 rfl f_5_28 rfl J rfl 8967 ⟨rfl, rfl⟩ rfl ?_
                      refine x_iloadn (x := v541) rfl rfl ?_
                      refine z_iald (N := 1200) rfl J rfl sg_76_0_1200_1_0_1 rfl (by omega) (fun v545 qv545 ev545 => ?_)
                      refine x_goto (tgt := 27) rfl rfl ?_
                      refine x_iret rfl rfl ?_
                      show jX m_X5_isNamed 20 0 0 15 [(0, .ref 70), (1, .int v536)] [.int v545] _ 0 0 _
                      refine x_iflt (tgt := 22) rfl rfl (ti_lt rfl jk_0 ⟨fun c546 => ?_, fun c546 => ?_⟩)
                      ·
                        refine x_iconst (v := 0) rfl ki_0 ?_
                        refine x_zret rfl rfl (by decide) ?_
                        show jX m_X7_namedSoul 21 0 0 8 [(0, .ref 78), (1, .int v536)] [.int 0] _ 0 0 _
                        refine x_ifeq (tgt := 19) rfl rfl (ti_eq jk_0 jk_0 (br_t (by omega) ?_))
                        refine x_iconst (v := (-1)) rfl ki_m1 ?_
                        refine x_iret rfl rfl ?_
                        show jX m_X6_byParents 22 0 0 76 [(5, .int v534), (4, .int v4), (3, .int v2), (0, .ref 120), (1, .int a1), (2, .int 0)] [.int (-1), .ref 120] _ 0 0 _
                        refine x_iload (x := v4) rfl rfl ?_
                        refine x_iloadn (x := 0) rfl rfl ?_
                        refine x_iconst (v := 1) rfl ki_1 ?_
                        refine y_iadd (v := 1) rfl (by decide) ?_
                        refine x_inv (N := m_X6_belongs) (As := [.int (-1), .int v4, .int 1]) (b := 120) (st := []) (dx9 := 21) (mc := 0) (ms := 0) (host := "") 6 rfl t_X6_belongs ⟨Or.inl q_6_127, i_X6_belongs.1, i_X6_belongs.2⟩ ⟨by decide, rfl⟩ (congrArg Prod.fst (J.1.1 120 (6, 8) rfl)) rfl (by decide) rfl rfl ⟨by decide, by decide⟩ (sf_X6_belongs_r120_c1 (jr_of jk_m1 (by omega)) (jr_of rfl (by omega)) hD J  (fun v548 h ev548 J S547 => ?_))
                        have Sm := jSm_tr rfl Sm S547
                        show jX m_X6_byParents 22 0 0 84 [(5, .int v534), (4, .int v4), (3, .int v2), (0, .ref 120), (1, .int a1), (2, .int 0)] [.int v548] _ 0 0 _
                        exact jX.sub jsb_n (ct_X6_byParents_r120_c0_84 hD hQ  v548 h (jr_of rfl (by omega)) J Sm)
                      ·
                        refine x_iconst (v := 1) rfl ki_1 ?_
                        refine x_goto (tgt := 23) rfl rfl ?_
                        refine x_zret rfl rfl (by decide) ?_
                        show jX m_X7_namedSoul 21 0 0 8 [(0, .ref 78), (1, .int v536)] [.int 1] _ 0 0 _
                        refine x_ifeq (tgt := 19) rfl rfl (ti_eq jk_1 jk_0 (br_f (by omega) ?_))
                        refine x_aloadn (x := 78) rfl rfl ?_
                        refine x_iloadn (x := v536) rfl rfl ?_
                        refine x_inv (N := m_X7_soulAt) (As := [.int v536]) (b := 78) (st := []) (dx9 := 20) (mc := 0) (ms := 0) (host := "") 7 rfl t_X7_soulAt ⟨Or.inl q_7_153, i_X7_soulAt.1, i_X7_soulAt.2⟩ ⟨by decide, rfl⟩ (congrArg Prod.fst (J.1.1 78 (7, 16) rfl)) rfl (by decide) rfl rfl ⟨by decide, by decide⟩ (jC.of rfl k_X7_soulAt rfl ?_)
                        show jX m_X7_soulAt 20 0 0 0 [(0, .ref 78), (1, .int v536)] [] _ 0 0 _
                        refine x_iloadn (x := v536) rfl rfl ?_
                        refine x_iflt (tgt := 36) rfl rfl (ti_lt rfl jk_0 (br_f (by omega) ?_))
                        refine x_iloadn (x := v536) rfl rfl ?_
                        refine x_sipush (v := 600) rfl ks_600 ?_
                        refine x_icge (tgt := 36) rfl rfl (ti_ge rfl jk_600 ⟨fun c549 => ?_, fun c549 => ?_⟩)
                        ·
                          refine x_iconst (v := (-1)) rfl ki_m1 ?_
                          refine x_iret rfl rfl ?_
                          show jX m_X7_namedSoul 21 0 0 16 [(0, .ref 78), (1, .int v536)] [.int (-1)] _ 0 0 _
                          refine x_goto (tgt := 20) rfl rfl ?_
                          refine x_iret rfl rfl ?_
                          show jX m_X6_byParents 22 0 0 76 [(5, .int v534), (4, .int v4), (3, .int v2), (0, .ref 120), (1, .int a1), (2, .int 0)] [.int (-1), .ref 120] _ 0 0 _
                          refine x_iload (x := v4) rfl rfl ?_
                          refine x_iloadn (x := 0) rfl rfl ?_
                          refine x_iconst (v := 1) rfl ki_1 ?_
                          refine y_iadd (v := 1) rfl (by decide) ?_
                          refine x_inv (N := m_X6_belongs) (As := [.int (-1), .int v4, .int 1]) (b := 120) (st := []) (dx9 := 21) (mc := 0) (ms := 0) (host := "") 6 rfl t_X6_belongs ⟨Or.inl q_6_127, i_X6_belongs.1, i_X6_belongs.2⟩ ⟨by decide, rfl⟩ (congrArg Prod.fst (J.1.1 120 (6, 8) rfl)) rfl (by decide) rfl rfl ⟨by decide, by decide⟩ (sf_X6_belongs_r120_c1 (jr_of jk_m1 (by omega)) (jr_of rfl (by omega)) hD J  (fun v551 h ev551 J S550 => ?_))
                          have Sm := jSm_tr rfl Sm S550
                          show jX m_X6_byParents 22 0 0 84 [(5, .int v534), (4, .int v4), (3, .int v2), (0, .ref 120), (1, .int a1), (2, .int 0)] [.int v551] _ 0 0 _
                          exact jX.sub jsb_n (ct_X6_byParents_r120_c0_84 hD hQ  v551 h (jr_of rfl (by omega)) J Sm)
                        ·
                          refine x_iloadn (x := v536) rfl rfl ?_
                          refine x_iconst (v := 3) rfl ki_3 ?_
                          refine z_idiv rfl rfl jk_3 (by omega) (by omega) (fun v552 ev552 => ?_)
                          refine x_aloadn (x := 78) rfl rfl ?_
                          refine z_getR (N := 16) (b := 32) 7 0 rfl f_7_55 rfl J rfl 9984 ⟨rfl, rfl⟩ rfl ?_
                          refine z_getR (N := 20) (b := 33) 1 0 rfl f_7_63 rfl J rfl 4096 ⟨rfl, rfl⟩ rfl ?_
                          refine z_getM (N := 4) (v := v531) 8 3 rfl f_7_85 rfl J rfl (jmc S533 rfl qv531) ?_
                          refine x_icge (tgt := 36) rfl rfl (ti_ge rfl rfl ⟨fun c553 => ?_, fun c553 => ?_⟩)
                          ·
                            refine x_iconst (v := (-1)) rfl ki_m1 ?_
                            refine x_iret rfl rfl ?_
                            show jX m_X7_namedSoul 21 0 0 16 [(0, .ref 78), (1, .int v536)] [.int (-1)] _ 0 0 _
                            refine x_goto (tgt := 20) rfl rfl ?_
                            refine x_iret rfl rfl ?_
                            show jX m_X6_byParents 22 0 0 76 [(5, .int v534), (4, .int v4), (3, .int v2), (0, .ref 120), (1, .int a1), (2, .int 0)] [.int (-1), .ref 120] _ 0 0 _
                            refine x_iload (x := v4) rfl rfl ?_
                            refine x_iloadn (x := 0) rfl rfl ?_
                            refine x_iconst (v := 1) rfl ki_1 ?_
                            refine y_iadd (v := 1) rfl (by decide) ?_
                            refine x_inv (N := m_X6_belongs) (As := [.int (-1), .int v4, .int 1]) (b := 120) (st := []) (dx9 := 21) (mc := 0) (ms := 0) (host := "") 6 rfl t_X6_belongs ⟨Or.inl q_6_127, i_X6_belongs.1, i_X6_belongs.2⟩ ⟨by decide, rfl⟩ (congrArg Prod.fst (J.1.1 120 (6, 8) rfl)) rfl (by decide) rfl rfl ⟨by decide, by decide⟩ (sf_X6_belongs_r120_c1 (jr_of jk_m1 (by omega)) (jr_of rfl (by omega)) hD J  (fun v555 h ev555 J S554 => ?_))
                            have Sm := jSm_tr rfl Sm S554
                            show jX m_X6_byParents 22 0 0 84 [(5, .int v534), (4, .int v4), (3, .int v2), (0, .ref 120), (1, .int a1), (2, .int 0)] [.int v555] _ 0 0 _
                            exact jX.sub jsb_n (ct_X6_byParents_r120_c0_84 hD hQ  v555 h (jr_of rfl (by omega)) J Sm)
                          ·
                            refine x_aloadn (x := 78) rfl rfl ?_
                            refine z_getR (N := 16) (b := 82) 7 10 rfl f_7_37 rfl J rfl 9994 ⟨rfl, rfl⟩ rfl ?_
                            refine x_iloadn (x := v536) rfl rfl ?_
                            refine z_iald (N := 600) rfl J rfl sg_82_0_600_1_0_1 rfl (by omega) (fun v556 qv556 ev556 => ?_)
                            refine x_goto (tgt := 37) rfl rfl ?_
                            refine x_iret rfl rfl ?_
                            show jX m_X7_namedSoul 21 0 0 16 [(0, .ref 78), (1, .int v536)] [.int v556] _ 0 0 _
                            refine x_goto (tgt := 20) rfl rfl ?_
                            refine x_iret rfl rfl ?_
                            show jX m_X6_byParents 22 0 0 76 [(5, .int v534), (4, .int v4), (3, .int v2), (0, .ref 120), (1, .int a1), (2, .int 0)] [.int v556, .ref 120] _ 0 0 _
                            refine x_iload (x := v4) rfl rfl ?_
                            refine x_iloadn (x := 0) rfl rfl ?_
                            refine x_iconst (v := 1) rfl ki_1 ?_
                            refine y_iadd (v := 1) rfl (by decide) ?_
                            refine x_inv (N := m_X6_belongs) (As := [.int v556, .int v4, .int 1]) (b := 120) (st := []) (dx9 := 21) (mc := 0) (ms := 0) (host := "") 6 rfl t_X6_belongs ⟨Or.inl q_6_127, i_X6_belongs.1, i_X6_belongs.2⟩ ⟨by decide, rfl⟩ (congrArg Prod.fst (J.1.1 120 (6, 8) rfl)) rfl (by decide) rfl rfl ⟨by decide, by decide⟩ (sf_X6_belongs_r120_c1 (jr_of rfl (by omega)) (jr_of rfl (by omega)) hD J  (fun v558 h ev558 J S557 => ?_))
                            have Sm := jSm_tr rfl Sm S557
                            show jX m_X6_byParents 22 0 0 84 [(5, .int v534), (4, .int v4), (3, .int v2), (0, .ref 120), (1, .int a1), (2, .int 0)] [.int v558] _ 0 0 _
                            exact jX.sub jsb_n (ct_X6_byParents_r120_c0_84 hD hQ  v558 h (jr_of rfl (by omega)) J Sm)
                  ·
                    refine x_aloadn (x := 70) rfl rfl ?_
                    refine z_getR (N := 9) (b := 76) 5 7 rfl f_5_28 rfl J rfl 8967 ⟨rfl, rfl⟩ rfl ?_
                    refine x_iloadn (x := v538) rfl rfl ?_
                    refine z_iald (N := 1200) rfl J rfl sg_76_0_1200_1_0_1 rfl (by omega) (fun v559 qv559 ev559 => ?_)
                    refine x_goto (tgt := 27) rfl rfl ?_
                    refine x_iret rfl rfl ?_
                    show jX m_X5_isNamed 20 0 0 6 [(0, .ref 70), (1, .int v536)] [.int v559] _ 0 0 _
                    refine x_ifge (tgt := 18) rfl rfl (ti_ge rfl jk_0 ⟨fun c560 => ?_, fun c560 => ?_⟩)
                    ·
                      refine x_iconst (v := 1) rfl ki_1 ?_
                      refine x_goto (tgt := 23) rfl rfl ?_
                      refine x_zret rfl rfl (by decide) ?_
                      show jX m_X7_namedSoul 21 0 0 8 [(0, .ref 78), (1, .int v536)] [.int 1] _ 0 0 _
                      refine x_ifeq (tgt := 19) rfl rfl (ti_eq jk_1 jk_0 (br_f (by omega) ?_))
                      refine x_aloadn (x := 78) rfl rfl ?_
                      refine x_iloadn (x := v536) rfl rfl ?_
                      refine x_inv (N := m_X7_soulAt) (As := [.int v536]) (b := 78) (st := []) (dx9 := 20) (mc := 0) (ms := 0) (host := "") 7 rfl t_X7_soulAt ⟨Or.inl q_7_153, i_X7_soulAt.1, i_X7_soulAt.2⟩ ⟨by decide, rfl⟩ (congrArg Prod.fst (J.1.1 78 (7, 16) rfl)) rfl (by decide) rfl rfl ⟨by decide, by decide⟩ (jC.of rfl k_X7_soulAt rfl ?_)
                      show jX m_X7_soulAt 20 0 0 0 [(0, .ref 78), (1, .int v536)] [] _ 0 0 _
                      refine x_iloadn (x := v536) rfl rfl ?_
                      refine x_iflt (tgt := 36) rfl rfl (ti_lt rfl jk_0 (br_f (by omega) ?_))
                      refine x_iloadn (x := v536) rfl rfl ?_
                      refine x_sipush (v := 600) rfl ks_600 ?_
                      refine x_icge (tgt := 36) rfl rfl (ti_ge rfl jk_600 ⟨fun c561 => ?_, fun c561 => ?_⟩)
                      ·
                        refine x_iconst (v := (-1)) rfl ki_m1 ?_
                        refine x_iret rfl rfl ?_
                        show jX m_X7_namedSoul 21 0 0 16 [(0, .ref 78), (1, .int v536)] [.int (-1)] _ 0 0 _
                        refine x_goto (tgt := 20) rfl rfl ?_
                        refine x_iret rfl rfl ?_
                        show jX m_X6_byParents 22 0 0 76 [(5, .int v534), (4, .int v4), (3, .int v2), (0, .ref 120), (1, .int a1), (2, .int 0)] [.int (-1), .ref 120] _ 0 0 _
                        refine x_iload (x := v4) rfl rfl ?_
                        refine x_iloadn (x := 0) rfl rfl ?_
                        refine x_iconst (v := 1) rfl ki_1 ?_
                        refine y_iadd (v := 1) rfl (by decide) ?_
                        refine x_inv (N := m_X6_belongs) (As := [.int (-1), .int v4, .int 1]) (b := 120) (st := []) (dx9 := 21) (mc := 0) (ms := 0) (host := "") 6 rfl t_X6_belongs ⟨Or.inl q_6_127, i_X6_belongs.1, i_X6_belongs.2⟩ ⟨by decide, rfl⟩ (congrArg Prod.fst (J.1.1 120 (6, 8) rfl)) rfl (by decide) rfl rfl ⟨by decide, by decide⟩ (sf_X6_belongs_r120_c1 (jr_of jk_m1 (by omega)) (jr_of rfl (by omega)) hD J  (fun v563 h ev563 J S562 => ?_))
                        have Sm := jSm_tr rfl Sm S562
                        show jX m_X6_byParents 22 0 0 84 [(5, .int v534), (4, .int v4), (3, .int v2), (0, .ref 120), (1, .int a1), (2, .int 0)] [.int v563] _ 0 0 _
                        exact jX.sub jsb_n (ct_X6_byParents_r120_c0_84 hD hQ  v563 h (jr_of rfl (by omega)) J Sm)
                      ·
                        refine x_iloadn (x := v536) rfl rfl ?_
                        refine x_iconst (v := 3) rfl ki_3 ?_
                        refine z_idiv rfl rfl jk_3 (by omega) (by omega) (fun v564 ev564 => ?_)
                        refine x_aloadn (x := 78) rfl rfl ?_
                        refine z_getR (N := 16) (b := 32) 7 0 rfl f_7_55 rfl J rfl 9984 ⟨rfl, rfl⟩ rfl ?_
                        refine z_getR (N := 20) (b := 33) 1 0 rfl f_7_63 rfl J rfl 4096 ⟨rfl, rfl⟩ rfl ?_
                        refine z_getM (N := 4) (v := v531) 8 3 rfl f_7_85 rfl J rfl (jmc S533 rfl qv531) ?_
                        refine x_icge (tgt := 36) rfl rfl (ti_ge rfl rfl ⟨fun c565 => ?_, fun c565 => ?_⟩)
                        ·
                          refine x_iconst (v := (-1)) rfl ki_m1 ?_
                          refine x_iret rfl rfl ?_
                          show jX m_X7_namedSoul 21 0 0 16 [(0, .ref 78), (1, .int v536)] [.int (-1)] _ 0 0 _
                          refine x_goto (tgt := 20) rfl rfl ?_
                          refine x_iret rfl rfl ?_
                          show jX m_X6_byParents 22 0 0 76 [(5, .int v534), (4, .int v4), (3, .int v2), (0, .ref 120), (1, .int a1), (2, .int 0)] [.int (-1), .ref 120] _ 0 0 _
                          refine x_iload (x := v4) rfl rfl ?_
                          refine x_iloadn (x := 0) rfl rfl ?_
                          refine x_iconst (v := 1) rfl ki_1 ?_
                          refine y_iadd (v := 1) rfl (by decide) ?_
                          refine x_inv (N := m_X6_belongs) (As := [.int (-1), .int v4, .int 1]) (b := 120) (st := []) (dx9 := 21) (mc := 0) (ms := 0) (host := "") 6 rfl t_X6_belongs ⟨Or.inl q_6_127, i_X6_belongs.1, i_X6_belongs.2⟩ ⟨by decide, rfl⟩ (congrArg Prod.fst (J.1.1 120 (6, 8) rfl)) rfl (by decide) rfl rfl ⟨by decide, by decide⟩ (sf_X6_belongs_r120_c1 (jr_of jk_m1 (by omega)) (jr_of rfl (by omega)) hD J  (fun v567 h ev567 J S566 => ?_))
                          have Sm := jSm_tr rfl Sm S566
                          show jX m_X6_byParents 22 0 0 84 [(5, .int v534), (4, .int v4), (3, .int v2), (0, .ref 120), (1, .int a1), (2, .int 0)] [.int v567] _ 0 0 _
                          exact jX.sub jsb_n (ct_X6_byParents_r120_c0_84 hD hQ  v567 h (jr_of rfl (by omega)) J Sm)
                        ·
                          refine x_aloadn (x := 78) rfl rfl ?_
                          refine z_getR (N := 16) (b := 82) 7 10 rfl f_7_37 rfl J rfl 9994 ⟨rfl, rfl⟩ rfl ?_
                          refine x_iloadn (x := v536) rfl rfl ?_
                          refine z_iald (N := 600) rfl J rfl sg_82_0_600_1_0_1 rfl (by omega) (fun v568 qv568 ev568 => ?_)
                          refine x_goto (tgt := 37) rfl rfl ?_
                          refine x_iret rfl rfl ?_
                          show jX m_X7_namedSoul 21 0 0 16 [(0, .ref 78), (1, .int v536)] [.int v568] _ 0 0 _
                          refine x_goto (tgt := 20) rfl rfl ?_
                          refine x_iret rfl rfl ?_
                          show jX m_X6_byParents 22 0 0 76 [(5, .int v534), (4, .int v4), (3, .int v2), (0, .ref 120), (1, .int a1), (2, .int 0)] [.int v568, .ref 120] _ 0 0 _
                          refine x_iload (x := v4) rfl rfl ?_
                          refine x_iloadn (x := 0) rfl rfl ?_
                          refine x_iconst (v := 1) rfl ki_1 ?_
                          refine y_iadd (v := 1) rfl (by decide) ?_
                          refine x_inv (N := m_X6_belongs) (As := [.int v568, .int v4, .int 1]) (b := 120) (st := []) (dx9 := 21) (mc := 0) (ms := 0) (host := "") 6 rfl t_X6_belongs ⟨Or.inl q_6_127, i_X6_belongs.1, i_X6_belongs.2⟩ ⟨by decide, rfl⟩ (congrArg Prod.fst (J.1.1 120 (6, 8) rfl)) rfl (by decide) rfl rfl ⟨by decide, by decide⟩ (sf_X6_belongs_r120_c1 (jr_of rfl (by omega)) (jr_of rfl (by omega)) hD J  (fun v570 h ev570 J S569 => ?_))
                          have Sm := jSm_tr rfl Sm S569
                          show jX m_X6_byParents 22 0 0 84 [(5, .int v534), (4, .int v4), (3, .int v2), (0, .ref 120), (1, .int a1), (2, .int 0)] [.int v570] _ 0 0 _
                          exact jX.sub jsb_n (ct_X6_byParents_r120_c0_84 hD hQ  v570 h (jr_of rfl (by omega)) J Sm)
                    ·
                      refine x_aloadn (x := 70) rfl rfl ?_
                      refine x_iloadn (x := v536) rfl rfl ?_
                      refine x_iconst (v := 1) rfl ki_1 ?_
                      refine x_inv (N := m_X5_lengthOf) (As := [.int v536, .int 1]) (b := 70) (st := []) (dx9 := 19) (mc := 0) (ms := 0) (host := "") 5 rfl t_X5_lengthOf ⟨Or.inl q_5_133, i_X5_lengthOf.1, i_X5_lengthOf.2⟩ ⟨by decide, rfl⟩ (congrArg Prod.fst (J.1.1 70 (5, 9) rfl)) rfl (by decide) rfl rfl ⟨by decide, by decide⟩ (jC.of rfl k_X5_lengthOf rfl ?_)
                      show jX m_X5_lengthOf 19 0 0 0 [(0, .ref 70), (1, .int v536), (2, .int 1)] [] _ 0 0 _
                      refine x_iloadn (x := v536) rfl rfl ?_
                      refine x_iconst (v := 2) rfl ki_2 ?_
                      refine z_imul rfl rfl jk_2 (by omega) (fun v571 ev571 => ?_)
                      refine x_iloadn (x := 1) rfl rfl ?_
                      refine z_iadd rfl rfl jk_1 (by omega) (fun v572 ev572 => ?_)
                      refine x_istoren (lsx9 := [(3, .int v572), (0, .ref 70), (1, .int v536), (2, .int 1)]) rfl rfl rfl ?_
                      refine x_iloadn (x := v572) rfl rfl ?_
                      refine x_iflt (tgt := 26) rfl rfl (ti_lt rfl jk_0 (br_f (by omega) ?_))
                      refine x_iloadn (x := v572) rfl rfl ?_
                      refine x_sipush (v := 1200) rfl ks_1200 ?_
                      refine x_icge (tgt := 26) rfl rfl (ti_ge rfl jk_1200 ⟨fun c573 => ?_, fun c573 => ?_⟩)
                      ·
                        refine x_iconst (v := (-1)) rfl ki_m1 ?_
                        refine x_iret rfl rfl ?_
                        show jX m_X5_isNamed 20 0 0 15 [(0, .ref 70), (1, .int v536)] [.int (-1)] _ 0 0 _
                        refine x_iflt (tgt := 22) rfl rfl (ti_lt jk_m1 jk_0 (br_t (by omega) ?_))
                        refine x_iconst (v := 0) rfl ki_0 ?_
                        refine x_zret rfl rfl (by decide) ?_
                        show jX m_X7_namedSoul 21 0 0 8 [(0, .ref 78), (1, .int v536)] [.int 0] _ 0 0 _
                        refine x_ifeq (tgt := 19) rfl rfl (ti_eq jk_0 jk_0 (br_t (by omega) ?_))
                        refine x_iconst (v := (-1)) rfl ki_m1 ?_
                        refine x_iret rfl rfl ?_
                        show jX m_X6_byParents 22 0 0 76 [(5, .int v534), (4, .int v4), (3, .int v2), (0, .ref 120), (1, .int a1), (2, .int 0)] [.int (-1), .ref 120] _ 0 0 _
                        refine x_iload (x := v4) rfl rfl ?_
                        refine x_iloadn (x := 0) rfl rfl ?_
                        refine x_iconst (v := 1) rfl ki_1 ?_
                        refine y_iadd (v := 1) rfl (by decide) ?_
                        refine x_inv (N := m_X6_belongs) (As := [.int (-1), .int v4, .int 1]) (b := 120) (st := []) (dx9 := 21) (mc := 0) (ms := 0) (host := "") 6 rfl t_X6_belongs ⟨Or.inl q_6_127, i_X6_belongs.1, i_X6_belongs.2⟩ ⟨by decide, rfl⟩ (congrArg Prod.fst (J.1.1 120 (6, 8) rfl)) rfl (by decide) rfl rfl ⟨by decide, by decide⟩ (sf_X6_belongs_r120_c1 (jr_of jk_m1 (by omega)) (jr_of rfl (by omega)) hD J  (fun v575 h ev575 J S574 => ?_))
                        have Sm := jSm_tr rfl Sm S574
                        show jX m_X6_byParents 22 0 0 84 [(5, .int v534), (4, .int v4), (3, .int v2), (0, .ref 120), (1, .int a1), (2, .int 0)] [.int v575] _ 0 0 _
                        exact jX.sub jsb_n (ct_X6_byParents_r120_c0_84 hD hQ  v575 h (jr_of rfl (by omega)) J Sm)
                      ·
                        refine x_aloadn (x := 70) rfl rfl ?_
                        refine z_getR (N := 9) (b := 76) 5 7 rfl f_5_28 rfl J rfl 8967 ⟨rfl, rfl⟩ rfl ?_
                        refine x_iloadn (x := v572) rfl rfl ?_
                        refine z_iald (N := 1200) rfl J rfl sg_76_0_1200_1_0_1 rfl (by omega) (fun v576 qv576 ev576 => ?_)
                        refine x_goto (tgt := 27) rfl rfl ?_
                        refine x_iret rfl rfl ?_
                        show jX m_X5_isNamed 20 0 0 15 [(0, .ref 70), (1, .int v536)] [.int v576] _ 0 0 _
                        refine x_iflt (tgt := 22) rfl rfl (ti_lt rfl jk_0 ⟨fun c577 => ?_, fun c577 => ?_⟩)
                        ·
                          refine x_iconst (v := 0) rfl ki_0 ?_
                          refine x_zret rfl rfl (by decide) ?_
                          show jX m_X7_namedSoul 21 0 0 8 [(0, .ref 78), (1, .int v536)] [.int 0] _ 0 0 _
                          refine x_ifeq (tgt := 19) rfl rfl (ti_eq jk_0 jk_0 (br_t (by omega) ?_))
                          refine x_iconst (v := (-1)) rfl ki_m1 ?_
                          refine x_iret rfl rfl ?_
                          show jX m_X6_byParents 22 0 0 76 [(5, .int v534), (4, .int v4), (3, .int v2), (0, .ref 120), (1, .int a1), (2, .int 0)] [.int (-1), .ref 120] _ 0 0 _
                          refine x_iload (x := v4) rfl rfl ?_
                          refine x_iloadn (x := 0) rfl rfl ?_
                          refine x_iconst (v := 1) rfl ki_1 ?_
                          refine y_iadd (v := 1) rfl (by decide) ?_
                          refine x_inv (N := m_X6_belongs) (As := [.int (-1), .int v4, .int 1]) (b := 120) (st := []) (dx9 := 21) (mc := 0) (ms := 0) (host := "") 6 rfl t_X6_belongs ⟨Or.inl q_6_127, i_X6_belongs.1, i_X6_belongs.2⟩ ⟨by decide, rfl⟩ (congrArg Prod.fst (J.1.1 120 (6, 8) rfl)) rfl (by decide) rfl rfl ⟨by decide, by decide⟩ (sf_X6_belongs_r120_c1 (jr_of jk_m1 (by omega)) (jr_of rfl (by omega)) hD J  (fun v579 h ev579 J S578 => ?_))
                          have Sm := jSm_tr rfl Sm S578
                          show jX m_X6_byParents 22 0 0 84 [(5, .int v534), (4, .int v4), (3, .int v2), (0, .ref 120), (1, .int a1), (2, .int 0)] [.int v579] _ 0 0 _
                          exact jX.sub jsb_n (ct_X6_byParents_r120_c0_84 hD hQ  v579 h (jr_of rfl (by omega)) J Sm)
                        ·
                          refine x_iconst (v := 1) rfl ki_1 ?_
                          refine x_goto (tgt := 23) rfl rfl ?_
                          refine x_zret rfl rfl (by decide) ?_
                          show jX m_X7_namedSoul 21 0 0 8 [(0, .ref 78), (1, .int v536)] [.int 1] _ 0 0 _
                          refine x_ifeq (tgt := 19) rfl rfl (ti_eq jk_1 jk_0 (br_f (by omega) ?_))
                          refine x_aloadn (x := 78) rfl rfl ?_
                          refine x_iloadn (x := v536) rfl rfl ?_
                          refine x_inv (N := m_X7_soulAt) (As := [.int v536]) (b := 78) (st := []) (dx9 := 20) (mc := 0) (ms := 0) (host := "") 7 rfl t_X7_soulAt ⟨Or.inl q_7_153, i_X7_soulAt.1, i_X7_soulAt.2⟩ ⟨by decide, rfl⟩ (congrArg Prod.fst (J.1.1 78 (7, 16) rfl)) rfl (by decide) rfl rfl ⟨by decide, by decide⟩ (jC.of rfl k_X7_soulAt rfl ?_)
                          show jX m_X7_soulAt 20 0 0 0 [(0, .ref 78), (1, .int v536)] [] _ 0 0 _
                          refine x_iloadn (x := v536) rfl rfl ?_
                          refine x_iflt (tgt := 36) rfl rfl (ti_lt rfl jk_0 (br_f (by omega) ?_))
                          refine x_iloadn (x := v536) rfl rfl ?_
                          refine x_sipush (v := 600) rfl ks_600 ?_
                          refine x_icge (tgt := 36) rfl rfl (ti_ge rfl jk_600 ⟨fun c580 => ?_, fun c580 => ?_⟩)
                          ·
                            refine x_iconst (v := (-1)) rfl ki_m1 ?_
                            refine x_iret rfl rfl ?_
                            show jX m_X7_namedSoul 21 0 0 16 [(0, .ref 78), (1, .int v536)] [.int (-1)] _ 0 0 _
                            refine x_goto (tgt := 20) rfl rfl ?_
                            refine x_iret rfl rfl ?_
                            show jX m_X6_byParents 22 0 0 76 [(5, .int v534), (4, .int v4), (3, .int v2), (0, .ref 120), (1, .int a1), (2, .int 0)] [.int (-1), .ref 120] _ 0 0 _
                            refine x_iload (x := v4) rfl rfl ?_
                            refine x_iloadn (x := 0) rfl rfl ?_
                            refine x_iconst (v := 1) rfl ki_1 ?_
                            refine y_iadd (v := 1) rfl (by decide) ?_
                            refine x_inv (N := m_X6_belongs) (As := [.int (-1), .int v4, .int 1]) (b := 120) (st := []) (dx9 := 21) (mc := 0) (ms := 0) (host := "") 6 rfl t_X6_belongs ⟨Or.inl q_6_127, i_X6_belongs.1, i_X6_belongs.2⟩ ⟨by decide, rfl⟩ (congrArg Prod.fst (J.1.1 120 (6, 8) rfl)) rfl (by decide) rfl rfl ⟨by decide, by decide⟩ (sf_X6_belongs_r120_c1 (jr_of jk_m1 (by omega)) (jr_of rfl (by omega)) hD J  (fun v582 h ev582 J S581 => ?_))
                            have Sm := jSm_tr rfl Sm S581
                            show jX m_X6_byParents 22 0 0 84 [(5, .int v534), (4, .int v4), (3, .int v2), (0, .ref 120), (1, .int a1), (2, .int 0)] [.int v582] _ 0 0 _
                            exact jX.sub jsb_n (ct_X6_byParents_r120_c0_84 hD hQ  v582 h (jr_of rfl (by omega)) J Sm)
                          ·
                            refine x_iloadn (x := v536) rfl rfl ?_
                            refine x_iconst (v := 3) rfl ki_3 ?_
                            refine z_idiv rfl rfl jk_3 (by omega) (by omega) (fun v583 ev583 => ?_)
                            refine x_aloadn (x := 78) rfl rfl ?_
                            refine z_getR (N := 16) (b := 32) 7 0 rfl f_7_55 rfl J rfl 9984 ⟨rfl, rfl⟩ rfl ?_
                            refine z_getR (N := 20) (b := 33) 1 0 rfl f_7_63 rfl J rfl 4096 ⟨rfl, rfl⟩ rfl ?_
                            refine z_getM (N := 4) (v := v531) 8 3 rfl f_7_85 rfl J rfl (jmc S533 rfl qv531) ?_
                            refine x_icge (tgt := 36) rfl rfl (ti_ge rfl rfl ⟨fun c584 => ?_, fun c584 => ?_⟩)
                            ·
                              refine x_iconst (v := (-1)) rfl ki_m1 ?_
                              refine x_iret rfl rfl ?_
                              show jX m_X7_namedSoul 21 0 0 16 [(0, .ref 78), (1, .int v536)] [.int (-1)] _ 0 0 _
                              refine x_goto (tgt := 20) rfl rfl ?_
                              refine x_iret rfl rfl ?_
                              show jX m_X6_byParents 22 0 0 76 [(5, .int v534), (4, .int v4), (3, .int v2), (0, .ref 120), (1, .int a1), (2, .int 0)] [.int (-1), .ref 120] _ 0 0 _
                              refine x_iload (x := v4) rfl rfl ?_
                              refine x_iloadn (x := 0) rfl rfl ?_
                              refine x_iconst (v := 1) rfl ki_1 ?_
                              refine y_iadd (v := 1) rfl (by decide) ?_
                              refine x_inv (N := m_X6_belongs) (As := [.int (-1), .int v4, .int 1]) (b := 120) (st := []) (dx9 := 21) (mc := 0) (ms := 0) (host := "") 6 rfl t_X6_belongs ⟨Or.inl q_6_127, i_X6_belongs.1, i_X6_belongs.2⟩ ⟨by decide, rfl⟩ (congrArg Prod.fst (J.1.1 120 (6, 8) rfl)) rfl (by decide) rfl rfl ⟨by decide, by decide⟩ (sf_X6_belongs_r120_c1 (jr_of jk_m1 (by omega)) (jr_of rfl (by omega)) hD J  (fun v586 h ev586 J S585 => ?_))
                              have Sm := jSm_tr rfl Sm S585
                              show jX m_X6_byParents 22 0 0 84 [(5, .int v534), (4, .int v4), (3, .int v2), (0, .ref 120), (1, .int a1), (2, .int 0)] [.int v586] _ 0 0 _
                              exact jX.sub jsb_n (ct_X6_byParents_r120_c0_84 hD hQ  v586 h (jr_of rfl (by omega)) J Sm)
                            ·
                              refine x_aloadn (x := 78) rfl rfl ?_
                              refine z_getR (N := 16) (b := 82) 7 10 rfl f_7_37 rfl J rfl 9994 ⟨rfl, rfl⟩ rfl ?_
                              refine x_iloadn (x := v536) rfl rfl ?_
                              refine z_iald (N := 600) rfl J rfl sg_82_0_600_1_0_1 rfl (by omega) (fun v587 qv587 ev587 => ?_)
                              refine x_goto (tgt := 37) rfl rfl ?_
                              refine x_iret rfl rfl ?_
                              show jX m_X7_namedSoul 21 0 0 16 [(0, .ref 78), (1, .int v536)] [.int v587] _ 0 0 _
                              refine x_goto (tgt := 20) rfl rfl ?_
                              refine x_iret rfl rfl ?_
                              show jX m_X6_byParents 22 0 0 76 [(5, .int v534), (4, .int v4), (3, .int v2), (0, .ref 120), (1, .int a1), (2, .int 0)] [.int v587, .ref 120] _ 0 0 _
                              refine x_iload (x := v4) rfl rfl ?_
                              refine x_iloadn (x := 0) rfl rfl ?_
                              refine x_iconst (v := 1) rfl ki_1 ?_
                              refine y_iadd (v := 1) rfl (by decide) ?_
                              refine x_inv (N := m_X6_belongs) (As := [.int v587, .int v4, .int 1]) (b := 120) (st := []) (dx9 := 21) (mc := 0) (ms := 0) (host := "") 6 rfl t_X6_belongs ⟨Or.inl q_6_127, i_X6_belongs.1, i_X6_belongs.2⟩ ⟨by decide, rfl⟩ (congrArg Prod.fst (J.1.1 120 (6, 8) rfl)) rfl (by decide) rfl rfl ⟨by decide, by decide⟩ (sf_X6_belongs_r120_c1 (jr_of rfl (by omega)) (jr_of rfl (by omega)) hD J  (fun v589 h ev589 J S588 => ?_))
                              have Sm := jSm_tr rfl Sm S588
                              show jX m_X6_byParents 22 0 0 84 [(5, .int v534), (4, .int v4), (3, .int v2), (0, .ref 120), (1, .int a1), (2, .int 0)] [.int v589] _ 0 0 _
                              exact jX.sub jsb_n (ct_X6_byParents_r120_c0_84 hD hQ  v589 h (jr_of rfl (by omega)) J Sm)
                ·
                  refine x_iload (x := v534) rfl rfl ?_
                  refine x_goto (tgt := 84) rfl rfl ?_
                  exact jX.sub jsb_n (ct_X6_byParents_r120_c0_84 hD hQ  v534 h (jr_of rfl (by omega)) J Sm)
              ·
                refine x_aloadn (x := 78) rfl rfl ?_
                refine z_getR (N := 16) (b := 82) 7 10 rfl f_7_37 rfl J rfl 9994 ⟨rfl, rfl⟩ rfl ?_
                refine x_iloadn (x := v5) rfl rfl ?_
                refine z_iald (N := 600) rfl J rfl sg_82_0_600_1_0_1 rfl (by omega) (fun v590 qv590 ev590 => ?_)
                refine x_goto (tgt := 37) rfl rfl ?_
                refine x_iret rfl rfl ?_
                show jX m_X7_namedSoul 21 0 0 16 [(0, .ref 78), (1, .int v5)] [.int v590] _ 0 0 _
                refine x_goto (tgt := 20) rfl rfl ?_
                refine x_iret rfl rfl ?_
                show jX m_X6_byParents 22 0 0 44 [(4, .int v4), (3, .int v2), (0, .ref 120), (1, .int a1), (2, .int 0)] [.int v590, .ref 120] _ 0 0 _
                refine x_iload (x := v4) rfl rfl ?_
                refine x_iloadn (x := 0) rfl rfl ?_
                refine x_iconst (v := 1) rfl ki_1 ?_
                refine y_iadd (v := 1) rfl (by decide) ?_
                refine x_inv (N := m_X6_belongs) (As := [.int v590, .int v4, .int 1]) (b := 120) (st := []) (dx9 := 21) (mc := 0) (ms := 0) (host := "") 6 rfl t_X6_belongs ⟨Or.inl q_6_127, i_X6_belongs.1, i_X6_belongs.2⟩ ⟨by decide, rfl⟩ (congrArg Prod.fst (J.1.1 120 (6, 8) rfl)) rfl (by decide) rfl rfl ⟨by decide, by decide⟩ (sf_X6_belongs_r120_c1 (jr_of rfl (by omega)) (jr_of rfl (by omega)) hD J  (fun v592 h ev592 J S591 => ?_))
                have Sm := jSm_tr rfl Sm S591
                show jX m_X6_byParents 22 0 0 52 [(4, .int v4), (3, .int v2), (0, .ref 120), (1, .int a1), (2, .int 0)] [.int v592] _ 0 0 _
                refine x_istore (lsx9 := [(5, .int v592), (4, .int v4), (3, .int v2), (0, .ref 120), (1, .int a1), (2, .int 0)]) rfl rfl rfl ?_
                refine x_iload (x := v592) rfl rfl ?_
                refine x_iconst (v := (-1)) rfl ki_m1 ?_
                refine x_iceq (tgt := 65) rfl rfl (ti_eq rfl jk_m1 ⟨fun c593 => ?_, fun c593 => ?_⟩)
                ·
                  refine x_aloadn (x := 120) rfl rfl ?_
                  refine x_aloadn (x := 120) rfl rfl ?_
                  refine z_getR (N := 8) (b := 78) 6 1 rfl f_6_32 rfl J rfl 15361 ⟨rfl, rfl⟩ rfl ?_
                  refine x_iloadn (x := v2) rfl rfl ?_
                  refine x_iconst (v := 2) rfl ki_2 ?_
                  refine z_iadd rfl rfl jk_2 (by omega) (fun v594 ev594 => ?_)
                  refine x_inv (N := m_X7_namedSoul) (As := [.int v594]) (b := 78) (st := [.ref 120]) (dx9 := 21) (mc := 0) (ms := 0) (host := "") 7 rfl t_X7_namedSoul ⟨Or.inl q_6_124, i_X7_namedSoul.1, i_X7_namedSoul.2⟩ ⟨by decide, rfl⟩ (congrArg Prod.fst (J.1.1 78 (7, 16) rfl)) rfl (by decide) rfl rfl ⟨by decide, by decide⟩ (jC.of rfl k_X7_namedSoul rfl ?_)
                  show jX m_X7_namedSoul 21 0 0 0 [(0, .ref 78), (1, .int v594)] [] _ 0 0 _
                  refine x_aloadn (x := 78) rfl rfl ?_
                  refine z_getR (N := 16) (b := 70) 7 1 rfl f_7_59 rfl J rfl 9985 ⟨rfl, rfl⟩ rfl ?_
                  refine x_iloadn (x := v594) rfl rfl ?_
                  refine x_inv (N := m_X5_isNamed) (As := [.int v594]) (b := 70) (st := []) (dx9 := 20) (mc := 0) (ms := 0) (host := "") 5 rfl t_X5_isNamed ⟨Or.inl q_7_173, i_X5_isNamed.1, i_X5_isNamed.2⟩ ⟨by decide, rfl⟩ (congrArg Prod.fst (J.1.1 70 (5, 9) rfl)) rfl (by decide) rfl rfl ⟨by decide, by decide⟩ (jC.of rfl k_X5_isNamed rfl ?_)
                  show jX m_X5_isNamed 20 0 0 0 [(0, .ref 70), (1, .int v594)] [] _ 0 0 _
                  refine x_aloadn (x := 70) rfl rfl ?_
                  refine x_iloadn (x := v594) rfl rfl ?_
                  refine x_iconst (v := 0) rfl ki_0 ?_
                  refine x_inv (N := m_X5_lengthOf) (As := [.int v594, .int 0]) (b := 70) (st := []) (dx9 := 19) (mc := 0) (ms := 0) (host := "") 5 rfl t_X5_lengthOf ⟨Or.inl q_5_133, i_X5_lengthOf.1, i_X5_lengthOf.2⟩ ⟨by decide, rfl⟩ (congrArg Prod.fst (J.1.1 70 (5, 9) rfl)) rfl (by decide) rfl rfl ⟨by decide, by decide⟩ (jC.of rfl k_X5_lengthOf rfl ?_)
                  show jX m_X5_lengthOf 19 0 0 0 [(0, .ref 70), (1, .int v594), (2, .int 0)] [] _ 0 0 _
                  refine x_iloadn (x := v594) rfl rfl ?_
                  refine x_iconst (v := 2) rfl ki_2 ?_
                  refine z_imul rfl rfl jk_2 (by omega) (fun v595 ev595 => ?_)
                  refine x_iloadn (x := 0) rfl rfl ?_
                  refine z_iadd rfl rfl jk_0 (by omega) (fun v596 ev596 => ?_)
                  refine x_istoren (lsx9 := [(3, .int v596), (0, .ref 70), (1, .int v594), (2, .int 0)]) rfl rfl rfl ?_
                  refine x_iloadn (x := v596) rfl rfl ?_
                  refine x_iflt (tgt := 26) rfl rfl (ti_lt rfl jk_0 (br_f (by omega) ?_))
                  refine x_iloadn (x := v596) rfl rfl ?_
                  refine x_sipush (v := 1200) rfl ks_1200 ?_
                  refine x_icge (tgt := 26) rfl rfl (ti_ge rfl jk_1200 ⟨fun c597 => ?_, fun c597 => ?_⟩)
                  ·
                    refine x_iconst (v := (-1)) rfl ki_m1 ?_
                    refine x_iret rfl rfl ?_
                    show jX m_X5_isNamed 20 0 0 6 [(0, .ref 70), (1, .int v594)] [.int (-1)] _ 0 0 _
                    refine x_ifge (tgt := 18) rfl rfl (ti_ge jk_m1 jk_0 (br_f (by omega) ?_))
                    refine x_aloadn (x := 70) rfl rfl ?_
                    refine x_iloadn (x := v594) rfl rfl ?_
                    refine x_iconst (v := 1) rfl ki_1 ?_
                    refine x_inv (N := m_X5_lengthOf) (As := [.int v594, .int 1]) (b := 70) (st := []) (dx9 := 19) (mc := 0) (ms := 0) (host := "") 5 rfl t_X5_lengthOf ⟨Or.inl q_5_133, i_X5_lengthOf.1, i_X5_lengthOf.2⟩ ⟨by decide, rfl⟩ (congrArg Prod.fst (J.1.1 70 (5, 9) rfl)) rfl (by decide) rfl rfl ⟨by decide, by decide⟩ (jC.of rfl k_X5_lengthOf rfl ?_)
                    show jX m_X5_lengthOf 19 0 0 0 [(0, .ref 70), (1, .int v594), (2, .int 1)] [] _ 0 0 _
                    refine x_iloadn (x := v594) rfl rfl ?_
                    refine x_iconst (v := 2) rfl ki_2 ?_
                    refine z_imul rfl rfl jk_2 (by omega) (fun v598 ev598 => ?_)
                    refine x_iloadn (x := 1) rfl rfl ?_
                    refine z_iadd rfl rfl jk_1 (by omega) (fun v599 ev599 => ?_)
                    refine x_istoren (lsx9 := [(3, .int v599), (0, .ref 70), (1, .int v594), (2, .int 1)]) rfl rfl rfl ?_
                    refine x_iloadn (x := v599) rfl rfl ?_
                    refine x_iflt (tgt := 26) rfl rfl (ti_lt rfl jk_0 (br_f (by omega) ?_))
                    refine x_iloadn (x := v599) rfl rfl ?_
                    refine x_sipush (v := 1200) rfl ks_1200 ?_
                    refine x_icge (tgt := 26) rfl rfl (ti_ge rfl jk_1200 ⟨fun c600 => ?_, fun c600 => ?_⟩)
                    ·
                      refine x_iconst (v := (-1)) rfl ki_m1 ?_
                      refine x_iret rfl rfl ?_
                      show jX m_X5_isNamed 20 0 0 15 [(0, .ref 70), (1, .int v594)] [.int (-1)] _ 0 0 _
                      refine x_iflt (tgt := 22) rfl rfl (ti_lt jk_m1 jk_0 (br_t (by omega) ?_))
                      refine x_iconst (v := 0) rfl ki_0 ?_
                      refine x_zret rfl rfl (by decide) ?_
                      show jX m_X7_namedSoul 21 0 0 8 [(0, .ref 78), (1, .int v594)] [.int 0] _ 0 0 _
                      refine x_ifeq (tgt := 19) rfl rfl (ti_eq jk_0 jk_0 (br_t (by omega) ?_))
                      refine x_iconst (v := (-1)) rfl ki_m1 ?_
                      refine x_iret rfl rfl ?_
                      show jX m_X6_byParents 22 0 0 76 [(5, .int v592), (4, .int v4), (3, .int v2), (0, .ref 120), (1, .int a1), (2, .int 0)] [.int (-1), .ref 120] _ 0 0 _
                      refine x_iload (x := v4) rfl rfl ?_
                      refine x_iloadn (x := 0) rfl rfl ?_
                      refine x_iconst (v := 1) rfl ki_1 ?_
                      refine y_iadd (v := 1) rfl (by decide) ?_
                      refine x_inv (N := m_X6_belongs) (As := [.int (-1), .int v4, .int 1]) (b := 120) (st := []) (dx9 := 21) (mc := 0) (ms := 0) (host := "") 6 rfl t_X6_belongs ⟨Or.inl q_6_127, i_X6_belongs.1, i_X6_belongs.2⟩ ⟨by decide, rfl⟩ (congrArg Prod.fst (J.1.1 120 (6, 8) rfl)) rfl (by decide) rfl rfl ⟨by decide, by decide⟩ (sf_X6_belongs_r120_c1 (jr_of jk_m1 (by omega)) (jr_of rfl (by omega)) hD J  (fun v602 h ev602 J S601 => ?_))
                      have Sm := jSm_tr rfl Sm S601
                      show jX m_X6_byParents 22 0 0 84 [(5, .int v592), (4, .int v4), (3, .int v2), (0, .ref 120), (1, .int a1), (2, .int 0)] [.int v602] _ 0 0 _
                      exact jX.sub jsb_n (ct_X6_byParents_r120_c0_84 hD hQ  v602 h (jr_of rfl (by omega)) J Sm)
                    ·
                      refine x_aloadn (x := 70) rfl rfl ?_
                      refine z_getR (N := 9) (b := 76) 5 7 rfl f_5_28 rfl J rfl 8967 ⟨rfl, rfl⟩ rfl ?_
                      refine x_iloadn (x := v599) rfl rfl ?_
                      refine z_iald (N := 1200) rfl J rfl sg_76_0_1200_1_0_1 rfl (by omega) (fun v603 qv603 ev603 => ?_)
                      refine x_goto (tgt := 27) rfl rfl ?_
                      refine x_iret rfl rfl ?_
                      show jX m_X5_isNamed 20 0 0 15 [(0, .ref 70), (1, .int v594)] [.int v603] _ 0 0 _
                      refine x_iflt (tgt := 22) rfl rfl (ti_lt rfl jk_0 ⟨fun c604 => ?_, fun c604 => ?_⟩)
                      ·
                        refine x_iconst (v := 0) rfl ki_0 ?_
                        refine x_zret rfl rfl (by decide) ?_
                        show jX m_X7_namedSoul 21 0 0 8 [(0, .ref 78), (1, .int v594)] [.int 0] _ 0 0 _
                        refine x_ifeq (tgt := 19) rfl rfl (ti_eq jk_0 jk_0 (br_t (by omega) ?_))
                        refine x_iconst (v := (-1)) rfl ki_m1 ?_
                        refine x_iret rfl rfl ?_
                        show jX m_X6_byParents 22 0 0 76 [(5, .int v592), (4, .int v4), (3, .int v2), (0, .ref 120), (1, .int a1), (2, .int 0)] [.int (-1), .ref 120] _ 0 0 _
                        refine x_iload (x := v4) rfl rfl ?_
                        refine x_iloadn (x := 0) rfl rfl ?_
                        refine x_iconst (v := 1) rfl ki_1 ?_
                        refine y_iadd (v := 1) rfl (by decide) ?_
                        refine x_inv (N := m_X6_belongs) (As := [.int (-1), .int v4, .int 1]) (b := 120) (st := []) (dx9 := 21) (mc := 0) (ms := 0) (host := "") 6 rfl t_X6_belongs ⟨Or.inl q_6_127, i_X6_belongs.1, i_X6_belongs.2⟩ ⟨by decide, rfl⟩ (congrArg Prod.fst (J.1.1 120 (6, 8) rfl)) rfl (by decide) rfl rfl ⟨by decide, by decide⟩ (sf_X6_belongs_r120_c1 (jr_of jk_m1 (by omega)) (jr_of rfl (by omega)) hD J  (fun v606 h ev606 J S605 => ?_))
                        have Sm := jSm_tr rfl Sm S605
                        show jX m_X6_byParents 22 0 0 84 [(5, .int v592), (4, .int v4), (3, .int v2), (0, .ref 120), (1, .int a1), (2, .int 0)] [.int v606] _ 0 0 _
                        exact jX.sub jsb_n (ct_X6_byParents_r120_c0_84 hD hQ  v606 h (jr_of rfl (by omega)) J Sm)
                      ·
                        refine x_iconst (v := 1) rfl ki_1 ?_
                        refine x_goto (tgt := 23) rfl rfl ?_
                        refine x_zret rfl rfl (by decide) ?_
                        show jX m_X7_namedSoul 21 0 0 8 [(0, .ref 78), (1, .int v594)] [.int 1] _ 0 0 _
                        refine x_ifeq (tgt := 19) rfl rfl (ti_eq jk_1 jk_0 (br_f (by omega) ?_))
                        refine x_aloadn (x := 78) rfl rfl ?_
                        refine x_iloadn (x := v594) rfl rfl ?_
                        refine x_inv (N := m_X7_soulAt) (As := [.int v594]) (b := 78) (st := []) (dx9 := 20) (mc := 0) (ms := 0) (host := "") 7 rfl t_X7_soulAt ⟨Or.inl q_7_153, i_X7_soulAt.1, i_X7_soulAt.2⟩ ⟨by decide, rfl⟩ (congrArg Prod.fst (J.1.1 78 (7, 16) rfl)) rfl (by decide) rfl rfl ⟨by decide, by decide⟩ (jC.of rfl k_X7_soulAt rfl ?_)
                        show jX m_X7_soulAt 20 0 0 0 [(0, .ref 78), (1, .int v594)] [] _ 0 0 _
                        refine x_iloadn (x := v594) rfl rfl ?_
                        refine x_iflt (tgt := 36) rfl rfl (ti_lt rfl jk_0 (br_f (by omega) ?_))
                        refine x_iloadn (x := v594) rfl rfl ?_
                        refine x_sipush (v := 600) rfl ks_600 ?_
                        refine x_icge (tgt := 36) rfl rfl (ti_ge rfl jk_600 ⟨fun c607 => ?_, fun c607 => ?_⟩)
                        ·
                          refine x_iconst (v := (-1)) rfl ki_m1 ?_
                          refine x_iret rfl rfl ?_
                          show jX m_X7_namedSoul 21 0 0 16 [(0, .ref 78), (1, .int v594)] [.int (-1)] _ 0 0 _
                          refine x_goto (tgt := 20) rfl rfl ?_
                          refine x_iret rfl rfl ?_
                          show jX m_X6_byParents 22 0 0 76 [(5, .int v592), (4, .int v4), (3, .int v2), (0, .ref 120), (1, .int a1), (2, .int 0)] [.int (-1), .ref 120] _ 0 0 _
                          refine x_iload (x := v4) rfl rfl ?_
                          refine x_iloadn (x := 0) rfl rfl ?_
                          refine x_iconst (v := 1) rfl ki_1 ?_
                          refine y_iadd (v := 1) rfl (by decide) ?_
                          refine x_inv (N := m_X6_belongs) (As := [.int (-1), .int v4, .int 1]) (b := 120) (st := []) (dx9 := 21) (mc := 0) (ms := 0) (host := "") 6 rfl t_X6_belongs ⟨Or.inl q_6_127, i_X6_belongs.1, i_X6_belongs.2⟩ ⟨by decide, rfl⟩ (congrArg Prod.fst (J.1.1 120 (6, 8) rfl)) rfl (by decide) rfl rfl ⟨by decide, by decide⟩ (sf_X6_belongs_r120_c1 (jr_of jk_m1 (by omega)) (jr_of rfl (by omega)) hD J  (fun v609 h ev609 J S608 => ?_))
                          have Sm := jSm_tr rfl Sm S608
                          show jX m_X6_byParents 22 0 0 84 [(5, .int v592), (4, .int v4), (3, .int v2), (0, .ref 120), (1, .int a1), (2, .int 0)] [.int v609] _ 0 0 _
                          exact jX.sub jsb_n (ct_X6_byParents_r120_c0_84 hD hQ  v609 h (jr_of rfl (by omega)) J Sm)
                        ·
                          refine x_iloadn (x := v594) rfl rfl ?_
                          refine x_iconst (v := 3) rfl ki_3 ?_
                          refine z_idiv rfl rfl jk_3 (by omega) (by omega) (fun v610 ev610 => ?_)
                          refine x_aloadn (x := 78) rfl rfl ?_
                          refine z_getR (N := 16) (b := 32) 7 0 rfl f_7_55 rfl J rfl 9984 ⟨rfl, rfl⟩ rfl ?_
                          refine z_getR (N := 20) (b := 33) 1 0 rfl f_7_63 rfl J rfl 4096 ⟨rfl, rfl⟩ rfl ?_
                          refine z_getM (N := 4) (v := v531) 8 3 rfl f_7_85 rfl J rfl (jmc S591 rfl qv531) ?_
                          refine x_icge (tgt := 36) rfl rfl (ti_ge rfl rfl ⟨fun c611 => ?_, fun c611 => ?_⟩)
                          ·
                            refine x_iconst (v := (-1)) rfl ki_m1 ?_
                            refine x_iret rfl rfl ?_
                            show jX m_X7_namedSoul 21 0 0 16 [(0, .ref 78), (1, .int v594)] [.int (-1)] _ 0 0 _
                            refine x_goto (tgt := 20) rfl rfl ?_
                            refine x_iret rfl rfl ?_
                            show jX m_X6_byParents 22 0 0 76 [(5, .int v592), (4, .int v4), (3, .int v2), (0, .ref 120), (1, .int a1), (2, .int 0)] [.int (-1), .ref 120] _ 0 0 _
                            refine x_iload (x := v4) rfl rfl ?_
                            refine x_iloadn (x := 0) rfl rfl ?_
                            refine x_iconst (v := 1) rfl ki_1 ?_
                            refine y_iadd (v := 1) rfl (by decide) ?_
                            refine x_inv (N := m_X6_belongs) (As := [.int (-1), .int v4, .int 1]) (b := 120) (st := []) (dx9 := 21) (mc := 0) (ms := 0) (host := "") 6 rfl t_X6_belongs ⟨Or.inl q_6_127, i_X6_belongs.1, i_X6_belongs.2⟩ ⟨by decide, rfl⟩ (congrArg Prod.fst (J.1.1 120 (6, 8) rfl)) rfl (by decide) rfl rfl ⟨by decide, by decide⟩ (sf_X6_belongs_r120_c1 (jr_of jk_m1 (by omega)) (jr_of rfl (by omega)) hD J  (fun v613 h ev613 J S612 => ?_))
                            have Sm := jSm_tr rfl Sm S612
                            show jX m_X6_byParents 22 0 0 84 [(5, .int v592), (4, .int v4), (3, .int v2), (0, .ref 120), (1, .int a1), (2, .int 0)] [.int v613] _ 0 0 _
                            exact jX.sub jsb_n (ct_X6_byParents_r120_c0_84 hD hQ  v613 h (jr_of rfl (by omega)) J Sm)
                          ·
                            refine x_aloadn (x := 78) rfl rfl ?_
                            refine z_getR (N := 16) (b := 82) 7 10 rfl f_7_37 rfl J rfl 9994 ⟨rfl, rfl⟩ rfl ?_
                            refine x_iloadn (x := v594) rfl rfl ?_
                            refine z_iald (N := 600) rfl J rfl sg_82_0_600_1_0_1 rfl (by omega) (fun v614 qv614 ev614 => ?_)
                            refine x_goto (tgt := 37) rfl rfl ?_
                            refine x_iret rfl rfl ?_
                            show jX m_X7_namedSoul 21 0 0 16 [(0, .ref 78), (1, .int v594)] [.int v614] _ 0 0 _
                            refine x_goto (tgt := 20) rfl rfl ?_
                            refine x_iret rfl rfl ?_
                            show jX m_X6_byParents 22 0 0 76 [(5, .int v592), (4, .int v4), (3, .int v2), (0, .ref 120), (1, .int a1), (2, .int 0)] [.int v614, .ref 120] _ 0 0 _
                            refine x_iload (x := v4) rfl rfl ?_
                            refine x_iloadn (x := 0) rfl rfl ?_
                            refine x_iconst (v := 1) rfl ki_1 ?_
                            refine y_iadd (v := 1) rfl (by decide) ?_
                            refine x_inv (N := m_X6_belongs) (As := [.int v614, .int v4, .int 1]) (b := 120) (st := []) (dx9 := 21) (mc := 0) (ms := 0) (host := "") 6 rfl t_X6_belongs ⟨Or.inl q_6_127, i_X6_belongs.1, i_X6_belongs.2⟩ ⟨by decide, rfl⟩ (congrArg Prod.fst (J.1.1 120 (6, 8) rfl)) rfl (by decide) rfl rfl ⟨by decide, by decide⟩ (sf_X6_belongs_r120_c1 (jr_of rfl (by omega)) (jr_of rfl (by omega)) hD J  (fun v616 h ev616 J S615 => ?_))
                            have Sm := jSm_tr rfl Sm S615
                            show jX m_X6_byParents 22 0 0 84 [(5, .int v592), (4, .int v4), (3, .int v2), (0, .ref 120), (1, .int a1), (2, .int 0)] [.int v616] _ 0 0 _
                            exact jX.sub jsb_n (ct_X6_byParents_r120_c0_84 hD hQ  v616 h (jr_of rfl (by omega)) J Sm)
                  ·
                    refine x_aloadn (x := 70) rfl rfl ?_
                    refine z_getR (N := 9) (b := 76) 5 7 rfl f_5_28 rfl J rfl 8967 ⟨rfl, rfl⟩ rfl ?_
                    refine x_iloadn (x := v596) rfl rfl ?_
                    refine z_iald (N := 1200) rfl J rfl sg_76_0_1200_1_0_1 rfl (by omega) (fun v617 qv617 ev617 => ?_)
                    refine x_goto (tgt := 27) rfl rfl ?_
                    refine x_iret rfl rfl ?_
                    show jX m_X5_isNamed 20 0 0 6 [(0, .ref 70), (1, .int v594)] [.int v617] _ 0 0 _
                    refine x_ifge (tgt := 18) rfl rfl (ti_ge rfl jk_0 ⟨fun c618 => ?_, fun c618 => ?_⟩)
                    ·
                      refine x_iconst (v := 1) rfl ki_1 ?_
                      refine x_goto (tgt := 23) rfl rfl ?_
                      refine x_zret rfl rfl (by decide) ?_
                      show jX m_X7_namedSoul 21 0 0 8 [(0, .ref 78), (1, .int v594)] [.int 1] _ 0 0 _
                      refine x_ifeq (tgt := 19) rfl rfl (ti_eq jk_1 jk_0 (br_f (by omega) ?_))
                      refine x_aloadn (x := 78) rfl rfl ?_
                      refine x_iloadn (x := v594) rfl rfl ?_
                      refine x_inv (N := m_X7_soulAt) (As := [.int v594]) (b := 78) (st := []) (dx9 := 20) (mc := 0) (ms := 0) (host := "") 7 rfl t_X7_soulAt ⟨Or.inl q_7_153, i_X7_soulAt.1, i_X7_soulAt.2⟩ ⟨by decide, rfl⟩ (congrArg Prod.fst (J.1.1 78 (7, 16) rfl)) rfl (by decide) rfl rfl ⟨by decide, by decide⟩ (jC.of rfl k_X7_soulAt rfl ?_)
                      show jX m_X7_soulAt 20 0 0 0 [(0, .ref 78), (1, .int v594)] [] _ 0 0 _
                      refine x_iloadn (x := v594) rfl rfl ?_
                      refine x_iflt (tgt := 36) rfl rfl (ti_lt rfl jk_0 (br_f (by omega) ?_))
                      refine x_iloadn (x := v594) rfl rfl ?_
                      refine x_sipush (v := 600) rfl ks_600 ?_
                      refine x_icge (tgt := 36) rfl rfl (ti_ge rfl jk_600 ⟨fun c619 => ?_, fun c619 => ?_⟩)
                      ·
                        refine x_iconst (v := (-1)) rfl ki_m1 ?_
                        refine x_iret rfl rfl ?_
                        show jX m_X7_namedSoul 21 0 0 16 [(0, .ref 78), (1, .int v594)] [.int (-1)] _ 0 0 _
                        refine x_goto (tgt := 20) rfl rfl ?_
                        refine x_iret rfl rfl ?_
                        show jX m_X6_byParents 22 0 0 76 [(5, .int v592), (4, .int v4), (3, .int v2), (0, .ref 120), (1, .int a1), (2, .int 0)] [.int (-1), .ref 120] _ 0 0 _
                        refine x_iload (x := v4) rfl rfl ?_
                        refine x_iloadn (x := 0) rfl rfl ?_
                        refine x_iconst (v := 1) rfl ki_1 ?_
                        refine y_iadd (v := 1) rfl (by decide) ?_
                        refine x_inv (N := m_X6_belongs) (As := [.int (-1), .int v4, .int 1]) (b := 120) (st := []) (dx9 := 21) (mc := 0) (ms := 0) (host := "") 6 rfl t_X6_belongs ⟨Or.inl q_6_127, i_X6_belongs.1, i_X6_belongs.2⟩ ⟨by decide, rfl⟩ (congrArg Prod.fst (J.1.1 120 (6, 8) rfl)) rfl (by decide) rfl rfl ⟨by decide, by decide⟩ (sf_X6_belongs_r120_c1 (jr_of jk_m1 (by omega)) (jr_of rfl (by omega)) hD J  (fun v621 h ev621 J S620 => ?_))
                        have Sm := jSm_tr rfl Sm S620
                        show jX m_X6_byParents 22 0 0 84 [(5, .int v592), (4, .int v4), (3, .int v2), (0, .ref 120), (1, .int a1), (2, .int 0)] [.int v621] _ 0 0 _
                        exact jX.sub jsb_n (ct_X6_byParents_r120_c0_84 hD hQ  v621 h (jr_of rfl (by omega)) J Sm)
                      ·
                        refine x_iloadn (x := v594) rfl rfl ?_
                        refine x_iconst (v := 3) rfl ki_3 ?_
                        refine z_idiv rfl rfl jk_3 (by omega) (by omega) (fun v622 ev622 => ?_)
                        refine x_aloadn (x := 78) rfl rfl ?_
                        refine z_getR (N := 16) (b := 32) 7 0 rfl f_7_55 rfl J rfl 9984 ⟨rfl, rfl⟩ rfl ?_
                        refine z_getR (N := 20) (b := 33) 1 0 rfl f_7_63 rfl J rfl 4096 ⟨rfl, rfl⟩ rfl ?_
                        refine z_getM (N := 4) (v := v531) 8 3 rfl f_7_85 rfl J rfl (jmc S591 rfl qv531) ?_
                        refine x_icge (tgt := 36) rfl rfl (ti_ge rfl rfl ⟨fun c623 => ?_, fun c623 => ?_⟩)
                        ·
                          refine x_iconst (v := (-1)) rfl ki_m1 ?_
                          refine x_iret rfl rfl ?_
                          show jX m_X7_namedSoul 21 0 0 16 [(0, .ref 78), (1, .int v594)] [.int (-1)] _ 0 0 _
                          refine x_goto (tgt := 20) rfl rfl ?_
                          refine x_iret rfl rfl ?_
                          show jX m_X6_byParents 22 0 0 76 [(5, .int v592), (4, .int v4), (3, .int v2), (0, .ref 120), (1, .int a1), (2, .int 0)] [.int (-1), .ref 120] _ 0 0 _
                          refine x_iload (x := v4) rfl rfl ?_
                          refine x_iloadn (x := 0) rfl rfl ?_
                          refine x_iconst (v := 1) rfl ki_1 ?_
                          refine y_iadd (v := 1) rfl (by decide) ?_
                          refine x_inv (N := m_X6_belongs) (As := [.int (-1), .int v4, .int 1]) (b := 120) (st := []) (dx9 := 21) (mc := 0) (ms := 0) (host := "") 6 rfl t_X6_belongs ⟨Or.inl q_6_127, i_X6_belongs.1, i_X6_belongs.2⟩ ⟨by decide, rfl⟩ (congrArg Prod.fst (J.1.1 120 (6, 8) rfl)) rfl (by decide) rfl rfl ⟨by decide, by decide⟩ (sf_X6_belongs_r120_c1 (jr_of jk_m1 (by omega)) (jr_of rfl (by omega)) hD J  (fun v625 h ev625 J S624 => ?_))
                          have Sm := jSm_tr rfl Sm S624
                          show jX m_X6_byParents 22 0 0 84 [(5, .int v592), (4, .int v4), (3, .int v2), (0, .ref 120), (1, .int a1), (2, .int 0)] [.int v625] _ 0 0 _
                          exact jX.sub jsb_n (ct_X6_byParents_r120_c0_84 hD hQ  v625 h (jr_of rfl (by omega)) J Sm)
                        ·
                          refine x_aloadn (x := 78) rfl rfl ?_
                          refine z_getR (N := 16) (b := 82) 7 10 rfl f_7_37 rfl J rfl 9994 ⟨rfl, rfl⟩ rfl ?_
                          refine x_iloadn (x := v594) rfl rfl ?_
                          refine z_iald (N := 600) rfl J rfl sg_82_0_600_1_0_1 rfl (by omega) (fun v626 qv626 ev626 => ?_)
                          refine x_goto (tgt := 37) rfl rfl ?_
                          refine x_iret rfl rfl ?_
                          show jX m_X7_namedSoul 21 0 0 16 [(0, .ref 78), (1, .int v594)] [.int v626] _ 0 0 _
                          refine x_goto (tgt := 20) rfl rfl ?_
                          refine x_iret rfl rfl ?_
                          show jX m_X6_byParents 22 0 0 76 [(5, .int v592), (4, .int v4), (3, .int v2), (0, .ref 120), (1, .int a1), (2, .int 0)] [.int v626, .ref 120] _ 0 0 _
                          refine x_iload (x := v4) rfl rfl ?_
                          refine x_iloadn (x := 0) rfl rfl ?_
                          refine x_iconst (v := 1) rfl ki_1 ?_
                          refine y_iadd (v := 1) rfl (by decide) ?_
                          refine x_inv (N := m_X6_belongs) (As := [.int v626, .int v4, .int 1]) (b := 120) (st := []) (dx9 := 21) (mc := 0) (ms := 0) (host := "") 6 rfl t_X6_belongs ⟨Or.inl q_6_127, i_X6_belongs.1, i_X6_belongs.2⟩ ⟨by decide, rfl⟩ (congrArg Prod.fst (J.1.1 120 (6, 8) rfl)) rfl (by decide) rfl rfl ⟨by decide, by decide⟩ (sf_X6_belongs_r120_c1 (jr_of rfl (by omega)) (jr_of rfl (by omega)) hD J  (fun v628 h ev628 J S627 => ?_))
                          have Sm := jSm_tr rfl Sm S627
                          show jX m_X6_byParents 22 0 0 84 [(5, .int v592), (4, .int v4), (3, .int v2), (0, .ref 120), (1, .int a1), (2, .int 0)] [.int v628] _ 0 0 _
                          exact jX.sub jsb_n (ct_X6_byParents_r120_c0_84 hD hQ  v628 h (jr_of rfl (by omega)) J Sm)
                    ·
                      refine x_aloadn (x := 70) rfl rfl ?_
                      refine x_iloadn (x := v594) rfl rfl ?_
                      refine x_iconst (v := 1) rfl ki_1 ?_
                      refine x_inv (N := m_X5_lengthOf) (As := [.int v594, .int 1]) (b := 70) (st := []) (dx9 := 19) (mc := 0) (ms := 0) (host := "") 5 rfl t_X5_lengthOf ⟨Or.inl q_5_133, i_X5_lengthOf.1, i_X5_lengthOf.2⟩ ⟨by decide, rfl⟩ (congrArg Prod.fst (J.1.1 70 (5, 9) rfl)) rfl (by decide) rfl rfl ⟨by decide, by decide⟩ (jC.of rfl k_X5_lengthOf rfl ?_)
                      show jX m_X5_lengthOf 19 0 0 0 [(0, .ref 70), (1, .int v594), (2, .int 1)] [] _ 0 0 _
                      refine x_iloadn (x := v594) rfl rfl ?_
                      refine x_iconst (v := 2) rfl ki_2 ?_
                      refine z_imul rfl rfl jk_2 (by omega) (fun v629 ev629 => ?_)
                      refine x_iloadn (x := 1) rfl rfl ?_
                      refine z_iadd rfl rfl jk_1 (by omega) (fun v630 ev630 => ?_)
                      refine x_istoren (lsx9 := [(3, .int v630), (0, .ref 70), (1, .int v594), (2, .int 1)]) rfl rfl rfl ?_
                      refine x_iloadn (x := v630) rfl rfl ?_
                      refine x_iflt (tgt := 26) rfl rfl (ti_lt rfl jk_0 (br_f (by omega) ?_))
                      refine x_iloadn (x := v630) rfl rfl ?_
                      refine x_sipush (v := 1200) rfl ks_1200 ?_
                      refine x_icge (tgt := 26) rfl rfl (ti_ge rfl jk_1200 ⟨fun c631 => ?_, fun c631 => ?_⟩)
                      ·
                        refine x_iconst (v := (-1)) rfl ki_m1 ?_
                        refine x_iret rfl rfl ?_
                        show jX m_X5_isNamed 20 0 0 15 [(0, .ref 70), (1, .int v594)] [.int (-1)] _ 0 0 _
                        refine x_iflt (tgt := 22) rfl rfl (ti_lt jk_m1 jk_0 (br_t (by omega) ?_))
                        refine x_iconst (v := 0) rfl ki_0 ?_
                        refine x_zret rfl rfl (by decide) ?_
                        show jX m_X7_namedSoul 21 0 0 8 [(0, .ref 78), (1, .int v594)] [.int 0] _ 0 0 _
                        refine x_ifeq (tgt := 19) rfl rfl (ti_eq jk_0 jk_0 (br_t (by omega) ?_))
                        refine x_iconst (v := (-1)) rfl ki_m1 ?_
                        refine x_iret rfl rfl ?_
                        show jX m_X6_byParents 22 0 0 76 [(5, .int v592), (4, .int v4), (3, .int v2), (0, .ref 120), (1, .int a1), (2, .int 0)] [.int (-1), .ref 120] _ 0 0 _
                        refine x_iload (x := v4) rfl rfl ?_
                        refine x_iloadn (x := 0) rfl rfl ?_
                        refine x_iconst (v := 1) rfl ki_1 ?_
                        refine y_iadd (v := 1) rfl (by decide) ?_
                        refine x_inv (N := m_X6_belongs) (As := [.int (-1), .int v4, .int 1]) (b := 120) (st := []) (dx9 := 21) (mc := 0) (ms := 0) (host := "") 6 rfl t_X6_belongs ⟨Or.inl q_6_127, i_X6_belongs.1, i_X6_belongs.2⟩ ⟨by decide, rfl⟩ (congrArg Prod.fst (J.1.1 120 (6, 8) rfl)) rfl (by decide) rfl rfl ⟨by decide, by decide⟩ (sf_X6_belongs_r120_c1 (jr_of jk_m1 (by omega)) (jr_of rfl (by omega)) hD J  (fun v633 h ev633 J S632 => ?_))
                        have Sm := jSm_tr rfl Sm S632
                        show jX m_X6_byParents 22 0 0 84 [(5, .int v592), (4, .int v4), (3, .int v2), (0, .ref 120), (1, .int a1), (2, .int 0)] [.int v633] _ 0 0 _
                        exact jX.sub jsb_n (ct_X6_byParents_r120_c0_84 hD hQ  v633 h (jr_of rfl (by omega)) J Sm)
                      ·
                        refine x_aloadn (x := 70) rfl rfl ?_
                        refine z_getR (N := 9) (b := 76) 5 7 rfl f_5_28 rfl J rfl 8967 ⟨rfl, rfl⟩ rfl ?_
                        refine x_iloadn (x := v630) rfl rfl ?_
                        refine z_iald (N := 1200) rfl J rfl sg_76_0_1200_1_0_1 rfl (by omega) (fun v634 qv634 ev634 => ?_)
                        refine x_goto (tgt := 27) rfl rfl ?_
                        refine x_iret rfl rfl ?_
                        show jX m_X5_isNamed 20 0 0 15 [(0, .ref 70), (1, .int v594)] [.int v634] _ 0 0 _
                        refine x_iflt (tgt := 22) rfl rfl (ti_lt rfl jk_0 ⟨fun c635 => ?_, fun c635 => ?_⟩)
                        ·
                          refine x_iconst (v := 0) rfl ki_0 ?_
                          refine x_zret rfl rfl (by decide) ?_
                          show jX m_X7_namedSoul 21 0 0 8 [(0, .ref 78), (1, .int v594)] [.int 0] _ 0 0 _
                          refine x_ifeq (tgt := 19) rfl rfl (ti_eq jk_0 jk_0 (br_t (by omega) ?_))
                          refine x_iconst (v := (-1)) rfl ki_m1 ?_
                          refine x_iret rfl rfl ?_
                          show jX m_X6_byParents 22 0 0 76 [(5, .int v592), (4, .int v4), (3, .int v2), (0, .ref 120), (1, .int a1), (2, .int 0)] [.int (-1), .ref 120] _ 0 0 _
                          refine x_iload (x := v4) rfl rfl ?_
                          refine x_iloadn (x := 0) rfl rfl ?_
                          refine x_iconst (v := 1) rfl ki_1 ?_
                          refine y_iadd (v := 1) rfl (by decide) ?_
                          refine x_inv (N := m_X6_belongs) (As := [.int (-1), .int v4, .int 1]) (b := 120) (st := []) (dx9 := 21) (mc := 0) (ms := 0) (host := "") 6 rfl t_X6_belongs ⟨Or.inl q_6_127, i_X6_belongs.1, i_X6_belongs.2⟩ ⟨by decide, rfl⟩ (congrArg Prod.fst (J.1.1 120 (6, 8) rfl)) rfl (by decide) rfl rfl ⟨by decide, by decide⟩ (sf_X6_belongs_r120_c1 (jr_of jk_m1 (by omega)) (jr_of rfl (by omega)) hD J  (fun v637 h ev637 J S636 => ?_))
                          have Sm := jSm_tr rfl Sm S636
                          show jX m_X6_byParents 22 0 0 84 [(5, .int v592), (4, .int v4), (3, .int v2), (0, .ref 120), (1, .int a1), (2, .int 0)] [.int v637] _ 0 0 _
                          exact jX.sub jsb_n (ct_X6_byParents_r120_c0_84 hD hQ  v637 h (jr_of rfl (by omega)) J Sm)
                        ·
                          refine x_iconst (v := 1) rfl ki_1 ?_
                          refine x_goto (tgt := 23) rfl rfl ?_
                          refine x_zret rfl rfl (by decide) ?_
                          show jX m_X7_namedSoul 21 0 0 8 [(0, .ref 78), (1, .int v594)] [.int 1] _ 0 0 _
                          refine x_ifeq (tgt := 19) rfl rfl (ti_eq jk_1 jk_0 (br_f (by omega) ?_))
                          refine x_aloadn (x := 78) rfl rfl ?_
                          refine x_iloadn (x := v594) rfl rfl ?_
                          refine x_inv (N := m_X7_soulAt) (As := [.int v594]) (b := 78) (st := []) (dx9 := 20) (mc := 0) (ms := 0) (host := "") 7 rfl t_X7_soulAt ⟨Or.inl q_7_153, i_X7_soulAt.1, i_X7_soulAt.2⟩ ⟨by decide, rfl⟩ (congrArg Prod.fst (J.1.1 78 (7, 16) rfl)) rfl (by decide) rfl rfl ⟨by decide, by decide⟩ (jC.of rfl k_X7_soulAt rfl ?_)
                          show jX m_X7_soulAt 20 0 0 0 [(0, .ref 78), (1, .int v594)] [] _ 0 0 _
                          refine x_iloadn (x := v594) rfl rfl ?_
                          refine x_iflt (tgt := 36) rfl rfl (ti_lt rfl jk_0 (br_f (by omega) ?_))
                          refine x_iloadn (x := v594) rfl rfl ?_
                          refine x_sipush (v := 600) rfl ks_600 ?_
                          refine x_icge (tgt := 36) rfl rfl (ti_ge rfl jk_600 ⟨fun c638 => ?_, fun c638 => ?_⟩)
                          ·
                            refine x_iconst (v := (-1)) rfl ki_m1 ?_
                            refine x_iret rfl rfl ?_
                            show jX m_X7_namedSoul 21 0 0 16 [(0, .ref 78), (1, .int v594)] [.int (-1)] _ 0 0 _
                            refine x_goto (tgt := 20) rfl rfl ?_
                            refine x_iret rfl rfl ?_
                            show jX m_X6_byParents 22 0 0 76 [(5, .int v592), (4, .int v4), (3, .int v2), (0, .ref 120), (1, .int a1), (2, .int 0)] [.int (-1), .ref 120] _ 0 0 _
                            refine x_iload (x := v4) rfl rfl ?_
                            refine x_iloadn (x := 0) rfl rfl ?_
                            refine x_iconst (v := 1) rfl ki_1 ?_
                            refine y_iadd (v := 1) rfl (by decide) ?_
                            refine x_inv (N := m_X6_belongs) (As := [.int (-1), .int v4, .int 1]) (b := 120) (st := []) (dx9 := 21) (mc := 0) (ms := 0) (host := "") 6 rfl t_X6_belongs ⟨Or.inl q_6_127, i_X6_belongs.1, i_X6_belongs.2⟩ ⟨by decide, rfl⟩ (congrArg Prod.fst (J.1.1 120 (6, 8) rfl)) rfl (by decide) rfl rfl ⟨by decide, by decide⟩ (sf_X6_belongs_r120_c1 (jr_of jk_m1 (by omega)) (jr_of rfl (by omega)) hD J  (fun v640 h ev640 J S639 => ?_))
                            have Sm := jSm_tr rfl Sm S639
                            show jX m_X6_byParents 22 0 0 84 [(5, .int v592), (4, .int v4), (3, .int v2), (0, .ref 120), (1, .int a1), (2, .int 0)] [.int v640] _ 0 0 _
                            exact jX.sub jsb_n (ct_X6_byParents_r120_c0_84 hD hQ  v640 h (jr_of rfl (by omega)) J Sm)
                          ·
                            refine x_iloadn (x := v594) rfl rfl ?_
                            refine x_iconst (v := 3) rfl ki_3 ?_
                            refine z_idiv rfl rfl jk_3 (by omega) (by omega) (fun v641 ev641 => ?_)
                            refine x_aloadn (x := 78) rfl rfl ?_
                            refine z_getR (N := 16) (b := 32) 7 0 rfl f_7_55 rfl J rfl 9984 ⟨rfl, rfl⟩ rfl ?_
                            refine z_getR (N := 20) (b := 33) 1 0 rfl f_7_63 rfl J rfl 4096 ⟨rfl, rfl⟩ rfl ?_
                            refine z_getM (N := 4) (v := v531) 8 3 rfl f_7_85 rfl J rfl (jmc S591 rfl qv531) ?_
                            refine x_icge (tgt := 36) rfl rfl (ti_ge rfl rfl ⟨fun c642 => ?_, fun c642 => ?_⟩)
                            ·
                              refine x_iconst (v := (-1)) rfl ki_m1 ?_
                              refine x_iret rfl rfl ?_
                              show jX m_X7_namedSoul 21 0 0 16 [(0, .ref 78), (1, .int v594)] [.int (-1)] _ 0 0 _
                              refine x_goto (tgt := 20) rfl rfl ?_
                              refine x_iret rfl rfl ?_
                              show jX m_X6_byParents 22 0 0 76 [(5, .int v592), (4, .int v4), (3, .int v2), (0, .ref 120), (1, .int a1), (2, .int 0)] [.int (-1), .ref 120] _ 0 0 _
                              refine x_iload (x := v4) rfl rfl ?_
                              refine x_iloadn (x := 0) rfl rfl ?_
                              refine x_iconst (v := 1) rfl ki_1 ?_
                              refine y_iadd (v := 1) rfl (by decide) ?_
                              refine x_inv (N := m_X6_belongs) (As := [.int (-1), .int v4, .int 1]) (b := 120) (st := []) (dx9 := 21) (mc := 0) (ms := 0) (host := "") 6 rfl t_X6_belongs ⟨Or.inl q_6_127, i_X6_belongs.1, i_X6_belongs.2⟩ ⟨by decide, rfl⟩ (congrArg Prod.fst (J.1.1 120 (6, 8) rfl)) rfl (by decide) rfl rfl ⟨by decide, by decide⟩ (sf_X6_belongs_r120_c1 (jr_of jk_m1 (by omega)) (jr_of rfl (by omega)) hD J  (fun v644 h ev644 J S643 => ?_))
                              have Sm := jSm_tr rfl Sm S643
                              show jX m_X6_byParents 22 0 0 84 [(5, .int v592), (4, .int v4), (3, .int v2), (0, .ref 120), (1, .int a1), (2, .int 0)] [.int v644] _ 0 0 _
                              exact jX.sub jsb_n (ct_X6_byParents_r120_c0_84 hD hQ  v644 h (jr_of rfl (by omega)) J Sm)
                            ·
                              refine x_aloadn (x := 78) rfl rfl ?_
                              refine z_getR (N := 16) (b := 82) 7 10 rfl f_7_37 rfl J rfl 9994 ⟨rfl, rfl⟩ rfl ?_
                              refine x_iloadn (x := v594) rfl rfl ?_
                              refine z_iald (N := 600) rfl J rfl sg_82_0_600_1_0_1 rfl (by omega) (fun v645 qv645 ev645 => ?_)
                              refine x_goto (tgt := 37) rfl rfl ?_
                              refine x_iret rfl rfl ?_
                              show jX m_X7_namedSoul 21 0 0 16 [(0, .ref 78), (1, .int v594)] [.int v645] _ 0 0 _
                              refine x_goto (tgt := 20) rfl rfl ?_
                              refine x_iret rfl rfl ?_
                              show jX m_X6_byParents 22 0 0 76 [(5, .int v592), (4, .int v4), (3, .int v2), (0, .ref 120), (1, .int a1), (2, .int 0)] [.int v645, .ref 120] _ 0 0 _
                              refine x_iload (x := v4) rfl rfl ?_
                              refine x_iloadn (x := 0) rfl rfl ?_
                              refine x_iconst (v := 1) rfl ki_1 ?_
                              refine y_iadd (v := 1) rfl (by decide) ?_
                              refine x_inv (N := m_X6_belongs) (As := [.int v645, .int v4, .int 1]) (b := 120) (st := []) (dx9 := 21) (mc := 0) (ms := 0) (host := "") 6 rfl t_X6_belongs ⟨Or.inl q_6_127, i_X6_belongs.1, i_X6_belongs.2⟩ ⟨by decide, rfl⟩ (congrArg Prod.fst (J.1.1 120 (6, 8) rfl)) rfl (by decide) rfl rfl ⟨by decide, by decide⟩ (sf_X6_belongs_r120_c1 (jr_of rfl (by omega)) (jr_of rfl (by omega)) hD J  (fun v647 h ev647 J S646 => ?_))
                              have Sm := jSm_tr rfl Sm S646
                              show jX m_X6_byParents 22 0 0 84 [(5, .int v592), (4, .int v4), (3, .int v2), (0, .ref 120), (1, .int a1), (2, .int 0)] [.int v647] _ 0 0 _
                              exact jX.sub jsb_n (ct_X6_byParents_r120_c0_84 hD hQ  v647 h (jr_of rfl (by omega)) J Sm)
                ·
                  refine x_iload (x := v592) rfl rfl ?_
                  refine x_goto (tgt := 84) rfl rfl ?_
                  exact jX.sub jsb_n (ct_X6_byParents_r120_c0_84 hD hQ  v592 h (jr_of rfl (by omega)) J Sm)
