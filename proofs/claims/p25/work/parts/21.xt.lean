def fp_X11_order_r31 : jFp := [(78, 13, 14), (82, 0, 600), (83, 0, 600), (84, 0, 200), (85, 0, 4), (86, 0, 3), (98, 10, 11), (98, 11, 12), (98, 12, 13), (99, 0, 30), (100, 0, 30), (101, 0, 3), (102, 0, 40), (103, 0, 40), (104, 0, 40), (105, 0, 3), (106, 0, 100), (120, 5, 6), (120, 6, 7), (120, 7, 8), (121, 0, 42), (122, 0, 42)]
set_option maxRecDepth 100000 in
set_option maxHeartbeats 4000000 in
theorem ct_X11_order_r31_34 {Dy : jH → Prop} {h0 : jH} {Q : Option Value → jH → Prop} (hD : jDk Dy) (hQ : ∀ (v : Int32) hx9, jJ jSgX Dy hx9 → jSm fp_X11_order_r31 h0 hx9 → Q (some (.int v)) hx9) : ∀ (h : jH), jJ jSgX Dy h → jSm fp_X11_order_r31 h0 h → jX m_X11_order 26 0 0 34 [] [] h 0 0 Q := by
  intro  h    J Sm
  refine x_iconst (v := (-1)) rfl ki_m1 ?_
  refine x_iret rfl rfl ?_
  exact hQ _ _ J Sm
set_option maxRecDepth 100000 in
set_option maxHeartbeats 4000000 in
theorem ct_X11_order_r31_90 {Dy : jH → Prop} {h0 : jH} {Q : Option Value → jH → Prop} (hD : jDk Dy) (hQ : ∀ (v : Int32) hx9, jJ jSgX Dy hx9 → jSm fp_X11_order_r31 h0 hx9 → Q (some (.int v)) hx9) : ∀ (h : jH), jJ jSgX Dy h → jSm fp_X11_order_r31 h0 h → jX m_X11_order 26 0 0 90 [] [] h 0 0 Q := by
  intro  h    J Sm
  refine x_iconst (v := 0) rfl ki_0 ?_
  refine x_iret rfl rfl ?_
  exact hQ _ _ J Sm
set_option maxRecDepth 100000 in
set_option maxHeartbeats 4000000 in
theorem ct_X11_order_r31_200070 {Dy : jH → Prop} {h0 : jH} {Q : Option Value → jH → Prop} (hD : jDk Dy) (hQ : ∀ (v : Int32) hx9, jJ jSgX Dy hx9 → jSm fp_X11_order_r31 h0 hx9 → Q (some (.int v)) hx9) : ∀ (h : jH), jJ jSgX Dy h → jSm fp_X11_order_r31 h0 h → jX m_X11_order 26 0 0 70 [] [.int 0] h 0 0 Q := by
  intro  h    J Sm
  refine x_iret rfl rfl ?_
  exact hQ _ _ J Sm
set_option maxRecDepth 100000 in
set_option maxHeartbeats 4000000 in
theorem ct_X11_order_r31_300070 {Dy : jH → Prop} {h0 : jH} {Q : Option Value → jH → Prop} (hD : jDk Dy) (hQ : ∀ (v : Int32) hx9, jJ jSgX Dy hx9 → jSm fp_X11_order_r31 h0 hx9 → Q (some (.int v)) hx9) : ∀ (h : jH), jJ jSgX Dy h → jSm fp_X11_order_r31 h0 h → jX m_X11_order 26 0 0 70 [] [.int 1] h 0 0 Q := by
  intro  h    J Sm
  refine x_iret rfl rfl ?_
  exact hQ _ _ J Sm
set_option maxRecDepth 100000 in
set_option maxHeartbeats 4000000 in
theorem sf_X11_order_r31 {Dy : jH → Prop} {h : jH} {Q : Option Value → jH → Prop} {a1 : Int32} {a2 : Int32} {a3 : Int32} (hD : jDk Dy) (J : jJ jSgX Dy h) (hQ : ∀ (v : Int32) hx9, jJ jSgX Dy hx9 → jSm fp_X11_order_r31 h hx9 → Q (some (.int v)) hx9) : jC m_X11_order 26 0 0 [.ref 31, .int a1, .int a2, .int a3] h Q := by
  refine jC.of rfl k_X11_order rfl ?_
  have Sm := jSm_rf fp_X11_order_r31 h
  have ea1 := jfull a1
  have ea2 := jfull a2
  have ea3 := jfull a3
  show jX m_X11_order 26 0 0 0 [(0, .ref 31), (1, .int a1), (2, .int a2), (3, .int a3)] [] _ 0 0 _
  refine x_aloadn (x := 31) rfl rfl ?_
  refine x_iloadn (x := a1) rfl rfl ?_
  refine x_iloadn (x := a2) rfl rfl ?_
  refine x_inv (N := m_X11_isKnownLine) (As := [.int a1, .int a2]) (b := 31) (st := []) (dx9 := 25) (mc := 0) (ms := 0) (host := "") 11 rfl t_X11_isKnownLine ⟨Or.inl q_11_393, i_X11_isKnownLine.1, i_X11_isKnownLine.2⟩ ⟨by decide, rfl⟩ (congrArg Prod.fst (J.1.1 31 (11, 13) rfl)) rfl (by decide) rfl rfl ⟨by decide, by decide⟩ (jC.of rfl k_X11_isKnownLine rfl ?_)
  show jX m_X11_isKnownLine 25 0 0 0 [(0, .ref 31), (1, .int a1), (2, .int a2)] [] _ 0 0 _
  refine x_iloadn (x := a2) rfl rfl ?_
  refine x_inst (N := m_X11_isDay) (As := [.int a2]) (st := []) (dx9 := 1) (mc := 0) (ms := 0) (host := "") rfl t_X11_isDay ⟨Or.inl q_11_115, s_X11_isDay⟩ rfl (by decide) rfl rfl ⟨by decide, by decide⟩ (zc_X11_isDay rfl (fun v1 ev1 => ?_))
  show jX m_X11_isKnownLine 25 0 0 4 [(0, .ref 31), (1, .int a1), (2, .int a2)] [.int v1] _ 0 0 _
  refine x_ifeq (tgt := 26) rfl rfl (ti_eq rfl jk_0 ⟨fun c2 => ?_, fun c2 => ?_⟩)
  ·
    refine x_iconst (v := 0) rfl ki_0 ?_
    refine x_zret rfl rfl (by decide) ?_
    show jX m_X11_order 26 0 0 6 [(0, .ref 31), (1, .int a1), (2, .int a2), (3, .int a3)] [.int 0] _ 0 0 _
    refine x_ifeq (tgt := 34) rfl rfl (ti_eq jk_0 jk_0 (br_t (by omega) ?_))
    exact jX.sub jsb_n (ct_X11_order_r31_34 hD hQ  h J Sm)
  ·
    refine x_aloadn (x := 31) rfl rfl ?_
    refine z_getR (N := 13) (b := 32) 11 0 rfl f_11_10 rfl J rfl 3968 ⟨rfl, rfl⟩ rfl ?_
    refine z_getR (N := 20) (b := 33) 1 0 rfl f_11_126 rfl J rfl 4096 ⟨rfl, rfl⟩ rfl ?_
    refine x_iloadn (x := a1) rfl rfl ?_
    refine x_iloadn (x := a2) rfl rfl ?_
    refine x_inv (N := m_X8_isKnown) (As := [.int a1, .int a2]) (b := 33) (st := []) (dx9 := 1) (mc := 0) (ms := 0) (host := "") 8 rfl t_X8_isKnown ⟨Or.inl q_11_440, i_X8_isKnown.1, i_X8_isKnown.2⟩ ⟨by decide, rfl⟩ (congrArg Prod.fst (J.1.1 33 (8, 4) rfl)) rfl (by decide) rfl rfl ⟨by decide, by decide⟩ (sf_X8_isKnown_r33 (jr_of rfl (by omega)) hD J  (fun v4 h ev4 J S3 => ?_))
    have Sm := jSm_tr rfl Sm S3
    show jX m_X11_isKnownLine 25 0 0 19 [(0, .ref 31), (1, .int a1), (2, .int a2)] [.int v4] _ 0 0 _
    refine x_ifeq (tgt := 26) rfl rfl (ti_eq rfl jk_0 ⟨fun c5 => ?_, fun c5 => ?_⟩)
    ·
      refine x_iconst (v := 0) rfl ki_0 ?_
      refine x_zret rfl rfl (by decide) ?_
      show jX m_X11_order 26 0 0 6 [(0, .ref 31), (1, .int a1), (2, .int a2), (3, .int a3)] [.int 0] _ 0 0 _
      refine x_ifeq (tgt := 34) rfl rfl (ti_eq jk_0 jk_0 (br_t (by omega) ?_))
      exact jX.sub jsb_n (ct_X11_order_r31_34 hD hQ  h J Sm)
    ·
      refine x_iconst (v := 1) rfl ki_1 ?_
      refine x_goto (tgt := 27) rfl rfl ?_
      refine x_zret rfl rfl (by decide) ?_
      show jX m_X11_order 26 0 0 6 [(0, .ref 31), (1, .int a1), (2, .int a2), (3, .int a3)] [.int 1] _ 0 0 _
      refine x_ifeq (tgt := 34) rfl rfl (ti_eq jk_1 jk_0 (br_f (by omega) ?_))
      refine x_aloadn (x := 31) rfl rfl ?_
      refine z_getR (N := 13) (b := 32) 11 0 rfl f_11_10 rfl J rfl 3968 ⟨rfl, rfl⟩ rfl ?_
      refine z_getR (N := 20) (b := 33) 1 0 rfl f_11_126 rfl J rfl 4096 ⟨rfl, rfl⟩ rfl ?_
      refine x_iloadn (x := a1) rfl rfl ?_
      refine x_iconst (v := 2) rfl ki_2 ?_
      refine x_inv (N := m_X8_at) (As := [.int a1, .int 2]) (b := 33) (st := []) (dx9 := 1) (mc := 0) (ms := 0) (host := "") 8 rfl t_X8_at ⟨Or.inl q_11_171, i_X8_at.1, i_X8_at.2⟩ ⟨by decide, rfl⟩ (congrArg Prod.fst (J.1.1 33 (8, 4) rfl)) rfl (by decide) rfl rfl ⟨by decide, by decide⟩ (sf_X8_at_r33_c2  hD J  (fun v7 h ev7 J S6 => ?_))
      have Sm := jSm_tr rfl Sm S6
      show jX m_X11_order 26 0 0 21 [(0, .ref 31), (1, .int a1), (2, .int a2), (3, .int a3)] [.int v7] _ 0 0 _
      refine x_iconst (v := 5) rfl ki_5 ?_
      refine x_icne (tgt := 34) rfl rfl (ti_ne rfl jk_5 ⟨fun c8 => ?_, fun c8 => ?_⟩)
      ·
        exact jX.sub jsb_n (ct_X11_order_r31_34 hD hQ  h J Sm)
      ·
        refine x_iloadn (x := a3) rfl rfl ?_
        refine x_iflt (tgt := 34) rfl rfl (ti_lt rfl jk_0 ⟨fun c9 => ?_, fun c9 => ?_⟩)
        ·
          exact jX.sub jsb_n (ct_X11_order_r31_34 hD hQ  h J Sm)
        ·
          refine x_iloadn (x := a3) rfl rfl ?_
          refine x_iconst (v := 2) rfl ki_2 ?_
          refine x_icle (tgt := 36) rfl rfl (ti_le rfl jk_2 ⟨fun c10 => ?_, fun c10 => ?_⟩)
          ·
            refine x_aloadn (x := 31) rfl rfl ?_
            refine x_iloadn (x := a1) rfl rfl ?_
            refine x_iconst (v := 3) rfl ki_3 ?_
            refine z_imul0 rfl (fun v11 => ?_)
            have ev11 := jfull v11
            refine x_iloadn (x := a2) rfl rfl ?_
            refine x_inv (N := m_X11_soulOn) (As := [.int v11, .int a2]) (b := 31) (st := []) (dx9 := 25) (mc := 0) (ms := 0) (host := "") 11 rfl t_X11_soulOn ⟨Or.inl q_11_234, i_X11_soulOn.1, i_X11_soulOn.2⟩ ⟨by decide, rfl⟩ (congrArg Prod.fst (J.1.1 31 (11, 13) rfl)) rfl (by decide) rfl rfl ⟨by decide, by decide⟩ (jC.of rfl k_X11_soulOn rfl ?_)
            show jX m_X11_soulOn 25 0 0 0 [(0, .ref 31), (1, .int v11), (2, .int a2)] [] _ 0 0 _
            refine x_iloadn (x := a2) rfl rfl ?_
            refine x_inst (N := m_X11_isDay) (As := [.int a2]) (st := []) (dx9 := 1) (mc := 0) (ms := 0) (host := "") rfl t_X11_isDay ⟨Or.inl q_11_115, s_X11_isDay⟩ rfl (by decide) rfl rfl ⟨by decide, by decide⟩ (zc_X11_isDay rfl (fun v12 ev12 => ?_))
            show jX m_X11_soulOn 25 0 0 4 [(0, .ref 31), (1, .int v11), (2, .int a2)] [.int v12] _ 0 0 _
            refine x_ifeq (tgt := 18) rfl rfl (ti_eq rfl jk_0 ⟨fun c13 => ?_, fun c13 => ?_⟩)
            ·
              refine x_iconst (v := (-1)) rfl ki_m1 ?_
              refine x_iret rfl rfl ?_
              show jX m_X11_order 26 0 0 44 [(0, .ref 31), (1, .int a1), (2, .int a2), (3, .int a3)] [.int (-1)] _ 0 0 _
              refine x_istore (lsx9 := [(4, .int (-1)), (0, .ref 31), (1, .int a1), (2, .int a2), (3, .int a3)]) rfl rfl rfl ?_
              refine x_aloadn (x := 31) rfl rfl ?_
              refine x_iloadn (x := a1) rfl rfl ?_
              refine x_iload (x := (-1)) rfl rfl ?_
              refine x_iloadn (x := a2) rfl rfl ?_
              refine x_inv (N := m_X11_isGood) (As := [.int a1, .int (-1), .int a2]) (b := 31) (st := []) (dx9 := 25) (mc := 0) (ms := 0) (host := "") 11 rfl t_X11_isGood ⟨Or.inl q_11_396, i_X11_isGood.1, i_X11_isGood.2⟩ ⟨by decide, rfl⟩ (congrArg Prod.fst (J.1.1 31 (11, 13) rfl)) rfl (by decide) rfl rfl ⟨by decide, by decide⟩ (sf_X11_isGood_r31 (jr_of jk_m1 (by omega)) (jr_of rfl (by omega)) hD J  (fun v15 h ev15 J S14 => ?_))
              have Sm := jSm_tr rfl Sm S14
              show jX m_X11_order 26 0 0 54 [(4, .int (-1)), (0, .ref 31), (1, .int a1), (2, .int a2), (3, .int a3)] [.int v15] _ 0 0 _
              refine x_istore (lsx9 := [(5, .int v15), (4, .int (-1)), (0, .ref 31), (1, .int a1), (2, .int a2), (3, .int a3)]) rfl rfl rfl ?_
              refine x_iloadn (x := a3) rfl rfl ?_
              refine x_ifne (tgt := 71) rfl rfl (ti_ne rfl jk_0 ⟨fun c16 => ?_, fun c16 => ?_⟩)
              ·
                refine x_aloadn (x := 31) rfl rfl ?_
                refine x_iloadn (x := a1) rfl rfl ?_
                refine x_iloadn (x := a2) rfl rfl ?_
                refine x_inv (N := m_X11_firstAppeal) (As := [.int a1, .int a2]) (b := 31) (st := []) (dx9 := 2) (mc := 0) (ms := 0) (host := "") 11 rfl t_X11_firstAppeal ⟨Or.inl q_11_399, i_X11_firstAppeal.1, i_X11_firstAppeal.2⟩ ⟨by decide, rfl⟩ (congrArg Prod.fst (J.1.1 31 (11, 13) rfl)) rfl (by decide) rfl rfl ⟨by decide, by decide⟩ (sf_X11_firstAppeal_r31 (jr_of rfl (by omega)) hD J  (fun v18 h ev18 J S17 => ?_))
                have Sm := jSm_tr rfl Sm S17
                show jX m_X11_order 26 0 0 77 [(5, .int v15), (4, .int (-1)), (0, .ref 31), (1, .int a1), (2, .int a2), (3, .int a3)] [.int v18] _ 0 0 _
                refine x_istore (lsx9 := [(6, .int v18), (5, .int v15), (4, .int (-1)), (0, .ref 31), (1, .int a1), (2, .int a2), (3, .int a3)]) rfl rfl rfl ?_
                refine x_iload (x := v15) rfl rfl ?_
                refine x_ifne (tgt := 90) rfl rfl (ti_ne rfl jk_0 ⟨fun c19 => ?_, fun c19 => ?_⟩)
                ·
                  exact jX.sub jsb_n (ct_X11_order_r31_90 hD hQ  h J Sm)
                ·
                  refine x_iload (x := v18) rfl rfl ?_
                  refine x_iconst (v := (-1)) rfl ki_m1 ?_
                  refine x_icne (tgt := 92) rfl rfl (ti_ne rfl jk_m1 ⟨fun c20 => ?_, fun c20 => ?_⟩)
                  ·
                    refine x_iloadn (x := a3) rfl rfl ?_
                    refine x_iconst (v := 1) rfl ki_1 ?_
                    refine x_icne (tgt := 99) rfl rfl (ti_ne rfl jk_1 ⟨fun c21 => ?_, fun c21 => ?_⟩)
                    ·
                      refine x_aloadn (x := 31) rfl rfl ?_
                      refine z_getR (N := 13) (b := 78) 11 4 rfl f_11_41 rfl J rfl 3972 ⟨rfl, rfl⟩ rfl ?_
                      refine x_iload (x := (-1)) rfl rfl ?_
                      refine x_aloadn (x := 31) rfl rfl ?_
                      refine z_getR (N := 13) (b := 32) 11 0 rfl f_11_10 rfl J rfl 3968 ⟨rfl, rfl⟩ rfl ?_
                      refine z_getR (N := 20) (b := 33) 1 0 rfl f_11_126 rfl J rfl 4096 ⟨rfl, rfl⟩ rfl ?_
                      refine x_iloadn (x := a1) rfl rfl ?_
                      refine x_iconst (v := 1) rfl ki_1 ?_
                      refine x_inv (N := m_X8_at) (As := [.int a1, .int 1]) (b := 33) (st := [.int (-1), .ref 78]) (dx9 := 1) (mc := 0) (ms := 0) (host := "") 8 rfl t_X8_at ⟨Or.inl q_11_171, i_X8_at.1, i_X8_at.2⟩ ⟨by decide, rfl⟩ (congrArg Prod.fst (J.1.1 33 (8, 4) rfl)) rfl (by decide) rfl rfl ⟨by decide, by decide⟩ (sf_X8_at_r33_c1  hD J  (fun v23 h ev23 J S22 => ?_))
                      have Sm := jSm_tr rfl Sm S22
                      show jX m_X11_order 26 0 0 117 [(6, .int v18), (5, .int v15), (4, .int (-1)), (0, .ref 31), (1, .int a1), (2, .int a2), (3, .int a3)] [.int v23, .int (-1), .ref 78] _ 0 0 _
                      refine x_aloadn (x := 31) rfl rfl ?_
                      refine z_getR (N := 13) (b := 32) 11 0 rfl f_11_10 rfl J rfl 3968 ⟨rfl, rfl⟩ rfl ?_
                      refine z_getR (N := 20) (b := 45) 1 6 rfl f_11_402 rfl J rfl 4102 ⟨rfl, rfl⟩ rfl ?_
                      refine x_iload (x := v18) rfl rfl ?_
                      refine x_iconst (v := 1) rfl ki_1 ?_
                      refine x_inv (N := m_X8_at) (As := [.int v18, .int 1]) (b := 45) (st := [.int v23, .int (-1), .ref 78]) (dx9 := 1) (mc := 0) (ms := 0) (host := "") 8 rfl t_X8_at ⟨Or.inl q_11_171, i_X8_at.1, i_X8_at.2⟩ ⟨by decide, rfl⟩ (congrArg Prod.fst (J.1.1 45 (8, 4) rfl)) rfl (by decide) rfl rfl ⟨by decide, by decide⟩ (sf_X8_at_r45_c1 (jr_of rfl (by omega)) hD J  (fun v25 h ev25 J S24 => ?_))
                      have Sm := jSm_tr rfl Sm S24
                      show jX m_X11_order 26 0 0 130 [(6, .int v18), (5, .int v15), (4, .int (-1)), (0, .ref 31), (1, .int a1), (2, .int a2), (3, .int a3)] [.int v25, .int v23, .int (-1), .ref 78] _ 0 0 _
                      refine x_inv (N := m_X7_reliefOf) (As := [.int (-1), .int v23, .int v25]) (b := 78) (st := []) (dx9 := 1) (mc := 0) (ms := 0) (host := "") 7 rfl t_X7_reliefOf ⟨Or.inl q_11_405, i_X7_reliefOf.1, i_X7_reliefOf.2⟩ ⟨by decide, rfl⟩ (congrArg Prod.fst (J.1.1 78 (7, 16) rfl)) rfl (by decide) rfl rfl ⟨by decide, by decide⟩ (sf_X7_reliefOf_r78 (jr_of jk_m1 (by omega)) (jr_of rfl (by omega)) (jr_of rfl (by omega)) hD J  (fun v27 h J S26 => ?_))
                      have ev27 := jfull v27
                      have Sm := jSm_tr rfl Sm S26
                      show jX m_X11_order 26 0 0 133 [(6, .int v18), (5, .int v15), (4, .int (-1)), (0, .ref 31), (1, .int a1), (2, .int a2), (3, .int a3)] [.int v27] _ 0 0 _
                      refine x_iret rfl rfl ?_
                      exact hQ _ _ J Sm
                    ·
                      refine x_iconst (v := 1) rfl ki_1 ?_
                      refine x_iret rfl rfl ?_
                      exact hQ _ _ J Sm
                  ·
                    exact jX.sub jsb_n (ct_X11_order_r31_90 hD hQ  h J Sm)
              ·
                refine x_iload (x := v15) rfl rfl ?_
                refine x_ifeq (tgt := 69) rfl rfl (ti_eq rfl jk_0 ⟨fun c28 => ?_, fun c28 => ?_⟩)
                ·
                  refine x_iconst (v := 0) rfl ki_0 ?_
                  exact jX.sub jsb_n (ct_X11_order_r31_200070 hD hQ  h J Sm)
                ·
                  refine x_iconst (v := 1) rfl ki_1 ?_
                  refine x_goto (tgt := 70) rfl rfl ?_
                  exact jX.sub jsb_n (ct_X11_order_r31_300070 hD hQ  h J Sm)
            ·
              refine x_aloadn (x := 31) rfl rfl ?_
              refine z_getR (N := 13) (b := 78) 11 4 rfl f_11_41 rfl J rfl 3972 ⟨rfl, rfl⟩ rfl ?_
              refine x_iloadn (x := v11) rfl rfl ?_
              refine x_inv (N := m_X7_isMention) (As := [.int v11]) (b := 78) (st := []) (dx9 := 24) (mc := 0) (ms := 0) (host := "") 7 rfl t_X7_isMention ⟨Or.inl q_11_187, i_X7_isMention.1, i_X7_isMention.2⟩ ⟨by decide, rfl⟩ (congrArg Prod.fst (J.1.1 78 (7, 16) rfl)) rfl (by decide) rfl rfl ⟨by decide, by decide⟩ (jC.of rfl k_X7_isMention rfl ?_)
              show jX m_X7_isMention 24 0 0 0 [(0, .ref 78), (1, .int v11)] [] _ 0 0 _
              refine x_iloadn (x := v11) rfl rfl ?_
              refine x_iflt (tgt := 41) rfl rfl (ti_lt rfl jk_0 ⟨fun c29 => ?_, fun c29 => ?_⟩)
              ·
                refine x_iconst (v := 0) rfl ki_0 ?_
                refine x_zret rfl rfl (by decide) ?_
                show jX m_X11_soulOn 25 0 0 15 [(0, .ref 31), (1, .int v11), (2, .int a2)] [.int 0] _ 0 0 _
                refine x_ifne (tgt := 20) rfl rfl (ti_ne jk_0 jk_0 (bn_f (by omega) ?_))
                refine x_iconst (v := (-1)) rfl ki_m1 ?_
                refine x_iret rfl rfl ?_
                show jX m_X11_order 26 0 0 44 [(0, .ref 31), (1, .int a1), (2, .int a2), (3, .int a3)] [.int (-1)] _ 0 0 _
                refine x_istore (lsx9 := [(4, .int (-1)), (0, .ref 31), (1, .int a1), (2, .int a2), (3, .int a3)]) rfl rfl rfl ?_
                refine x_aloadn (x := 31) rfl rfl ?_
                refine x_iloadn (x := a1) rfl rfl ?_
                refine x_iload (x := (-1)) rfl rfl ?_
                refine x_iloadn (x := a2) rfl rfl ?_
                refine x_inv (N := m_X11_isGood) (As := [.int a1, .int (-1), .int a2]) (b := 31) (st := []) (dx9 := 25) (mc := 0) (ms := 0) (host := "") 11 rfl t_X11_isGood ⟨Or.inl q_11_396, i_X11_isGood.1, i_X11_isGood.2⟩ ⟨by decide, rfl⟩ (congrArg Prod.fst (J.1.1 31 (11, 13) rfl)) rfl (by decide) rfl rfl ⟨by decide, by decide⟩ (sf_X11_isGood_r31 (jr_of jk_m1 (by omega)) (jr_of rfl (by omega)) hD J  (fun v31 h ev31 J S30 => ?_))
                have Sm := jSm_tr rfl Sm S30
                show jX m_X11_order 26 0 0 54 [(4, .int (-1)), (0, .ref 31), (1, .int a1), (2, .int a2), (3, .int a3)] [.int v31] _ 0 0 _
                refine x_istore (lsx9 := [(5, .int v31), (4, .int (-1)), (0, .ref 31), (1, .int a1), (2, .int a2), (3, .int a3)]) rfl rfl rfl ?_
                refine x_iloadn (x := a3) rfl rfl ?_
                refine x_ifne (tgt := 71) rfl rfl (ti_ne rfl jk_0 ⟨fun c32 => ?_, fun c32 => ?_⟩)
                ·
                  refine x_aloadn (x := 31) rfl rfl ?_
                  refine x_iloadn (x := a1) rfl rfl ?_
                  refine x_iloadn (x := a2) rfl rfl ?_
                  refine x_inv (N := m_X11_firstAppeal) (As := [.int a1, .int a2]) (b := 31) (st := []) (dx9 := 2) (mc := 0) (ms := 0) (host := "") 11 rfl t_X11_firstAppeal ⟨Or.inl q_11_399, i_X11_firstAppeal.1, i_X11_firstAppeal.2⟩ ⟨by decide, rfl⟩ (congrArg Prod.fst (J.1.1 31 (11, 13) rfl)) rfl (by decide) rfl rfl ⟨by decide, by decide⟩ (sf_X11_firstAppeal_r31 (jr_of rfl (by omega)) hD J  (fun v34 h ev34 J S33 => ?_))
                  have Sm := jSm_tr rfl Sm S33
                  show jX m_X11_order 26 0 0 77 [(5, .int v31), (4, .int (-1)), (0, .ref 31), (1, .int a1), (2, .int a2), (3, .int a3)] [.int v34] _ 0 0 _
                  refine x_istore (lsx9 := [(6, .int v34), (5, .int v31), (4, .int (-1)), (0, .ref 31), (1, .int a1), (2, .int a2), (3, .int a3)]) rfl rfl rfl ?_
                  refine x_iload (x := v31) rfl rfl ?_
                  refine x_ifne (tgt := 90) rfl rfl (ti_ne rfl jk_0 ⟨fun c35 => ?_, fun c35 => ?_⟩)
                  ·
                    exact jX.sub jsb_n (ct_X11_order_r31_90 hD hQ  h J Sm)
                  ·
                    refine x_iload (x := v34) rfl rfl ?_
                    refine x_iconst (v := (-1)) rfl ki_m1 ?_
                    refine x_icne (tgt := 92) rfl rfl (ti_ne rfl jk_m1 ⟨fun c36 => ?_, fun c36 => ?_⟩)
                    ·
                      refine x_iloadn (x := a3) rfl rfl ?_
                      refine x_iconst (v := 1) rfl ki_1 ?_
                      refine x_icne (tgt := 99) rfl rfl (ti_ne rfl jk_1 ⟨fun c37 => ?_, fun c37 => ?_⟩)
                      ·
                        refine x_aloadn (x := 31) rfl rfl ?_
                        refine z_getR (N := 13) (b := 78) 11 4 rfl f_11_41 rfl J rfl 3972 ⟨rfl, rfl⟩ rfl ?_
                        refine x_iload (x := (-1)) rfl rfl ?_
                        refine x_aloadn (x := 31) rfl rfl ?_
                        refine z_getR (N := 13) (b := 32) 11 0 rfl f_11_10 rfl J rfl 3968 ⟨rfl, rfl⟩ rfl ?_
                        refine z_getR (N := 20) (b := 33) 1 0 rfl f_11_126 rfl J rfl 4096 ⟨rfl, rfl⟩ rfl ?_
                        refine x_iloadn (x := a1) rfl rfl ?_
                        refine x_iconst (v := 1) rfl ki_1 ?_
                        refine x_inv (N := m_X8_at) (As := [.int a1, .int 1]) (b := 33) (st := [.int (-1), .ref 78]) (dx9 := 1) (mc := 0) (ms := 0) (host := "") 8 rfl t_X8_at ⟨Or.inl q_11_171, i_X8_at.1, i_X8_at.2⟩ ⟨by decide, rfl⟩ (congrArg Prod.fst (J.1.1 33 (8, 4) rfl)) rfl (by decide) rfl rfl ⟨by decide, by decide⟩ (sf_X8_at_r33_c1  hD J  (fun v39 h ev39 J S38 => ?_))
                        have Sm := jSm_tr rfl Sm S38
                        show jX m_X11_order 26 0 0 117 [(6, .int v34), (5, .int v31), (4, .int (-1)), (0, .ref 31), (1, .int a1), (2, .int a2), (3, .int a3)] [.int v39, .int (-1), .ref 78] _ 0 0 _
                        refine x_aloadn (x := 31) rfl rfl ?_
                        refine z_getR (N := 13) (b := 32) 11 0 rfl f_11_10 rfl J rfl 3968 ⟨rfl, rfl⟩ rfl ?_
                        refine z_getR (N := 20) (b := 45) 1 6 rfl f_11_402 rfl J rfl 4102 ⟨rfl, rfl⟩ rfl ?_
                        refine x_iload (x := v34) rfl rfl ?_
                        refine x_iconst (v := 1) rfl ki_1 ?_
                        refine x_inv (N := m_X8_at) (As := [.int v34, .int 1]) (b := 45) (st := [.int v39, .int (-1), .ref 78]) (dx9 := 1) (mc := 0) (ms := 0) (host := "") 8 rfl t_X8_at ⟨Or.inl q_11_171, i_X8_at.1, i_X8_at.2⟩ ⟨by decide, rfl⟩ (congrArg Prod.fst (J.1.1 45 (8, 4) rfl)) rfl (by decide) rfl rfl ⟨by decide, by decide⟩ (sf_X8_at_r45_c1 (jr_of rfl (by omega)) hD J  (fun v41 h ev41 J S40 => ?_))
                        have Sm := jSm_tr rfl Sm S40
                        show jX m_X11_order 26 0 0 130 [(6, .int v34), (5, .int v31), (4, .int (-1)), (0, .ref 31), (1, .int a1), (2, .int a2), (3, .int a3)] [.int v41, .int v39, .int (-1), .ref 78] _ 0 0 _
                        refine x_inv (N := m_X7_reliefOf) (As := [.int (-1), .int v39, .int v41]) (b := 78) (st := []) (dx9 := 1) (mc := 0) (ms := 0) (host := "") 7 rfl t_X7_reliefOf ⟨Or.inl q_11_405, i_X7_reliefOf.1, i_X7_reliefOf.2⟩ ⟨by decide, rfl⟩ (congrArg Prod.fst (J.1.1 78 (7, 16) rfl)) rfl (by decide) rfl rfl ⟨by decide, by decide⟩ (sf_X7_reliefOf_r78 (jr_of jk_m1 (by omega)) (jr_of rfl (by omega)) (jr_of rfl (by omega)) hD J  (fun v43 h J S42 => ?_))
                        have ev43 := jfull v43
                        have Sm := jSm_tr rfl Sm S42
                        show jX m_X11_order 26 0 0 133 [(6, .int v34), (5, .int v31), (4, .int (-1)), (0, .ref 31), (1, .int a1), (2, .int a2), (3, .int a3)] [.int v43] _ 0 0 _
                        refine x_iret rfl rfl ?_
                        exact hQ _ _ J Sm
                      ·
                        refine x_iconst (v := 1) rfl ki_1 ?_
                        refine x_iret rfl rfl ?_
                        exact hQ _ _ J Sm
                    ·
                      exact jX.sub jsb_n (ct_X11_order_r31_90 hD hQ  h J Sm)
                ·
                  refine x_iload (x := v31) rfl rfl ?_
                  refine x_ifeq (tgt := 69) rfl rfl (ti_eq rfl jk_0 ⟨fun c44 => ?_, fun c44 => ?_⟩)
                  ·
                    refine x_iconst (v := 0) rfl ki_0 ?_
                    exact jX.sub jsb_n (ct_X11_order_r31_200070 hD hQ  h J Sm)
                  ·
                    refine x_iconst (v := 1) rfl ki_1 ?_
                    refine x_goto (tgt := 70) rfl rfl ?_
                    exact jX.sub jsb_n (ct_X11_order_r31_300070 hD hQ  h J Sm)
              ·
                refine x_iloadn (x := v11) rfl rfl ?_
                refine x_sipush (v := 600) rfl ks_600 ?_
                refine x_icge (tgt := 41) rfl rfl (ti_ge rfl jk_600 ⟨fun c45 => ?_, fun c45 => ?_⟩)
                ·
                  refine x_iconst (v := 0) rfl ki_0 ?_
                  refine x_zret rfl rfl (by decide) ?_
                  show jX m_X11_soulOn 25 0 0 15 [(0, .ref 31), (1, .int v11), (2, .int a2)] [.int 0] _ 0 0 _
                  refine x_ifne (tgt := 20) rfl rfl (ti_ne jk_0 jk_0 (bn_f (by omega) ?_))
                  refine x_iconst (v := (-1)) rfl ki_m1 ?_
                  refine x_iret rfl rfl ?_
                  show jX m_X11_order 26 0 0 44 [(0, .ref 31), (1, .int a1), (2, .int a2), (3, .int a3)] [.int (-1)] _ 0 0 _
                  refine x_istore (lsx9 := [(4, .int (-1)), (0, .ref 31), (1, .int a1), (2, .int a2), (3, .int a3)]) rfl rfl rfl ?_
                  refine x_aloadn (x := 31) rfl rfl ?_
                  refine x_iloadn (x := a1) rfl rfl ?_
                  refine x_iload (x := (-1)) rfl rfl ?_
                  refine x_iloadn (x := a2) rfl rfl ?_
                  refine x_inv (N := m_X11_isGood) (As := [.int a1, .int (-1), .int a2]) (b := 31) (st := []) (dx9 := 25) (mc := 0) (ms := 0) (host := "") 11 rfl t_X11_isGood ⟨Or.inl q_11_396, i_X11_isGood.1, i_X11_isGood.2⟩ ⟨by decide, rfl⟩ (congrArg Prod.fst (J.1.1 31 (11, 13) rfl)) rfl (by decide) rfl rfl ⟨by decide, by decide⟩ (sf_X11_isGood_r31 (jr_of jk_m1 (by omega)) (jr_of rfl (by omega)) hD J  (fun v47 h ev47 J S46 => ?_))
                  have Sm := jSm_tr rfl Sm S46
                  show jX m_X11_order 26 0 0 54 [(4, .int (-1)), (0, .ref 31), (1, .int a1), (2, .int a2), (3, .int a3)] [.int v47] _ 0 0 _
                  refine x_istore (lsx9 := [(5, .int v47), (4, .int (-1)), (0, .ref 31), (1, .int a1), (2, .int a2), (3, .int a3)]) rfl rfl rfl ?_
                  refine x_iloadn (x := a3) rfl rfl ?_
                  refine x_ifne (tgt := 71) rfl rfl (ti_ne rfl jk_0 ⟨fun c48 => ?_, fun c48 => ?_⟩)
                  ·
                    refine x_aloadn (x := 31) rfl rfl ?_
                    refine x_iloadn (x := a1) rfl rfl ?_
                    refine x_iloadn (x := a2) rfl rfl ?_
                    refine x_inv (N := m_X11_firstAppeal) (As := [.int a1, .int a2]) (b := 31) (st := []) (dx9 := 2) (mc := 0) (ms := 0) (host := "") 11 rfl t_X11_firstAppeal ⟨Or.inl q_11_399, i_X11_firstAppeal.1, i_X11_firstAppeal.2⟩ ⟨by decide, rfl⟩ (congrArg Prod.fst (J.1.1 31 (11, 13) rfl)) rfl (by decide) rfl rfl ⟨by decide, by decide⟩ (sf_X11_firstAppeal_r31 (jr_of rfl (by omega)) hD J  (fun v50 h ev50 J S49 => ?_))
                    have Sm := jSm_tr rfl Sm S49
                    show jX m_X11_order 26 0 0 77 [(5, .int v47), (4, .int (-1)), (0, .ref 31), (1, .int a1), (2, .int a2), (3, .int a3)] [.int v50] _ 0 0 _
                    refine x_istore (lsx9 := [(6, .int v50), (5, .int v47), (4, .int (-1)), (0, .ref 31), (1, .int a1), (2, .int a2), (3, .int a3)]) rfl rfl rfl ?_
                    refine x_iload (x := v47) rfl rfl ?_
                    refine x_ifne (tgt := 90) rfl rfl (ti_ne rfl jk_0 ⟨fun c51 => ?_, fun c51 => ?_⟩)
                    ·
                      exact jX.sub jsb_n (ct_X11_order_r31_90 hD hQ  h J Sm)
                    ·
                      refine x_iload (x := v50) rfl rfl ?_
                      refine x_iconst (v := (-1)) rfl ki_m1 ?_
                      refine x_icne (tgt := 92) rfl rfl (ti_ne rfl jk_m1 ⟨fun c52 => ?_, fun c52 => ?_⟩)
                      ·
                        refine x_iloadn (x := a3) rfl rfl ?_
                        refine x_iconst (v := 1) rfl ki_1 ?_
                        refine x_icne (tgt := 99) rfl rfl (ti_ne rfl jk_1 ⟨fun c53 => ?_, fun c53 => ?_⟩)
                        ·
                          refine x_aloadn (x := 31) rfl rfl ?_
                          refine z_getR (N := 13) (b := 78) 11 4 rfl f_11_41 rfl J rfl 3972 ⟨rfl, rfl⟩ rfl ?_
                          refine x_iload (x := (-1)) rfl rfl ?_
                          refine x_aloadn (x := 31) rfl rfl ?_
                          refine z_getR (N := 13) (b := 32) 11 0 rfl f_11_10 rfl J rfl 3968 ⟨rfl, rfl⟩ rfl ?_
                          refine z_getR (N := 20) (b := 33) 1 0 rfl f_11_126 rfl J rfl 4096 ⟨rfl, rfl⟩ rfl ?_
                          refine x_iloadn (x := a1) rfl rfl ?_
                          refine x_iconst (v := 1) rfl ki_1 ?_
                          refine x_inv (N := m_X8_at) (As := [.int a1, .int 1]) (b := 33) (st := [.int (-1), .ref 78]) (dx9 := 1) (mc := 0) (ms := 0) (host := "") 8 rfl t_X8_at ⟨Or.inl q_11_171, i_X8_at.1, i_X8_at.2⟩ ⟨by decide, rfl⟩ (congrArg Prod.fst (J.1.1 33 (8, 4) rfl)) rfl (by decide) rfl rfl ⟨by decide, by decide⟩ (sf_X8_at_r33_c1  hD J  (fun v55 h ev55 J S54 => ?_))
                          have Sm := jSm_tr rfl Sm S54
                          show jX m_X11_order 26 0 0 117 [(6, .int v50), (5, .int v47), (4, .int (-1)), (0, .ref 31), (1, .int a1), (2, .int a2), (3, .int a3)] [.int v55, .int (-1), .ref 78] _ 0 0 _
                          refine x_aloadn (x := 31) rfl rfl ?_
                          refine z_getR (N := 13) (b := 32) 11 0 rfl f_11_10 rfl J rfl 3968 ⟨rfl, rfl⟩ rfl ?_
                          refine z_getR (N := 20) (b := 45) 1 6 rfl f_11_402 rfl J rfl 4102 ⟨rfl, rfl⟩ rfl ?_
                          refine x_iload (x := v50) rfl rfl ?_
                          refine x_iconst (v := 1) rfl ki_1 ?_
                          refine x_inv (N := m_X8_at) (As := [.int v50, .int 1]) (b := 45) (st := [.int v55, .int (-1), .ref 78]) (dx9 := 1) (mc := 0) (ms := 0) (host := "") 8 rfl t_X8_at ⟨Or.inl q_11_171, i_X8_at.1, i_X8_at.2⟩ ⟨by decide, rfl⟩ (congrArg Prod.fst (J.1.1 45 (8, 4) rfl)) rfl (by decide) rfl rfl ⟨by decide, by decide⟩ (sf_X8_at_r45_c1 (jr_of rfl (by omega)) hD J  (fun v57 h ev57 J S56 => ?_))
                          have Sm := jSm_tr rfl Sm S56
                          show jX m_X11_order 26 0 0 130 [(6, .int v50), (5, .int v47), (4, .int (-1)), (0, .ref 31), (1, .int a1), (2, .int a2), (3, .int a3)] [.int v57, .int v55, .int (-1), .ref 78] _ 0 0 _
                          refine x_inv (N := m_X7_reliefOf) (As := [.int (-1), .int v55, .int v57]) (b := 78) (st := []) (dx9 := 1) (mc := 0) (ms := 0) (host := "") 7 rfl t_X7_reliefOf ⟨Or.inl q_11_405, i_X7_reliefOf.1, i_X7_reliefOf.2⟩ ⟨by decide, rfl⟩ (congrArg Prod.fst (J.1.1 78 (7, 16) rfl)) rfl (by decide) rfl rfl ⟨by decide, by decide⟩ (sf_X7_reliefOf_r78 (jr_of jk_m1 (by omega)) (jr_of rfl (by omega)) (jr_of rfl (by omega)) hD J  (fun v59 h J S58 => ?_))
                          have ev59 := jfull v59
                          have Sm := jSm_tr rfl Sm S58
                          show jX m_X11_order 26 0 0 133 [(6, .int v50), (5, .int v47), (4, .int (-1)), (0, .ref 31), (1, .int a1), (2, .int a2), (3, .int a3)] [.int v59] _ 0 0 _
                          refine x_iret rfl rfl ?_
                          exact hQ _ _ J Sm
                        ·
                          refine x_iconst (v := 1) rfl ki_1 ?_
                          refine x_iret rfl rfl ?_
                          exact hQ _ _ J Sm
                      ·
                        exact jX.sub jsb_n (ct_X11_order_r31_90 hD hQ  h J Sm)
                  ·
                    refine x_iload (x := v47) rfl rfl ?_
                    refine x_ifeq (tgt := 69) rfl rfl (ti_eq rfl jk_0 ⟨fun c60 => ?_, fun c60 => ?_⟩)
                    ·
                      refine x_iconst (v := 0) rfl ki_0 ?_
                      exact jX.sub jsb_n (ct_X11_order_r31_200070 hD hQ  h J Sm)
                    ·
                      refine x_iconst (v := 1) rfl ki_1 ?_
                      refine x_goto (tgt := 70) rfl rfl ?_
                      exact jX.sub jsb_n (ct_X11_order_r31_300070 hD hQ  h J Sm)
                ·
                  refine x_iloadn (x := v11) rfl rfl ?_
                  refine x_iconst (v := 3) rfl ki_3 ?_
                  refine z_idiv rfl rfl jk_3 (by omega) (by omega) (fun v61 ev61 => ?_)
                  refine x_aloadn (x := 78) rfl rfl ?_
                  refine z_getR (N := 16) (b := 32) 7 0 rfl f_7_55 rfl J rfl 9984 ⟨rfl, rfl⟩ rfl ?_
                  refine z_getR (N := 20) (b := 33) 1 0 rfl f_7_63 rfl J rfl 4096 ⟨rfl, rfl⟩ rfl ?_
                  refine z_getI (N := 4) 8 3 rfl f_7_85 rfl J rfl sg_33_3_4_1_0_1 (fun v62 qv62 ev62 => ?_)
                  refine x_icge (tgt := 41) rfl rfl (ti_ge rfl rfl ⟨fun c63 => ?_, fun c63 => ?_⟩)
                  ·
                    refine x_iconst (v := 0) rfl ki_0 ?_
                    refine x_zret rfl rfl (by decide) ?_
                    show jX m_X11_soulOn 25 0 0 15 [(0, .ref 31), (1, .int v11), (2, .int a2)] [.int 0] _ 0 0 _
                    refine x_ifne (tgt := 20) rfl rfl (ti_ne jk_0 jk_0 (bn_f (by omega) ?_))
                    refine x_iconst (v := (-1)) rfl ki_m1 ?_
                    refine x_iret rfl rfl ?_
                    show jX m_X11_order 26 0 0 44 [(0, .ref 31), (1, .int a1), (2, .int a2), (3, .int a3)] [.int (-1)] _ 0 0 _
                    refine x_istore (lsx9 := [(4, .int (-1)), (0, .ref 31), (1, .int a1), (2, .int a2), (3, .int a3)]) rfl rfl rfl ?_
                    refine x_aloadn (x := 31) rfl rfl ?_
                    refine x_iloadn (x := a1) rfl rfl ?_
                    refine x_iload (x := (-1)) rfl rfl ?_
                    refine x_iloadn (x := a2) rfl rfl ?_
                    refine x_inv (N := m_X11_isGood) (As := [.int a1, .int (-1), .int a2]) (b := 31) (st := []) (dx9 := 25) (mc := 0) (ms := 0) (host := "") 11 rfl t_X11_isGood ⟨Or.inl q_11_396, i_X11_isGood.1, i_X11_isGood.2⟩ ⟨by decide, rfl⟩ (congrArg Prod.fst (J.1.1 31 (11, 13) rfl)) rfl (by decide) rfl rfl ⟨by decide, by decide⟩ (sf_X11_isGood_r31 (jr_of jk_m1 (by omega)) (jr_of rfl (by omega)) hD J  (fun v65 h ev65 J S64 => ?_))
                    have Sm := jSm_tr rfl Sm S64
                    show jX m_X11_order 26 0 0 54 [(4, .int (-1)), (0, .ref 31), (1, .int a1), (2, .int a2), (3, .int a3)] [.int v65] _ 0 0 _
                    refine x_istore (lsx9 := [(5, .int v65), (4, .int (-1)), (0, .ref 31), (1, .int a1), (2, .int a2), (3, .int a3)]) rfl rfl rfl ?_
                    refine x_iloadn (x := a3) rfl rfl ?_
                    refine x_ifne (tgt := 71) rfl rfl (ti_ne rfl jk_0 ⟨fun c66 => ?_, fun c66 => ?_⟩)
                    ·
                      refine x_aloadn (x := 31) rfl rfl ?_
                      refine x_iloadn (x := a1) rfl rfl ?_
                      refine x_iloadn (x := a2) rfl rfl ?_
                      refine x_inv (N := m_X11_firstAppeal) (As := [.int a1, .int a2]) (b := 31) (st := []) (dx9 := 2) (mc := 0) (ms := 0) (host := "") 11 rfl t_X11_firstAppeal ⟨Or.inl q_11_399, i_X11_firstAppeal.1, i_X11_firstAppeal.2⟩ ⟨by decide, rfl⟩ (congrArg Prod.fst (J.1.1 31 (11, 13) rfl)) rfl (by decide) rfl rfl ⟨by decide, by decide⟩ (sf_X11_firstAppeal_r31 (jr_of rfl (by omega)) hD J  (fun v68 h ev68 J S67 => ?_))
                      have Sm := jSm_tr rfl Sm S67
                      show jX m_X11_order 26 0 0 77 [(5, .int v65), (4, .int (-1)), (0, .ref 31), (1, .int a1), (2, .int a2), (3, .int a3)] [.int v68] _ 0 0 _
                      refine x_istore (lsx9 := [(6, .int v68), (5, .int v65), (4, .int (-1)), (0, .ref 31), (1, .int a1), (2, .int a2), (3, .int a3)]) rfl rfl rfl ?_
                      refine x_iload (x := v65) rfl rfl ?_
                      refine x_ifne (tgt := 90) rfl rfl (ti_ne rfl jk_0 ⟨fun c69 => ?_, fun c69 => ?_⟩)
                      ·
                        exact jX.sub jsb_n (ct_X11_order_r31_90 hD hQ  h J Sm)
                      ·
                        refine x_iload (x := v68) rfl rfl ?_
                        refine x_iconst (v := (-1)) rfl ki_m1 ?_
                        refine x_icne (tgt := 92) rfl rfl (ti_ne rfl jk_m1 ⟨fun c70 => ?_, fun c70 => ?_⟩)
                        ·
                          refine x_iloadn (x := a3) rfl rfl ?_
                          refine x_iconst (v := 1) rfl ki_1 ?_
                          refine x_icne (tgt := 99) rfl rfl (ti_ne rfl jk_1 ⟨fun c71 => ?_, fun c71 => ?_⟩)
                          ·
                            refine x_aloadn (x := 31) rfl rfl ?_
                            refine z_getR (N := 13) (b := 78) 11 4 rfl f_11_41 rfl J rfl 3972 ⟨rfl, rfl⟩ rfl ?_
                            refine x_iload (x := (-1)) rfl rfl ?_
                            refine x_aloadn (x := 31) rfl rfl ?_
                            refine z_getR (N := 13) (b := 32) 11 0 rfl f_11_10 rfl J rfl 3968 ⟨rfl, rfl⟩ rfl ?_
                            refine z_getR (N := 20) (b := 33) 1 0 rfl f_11_126 rfl J rfl 4096 ⟨rfl, rfl⟩ rfl ?_
                            refine x_iloadn (x := a1) rfl rfl ?_
                            refine x_iconst (v := 1) rfl ki_1 ?_
                            refine x_inv (N := m_X8_at) (As := [.int a1, .int 1]) (b := 33) (st := [.int (-1), .ref 78]) (dx9 := 1) (mc := 0) (ms := 0) (host := "") 8 rfl t_X8_at ⟨Or.inl q_11_171, i_X8_at.1, i_X8_at.2⟩ ⟨by decide, rfl⟩ (congrArg Prod.fst (J.1.1 33 (8, 4) rfl)) rfl (by decide) rfl rfl ⟨by decide, by decide⟩ (sf_X8_at_r33_c1  hD J  (fun v73 h ev73 J S72 => ?_))
                            have Sm := jSm_tr rfl Sm S72
                            show jX m_X11_order 26 0 0 117 [(6, .int v68), (5, .int v65), (4, .int (-1)), (0, .ref 31), (1, .int a1), (2, .int a2), (3, .int a3)] [.int v73, .int (-1), .ref 78] _ 0 0 _
                            refine x_aloadn (x := 31) rfl rfl ?_
                            refine z_getR (N := 13) (b := 32) 11 0 rfl f_11_10 rfl J rfl 3968 ⟨rfl, rfl⟩ rfl ?_
                            refine z_getR (N := 20) (b := 45) 1 6 rfl f_11_402 rfl J rfl 4102 ⟨rfl, rfl⟩ rfl ?_
                            refine x_iload (x := v68) rfl rfl ?_
                            refine x_iconst (v := 1) rfl ki_1 ?_
                            refine x_inv (N := m_X8_at) (As := [.int v68, .int 1]) (b := 45) (st := [.int v73, .int (-1), .ref 78]) (dx9 := 1) (mc := 0) (ms := 0) (host := "") 8 rfl t_X8_at ⟨Or.inl q_11_171, i_X8_at.1, i_X8_at.2⟩ ⟨by decide, rfl⟩ (congrArg Prod.fst (J.1.1 45 (8, 4) rfl)) rfl (by decide) rfl rfl ⟨by decide, by decide⟩ (sf_X8_at_r45_c1 (jr_of rfl (by omega)) hD J  (fun v75 h ev75 J S74 => ?_))
                            have Sm := jSm_tr rfl Sm S74
                            show jX m_X11_order 26 0 0 130 [(6, .int v68), (5, .int v65), (4, .int (-1)), (0, .ref 31), (1, .int a1), (2, .int a2), (3, .int a3)] [.int v75, .int v73, .int (-1), .ref 78] _ 0 0 _
                            refine x_inv (N := m_X7_reliefOf) (As := [.int (-1), .int v73, .int v75]) (b := 78) (st := []) (dx9 := 1) (mc := 0) (ms := 0) (host := "") 7 rfl t_X7_reliefOf ⟨Or.inl q_11_405, i_X7_reliefOf.1, i_X7_reliefOf.2⟩ ⟨by decide, rfl⟩ (congrArg Prod.fst (J.1.1 78 (7, 16) rfl)) rfl (by decide) rfl rfl ⟨by decide, by decide⟩ (sf_X7_reliefOf_r78 (jr_of jk_m1 (by omega)) (jr_of rfl (by omega)) (jr_of rfl (by omega)) hD J  (fun v77 h J S76 => ?_))
                            have ev77 := jfull v77
                            have Sm := jSm_tr rfl Sm S76
                            show jX m_X11_order 26 0 0 133 [(6, .int v68), (5, .int v65), (4, .int (-1)), (0, .ref 31), (1, .int a1), (2, .int a2), (3, .int a3)] [.int v77] _ 0 0 _
                            refine x_iret rfl rfl ?_
                            exact hQ _ _ J Sm
                          ·
                            refine x_iconst (v := 1) rfl ki_1 ?_
                            refine x_iret rfl rfl ?_
                            exact hQ _ _ J Sm
                        ·
                          exact jX.sub jsb_n (ct_X11_order_r31_90 hD hQ  h J Sm)
                    ·
                      refine x_iload (x := v65) rfl rfl ?_
                      refine x_ifeq (tgt := 69) rfl rfl (ti_eq rfl jk_0 ⟨fun c78 => ?_, fun c78 => ?_⟩)
                      ·
                        refine x_iconst (v := 0) rfl ki_0 ?_
                        exact jX.sub jsb_n (ct_X11_order_r31_200070 hD hQ  h J Sm)
                      ·
                        refine x_iconst (v := 1) rfl ki_1 ?_
                        refine x_goto (tgt := 70) rfl rfl ?_
                        exact jX.sub jsb_n (ct_X11_order_r31_300070 hD hQ  h J Sm)
                  ·
                    refine x_aloadn (x := 78) rfl rfl ?_
                    refine z_getR (N := 16) (b := 79) 7 7 rfl f_7_27 rfl J rfl 9991 ⟨rfl, rfl⟩ rfl ?_
                    refine x_iloadn (x := v11) rfl rfl ?_
                    refine z_iald (N := 600) rfl J rfl sg_79_0_600_1_0_1 rfl (by omega) (fun v79 qv79 ev79 => ?_)
                    refine x_iconst (v := (-1)) rfl ki_m1 ?_
                    refine x_iceq (tgt := 41) rfl rfl (ti_eq rfl jk_m1 ⟨fun c80 => ?_, fun c80 => ?_⟩)
                    ·
                      refine x_iconst (v := 0) rfl ki_0 ?_
                      refine x_zret rfl rfl (by decide) ?_
                      show jX m_X11_soulOn 25 0 0 15 [(0, .ref 31), (1, .int v11), (2, .int a2)] [.int 0] _ 0 0 _
                      refine x_ifne (tgt := 20) rfl rfl (ti_ne jk_0 jk_0 (bn_f (by omega) ?_))
                      refine x_iconst (v := (-1)) rfl ki_m1 ?_
                      refine x_iret rfl rfl ?_
                      show jX m_X11_order 26 0 0 44 [(0, .ref 31), (1, .int a1), (2, .int a2), (3, .int a3)] [.int (-1)] _ 0 0 _
                      refine x_istore (lsx9 := [(4, .int (-1)), (0, .ref 31), (1, .int a1), (2, .int a2), (3, .int a3)]) rfl rfl rfl ?_
                      refine x_aloadn (x := 31) rfl rfl ?_
                      refine x_iloadn (x := a1) rfl rfl ?_
                      refine x_iload (x := (-1)) rfl rfl ?_
                      refine x_iloadn (x := a2) rfl rfl ?_
                      refine x_inv (N := m_X11_isGood) (As := [.int a1, .int (-1), .int a2]) (b := 31) (st := []) (dx9 := 25) (mc := 0) (ms := 0) (host := "") 11 rfl t_X11_isGood ⟨Or.inl q_11_396, i_X11_isGood.1, i_X11_isGood.2⟩ ⟨by decide, rfl⟩ (congrArg Prod.fst (J.1.1 31 (11, 13) rfl)) rfl (by decide) rfl rfl ⟨by decide, by decide⟩ (sf_X11_isGood_r31 (jr_of jk_m1 (by omega)) (jr_of rfl (by omega)) hD J  (fun v82 h ev82 J S81 => ?_))
                      have Sm := jSm_tr rfl Sm S81
                      show jX m_X11_order 26 0 0 54 [(4, .int (-1)), (0, .ref 31), (1, .int a1), (2, .int a2), (3, .int a3)] [.int v82] _ 0 0 _
                      refine x_istore (lsx9 := [(5, .int v82), (4, .int (-1)), (0, .ref 31), (1, .int a1), (2, .int a2), (3, .int a3)]) rfl rfl rfl ?_
                      refine x_iloadn (x := a3) rfl rfl ?_
                      refine x_ifne (tgt := 71) rfl rfl (ti_ne rfl jk_0 ⟨fun c83 => ?_, fun c83 => ?_⟩)
                      ·
                        refine x_aloadn (x := 31) rfl rfl ?_
                        refine x_iloadn (x := a1) rfl rfl ?_
                        refine x_iloadn (x := a2) rfl rfl ?_
                        refine x_inv (N := m_X11_firstAppeal) (As := [.int a1, .int a2]) (b := 31) (st := []) (dx9 := 2) (mc := 0) (ms := 0) (host := "") 11 rfl t_X11_firstAppeal ⟨Or.inl q_11_399, i_X11_firstAppeal.1, i_X11_firstAppeal.2⟩ ⟨by decide, rfl⟩ (congrArg Prod.fst (J.1.1 31 (11, 13) rfl)) rfl (by decide) rfl rfl ⟨by decide, by decide⟩ (sf_X11_firstAppeal_r31 (jr_of rfl (by omega)) hD J  (fun v85 h ev85 J S84 => ?_))
                        have Sm := jSm_tr rfl Sm S84
                        show jX m_X11_order 26 0 0 77 [(5, .int v82), (4, .int (-1)), (0, .ref 31), (1, .int a1), (2, .int a2), (3, .int a3)] [.int v85] _ 0 0 _
                        refine x_istore (lsx9 := [(6, .int v85), (5, .int v82), (4, .int (-1)), (0, .ref 31), (1, .int a1), (2, .int a2), (3, .int a3)]) rfl rfl rfl ?_
                        refine x_iload (x := v82) rfl rfl ?_
                        refine x_ifne (tgt := 90) rfl rfl (ti_ne rfl jk_0 ⟨fun c86 => ?_, fun c86 => ?_⟩)
                        ·
                          exact jX.sub jsb_n (ct_X11_order_r31_90 hD hQ  h J Sm)
                        ·
                          refine x_iload (x := v85) rfl rfl ?_
                          refine x_iconst (v := (-1)) rfl ki_m1 ?_
                          refine x_icne (tgt := 92) rfl rfl (ti_ne rfl jk_m1 ⟨fun c87 => ?_, fun c87 => ?_⟩)
                          ·
                            refine x_iloadn (x := a3) rfl rfl ?_
                            refine x_iconst (v := 1) rfl ki_1 ?_
                            refine x_icne (tgt := 99) rfl rfl (ti_ne rfl jk_1 ⟨fun c88 => ?_, fun c88 => ?_⟩)
                            ·
                              refine x_aloadn (x := 31) rfl rfl ?_
                              refine z_getR (N := 13) (b := 78) 11 4 rfl f_11_41 rfl J rfl 3972 ⟨rfl, rfl⟩ rfl ?_
                              refine x_iload (x := (-1)) rfl rfl ?_
                              refine x_aloadn (x := 31) rfl rfl ?_
                              refine z_getR (N := 13) (b := 32) 11 0 rfl f_11_10 rfl J rfl 3968 ⟨rfl, rfl⟩ rfl ?_
                              refine z_getR (N := 20) (b := 33) 1 0 rfl f_11_126 rfl J rfl 4096 ⟨rfl, rfl⟩ rfl ?_
                              refine x_iloadn (x := a1) rfl rfl ?_
                              refine x_iconst (v := 1) rfl ki_1 ?_
                              refine x_inv (N := m_X8_at) (As := [.int a1, .int 1]) (b := 33) (st := [.int (-1), .ref 78]) (dx9 := 1) (mc := 0) (ms := 0) (host := "") 8 rfl t_X8_at ⟨Or.inl q_11_171, i_X8_at.1, i_X8_at.2⟩ ⟨by decide, rfl⟩ (congrArg Prod.fst (J.1.1 33 (8, 4) rfl)) rfl (by decide) rfl rfl ⟨by decide, by decide⟩ (sf_X8_at_r33_c1  hD J  (fun v90 h ev90 J S89 => ?_))
                              have Sm := jSm_tr rfl Sm S89
                              show jX m_X11_order 26 0 0 117 [(6, .int v85), (5, .int v82), (4, .int (-1)), (0, .ref 31), (1, .int a1), (2, .int a2), (3, .int a3)] [.int v90, .int (-1), .ref 78] _ 0 0 _
                              refine x_aloadn (x := 31) rfl rfl ?_
                              refine z_getR (N := 13) (b := 32) 11 0 rfl f_11_10 rfl J rfl 3968 ⟨rfl, rfl⟩ rfl ?_
                              refine z_getR (N := 20) (b := 45) 1 6 rfl f_11_402 rfl J rfl 4102 ⟨rfl, rfl⟩ rfl ?_
                              refine x_iload (x := v85) rfl rfl ?_
                              refine x_iconst (v := 1) rfl ki_1 ?_
                              refine x_inv (N := m_X8_at) (As := [.int v85, .int 1]) (b := 45) (st := [.int v90, .int (-1), .ref 78]) (dx9 := 1) (mc := 0) (ms := 0) (host := "") 8 rfl t_X8_at ⟨Or.inl q_11_171, i_X8_at.1, i_X8_at.2⟩ ⟨by decide, rfl⟩ (congrArg Prod.fst (J.1.1 45 (8, 4) rfl)) rfl (by decide) rfl rfl ⟨by decide, by decide⟩ (sf_X8_at_r45_c1 (jr_of rfl (by omega)) hD J  (fun v92 h ev92 J S91 => ?_))
                              have Sm := jSm_tr rfl Sm S91
                              show jX m_X11_order 26 0 0 130 [(6, .int v85), (5, .int v82), (4, .int (-1)), (0, .ref 31), (1, .int a1), (2, .int a2), (3, .int a3)] [.int v92, .int v90, .int (-1), .ref 78] _ 0 0 _
                              refine x_inv (N := m_X7_reliefOf) (As := [.int (-1), .int v90, .int v92]) (b := 78) (st := []) (dx9 := 1) (mc := 0) (ms := 0) (host := "") 7 rfl t_X7_reliefOf ⟨Or.inl q_11_405, i_X7_reliefOf.1, i_X7_reliefOf.2⟩ ⟨by decide, rfl⟩ (congrArg Prod.fst (J.1.1 78 (7, 16) rfl)) rfl (by decide) rfl rfl ⟨by decide, by decide⟩ (sf_X7_reliefOf_r78 (jr_of jk_m1 (by omega)) (jr_of rfl (by omega)) (jr_of rfl (by omega)) hD J  (fun v94 h J S93 => ?_))
                              have ev94 := jfull v94
                              have Sm := jSm_tr rfl Sm S93
                              show jX m_X11_order 26 0 0 133 [(6, .int v85), (5, .int v82), (4, .int (-1)), (0, .ref 31), (1, .int a1), (2, .int a2), (3, .int a3)] [.int v94] _ 0 0 _
                              refine x_iret rfl rfl ?_
                              exact hQ _ _ J Sm
                            ·
                              refine x_iconst (v := 1) rfl ki_1 ?_
                              refine x_iret rfl rfl ?_
                              exact hQ _ _ J Sm
                          ·
                            exact jX.sub jsb_n (ct_X11_order_r31_90 hD hQ  h J Sm)
                      ·
                        refine x_iload (x := v82) rfl rfl ?_
                        refine x_ifeq (tgt := 69) rfl rfl (ti_eq rfl jk_0 ⟨fun c95 => ?_, fun c95 => ?_⟩)
                        ·
                          refine x_iconst (v := 0) rfl ki_0 ?_
                          exact jX.sub jsb_n (ct_X11_order_r31_200070 hD hQ  h J Sm)
                        ·
                          refine x_iconst (v := 1) rfl ki_1 ?_
                          refine x_goto (tgt := 70) rfl rfl ?_
                          exact jX.sub jsb_n (ct_X11_order_r31_300070 hD hQ  h J Sm)
                    ·
                      refine x_iconst (v := 1) rfl ki_1 ?_
                      refine x_goto (tgt := 42) rfl rfl ?_
                      refine x_zret rfl rfl (by decide) ?_
                      show jX m_X11_soulOn 25 0 0 15 [(0, .ref 31), (1, .int v11), (2, .int a2)] [.int 1] _ 0 0 _
                      refine x_ifne (tgt := 20) rfl rfl (ti_ne jk_1 jk_0 (bn_t (by omega) ?_))
                      refine x_aloadn (x := 31) rfl rfl ?_
                      refine z_getR (N := 13) (b := 78) 11 4 rfl f_11_41 rfl J rfl 3972 ⟨rfl, rfl⟩ rfl ?_
                      refine x_iloadn (x := a2) rfl rfl ?_
                      refine x_inv (N := m_X7_asKnown) (As := [.int a2]) (b := 78) (st := []) (dx9 := 6) (mc := 0) (ms := 0) (host := "") 7 rfl t_X7_asKnown ⟨Or.inl q_11_240, i_X7_asKnown.1, i_X7_asKnown.2⟩ ⟨by decide, rfl⟩ (congrArg Prod.fst (J.1.1 78 (7, 16) rfl)) rfl (by decide) rfl rfl ⟨by decide, by decide⟩ (sf_X7_asKnown_r78 (jr_of rfl (by omega)) hD J  (fun h J S96 => ?_))
                      have Sm := jSm_tr rfl Sm S96
                      show jX m_X11_soulOn 25 0 0 28 [(0, .ref 31), (1, .int v11), (2, .int a2)] [] _ 0 0 _
                      refine x_aloadn (x := 31) rfl rfl ?_
                      refine z_getR (N := 13) (b := 78) 11 4 rfl f_11_41 rfl J rfl 3972 ⟨rfl, rfl⟩ rfl ?_
                      refine z_getR (N := 16) (b := 82) 7 10 rfl f_11_537 rfl J rfl 9994 ⟨rfl, rfl⟩ rfl ?_
                      refine x_iloadn (x := v11) rfl rfl ?_
                      refine z_iald (N := 600) rfl J rfl sg_82_0_600_1_0_1 rfl (by omega) (fun v97 qv97 ev97 => ?_)
                      refine x_iret rfl rfl ?_
                      show jX m_X11_order 26 0 0 44 [(0, .ref 31), (1, .int a1), (2, .int a2), (3, .int a3)] [.int v97] _ 0 0 _
                      refine x_istore (lsx9 := [(4, .int v97), (0, .ref 31), (1, .int a1), (2, .int a2), (3, .int a3)]) rfl rfl rfl ?_
                      refine x_aloadn (x := 31) rfl rfl ?_
                      refine x_iloadn (x := a1) rfl rfl ?_
                      refine x_iload (x := v97) rfl rfl ?_
                      refine x_iloadn (x := a2) rfl rfl ?_
                      refine x_inv (N := m_X11_isGood) (As := [.int a1, .int v97, .int a2]) (b := 31) (st := []) (dx9 := 25) (mc := 0) (ms := 0) (host := "") 11 rfl t_X11_isGood ⟨Or.inl q_11_396, i_X11_isGood.1, i_X11_isGood.2⟩ ⟨by decide, rfl⟩ (congrArg Prod.fst (J.1.1 31 (11, 13) rfl)) rfl (by decide) rfl rfl ⟨by decide, by decide⟩ (sf_X11_isGood_r31 (jr_of rfl (by omega)) (jr_of rfl (by omega)) hD J  (fun v99 h ev99 J S98 => ?_))
                      have Sm := jSm_tr rfl Sm S98
                      show jX m_X11_order 26 0 0 54 [(4, .int v97), (0, .ref 31), (1, .int a1), (2, .int a2), (3, .int a3)] [.int v99] _ 0 0 _
                      refine x_istore (lsx9 := [(5, .int v99), (4, .int v97), (0, .ref 31), (1, .int a1), (2, .int a2), (3, .int a3)]) rfl rfl rfl ?_
                      refine x_iloadn (x := a3) rfl rfl ?_
                      refine x_ifne (tgt := 71) rfl rfl (ti_ne rfl jk_0 ⟨fun c100 => ?_, fun c100 => ?_⟩)
                      ·
                        refine x_aloadn (x := 31) rfl rfl ?_
                        refine x_iloadn (x := a1) rfl rfl ?_
                        refine x_iloadn (x := a2) rfl rfl ?_
                        refine x_inv (N := m_X11_firstAppeal) (As := [.int a1, .int a2]) (b := 31) (st := []) (dx9 := 2) (mc := 0) (ms := 0) (host := "") 11 rfl t_X11_firstAppeal ⟨Or.inl q_11_399, i_X11_firstAppeal.1, i_X11_firstAppeal.2⟩ ⟨by decide, rfl⟩ (congrArg Prod.fst (J.1.1 31 (11, 13) rfl)) rfl (by decide) rfl rfl ⟨by decide, by decide⟩ (sf_X11_firstAppeal_r31 (jr_of rfl (by omega)) hD J  (fun v102 h ev102 J S101 => ?_))
                        have Sm := jSm_tr rfl Sm S101
                        show jX m_X11_order 26 0 0 77 [(5, .int v99), (4, .int v97), (0, .ref 31), (1, .int a1), (2, .int a2), (3, .int a3)] [.int v102] _ 0 0 _
                        refine x_istore (lsx9 := [(6, .int v102), (5, .int v99), (4, .int v97), (0, .ref 31), (1, .int a1), (2, .int a2), (3, .int a3)]) rfl rfl rfl ?_
                        refine x_iload (x := v99) rfl rfl ?_
                        refine x_ifne (tgt := 90) rfl rfl (ti_ne rfl jk_0 ⟨fun c103 => ?_, fun c103 => ?_⟩)
                        ·
                          exact jX.sub jsb_n (ct_X11_order_r31_90 hD hQ  h J Sm)
                        ·
                          refine x_iload (x := v102) rfl rfl ?_
                          refine x_iconst (v := (-1)) rfl ki_m1 ?_
                          refine x_icne (tgt := 92) rfl rfl (ti_ne rfl jk_m1 ⟨fun c104 => ?_, fun c104 => ?_⟩)
                          ·
                            refine x_iloadn (x := a3) rfl rfl ?_
                            refine x_iconst (v := 1) rfl ki_1 ?_
                            refine x_icne (tgt := 99) rfl rfl (ti_ne rfl jk_1 ⟨fun c105 => ?_, fun c105 => ?_⟩)
                            ·
                              refine x_aloadn (x := 31) rfl rfl ?_
                              refine z_getR (N := 13) (b := 78) 11 4 rfl f_11_41 rfl J rfl 3972 ⟨rfl, rfl⟩ rfl ?_
                              refine x_iload (x := v97) rfl rfl ?_
                              refine x_aloadn (x := 31) rfl rfl ?_
                              refine z_getR (N := 13) (b := 32) 11 0 rfl f_11_10 rfl J rfl 3968 ⟨rfl, rfl⟩ rfl ?_
                              refine z_getR (N := 20) (b := 33) 1 0 rfl f_11_126 rfl J rfl 4096 ⟨rfl, rfl⟩ rfl ?_
                              refine x_iloadn (x := a1) rfl rfl ?_
                              refine x_iconst (v := 1) rfl ki_1 ?_
                              refine x_inv (N := m_X8_at) (As := [.int a1, .int 1]) (b := 33) (st := [.int v97, .ref 78]) (dx9 := 1) (mc := 0) (ms := 0) (host := "") 8 rfl t_X8_at ⟨Or.inl q_11_171, i_X8_at.1, i_X8_at.2⟩ ⟨by decide, rfl⟩ (congrArg Prod.fst (J.1.1 33 (8, 4) rfl)) rfl (by decide) rfl rfl ⟨by decide, by decide⟩ (sf_X8_at_r33_c1  hD J  (fun v107 h ev107 J S106 => ?_))
                              have Sm := jSm_tr rfl Sm S106
                              show jX m_X11_order 26 0 0 117 [(6, .int v102), (5, .int v99), (4, .int v97), (0, .ref 31), (1, .int a1), (2, .int a2), (3, .int a3)] [.int v107, .int v97, .ref 78] _ 0 0 _
                              refine x_aloadn (x := 31) rfl rfl ?_
                              refine z_getR (N := 13) (b := 32) 11 0 rfl f_11_10 rfl J rfl 3968 ⟨rfl, rfl⟩ rfl ?_
                              refine z_getR (N := 20) (b := 45) 1 6 rfl f_11_402 rfl J rfl 4102 ⟨rfl, rfl⟩ rfl ?_
                              refine x_iload (x := v102) rfl rfl ?_
                              refine x_iconst (v := 1) rfl ki_1 ?_
                              refine x_inv (N := m_X8_at) (As := [.int v102, .int 1]) (b := 45) (st := [.int v107, .int v97, .ref 78]) (dx9 := 1) (mc := 0) (ms := 0) (host := "") 8 rfl t_X8_at ⟨Or.inl q_11_171, i_X8_at.1, i_X8_at.2⟩ ⟨by decide, rfl⟩ (congrArg Prod.fst (J.1.1 45 (8, 4) rfl)) rfl (by decide) rfl rfl ⟨by decide, by decide⟩ (sf_X8_at_r45_c1 (jr_of rfl (by omega)) hD J  (fun v109 h ev109 J S108 => ?_))
                              have Sm := jSm_tr rfl Sm S108
                              show jX m_X11_order 26 0 0 130 [(6, .int v102), (5, .int v99), (4, .int v97), (0, .ref 31), (1, .int a1), (2, .int a2), (3, .int a3)] [.int v109, .int v107, .int v97, .ref 78] _ 0 0 _
                              refine x_inv (N := m_X7_reliefOf) (As := [.int v97, .int v107, .int v109]) (b := 78) (st := []) (dx9 := 1) (mc := 0) (ms := 0) (host := "") 7 rfl t_X7_reliefOf ⟨Or.inl q_11_405, i_X7_reliefOf.1, i_X7_reliefOf.2⟩ ⟨by decide, rfl⟩ (congrArg Prod.fst (J.1.1 78 (7, 16) rfl)) rfl (by decide) rfl rfl ⟨by decide, by decide⟩ (sf_X7_reliefOf_r78 (jr_of rfl (by omega)) (jr_of rfl (by omega)) (jr_of rfl (by omega)) hD J  (fun v111 h J S110 => ?_))
                              have ev111 := jfull v111
                              have Sm := jSm_tr rfl Sm S110
                              show jX m_X11_order 26 0 0 133 [(6, .int v102), (5, .int v99), (4, .int v97), (0, .ref 31), (1, .int a1), (2, .int a2), (3, .int a3)] [.int v111] _ 0 0 _
                              refine x_iret rfl rfl ?_
                              exact hQ _ _ J Sm
                            ·
                              refine x_iconst (v := 1) rfl ki_1 ?_
                              refine x_iret rfl rfl ?_
                              exact hQ _ _ J Sm
                          ·
                            exact jX.sub jsb_n (ct_X11_order_r31_90 hD hQ  h J Sm)
                      ·
                        refine x_iload (x := v99) rfl rfl ?_
                        refine x_ifeq (tgt := 69) rfl rfl (ti_eq rfl jk_0 ⟨fun c112 => ?_, fun c112 => ?_⟩)
                        ·
                          refine x_iconst (v := 0) rfl ki_0 ?_
                          exact jX.sub jsb_n (ct_X11_order_r31_200070 hD hQ  h J Sm)
                        ·
                          refine x_iconst (v := 1) rfl ki_1 ?_
                          refine x_goto (tgt := 70) rfl rfl ?_
                          exact jX.sub jsb_n (ct_X11_order_r31_300070 hD hQ  h J Sm)
          ·
            exact jX.sub jsb_n (ct_X11_order_r31_34 hD hQ  h J Sm)
def fp_X4_owedByAll_r107 : jFp := []
set_option maxRecDepth 100000 in
set_option maxHeartbeats 4000000 in
theorem ct_X4_owedByAll_r107_4 {Dy : jH → Prop} {h0 : jH} {Q : Option Value → jH → Prop} (hD : jDk Dy) (hQ : ∀ (v : Int32) hx9, jJ jSgX Dy hx9 → jSm fp_X4_owedByAll_r107 h0 hx9 → Q (some (.int v)) hx9) : ∀ r : Nat, ∀ (l1 : Int32) (l2 : Int32) (h : jH), 40 - l2.toInt < (r : Int) → 0 ≤ l2.toInt ∧ l2.toInt ≤ 40 → jJ jSgX Dy h → jSm fp_X4_owedByAll_r107 h0 h → jX m_X4_owedByAll 2 0 0 4 [(0, .ref 107), (1, .int l1), (2, .int l2)] [] h 0 0 Q := by
  intro r
  induction r with
  | zero =>
    intro l1 l2 h hm y0   J Sm
    exfalso
    have el1 := jfull l1
    omega
  | succ r ih =>
    intro l1 l2 h hm y0   J Sm
    have el1 := jfull l1
    refine x_iloadn (x := l2) rfl rfl ?_
    refine x_aloadn (x := 107) rfl rfl ?_
    refine x_inv (N := m_X4_houses) (As := []) (b := 107) (st := [.int l2]) (dx9 := 1) (mc := 0) (ms := 0) (host := "") 4 rfl t_X4_houses ⟨Or.inl q_4_107, i_X4_houses.1, i_X4_houses.2⟩ ⟨by decide, rfl⟩ (congrArg Prod.fst (J.1.1 107 (4, 18) rfl)) rfl (by decide) rfl rfl ⟨by decide, by decide⟩ (jC.of rfl k_X4_houses rfl ?_)
    show jX m_X4_houses 1 0 0 0 [(0, .ref 107)] [] _ 0 0 _
    refine x_bipush (v := 40) rfl kb_40 ?_
    refine x_aloadn (x := 107) rfl rfl ?_
    refine z_getR (N := 18) (b := 32) 4 0 rfl f_4_59 rfl J rfl 13696 ⟨rfl, rfl⟩ rfl ?_
    refine z_getR (N := 20) (b := 49) 1 8 rfl f_4_71 rfl J rfl 4104 ⟨rfl, rfl⟩ rfl ?_
    refine z_getI (N := 4) 8 3 rfl f_4_77 rfl J rfl sg_49_3_4_1_0_1 (fun v1 qv1 ev1 => ?_)
    refine z_mmin rfl q_4_82 (by decide) rfl jk_40 rfl (fun v2 ev2 => ?_)
    refine x_iret rfl rfl ?_
    show jX m_X4_owedByAll 2 0 0 9 [(0, .ref 107), (1, .int l1), (2, .int l2)] [.int v2, .int l2] _ 0 0 _
    refine x_icge (tgt := 27) rfl rfl (ti_ge rfl rfl ⟨fun c3 => ?_, fun c3 => ?_⟩)
    ·
      refine x_iloadn (x := l1) rfl rfl ?_
      refine x_iret rfl rfl ?_
      exact hQ _ _ J Sm
    ·
      refine x_iloadn (x := l1) rfl rfl ?_
      refine x_aloadn (x := 107) rfl rfl ?_
      refine z_getR (N := 18) (b := 108) 4 3 rfl f_4_9 rfl J rfl 13699 ⟨rfl, rfl⟩ rfl ?_
      refine x_iloadn (x := l2) rfl rfl ?_
      refine z_iald0 (N := 40) rfl J rfl rfl (by omega) (fun v4 qv4 => ?_)
      have ev4 := jfull v4
      refine z_iadd0 rfl (fun v5 => ?_)
      have ev5 := jfull v5
      refine x_istoren (lsx9 := [(1, .int v5), (0, .ref 107), (2, .int l2)]) rfl rfl rfl ?_
      refine z_iinc (x := l2) (lsx9 := fun v6 => [(2, .int v6), (1, .int v5), (0, .ref 107)]) rfl rfl rfl jko_1 (by omega) rfl (fun _ => rfl) (fun v6 ev6 => ?_)
      refine x_goto (tgt := 4) rfl rfl ?_
      exact jX.sub (jsb_c rfl (jsb_c rfl (jsb_c rfl jsb_n))) (ih v5 v6 h (by omega) (jr_of rfl (by omega)) J Sm)
set_option maxRecDepth 100000 in
set_option maxHeartbeats 4000000 in
theorem sf_X4_owedByAll_r107 {Dy : jH → Prop} {h : jH} {Q : Option Value → jH → Prop} (hD : jDk Dy) (J : jJ jSgX Dy h) (hQ : ∀ (v : Int32) hx9, jJ jSgX Dy hx9 → jSm fp_X4_owedByAll_r107 h hx9 → Q (some (.int v)) hx9) : jC m_X4_owedByAll 2 0 0 [.ref 107] h Q := by
  refine jC.of rfl k_X4_owedByAll rfl ?_
  have Sm := jSm_rf fp_X4_owedByAll_r107 h
  show jX m_X4_owedByAll 2 0 0 0 [(0, .ref 107)] [] _ 0 0 _
  refine x_iconst (v := 0) rfl ki_0 ?_
  refine x_istoren (lsx9 := [(1, .int 0), (0, .ref 107)]) rfl rfl rfl ?_
  refine x_iconst (v := 0) rfl ki_0 ?_
  refine x_istoren (lsx9 := [(2, .int 0), (1, .int 0), (0, .ref 107)]) rfl rfl rfl ?_
  exact jX.sub (jsb_c rfl (jsb_c rfl (jsb_c rfl jsb_n))) (ct_X4_owedByAll_r107_4 hD hQ  41 0 0 h (by have := jk_0; omega) (jr_of jk_0 (by omega)) J Sm)
def fp_X11_owe_r31 : jFp := [(78, 13, 14), (82, 0, 600), (83, 0, 600), (84, 0, 200), (85, 0, 4), (86, 0, 3), (98, 10, 11), (98, 11, 12), (98, 12, 13), (98, 13, 14), (98, 14, 15), (98, 15, 16), (99, 0, 30), (100, 0, 30), (101, 0, 3), (102, 0, 40), (103, 0, 40), (104, 0, 40), (105, 0, 3), (106, 0, 100), (108, 0, 40), (109, 0, 40), (110, 0, 40), (111, 0, 3)]
set_option maxRecDepth 100000 in
set_option maxHeartbeats 4000000 in
theorem ct_X11_owe_r31_35 {Dy : jH → Prop} {h0 : jH} {Q : Option Value → jH → Prop} (hD : jDk Dy) (hQ : ∀ (v : Int32) hx9, jJ jSgX Dy hx9 → jSm fp_X11_owe_r31 h0 hx9 → Q (some (.int v)) hx9) : ∀ (h : jH), jJ jSgX Dy h → jSm fp_X11_owe_r31 h0 h → jX m_X11_owe 8 0 0 35 [] [] h 0 0 Q := by
  intro  h    J Sm
  refine x_iconst (v := (-1)) rfl ki_m1 ?_
  refine x_iret rfl rfl ?_
  exact hQ _ _ J Sm
set_option maxRecDepth 100000 in
set_option maxHeartbeats 4000000 in
theorem ct_X11_owe_r31_78 {Dy : jH → Prop} {h0 : jH} {Q : Option Value → jH → Prop} (hD : jDk Dy) (hQ : ∀ (v : Int32) hx9, jJ jSgX Dy hx9 → jSm fp_X11_owe_r31 h0 hx9 → Q (some (.int v)) hx9) : ∀ (s0 : Int32) (h : jH), jJ jSgX Dy h → jSm fp_X11_owe_r31 h0 h → jX m_X11_owe 8 0 0 78 [] [.int s0] h 0 0 Q := by
  intro s0 h    J Sm
  have es0 := jfull s0
  refine x_iret rfl rfl ?_
  exact hQ _ _ J Sm
set_option maxRecDepth 100000 in
set_option maxHeartbeats 4000000 in
theorem ct_X11_owe_r31_37 {Dy : jH → Prop} {h0 : jH} {Q : Option Value → jH → Prop} (hD : jDk Dy) (hQ : ∀ (v : Int32) hx9, jJ jSgX Dy hx9 → jSm fp_X11_owe_r31 h0 hx9 → Q (some (.int v)) hx9) : ∀ (l1 : Int32) (l2 : Int32) (l3 : Int32) (h : jH), (-1) ≤ l2.toInt ∧ l2.toInt ≤ 39 → 0 ≤ l3.toInt ∧ l3.toInt ≤ 146399 → jJ jSgX Dy h → jSm fp_X11_owe_r31 h0 h → jX m_X11_owe 8 0 0 37 [(0, .ref 31), (1, .int l1), (2, .int l2), (3, .int l3)] [] h 0 0 Q := by
  intro l1 l2 l3 h y0 y1   J Sm
  have el1 := jfull l1
  refine x_aloadn (x := 31) rfl rfl ?_
  refine z_getR (N := 13) (b := 78) 11 4 rfl f_11_41 rfl J rfl 3972 ⟨rfl, rfl⟩ rfl ?_
  refine x_iloadn (x := l3) rfl rfl ?_
  refine x_inv (N := m_X7_asKnown) (As := [.int l3]) (b := 78) (st := []) (dx9 := 6) (mc := 0) (ms := 0) (host := "") 7 rfl t_X7_asKnown ⟨Or.inl q_11_240, i_X7_asKnown.1, i_X7_asKnown.2⟩ ⟨by decide, rfl⟩ (congrArg Prod.fst (J.1.1 78 (7, 16) rfl)) rfl (by decide) rfl rfl ⟨by decide, by decide⟩ (sf_X7_asKnown_r78 (jr_of rfl (by omega)) hD J  (fun h J S1 => ?_))
  have Sm := jSm_tr rfl Sm S1
  show jX m_X11_owe 8 0 0 45 [(0, .ref 31), (1, .int l1), (2, .int l2), (3, .int l3)] [] _ 0 0 _
  refine x_aloadn (x := 31) rfl rfl ?_
  refine z_getR (N := 13) (b := 107) 11 8 rfl f_11_75 rfl J rfl 3976 ⟨rfl, rfl⟩ rfl ?_
  refine x_iloadn (x := l1) rfl rfl ?_
  refine x_iloadn (x := l3) rfl rfl ?_
  refine x_inv (N := m_X4_partOut) (As := [.int l1, .int l3]) (b := 107) (st := []) (dx9 := 7) (mc := 0) (ms := 0) (host := "") 4 rfl t_X4_partOut ⟨Or.inl q_11_443, i_X4_partOut.1, i_X4_partOut.2⟩ ⟨by decide, rfl⟩ (congrArg Prod.fst (J.1.1 107 (4, 18) rfl)) rfl (by decide) rfl rfl ⟨by decide, by decide⟩ (sf_X4_partOut_r107 (jr_of rfl (by omega)) hD J  (fun h J S2 => ?_))
  have Sm := jSm_tr rfl Sm S2
  show jX m_X11_owe 8 0 0 54 [(0, .ref 31), (1, .int l1), (2, .int l2), (3, .int l3)] [] _ 0 0 _
  refine x_iloadn (x := l2) rfl rfl ?_
  refine x_iconst (v := (-1)) rfl ki_m1 ?_
  refine x_icne (tgt := 69) rfl rfl (ti_ne rfl jk_m1 ⟨fun c3 => ?_, fun c3 => ?_⟩)
  ·
    refine x_aloadn (x := 31) rfl rfl ?_
    refine z_getR (N := 13) (b := 107) 11 8 rfl f_11_75 rfl J rfl 3976 ⟨rfl, rfl⟩ rfl ?_
    refine z_getR (N := 18) (b := 108) 4 3 rfl f_11_449 rfl J rfl 13699 ⟨rfl, rfl⟩ rfl ?_
    refine x_iloadn (x := l2) rfl rfl ?_
    refine z_iald0 (N := 40) rfl J rfl rfl (by omega) (fun v4 qv4 => ?_)
    have ev4 := jfull v4
    exact jX.sub jsb_n (ct_X11_owe_r31_78 hD hQ  v4 h J Sm)
  ·
    refine x_aloadn (x := 31) rfl rfl ?_
    refine z_getR (N := 13) (b := 107) 11 8 rfl f_11_75 rfl J rfl 3976 ⟨rfl, rfl⟩ rfl ?_
    refine x_inv (N := m_X4_owedByAll) (As := []) (b := 107) (st := []) (dx9 := 2) (mc := 0) (ms := 0) (host := "") 4 rfl t_X4_owedByAll ⟨Or.inl q_11_446, i_X4_owedByAll.1, i_X4_owedByAll.2⟩ ⟨by decide, rfl⟩ (congrArg Prod.fst (J.1.1 107 (4, 18) rfl)) rfl (by decide) rfl rfl ⟨by decide, by decide⟩ (sf_X4_owedByAll_r107  hD J  (fun v6 h J S5 => ?_))
    have ev6 := jfull v6
    have Sm := jSm_tr rfl Sm S5
    show jX m_X11_owe 8 0 0 66 [(0, .ref 31), (1, .int l1), (2, .int l2), (3, .int l3)] [.int v6] _ 0 0 _
    refine x_goto (tgt := 78) rfl rfl ?_
    exact jX.sub jsb_n (ct_X11_owe_r31_78 hD hQ  v6 h J Sm)
set_option maxRecDepth 100000 in
set_option maxHeartbeats 4000000 in
theorem sf_X11_owe_r31 {Dy : jH → Prop} {h : jH} {Q : Option Value → jH → Prop} {a1 : Int32} {a2 : Int32} {a3 : Int32} (hD : jDk Dy) (J : jJ jSgX Dy h) (hQ : ∀ (v : Int32) hx9, jJ jSgX Dy hx9 → jSm fp_X11_owe_r31 h hx9 → Q (some (.int v)) hx9) : jC m_X11_owe 8 0 0 [.ref 31, .int a1, .int a2, .int a3] h Q := by
  refine jC.of rfl k_X11_owe rfl ?_
  have Sm := jSm_rf fp_X11_owe_r31 h
  have ea1 := jfull a1
  have ea2 := jfull a2
  have ea3 := jfull a3
  show jX m_X11_owe 8 0 0 0 [(0, .ref 31), (1, .int a1), (2, .int a2), (3, .int a3)] [] _ 0 0 _
  refine x_iloadn (x := a3) rfl rfl ?_
  refine x_inst (N := m_X11_isDay) (As := [.int a3]) (st := []) (dx9 := 1) (mc := 0) (ms := 0) (host := "") rfl t_X11_isDay ⟨Or.inl q_11_115, s_X11_isDay⟩ rfl (by decide) rfl rfl ⟨by decide, by decide⟩ (zc_X11_isDay rfl (fun v1 ev1 => ?_))
  show jX m_X11_owe 8 0 0 4 [(0, .ref 31), (1, .int a1), (2, .int a2), (3, .int a3)] [.int v1] _ 0 0 _
  refine x_ifeq (tgt := 35) rfl rfl (ti_eq rfl jk_0 ⟨fun c2 => ?_, fun c2 => ?_⟩)
  ·
    exact jX.sub jsb_n (ct_X11_owe_r31_35 hD hQ  h J Sm)
  ·
    refine x_aloadn (x := 31) rfl rfl ?_
    refine z_getR (N := 13) (b := 32) 11 0 rfl f_11_10 rfl J rfl 3968 ⟨rfl, rfl⟩ rfl ?_
    refine z_getR (N := 20) (b := 53) 1 10 rfl f_11_437 rfl J rfl 4106 ⟨rfl, rfl⟩ rfl ?_
    refine x_iloadn (x := a1) rfl rfl ?_
    refine x_iloadn (x := a3) rfl rfl ?_
    refine x_inv (N := m_X8_isKnown) (As := [.int a1, .int a3]) (b := 53) (st := []) (dx9 := 1) (mc := 0) (ms := 0) (host := "") 8 rfl t_X8_isKnown ⟨Or.inl q_11_440, i_X8_isKnown.1, i_X8_isKnown.2⟩ ⟨by decide, rfl⟩ (congrArg Prod.fst (J.1.1 53 (8, 4) rfl)) rfl (by decide) rfl rfl ⟨by decide, by decide⟩ (sf_X8_isKnown_r53 (jr_of rfl (by omega)) hD J  (fun v4 h ev4 J S3 => ?_))
    have Sm := jSm_tr rfl Sm S3
    show jX m_X11_owe 8 0 0 19 [(0, .ref 31), (1, .int a1), (2, .int a2), (3, .int a3)] [.int v4] _ 0 0 _
    refine x_ifeq (tgt := 35) rfl rfl (ti_eq rfl jk_0 ⟨fun c5 => ?_, fun c5 => ?_⟩)
    ·
      exact jX.sub jsb_n (ct_X11_owe_r31_35 hD hQ  h J Sm)
    ·
      refine x_iloadn (x := a2) rfl rfl ?_
      refine x_iconst (v := (-1)) rfl ki_m1 ?_
      refine x_iceq (tgt := 37) rfl rfl (ti_eq rfl jk_m1 ⟨fun c6 => ?_, fun c6 => ?_⟩)
      ·
        exact jX.sub (jsb_c rfl (jsb_c rfl (jsb_c rfl (jsb_c rfl jsb_n)))) (ct_X11_owe_r31_37 hD hQ  a1 a2 a3 h (jr_of rfl (by omega)) (jr_of rfl (by omega)) J Sm)
      ·
        refine x_aloadn (x := 31) rfl rfl ?_
        refine x_iloadn (x := a2) rfl rfl ?_
        refine x_inv (N := m_X11_isHolding) (As := [.int a2]) (b := 31) (st := []) (dx9 := 7) (mc := 0) (ms := 0) (host := "") 11 rfl t_X11_isHolding ⟨Or.inl q_11_415, i_X11_isHolding.1, i_X11_isHolding.2⟩ ⟨by decide, rfl⟩ (congrArg Prod.fst (J.1.1 31 (11, 13) rfl)) rfl (by decide) rfl rfl ⟨by decide, by decide⟩ (jC.of rfl k_X11_isHolding rfl ?_)
        show jX m_X11_isHolding 7 0 0 0 [(0, .ref 31), (1, .int a2)] [] _ 0 0 _
        refine x_iloadn (x := a2) rfl rfl ?_
        refine x_iflt (tgt := 28) rfl rfl (ti_lt rfl jk_0 ⟨fun c7 => ?_, fun c7 => ?_⟩)
        ·
          refine x_iconst (v := 0) rfl ki_0 ?_
          refine x_zret rfl rfl (by decide) ?_
          show jX m_X11_owe 8 0 0 32 [(0, .ref 31), (1, .int a1), (2, .int a2), (3, .int a3)] [.int 0] _ 0 0 _
          refine x_ifne (tgt := 37) rfl rfl (ti_ne jk_0 jk_0 (bn_f (by omega) ?_))
          exact jX.sub jsb_n (ct_X11_owe_r31_35 hD hQ  h J Sm)
        ·
          refine x_iloadn (x := a2) rfl rfl ?_
          refine x_aloadn (x := 31) rfl rfl ?_
          refine z_getR (N := 13) (b := 32) 11 0 rfl f_11_10 rfl J rfl 3968 ⟨rfl, rfl⟩ rfl ?_
          refine z_getR (N := 20) (b := 49) 1 8 rfl f_11_408 rfl J rfl 4104 ⟨rfl, rfl⟩ rfl ?_
          refine z_getI (N := 4) 8 3 rfl f_11_142 rfl J rfl sg_49_3_4_1_0_1 (fun v8 qv8 ev8 => ?_)
          refine x_icge (tgt := 28) rfl rfl (ti_ge rfl rfl ⟨fun c9 => ?_, fun c9 => ?_⟩)
          ·
            refine x_iconst (v := 0) rfl ki_0 ?_
            refine x_zret rfl rfl (by decide) ?_
            show jX m_X11_owe 8 0 0 32 [(0, .ref 31), (1, .int a1), (2, .int a2), (3, .int a3)] [.int 0] _ 0 0 _
            refine x_ifne (tgt := 37) rfl rfl (ti_ne jk_0 jk_0 (bn_f (by omega) ?_))
            exact jX.sub jsb_n (ct_X11_owe_r31_35 hD hQ  h J Sm)
          ·
            refine x_iloadn (x := a2) rfl rfl ?_
            refine x_bipush (v := 40) rfl kb_40 ?_
            refine x_icge (tgt := 28) rfl rfl (ti_ge rfl jk_40 (br_f (by omega) ?_))
            refine x_iconst (v := 1) rfl ki_1 ?_
            refine x_goto (tgt := 29) rfl rfl ?_
            refine x_zret rfl rfl (by decide) ?_
            show jX m_X11_owe 8 0 0 32 [(0, .ref 31), (1, .int a1), (2, .int a2), (3, .int a3)] [.int 1] _ 0 0 _
            refine x_ifne (tgt := 37) rfl rfl (ti_ne jk_1 jk_0 (bn_t (by omega) ?_))
            exact jX.sub (jsb_c rfl (jsb_c rfl (jsb_c rfl (jsb_c rfl jsb_n)))) (ct_X11_owe_r31_37 hD hQ  a1 a2 a3 h (jr_of rfl (by omega)) (jr_of rfl (by omega)) J Sm)
def fp_X8_put_r55_c0 : jFp := [(56, 0, 500)]
set_option maxRecDepth 100000 in
set_option maxHeartbeats 4000000 in
theorem ct_X8_put_r55_c0_38 {Dy : jH → Prop} {h0 : jH} {Q : Option Value → jH → Prop} (hD : jDk Dy) (hQ : ∀ hx9, jJ jSgX Dy hx9 → jSm fp_X8_put_r55_c0 h0 hx9 → Q none hx9) : ∀ (h : jH), jJ jSgX Dy h → jSm fp_X8_put_r55_c0 h0 h → jX m_X8_put 1 0 0 38 [] [] h 0 0 Q := by
  intro  h    J Sm
  refine x_vret rfl rfl ?_
  exact hQ _ J Sm
set_option maxRecDepth 100000 in
set_option maxHeartbeats 4000000 in
theorem sf_X8_put_r55_c0 {Dy : jH → Prop} {h : jH} {Q : Option Value → jH → Prop} {a1 : Int32} {a3 : Int32} (y1 : 0 ≤ a1.toInt ∧ a1.toInt ≤ 99) (y3 : 0 ≤ a3.toInt ∧ a3.toInt ≤ 146399) (hD : jDk Dy) (J : jJ jSgX Dy h) (hQ : ∀ hx9, jJ jSgX Dy hx9 → jSm fp_X8_put_r55_c0 h hx9 → Q none hx9) : jC m_X8_put 1 0 0 [.ref 55, .int a1, .int 0, .int a3] h Q := by
  refine jC.of rfl k_X8_put rfl ?_
  have Sm := jSm_rf fp_X8_put_r55_c0 h
  show jX m_X8_put 1 0 0 0 [(0, .ref 55), (1, .int a1), (2, .int 0), (3, .int a3)] [] _ 0 0 _
  refine x_iloadn (x := a1) rfl rfl ?_
  refine x_iflt (tgt := 38) rfl rfl (ti_lt rfl jk_0 (br_f (by omega) ?_))
  refine x_iloadn (x := a1) rfl rfl ?_
  refine x_aloadn (x := 55) rfl rfl ?_
  refine z_getI (N := 4) 8 3 rfl f_8_7 rfl J rfl sg_55_3_4_1_0_1 (fun v1 qv1 ev1 => ?_)
  refine x_icge (tgt := 38) rfl rfl (ti_ge rfl rfl ⟨fun c2 => ?_, fun c2 => ?_⟩)
  ·
    exact jX.sub jsb_n (ct_X8_put_r55_c0_38 hD hQ  h J Sm)
  ·
    refine x_iloadn (x := 0) rfl rfl ?_
    refine x_iflt (tgt := 38) rfl rfl (ti_lt jk_0 jk_0 (br_f (by omega) ?_))
    refine x_iloadn (x := 0) rfl rfl ?_
    refine x_aloadn (x := 55) rfl rfl ?_
    refine z_getC (N := 4) (v := 5) 8 0 rfl f_8_19 rfl J rfl sg_55_0_1_1_0_1 jk_5 ?_
    refine x_icge (tgt := 38) rfl rfl (ti_ge jk_0 jk_5 (br_f (by omega) ?_))
    refine x_aloadn (x := 55) rfl rfl ?_
    refine z_getR (N := 4) (b := 56) 8 2 rfl f_8_25 rfl J rfl 7042 ⟨rfl, rfl⟩ rfl ?_
    refine x_iloadn (x := a1) rfl rfl ?_
    refine x_aloadn (x := 55) rfl rfl ?_
    refine z_getC (N := 4) (v := 5) 8 0 rfl f_8_19 rfl J rfl sg_55_0_1_1_0_1 jk_5 ?_
    refine z_imul rfl rfl jk_5 (by omega) (fun v3 ev3 => ?_)
    refine x_iloadn (x := 0) rfl rfl ?_
    refine z_iadd rfl rfl jk_0 (by omega) (fun v4 ev4 => ?_)
    refine x_iloadn (x := a3) rfl rfl ?_
    refine z_iast (N := 500) (l := 0) (u := 500) (w := a3.toInt) rfl hD J Sm rfl rfl rfl (by omega) rfl (wr_56 (fun q1 q2 q3 q4 => by omega) (fun q1 q2 q3 q4 => by omega) (fun q1 q2 q3 q4 => by omega) (fun q1 q2 q3 q4 => by omega) (fun q1 q2 q3 q4 => by omega)) rfl (fun h w5 J Sm => ?_)
    exact jX.sub jsb_n (ct_X8_put_r55_c0_38 hD hQ  h J Sm)
def fp_X8_put_r55_c1 : jFp := [(56, 0, 500)]
set_option maxRecDepth 100000 in
set_option maxHeartbeats 4000000 in
theorem ct_X8_put_r55_c1_38 {Dy : jH → Prop} {h0 : jH} {Q : Option Value → jH → Prop} (hD : jDk Dy) (hQ : ∀ hx9, jJ jSgX Dy hx9 → jSm fp_X8_put_r55_c1 h0 hx9 → Q none hx9) : ∀ (h : jH), jJ jSgX Dy h → jSm fp_X8_put_r55_c1 h0 h → jX m_X8_put 1 0 0 38 [] [] h 0 0 Q := by
  intro  h    J Sm
  refine x_vret rfl rfl ?_
  exact hQ _ J Sm
set_option maxRecDepth 100000 in
set_option maxHeartbeats 4000000 in
theorem sf_X8_put_r55_c1 {Dy : jH → Prop} {h : jH} {Q : Option Value → jH → Prop} {a1 : Int32} {a3 : Int32} (y1 : 0 ≤ a1.toInt ∧ a1.toInt ≤ 99) (y3 : 0 ≤ a3.toInt ∧ a3.toInt ≤ 146399) (hD : jDk Dy) (J : jJ jSgX Dy h) (hQ : ∀ hx9, jJ jSgX Dy hx9 → jSm fp_X8_put_r55_c1 h hx9 → Q none hx9) : jC m_X8_put 1 0 0 [.ref 55, .int a1, .int 1, .int a3] h Q := by
  refine jC.of rfl k_X8_put rfl ?_
  have Sm := jSm_rf fp_X8_put_r55_c1 h
  show jX m_X8_put 1 0 0 0 [(0, .ref 55), (1, .int a1), (2, .int 1), (3, .int a3)] [] _ 0 0 _
  refine x_iloadn (x := a1) rfl rfl ?_
  refine x_iflt (tgt := 38) rfl rfl (ti_lt rfl jk_0 (br_f (by omega) ?_))
  refine x_iloadn (x := a1) rfl rfl ?_
  refine x_aloadn (x := 55) rfl rfl ?_
  refine z_getI (N := 4) 8 3 rfl f_8_7 rfl J rfl sg_55_3_4_1_0_1 (fun v1 qv1 ev1 => ?_)
  refine x_icge (tgt := 38) rfl rfl (ti_ge rfl rfl ⟨fun c2 => ?_, fun c2 => ?_⟩)
  ·
    exact jX.sub jsb_n (ct_X8_put_r55_c1_38 hD hQ  h J Sm)
  ·
    refine x_iloadn (x := 1) rfl rfl ?_
    refine x_iflt (tgt := 38) rfl rfl (ti_lt jk_1 jk_0 (br_f (by omega) ?_))
    refine x_iloadn (x := 1) rfl rfl ?_
    refine x_aloadn (x := 55) rfl rfl ?_
    refine z_getC (N := 4) (v := 5) 8 0 rfl f_8_19 rfl J rfl sg_55_0_1_1_0_1 jk_5 ?_
    refine x_icge (tgt := 38) rfl rfl (ti_ge jk_1 jk_5 (br_f (by omega) ?_))
    refine x_aloadn (x := 55) rfl rfl ?_
    refine z_getR (N := 4) (b := 56) 8 2 rfl f_8_25 rfl J rfl 7042 ⟨rfl, rfl⟩ rfl ?_
    refine x_iloadn (x := a1) rfl rfl ?_
    refine x_aloadn (x := 55) rfl rfl ?_
    refine z_getC (N := 4) (v := 5) 8 0 rfl f_8_19 rfl J rfl sg_55_0_1_1_0_1 jk_5 ?_
    refine z_imul rfl rfl jk_5 (by omega) (fun v3 ev3 => ?_)
    refine x_iloadn (x := 1) rfl rfl ?_
    refine z_iadd rfl rfl jk_1 (by omega) (fun v4 ev4 => ?_)
    refine x_iloadn (x := a3) rfl rfl ?_
    refine z_iast (N := 500) (l := 0) (u := 500) (w := a3.toInt) rfl hD J Sm rfl rfl rfl (by omega) rfl (wr_56 (fun q1 q2 q3 q4 => by omega) (fun q1 q2 q3 q4 => by omega) (fun q1 q2 q3 q4 => by omega) (fun q1 q2 q3 q4 => by omega) (fun q1 q2 q3 q4 => by omega)) rfl (fun h w5 J Sm => ?_)
    exact jX.sub jsb_n (ct_X8_put_r55_c1_38 hD hQ  h J Sm)
def fp_X8_put_r55_c2 : jFp := [(56, 0, 500)]
set_option maxRecDepth 100000 in
set_option maxHeartbeats 4000000 in
theorem ct_X8_put_r55_c2_38 {Dy : jH → Prop} {h0 : jH} {Q : Option Value → jH → Prop} (hD : jDk Dy) (hQ : ∀ hx9, jJ jSgX Dy hx9 → jSm fp_X8_put_r55_c2 h0 hx9 → Q none hx9) : ∀ (h : jH), jJ jSgX Dy h → jSm fp_X8_put_r55_c2 h0 h → jX m_X8_put 1 0 0 38 [] [] h 0 0 Q := by
  intro  h    J Sm
  refine x_vret rfl rfl ?_
  exact hQ _ J Sm
set_option maxRecDepth 100000 in
set_option maxHeartbeats 4000000 in
theorem sf_X8_put_r55_c2 {Dy : jH → Prop} {h : jH} {Q : Option Value → jH → Prop} {a1 : Int32} {a3 : Int32} (y1 : 0 ≤ a1.toInt ∧ a1.toInt ≤ 99) (y3 : 0 ≤ a3.toInt ∧ a3.toInt ≤ 39) (hD : jDk Dy) (J : jJ jSgX Dy h) (hQ : ∀ hx9, jJ jSgX Dy hx9 → jSm fp_X8_put_r55_c2 h hx9 → Q none hx9) : jC m_X8_put 1 0 0 [.ref 55, .int a1, .int 2, .int a3] h Q := by
  refine jC.of rfl k_X8_put rfl ?_
  have Sm := jSm_rf fp_X8_put_r55_c2 h
  show jX m_X8_put 1 0 0 0 [(0, .ref 55), (1, .int a1), (2, .int 2), (3, .int a3)] [] _ 0 0 _
  refine x_iloadn (x := a1) rfl rfl ?_
  refine x_iflt (tgt := 38) rfl rfl (ti_lt rfl jk_0 (br_f (by omega) ?_))
  refine x_iloadn (x := a1) rfl rfl ?_
  refine x_aloadn (x := 55) rfl rfl ?_
  refine z_getI (N := 4) 8 3 rfl f_8_7 rfl J rfl sg_55_3_4_1_0_1 (fun v1 qv1 ev1 => ?_)
  refine x_icge (tgt := 38) rfl rfl (ti_ge rfl rfl ⟨fun c2 => ?_, fun c2 => ?_⟩)
  ·
    exact jX.sub jsb_n (ct_X8_put_r55_c2_38 hD hQ  h J Sm)
  ·
    refine x_iloadn (x := 2) rfl rfl ?_
    refine x_iflt (tgt := 38) rfl rfl (ti_lt jk_2 jk_0 (br_f (by omega) ?_))
    refine x_iloadn (x := 2) rfl rfl ?_
    refine x_aloadn (x := 55) rfl rfl ?_
    refine z_getC (N := 4) (v := 5) 8 0 rfl f_8_19 rfl J rfl sg_55_0_1_1_0_1 jk_5 ?_
    refine x_icge (tgt := 38) rfl rfl (ti_ge jk_2 jk_5 (br_f (by omega) ?_))
    refine x_aloadn (x := 55) rfl rfl ?_
    refine z_getR (N := 4) (b := 56) 8 2 rfl f_8_25 rfl J rfl 7042 ⟨rfl, rfl⟩ rfl ?_
    refine x_iloadn (x := a1) rfl rfl ?_
    refine x_aloadn (x := 55) rfl rfl ?_
    refine z_getC (N := 4) (v := 5) 8 0 rfl f_8_19 rfl J rfl sg_55_0_1_1_0_1 jk_5 ?_
    refine z_imul rfl rfl jk_5 (by omega) (fun v3 ev3 => ?_)
    refine x_iloadn (x := 2) rfl rfl ?_
    refine z_iadd rfl rfl jk_2 (by omega) (fun v4 ev4 => ?_)
    refine x_iloadn (x := a3) rfl rfl ?_
    refine z_iast (N := 500) (l := 0) (u := 500) (w := a3.toInt) rfl hD J Sm rfl rfl rfl (by omega) rfl (wr_56 (fun q1 q2 q3 q4 => by omega) (fun q1 q2 q3 q4 => by omega) (fun q1 q2 q3 q4 => by omega) (fun q1 q2 q3 q4 => by omega) (fun q1 q2 q3 q4 => by omega)) rfl (fun h w5 J Sm => ?_)
    exact jX.sub jsb_n (ct_X8_put_r55_c2_38 hD hQ  h J Sm)
def fp_X8_put_r55_c3 : jFp := [(56, 0, 500)]
set_option maxRecDepth 100000 in
set_option maxHeartbeats 4000000 in
theorem ct_X8_put_r55_c3_38 {Dy : jH → Prop} {h0 : jH} {Q : Option Value → jH → Prop} (hD : jDk Dy) (hQ : ∀ hx9, jJ jSgX Dy hx9 → jSm fp_X8_put_r55_c3 h0 hx9 → Q none hx9) : ∀ (h : jH), jJ jSgX Dy h → jSm fp_X8_put_r55_c3 h0 h → jX m_X8_put 1 0 0 38 [] [] h 0 0 Q := by
  intro  h    J Sm
  refine x_vret rfl rfl ?_
  exact hQ _ J Sm
set_option maxRecDepth 100000 in
set_option maxHeartbeats 4000000 in
theorem sf_X8_put_r55_c3 {Dy : jH → Prop} {h : jH} {Q : Option Value → jH → Prop} {a1 : Int32} {a3 : Int32} (y1 : 0 ≤ a1.toInt ∧ a1.toInt ≤ 99) (y3 : 0 ≤ a3.toInt ∧ a3.toInt ≤ 39) (hD : jDk Dy) (J : jJ jSgX Dy h) (hQ : ∀ hx9, jJ jSgX Dy hx9 → jSm fp_X8_put_r55_c3 h hx9 → Q none hx9) : jC m_X8_put 1 0 0 [.ref 55, .int a1, .int 3, .int a3] h Q := by
  refine jC.of rfl k_X8_put rfl ?_
  have Sm := jSm_rf fp_X8_put_r55_c3 h
  show jX m_X8_put 1 0 0 0 [(0, .ref 55), (1, .int a1), (2, .int 3), (3, .int a3)] [] _ 0 0 _
  refine x_iloadn (x := a1) rfl rfl ?_
  refine x_iflt (tgt := 38) rfl rfl (ti_lt rfl jk_0 (br_f (by omega) ?_))
  refine x_iloadn (x := a1) rfl rfl ?_
  refine x_aloadn (x := 55) rfl rfl ?_
  refine z_getI (N := 4) 8 3 rfl f_8_7 rfl J rfl sg_55_3_4_1_0_1 (fun v1 qv1 ev1 => ?_)
  refine x_icge (tgt := 38) rfl rfl (ti_ge rfl rfl ⟨fun c2 => ?_, fun c2 => ?_⟩)
  ·
    exact jX.sub jsb_n (ct_X8_put_r55_c3_38 hD hQ  h J Sm)
  ·
    refine x_iloadn (x := 3) rfl rfl ?_
    refine x_iflt (tgt := 38) rfl rfl (ti_lt jk_3 jk_0 (br_f (by omega) ?_))
    refine x_iloadn (x := 3) rfl rfl ?_
    refine x_aloadn (x := 55) rfl rfl ?_
    refine z_getC (N := 4) (v := 5) 8 0 rfl f_8_19 rfl J rfl sg_55_0_1_1_0_1 jk_5 ?_
    refine x_icge (tgt := 38) rfl rfl (ti_ge jk_3 jk_5 (br_f (by omega) ?_))
    refine x_aloadn (x := 55) rfl rfl ?_
    refine z_getR (N := 4) (b := 56) 8 2 rfl f_8_25 rfl J rfl 7042 ⟨rfl, rfl⟩ rfl ?_
    refine x_iloadn (x := a1) rfl rfl ?_
    refine x_aloadn (x := 55) rfl rfl ?_
    refine z_getC (N := 4) (v := 5) 8 0 rfl f_8_19 rfl J rfl sg_55_0_1_1_0_1 jk_5 ?_
    refine z_imul rfl rfl jk_5 (by omega) (fun v3 ev3 => ?_)
    refine x_iloadn (x := 3) rfl rfl ?_
    refine z_iadd rfl rfl jk_3 (by omega) (fun v4 ev4 => ?_)
    refine x_iloadn (x := a3) rfl rfl ?_
    refine z_iast (N := 500) (l := 0) (u := 500) (w := a3.toInt) rfl hD J Sm rfl rfl rfl (by omega) rfl (wr_56 (fun q1 q2 q3 q4 => by omega) (fun q1 q2 q3 q4 => by omega) (fun q1 q2 q3 q4 => by omega) (fun q1 q2 q3 q4 => by omega) (fun q1 q2 q3 q4 => by omega)) rfl (fun h w5 J Sm => ?_)
    exact jX.sub jsb_n (ct_X8_put_r55_c3_38 hD hQ  h J Sm)
def fp_X8_put_r55_c4 : jFp := [(56, 0, 500)]
set_option maxRecDepth 100000 in
set_option maxHeartbeats 4000000 in
theorem ct_X8_put_r55_c4_38 {Dy : jH → Prop} {h0 : jH} {Q : Option Value → jH → Prop} (hD : jDk Dy) (hQ : ∀ hx9, jJ jSgX Dy hx9 → jSm fp_X8_put_r55_c4 h0 hx9 → Q none hx9) : ∀ (h : jH), jJ jSgX Dy h → jSm fp_X8_put_r55_c4 h0 h → jX m_X8_put 1 0 0 38 [] [] h 0 0 Q := by
  intro  h    J Sm
  refine x_vret rfl rfl ?_
  exact hQ _ J Sm
set_option maxRecDepth 100000 in
set_option maxHeartbeats 4000000 in
theorem sf_X8_put_r55_c4 {Dy : jH → Prop} {h : jH} {Q : Option Value → jH → Prop} {a1 : Int32} {a3 : Int32} (y1 : 0 ≤ a1.toInt ∧ a1.toInt ≤ 99) (y3 : 1 ≤ a3.toInt ∧ a3.toInt ≤ 1000000) (hD : jDk Dy) (J : jJ jSgX Dy h) (hQ : ∀ hx9, jJ jSgX Dy hx9 → jSm fp_X8_put_r55_c4 h hx9 → Q none hx9) : jC m_X8_put 1 0 0 [.ref 55, .int a1, .int 4, .int a3] h Q := by
  refine jC.of rfl k_X8_put rfl ?_
  have Sm := jSm_rf fp_X8_put_r55_c4 h
  show jX m_X8_put 1 0 0 0 [(0, .ref 55), (1, .int a1), (2, .int 4), (3, .int a3)] [] _ 0 0 _
  refine x_iloadn (x := a1) rfl rfl ?_
  refine x_iflt (tgt := 38) rfl rfl (ti_lt rfl jk_0 (br_f (by omega) ?_))
  refine x_iloadn (x := a1) rfl rfl ?_
  refine x_aloadn (x := 55) rfl rfl ?_
  refine z_getI (N := 4) 8 3 rfl f_8_7 rfl J rfl sg_55_3_4_1_0_1 (fun v1 qv1 ev1 => ?_)
  refine x_icge (tgt := 38) rfl rfl (ti_ge rfl rfl ⟨fun c2 => ?_, fun c2 => ?_⟩)
  ·
    exact jX.sub jsb_n (ct_X8_put_r55_c4_38 hD hQ  h J Sm)
  ·
    refine x_iloadn (x := 4) rfl rfl ?_
    refine x_iflt (tgt := 38) rfl rfl (ti_lt jk_4 jk_0 (br_f (by omega) ?_))
    refine x_iloadn (x := 4) rfl rfl ?_
    refine x_aloadn (x := 55) rfl rfl ?_
    refine z_getC (N := 4) (v := 5) 8 0 rfl f_8_19 rfl J rfl sg_55_0_1_1_0_1 jk_5 ?_
    refine x_icge (tgt := 38) rfl rfl (ti_ge jk_4 jk_5 (br_f (by omega) ?_))
    refine x_aloadn (x := 55) rfl rfl ?_
    refine z_getR (N := 4) (b := 56) 8 2 rfl f_8_25 rfl J rfl 7042 ⟨rfl, rfl⟩ rfl ?_
    refine x_iloadn (x := a1) rfl rfl ?_
    refine x_aloadn (x := 55) rfl rfl ?_
    refine z_getC (N := 4) (v := 5) 8 0 rfl f_8_19 rfl J rfl sg_55_0_1_1_0_1 jk_5 ?_
    refine z_imul rfl rfl jk_5 (by omega) (fun v3 ev3 => ?_)
    refine x_iloadn (x := 4) rfl rfl ?_
    refine z_iadd rfl rfl jk_4 (by omega) (fun v4 ev4 => ?_)
    refine x_iloadn (x := a3) rfl rfl ?_
    refine z_iast (N := 500) (l := 0) (u := 500) (w := a3.toInt) rfl hD J Sm rfl rfl rfl (by omega) rfl (wr_56 (fun q1 q2 q3 q4 => by omega) (fun q1 q2 q3 q4 => by omega) (fun q1 q2 q3 q4 => by omega) (fun q1 q2 q3 q4 => by omega) (fun q1 q2 q3 q4 => by omega)) rfl (fun h w5 J Sm => ?_)
    exact jX.sub jsb_n (ct_X8_put_r55_c4_38 hD hQ  h J Sm)
def fp_X8_put_r55_c5 : jFp := []
set_option maxRecDepth 100000 in
set_option maxHeartbeats 4000000 in
theorem ct_X8_put_r55_c5_38 {Dy : jH → Prop} {h0 : jH} {Q : Option Value → jH → Prop} (hD : jDk Dy) (hQ : ∀ hx9, jJ jSgX Dy hx9 → jSm fp_X8_put_r55_c5 h0 hx9 → Q none hx9) : ∀ (h : jH), jJ jSgX Dy h → jSm fp_X8_put_r55_c5 h0 h → jX m_X8_put 1 0 0 38 [] [] h 0 0 Q := by
  intro  h    J Sm
  refine x_vret rfl rfl ?_
  exact hQ _ J Sm
set_option maxRecDepth 100000 in
set_option maxHeartbeats 4000000 in
theorem sf_X8_put_r55_c5 {Dy : jH → Prop} {h : jH} {Q : Option Value → jH → Prop} {a1 : Int32} {a3 : Int32} (y1 : 0 ≤ a1.toInt ∧ a1.toInt ≤ 99) (y3 : 0 ≤ a3.toInt ∧ a3.toInt ≤ 0) (hD : jDk Dy) (J : jJ jSgX Dy h) (hQ : ∀ hx9, jJ jSgX Dy hx9 → jSm fp_X8_put_r55_c5 h hx9 → Q none hx9) : jC m_X8_put 1 0 0 [.ref 55, .int a1, .int 5, .int a3] h Q := by
  refine jC.of rfl k_X8_put rfl ?_
  have Sm := jSm_rf fp_X8_put_r55_c5 h
  show jX m_X8_put 1 0 0 0 [(0, .ref 55), (1, .int a1), (2, .int 5), (3, .int a3)] [] _ 0 0 _
  refine x_iloadn (x := a1) rfl rfl ?_
  refine x_iflt (tgt := 38) rfl rfl (ti_lt rfl jk_0 (br_f (by omega) ?_))
  refine x_iloadn (x := a1) rfl rfl ?_
  refine x_aloadn (x := 55) rfl rfl ?_
  refine z_getI (N := 4) 8 3 rfl f_8_7 rfl J rfl sg_55_3_4_1_0_1 (fun v1 qv1 ev1 => ?_)
  refine x_icge (tgt := 38) rfl rfl (ti_ge rfl rfl ⟨fun c2 => ?_, fun c2 => ?_⟩)
  ·
    exact jX.sub jsb_n (ct_X8_put_r55_c5_38 hD hQ  h J Sm)
  ·
    refine x_iloadn (x := 5) rfl rfl ?_
    refine x_iflt (tgt := 38) rfl rfl (ti_lt jk_5 jk_0 (br_f (by omega) ?_))
    refine x_iloadn (x := 5) rfl rfl ?_
    refine x_aloadn (x := 55) rfl rfl ?_
    refine z_getC (N := 4) (v := 5) 8 0 rfl f_8_19 rfl J rfl sg_55_0_1_1_0_1 jk_5 ?_
    refine x_icge (tgt := 38) rfl rfl (ti_ge jk_5 jk_5 (br_t (by omega) ?_))
    exact jX.sub jsb_n (ct_X8_put_r55_c5_38 hD hQ  h J Sm)
def fp_X8_add_r55 : jFp := [(55, 3, 4), (56, 0, 500)]
set_option maxRecDepth 100000 in
set_option maxHeartbeats 4000000 in
theorem sf_X8_add_r55 {Dy : jH → Prop} {h : jH} {Q : Option Value → jH → Prop} {a1 : Int32} {a2 : Int32} {a3 : Int32} {a4 : Int32} {a5 : Int32} {a6 : Int32} (y1 : 0 ≤ a1.toInt ∧ a1.toInt ≤ 146399) (y2 : 0 ≤ a2.toInt ∧ a2.toInt ≤ 146399) (y3 : 0 ≤ a3.toInt ∧ a3.toInt ≤ 39) (y4 : 0 ≤ a4.toInt ∧ a4.toInt ≤ 39) (y5 : 1 ≤ a5.toInt ∧ a5.toInt ≤ 1000000) (y6 : 0 ≤ a6.toInt ∧ a6.toInt ≤ 0) (hD : jDk Dy) (J : jJ jSgX Dy h) (hQ : ∀ hx9, jJ jSgX Dy hx9 → jSm fp_X8_add_r55 h hx9 → Q none hx9) : jC m_X8_add 2 0 0 [.ref 55, .int a1, .int a2, .int a3, .int a4, .int a5, .int a6] h Q := by
  refine jC.of rfl k_X8_add rfl ?_
  have Sm := jSm_rf fp_X8_add_r55 h
  show jX m_X8_add 2 0 0 0 [(0, .ref 55), (1, .int a1), (2, .int a2), (3, .int a3), (4, .int a4), (5, .int a5), (6, .int a6)] [] _ 0 0 _
  refine x_aloadn (x := 55) rfl rfl ?_
  refine z_getI (N := 4) 8 3 rfl f_8_7 rfl J rfl sg_55_3_4_1_0_1 (fun v1 qv1 ev1 => ?_)
  refine x_aloadn (x := 55) rfl rfl ?_
  refine z_getC (N := 4) (v := 100) 8 1 rfl f_8_22 rfl J rfl sg_55_1_2_1_0_1 jk_100 ?_
  refine x_iclt (tgt := 12) rfl rfl (ti_lt rfl jk_100 ⟨fun c2 => ?_, fun c2 => ?_⟩)
  ·
    refine x_aloadn (x := 55) rfl rfl ?_
    refine z_getM (N := 4) (v := v1) 8 3 rfl f_8_7 rfl J rfl qv1 ?_
    refine x_istore (lsx9 := [(7, .int v1), (0, .ref 55), (1, .int a1), (2, .int a2), (3, .int a3), (4, .int a4), (5, .int a5), (6, .int a6)]) rfl rfl rfl ?_
    refine x_aloadn (x := 55) rfl rfl ?_
    refine x_iload (x := v1) rfl rfl ?_
    refine x_iconst (v := 1) rfl ki_1 ?_
    refine z_iadd rfl rfl jk_1 (by omega) (fun v3 ev3 => ?_)
    refine z_putI (N := 4) (w := v3.toInt) 8 3 rfl f_8_7 rfl (jfin_no TX8 RX8 4 rfl rfl) hD J Sm rfl rfl rfl (pw_55_3 (by omega)) rfl (fun h w4 J Sm => ?_)
    refine x_aloadn (x := 55) rfl rfl ?_
    refine x_iload (x := v1) rfl rfl ?_
    refine x_iconst (v := 0) rfl ki_0 ?_
    refine x_iloadn (x := a1) rfl rfl ?_
    refine x_inv (N := m_X8_put) (As := [.int v1, .int 0, .int a1]) (b := 55) (st := []) (dx9 := 1) (mc := 0) (ms := 0) (host := "") 8 rfl t_X8_put ⟨Or.inl q_8_29, i_X8_put.1, i_X8_put.2⟩ ⟨by decide, rfl⟩ (congrArg Prod.fst (J.1.1 55 (8, 4) rfl)) rfl (by decide) rfl rfl ⟨by decide, by decide⟩ (sf_X8_put_r55_c0 (jr_of rfl (by omega)) (jr_of rfl (by omega)) hD J  (fun h J S5 => ?_))
    have Sm := jSm_tr rfl Sm S5
    show jX m_X8_add 2 0 0 34 [(7, .int v1), (0, .ref 55), (1, .int a1), (2, .int a2), (3, .int a3), (4, .int a4), (5, .int a5), (6, .int a6)] [] _ 0 0 _
    refine x_aloadn (x := 55) rfl rfl ?_
    refine x_iload (x := v1) rfl rfl ?_
    refine x_iconst (v := 1) rfl ki_1 ?_
    refine x_iloadn (x := a2) rfl rfl ?_
    refine x_inv (N := m_X8_put) (As := [.int v1, .int 1, .int a2]) (b := 55) (st := []) (dx9 := 1) (mc := 0) (ms := 0) (host := "") 8 rfl t_X8_put ⟨Or.inl q_8_29, i_X8_put.1, i_X8_put.2⟩ ⟨by decide, rfl⟩ (congrArg Prod.fst (J.1.1 55 (8, 4) rfl)) rfl (by decide) rfl rfl ⟨by decide, by decide⟩ (sf_X8_put_r55_c1 (jr_of rfl (by omega)) (jr_of rfl (by omega)) hD J  (fun h J S6 => ?_))
    have Sm := jSm_tr rfl Sm S6
    show jX m_X8_add 2 0 0 42 [(7, .int v1), (0, .ref 55), (1, .int a1), (2, .int a2), (3, .int a3), (4, .int a4), (5, .int a5), (6, .int a6)] [] _ 0 0 _
    refine x_aloadn (x := 55) rfl rfl ?_
    refine x_iload (x := v1) rfl rfl ?_
    refine x_iconst (v := 2) rfl ki_2 ?_
    refine x_iloadn (x := a3) rfl rfl ?_
    refine x_inv (N := m_X8_put) (As := [.int v1, .int 2, .int a3]) (b := 55) (st := []) (dx9 := 1) (mc := 0) (ms := 0) (host := "") 8 rfl t_X8_put ⟨Or.inl q_8_29, i_X8_put.1, i_X8_put.2⟩ ⟨by decide, rfl⟩ (congrArg Prod.fst (J.1.1 55 (8, 4) rfl)) rfl (by decide) rfl rfl ⟨by decide, by decide⟩ (sf_X8_put_r55_c2 (jr_of rfl (by omega)) (jr_of rfl (by omega)) hD J  (fun h J S7 => ?_))
    have Sm := jSm_tr rfl Sm S7
    show jX m_X8_add 2 0 0 50 [(7, .int v1), (0, .ref 55), (1, .int a1), (2, .int a2), (3, .int a3), (4, .int a4), (5, .int a5), (6, .int a6)] [] _ 0 0 _
    refine x_aloadn (x := 55) rfl rfl ?_
    refine x_iload (x := v1) rfl rfl ?_
    refine x_iconst (v := 3) rfl ki_3 ?_
    refine x_iload (x := a4) rfl rfl ?_
    refine x_inv (N := m_X8_put) (As := [.int v1, .int 3, .int a4]) (b := 55) (st := []) (dx9 := 1) (mc := 0) (ms := 0) (host := "") 8 rfl t_X8_put ⟨Or.inl q_8_29, i_X8_put.1, i_X8_put.2⟩ ⟨by decide, rfl⟩ (congrArg Prod.fst (J.1.1 55 (8, 4) rfl)) rfl (by decide) rfl rfl ⟨by decide, by decide⟩ (sf_X8_put_r55_c3 (jr_of rfl (by omega)) (jr_of rfl (by omega)) hD J  (fun h J S8 => ?_))
    have Sm := jSm_tr rfl Sm S8
    show jX m_X8_add 2 0 0 59 [(7, .int v1), (0, .ref 55), (1, .int a1), (2, .int a2), (3, .int a3), (4, .int a4), (5, .int a5), (6, .int a6)] [] _ 0 0 _
    refine x_aloadn (x := 55) rfl rfl ?_
    refine x_iload (x := v1) rfl rfl ?_
    refine x_iconst (v := 4) rfl ki_4 ?_
    refine x_iload (x := a5) rfl rfl ?_
    refine x_inv (N := m_X8_put) (As := [.int v1, .int 4, .int a5]) (b := 55) (st := []) (dx9 := 1) (mc := 0) (ms := 0) (host := "") 8 rfl t_X8_put ⟨Or.inl q_8_29, i_X8_put.1, i_X8_put.2⟩ ⟨by decide, rfl⟩ (congrArg Prod.fst (J.1.1 55 (8, 4) rfl)) rfl (by decide) rfl rfl ⟨by decide, by decide⟩ (sf_X8_put_r55_c4 (jr_of rfl (by omega)) (jr_of rfl (by omega)) hD J  (fun h J S9 => ?_))
    have Sm := jSm_tr rfl Sm S9
    show jX m_X8_add 2 0 0 68 [(7, .int v1), (0, .ref 55), (1, .int a1), (2, .int a2), (3, .int a3), (4, .int a4), (5, .int a5), (6, .int a6)] [] _ 0 0 _
    refine x_aloadn (x := 55) rfl rfl ?_
    refine x_iload (x := v1) rfl rfl ?_
    refine x_iconst (v := 5) rfl ki_5 ?_
    refine x_iload (x := a6) rfl rfl ?_
    refine x_inv (N := m_X8_put) (As := [.int v1, .int 5, .int a6]) (b := 55) (st := []) (dx9 := 1) (mc := 0) (ms := 0) (host := "") 8 rfl t_X8_put ⟨Or.inl q_8_29, i_X8_put.1, i_X8_put.2⟩ ⟨by decide, rfl⟩ (congrArg Prod.fst (J.1.1 55 (8, 4) rfl)) rfl (by decide) rfl rfl ⟨by decide, by decide⟩ (sf_X8_put_r55_c5 (jr_of rfl (by omega)) (jr_of rfl (by omega)) hD J  (fun h J S10 => ?_))
    have Sm := jSm_tr rfl Sm S10
    show jX m_X8_add 2 0 0 77 [(7, .int v1), (0, .ref 55), (1, .int a1), (2, .int a2), (3, .int a3), (4, .int a4), (5, .int a5), (6, .int a6)] [] _ 0 0 _
    refine x_vret rfl rfl ?_
    exact hQ _ J Sm
  ·
    refine x_vret rfl rfl ?_
    exact hQ _ J Sm
def fp_X8_isFull_r55 : jFp := []
set_option maxRecDepth 100000 in
set_option maxHeartbeats 4000000 in
theorem ct_X8_isFull_r55_200016 {Dy : jH → Prop} {h0 : jH} {Q : Option Value → jH → Prop} (hD : jDk Dy) (hQ : ∀ (v : Int32) hx9, 0 ≤ v.toInt ∧ v.toInt ≤ 1 → jJ jSgX Dy hx9 → jSm fp_X8_isFull_r55 h0 hx9 → Q (some (.int v)) hx9) : ∀ (h : jH), jJ jSgX Dy h → jSm fp_X8_isFull_r55 h0 h → jX m_X8_isFull 1 0 0 16 [] [.int 0] h 0 0 Q := by
  intro  h    J Sm
  refine x_zret rfl rfl (by decide) ?_
  exact hQ _ _ (jr_of jk_0 (by omega)) J Sm
set_option maxRecDepth 100000 in
set_option maxHeartbeats 4000000 in
theorem ct_X8_isFull_r55_300016 {Dy : jH → Prop} {h0 : jH} {Q : Option Value → jH → Prop} (hD : jDk Dy) (hQ : ∀ (v : Int32) hx9, 0 ≤ v.toInt ∧ v.toInt ≤ 1 → jJ jSgX Dy hx9 → jSm fp_X8_isFull_r55 h0 hx9 → Q (some (.int v)) hx9) : ∀ (h : jH), jJ jSgX Dy h → jSm fp_X8_isFull_r55 h0 h → jX m_X8_isFull 1 0 0 16 [] [.int 1] h 0 0 Q := by
  intro  h    J Sm
  refine x_zret rfl rfl (by decide) ?_
  exact hQ _ _ (jr_of jk_1 (by omega)) J Sm
set_option maxRecDepth 100000 in
set_option maxHeartbeats 4000000 in
theorem sf_X8_isFull_r55 {Dy : jH → Prop} {h : jH} {Q : Option Value → jH → Prop} (hD : jDk Dy) (J : jJ jSgX Dy h) (hQ : ∀ (v : Int32) hx9, 0 ≤ v.toInt ∧ v.toInt ≤ 1 → jJ jSgX Dy hx9 → jSm fp_X8_isFull_r55 h hx9 → Q (some (.int v)) hx9) : jC m_X8_isFull 1 0 0 [.ref 55] h Q := by
  refine jC.of rfl k_X8_isFull rfl ?_
  have Sm := jSm_rf fp_X8_isFull_r55 h
  show jX m_X8_isFull 1 0 0 0 [(0, .ref 55)] [] _ 0 0 _
  refine x_aloadn (x := 55) rfl rfl ?_
  refine z_getI (N := 4) 8 3 rfl f_8_7 rfl J rfl sg_55_3_4_1_0_1 (fun v1 qv1 ev1 => ?_)
  refine x_aloadn (x := 55) rfl rfl ?_
  refine z_getC (N := 4) (v := 100) 8 1 rfl f_8_22 rfl J rfl sg_55_1_2_1_0_1 jk_100 ?_
  refine x_iclt (tgt := 15) rfl rfl (ti_lt rfl jk_100 ⟨fun c2 => ?_, fun c2 => ?_⟩)
  ·
    refine x_iconst (v := 0) rfl ki_0 ?_
    exact jX.sub jsb_n (ct_X8_isFull_r55_200016 hD hQ  h J Sm)
  ·
    refine x_iconst (v := 1) rfl ki_1 ?_
    refine x_goto (tgt := 16) rfl rfl ?_
    exact jX.sub jsb_n (ct_X8_isFull_r55_300016 hD hQ  h J Sm)
def fp_X11_pay_r31 : jFp := [(31, 12, 13), (32, 19, 20), (55, 3, 4), (56, 0, 500)]
set_option maxRecDepth 100000 in
set_option maxHeartbeats 4000000 in
theorem ct_X11_pay_r31_27 {Dy : jH → Prop} {h0 : jH} {Q : Option Value → jH → Prop} (hD : jDk Dy) (hQ : ∀ (v : Int32) hx9, (-366) ≤ v.toInt ∧ v.toInt ≤ 100 → jJ jSgX Dy hx9 → jSm fp_X11_pay_r31 h0 hx9 → Q (some (.int v)) hx9) : ∀ (h : jH), jJ jSgX Dy h → jSm fp_X11_pay_r31 h0 h → jX m_X11_pay 3 0 0 27 [(0, .ref 31)] [] h 0 0 Q := by
  intro  h    J Sm
  refine x_aloadn (x := 31) rfl rfl ?_
  refine x_iconst (v := (-1)) rfl ki_m1 ?_
  refine x_inv (N := m_X11_refuse) (As := [.int (-1)]) (b := 31) (st := []) (dx9 := 2) (mc := 0) (ms := 0) (host := "") 11 rfl t_X11_refuse ⟨Or.inl q_11_206, i_X11_refuse.1, i_X11_refuse.2⟩ ⟨by decide, rfl⟩ (congrArg Prod.fst (J.1.1 31 (11, 13) rfl)) rfl (by decide) rfl rfl ⟨by decide, by decide⟩ (jC.of rfl k_X11_refuse rfl ?_)
  show jX m_X11_refuse 2 0 0 0 [(0, .ref 31), (1, .int (-1))] [] _ 0 0 _
  refine x_aloadn (x := 31) rfl rfl ?_
  refine x_iloadn (x := (-1)) rfl rfl ?_
  refine z_putI (N := 13) (w := (-1)) 11 12 rfl f_11_94 rfl (jfin_no TX11 RX11 13 rfl rfl) hD J Sm rfl rfl jk_m1 (pw_31_12 (by omega)) rfl (fun h w1 J Sm => ?_)
  refine x_iloadn (x := (-1)) rfl rfl ?_
  refine x_iret rfl rfl ?_
  show jX m_X11_pay 3 0 0 32 [(0, .ref 31)] [.int (-1)] _ 0 0 _
  refine x_iret rfl rfl ?_
  exact hQ _ _ (jr_of jk_m1 (by omega)) J Sm
set_option maxRecDepth 100000 in
set_option maxHeartbeats 4000000 in
theorem ct_X11_pay_r31_59 {Dy : jH → Prop} {h0 : jH} {Q : Option Value → jH → Prop} (hD : jDk Dy) (hQ : ∀ (v : Int32) hx9, (-366) ≤ v.toInt ∧ v.toInt ≤ 100 → jJ jSgX Dy hx9 → jSm fp_X11_pay_r31 h0 hx9 → Q (some (.int v)) hx9) : ∀ (h : jH), jJ jSgX Dy h → jSm fp_X11_pay_r31 h0 h → jX m_X11_pay 3 0 0 59 [(0, .ref 31)] [] h 0 0 Q := by
  intro  h    J Sm
  refine x_aloadn (x := 31) rfl rfl ?_
  refine x_bipush (v := (-2)) rfl kb_m2 ?_
  refine x_inv (N := m_X11_refuse) (As := [.int (-2)]) (b := 31) (st := []) (dx9 := 2) (mc := 0) (ms := 0) (host := "") 11 rfl t_X11_refuse ⟨Or.inl q_11_206, i_X11_refuse.1, i_X11_refuse.2⟩ ⟨by decide, rfl⟩ (congrArg Prod.fst (J.1.1 31 (11, 13) rfl)) rfl (by decide) rfl rfl ⟨by decide, by decide⟩ (jC.of rfl k_X11_refuse rfl ?_)
  show jX m_X11_refuse 2 0 0 0 [(0, .ref 31), (1, .int (-2))] [] _ 0 0 _
  refine x_aloadn (x := 31) rfl rfl ?_
  refine x_iloadn (x := (-2)) rfl rfl ?_
  refine z_putI (N := 13) (w := (-2)) 11 12 rfl f_11_94 rfl (jfin_no TX11 RX11 13 rfl rfl) hD J Sm rfl rfl jk_m2 (pw_31_12 (by omega)) rfl (fun h w1 J Sm => ?_)
  refine x_iloadn (x := (-2)) rfl rfl ?_
  refine x_iret rfl rfl ?_
  show jX m_X11_pay 3 0 0 65 [(0, .ref 31)] [.int (-2)] _ 0 0 _
  refine x_iret rfl rfl ?_
  exact hQ _ _ (jr_of jk_m2 (by omega)) J Sm
set_option maxRecDepth 100000 in
set_option maxHeartbeats 4000000 in
theorem sf_X11_pay_r31 {Dy : jH → Prop} {h : jH} {Q : Option Value → jH → Prop} {a1 : Int32} {a2 : Int32} {a3 : Int32} {a4 : Int32} {a5 : Int32} (hD : jDk Dy) (J : jJ jSgX Dy h) (hQ : ∀ (v : Int32) hx9, (-366) ≤ v.toInt ∧ v.toInt ≤ 100 → jJ jSgX Dy hx9 → jSm fp_X11_pay_r31 h hx9 → Q (some (.int v)) hx9) : jC m_X11_pay 3 0 0 [.ref 31, .int a1, .int a2, .int a3, .int a4, .int a5] h Q := by
  refine jC.of rfl k_X11_pay rfl ?_
  have Sm := jSm_rf fp_X11_pay_r31 h
  have ea1 := jfull a1
  have ea2 := jfull a2
  have ea3 := jfull a3
  have ea4 := jfull a4
  have ea5 := jfull a5
  show jX m_X11_pay 3 0 0 0 [(0, .ref 31), (1, .int a1), (2, .int a2), (3, .int a3), (4, .int a4), (5, .int a5)] [] _ 0 0 _
  refine x_iloadn (x := a3) rfl rfl ?_
  refine x_iconst (v := 1) rfl ki_1 ?_
  refine x_ldcw (v := 1000000) rfl z_11_436 ?_
  refine x_inst (N := m_X11_isWithin) (As := [.int a3, .int 1, .int 1000000]) (st := []) (dx9 := 1) (mc := 0) (ms := 0) (host := "") rfl t_X11_isWithin ⟨Or.inl q_11_202, s_X11_isWithin⟩ rfl (by decide) rfl rfl ⟨by decide, by decide⟩ (zc_X11_isWithin rfl jk_1 jk_1000000 (fun v1 ev1 => ?_))
  show jX m_X11_pay 3 0 0 8 [(0, .ref 31), (1, .int a1), (2, .int a2), (3, .int a3), (4, .int a4), (5, .int a5)] [.int v1] _ 0 0 _
  refine x_ifeq (tgt := 27) rfl rfl (ti_eq rfl jk_0 ⟨fun c2 => ?_, fun c2 => ?_⟩)
  ·
    exact jX.sub (jsb_c rfl jsb_n) (ct_X11_pay_r31_27 hD hQ  h J Sm)
  ·
    refine x_iload (x := a4) rfl rfl ?_
    refine x_inst (N := m_X11_isDay) (As := [.int a4]) (st := []) (dx9 := 1) (mc := 0) (ms := 0) (host := "") rfl t_X11_isDay ⟨Or.inl q_11_115, s_X11_isDay⟩ rfl (by decide) rfl rfl ⟨by decide, by decide⟩ (zc_X11_isDay rfl (fun v3 ev3 => ?_))
    show jX m_X11_pay 3 0 0 16 [(0, .ref 31), (1, .int a1), (2, .int a2), (3, .int a3), (4, .int a4), (5, .int a5)] [.int v3] _ 0 0 _
    refine x_ifeq (tgt := 27) rfl rfl (ti_eq rfl jk_0 ⟨fun c4 => ?_, fun c4 => ?_⟩)
    ·
      exact jX.sub (jsb_c rfl jsb_n) (ct_X11_pay_r31_27 hD hQ  h J Sm)
    ·
      refine x_iload (x := a5) rfl rfl ?_
      refine x_inst (N := m_X11_isDay) (As := [.int a5]) (st := []) (dx9 := 1) (mc := 0) (ms := 0) (host := "") rfl t_X11_isDay ⟨Or.inl q_11_115, s_X11_isDay⟩ rfl (by decide) rfl rfl ⟨by decide, by decide⟩ (zc_X11_isDay rfl (fun v5 ev5 => ?_))
      show jX m_X11_pay 3 0 0 24 [(0, .ref 31), (1, .int a1), (2, .int a2), (3, .int a3), (4, .int a4), (5, .int a5)] [.int v5] _ 0 0 _
      refine x_ifne (tgt := 33) rfl rfl (ti_ne rfl jk_0 ⟨fun c6 => ?_, fun c6 => ?_⟩)
      ·
        refine x_iloadn (x := a1) rfl rfl ?_
        refine x_iflt (tgt := 59) rfl rfl (ti_lt rfl jk_0 ⟨fun c7 => ?_, fun c7 => ?_⟩)
        ·
          exact jX.sub (jsb_c rfl jsb_n) (ct_X11_pay_r31_59 hD hQ  h J Sm)
        ·
          refine x_iloadn (x := a1) rfl rfl ?_
          refine x_aloadn (x := 31) rfl rfl ?_
          refine z_getR (N := 13) (b := 32) 11 0 rfl f_11_10 rfl J rfl 3968 ⟨rfl, rfl⟩ rfl ?_
          refine z_getR (N := 20) (b := 53) 1 10 rfl f_11_437 rfl J rfl 4106 ⟨rfl, rfl⟩ rfl ?_
          refine z_getI (N := 4) 8 3 rfl f_11_142 rfl J rfl sg_53_3_4_1_0_1 (fun v8 qv8 ev8 => ?_)
          refine x_icge (tgt := 59) rfl rfl (ti_ge rfl rfl ⟨fun c9 => ?_, fun c9 => ?_⟩)
          ·
            exact jX.sub (jsb_c rfl jsb_n) (ct_X11_pay_r31_59 hD hQ  h J Sm)
          ·
            refine x_aloadn (x := 31) rfl rfl ?_
            refine x_iloadn (x := a2) rfl rfl ?_
            refine x_inv (N := m_X11_isHolding) (As := [.int a2]) (b := 31) (st := []) (dx9 := 2) (mc := 0) (ms := 0) (host := "") 11 rfl t_X11_isHolding ⟨Or.inl q_11_415, i_X11_isHolding.1, i_X11_isHolding.2⟩ ⟨by decide, rfl⟩ (congrArg Prod.fst (J.1.1 31 (11, 13) rfl)) rfl (by decide) rfl rfl ⟨by decide, by decide⟩ (jC.of rfl k_X11_isHolding rfl ?_)
            show jX m_X11_isHolding 2 0 0 0 [(0, .ref 31), (1, .int a2)] [] _ 0 0 _
            refine x_iloadn (x := a2) rfl rfl ?_
            refine x_iflt (tgt := 28) rfl rfl (ti_lt rfl jk_0 ⟨fun c10 => ?_, fun c10 => ?_⟩)
            ·
              refine x_iconst (v := 0) rfl ki_0 ?_
              refine x_zret rfl rfl (by decide) ?_
              show jX m_X11_pay 3 0 0 56 [(0, .ref 31), (1, .int a1), (2, .int a2), (3, .int a3), (4, .int a4), (5, .int a5)] [.int 0] _ 0 0 _
              refine x_ifne (tgt := 66) rfl rfl (ti_ne jk_0 jk_0 (bn_f (by omega) ?_))
              exact jX.sub (jsb_c rfl jsb_n) (ct_X11_pay_r31_59 hD hQ  h J Sm)
            ·
              refine x_iloadn (x := a2) rfl rfl ?_
              refine x_aloadn (x := 31) rfl rfl ?_
              refine z_getR (N := 13) (b := 32) 11 0 rfl f_11_10 rfl J rfl 3968 ⟨rfl, rfl⟩ rfl ?_
              refine z_getR (N := 20) (b := 49) 1 8 rfl f_11_408 rfl J rfl 4104 ⟨rfl, rfl⟩ rfl ?_
              refine z_getI (N := 4) 8 3 rfl f_11_142 rfl J rfl sg_49_3_4_1_0_1 (fun v11 qv11 ev11 => ?_)
              refine x_icge (tgt := 28) rfl rfl (ti_ge rfl rfl ⟨fun c12 => ?_, fun c12 => ?_⟩)
              ·
                refine x_iconst (v := 0) rfl ki_0 ?_
                refine x_zret rfl rfl (by decide) ?_
                show jX m_X11_pay 3 0 0 56 [(0, .ref 31), (1, .int a1), (2, .int a2), (3, .int a3), (4, .int a4), (5, .int a5)] [.int 0] _ 0 0 _
                refine x_ifne (tgt := 66) rfl rfl (ti_ne jk_0 jk_0 (bn_f (by omega) ?_))
                exact jX.sub (jsb_c rfl jsb_n) (ct_X11_pay_r31_59 hD hQ  h J Sm)
              ·
                refine x_iloadn (x := a2) rfl rfl ?_
                refine x_bipush (v := 40) rfl kb_40 ?_
                refine x_icge (tgt := 28) rfl rfl (ti_ge rfl jk_40 (br_f (by omega) ?_))
                refine x_iconst (v := 1) rfl ki_1 ?_
                refine x_goto (tgt := 29) rfl rfl ?_
                refine x_zret rfl rfl (by decide) ?_
                show jX m_X11_pay 3 0 0 56 [(0, .ref 31), (1, .int a1), (2, .int a2), (3, .int a3), (4, .int a4), (5, .int a5)] [.int 1] _ 0 0 _
                refine x_ifne (tgt := 66) rfl rfl (ti_ne jk_1 jk_0 (bn_t (by omega) ?_))
                refine x_aloadn (x := 31) rfl rfl ?_
                refine z_getR (N := 13) (b := 32) 11 0 rfl f_11_10 rfl J rfl 3968 ⟨rfl, rfl⟩ rfl ?_
                refine z_getR (N := 20) (b := 55) 1 11 rfl f_11_452 rfl J rfl 4107 ⟨rfl, rfl⟩ rfl ?_
                refine x_inv (N := m_X8_isFull) (As := []) (b := 55) (st := []) (dx9 := 1) (mc := 0) (ms := 0) (host := "") 8 rfl t_X8_isFull ⟨Or.inl q_11_130, i_X8_isFull.1, i_X8_isFull.2⟩ ⟨by decide, rfl⟩ (congrArg Prod.fst (J.1.1 55 (8, 4) rfl)) rfl (by decide) rfl rfl ⟨by decide, by decide⟩ (sf_X8_isFull_r55  hD J  (fun v14 h ev14 J S13 => ?_))
                have Sm := jSm_tr rfl Sm S13
                show jX m_X11_pay 3 0 0 76 [(0, .ref 31), (1, .int a1), (2, .int a2), (3, .int a3), (4, .int a4), (5, .int a5)] [.int v14] _ 0 0 _
                refine x_ifeq (tgt := 86) rfl rfl (ti_eq rfl jk_0 ⟨fun c15 => ?_, fun c15 => ?_⟩)
                ·
                  refine x_aloadn (x := 31) rfl rfl ?_
                  refine z_getR (N := 13) (b := 32) 11 0 rfl f_11_10 rfl J rfl 3968 ⟨rfl, rfl⟩ rfl ?_
                  refine z_getR (N := 20) (b := 55) 1 11 rfl f_11_452 rfl J rfl 4107 ⟨rfl, rfl⟩ rfl ?_
                  refine x_iload (x := a5) rfl rfl ?_
                  refine x_iload (x := a4) rfl rfl ?_
                  refine x_iloadn (x := a2) rfl rfl ?_
                  refine x_iloadn (x := a1) rfl rfl ?_
                  refine x_iloadn (x := a3) rfl rfl ?_
                  refine x_iconst (v := 0) rfl ki_0 ?_
                  refine x_inv (N := m_X8_add) (As := [.int a5, .int a4, .int a2, .int a1, .int a3, .int 0]) (b := 55) (st := []) (dx9 := 2) (mc := 0) (ms := 0) (host := "") 8 rfl t_X8_add ⟨Or.inl q_11_145, i_X8_add.1, i_X8_add.2⟩ ⟨by decide, rfl⟩ (congrArg Prod.fst (J.1.1 55 (8, 4) rfl)) rfl (by decide) rfl rfl ⟨by decide, by decide⟩ (sf_X8_add_r55 (jr_of rfl (by omega)) (jr_of rfl (by omega)) (jr_of rfl (by omega)) (jr_of rfl (by omega)) (jr_of rfl (by omega)) (jr_of jk_0 (by omega)) hD J  (fun h J S16 => ?_))
                  have Sm := jSm_tr rfl Sm S16
                  show jX m_X11_pay 3 0 0 104 [(0, .ref 31), (1, .int a1), (2, .int a2), (3, .int a3), (4, .int a4), (5, .int a5)] [] _ 0 0 _
                  refine x_aloadn (x := 31) rfl rfl ?_
                  refine x_aloadn (x := 31) rfl rfl ?_
                  refine z_getR (N := 13) (b := 32) 11 0 rfl f_11_10 rfl J rfl 3968 ⟨rfl, rfl⟩ rfl ?_
                  refine z_getR (N := 20) (b := 55) 1 11 rfl f_11_452 rfl J rfl 4107 ⟨rfl, rfl⟩ rfl ?_
                  refine z_getI (N := 4) 8 3 rfl f_11_142 rfl J rfl sg_55_3_4_1_0_1 (fun v17 qv17 ev17 => ?_)
                  refine x_inv (N := m_X11_accept) (As := [.int v17]) (b := 31) (st := []) (dx9 := 2) (mc := 0) (ms := 0) (host := "") 11 rfl t_X11_accept ⟨Or.inl q_11_165, i_X11_accept.1, i_X11_accept.2⟩ ⟨by decide, rfl⟩ (congrArg Prod.fst (J.1.1 31 (11, 13) rfl)) rfl (by decide) rfl rfl ⟨by decide, by decide⟩ (jC.of rfl k_X11_accept rfl ?_)
                  show jX m_X11_accept 2 0 0 0 [(0, .ref 31), (1, .int v17)] [] _ 0 0 _
                  refine x_aloadn (x := 31) rfl rfl ?_
                  refine x_iconst (v := 0) rfl ki_0 ?_
                  refine z_putI (N := 13) (w := 0) 11 12 rfl f_11_94 rfl (jfin_no TX11 RX11 13 rfl rfl) hD J Sm rfl rfl jk_0 (pw_31_12 (by omega)) rfl (fun h w18 J Sm => ?_)
                  refine x_aloadn (x := 31) rfl rfl ?_
                  refine z_getR (N := 13) (b := 32) 11 0 rfl f_11_10 rfl J rfl 3968 ⟨rfl, rfl⟩ rfl ?_
                  refine x_dup rfl rfl ?_
                  refine z_getI0 (N := 20) 1 19 rfl f_11_528 rfl J rfl (fun v19 qv19 => ?_)
                  have ev19 := jfull v19
                  refine x_iconst (v := 1) rfl ki_1 ?_
                  refine z_iadd0 rfl (fun v20 => ?_)
                  have ev20 := jfull v20
                  refine z_putI (N := 20) (w := v20.toInt) 1 19 rfl f_11_528 rfl (jfin_no TX1 RX1 20 rfl rfl) hD J Sm rfl rfl rfl (pw_32_19 trivial) rfl (fun h w21 J Sm => ?_)
                  refine x_iloadn (x := v17) rfl rfl ?_
                  refine x_iret rfl rfl ?_
                  show jX m_X11_pay 3 0 0 118 [(0, .ref 31), (1, .int a1), (2, .int a2), (3, .int a3), (4, .int a4), (5, .int a5)] [.int v17] _ 0 0 _
                  refine x_iret rfl rfl ?_
                  exact hQ _ _ (jr_of rfl (by omega)) J Sm
                ·
                  refine x_aloadn (x := 31) rfl rfl ?_
                  refine x_bipush (v := (-5)) rfl kb_m5 ?_
                  refine x_inv (N := m_X11_refuse) (As := [.int (-5)]) (b := 31) (st := []) (dx9 := 2) (mc := 0) (ms := 0) (host := "") 11 rfl t_X11_refuse ⟨Or.inl q_11_206, i_X11_refuse.1, i_X11_refuse.2⟩ ⟨by decide, rfl⟩ (congrArg Prod.fst (J.1.1 31 (11, 13) rfl)) rfl (by decide) rfl rfl ⟨by decide, by decide⟩ (jC.of rfl k_X11_refuse rfl ?_)
                  show jX m_X11_refuse 2 0 0 0 [(0, .ref 31), (1, .int (-5))] [] _ 0 0 _
                  refine x_aloadn (x := 31) rfl rfl ?_
                  refine x_iloadn (x := (-5)) rfl rfl ?_
                  refine z_putI (N := 13) (w := (-5)) 11 12 rfl f_11_94 rfl (jfin_no TX11 RX11 13 rfl rfl) hD J Sm rfl rfl jk_m5 (pw_31_12 (by omega)) rfl (fun h w22 J Sm => ?_)
                  refine x_iloadn (x := (-5)) rfl rfl ?_
                  refine x_iret rfl rfl ?_
                  show jX m_X11_pay 3 0 0 85 [(0, .ref 31), (1, .int a1), (2, .int a2), (3, .int a3), (4, .int a4), (5, .int a5)] [.int (-5)] _ 0 0 _
                  refine x_iret rfl rfl ?_
                  exact hQ _ _ (jr_of jk_m5 (by omega)) J Sm
      ·
        exact jX.sub (jsb_c rfl jsb_n) (ct_X11_pay_r31_27 hD hQ  h J Sm)
def fp_X11_piece_r31 : jFp := []
set_option maxRecDepth 100000 in
set_option maxHeartbeats 4000000 in
theorem ct_X11_piece_r31_12 {Dy : jH → Prop} {h0 : jH} {Q : Option Value → jH → Prop} (hD : jDk Dy) (hQ : ∀ (v : Int32) hx9, jJ jSgX Dy hx9 → jSm fp_X11_piece_r31 h0 hx9 → Q (some (.int v)) hx9) : ∀ (h : jH), jJ jSgX Dy h → jSm fp_X11_piece_r31 h0 h → jX m_X11_piece 2 0 0 12 [] [] h 0 0 Q := by
  intro  h    J Sm
  refine x_iconst (v := (-1)) rfl ki_m1 ?_
  refine x_iret rfl rfl ?_
  exact hQ _ _ J Sm
set_option maxRecDepth 100000 in
set_option maxHeartbeats 4000000 in
theorem ct_X11_piece_r31_34 {Dy : jH → Prop} {h0 : jH} {Q : Option Value → jH → Prop} (hD : jDk Dy) (hQ : ∀ (v : Int32) hx9, jJ jSgX Dy hx9 → jSm fp_X11_piece_r31 h0 hx9 → Q (some (.int v)) hx9) : ∀ (h : jH), jJ jSgX Dy h → jSm fp_X11_piece_r31 h0 h → jX m_X11_piece 2 0 0 34 [] [] h 0 0 Q := by
  intro  h    J Sm
  refine x_bipush (v := (-2)) rfl kb_m2 ?_
  refine x_iret rfl rfl ?_
  exact hQ _ _ J Sm
set_option maxRecDepth 100000 in
set_option maxHeartbeats 4000000 in
theorem ct_X11_piece_r31_86 {Dy : jH → Prop} {h0 : jH} {Q : Option Value → jH → Prop} (hD : jDk Dy) (hQ : ∀ (v : Int32) hx9, jJ jSgX Dy hx9 → jSm fp_X11_piece_r31 h0 hx9 → Q (some (.int v)) hx9) : ∀ (h : jH), jJ jSgX Dy h → jSm fp_X11_piece_r31 h0 h → jX m_X11_piece 2 0 0 86 [] [] h 0 0 Q := by
  intro  h    J Sm
  refine x_bipush (v := (-3)) rfl kb_m3 ?_
  refine x_iret rfl rfl ?_
  exact hQ _ _ J Sm
set_option maxRecDepth 100000 in
set_option maxHeartbeats 4000000 in
theorem ct_X11_piece_r31_95 {Dy : jH → Prop} {h0 : jH} {Q : Option Value → jH → Prop} (hD : jDk Dy) (hQ : ∀ (v : Int32) hx9, jJ jSgX Dy hx9 → jSm fp_X11_piece_r31 h0 hx9 → Q (some (.int v)) hx9) : ∀ r : Nat, ∀ (l3 : Int32) (l4 : Int32) (l5 : Int32) (l7 : Int32) (l8 : Int32) (h : jH), 6 - l8.toInt < (r : Int) → 0 ≤ l3.toInt ∧ l3.toInt ≤ 12 → 0 ≤ l4.toInt ∧ l4.toInt ≤ 6 → 0 ≤ l5.toInt ∧ l5.toInt ≤ 1199 → 0 ≤ l8.toInt ∧ l8.toInt ≤ 6 → jJ jSgX Dy h → jSm fp_X11_piece_r31 h0 h → jX m_X11_piece 2 0 0 95 [(0, .ref 31), (3, .int l3), (4, .int l4), (5, .int l5), (7, .int l7), (8, .int l8)] [] h 0 0 Q := by
  intro r
  induction r with
  | zero =>
    intro l3 l4 l5 l7 l8 h hm y0 y1 y2 y3   J Sm
    exfalso
    have el7 := jfull l7
    omega
  | succ r ih =>
    intro l3 l4 l5 l7 l8 h hm y0 y1 y2 y3   J Sm
    have el7 := jfull l7
    refine x_iload (x := l8) rfl rfl ?_
    refine x_iload (x := l4) rfl rfl ?_
    refine x_icge (tgt := 139) rfl rfl (ti_ge rfl rfl ⟨fun c1 => ?_, fun c1 => ?_⟩)
    ·
      refine x_iload (x := l7) rfl rfl ?_
      refine x_iret rfl rfl ?_
      exact hQ _ _ J Sm
    ·
      refine x_iload (x := l7) rfl rfl ?_
      refine x_bipush (v := 27) rfl kb_27 ?_
      refine z_imul0 rfl (fun v2 => ?_)
      have ev2 := jfull v2
      refine x_aloadn (x := 31) rfl rfl ?_
      refine z_getR (N := 13) (b := 32) 11 0 rfl f_11_10 rfl J rfl 3968 ⟨rfl, rfl⟩ rfl ?_
      refine z_getR (N := 20) (b := 35) 1 1 rfl f_11_149 rfl J rfl 4097 ⟨rfl, rfl⟩ rfl ?_
      refine x_iload (x := l5) rfl rfl ?_
      refine x_iconst (v := 2) rfl ki_2 ?_
      refine x_iloadn (x := l3) rfl rfl ?_
      refine z_iadd rfl jk_2 rfl (by omega) (fun v3 ev3 => ?_)
      refine x_iload (x := l8) rfl rfl ?_
      refine z_iadd rfl rfl rfl (by omega) (fun v4 ev4 => ?_)
      refine x_inv (N := m_X8_at) (As := [.int l5, .int v4]) (b := 35) (st := [.int v2]) (dx9 := 1) (mc := 0) (ms := 0) (host := "") 8 rfl t_X8_at ⟨Or.inl q_11_171, i_X8_at.1, i_X8_at.2⟩ ⟨by decide, rfl⟩ (congrArg Prod.fst (J.1.1 35 (8, 4) rfl)) rfl (by decide) rfl rfl ⟨by decide, by decide⟩ (sf_X8_at_r35 (jr_of rfl (by omega)) (jr_of rfl (by omega)) hD J  (fun v6 h J S5 => ?_))
      have ev6 := jfull v6
      have Sm := jSm_tr rfl Sm S5
      show jX m_X11_piece 2 0 0 125 [(0, .ref 31), (3, .int l3), (4, .int l4), (5, .int l5), (7, .int l7), (8, .int l8)] [.int v6, .int v2] _ 0 0 _
      refine z_iadd0 rfl (fun v7 => ?_)
      have ev7 := jfull v7
      refine x_bipush (v := 97) rfl kb_97 ?_
      refine z_isub0 rfl (fun v8 => ?_)
      have ev8 := jfull v8
      refine x_iconst (v := 1) rfl ki_1 ?_
      refine z_iadd0 rfl (fun v9 => ?_)
      have ev9 := jfull v9
      refine x_istore (lsx9 := [(7, .int v9), (0, .ref 31), (3, .int l3), (4, .int l4), (5, .int l5), (8, .int l8)]) rfl rfl rfl ?_
      refine z_iinc (x := l8) (lsx9 := fun v10 => [(8, .int v10), (7, .int v9), (0, .ref 31), (3, .int l3), (4, .int l4), (5, .int l5)]) rfl rfl rfl jko_1 (by omega) rfl (fun _ => rfl) (fun v10 ev10 => ?_)
      refine x_goto (tgt := 95) rfl rfl ?_
      exact jX.sub (jsb_c rfl (jsb_c rfl (jsb_c rfl (jsb_c rfl (jsb_c rfl (jsb_c rfl jsb_n)))))) (ih l3 l4 l5 v9 v10 h (by omega) (jr_of rfl (by omega)) (jr_of rfl (by omega)) (jr_of rfl (by omega)) (jr_of rfl (by omega)) J Sm)
set_option maxRecDepth 100000 in
set_option maxHeartbeats 4000000 in
theorem sf_X11_piece_r31 {Dy : jH → Prop} {h : jH} {Q : Option Value → jH → Prop} {a1 : Int32} {a2 : Int32} {a3 : Int32} {a4 : Int32} (hD : jDk Dy) (J : jJ jSgX Dy h) (hQ : ∀ (v : Int32) hx9, jJ jSgX Dy hx9 → jSm fp_X11_piece_r31 h hx9 → Q (some (.int v)) hx9) : jC m_X11_piece 2 0 0 [.ref 31, .int a1, .int a2, .int a3, .int a4] h Q := by
  refine jC.of rfl k_X11_piece rfl ?_
  have Sm := jSm_rf fp_X11_piece_r31 h
  have ea1 := jfull a1
  have ea2 := jfull a2
  have ea3 := jfull a3
  have ea4 := jfull a4
  show jX m_X11_piece 2 0 0 0 [(0, .ref 31), (1, .int a1), (2, .int a2), (3, .int a3), (4, .int a4)] [] _ 0 0 _
  refine x_iload (x := a4) rfl rfl ?_
  refine x_iflt (tgt := 12) rfl rfl (ti_lt rfl jk_0 ⟨fun c1 => ?_, fun c1 => ?_⟩)
  ·
    exact jX.sub jsb_n (ct_X11_piece_r31_12 hD hQ  h J Sm)
  ·
    refine x_iload (x := a4) rfl rfl ?_
    refine x_bipush (v := 6) rfl kb_6 ?_
    refine x_icle (tgt := 14) rfl rfl (ti_le rfl jk_6 ⟨fun c2 => ?_, fun c2 => ?_⟩)
    ·
      refine x_aloadn (x := 31) rfl rfl ?_
      refine z_getR (N := 13) (b := 78) 11 4 rfl f_11_41 rfl J rfl 3972 ⟨rfl, rfl⟩ rfl ?_
      refine x_iloadn (x := a1) rfl rfl ?_
      refine x_inv (N := m_X7_isMention) (As := [.int a1]) (b := 78) (st := []) (dx9 := 1) (mc := 0) (ms := 0) (host := "") 7 rfl t_X7_isMention ⟨Or.inl q_11_187, i_X7_isMention.1, i_X7_isMention.2⟩ ⟨by decide, rfl⟩ (congrArg Prod.fst (J.1.1 78 (7, 16) rfl)) rfl (by decide) rfl rfl ⟨by decide, by decide⟩ (jC.of rfl k_X7_isMention rfl ?_)
      show jX m_X7_isMention 1 0 0 0 [(0, .ref 78), (1, .int a1)] [] _ 0 0 _
      refine x_iloadn (x := a1) rfl rfl ?_
      refine x_iflt (tgt := 41) rfl rfl (ti_lt rfl jk_0 ⟨fun c3 => ?_, fun c3 => ?_⟩)
      ·
        refine x_iconst (v := 0) rfl ki_0 ?_
        refine x_zret rfl rfl (by decide) ?_
        show jX m_X11_piece 2 0 0 22 [(0, .ref 31), (1, .int a1), (2, .int a2), (3, .int a3), (4, .int a4)] [.int 0] _ 0 0 _
        refine x_ifeq (tgt := 34) rfl rfl (ti_eq jk_0 jk_0 (br_t (by omega) ?_))
        exact jX.sub jsb_n (ct_X11_piece_r31_34 hD hQ  h J Sm)
      ·
        refine x_iloadn (x := a1) rfl rfl ?_
        refine x_sipush (v := 600) rfl ks_600 ?_
        refine x_icge (tgt := 41) rfl rfl (ti_ge rfl jk_600 ⟨fun c4 => ?_, fun c4 => ?_⟩)
        ·
          refine x_iconst (v := 0) rfl ki_0 ?_
          refine x_zret rfl rfl (by decide) ?_
          show jX m_X11_piece 2 0 0 22 [(0, .ref 31), (1, .int a1), (2, .int a2), (3, .int a3), (4, .int a4)] [.int 0] _ 0 0 _
          refine x_ifeq (tgt := 34) rfl rfl (ti_eq jk_0 jk_0 (br_t (by omega) ?_))
          exact jX.sub jsb_n (ct_X11_piece_r31_34 hD hQ  h J Sm)
        ·
          refine x_iloadn (x := a1) rfl rfl ?_
          refine x_iconst (v := 3) rfl ki_3 ?_
          refine z_idiv rfl rfl jk_3 (by omega) (by omega) (fun v5 ev5 => ?_)
          refine x_aloadn (x := 78) rfl rfl ?_
          refine z_getR (N := 16) (b := 32) 7 0 rfl f_7_55 rfl J rfl 9984 ⟨rfl, rfl⟩ rfl ?_
          refine z_getR (N := 20) (b := 33) 1 0 rfl f_7_63 rfl J rfl 4096 ⟨rfl, rfl⟩ rfl ?_
          refine z_getI (N := 4) 8 3 rfl f_7_85 rfl J rfl sg_33_3_4_1_0_1 (fun v6 qv6 ev6 => ?_)
          refine x_icge (tgt := 41) rfl rfl (ti_ge rfl rfl ⟨fun c7 => ?_, fun c7 => ?_⟩)
          ·
            refine x_iconst (v := 0) rfl ki_0 ?_
            refine x_zret rfl rfl (by decide) ?_
            show jX m_X11_piece 2 0 0 22 [(0, .ref 31), (1, .int a1), (2, .int a2), (3, .int a3), (4, .int a4)] [.int 0] _ 0 0 _
            refine x_ifeq (tgt := 34) rfl rfl (ti_eq jk_0 jk_0 (br_t (by omega) ?_))
            exact jX.sub jsb_n (ct_X11_piece_r31_34 hD hQ  h J Sm)
          ·
            refine x_aloadn (x := 78) rfl rfl ?_
            refine z_getR (N := 16) (b := 79) 7 7 rfl f_7_27 rfl J rfl 9991 ⟨rfl, rfl⟩ rfl ?_
            refine x_iloadn (x := a1) rfl rfl ?_
            refine z_iald (N := 600) rfl J rfl sg_79_0_600_1_0_1 rfl (by omega) (fun v8 qv8 ev8 => ?_)
            refine x_iconst (v := (-1)) rfl ki_m1 ?_
            refine x_iceq (tgt := 41) rfl rfl (ti_eq rfl jk_m1 ⟨fun c9 => ?_, fun c9 => ?_⟩)
            ·
              refine x_iconst (v := 0) rfl ki_0 ?_
              refine x_zret rfl rfl (by decide) ?_
              show jX m_X11_piece 2 0 0 22 [(0, .ref 31), (1, .int a1), (2, .int a2), (3, .int a3), (4, .int a4)] [.int 0] _ 0 0 _
              refine x_ifeq (tgt := 34) rfl rfl (ti_eq jk_0 jk_0 (br_t (by omega) ?_))
              exact jX.sub jsb_n (ct_X11_piece_r31_34 hD hQ  h J Sm)
            ·
              refine x_iconst (v := 1) rfl ki_1 ?_
              refine x_goto (tgt := 42) rfl rfl ?_
              refine x_zret rfl rfl (by decide) ?_
              show jX m_X11_piece 2 0 0 22 [(0, .ref 31), (1, .int a1), (2, .int a2), (3, .int a3), (4, .int a4)] [.int 1] _ 0 0 _
              refine x_ifeq (tgt := 34) rfl rfl (ti_eq jk_1 jk_0 (br_f (by omega) ?_))
              refine x_iloadn (x := a2) rfl rfl ?_
              refine x_iflt (tgt := 34) rfl rfl (ti_lt rfl jk_0 ⟨fun c10 => ?_, fun c10 => ?_⟩)
              ·
                exact jX.sub jsb_n (ct_X11_piece_r31_34 hD hQ  h J Sm)
              ·
                refine x_iloadn (x := a2) rfl rfl ?_
                refine x_iconst (v := 1) rfl ki_1 ?_
                refine x_icle (tgt := 37) rfl rfl (ti_le rfl jk_1 ⟨fun c11 => ?_, fun c11 => ?_⟩)
                ·
                  refine x_iloadn (x := a1) rfl rfl ?_
                  refine x_iconst (v := 2) rfl ki_2 ?_
                  refine z_imul rfl rfl jk_2 (by omega) (fun v12 ev12 => ?_)
                  refine x_iloadn (x := a2) rfl rfl ?_
                  refine z_iadd rfl rfl rfl (by omega) (fun v13 ev13 => ?_)
                  refine x_istore (lsx9 := [(5, .int v13), (0, .ref 31), (1, .int a1), (2, .int a2), (3, .int a3), (4, .int a4)]) rfl rfl rfl ?_
                  refine x_aloadn (x := 31) rfl rfl ?_
                  refine z_getR (N := 13) (b := 32) 11 0 rfl f_11_10 rfl J rfl 3968 ⟨rfl, rfl⟩ rfl ?_
                  refine z_getR (N := 20) (b := 35) 1 1 rfl f_11_149 rfl J rfl 4097 ⟨rfl, rfl⟩ rfl ?_
                  refine x_iload (x := v13) rfl rfl ?_
                  refine x_iconst (v := 0) rfl ki_0 ?_
                  refine x_inv (N := m_X8_at) (As := [.int v13, .int 0]) (b := 35) (st := []) (dx9 := 1) (mc := 0) (ms := 0) (host := "") 8 rfl t_X8_at ⟨Or.inl q_11_171, i_X8_at.1, i_X8_at.2⟩ ⟨by decide, rfl⟩ (congrArg Prod.fst (J.1.1 35 (8, 4) rfl)) rfl (by decide) rfl rfl ⟨by decide, by decide⟩ (sf_X8_at_r35_c0 (jr_of rfl (by omega)) hD J  (fun v15 h ev15 J S14 => ?_))
                  have Sm := jSm_tr rfl Sm S14
                  show jX m_X11_piece 2 0 0 57 [(5, .int v13), (0, .ref 31), (1, .int a1), (2, .int a2), (3, .int a3), (4, .int a4)] [.int v15] _ 0 0 _
                  refine x_istore (lsx9 := [(6, .int v15), (5, .int v13), (0, .ref 31), (1, .int a1), (2, .int a2), (3, .int a3), (4, .int a4)]) rfl rfl rfl ?_
                  refine x_iload (x := v15) rfl rfl ?_
                  refine x_ifne (tgt := 67) rfl rfl (ti_ne rfl jk_0 ⟨fun c16 => ?_, fun c16 => ?_⟩)
                  ·
                    refine x_iloadn (x := a3) rfl rfl ?_
                    refine x_iflt (tgt := 86) rfl rfl (ti_lt rfl jk_0 ⟨fun c17 => ?_, fun c17 => ?_⟩)
                    ·
                      exact jX.sub jsb_n (ct_X11_piece_r31_86 hD hQ  h J Sm)
                    ·
                      refine x_iloadn (x := a3) rfl rfl ?_
                      refine x_iload (x := v15) rfl rfl ?_
                      refine x_icgt (tgt := 86) rfl rfl (ti_gt rfl rfl ⟨fun c18 => ?_, fun c18 => ?_⟩)
                      ·
                        exact jX.sub jsb_n (ct_X11_piece_r31_86 hD hQ  h J Sm)
                      ·
                        refine x_iload (x := a4) rfl rfl ?_
                        refine x_iload (x := v15) rfl rfl ?_
                        refine x_iloadn (x := a3) rfl rfl ?_
                        refine z_isub rfl rfl rfl (by omega) (fun v19 ev19 => ?_)
                        refine x_icle (tgt := 89) rfl rfl (ti_le rfl rfl ⟨fun c20 => ?_, fun c20 => ?_⟩)
                        ·
                          refine x_iconst (v := 0) rfl ki_0 ?_
                          refine x_istore (lsx9 := [(7, .int 0), (6, .int v15), (5, .int v13), (0, .ref 31), (1, .int a1), (2, .int a2), (3, .int a3), (4, .int a4)]) rfl rfl rfl ?_
                          refine x_iconst (v := 0) rfl ki_0 ?_
                          refine x_istore (lsx9 := [(8, .int 0), (7, .int 0), (6, .int v15), (5, .int v13), (0, .ref 31), (1, .int a1), (2, .int a2), (3, .int a3), (4, .int a4)]) rfl rfl rfl ?_
                          exact jX.sub (jsb_c rfl (jsb_c rfl (jsb_c rfl (jsb_c rfl (jsb_c rfl (jsb_c rfl jsb_n)))))) (ct_X11_piece_r31_95 hD hQ  7 a3 a4 v13 0 0 h (by have := jk_0; omega) (jr_of rfl (by omega)) (jr_of rfl (by omega)) (jr_of rfl (by omega)) (jr_of jk_0 (by omega)) J Sm)
                        ·
                          exact jX.sub jsb_n (ct_X11_piece_r31_86 hD hQ  h J Sm)
                  ·
                    refine x_bipush (v := (-2)) rfl kb_m2 ?_
                    refine x_iret rfl rfl ?_
                    exact hQ _ _ J Sm
                ·
                  exact jX.sub jsb_n (ct_X11_piece_r31_34 hD hQ  h J Sm)
    ·
      exact jX.sub jsb_n (ct_X11_piece_r31_12 hD hQ  h J Sm)
def fp_X8_put_r61_c0 : jFp := [(62, 0, 400)]
set_option maxRecDepth 100000 in
set_option maxHeartbeats 4000000 in
theorem ct_X8_put_r61_c0_38 {Dy : jH → Prop} {h0 : jH} {Q : Option Value → jH → Prop} (hD : jDk Dy) (hQ : ∀ hx9, jJ jSgX Dy hx9 → jSm fp_X8_put_r61_c0 h0 hx9 → Q none hx9) : ∀ (h : jH), jJ jSgX Dy h → jSm fp_X8_put_r61_c0 h0 h → jX m_X8_put 1 0 0 38 [] [] h 0 0 Q := by
  intro  h    J Sm
  refine x_vret rfl rfl ?_
  exact hQ _ J Sm
set_option maxRecDepth 100000 in
set_option maxHeartbeats 4000000 in
theorem sf_X8_put_r61_c0 {Dy : jH → Prop} {h : jH} {Q : Option Value → jH → Prop} {a1 : Int32} {a3 : Int32} (y1 : 0 ≤ a1.toInt ∧ a1.toInt ≤ 99) (y3 : 0 ≤ a3.toInt ∧ a3.toInt ≤ 146399) (hD : jDk Dy) (J : jJ jSgX Dy h) (hQ : ∀ hx9, jJ jSgX Dy hx9 → jSm fp_X8_put_r61_c0 h hx9 → Q none hx9) : jC m_X8_put 1 0 0 [.ref 61, .int a1, .int 0, .int a3] h Q := by
  refine jC.of rfl k_X8_put rfl ?_
  have Sm := jSm_rf fp_X8_put_r61_c0 h
  show jX m_X8_put 1 0 0 0 [(0, .ref 61), (1, .int a1), (2, .int 0), (3, .int a3)] [] _ 0 0 _
  refine x_iloadn (x := a1) rfl rfl ?_
  refine x_iflt (tgt := 38) rfl rfl (ti_lt rfl jk_0 (br_f (by omega) ?_))
  refine x_iloadn (x := a1) rfl rfl ?_
  refine x_aloadn (x := 61) rfl rfl ?_
  refine z_getI (N := 4) 8 3 rfl f_8_7 rfl J rfl sg_61_3_4_1_0_1 (fun v1 qv1 ev1 => ?_)
  refine x_icge (tgt := 38) rfl rfl (ti_ge rfl rfl ⟨fun c2 => ?_, fun c2 => ?_⟩)
  ·
    exact jX.sub jsb_n (ct_X8_put_r61_c0_38 hD hQ  h J Sm)
  ·
    refine x_iloadn (x := 0) rfl rfl ?_
    refine x_iflt (tgt := 38) rfl rfl (ti_lt jk_0 jk_0 (br_f (by omega) ?_))
    refine x_iloadn (x := 0) rfl rfl ?_
    refine x_aloadn (x := 61) rfl rfl ?_
    refine z_getC (N := 4) (v := 4) 8 0 rfl f_8_19 rfl J rfl sg_61_0_1_1_0_1 jk_4 ?_
    refine x_icge (tgt := 38) rfl rfl (ti_ge jk_0 jk_4 (br_f (by omega) ?_))
    refine x_aloadn (x := 61) rfl rfl ?_
    refine z_getR (N := 4) (b := 62) 8 2 rfl f_8_25 rfl J rfl 7810 ⟨rfl, rfl⟩ rfl ?_
    refine x_iloadn (x := a1) rfl rfl ?_
    refine x_aloadn (x := 61) rfl rfl ?_
    refine z_getC (N := 4) (v := 4) 8 0 rfl f_8_19 rfl J rfl sg_61_0_1_1_0_1 jk_4 ?_
    refine z_imul rfl rfl jk_4 (by omega) (fun v3 ev3 => ?_)
    refine x_iloadn (x := 0) rfl rfl ?_
    refine z_iadd rfl rfl jk_0 (by omega) (fun v4 ev4 => ?_)
    refine x_iloadn (x := a3) rfl rfl ?_
    refine z_iast (N := 400) (l := 0) (u := 400) (w := a3.toInt) rfl hD J Sm rfl rfl rfl (by omega) rfl (wr_62 (fun q1 q2 q3 q4 => by omega) (fun q1 q2 q3 q4 => by omega) (fun q1 q2 q3 q4 => by omega) (fun q1 q2 q3 q4 => by omega)) rfl (fun h w5 J Sm => ?_)
    exact jX.sub jsb_n (ct_X8_put_r61_c0_38 hD hQ  h J Sm)
def fp_X8_put_r61_c1 : jFp := [(62, 0, 400)]
set_option maxRecDepth 100000 in
set_option maxHeartbeats 4000000 in
theorem ct_X8_put_r61_c1_38 {Dy : jH → Prop} {h0 : jH} {Q : Option Value → jH → Prop} (hD : jDk Dy) (hQ : ∀ hx9, jJ jSgX Dy hx9 → jSm fp_X8_put_r61_c1 h0 hx9 → Q none hx9) : ∀ (h : jH), jJ jSgX Dy h → jSm fp_X8_put_r61_c1 h0 h → jX m_X8_put 1 0 0 38 [] [] h 0 0 Q := by
  intro  h    J Sm
  refine x_vret rfl rfl ?_
  exact hQ _ J Sm
set_option maxRecDepth 100000 in
set_option maxHeartbeats 4000000 in
theorem sf_X8_put_r61_c1 {Dy : jH → Prop} {h : jH} {Q : Option Value → jH → Prop} {a1 : Int32} {a3 : Int32} (y1 : 0 ≤ a1.toInt ∧ a1.toInt ≤ 99) (y3 : 0 ≤ a3.toInt ∧ a3.toInt ≤ 399) (hD : jDk Dy) (J : jJ jSgX Dy h) (hQ : ∀ hx9, jJ jSgX Dy hx9 → jSm fp_X8_put_r61_c1 h hx9 → Q none hx9) : jC m_X8_put 1 0 0 [.ref 61, .int a1, .int 1, .int a3] h Q := by
  refine jC.of rfl k_X8_put rfl ?_
  have Sm := jSm_rf fp_X8_put_r61_c1 h
  show jX m_X8_put 1 0 0 0 [(0, .ref 61), (1, .int a1), (2, .int 1), (3, .int a3)] [] _ 0 0 _
  refine x_iloadn (x := a1) rfl rfl ?_
  refine x_iflt (tgt := 38) rfl rfl (ti_lt rfl jk_0 (br_f (by omega) ?_))
  refine x_iloadn (x := a1) rfl rfl ?_
  refine x_aloadn (x := 61) rfl rfl ?_
  refine z_getI (N := 4) 8 3 rfl f_8_7 rfl J rfl sg_61_3_4_1_0_1 (fun v1 qv1 ev1 => ?_)
  refine x_icge (tgt := 38) rfl rfl (ti_ge rfl rfl ⟨fun c2 => ?_, fun c2 => ?_⟩)
  ·
    exact jX.sub jsb_n (ct_X8_put_r61_c1_38 hD hQ  h J Sm)
  ·
    refine x_iloadn (x := 1) rfl rfl ?_
    refine x_iflt (tgt := 38) rfl rfl (ti_lt jk_1 jk_0 (br_f (by omega) ?_))
    refine x_iloadn (x := 1) rfl rfl ?_
    refine x_aloadn (x := 61) rfl rfl ?_
    refine z_getC (N := 4) (v := 4) 8 0 rfl f_8_19 rfl J rfl sg_61_0_1_1_0_1 jk_4 ?_
    refine x_icge (tgt := 38) rfl rfl (ti_ge jk_1 jk_4 (br_f (by omega) ?_))
    refine x_aloadn (x := 61) rfl rfl ?_
    refine z_getR (N := 4) (b := 62) 8 2 rfl f_8_25 rfl J rfl 7810 ⟨rfl, rfl⟩ rfl ?_
    refine x_iloadn (x := a1) rfl rfl ?_
    refine x_aloadn (x := 61) rfl rfl ?_
    refine z_getC (N := 4) (v := 4) 8 0 rfl f_8_19 rfl J rfl sg_61_0_1_1_0_1 jk_4 ?_
    refine z_imul rfl rfl jk_4 (by omega) (fun v3 ev3 => ?_)
    refine x_iloadn (x := 1) rfl rfl ?_
    refine z_iadd rfl rfl jk_1 (by omega) (fun v4 ev4 => ?_)
    refine x_iloadn (x := a3) rfl rfl ?_
    refine z_iast (N := 400) (l := 0) (u := 400) (w := a3.toInt) rfl hD J Sm rfl rfl rfl (by omega) rfl (wr_62 (fun q1 q2 q3 q4 => by omega) (fun q1 q2 q3 q4 => by omega) (fun q1 q2 q3 q4 => by omega) (fun q1 q2 q3 q4 => by omega)) rfl (fun h w5 J Sm => ?_)
    exact jX.sub jsb_n (ct_X8_put_r61_c1_38 hD hQ  h J Sm)
def fp_X8_put_r61_c2 : jFp := [(62, 0, 400)]
set_option maxRecDepth 100000 in
set_option maxHeartbeats 4000000 in
theorem ct_X8_put_r61_c2_38 {Dy : jH → Prop} {h0 : jH} {Q : Option Value → jH → Prop} (hD : jDk Dy) (hQ : ∀ hx9, jJ jSgX Dy hx9 → jSm fp_X8_put_r61_c2 h0 hx9 → Q none hx9) : ∀ (h : jH), jJ jSgX Dy h → jSm fp_X8_put_r61_c2 h0 h → jX m_X8_put 1 0 0 38 [] [] h 0 0 Q := by
  intro  h    J Sm
  refine x_vret rfl rfl ?_
  exact hQ _ J Sm
set_option maxRecDepth 100000 in
set_option maxHeartbeats 4000000 in
theorem sf_X8_put_r61_c2 {Dy : jH → Prop} {h : jH} {Q : Option Value → jH → Prop} {a1 : Int32} {a3 : Int32} (y1 : 0 ≤ a1.toInt ∧ a1.toInt ≤ 99) (y3 : 0 ≤ a3.toInt ∧ a3.toInt ≤ 2) (hD : jDk Dy) (J : jJ jSgX Dy h) (hQ : ∀ hx9, jJ jSgX Dy hx9 → jSm fp_X8_put_r61_c2 h hx9 → Q none hx9) : jC m_X8_put 1 0 0 [.ref 61, .int a1, .int 2, .int a3] h Q := by
  refine jC.of rfl k_X8_put rfl ?_
  have Sm := jSm_rf fp_X8_put_r61_c2 h
  show jX m_X8_put 1 0 0 0 [(0, .ref 61), (1, .int a1), (2, .int 2), (3, .int a3)] [] _ 0 0 _
  refine x_iloadn (x := a1) rfl rfl ?_
  refine x_iflt (tgt := 38) rfl rfl (ti_lt rfl jk_0 (br_f (by omega) ?_))
  refine x_iloadn (x := a1) rfl rfl ?_
  refine x_aloadn (x := 61) rfl rfl ?_
  refine z_getI (N := 4) 8 3 rfl f_8_7 rfl J rfl sg_61_3_4_1_0_1 (fun v1 qv1 ev1 => ?_)
  refine x_icge (tgt := 38) rfl rfl (ti_ge rfl rfl ⟨fun c2 => ?_, fun c2 => ?_⟩)
  ·
    exact jX.sub jsb_n (ct_X8_put_r61_c2_38 hD hQ  h J Sm)
  ·
    refine x_iloadn (x := 2) rfl rfl ?_
    refine x_iflt (tgt := 38) rfl rfl (ti_lt jk_2 jk_0 (br_f (by omega) ?_))
    refine x_iloadn (x := 2) rfl rfl ?_
    refine x_aloadn (x := 61) rfl rfl ?_
    refine z_getC (N := 4) (v := 4) 8 0 rfl f_8_19 rfl J rfl sg_61_0_1_1_0_1 jk_4 ?_
    refine x_icge (tgt := 38) rfl rfl (ti_ge jk_2 jk_4 (br_f (by omega) ?_))
    refine x_aloadn (x := 61) rfl rfl ?_
    refine z_getR (N := 4) (b := 62) 8 2 rfl f_8_25 rfl J rfl 7810 ⟨rfl, rfl⟩ rfl ?_
    refine x_iloadn (x := a1) rfl rfl ?_
    refine x_aloadn (x := 61) rfl rfl ?_
    refine z_getC (N := 4) (v := 4) 8 0 rfl f_8_19 rfl J rfl sg_61_0_1_1_0_1 jk_4 ?_
    refine z_imul rfl rfl jk_4 (by omega) (fun v3 ev3 => ?_)
    refine x_iloadn (x := 2) rfl rfl ?_
    refine z_iadd rfl rfl jk_2 (by omega) (fun v4 ev4 => ?_)
    refine x_iloadn (x := a3) rfl rfl ?_
    refine z_iast (N := 400) (l := 0) (u := 400) (w := a3.toInt) rfl hD J Sm rfl rfl rfl (by omega) rfl (wr_62 (fun q1 q2 q3 q4 => by omega) (fun q1 q2 q3 q4 => by omega) (fun q1 q2 q3 q4 => by omega) (fun q1 q2 q3 q4 => by omega)) rfl (fun h w5 J Sm => ?_)
    exact jX.sub jsb_n (ct_X8_put_r61_c2_38 hD hQ  h J Sm)
def fp_X8_put_r61_c3 : jFp := [(62, 0, 400)]
set_option maxRecDepth 100000 in
set_option maxHeartbeats 4000000 in
theorem ct_X8_put_r61_c3_38 {Dy : jH → Prop} {h0 : jH} {Q : Option Value → jH → Prop} (hD : jDk Dy) (hQ : ∀ hx9, jJ jSgX Dy hx9 → jSm fp_X8_put_r61_c3 h0 hx9 → Q none hx9) : ∀ (h : jH), jJ jSgX Dy h → jSm fp_X8_put_r61_c3 h0 h → jX m_X8_put 1 0 0 38 [] [] h 0 0 Q := by
  intro  h    J Sm
  refine x_vret rfl rfl ?_
  exact hQ _ J Sm
set_option maxRecDepth 100000 in
set_option maxHeartbeats 4000000 in
theorem sf_X8_put_r61_c3 {Dy : jH → Prop} {h : jH} {Q : Option Value → jH → Prop} {a1 : Int32} {a3 : Int32} (y1 : 0 ≤ a1.toInt ∧ a1.toInt ≤ 99) (y3 : 0 ≤ a3.toInt ∧ a3.toInt ≤ 10000) (hD : jDk Dy) (J : jJ jSgX Dy h) (hQ : ∀ hx9, jJ jSgX Dy hx9 → jSm fp_X8_put_r61_c3 h hx9 → Q none hx9) : jC m_X8_put 1 0 0 [.ref 61, .int a1, .int 3, .int a3] h Q := by
  refine jC.of rfl k_X8_put rfl ?_
  have Sm := jSm_rf fp_X8_put_r61_c3 h
  show jX m_X8_put 1 0 0 0 [(0, .ref 61), (1, .int a1), (2, .int 3), (3, .int a3)] [] _ 0 0 _
  refine x_iloadn (x := a1) rfl rfl ?_
  refine x_iflt (tgt := 38) rfl rfl (ti_lt rfl jk_0 (br_f (by omega) ?_))
  refine x_iloadn (x := a1) rfl rfl ?_
  refine x_aloadn (x := 61) rfl rfl ?_
  refine z_getI (N := 4) 8 3 rfl f_8_7 rfl J rfl sg_61_3_4_1_0_1 (fun v1 qv1 ev1 => ?_)
  refine x_icge (tgt := 38) rfl rfl (ti_ge rfl rfl ⟨fun c2 => ?_, fun c2 => ?_⟩)
  ·
    exact jX.sub jsb_n (ct_X8_put_r61_c3_38 hD hQ  h J Sm)
  ·
    refine x_iloadn (x := 3) rfl rfl ?_
    refine x_iflt (tgt := 38) rfl rfl (ti_lt jk_3 jk_0 (br_f (by omega) ?_))
    refine x_iloadn (x := 3) rfl rfl ?_
    refine x_aloadn (x := 61) rfl rfl ?_
    refine z_getC (N := 4) (v := 4) 8 0 rfl f_8_19 rfl J rfl sg_61_0_1_1_0_1 jk_4 ?_
    refine x_icge (tgt := 38) rfl rfl (ti_ge jk_3 jk_4 (br_f (by omega) ?_))
    refine x_aloadn (x := 61) rfl rfl ?_
    refine z_getR (N := 4) (b := 62) 8 2 rfl f_8_25 rfl J rfl 7810 ⟨rfl, rfl⟩ rfl ?_
    refine x_iloadn (x := a1) rfl rfl ?_
    refine x_aloadn (x := 61) rfl rfl ?_
    refine z_getC (N := 4) (v := 4) 8 0 rfl f_8_19 rfl J rfl sg_61_0_1_1_0_1 jk_4 ?_
    refine z_imul rfl rfl jk_4 (by omega) (fun v3 ev3 => ?_)
    refine x_iloadn (x := 3) rfl rfl ?_
    refine z_iadd rfl rfl jk_3 (by omega) (fun v4 ev4 => ?_)
    refine x_iloadn (x := a3) rfl rfl ?_
    refine z_iast (N := 400) (l := 0) (u := 400) (w := a3.toInt) rfl hD J Sm rfl rfl rfl (by omega) rfl (wr_62 (fun q1 q2 q3 q4 => by omega) (fun q1 q2 q3 q4 => by omega) (fun q1 q2 q3 q4 => by omega) (fun q1 q2 q3 q4 => by omega)) rfl (fun h w5 J Sm => ?_)
    exact jX.sub jsb_n (ct_X8_put_r61_c3_38 hD hQ  h J Sm)
def fp_X8_put_r61_c4 : jFp := []
set_option maxRecDepth 100000 in
set_option maxHeartbeats 4000000 in
theorem ct_X8_put_r61_c4_38 {Dy : jH → Prop} {h0 : jH} {Q : Option Value → jH → Prop} (hD : jDk Dy) (hQ : ∀ hx9, jJ jSgX Dy hx9 → jSm fp_X8_put_r61_c4 h0 hx9 → Q none hx9) : ∀ (h : jH), jJ jSgX Dy h → jSm fp_X8_put_r61_c4 h0 h → jX m_X8_put 1 0 0 38 [] [] h 0 0 Q := by
  intro  h    J Sm
  refine x_vret rfl rfl ?_
  exact hQ _ J Sm
set_option maxRecDepth 100000 in
set_option maxHeartbeats 4000000 in
theorem sf_X8_put_r61_c4 {Dy : jH → Prop} {h : jH} {Q : Option Value → jH → Prop} {a1 : Int32} {a3 : Int32} (y1 : 0 ≤ a1.toInt ∧ a1.toInt ≤ 99) (y3 : 0 ≤ a3.toInt ∧ a3.toInt ≤ 0) (hD : jDk Dy) (J : jJ jSgX Dy h) (hQ : ∀ hx9, jJ jSgX Dy hx9 → jSm fp_X8_put_r61_c4 h hx9 → Q none hx9) : jC m_X8_put 1 0 0 [.ref 61, .int a1, .int 4, .int a3] h Q := by
  refine jC.of rfl k_X8_put rfl ?_
  have Sm := jSm_rf fp_X8_put_r61_c4 h
  show jX m_X8_put 1 0 0 0 [(0, .ref 61), (1, .int a1), (2, .int 4), (3, .int a3)] [] _ 0 0 _
  refine x_iloadn (x := a1) rfl rfl ?_
  refine x_iflt (tgt := 38) rfl rfl (ti_lt rfl jk_0 (br_f (by omega) ?_))
  refine x_iloadn (x := a1) rfl rfl ?_
  refine x_aloadn (x := 61) rfl rfl ?_
  refine z_getI (N := 4) 8 3 rfl f_8_7 rfl J rfl sg_61_3_4_1_0_1 (fun v1 qv1 ev1 => ?_)
  refine x_icge (tgt := 38) rfl rfl (ti_ge rfl rfl ⟨fun c2 => ?_, fun c2 => ?_⟩)
  ·
    exact jX.sub jsb_n (ct_X8_put_r61_c4_38 hD hQ  h J Sm)
  ·
    refine x_iloadn (x := 4) rfl rfl ?_
    refine x_iflt (tgt := 38) rfl rfl (ti_lt jk_4 jk_0 (br_f (by omega) ?_))
    refine x_iloadn (x := 4) rfl rfl ?_
    refine x_aloadn (x := 61) rfl rfl ?_
    refine z_getC (N := 4) (v := 4) 8 0 rfl f_8_19 rfl J rfl sg_61_0_1_1_0_1 jk_4 ?_
    refine x_icge (tgt := 38) rfl rfl (ti_ge jk_4 jk_4 (br_t (by omega) ?_))
    exact jX.sub jsb_n (ct_X8_put_r61_c4_38 hD hQ  h J Sm)
def fp_X8_put_r61_c5 : jFp := []
set_option maxRecDepth 100000 in
set_option maxHeartbeats 4000000 in
theorem ct_X8_put_r61_c5_38 {Dy : jH → Prop} {h0 : jH} {Q : Option Value → jH → Prop} (hD : jDk Dy) (hQ : ∀ hx9, jJ jSgX Dy hx9 → jSm fp_X8_put_r61_c5 h0 hx9 → Q none hx9) : ∀ (h : jH), jJ jSgX Dy h → jSm fp_X8_put_r61_c5 h0 h → jX m_X8_put 1 0 0 38 [] [] h 0 0 Q := by
  intro  h    J Sm
  refine x_vret rfl rfl ?_
  exact hQ _ J Sm
set_option maxRecDepth 100000 in
set_option maxHeartbeats 4000000 in
theorem sf_X8_put_r61_c5 {Dy : jH → Prop} {h : jH} {Q : Option Value → jH → Prop} {a1 : Int32} {a3 : Int32} (y1 : 0 ≤ a1.toInt ∧ a1.toInt ≤ 99) (y3 : 0 ≤ a3.toInt ∧ a3.toInt ≤ 0) (hD : jDk Dy) (J : jJ jSgX Dy h) (hQ : ∀ hx9, jJ jSgX Dy hx9 → jSm fp_X8_put_r61_c5 h hx9 → Q none hx9) : jC m_X8_put 1 0 0 [.ref 61, .int a1, .int 5, .int a3] h Q := by
  refine jC.of rfl k_X8_put rfl ?_
  have Sm := jSm_rf fp_X8_put_r61_c5 h
  show jX m_X8_put 1 0 0 0 [(0, .ref 61), (1, .int a1), (2, .int 5), (3, .int a3)] [] _ 0 0 _
  refine x_iloadn (x := a1) rfl rfl ?_
  refine x_iflt (tgt := 38) rfl rfl (ti_lt rfl jk_0 (br_f (by omega) ?_))
  refine x_iloadn (x := a1) rfl rfl ?_
  refine x_aloadn (x := 61) rfl rfl ?_
  refine z_getI (N := 4) 8 3 rfl f_8_7 rfl J rfl sg_61_3_4_1_0_1 (fun v1 qv1 ev1 => ?_)
  refine x_icge (tgt := 38) rfl rfl (ti_ge rfl rfl ⟨fun c2 => ?_, fun c2 => ?_⟩)
  ·
    exact jX.sub jsb_n (ct_X8_put_r61_c5_38 hD hQ  h J Sm)
  ·
    refine x_iloadn (x := 5) rfl rfl ?_
    refine x_iflt (tgt := 38) rfl rfl (ti_lt jk_5 jk_0 (br_f (by omega) ?_))
    refine x_iloadn (x := 5) rfl rfl ?_
    refine x_aloadn (x := 61) rfl rfl ?_
    refine z_getC (N := 4) (v := 4) 8 0 rfl f_8_19 rfl J rfl sg_61_0_1_1_0_1 jk_4 ?_
    refine x_icge (tgt := 38) rfl rfl (ti_ge jk_5 jk_4 (br_t (by omega) ?_))
    exact jX.sub jsb_n (ct_X8_put_r61_c5_38 hD hQ  h J Sm)
def fp_X8_add_r61 : jFp := [(61, 3, 4), (62, 0, 400)]
set_option maxRecDepth 100000 in
set_option maxHeartbeats 4000000 in
theorem sf_X8_add_r61 {Dy : jH → Prop} {h : jH} {Q : Option Value → jH → Prop} {a1 : Int32} {a2 : Int32} {a3 : Int32} {a4 : Int32} {a5 : Int32} {a6 : Int32} (y1 : 0 ≤ a1.toInt ∧ a1.toInt ≤ 146399) (y2 : 0 ≤ a2.toInt ∧ a2.toInt ≤ 399) (y3 : 0 ≤ a3.toInt ∧ a3.toInt ≤ 2) (y4 : 0 ≤ a4.toInt ∧ a4.toInt ≤ 10000) (y5 : 0 ≤ a5.toInt ∧ a5.toInt ≤ 0) (y6 : 0 ≤ a6.toInt ∧ a6.toInt ≤ 0) (hD : jDk Dy) (J : jJ jSgX Dy h) (hQ : ∀ hx9, jJ jSgX Dy hx9 → jSm fp_X8_add_r61 h hx9 → Q none hx9) : jC m_X8_add 2 0 0 [.ref 61, .int a1, .int a2, .int a3, .int a4, .int a5, .int a6] h Q := by
  refine jC.of rfl k_X8_add rfl ?_
  have Sm := jSm_rf fp_X8_add_r61 h
  show jX m_X8_add 2 0 0 0 [(0, .ref 61), (1, .int a1), (2, .int a2), (3, .int a3), (4, .int a4), (5, .int a5), (6, .int a6)] [] _ 0 0 _
  refine x_aloadn (x := 61) rfl rfl ?_
  refine z_getI (N := 4) 8 3 rfl f_8_7 rfl J rfl sg_61_3_4_1_0_1 (fun v1 qv1 ev1 => ?_)
  refine x_aloadn (x := 61) rfl rfl ?_
  refine z_getC (N := 4) (v := 100) 8 1 rfl f_8_22 rfl J rfl sg_61_1_2_1_0_1 jk_100 ?_
  refine x_iclt (tgt := 12) rfl rfl (ti_lt rfl jk_100 ⟨fun c2 => ?_, fun c2 => ?_⟩)
  ·
    refine x_aloadn (x := 61) rfl rfl ?_
    refine z_getM (N := 4) (v := v1) 8 3 rfl f_8_7 rfl J rfl qv1 ?_
    refine x_istore (lsx9 := [(7, .int v1), (0, .ref 61), (1, .int a1), (2, .int a2), (3, .int a3), (4, .int a4), (5, .int a5), (6, .int a6)]) rfl rfl rfl ?_
    refine x_aloadn (x := 61) rfl rfl ?_
    refine x_iload (x := v1) rfl rfl ?_
    refine x_iconst (v := 1) rfl ki_1 ?_
    refine z_iadd rfl rfl jk_1 (by omega) (fun v3 ev3 => ?_)
    refine z_putI (N := 4) (w := v3.toInt) 8 3 rfl f_8_7 rfl (jfin_no TX8 RX8 4 rfl rfl) hD J Sm rfl rfl rfl (pw_61_3 (by omega)) rfl (fun h w4 J Sm => ?_)
    refine x_aloadn (x := 61) rfl rfl ?_
    refine x_iload (x := v1) rfl rfl ?_
    refine x_iconst (v := 0) rfl ki_0 ?_
    refine x_iloadn (x := a1) rfl rfl ?_
    refine x_inv (N := m_X8_put) (As := [.int v1, .int 0, .int a1]) (b := 61) (st := []) (dx9 := 1) (mc := 0) (ms := 0) (host := "") 8 rfl t_X8_put ⟨Or.inl q_8_29, i_X8_put.1, i_X8_put.2⟩ ⟨by decide, rfl⟩ (congrArg Prod.fst (J.1.1 61 (8, 4) rfl)) rfl (by decide) rfl rfl ⟨by decide, by decide⟩ (sf_X8_put_r61_c0 (jr_of rfl (by omega)) (jr_of rfl (by omega)) hD J  (fun h J S5 => ?_))
    have Sm := jSm_tr rfl Sm S5
    show jX m_X8_add 2 0 0 34 [(7, .int v1), (0, .ref 61), (1, .int a1), (2, .int a2), (3, .int a3), (4, .int a4), (5, .int a5), (6, .int a6)] [] _ 0 0 _
    refine x_aloadn (x := 61) rfl rfl ?_
    refine x_iload (x := v1) rfl rfl ?_
    refine x_iconst (v := 1) rfl ki_1 ?_
    refine x_iloadn (x := a2) rfl rfl ?_
    refine x_inv (N := m_X8_put) (As := [.int v1, .int 1, .int a2]) (b := 61) (st := []) (dx9 := 1) (mc := 0) (ms := 0) (host := "") 8 rfl t_X8_put ⟨Or.inl q_8_29, i_X8_put.1, i_X8_put.2⟩ ⟨by decide, rfl⟩ (congrArg Prod.fst (J.1.1 61 (8, 4) rfl)) rfl (by decide) rfl rfl ⟨by decide, by decide⟩ (sf_X8_put_r61_c1 (jr_of rfl (by omega)) (jr_of rfl (by omega)) hD J  (fun h J S6 => ?_))
    have Sm := jSm_tr rfl Sm S6
    show jX m_X8_add 2 0 0 42 [(7, .int v1), (0, .ref 61), (1, .int a1), (2, .int a2), (3, .int a3), (4, .int a4), (5, .int a5), (6, .int a6)] [] _ 0 0 _
    refine x_aloadn (x := 61) rfl rfl ?_
    refine x_iload (x := v1) rfl rfl ?_
    refine x_iconst (v := 2) rfl ki_2 ?_
    refine x_iloadn (x := a3) rfl rfl ?_
    refine x_inv (N := m_X8_put) (As := [.int v1, .int 2, .int a3]) (b := 61) (st := []) (dx9 := 1) (mc := 0) (ms := 0) (host := "") 8 rfl t_X8_put ⟨Or.inl q_8_29, i_X8_put.1, i_X8_put.2⟩ ⟨by decide, rfl⟩ (congrArg Prod.fst (J.1.1 61 (8, 4) rfl)) rfl (by decide) rfl rfl ⟨by decide, by decide⟩ (sf_X8_put_r61_c2 (jr_of rfl (by omega)) (jr_of rfl (by omega)) hD J  (fun h J S7 => ?_))
    have Sm := jSm_tr rfl Sm S7
    show jX m_X8_add 2 0 0 50 [(7, .int v1), (0, .ref 61), (1, .int a1), (2, .int a2), (3, .int a3), (4, .int a4), (5, .int a5), (6, .int a6)] [] _ 0 0 _
    refine x_aloadn (x := 61) rfl rfl ?_
    refine x_iload (x := v1) rfl rfl ?_
    refine x_iconst (v := 3) rfl ki_3 ?_
    refine x_iload (x := a4) rfl rfl ?_
    refine x_inv (N := m_X8_put) (As := [.int v1, .int 3, .int a4]) (b := 61) (st := []) (dx9 := 1) (mc := 0) (ms := 0) (host := "") 8 rfl t_X8_put ⟨Or.inl q_8_29, i_X8_put.1, i_X8_put.2⟩ ⟨by decide, rfl⟩ (congrArg Prod.fst (J.1.1 61 (8, 4) rfl)) rfl (by decide) rfl rfl ⟨by decide, by decide⟩ (sf_X8_put_r61_c3 (jr_of rfl (by omega)) (jr_of rfl (by omega)) hD J  (fun h J S8 => ?_))
    have Sm := jSm_tr rfl Sm S8
    show jX m_X8_add 2 0 0 59 [(7, .int v1), (0, .ref 61), (1, .int a1), (2, .int a2), (3, .int a3), (4, .int a4), (5, .int a5), (6, .int a6)] [] _ 0 0 _
    refine x_aloadn (x := 61) rfl rfl ?_
    refine x_iload (x := v1) rfl rfl ?_
    refine x_iconst (v := 4) rfl ki_4 ?_
    refine x_iload (x := a5) rfl rfl ?_
    refine x_inv (N := m_X8_put) (As := [.int v1, .int 4, .int a5]) (b := 61) (st := []) (dx9 := 1) (mc := 0) (ms := 0) (host := "") 8 rfl t_X8_put ⟨Or.inl q_8_29, i_X8_put.1, i_X8_put.2⟩ ⟨by decide, rfl⟩ (congrArg Prod.fst (J.1.1 61 (8, 4) rfl)) rfl (by decide) rfl rfl ⟨by decide, by decide⟩ (sf_X8_put_r61_c4 (jr_of rfl (by omega)) (jr_of rfl (by omega)) hD J  (fun h J S9 => ?_))
    have Sm := jSm_tr rfl Sm S9
    show jX m_X8_add 2 0 0 68 [(7, .int v1), (0, .ref 61), (1, .int a1), (2, .int a2), (3, .int a3), (4, .int a4), (5, .int a5), (6, .int a6)] [] _ 0 0 _
    refine x_aloadn (x := 61) rfl rfl ?_
    refine x_iload (x := v1) rfl rfl ?_
    refine x_iconst (v := 5) rfl ki_5 ?_
    refine x_iload (x := a6) rfl rfl ?_
    refine x_inv (N := m_X8_put) (As := [.int v1, .int 5, .int a6]) (b := 61) (st := []) (dx9 := 1) (mc := 0) (ms := 0) (host := "") 8 rfl t_X8_put ⟨Or.inl q_8_29, i_X8_put.1, i_X8_put.2⟩ ⟨by decide, rfl⟩ (congrArg Prod.fst (J.1.1 61 (8, 4) rfl)) rfl (by decide) rfl rfl ⟨by decide, by decide⟩ (sf_X8_put_r61_c5 (jr_of rfl (by omega)) (jr_of rfl (by omega)) hD J  (fun h J S10 => ?_))
    have Sm := jSm_tr rfl Sm S10
    show jX m_X8_add 2 0 0 77 [(7, .int v1), (0, .ref 61), (1, .int a1), (2, .int a2), (3, .int a3), (4, .int a4), (5, .int a5), (6, .int a6)] [] _ 0 0 _
    refine x_vret rfl rfl ?_
    exact hQ _ J Sm
  ·
    refine x_vret rfl rfl ?_
    exact hQ _ J Sm
def fp_X8_isFull_r61 : jFp := []
set_option maxRecDepth 100000 in
set_option maxHeartbeats 4000000 in
theorem ct_X8_isFull_r61_200016 {Dy : jH → Prop} {h0 : jH} {Q : Option Value → jH → Prop} (hD : jDk Dy) (hQ : ∀ (v : Int32) hx9, 0 ≤ v.toInt ∧ v.toInt ≤ 1 → jJ jSgX Dy hx9 → jSm fp_X8_isFull_r61 h0 hx9 → Q (some (.int v)) hx9) : ∀ (h : jH), jJ jSgX Dy h → jSm fp_X8_isFull_r61 h0 h → jX m_X8_isFull 1 0 0 16 [] [.int 0] h 0 0 Q := by
  intro  h    J Sm
  refine x_zret rfl rfl (by decide) ?_
  exact hQ _ _ (jr_of jk_0 (by omega)) J Sm
set_option maxRecDepth 100000 in
set_option maxHeartbeats 4000000 in
theorem ct_X8_isFull_r61_300016 {Dy : jH → Prop} {h0 : jH} {Q : Option Value → jH → Prop} (hD : jDk Dy) (hQ : ∀ (v : Int32) hx9, 0 ≤ v.toInt ∧ v.toInt ≤ 1 → jJ jSgX Dy hx9 → jSm fp_X8_isFull_r61 h0 hx9 → Q (some (.int v)) hx9) : ∀ (h : jH), jJ jSgX Dy h → jSm fp_X8_isFull_r61 h0 h → jX m_X8_isFull 1 0 0 16 [] [.int 1] h 0 0 Q := by
  intro  h    J Sm
  refine x_zret rfl rfl (by decide) ?_
  exact hQ _ _ (jr_of jk_1 (by omega)) J Sm
set_option maxRecDepth 100000 in
set_option maxHeartbeats 4000000 in
theorem sf_X8_isFull_r61 {Dy : jH → Prop} {h : jH} {Q : Option Value → jH → Prop} (hD : jDk Dy) (J : jJ jSgX Dy h) (hQ : ∀ (v : Int32) hx9, 0 ≤ v.toInt ∧ v.toInt ≤ 1 → jJ jSgX Dy hx9 → jSm fp_X8_isFull_r61 h hx9 → Q (some (.int v)) hx9) : jC m_X8_isFull 1 0 0 [.ref 61] h Q := by
  refine jC.of rfl k_X8_isFull rfl ?_
  have Sm := jSm_rf fp_X8_isFull_r61 h
  show jX m_X8_isFull 1 0 0 0 [(0, .ref 61)] [] _ 0 0 _
  refine x_aloadn (x := 61) rfl rfl ?_
  refine z_getI (N := 4) 8 3 rfl f_8_7 rfl J rfl sg_61_3_4_1_0_1 (fun v1 qv1 ev1 => ?_)
  refine x_aloadn (x := 61) rfl rfl ?_
  refine z_getC (N := 4) (v := 100) 8 1 rfl f_8_22 rfl J rfl sg_61_1_2_1_0_1 jk_100 ?_
  refine x_iclt (tgt := 15) rfl rfl (ti_lt rfl jk_100 ⟨fun c2 => ?_, fun c2 => ?_⟩)
  ·
    refine x_iconst (v := 0) rfl ki_0 ?_
    exact jX.sub jsb_n (ct_X8_isFull_r61_200016 hD hQ  h J Sm)
  ·
    refine x_iconst (v := 1) rfl ki_1 ?_
    refine x_goto (tgt := 16) rfl rfl ?_
    exact jX.sub jsb_n (ct_X8_isFull_r61_300016 hD hQ  h J Sm)
def fp_X11_price_r31 : jFp := [(31, 12, 13), (32, 19, 20), (61, 3, 4), (62, 0, 400)]
set_option maxRecDepth 100000 in
set_option maxHeartbeats 4000000 in
theorem ct_X11_price_r31_33 {Dy : jH → Prop} {h0 : jH} {Q : Option Value → jH → Prop} (hD : jDk Dy) (hQ : ∀ (v : Int32) hx9, (-366) ≤ v.toInt ∧ v.toInt ≤ 100 → jJ jSgX Dy hx9 → jSm fp_X11_price_r31 h0 hx9 → Q (some (.int v)) hx9) : ∀ (h : jH), jJ jSgX Dy h → jSm fp_X11_price_r31 h0 h → jX m_X11_price 3 0 0 33 [(0, .ref 31)] [] h 0 0 Q := by
  intro  h    J Sm
  refine x_aloadn (x := 31) rfl rfl ?_
  refine x_iconst (v := (-1)) rfl ki_m1 ?_
  refine x_inv (N := m_X11_refuse) (As := [.int (-1)]) (b := 31) (st := []) (dx9 := 2) (mc := 0) (ms := 0) (host := "") 11 rfl t_X11_refuse ⟨Or.inl q_11_206, i_X11_refuse.1, i_X11_refuse.2⟩ ⟨by decide, rfl⟩ (congrArg Prod.fst (J.1.1 31 (11, 13) rfl)) rfl (by decide) rfl rfl ⟨by decide, by decide⟩ (jC.of rfl k_X11_refuse rfl ?_)
  show jX m_X11_refuse 2 0 0 0 [(0, .ref 31), (1, .int (-1))] [] _ 0 0 _
  refine x_aloadn (x := 31) rfl rfl ?_
  refine x_iloadn (x := (-1)) rfl rfl ?_
  refine z_putI (N := 13) (w := (-1)) 11 12 rfl f_11_94 rfl (jfin_no TX11 RX11 13 rfl rfl) hD J Sm rfl rfl jk_m1 (pw_31_12 (by omega)) rfl (fun h w1 J Sm => ?_)
  refine x_iloadn (x := (-1)) rfl rfl ?_
  refine x_iret rfl rfl ?_
  show jX m_X11_price 3 0 0 38 [(0, .ref 31)] [.int (-1)] _ 0 0 _
  refine x_iret rfl rfl ?_
  exact hQ _ _ (jr_of jk_m1 (by omega)) J Sm
set_option maxRecDepth 100000 in
set_option maxHeartbeats 4000000 in
theorem sf_X11_price_r31 {Dy : jH → Prop} {h : jH} {Q : Option Value → jH → Prop} {a1 : Int32} {a2 : Int32} {a3 : Int32} {a4 : Int32} (hD : jDk Dy) (J : jJ jSgX Dy h) (hQ : ∀ (v : Int32) hx9, (-366) ≤ v.toInt ∧ v.toInt ≤ 100 → jJ jSgX Dy hx9 → jSm fp_X11_price_r31 h hx9 → Q (some (.int v)) hx9) : jC m_X11_price 3 0 0 [.ref 31, .int a1, .int a2, .int a3, .int a4] h Q := by
  refine jC.of rfl k_X11_price rfl ?_
  have Sm := jSm_rf fp_X11_price_r31 h
  have ea1 := jfull a1
  have ea2 := jfull a2
  have ea3 := jfull a3
  have ea4 := jfull a4
  show jX m_X11_price 3 0 0 0 [(0, .ref 31), (1, .int a1), (2, .int a2), (3, .int a3), (4, .int a4)] [] _ 0 0 _
  refine x_iloadn (x := a1) rfl rfl ?_
  refine x_inst (N := m_X11_isCrop) (As := [.int a1]) (st := []) (dx9 := 1) (mc := 0) (ms := 0) (host := "") rfl t_X11_isCrop ⟨Or.inl q_11_500, s_X11_isCrop⟩ rfl (by decide) rfl rfl ⟨by decide, by decide⟩ (zc_X11_isCrop rfl (fun v1 ev1 => ?_))
  show jX m_X11_price 3 0 0 4 [(0, .ref 31), (1, .int a1), (2, .int a2), (3, .int a3), (4, .int a4)] [.int v1] _ 0 0 _
  refine x_ifeq (tgt := 33) rfl rfl (ti_eq rfl jk_0 ⟨fun c2 => ?_, fun c2 => ?_⟩)
  ·
    exact jX.sub (jsb_c rfl jsb_n) (ct_X11_price_r31_33 hD hQ  h J Sm)
  ·
    refine x_iloadn (x := a2) rfl rfl ?_
    refine x_inst (N := m_X11_isYear) (As := [.int a2]) (st := []) (dx9 := 1) (mc := 0) (ms := 0) (host := "") rfl t_X11_isYear ⟨Or.inl q_11_433, s_X11_isYear⟩ rfl (by decide) rfl rfl ⟨by decide, by decide⟩ (zc_X11_isYear rfl (fun v3 ev3 => ?_))
    show jX m_X11_price 3 0 0 11 [(0, .ref 31), (1, .int a1), (2, .int a2), (3, .int a3), (4, .int a4)] [.int v3] _ 0 0 _
    refine x_ifeq (tgt := 33) rfl rfl (ti_eq rfl jk_0 ⟨fun c4 => ?_, fun c4 => ?_⟩)
    ·
      exact jX.sub (jsb_c rfl jsb_n) (ct_X11_price_r31_33 hD hQ  h J Sm)
    ·
      refine x_iloadn (x := a3) rfl rfl ?_
      refine x_iconst (v := 0) rfl ki_0 ?_
      refine x_sipush (v := 10000) rfl ks_10000 ?_
      refine x_inst (N := m_X11_isWithin) (As := [.int a3, .int 0, .int 10000]) (st := []) (dx9 := 1) (mc := 0) (ms := 0) (host := "") rfl t_X11_isWithin ⟨Or.inl q_11_202, s_X11_isWithin⟩ rfl (by decide) rfl rfl ⟨by decide, by decide⟩ (zc_X11_isWithin rfl jk_0 jk_10000 (fun v5 ev5 => ?_))
      show jX m_X11_price 3 0 0 22 [(0, .ref 31), (1, .int a1), (2, .int a2), (3, .int a3), (4, .int a4)] [.int v5] _ 0 0 _
      refine x_ifeq (tgt := 33) rfl rfl (ti_eq rfl jk_0 ⟨fun c6 => ?_, fun c6 => ?_⟩)
      ·
        exact jX.sub (jsb_c rfl jsb_n) (ct_X11_price_r31_33 hD hQ  h J Sm)
      ·
        refine x_iload (x := a4) rfl rfl ?_
        refine x_inst (N := m_X11_isDay) (As := [.int a4]) (st := []) (dx9 := 1) (mc := 0) (ms := 0) (host := "") rfl t_X11_isDay ⟨Or.inl q_11_115, s_X11_isDay⟩ rfl (by decide) rfl rfl ⟨by decide, by decide⟩ (zc_X11_isDay rfl (fun v7 ev7 => ?_))
        show jX m_X11_price 3 0 0 30 [(0, .ref 31), (1, .int a1), (2, .int a2), (3, .int a3), (4, .int a4)] [.int v7] _ 0 0 _
        refine x_ifne (tgt := 39) rfl rfl (ti_ne rfl jk_0 ⟨fun c8 => ?_, fun c8 => ?_⟩)
        ·
          refine x_aloadn (x := 31) rfl rfl ?_
          refine z_getR (N := 13) (b := 32) 11 0 rfl f_11_10 rfl J rfl 3968 ⟨rfl, rfl⟩ rfl ?_
          refine z_getR (N := 20) (b := 61) 1 14 rfl f_11_503 rfl J rfl 4110 ⟨rfl, rfl⟩ rfl ?_
          refine x_inv (N := m_X8_isFull) (As := []) (b := 61) (st := []) (dx9 := 1) (mc := 0) (ms := 0) (host := "") 8 rfl t_X8_isFull ⟨Or.inl q_11_130, i_X8_isFull.1, i_X8_isFull.2⟩ ⟨by decide, rfl⟩ (congrArg Prod.fst (J.1.1 61 (8, 4) rfl)) rfl (by decide) rfl rfl ⟨by decide, by decide⟩ (sf_X8_isFull_r61  hD J  (fun v10 h ev10 J S9 => ?_))
          have Sm := jSm_tr rfl Sm S9
          show jX m_X11_price 3 0 0 49 [(0, .ref 31), (1, .int a1), (2, .int a2), (3, .int a3), (4, .int a4)] [.int v10] _ 0 0 _
          refine x_ifeq (tgt := 59) rfl rfl (ti_eq rfl jk_0 ⟨fun c11 => ?_, fun c11 => ?_⟩)
          ·
            refine x_aloadn (x := 31) rfl rfl ?_
            refine z_getR (N := 13) (b := 32) 11 0 rfl f_11_10 rfl J rfl 3968 ⟨rfl, rfl⟩ rfl ?_
            refine z_getR (N := 20) (b := 61) 1 14 rfl f_11_503 rfl J rfl 4110 ⟨rfl, rfl⟩ rfl ?_
            refine x_iload (x := a4) rfl rfl ?_
            refine x_iloadn (x := a2) rfl rfl ?_
            refine x_iloadn (x := a1) rfl rfl ?_
            refine x_iloadn (x := a3) rfl rfl ?_
            refine x_iconst (v := 0) rfl ki_0 ?_
            refine x_iconst (v := 0) rfl ki_0 ?_
            refine x_inv (N := m_X8_add) (As := [.int a4, .int a2, .int a1, .int a3, .int 0, .int 0]) (b := 61) (st := []) (dx9 := 2) (mc := 0) (ms := 0) (host := "") 8 rfl t_X8_add ⟨Or.inl q_11_145, i_X8_add.1, i_X8_add.2⟩ ⟨by decide, rfl⟩ (congrArg Prod.fst (J.1.1 61 (8, 4) rfl)) rfl (by decide) rfl rfl ⟨by decide, by decide⟩ (sf_X8_add_r61 (jr_of rfl (by omega)) (jr_of rfl (by omega)) (jr_of rfl (by omega)) (jr_of rfl (by omega)) (jr_of jk_0 (by omega)) (jr_of jk_0 (by omega)) hD J  (fun h J S12 => ?_))
            have Sm := jSm_tr rfl Sm S12
            show jX m_X11_price 3 0 0 76 [(0, .ref 31), (1, .int a1), (2, .int a2), (3, .int a3), (4, .int a4)] [] _ 0 0 _
            refine x_aloadn (x := 31) rfl rfl ?_
            refine x_aloadn (x := 31) rfl rfl ?_
            refine z_getR (N := 13) (b := 32) 11 0 rfl f_11_10 rfl J rfl 3968 ⟨rfl, rfl⟩ rfl ?_
            refine z_getR (N := 20) (b := 61) 1 14 rfl f_11_503 rfl J rfl 4110 ⟨rfl, rfl⟩ rfl ?_
            refine z_getI (N := 4) 8 3 rfl f_11_142 rfl J rfl sg_61_3_4_1_0_1 (fun v13 qv13 ev13 => ?_)
            refine x_inv (N := m_X11_accept) (As := [.int v13]) (b := 31) (st := []) (dx9 := 2) (mc := 0) (ms := 0) (host := "") 11 rfl t_X11_accept ⟨Or.inl q_11_165, i_X11_accept.1, i_X11_accept.2⟩ ⟨by decide, rfl⟩ (congrArg Prod.fst (J.1.1 31 (11, 13) rfl)) rfl (by decide) rfl rfl ⟨by decide, by decide⟩ (jC.of rfl k_X11_accept rfl ?_)
            show jX m_X11_accept 2 0 0 0 [(0, .ref 31), (1, .int v13)] [] _ 0 0 _
            refine x_aloadn (x := 31) rfl rfl ?_
            refine x_iconst (v := 0) rfl ki_0 ?_
            refine z_putI (N := 13) (w := 0) 11 12 rfl f_11_94 rfl (jfin_no TX11 RX11 13 rfl rfl) hD J Sm rfl rfl jk_0 (pw_31_12 (by omega)) rfl (fun h w14 J Sm => ?_)
            refine x_aloadn (x := 31) rfl rfl ?_
            refine z_getR (N := 13) (b := 32) 11 0 rfl f_11_10 rfl J rfl 3968 ⟨rfl, rfl⟩ rfl ?_
            refine x_dup rfl rfl ?_
            refine z_getI0 (N := 20) 1 19 rfl f_11_528 rfl J rfl (fun v15 qv15 => ?_)
            have ev15 := jfull v15
            refine x_iconst (v := 1) rfl ki_1 ?_
            refine z_iadd0 rfl (fun v16 => ?_)
            have ev16 := jfull v16
            refine z_putI (N := 20) (w := v16.toInt) 1 19 rfl f_11_528 rfl (jfin_no TX1 RX1 20 rfl rfl) hD J Sm rfl rfl rfl (pw_32_19 trivial) rfl (fun h w17 J Sm => ?_)
            refine x_iloadn (x := v13) rfl rfl ?_
            refine x_iret rfl rfl ?_
            show jX m_X11_price 3 0 0 90 [(0, .ref 31), (1, .int a1), (2, .int a2), (3, .int a3), (4, .int a4)] [.int v13] _ 0 0 _
            refine x_iret rfl rfl ?_
            exact hQ _ _ (jr_of rfl (by omega)) J Sm
          ·
            refine x_aloadn (x := 31) rfl rfl ?_
            refine x_bipush (v := (-5)) rfl kb_m5 ?_
            refine x_inv (N := m_X11_refuse) (As := [.int (-5)]) (b := 31) (st := []) (dx9 := 2) (mc := 0) (ms := 0) (host := "") 11 rfl t_X11_refuse ⟨Or.inl q_11_206, i_X11_refuse.1, i_X11_refuse.2⟩ ⟨by decide, rfl⟩ (congrArg Prod.fst (J.1.1 31 (11, 13) rfl)) rfl (by decide) rfl rfl ⟨by decide, by decide⟩ (jC.of rfl k_X11_refuse rfl ?_)
            show jX m_X11_refuse 2 0 0 0 [(0, .ref 31), (1, .int (-5))] [] _ 0 0 _
            refine x_aloadn (x := 31) rfl rfl ?_
            refine x_iloadn (x := (-5)) rfl rfl ?_
            refine z_putI (N := 13) (w := (-5)) 11 12 rfl f_11_94 rfl (jfin_no TX11 RX11 13 rfl rfl) hD J Sm rfl rfl jk_m5 (pw_31_12 (by omega)) rfl (fun h w18 J Sm => ?_)
            refine x_iloadn (x := (-5)) rfl rfl ?_
            refine x_iret rfl rfl ?_
            show jX m_X11_price 3 0 0 58 [(0, .ref 31), (1, .int a1), (2, .int a2), (3, .int a3), (4, .int a4)] [.int (-5)] _ 0 0 _
            refine x_iret rfl rfl ?_
            exact hQ _ _ (jr_of jk_m5 (by omega)) J Sm
        ·
          exact jX.sub (jsb_c rfl jsb_n) (ct_X11_price_r31_33 hD hQ  h J Sm)
def fp_X11_reason_r31 : jFp := []
set_option maxRecDepth 100000 in
set_option maxHeartbeats 4000000 in
theorem ct_X11_reason_r31_22 {Dy : jH → Prop} {h0 : jH} {Q : Option Value → jH → Prop} (hD : jDk Dy) (hQ : ∀ (v : Int32) hx9, (-1) ≤ v.toInt ∧ v.toInt ≤ 7 → jJ jSgX Dy hx9 → jSm fp_X11_reason_r31 h0 hx9 → Q (some (.int v)) hx9) : ∀ (h : jH), jJ jSgX Dy h → jSm fp_X11_reason_r31 h0 h → jX m_X11_reason 4 0 0 22 [] [] h 0 0 Q := by
  intro  h    J Sm
  refine x_iconst (v := (-1)) rfl ki_m1 ?_
  refine x_iret rfl rfl ?_
  exact hQ _ _ (jr_of jk_m1 (by omega)) J Sm
set_option maxRecDepth 100000 in
set_option maxHeartbeats 4000000 in
theorem sf_X11_reason_r31 {Dy : jH → Prop} {h : jH} {Q : Option Value → jH → Prop} {a1 : Int32} {a2 : Int32} (hD : jDk Dy) (J : jJ jSgX Dy h) (hQ : ∀ (v : Int32) hx9, (-1) ≤ v.toInt ∧ v.toInt ≤ 7 → jJ jSgX Dy hx9 → jSm fp_X11_reason_r31 h hx9 → Q (some (.int v)) hx9) : jC m_X11_reason 4 0 0 [.ref 31, .int a1, .int a2] h Q := by
  refine jC.of rfl k_X11_reason rfl ?_
  have Sm := jSm_rf fp_X11_reason_r31 h
  have ea1 := jfull a1
  have ea2 := jfull a2
  show jX m_X11_reason 4 0 0 0 [(0, .ref 31), (1, .int a1), (2, .int a2)] [] _ 0 0 _
  refine x_aloadn (x := 31) rfl rfl ?_
  refine z_getR (N := 13) (b := 78) 11 4 rfl f_11_41 rfl J rfl 3972 ⟨rfl, rfl⟩ rfl ?_
  refine x_iloadn (x := a1) rfl rfl ?_
  refine x_inv (N := m_X7_isMention) (As := [.int a1]) (b := 78) (st := []) (dx9 := 3) (mc := 0) (ms := 0) (host := "") 7 rfl t_X7_isMention ⟨Or.inl q_11_187, i_X7_isMention.1, i_X7_isMention.2⟩ ⟨by decide, rfl⟩ (congrArg Prod.fst (J.1.1 78 (7, 16) rfl)) rfl (by decide) rfl rfl ⟨by decide, by decide⟩ (jC.of rfl k_X7_isMention rfl ?_)
  show jX m_X7_isMention 3 0 0 0 [(0, .ref 78), (1, .int a1)] [] _ 0 0 _
  refine x_iloadn (x := a1) rfl rfl ?_
  refine x_iflt (tgt := 41) rfl rfl (ti_lt rfl jk_0 ⟨fun c1 => ?_, fun c1 => ?_⟩)
  ·
    refine x_iconst (v := 0) rfl ki_0 ?_
    refine x_zret rfl rfl (by decide) ?_
    show jX m_X11_reason 4 0 0 8 [(0, .ref 31), (1, .int a1), (2, .int a2)] [.int 0] _ 0 0 _
    refine x_ifeq (tgt := 22) rfl rfl (ti_eq jk_0 jk_0 (br_t (by omega) ?_))
    exact jX.sub jsb_n (ct_X11_reason_r31_22 hD hQ  h J Sm)
  ·
    refine x_iloadn (x := a1) rfl rfl ?_
    refine x_sipush (v := 600) rfl ks_600 ?_
    refine x_icge (tgt := 41) rfl rfl (ti_ge rfl jk_600 ⟨fun c2 => ?_, fun c2 => ?_⟩)
    ·
      refine x_iconst (v := 0) rfl ki_0 ?_
      refine x_zret rfl rfl (by decide) ?_
      show jX m_X11_reason 4 0 0 8 [(0, .ref 31), (1, .int a1), (2, .int a2)] [.int 0] _ 0 0 _
      refine x_ifeq (tgt := 22) rfl rfl (ti_eq jk_0 jk_0 (br_t (by omega) ?_))
      exact jX.sub jsb_n (ct_X11_reason_r31_22 hD hQ  h J Sm)
    ·
      refine x_iloadn (x := a1) rfl rfl ?_
      refine x_iconst (v := 3) rfl ki_3 ?_
      refine z_idiv rfl rfl jk_3 (by omega) (by omega) (fun v3 ev3 => ?_)
      refine x_aloadn (x := 78) rfl rfl ?_
      refine z_getR (N := 16) (b := 32) 7 0 rfl f_7_55 rfl J rfl 9984 ⟨rfl, rfl⟩ rfl ?_
      refine z_getR (N := 20) (b := 33) 1 0 rfl f_7_63 rfl J rfl 4096 ⟨rfl, rfl⟩ rfl ?_
      refine z_getI (N := 4) 8 3 rfl f_7_85 rfl J rfl sg_33_3_4_1_0_1 (fun v4 qv4 ev4 => ?_)
      refine x_icge (tgt := 41) rfl rfl (ti_ge rfl rfl ⟨fun c5 => ?_, fun c5 => ?_⟩)
      ·
        refine x_iconst (v := 0) rfl ki_0 ?_
        refine x_zret rfl rfl (by decide) ?_
        show jX m_X11_reason 4 0 0 8 [(0, .ref 31), (1, .int a1), (2, .int a2)] [.int 0] _ 0 0 _
        refine x_ifeq (tgt := 22) rfl rfl (ti_eq jk_0 jk_0 (br_t (by omega) ?_))
        exact jX.sub jsb_n (ct_X11_reason_r31_22 hD hQ  h J Sm)
      ·
        refine x_aloadn (x := 78) rfl rfl ?_
        refine z_getR (N := 16) (b := 79) 7 7 rfl f_7_27 rfl J rfl 9991 ⟨rfl, rfl⟩ rfl ?_
        refine x_iloadn (x := a1) rfl rfl ?_
        refine z_iald (N := 600) rfl J rfl sg_79_0_600_1_0_1 rfl (by omega) (fun v6 qv6 ev6 => ?_)
        refine x_iconst (v := (-1)) rfl ki_m1 ?_
        refine x_iceq (tgt := 41) rfl rfl (ti_eq rfl jk_m1 ⟨fun c7 => ?_, fun c7 => ?_⟩)
        ·
          refine x_iconst (v := 0) rfl ki_0 ?_
          refine x_zret rfl rfl (by decide) ?_
          show jX m_X11_reason 4 0 0 8 [(0, .ref 31), (1, .int a1), (2, .int a2)] [.int 0] _ 0 0 _
          refine x_ifeq (tgt := 22) rfl rfl (ti_eq jk_0 jk_0 (br_t (by omega) ?_))
          exact jX.sub jsb_n (ct_X11_reason_r31_22 hD hQ  h J Sm)
        ·
          refine x_iconst (v := 1) rfl ki_1 ?_
          refine x_goto (tgt := 42) rfl rfl ?_
          refine x_zret rfl rfl (by decide) ?_
          show jX m_X11_reason 4 0 0 8 [(0, .ref 31), (1, .int a1), (2, .int a2)] [.int 1] _ 0 0 _
          refine x_ifeq (tgt := 22) rfl rfl (ti_eq jk_1 jk_0 (br_f (by omega) ?_))
          refine x_aloadn (x := 31) rfl rfl ?_
          refine z_getR (N := 13) (b := 78) 11 4 rfl f_11_41 rfl J rfl 3972 ⟨rfl, rfl⟩ rfl ?_
          refine x_iloadn (x := a2) rfl rfl ?_
          refine x_inv (N := m_X7_isMention) (As := [.int a2]) (b := 78) (st := []) (dx9 := 3) (mc := 0) (ms := 0) (host := "") 7 rfl t_X7_isMention ⟨Or.inl q_11_187, i_X7_isMention.1, i_X7_isMention.2⟩ ⟨by decide, rfl⟩ (congrArg Prod.fst (J.1.1 78 (7, 16) rfl)) rfl (by decide) rfl rfl ⟨by decide, by decide⟩ (jC.of rfl k_X7_isMention rfl ?_)
          show jX m_X7_isMention 3 0 0 0 [(0, .ref 78), (1, .int a2)] [] _ 0 0 _
          refine x_iloadn (x := a2) rfl rfl ?_
          refine x_iflt (tgt := 41) rfl rfl (ti_lt rfl jk_0 ⟨fun c8 => ?_, fun c8 => ?_⟩)
          ·
            refine x_iconst (v := 0) rfl ki_0 ?_
            refine x_zret rfl rfl (by decide) ?_
            show jX m_X11_reason 4 0 0 19 [(0, .ref 31), (1, .int a1), (2, .int a2)] [.int 0] _ 0 0 _
            refine x_ifne (tgt := 24) rfl rfl (ti_ne jk_0 jk_0 (bn_f (by omega) ?_))
            exact jX.sub jsb_n (ct_X11_reason_r31_22 hD hQ  h J Sm)
          ·
            refine x_iloadn (x := a2) rfl rfl ?_
            refine x_sipush (v := 600) rfl ks_600 ?_
            refine x_icge (tgt := 41) rfl rfl (ti_ge rfl jk_600 ⟨fun c9 => ?_, fun c9 => ?_⟩)
            ·
              refine x_iconst (v := 0) rfl ki_0 ?_
              refine x_zret rfl rfl (by decide) ?_
              show jX m_X11_reason 4 0 0 19 [(0, .ref 31), (1, .int a1), (2, .int a2)] [.int 0] _ 0 0 _
              refine x_ifne (tgt := 24) rfl rfl (ti_ne jk_0 jk_0 (bn_f (by omega) ?_))
              exact jX.sub jsb_n (ct_X11_reason_r31_22 hD hQ  h J Sm)
            ·
              refine x_iloadn (x := a2) rfl rfl ?_
              refine x_iconst (v := 3) rfl ki_3 ?_
              refine z_idiv rfl rfl jk_3 (by omega) (by omega) (fun v10 ev10 => ?_)
              refine x_aloadn (x := 78) rfl rfl ?_
              refine z_getR (N := 16) (b := 32) 7 0 rfl f_7_55 rfl J rfl 9984 ⟨rfl, rfl⟩ rfl ?_
              refine z_getR (N := 20) (b := 33) 1 0 rfl f_7_63 rfl J rfl 4096 ⟨rfl, rfl⟩ rfl ?_
              refine z_getM (N := 4) (v := v4) 8 3 rfl f_7_85 rfl J rfl qv4 ?_
              refine x_icge (tgt := 41) rfl rfl (ti_ge rfl rfl ⟨fun c11 => ?_, fun c11 => ?_⟩)
              ·
                refine x_iconst (v := 0) rfl ki_0 ?_
                refine x_zret rfl rfl (by decide) ?_
                show jX m_X11_reason 4 0 0 19 [(0, .ref 31), (1, .int a1), (2, .int a2)] [.int 0] _ 0 0 _
                refine x_ifne (tgt := 24) rfl rfl (ti_ne jk_0 jk_0 (bn_f (by omega) ?_))
                exact jX.sub jsb_n (ct_X11_reason_r31_22 hD hQ  h J Sm)
              ·
                refine x_aloadn (x := 78) rfl rfl ?_
                refine z_getR (N := 16) (b := 79) 7 7 rfl f_7_27 rfl J rfl 9991 ⟨rfl, rfl⟩ rfl ?_
                refine x_iloadn (x := a2) rfl rfl ?_
                refine z_iald (N := 600) rfl J rfl sg_79_0_600_1_0_1 rfl (by omega) (fun v12 qv12 ev12 => ?_)
                refine x_iconst (v := (-1)) rfl ki_m1 ?_
                refine x_iceq (tgt := 41) rfl rfl (ti_eq rfl jk_m1 ⟨fun c13 => ?_, fun c13 => ?_⟩)
                ·
                  refine x_iconst (v := 0) rfl ki_0 ?_
                  refine x_zret rfl rfl (by decide) ?_
                  show jX m_X11_reason 4 0 0 19 [(0, .ref 31), (1, .int a1), (2, .int a2)] [.int 0] _ 0 0 _
                  refine x_ifne (tgt := 24) rfl rfl (ti_ne jk_0 jk_0 (bn_f (by omega) ?_))
                  exact jX.sub jsb_n (ct_X11_reason_r31_22 hD hQ  h J Sm)
                ·
                  refine x_iconst (v := 1) rfl ki_1 ?_
                  refine x_goto (tgt := 42) rfl rfl ?_
                  refine x_zret rfl rfl (by decide) ?_
                  show jX m_X11_reason 4 0 0 19 [(0, .ref 31), (1, .int a1), (2, .int a2)] [.int 1] _ 0 0 _
                  refine x_ifne (tgt := 24) rfl rfl (ti_ne jk_1 jk_0 (bn_t (by omega) ?_))
                  refine x_aloadn (x := 31) rfl rfl ?_
                  refine z_getR (N := 13) (b := 78) 11 4 rfl f_11_41 rfl J rfl 3972 ⟨rfl, rfl⟩ rfl ?_
                  refine x_iloadn (x := a1) rfl rfl ?_
                  refine x_iloadn (x := a2) rfl rfl ?_
                  refine x_inv (N := m_X7_reasonFor) (As := [.int a1, .int a2]) (b := 78) (st := []) (dx9 := 3) (mc := 0) (ms := 0) (host := "") 7 rfl t_X7_reasonFor ⟨Or.inl q_11_224, i_X7_reasonFor.1, i_X7_reasonFor.2⟩ ⟨by decide, rfl⟩ (congrArg Prod.fst (J.1.1 78 (7, 16) rfl)) rfl (by decide) rfl rfl ⟨by decide, by decide⟩ (sf_X7_reasonFor_r78 (jr_of rfl (by omega)) (jr_of rfl (by omega)) hD J  (fun v15 h ev15 J S14 => ?_))
                  have Sm := jSm_tr rfl Sm S14
                  show jX m_X11_reason 4 0 0 33 [(0, .ref 31), (1, .int a1), (2, .int a2)] [.int v15] _ 0 0 _
                  refine x_iret rfl rfl ?_
                  exact hQ _ _ (jr_of rfl (by omega)) J Sm
def fp_X11_sumYear_r31_r65 : jFp := [(65, 0, 1600)]
set_option maxRecDepth 100000 in
set_option maxHeartbeats 4000000 in
theorem ct_X11_sumYear_r31_r65_90 {Dy : jH → Prop} {h0 : jH} {Q : Option Value → jH → Prop} {R25 : Int} (hD : jDk Dy) (hQ : ∀ hx9, jJ jSgX Dy hx9 → jSm fp_X11_sumYear_r31_r65 h0 hx9 → Q none hx9) (k25 : ∀ (l1 : Int32) (l3 : Int32) (l4 : Int64) (l6 : Int64) (l8 : Int64) (l10 : Int32) (h : jH), 200 - l10.toInt < R25 → 0 ≤ l1.toInt ∧ l1.toInt ≤ 399 → 0 ≤ l3.toInt ∧ l3.toInt ≤ 1596 → l3.toInt % 4 = 0 → 0 ≤ l10.toInt ∧ l10.toInt ≤ 200 → jJ jSgX Dy h → jSm fp_X11_sumYear_r31_r65 h0 h → jX m_X11_sumYear 3 0 0 25 [(0, .ref 31), (1, .int l1), (2, .ref 65), (3, .int l3), (4, .long l4), (6, .long l6), (8, .long l8), (10, .int l10)] [] h 0 0 Q) : ∀ (l1 : Int32) (l3 : Int32) (l4 : Int64) (l6 : Int64) (l8 : Int64) (l10 : Int32) (h : jH), 0 ≤ l1.toInt ∧ l1.toInt ≤ 399 → 0 ≤ l3.toInt ∧ l3.toInt ≤ 1596 → l3.toInt % 4 = 0 → 0 ≤ l10.toInt ∧ l10.toInt ≤ 199 → 200 - l10.toInt ≤ R25 → jJ jSgX Dy h → jSm fp_X11_sumYear_r31_r65 h0 h → jX m_X11_sumYear 3 0 0 90 [(0, .ref 31), (1, .int l1), (2, .ref 65), (3, .int l3), (4, .long l4), (6, .long l6), (8, .long l8), (10, .int l10)] [] h 0 0 Q := by
  intro l1 l3 l4 l6 l8 l10 h y0 y1 y2 y3  m25 J Sm
  have el4 := jfullL l4
  have el6 := jfullL l6
  have el8 := jfullL l8
  refine z_iinc (x := l10) (lsx9 := fun v1 => [(10, .int v1), (0, .ref 31), (1, .int l1), (2, .ref 65), (3, .int l3), (4, .long l4), (6, .long l6), (8, .long l8)]) rfl rfl rfl jko_1 (by omega) rfl (fun _ => rfl) (fun v1 ev1 => ?_)
  refine x_goto (tgt := 25) rfl rfl ?_
  exact jX.sub (jsb_c rfl (jsb_c rfl (jsb_c rfl (jsb_c rfl (jsb_c rfl (jsb_c rfl (jsb_c rfl (jsb_c rfl jsb_n)))))))) (k25 l1 l3 l4 l6 l8 v1 h (by omega) (jr_of rfl (by omega)) (jr_of rfl (by omega)) (jr_mod rfl (by omega)) (jr_of rfl (by omega)) J Sm)
set_option maxRecDepth 100000 in
set_option maxHeartbeats 4000000 in
theorem ct_X11_sumYear_r31_r65_25 {Dy : jH → Prop} {h0 : jH} {Q : Option Value → jH → Prop} (hD : jDk Dy) (hQ : ∀ hx9, jJ jSgX Dy hx9 → jSm fp_X11_sumYear_r31_r65 h0 hx9 → Q none hx9) : ∀ r : Nat, ∀ (l1 : Int32) (l3 : Int32) (l4 : Int64) (l6 : Int64) (l8 : Int64) (l10 : Int32) (h : jH), 200 - l10.toInt < (r : Int) → 0 ≤ l1.toInt ∧ l1.toInt ≤ 399 → 0 ≤ l3.toInt ∧ l3.toInt ≤ 1596 → l3.toInt % 4 = 0 → 0 ≤ l10.toInt ∧ l10.toInt ≤ 200 → jJ jSgX Dy h → jSm fp_X11_sumYear_r31_r65 h0 h → jX m_X11_sumYear 3 0 0 25 [(0, .ref 31), (1, .int l1), (2, .ref 65), (3, .int l3), (4, .long l4), (6, .long l6), (8, .long l8), (10, .int l10)] [] h 0 0 Q := by
  intro r
  induction r with
  | zero =>
    intro l1 l3 l4 l6 l8 l10 h hm y0 y1 y2 y3   J Sm
    exfalso
    have el4 := jfullL l4
    have el6 := jfullL l6
    have el8 := jfullL l8
    omega
  | succ r ih =>
    intro l1 l3 l4 l6 l8 l10 h hm y0 y1 y2 y3   J Sm
    have el4 := jfullL l4
    have el6 := jfullL l6
    have el8 := jfullL l8
    refine x_iload (x := l10) rfl rfl ?_
    refine x_aloadn (x := 31) rfl rfl ?_
    refine z_getR (N := 13) (b := 32) 11 0 rfl f_11_10 rfl J rfl 3968 ⟨rfl, rfl⟩ rfl ?_
    refine z_getR (N := 20) (b := 33) 1 0 rfl f_11_126 rfl J rfl 4096 ⟨rfl, rfl⟩ rfl ?_
    refine z_getI (N := 4) 8 3 rfl f_11_142 rfl J rfl sg_33_3_4_1_0_1 (fun v1 qv1 ev1 => ?_)
    refine x_icge (tgt := 96) rfl rfl (ti_ge rfl rfl ⟨fun c2 => ?_, fun c2 => ?_⟩)
    ·
      refine x_aloadn (x := 65) rfl rfl ?_
      refine x_iloadn (x := l3) rfl rfl ?_
      refine x_lconst (v := 1) rfl kl_1 ?_
      refine z_last (N := 1600) (l := 0) (u := 1600) rfl hD J Sm rfl rfl rfl (by omega) rfl (fun h w3 J Sm => ?_)
      refine x_aloadn (x := 65) rfl rfl ?_
      refine x_iloadn (x := l3) rfl rfl ?_
      refine x_iconst (v := 1) rfl ki_1 ?_
      refine z_iadd rfl rfl jk_1 (by omega) (fun v4 ev4 => ?_)
      refine x_lload (x := l4) rfl rfl ?_
      refine z_last (N := 1600) (l := 0) (u := 1600) rfl hD J Sm rfl rfl rfl (by omega) rfl (fun h w5 J Sm => ?_)
      refine x_aloadn (x := 65) rfl rfl ?_
      refine x_iloadn (x := l3) rfl rfl ?_
      refine x_iconst (v := 2) rfl ki_2 ?_
      refine z_iadd rfl rfl jk_2 (by omega) (fun v6 ev6 => ?_)
      refine x_lload (x := l6) rfl rfl ?_
      refine z_last (N := 1600) (l := 0) (u := 1600) rfl hD J Sm rfl rfl rfl (by omega) rfl (fun h w7 J Sm => ?_)
      refine x_aloadn (x := 65) rfl rfl ?_
      refine x_iloadn (x := l3) rfl rfl ?_
      refine x_iconst (v := 3) rfl ki_3 ?_
      refine z_iadd rfl rfl jk_3 (by omega) (fun v8 ev8 => ?_)
      refine x_lload (x := l8) rfl rfl ?_
      refine z_last (N := 1600) (l := 0) (u := 1600) rfl hD J Sm rfl rfl rfl (by omega) rfl (fun h w9 J Sm => ?_)
      refine x_vret rfl rfl ?_
      exact hQ _ J Sm
    ·
      refine x_aloadn (x := 31) rfl rfl ?_
      refine x_iload (x := l10) rfl rfl ?_
      refine x_inv (N := m_X11_yearOf) (As := [.int l10]) (b := 31) (st := []) (dx9 := 2) (mc := 0) (ms := 0) (host := "") 11 rfl t_X11_yearOf ⟨Or.inl q_11_521, i_X11_yearOf.1, i_X11_yearOf.2⟩ ⟨by decide, rfl⟩ (congrArg Prod.fst (J.1.1 31 (11, 13) rfl)) rfl (by decide) rfl rfl ⟨by decide, by decide⟩ (jC.of rfl k_X11_yearOf rfl ?_)
      show jX m_X11_yearOf 2 0 0 0 [(0, .ref 31), (1, .int l10)] [] _ 0 0 _
      refine x_aloadn (x := 31) rfl rfl ?_
      refine z_getR (N := 13) (b := 32) 11 0 rfl f_11_10 rfl J rfl 3968 ⟨rfl, rfl⟩ rfl ?_
      refine z_getR (N := 20) (b := 33) 1 0 rfl f_11_126 rfl J rfl 4096 ⟨rfl, rfl⟩ rfl ?_
      refine x_iloadn (x := l10) rfl rfl ?_
      refine x_iconst (v := 1) rfl ki_1 ?_
      refine x_inv (N := m_X8_at) (As := [.int l10, .int 1]) (b := 33) (st := []) (dx9 := 1) (mc := 0) (ms := 0) (host := "") 8 rfl t_X8_at ⟨Or.inl q_11_171, i_X8_at.1, i_X8_at.2⟩ ⟨by decide, rfl⟩ (congrArg Prod.fst (J.1.1 33 (8, 4) rfl)) rfl (by decide) rfl rfl ⟨by decide, by decide⟩ (sf_X8_at_r33_c1  hD J  (fun v11 h ev11 J S10 => ?_))
      have Sm := jSm_tr rfl Sm S10
      show jX m_X11_yearOf 2 0 0 12 [(0, .ref 31), (1, .int l10)] [.int v11] _ 0 0 _
      refine x_sipush (v := 366) rfl ks_366 ?_
      refine z_idiv rfl rfl jk_366 (by omega) (by omega) (fun v12 ev12 => ?_)
      refine x_iret rfl rfl ?_
      show jX m_X11_sumYear 3 0 0 46 [(0, .ref 31), (1, .int l1), (2, .ref 65), (3, .int l3), (4, .long l4), (6, .long l6), (8, .long l8), (10, .int l10)] [.int v12] _ 0 0 _
      refine x_iloadn (x := l1) rfl rfl ?_
      refine x_icne (tgt := 90) rfl rfl (ti_ne rfl rfl ⟨fun c13 => ?_, fun c13 => ?_⟩)
      ·
        exact jX.sub (jsb_c rfl (jsb_c rfl (jsb_c rfl (jsb_c rfl (jsb_c rfl (jsb_c rfl (jsb_c rfl (jsb_c rfl jsb_n)))))))) (ct_X11_sumYear_r31_r65_90 hD hQ ih l1 l3 l4 l6 l8 l10 h (jr_of rfl (by omega)) (jr_of rfl (by omega)) (jr_mod rfl (by omega)) (jr_of rfl (by omega)) (by omega) J Sm)
      ·
        refine x_aloadn (x := 31) rfl rfl ?_
        refine z_getR (N := 13) (b := 32) 11 0 rfl f_11_10 rfl J rfl 3968 ⟨rfl, rfl⟩ rfl ?_
        refine z_getR (N := 20) (b := 33) 1 0 rfl f_11_126 rfl J rfl 4096 ⟨rfl, rfl⟩ rfl ?_
        refine x_iload (x := l10) rfl rfl ?_
        refine x_iconst (v := 4) rfl ki_4 ?_
        refine x_inv (N := m_X8_at) (As := [.int l10, .int 4]) (b := 33) (st := []) (dx9 := 1) (mc := 0) (ms := 0) (host := "") 8 rfl t_X8_at ⟨Or.inl q_11_171, i_X8_at.1, i_X8_at.2⟩ ⟨by decide, rfl⟩ (congrArg Prod.fst (J.1.1 33 (8, 4) rfl)) rfl (by decide) rfl rfl ⟨by decide, by decide⟩ (sf_X8_at_r33_c4  hD J  (fun v15 h J S14 => ?_))
        have ev15 := jfull v15
        have Sm := jSm_tr rfl Sm S14
        show jX m_X11_sumYear 3 0 0 63 [(0, .ref 31), (1, .int l1), (2, .ref 65), (3, .int l3), (4, .long l4), (6, .long l6), (8, .long l8), (10, .int l10)] [.int v15] _ 0 0 _
        refine x_istore (lsx9 := [(11, .int v15), (0, .ref 31), (1, .int l1), (2, .ref 65), (3, .int l3), (4, .long l4), (6, .long l6), (8, .long l8), (10, .int l10)]) rfl rfl rfl ?_
        refine x_lload (x := l4) rfl rfl ?_
        refine x_lconst (v := 1) rfl kl_1 ?_
        refine z_ladd0 rfl (fun v16 => ?_)
        have ev16 := jfullL v16
        refine x_lstore (lsx9 := [(4, .long v16), (11, .int v15), (0, .ref 31), (1, .int l1), (2, .ref 65), (3, .int l3), (6, .long l6), (8, .long l8), (10, .int l10)]) rfl rfl rfl ?_
        refine x_lload (x := l6) rfl rfl ?_
        refine x_iload (x := v15) rfl rfl ?_
        refine z_i2l rfl rfl (fun v17 ev17 => ?_)
        refine z_ladd0 rfl (fun v18 => ?_)
        have ev18 := jfullL v18
        refine x_lstore (lsx9 := [(6, .long v18), (4, .long v16), (11, .int v15), (0, .ref 31), (1, .int l1), (2, .ref 65), (3, .int l3), (8, .long l8), (10, .int l10)]) rfl rfl rfl ?_
        refine x_lload (x := l8) rfl rfl ?_
        refine x_lload (x := v16) rfl rfl ?_
        refine x_iload (x := v15) rfl rfl ?_
        refine z_i2l rfl rfl (fun v19 ev19 => ?_)
        refine z_lmul0 rfl (fun v20 => ?_)
        have ev20 := jfullL v20
        refine z_ladd0 rfl (fun v21 => ?_)
        have ev21 := jfullL v21
        refine x_lstore (lsx9 := [(8, .long v21), (6, .long v18), (4, .long v16), (11, .int v15), (0, .ref 31), (1, .int l1), (2, .ref 65), (3, .int l3), (10, .int l10)]) rfl rfl rfl ?_
        exact jX.sub (jsb_c rfl (jsb_c rfl (jsb_c rfl (jsb_c rfl (jsb_c rfl (jsb_c rfl (jsb_c rfl (jsb_c rfl jsb_n)))))))) (ct_X11_sumYear_r31_r65_90 hD hQ ih l1 l3 v16 v18 v21 l10 h (jr_of rfl (by omega)) (jr_of rfl (by omega)) (jr_mod rfl (by omega)) (jr_of rfl (by omega)) (by omega) J Sm)
set_option maxRecDepth 100000 in
set_option maxHeartbeats 4000000 in
theorem sf_X11_sumYear_r31_r65 {Dy : jH → Prop} {h : jH} {Q : Option Value → jH → Prop} {a1 : Int32} {a2 : Int32} (y1 : 0 ≤ a1.toInt ∧ a1.toInt ≤ 399) (y2 : 0 ≤ a2.toInt ∧ a2.toInt ≤ 1596) (ym2 : a2.toInt % 4 = 0) (hD : jDk Dy) (J : jJ jSgX Dy h) (hQ : ∀ hx9, jJ jSgX Dy hx9 → jSm fp_X11_sumYear_r31_r65 h hx9 → Q none hx9) : jC m_X11_sumYear 3 0 0 [.ref 31, .int a1, .ref 65, .int a2] h Q := by
  refine jC.of rfl k_X11_sumYear rfl ?_
  have Sm := jSm_rf fp_X11_sumYear_r31_r65 h
  show jX m_X11_sumYear 3 0 0 0 [(0, .ref 31), (1, .int a1), (2, .ref 65), (3, .int a2)] [] _ 0 0 _
  refine x_iloadn (x := a2) rfl rfl ?_
  refine x_iflt (tgt := 12) rfl rfl (ti_lt rfl jk_0 (br_f (by omega) ?_))
  refine x_iloadn (x := a2) rfl rfl ?_
  refine x_iconst (v := 3) rfl ki_3 ?_
  refine z_iadd rfl rfl jk_3 (by omega) (fun v1 ev1 => ?_)
  refine x_aloadn (x := 65) rfl rfl ?_
  refine z_alen (N := 1600) (v := 1600) rfl J rfl rfl (by decide) ?_
  refine x_iclt (tgt := 13) rfl rfl (ti_lt rfl jk_1600 (br_t (by omega) ?_))
  refine x_lconst (v := 0) rfl kl_0 ?_
  refine x_lstore (lsx9 := [(4, .long 0), (0, .ref 31), (1, .int a1), (2, .ref 65), (3, .int a2)]) rfl rfl rfl ?_
  refine x_lconst (v := 0) rfl kl_0 ?_
  refine x_lstore (lsx9 := [(6, .long 0), (4, .long 0), (0, .ref 31), (1, .int a1), (2, .ref 65), (3, .int a2)]) rfl rfl rfl ?_
  refine x_lconst (v := 0) rfl kl_0 ?_
  refine x_lstore (lsx9 := [(8, .long 0), (6, .long 0), (4, .long 0), (0, .ref 31), (1, .int a1), (2, .ref 65), (3, .int a2)]) rfl rfl rfl ?_
  refine x_iconst (v := 0) rfl ki_0 ?_
  refine x_istore (lsx9 := [(10, .int 0), (8, .long 0), (6, .long 0), (4, .long 0), (0, .ref 31), (1, .int a1), (2, .ref 65), (3, .int a2)]) rfl rfl rfl ?_
  exact jX.sub (jsb_c rfl (jsb_c rfl (jsb_c rfl (jsb_c rfl (jsb_c rfl (jsb_c rfl (jsb_c rfl (jsb_c rfl jsb_n)))))))) (ct_X11_sumYear_r31_r65_25 hD hQ  201 a1 a2 0 0 0 0 h (by have := jk_0; omega) (jr_of rfl (by omega)) (jr_of rfl (by omega)) (jr_mod rfl (by omega)) (jr_of jk_0 (by omega)) J Sm)
def fp_X11_seal_r31 : jFp := [(31, 12, 13), (32, 19, 20), (65, 0, 1600)]
set_option maxRecDepth 100000 in
set_option maxHeartbeats 4000000 in
theorem sf_X11_seal_r31 {Dy : jH → Prop} {h : jH} {Q : Option Value → jH → Prop} {a1 : Int32} (hD : jDk Dy) (J : jJ jSgX Dy h) (hQ : ∀ (v : Int32) hx9, jJ jSgX Dy hx9 → jSm fp_X11_seal_r31 h hx9 → Q (some (.int v)) hx9) : jC m_X11_seal 4 0 0 [.ref 31, .int a1] h Q := by
  refine jC.of rfl k_X11_seal rfl ?_
  have Sm := jSm_rf fp_X11_seal_r31 h
  have ea1 := jfull a1
  show jX m_X11_seal 4 0 0 0 [(0, .ref 31), (1, .int a1)] [] _ 0 0 _
  refine x_iloadn (x := a1) rfl rfl ?_
  refine x_inst (N := m_X11_isYear) (As := [.int a1]) (st := []) (dx9 := 1) (mc := 0) (ms := 0) (host := "") rfl t_X11_isYear ⟨Or.inl q_11_433, s_X11_isYear⟩ rfl (by decide) rfl rfl ⟨by decide, by decide⟩ (zc_X11_isYear rfl (fun v1 ev1 => ?_))
  show jX m_X11_seal 4 0 0 4 [(0, .ref 31), (1, .int a1)] [.int v1] _ 0 0 _
  refine x_ifne (tgt := 13) rfl rfl (ti_ne rfl jk_0 ⟨fun c2 => ?_, fun c2 => ?_⟩)
  ·
    refine x_aloadn (x := 31) rfl rfl ?_
    refine x_iloadn (x := a1) rfl rfl ?_
    refine x_aloadn (x := 31) rfl rfl ?_
    refine z_getR (N := 13) (b := 32) 11 0 rfl f_11_10 rfl J rfl 3968 ⟨rfl, rfl⟩ rfl ?_
    refine z_getR (N := 20) (b := 65) 1 16 rfl f_11_511 rfl J rfl 4112 ⟨rfl, rfl⟩ rfl ?_
    refine x_iloadn (x := a1) rfl rfl ?_
    refine x_iconst (v := 4) rfl ki_4 ?_
    refine z_imul rfl rfl jk_4 (by omega) (fun v3 ev3 => ?_)
    refine x_inv (N := m_X11_sumYear) (As := [.int a1, .ref 65, .int v3]) (b := 31) (st := []) (dx9 := 3) (mc := 0) (ms := 0) (host := "") 11 rfl t_X11_sumYear ⟨Or.inl q_11_514, i_X11_sumYear.1, i_X11_sumYear.2⟩ ⟨by decide, rfl⟩ (congrArg Prod.fst (J.1.1 31 (11, 13) rfl)) rfl (by decide) rfl rfl ⟨by decide, by decide⟩ (sf_X11_sumYear_r31_r65 (jr_of rfl (by omega)) (jr_of rfl (by omega)) (jr_mod rfl (by omega)) hD J  (fun h J S4 => ?_))
    have Sm := jSm_tr rfl Sm S4
    show jX m_X11_seal 4 0 0 28 [(0, .ref 31), (1, .int a1)] [] _ 0 0 _
    refine x_aloadn (x := 31) rfl rfl ?_
    refine x_aloadn (x := 31) rfl rfl ?_
    refine z_getR (N := 13) (b := 32) 11 0 rfl f_11_10 rfl J rfl 3968 ⟨rfl, rfl⟩ rfl ?_
    refine z_getR (N := 20) (b := 65) 1 16 rfl f_11_511 rfl J rfl 4112 ⟨rfl, rfl⟩ rfl ?_
    refine x_iloadn (x := a1) rfl rfl ?_
    refine x_iconst (v := 4) rfl ki_4 ?_
    refine z_imul rfl rfl jk_4 (by omega) (fun v5 ev5 => ?_)
    refine x_iconst (v := 1) rfl ki_1 ?_
    refine z_iadd rfl rfl jk_1 (by omega) (fun v6 ev6 => ?_)
    refine z_lald0 (N := 1600) rfl J rfl rfl (by omega) (fun v7 => ?_)
    have ev7 := jfullL v7
    refine z_l2i0 rfl (fun v8 => ?_)
    refine x_inv (N := m_X11_accept) (As := [.int v8]) (b := 31) (st := []) (dx9 := 3) (mc := 0) (ms := 0) (host := "") 11 rfl t_X11_accept ⟨Or.inl q_11_165, i_X11_accept.1, i_X11_accept.2⟩ ⟨by decide, rfl⟩ (congrArg Prod.fst (J.1.1 31 (11, 13) rfl)) rfl (by decide) rfl rfl ⟨by decide, by decide⟩ (jC.of rfl k_X11_accept rfl ?_)
    show jX m_X11_accept 3 0 0 0 [(0, .ref 31), (1, .int v8)] [] _ 0 0 _
    refine x_aloadn (x := 31) rfl rfl ?_
    refine x_iconst (v := 0) rfl ki_0 ?_
    refine z_putI (N := 13) (w := 0) 11 12 rfl f_11_94 rfl (jfin_no TX11 RX11 13 rfl rfl) hD J Sm rfl rfl jk_0 (pw_31_12 (by omega)) rfl (fun h w9 J Sm => ?_)
    refine x_aloadn (x := 31) rfl rfl ?_
    refine z_getR (N := 13) (b := 32) 11 0 rfl f_11_10 rfl J rfl 3968 ⟨rfl, rfl⟩ rfl ?_
    refine x_dup rfl rfl ?_
    refine z_getI0 (N := 20) 1 19 rfl f_11_528 rfl J rfl (fun v10 qv10 => ?_)
    have ev10 := jfull v10
    refine x_iconst (v := 1) rfl ki_1 ?_
    refine z_iadd0 rfl (fun v11 => ?_)
    have ev11 := jfull v11
    refine z_putI (N := 20) (w := v11.toInt) 1 19 rfl f_11_528 rfl (jfin_no TX1 RX1 20 rfl rfl) hD J Sm rfl rfl rfl (pw_32_19 trivial) rfl (fun h w12 J Sm => ?_)
    refine x_iloadn (x := v8) rfl rfl ?_
    refine x_iret rfl rfl ?_
    show jX m_X11_seal 4 0 0 46 [(0, .ref 31), (1, .int a1)] [.int v8] _ 0 0 _
    refine x_iret rfl rfl ?_
    exact hQ _ _ J Sm
  ·
    refine x_aloadn (x := 31) rfl rfl ?_
    refine x_iconst (v := (-1)) rfl ki_m1 ?_
    refine x_inv (N := m_X11_refuse) (As := [.int (-1)]) (b := 31) (st := []) (dx9 := 3) (mc := 0) (ms := 0) (host := "") 11 rfl t_X11_refuse ⟨Or.inl q_11_206, i_X11_refuse.1, i_X11_refuse.2⟩ ⟨by decide, rfl⟩ (congrArg Prod.fst (J.1.1 31 (11, 13) rfl)) rfl (by decide) rfl rfl ⟨by decide, by decide⟩ (jC.of rfl k_X11_refuse rfl ?_)
    show jX m_X11_refuse 3 0 0 0 [(0, .ref 31), (1, .int (-1))] [] _ 0 0 _
    refine x_aloadn (x := 31) rfl rfl ?_
    refine x_iloadn (x := (-1)) rfl rfl ?_
    refine z_putI (N := 13) (w := (-1)) 11 12 rfl f_11_94 rfl (jfin_no TX11 RX11 13 rfl rfl) hD J Sm rfl rfl jk_m1 (pw_31_12 (by omega)) rfl (fun h w13 J Sm => ?_)
    refine x_iloadn (x := (-1)) rfl rfl ?_
    refine x_iret rfl rfl ?_
    show jX m_X11_seal 4 0 0 12 [(0, .ref 31), (1, .int a1)] [.int (-1)] _ 0 0 _
    refine x_iret rfl rfl ?_
    exact hQ _ _ J Sm
def fp_X4_sitDown_r107 : jFp := [(107, 9, 10), (112, 0, 40), (113, 0, 40)]
set_option maxRecDepth 100000 in
set_option maxHeartbeats 4000000 in
theorem ct_X4_sitDown_r107_103 {Dy : jH → Prop} {h0 : jH} {Q : Option Value → jH → Prop} (hD : jDk Dy) (hQ : ∀ hx9, jJ jSgX Dy hx9 → jSm fp_X4_sitDown_r107 h0 hx9 → Q none hx9) : ∀ (h : jH), jJ jSgX Dy h → jSm fp_X4_sitDown_r107 h0 h → jX m_X4_sitDown 1 0 0 103 [] [] h 0 0 Q := by
  intro  h    J Sm
  refine x_vret rfl rfl ?_
  exact hQ _ J Sm
set_option maxRecDepth 100000 in
set_option maxHeartbeats 4000000 in
theorem ct_X4_sitDown_r107_70 {Dy : jH → Prop} {h0 : jH} {Q : Option Value → jH → Prop} (hD : jDk Dy) (hQ : ∀ hx9, jJ jSgX Dy hx9 → jSm fp_X4_sitDown_r107 h0 hx9 → Q none hx9) : ∀ (l1 : Int32) (l2 : Int64) (l4 : Int32) (g0 : Int32) (h : jH), 0 ≤ l1.toInt ∧ l1.toInt ≤ 39 → 0 ≤ l4.toInt ∧ l4.toInt ≤ 40 → 0 ≤ g0.toInt ∧ g0.toInt ≤ 40 → (g0.toInt ≤ 39 ∨ 40 ≤ l4.toInt) → jiv h 107 9 = g0 → jJ jSgX Dy h → jSm fp_X4_sitDown_r107 h0 h → jX m_X4_sitDown 1 0 0 70 [(0, .ref 107), (1, .int l1), (2, .long l2), (4, .int l4)] [] h 0 0 Q := by
  intro l1 l2 l4 g0 h y0 y1 y2 y3 z0  J Sm
  have el2 := jfullL l2
  refine x_iload (x := l4) rfl rfl ?_
  refine x_bipush (v := 40) rfl kb_40 ?_
  refine x_icge (tgt := 103) rfl rfl (ti_ge rfl jk_40 ⟨fun c1 => ?_, fun c1 => ?_⟩)
  ·
    exact jX.sub jsb_n (ct_X4_sitDown_r107_103 hD hQ  h J Sm)
  ·
    refine x_aloadn (x := 107) rfl rfl ?_
    refine z_getR (N := 18) (b := 112) 4 7 rfl f_4_25 rfl J rfl 13703 ⟨rfl, rfl⟩ rfl ?_
    refine x_iload (x := l4) rfl rfl ?_
    refine x_iloadn (x := l1) rfl rfl ?_
    refine z_iast (N := 40) (l := 0) (u := 40) (w := l1.toInt) rfl hD J Sm rfl rfl rfl (by omega) rfl (wr_112 (fun q1 q2 q3 q4 => by omega)) rfl (fun h w2 J Sm => ?_)
    refine x_aloadn (x := 107) rfl rfl ?_
    refine z_getR (N := 18) (b := 113) 4 8 rfl f_4_28 rfl J rfl 13704 ⟨rfl, rfl⟩ rfl ?_
    refine x_iload (x := l4) rfl rfl ?_
    refine x_lloadn (x := l2) rfl rfl ?_
    refine z_last (N := 40) (l := 0) (u := 40) rfl hD J Sm rfl rfl rfl (by omega) rfl (fun h w3 J Sm => ?_)
    refine x_aloadn (x := 107) rfl rfl ?_
    refine x_dup rfl rfl ?_
    refine z_getM (N := 18) (v := g0) 4 9 rfl f_4_31 rfl J rfl (jml w3 (jmo w2 rfl z0)) ?_
    refine x_iconst (v := 1) rfl ki_1 ?_
    refine z_iadd rfl rfl jk_1 (by omega) (fun v4 ev4 => ?_)
    refine z_putI (N := 18) (w := v4.toInt) 4 9 rfl f_4_31 rfl (jfin_no TX4 RX4 18 rfl rfl) hD J Sm rfl rfl rfl (pw_107_9 (by omega)) rfl (fun h w5 J Sm => ?_)
    exact jX.sub jsb_n (ct_X4_sitDown_r107_103 hD hQ  h J Sm)
set_option maxRecDepth 100000 in
set_option maxHeartbeats 4000000 in
theorem ct_X4_sitDown_r107_6 {Dy : jH → Prop} {h0 : jH} {Q : Option Value → jH → Prop} (hD : jDk Dy) (hQ : ∀ hx9, jJ jSgX Dy hx9 → jSm fp_X4_sitDown_r107 h0 hx9 → Q none hx9) : ∀ r : Nat, ∀ (l1 : Int32) (l2 : Int64) (l4 : Int32) (g0 : Int32) (h : jH), l4.toInt - 0 < (r : Int) → 0 ≤ l1.toInt ∧ l1.toInt ≤ 39 → 0 ≤ l4.toInt ∧ l4.toInt ≤ 40 → 0 ≤ g0.toInt ∧ g0.toInt ≤ 40 → (g0.toInt ≤ 39 ∨ 40 ≤ l4.toInt) → jiv h 107 9 = g0 → jJ jSgX Dy h → jSm fp_X4_sitDown_r107 h0 h → jX m_X4_sitDown 1 0 0 6 [(0, .ref 107), (1, .int l1), (2, .long l2), (4, .int l4)] [] h 0 0 Q := by
  intro r
  induction r with
  | zero =>
    intro l1 l2 l4 g0 h hm y0 y1 y2 y3 z0  J Sm
    exfalso
    have el2 := jfullL l2
    omega
  | succ r ih =>
    intro l1 l2 l4 g0 h hm y0 y1 y2 y3 z0  J Sm
    have el2 := jfullL l2
    refine x_iload (x := l4) rfl rfl ?_
    refine x_ifle (tgt := 70) rfl rfl (ti_le rfl jk_0 ⟨fun c1 => ?_, fun c1 => ?_⟩)
    ·
      exact jX.sub (jsb_c rfl (jsb_c rfl (jsb_c rfl (jsb_c rfl jsb_n)))) (ct_X4_sitDown_r107_70 hD hQ  l1 l2 l4 g0 h (jr_of rfl (by omega)) (jr_of rfl (by omega)) (jr_of rfl (by omega)) (by omega) z0 J Sm)
    ·
      refine x_iload (x := l4) rfl rfl ?_
      refine x_bipush (v := 40) rfl kb_40 ?_
      refine x_icge (tgt := 70) rfl rfl (ti_ge rfl jk_40 ⟨fun c2 => ?_, fun c2 => ?_⟩)
      ·
        exact jX.sub (jsb_c rfl (jsb_c rfl (jsb_c rfl (jsb_c rfl jsb_n)))) (ct_X4_sitDown_r107_70 hD hQ  l1 l2 l4 g0 h (jr_of rfl (by omega)) (jr_of rfl (by omega)) (jr_of rfl (by omega)) (by omega) z0 J Sm)
      ·
        refine x_aloadn (x := 107) rfl rfl ?_
        refine z_getR (N := 18) (b := 113) 4 8 rfl f_4_28 rfl J rfl 13704 ⟨rfl, rfl⟩ rfl ?_
        refine x_iload (x := l4) rfl rfl ?_
        refine x_iconst (v := 1) rfl ki_1 ?_
        refine z_isub rfl rfl jk_1 (by omega) (fun v3 ev3 => ?_)
        refine z_lald0 (N := 40) rfl J rfl rfl (by omega) (fun v4 => ?_)
        have ev4 := jfullL v4
        refine x_lloadn (x := l2) rfl rfl ?_
        refine z_lcmp rfl rfl rfl (fun v5 ev5 => ?_)
        refine x_ifge (tgt := 70) rfl rfl (ti_ge rfl jk_0 ⟨fun c6 => ?_, fun c6 => ?_⟩)
        ·
          exact jX.sub (jsb_c rfl (jsb_c rfl (jsb_c rfl (jsb_c rfl jsb_n)))) (ct_X4_sitDown_r107_70 hD hQ  l1 l2 l4 g0 h (jr_of rfl (by omega)) (jr_of rfl (by omega)) (jr_of rfl (by omega)) (by omega) z0 J Sm)
        ·
          refine x_aloadn (x := 107) rfl rfl ?_
          refine z_getR (N := 18) (b := 112) 4 7 rfl f_4_25 rfl J rfl 13703 ⟨rfl, rfl⟩ rfl ?_
          refine x_iload (x := l4) rfl rfl ?_
          refine x_aloadn (x := 107) rfl rfl ?_
          refine z_getR (N := 18) (b := 112) 4 7 rfl f_4_25 rfl J rfl 13703 ⟨rfl, rfl⟩ rfl ?_
          refine x_iload (x := l4) rfl rfl ?_
          refine x_iconst (v := 1) rfl ki_1 ?_
          refine z_isub rfl rfl jk_1 (by omega) (fun v7 ev7 => ?_)
          refine z_iald (N := 40) rfl J rfl sg_112_0_40_1_0_1 rfl (by omega) (fun v8 qv8 ev8 => ?_)
          refine z_iast (N := 40) (l := 0) (u := 40) (w := v8.toInt) rfl hD J Sm rfl rfl rfl (by omega) rfl (wr_112 (fun q1 q2 q3 q4 => by omega)) rfl (fun h w9 J Sm => ?_)
          refine x_aloadn (x := 107) rfl rfl ?_
          refine z_getR (N := 18) (b := 113) 4 8 rfl f_4_28 rfl J rfl 13704 ⟨rfl, rfl⟩ rfl ?_
          refine x_iload (x := l4) rfl rfl ?_
          refine x_aloadn (x := 107) rfl rfl ?_
          refine z_getR (N := 18) (b := 113) 4 8 rfl f_4_28 rfl J rfl 13704 ⟨rfl, rfl⟩ rfl ?_
          refine x_iload (x := l4) rfl rfl ?_
          refine x_iconst (v := 1) rfl ki_1 ?_
          refine z_isub rfl rfl jk_1 (by omega) (fun v10 ev10 => ?_)
          refine z_lald0 (N := 40) rfl J rfl rfl (by omega) (fun v11 => ?_)
          have ev11 := jfullL v11
          refine z_last (N := 40) (l := 0) (u := 40) rfl hD J Sm rfl rfl rfl (by omega) rfl (fun h w12 J Sm => ?_)
          refine z_iinc (x := l4) (lsx9 := fun v13 => [(4, .int v13), (0, .ref 107), (1, .int l1), (2, .long l2)]) rfl rfl rfl jko_m1 (by omega) rfl (fun _ => rfl) (fun v13 ev13 => ?_)
          refine x_goto (tgt := 6) rfl rfl ?_
          exact jX.sub (jsb_c rfl (jsb_c rfl (jsb_c rfl (jsb_c rfl jsb_n)))) (ih l1 l2 v13 g0 h (by omega) (jr_of rfl (by omega)) (jr_of rfl (by omega)) (jr_of rfl (by omega)) (by omega) (jml w12 (jmo w9 rfl z0)) J Sm)
set_option maxRecDepth 100000 in
set_option maxHeartbeats 4000000 in
theorem sf_X4_sitDown_r107 {Dy : jH → Prop} {h : jH} {Q : Option Value → jH → Prop} {a1 : Int32} {a2 : Int64} (y1 : 0 ≤ a1.toInt ∧ a1.toInt ≤ 39) (hD : jDk Dy) (J : jJ jSgX Dy h) (hQ : ∀ hx9, jJ jSgX Dy hx9 → jSm fp_X4_sitDown_r107 h hx9 → Q none hx9) : jC m_X4_sitDown 1 0 0 [.ref 107, .int a1, .long a2] h Q := by
  refine jC.of rfl k_X4_sitDown rfl ?_
  have Sm := jSm_rf fp_X4_sitDown_r107 h
  have ea2 := jfullL a2
  show jX m_X4_sitDown 1 0 0 0 [(0, .ref 107), (1, .int a1), (2, .long a2)] [] _ 0 0 _
  refine x_aloadn (x := 107) rfl rfl ?_
  refine z_getI (N := 18) 4 9 rfl f_4_31 rfl J rfl sg_107_9_10_1_0_1 (fun v1 qv1 ev1 => ?_)
  refine x_istore (lsx9 := [(4, .int v1), (0, .ref 107), (1, .int a1), (2, .long a2)]) rfl rfl rfl ?_
  exact jX.sub (jsb_c rfl (jsb_c rfl (jsb_c rfl (jsb_c rfl jsb_n)))) (ct_X4_sitDown_r107_6 hD hQ  41 a1 a2 v1 v1 h (by omega) (jr_of rfl (by omega)) (jr_of rfl (by omega)) (jr_of rfl (by omega)) (by omega) qv1 J Sm)
def fp_X4_seatAll_r107 : jFp := [(85, 0, 4), (98, 10, 11), (98, 11, 12), (98, 12, 13), (98, 13, 14), (98, 14, 15), (98, 15, 16), (99, 0, 30), (100, 0, 30), (101, 0, 3), (102, 0, 40), (103, 0, 40), (104, 0, 40), (105, 0, 3), (106, 0, 100), (107, 9, 10), (112, 0, 40), (113, 0, 40), (114, 0, 3)]
set_option maxRecDepth 100000 in
set_option maxHeartbeats 4000000 in
theorem ct_X4_seatAll_r107_97 {Dy : jH → Prop} {h0 : jH} {Q : Option Value → jH → Prop} {R36 : Int} (hD : jDk Dy) (hQ : ∀ hx9, jJ jSgX Dy hx9 → jSm fp_X4_seatAll_r107 h0 hx9 → Q none hx9) (k36 : ∀ (l3 : Int32) (h : jH), 40 - l3.toInt < R36 → 0 ≤ l3.toInt ∧ l3.toInt ≤ 40 → jJ jSgX Dy h → jSm fp_X4_seatAll_r107 h0 h → jX m_X4_seatAll 7 0 0 36 [(0, .ref 107), (3, .int l3)] [] h 0 0 Q) : ∀ (l3 : Int32) (h : jH), 0 ≤ l3.toInt ∧ l3.toInt ≤ 39 → 40 - l3.toInt ≤ R36 → jJ jSgX Dy h → jSm fp_X4_seatAll_r107 h0 h → jX m_X4_seatAll 7 0 0 97 [(0, .ref 107), (3, .int l3)] [] h 0 0 Q := by
  intro l3 h y0  m36 J Sm
  refine z_iinc (x := l3) (lsx9 := fun v1 => [(3, .int v1), (0, .ref 107)]) rfl rfl rfl jko_1 (by omega) rfl (fun _ => rfl) (fun v1 ev1 => ?_)
  refine x_goto (tgt := 36) rfl rfl ?_
  exact jX.sub (jsb_c rfl (jsb_c rfl jsb_n)) (k36 v1 h (by omega) (jr_of rfl (by omega)) J Sm)
set_option maxRecDepth 100000 in
set_option maxHeartbeats 4000000 in
theorem ct_X4_seatAll_r107_5000094 {Dy : jH → Prop} {h0 : jH} {Q : Option Value → jH → Prop} {R36 : Int} (hD : jDk Dy) (hQ : ∀ hx9, jJ jSgX Dy hx9 → jSm fp_X4_seatAll_r107 h0 hx9 → Q none hx9) (k36 : ∀ (l3 : Int32) (h : jH), 40 - l3.toInt < R36 → 0 ≤ l3.toInt ∧ l3.toInt ≤ 40 → jJ jSgX Dy h → jSm fp_X4_seatAll_r107 h0 h → jX m_X4_seatAll 7 0 0 36 [(0, .ref 107), (3, .int l3)] [] h 0 0 Q) : ∀ (l3 : Int32) (s1 : Int32) (h : jH), 0 ≤ l3.toInt ∧ l3.toInt ≤ 39 → 0 ≤ s1.toInt ∧ s1.toInt ≤ 39 → 40 - l3.toInt ≤ R36 → jJ jSgX Dy h → jSm fp_X4_seatAll_r107 h0 h → jX m_X4_seatAll 7 0 0 94 [(0, .ref 107), (3, .int l3)] [.long (-2000000000000), .int s1, .ref 107] h 0 0 Q := by
  intro l3 s1 h y0 y1  m36 J Sm
  refine x_inv (N := m_X4_sitDown) (As := [.int s1, .long (-2000000000000)]) (b := 107) (st := []) (dx9 := 1) (mc := 0) (ms := 0) (host := "") 4 rfl t_X4_sitDown ⟨Or.inl q_4_144, i_X4_sitDown.1, i_X4_sitDown.2⟩ ⟨by decide, rfl⟩ (congrArg Prod.fst (J.1.1 107 (4, 18) rfl)) rfl (by decide) rfl rfl ⟨by decide, by decide⟩ (sf_X4_sitDown_r107 (jr_of rfl (by omega)) hD J  (fun h J S1 => ?_))
  have Sm := jSm_tr rfl Sm S1
  show jX m_X4_seatAll 7 0 0 97 [(0, .ref 107), (3, .int l3)] [] _ 0 0 _
  exact jX.sub (jsb_c rfl (jsb_c rfl jsb_n)) (ct_X4_seatAll_r107_97 hD hQ k36 l3 h (jr_of rfl (by omega)) (by omega) J Sm)
set_option maxRecDepth 100000 in
set_option maxHeartbeats 4000000 in
theorem ct_X4_seatAll_r107_94 {Dy : jH → Prop} {h0 : jH} {Q : Option Value → jH → Prop} {R36 : Int} (hD : jDk Dy) (hQ : ∀ hx9, jJ jSgX Dy hx9 → jSm fp_X4_seatAll_r107 h0 hx9 → Q none hx9) (k36 : ∀ (l3 : Int32) (h : jH), 40 - l3.toInt < R36 → 0 ≤ l3.toInt ∧ l3.toInt ≤ 40 → jJ jSgX Dy h → jSm fp_X4_seatAll_r107 h0 h → jX m_X4_seatAll 7 0 0 36 [(0, .ref 107), (3, .int l3)] [] h 0 0 Q) : ∀ (l3 : Int32) (s0 : Int64) (s1 : Int32) (h : jH), 0 ≤ l3.toInt ∧ l3.toInt ≤ 39 → 0 ≤ s1.toInt ∧ s1.toInt ≤ 39 → 40 - l3.toInt ≤ R36 → jJ jSgX Dy h → jSm fp_X4_seatAll_r107 h0 h → jX m_X4_seatAll 7 0 0 94 [(0, .ref 107), (3, .int l3)] [.long s0, .int s1, .ref 107] h 0 0 Q := by
  intro l3 s0 s1 h y0 y1  m36 J Sm
  have es0 := jfullL s0
  refine x_inv (N := m_X4_sitDown) (As := [.int s1, .long s0]) (b := 107) (st := []) (dx9 := 1) (mc := 0) (ms := 0) (host := "") 4 rfl t_X4_sitDown ⟨Or.inl q_4_144, i_X4_sitDown.1, i_X4_sitDown.2⟩ ⟨by decide, rfl⟩ (congrArg Prod.fst (J.1.1 107 (4, 18) rfl)) rfl (by decide) rfl rfl ⟨by decide, by decide⟩ (sf_X4_sitDown_r107 (jr_of rfl (by omega)) hD J  (fun h J S1 => ?_))
  have Sm := jSm_tr rfl Sm S1
  show jX m_X4_seatAll 7 0 0 97 [(0, .ref 107), (3, .int l3)] [] _ 0 0 _
  exact jX.sub (jsb_c rfl (jsb_c rfl jsb_n)) (ct_X4_seatAll_r107_97 hD hQ k36 l3 h (jr_of rfl (by omega)) (by omega) J Sm)
set_option maxRecDepth 100000 in
set_option maxHeartbeats 4000000 in
theorem ct_X4_seatAll_r107_36 {Dy : jH → Prop} {h0 : jH} {Q : Option Value → jH → Prop} (hD : jDk Dy) (hQ : ∀ hx9, jJ jSgX Dy hx9 → jSm fp_X4_seatAll_r107 h0 hx9 → Q none hx9) : ∀ r : Nat, ∀ (l3 : Int32) (h : jH), 40 - l3.toInt < (r : Int) → 0 ≤ l3.toInt ∧ l3.toInt ≤ 40 → jJ jSgX Dy h → jSm fp_X4_seatAll_r107 h0 h → jX m_X4_seatAll 7 0 0 36 [(0, .ref 107), (3, .int l3)] [] h 0 0 Q := by
  intro r
  induction r with
  | zero =>
    intro l3 h hm y0   J Sm
    exfalso
    omega
  | succ r ih =>
    intro l3 h hm y0   J Sm
    refine x_iloadn (x := l3) rfl rfl ?_
    refine x_aloadn (x := 107) rfl rfl ?_
    refine x_inv (N := m_X4_houses) (As := []) (b := 107) (st := [.int l3]) (dx9 := 6) (mc := 0) (ms := 0) (host := "") 4 rfl t_X4_houses ⟨Or.inl q_4_107, i_X4_houses.1, i_X4_houses.2⟩ ⟨by decide, rfl⟩ (congrArg Prod.fst (J.1.1 107 (4, 18) rfl)) rfl (by decide) rfl rfl ⟨by decide, by decide⟩ (jC.of rfl k_X4_houses rfl ?_)
    show jX m_X4_houses 6 0 0 0 [(0, .ref 107)] [] _ 0 0 _
    refine x_bipush (v := 40) rfl kb_40 ?_
    refine x_aloadn (x := 107) rfl rfl ?_
    refine z_getR (N := 18) (b := 32) 4 0 rfl f_4_59 rfl J rfl 13696 ⟨rfl, rfl⟩ rfl ?_
    refine z_getR (N := 20) (b := 49) 1 8 rfl f_4_71 rfl J rfl 4104 ⟨rfl, rfl⟩ rfl ?_
    refine z_getI (N := 4) 8 3 rfl f_4_77 rfl J rfl sg_49_3_4_1_0_1 (fun v1 qv1 ev1 => ?_)
    refine z_mmin rfl q_4_82 (by decide) rfl jk_40 rfl (fun v2 ev2 => ?_)
    refine x_iret rfl rfl ?_
    show jX m_X4_seatAll 7 0 0 41 [(0, .ref 107), (3, .int l3)] [.int v2, .int l3] _ 0 0 _
    refine x_icge (tgt := 103) rfl rfl (ti_ge rfl rfl ⟨fun c3 => ?_, fun c3 => ?_⟩)
    ·
      refine x_vret rfl rfl ?_
      exact hQ _ J Sm
    ·
      refine x_aloadn (x := 107) rfl rfl ?_
      refine z_getR (N := 18) (b := 98) 4 2 rfl f_4_67 rfl J rfl 13698 ⟨rfl, rfl⟩ rfl ?_
      refine z_getR (N := 16) (b := 103) 0 6 rfl f_4_114 rfl J rfl 12550 ⟨rfl, rfl⟩ rfl ?_
      refine x_iloadn (x := l3) rfl rfl ?_
      refine z_iald (N := 40) rfl J rfl sg_103_0_40_1_0_1 rfl (by omega) (fun v4 qv4 ev4 => ?_)
      refine x_iconst (v := (-1)) rfl ki_m1 ?_
      refine x_iceq (tgt := 97) rfl rfl (ti_eq rfl jk_m1 ⟨fun c5 => ?_, fun c5 => ?_⟩)
      ·
        exact jX.sub (jsb_c rfl (jsb_c rfl jsb_n)) (ct_X4_seatAll_r107_97 hD hQ ih l3 h (jr_of rfl (by omega)) (by omega) J Sm)
      ·
        refine x_aloadn (x := 107) rfl rfl ?_
        refine x_iloadn (x := l3) rfl rfl ?_
        refine x_aloadn (x := 107) rfl rfl ?_
        refine z_getR (N := 18) (b := 98) 4 2 rfl f_4_67 rfl J rfl 13698 ⟨rfl, rfl⟩ rfl ?_
        refine x_bipush (v := 7) rfl kb_7 ?_
        refine x_iconst (v := 0) rfl ki_0 ?_
        refine x_aloadn (x := 107) rfl rfl ?_
        refine z_getR (N := 18) (b := 98) 4 2 rfl f_4_67 rfl J rfl 13698 ⟨rfl, rfl⟩ rfl ?_
        refine z_getR (N := 16) (b := 103) 0 6 rfl f_4_114 rfl J rfl 12550 ⟨rfl, rfl⟩ rfl ?_
        refine x_iloadn (x := l3) rfl rfl ?_
        refine z_ialdM (N := 40) (v := v4) rfl J rfl rfl (by omega) qv4 ?_
        refine x_inv (N := m_X0_weigh) (As := [.int 7, .int 0, .int v4]) (b := 98) (st := [.int l3, .ref 107]) (dx9 := 6) (mc := 0) (ms := 0) (host := "") 0 rfl t_X0_weigh ⟨Or.inl q_4_119, i_X0_weigh.1, i_X0_weigh.2⟩ ⟨by decide, rfl⟩ (congrArg Prod.fst (J.1.1 98 (0, 16) rfl)) rfl (by decide) rfl rfl ⟨by decide, by decide⟩ (sf_X0_weigh_r98 (jr_of jk_7 (by omega)) (jr_of jk_0 (by omega)) (jr_of rfl (by omega)) hD J  (fun v7 h ev7 J S6 => ?_))
        have Sm := jSm_tr rfl Sm S6
        show jX m_X4_seatAll 7 0 0 78 [(0, .ref 107), (3, .int l3)] [.int v7, .int l3, .ref 107] _ 0 0 _
        refine x_ifeq (tgt := 91) rfl rfl (ti_eq rfl jk_0 ⟨fun c8 => ?_, fun c8 => ?_⟩)
        ·
          refine x_ldc2 (v := (-2000000000000)) rfl z_4_142 ?_
          exact jX.sub (jsb_c rfl (jsb_c rfl jsb_n)) (ct_X4_seatAll_r107_5000094 hD hQ ih l3 l3 h (jr_of rfl (by omega)) (jr_of rfl (by omega)) (by omega) J Sm)
        ·
          refine x_aloadn (x := 107) rfl rfl ?_
          refine z_getR (N := 18) (b := 98) 4 2 rfl f_4_67 rfl J rfl 13698 ⟨rfl, rfl⟩ rfl ?_
          refine z_getL0 (N := 16) 0 14 rfl f_4_127 rfl J rfl (fun v9 => ?_)
          have ev9 := jfullL v9
          refine x_goto (tgt := 94) rfl rfl ?_
          exact jX.sub (jsb_c rfl (jsb_c rfl jsb_n)) (ct_X4_seatAll_r107_94 hD hQ ih l3 v9 l3 h (jr_of rfl (by omega)) (jr_of rfl (by omega)) (by omega) J Sm)
set_option maxRecDepth 100000 in
set_option maxHeartbeats 4000000 in
theorem sf_X4_seatAll_r107 {Dy : jH → Prop} {h : jH} {Q : Option Value → jH → Prop} {a1 : Int32} {a2 : Int32} (y1 : 0 ≤ a1.toInt ∧ a1.toInt ≤ 146399) (y2 : 0 ≤ a2.toInt ∧ a2.toInt ≤ 146399) (hD : jDk Dy) (J : jJ jSgX Dy h) (hQ : ∀ hx9, jJ jSgX Dy hx9 → jSm fp_X4_seatAll_r107 h hx9 → Q none hx9) : jC m_X4_seatAll 7 0 0 [.ref 107, .int a1, .int a2] h Q := by
  refine jC.of rfl k_X4_seatAll rfl ?_
  have Sm := jSm_rf fp_X4_seatAll_r107 h
  show jX m_X4_seatAll 7 0 0 0 [(0, .ref 107), (1, .int a1), (2, .int a2)] [] _ 0 0 _
  refine x_aloadn (x := 107) rfl rfl ?_
  refine z_getR (N := 18) (b := 114) 4 10 rfl f_4_35 rfl J rfl 13706 ⟨rfl, rfl⟩ rfl ?_
  refine x_iloadn (x := a1) rfl rfl ?_
  refine x_iloadn (x := a2) rfl rfl ?_
  refine x_aloadn (x := 107) rfl rfl ?_
  refine z_getR (N := 18) (b := 32) 4 0 rfl f_4_59 rfl J rfl 13696 ⟨rfl, rfl⟩ rfl ?_
  refine z_getI0 (N := 20) 1 19 rfl f_4_88 rfl J rfl (fun v1 qv1 => ?_)
  have ev1 := jfull v1
  refine x_inst (N := m_X11_isFresh) (As := [.ref 114, .int a1, .int a2, .int v1]) (st := []) (dx9 := 6) (mc := 0) (ms := 0) (host := "ParishChest") rfl t_X11_isFresh ⟨Or.inr q_4_91, s_X11_isFresh⟩ rfl (by decide) rfl rfl ⟨by decide, by decide⟩ (jC.of rfl k_X11_isFresh rfl ?_)
  show jX m_X11_isFresh 6 0 0 0 [(0, .ref 114), (1, .int a1), (2, .int a2), (3, .int v1)] [] _ 0 0 _
  refine x_aloadn (x := 114) rfl rfl ?_
  refine z_alen (N := 3) (v := 3) rfl J rfl rfl (by decide) ?_
  refine x_iconst (v := 3) rfl ki_3 ?_
  refine x_icge (tgt := 8) rfl rfl (ti_ge jk_3 jk_3 (br_t (by omega) ?_))
  refine x_aloadn (x := 114) rfl rfl ?_
  refine x_iconst (v := 0) rfl ki_0 ?_
  refine z_iald0 (N := 3) rfl J rfl jk_0 (by omega) (fun v2 qv2 => ?_)
  have ev2 := jfull v2
  refine x_iloadn (x := a1) rfl rfl ?_
  refine x_icne (tgt := 33) rfl rfl (ti_ne rfl rfl ⟨fun c3 => ?_, fun c3 => ?_⟩)
  ·
    refine x_iconst (v := 0) rfl ki_0 ?_
    refine x_istore (lsx9 := [(4, .int 0), (0, .ref 114), (1, .int a1), (2, .int a2), (3, .int v1)]) rfl rfl rfl ?_
    refine x_aloadn (x := 114) rfl rfl ?_
    refine x_iconst (v := 0) rfl ki_0 ?_
    refine x_iloadn (x := a1) rfl rfl ?_
    refine z_iast (N := 3) (l := 0) (u := 3) (w := a1.toInt) rfl hD J Sm rfl rfl jk_0 (by omega) rfl (wr_114) rfl (fun h w4 J Sm => ?_)
    refine x_aloadn (x := 114) rfl rfl ?_
    refine x_iconst (v := 1) rfl ki_1 ?_
    refine x_iloadn (x := a2) rfl rfl ?_
    refine z_iast (N := 3) (l := 0) (u := 3) (w := a2.toInt) rfl hD J Sm rfl rfl jk_1 (by omega) rfl (wr_114) rfl (fun h w5 J Sm => ?_)
    refine x_aloadn (x := 114) rfl rfl ?_
    refine x_iconst (v := 2) rfl ki_2 ?_
    refine x_iloadn (x := v1) rfl rfl ?_
    refine z_iast (N := 3) (l := 0) (u := 3) (w := v1.toInt) rfl hD J Sm rfl rfl jk_2 (by omega) rfl (wr_114) rfl (fun h w6 J Sm => ?_)
    refine x_iload (x := 0) rfl rfl ?_
    refine x_zret rfl rfl (by decide) ?_
    show jX m_X4_seatAll 7 0 0 16 [(0, .ref 107), (1, .int a1), (2, .int a2)] [.int 0] _ 0 0 _
    refine x_ifeq (tgt := 20) rfl rfl (ti_eq jk_0 jk_0 (br_t (by omega) ?_))
    refine x_aloadn (x := 107) rfl rfl ?_
    refine z_getR (N := 18) (b := 98) 4 2 rfl f_4_67 rfl J rfl 13698 ⟨rfl, rfl⟩ rfl ?_
    refine x_iloadn (x := a1) rfl rfl ?_
    refine x_iloadn (x := a2) rfl rfl ?_
    refine x_inv (N := m_X0_turnTo) (As := [.int a1, .int a2]) (b := 98) (st := []) (dx9 := 6) (mc := 0) (ms := 0) (host := "") 0 rfl t_X0_turnTo ⟨Or.inl q_4_101, i_X0_turnTo.1, i_X0_turnTo.2⟩ ⟨by decide, rfl⟩ (congrArg Prod.fst (J.1.1 98 (0, 16) rfl)) rfl (by decide) rfl rfl ⟨by decide, by decide⟩ (jC.of rfl k_X0_turnTo rfl ?_)
    show jX m_X0_turnTo 6 0 0 0 [(0, .ref 98), (1, .int a1), (2, .int a2)] [] _ 0 0 _
    refine x_aloadn (x := 98) rfl rfl ?_
    refine x_iloadn (x := a1) rfl rfl ?_
    refine x_iloadn (x := a2) rfl rfl ?_
    refine x_inv (N := m_X0_readLaws) (As := [.int a1, .int a2]) (b := 98) (st := []) (dx9 := 3) (mc := 0) (ms := 0) (host := "") 0 rfl t_X0_readLaws ⟨Or.inl q_0_65, i_X0_readLaws.1, i_X0_readLaws.2⟩ ⟨by decide, rfl⟩ (congrArg Prod.fst (J.1.1 98 (0, 16) rfl)) rfl (by decide) rfl rfl ⟨by decide, by decide⟩ (sf_X0_readLaws_r98 (jr_of rfl (by omega)) (jr_of rfl (by omega)) hD J  (fun h J S7 => ?_))
    have Sm := jSm_tr rfl Sm S7
    show jX m_X0_turnTo 6 0 0 6 [(0, .ref 98), (1, .int a1), (2, .int a2)] [] _ 0 0 _
    refine x_aloadn (x := 98) rfl rfl ?_
    refine x_iloadn (x := a1) rfl rfl ?_
    refine x_iloadn (x := a2) rfl rfl ?_
    refine x_inv (N := m_X0_readHouses) (As := [.int a1, .int a2]) (b := 98) (st := []) (dx9 := 3) (mc := 0) (ms := 0) (host := "") 0 rfl t_X0_readHouses ⟨Or.inl q_0_69, i_X0_readHouses.1, i_X0_readHouses.2⟩ ⟨by decide, rfl⟩ (congrArg Prod.fst (J.1.1 98 (0, 16) rfl)) rfl (by decide) rfl rfl ⟨by decide, by decide⟩ (sf_X0_readHouses_r98 (jr_of rfl (by omega)) (jr_of rfl (by omega)) hD J  (fun h J S8 => ?_))
    have Sm := jSm_tr rfl Sm S8
    show jX m_X0_turnTo 6 0 0 12 [(0, .ref 98), (1, .int a1), (2, .int a2)] [] _ 0 0 _
    refine x_vret rfl rfl ?_
    show jX m_X4_seatAll 7 0 0 29 [(0, .ref 107), (1, .int a1), (2, .int a2)] [] _ 0 0 _
    refine x_aloadn (x := 107) rfl rfl ?_
    refine x_iconst (v := 0) rfl ki_0 ?_
    refine z_putI (N := 18) (w := 0) 4 9 rfl f_4_31 rfl (jfin_no TX4 RX4 18 rfl rfl) hD J Sm rfl rfl jk_0 (pw_107_9 (by omega)) rfl (fun h w9 J Sm => ?_)
    refine x_iconst (v := 0) rfl ki_0 ?_
    refine x_istoren (lsx9 := [(3, .int 0), (0, .ref 107), (1, .int a1), (2, .int a2)]) rfl rfl rfl ?_
    exact jX.sub (jsb_c rfl (jsb_c rfl jsb_n)) (ct_X4_seatAll_r107_36 hD hQ  41 0 h (by have := jk_0; omega) (jr_of jk_0 (by omega)) J Sm)
  ·
    refine x_aloadn (x := 114) rfl rfl ?_
    refine x_iconst (v := 1) rfl ki_1 ?_
    refine z_iald0 (N := 3) rfl J rfl jk_1 (by omega) (fun v10 qv10 => ?_)
    have ev10 := jfull v10
    refine x_iloadn (x := a2) rfl rfl ?_
    refine x_icne (tgt := 33) rfl rfl (ti_ne rfl rfl ⟨fun c11 => ?_, fun c11 => ?_⟩)
    ·
      refine x_iconst (v := 0) rfl ki_0 ?_
      refine x_istore (lsx9 := [(4, .int 0), (0, .ref 114), (1, .int a1), (2, .int a2), (3, .int v1)]) rfl rfl rfl ?_
      refine x_aloadn (x := 114) rfl rfl ?_
      refine x_iconst (v := 0) rfl ki_0 ?_
      refine x_iloadn (x := a1) rfl rfl ?_
      refine z_iast (N := 3) (l := 0) (u := 3) (w := a1.toInt) rfl hD J Sm rfl rfl jk_0 (by omega) rfl (wr_114) rfl (fun h w12 J Sm => ?_)
      refine x_aloadn (x := 114) rfl rfl ?_
      refine x_iconst (v := 1) rfl ki_1 ?_
      refine x_iloadn (x := a2) rfl rfl ?_
      refine z_iast (N := 3) (l := 0) (u := 3) (w := a2.toInt) rfl hD J Sm rfl rfl jk_1 (by omega) rfl (wr_114) rfl (fun h w13 J Sm => ?_)
      refine x_aloadn (x := 114) rfl rfl ?_
      refine x_iconst (v := 2) rfl ki_2 ?_
      refine x_iloadn (x := v1) rfl rfl ?_
      refine z_iast (N := 3) (l := 0) (u := 3) (w := v1.toInt) rfl hD J Sm rfl rfl jk_2 (by omega) rfl (wr_114) rfl (fun h w14 J Sm => ?_)
      refine x_iload (x := 0) rfl rfl ?_
      refine x_zret rfl rfl (by decide) ?_
      show jX m_X4_seatAll 7 0 0 16 [(0, .ref 107), (1, .int a1), (2, .int a2)] [.int 0] _ 0 0 _
      refine x_ifeq (tgt := 20) rfl rfl (ti_eq jk_0 jk_0 (br_t (by omega) ?_))
      refine x_aloadn (x := 107) rfl rfl ?_
      refine z_getR (N := 18) (b := 98) 4 2 rfl f_4_67 rfl J rfl 13698 ⟨rfl, rfl⟩ rfl ?_
      refine x_iloadn (x := a1) rfl rfl ?_
      refine x_iloadn (x := a2) rfl rfl ?_
      refine x_inv (N := m_X0_turnTo) (As := [.int a1, .int a2]) (b := 98) (st := []) (dx9 := 6) (mc := 0) (ms := 0) (host := "") 0 rfl t_X0_turnTo ⟨Or.inl q_4_101, i_X0_turnTo.1, i_X0_turnTo.2⟩ ⟨by decide, rfl⟩ (congrArg Prod.fst (J.1.1 98 (0, 16) rfl)) rfl (by decide) rfl rfl ⟨by decide, by decide⟩ (jC.of rfl k_X0_turnTo rfl ?_)
      show jX m_X0_turnTo 6 0 0 0 [(0, .ref 98), (1, .int a1), (2, .int a2)] [] _ 0 0 _
      refine x_aloadn (x := 98) rfl rfl ?_
      refine x_iloadn (x := a1) rfl rfl ?_
      refine x_iloadn (x := a2) rfl rfl ?_
      refine x_inv (N := m_X0_readLaws) (As := [.int a1, .int a2]) (b := 98) (st := []) (dx9 := 3) (mc := 0) (ms := 0) (host := "") 0 rfl t_X0_readLaws ⟨Or.inl q_0_65, i_X0_readLaws.1, i_X0_readLaws.2⟩ ⟨by decide, rfl⟩ (congrArg Prod.fst (J.1.1 98 (0, 16) rfl)) rfl (by decide) rfl rfl ⟨by decide, by decide⟩ (sf_X0_readLaws_r98 (jr_of rfl (by omega)) (jr_of rfl (by omega)) hD J  (fun h J S15 => ?_))
      have Sm := jSm_tr rfl Sm S15
      show jX m_X0_turnTo 6 0 0 6 [(0, .ref 98), (1, .int a1), (2, .int a2)] [] _ 0 0 _
      refine x_aloadn (x := 98) rfl rfl ?_
      refine x_iloadn (x := a1) rfl rfl ?_
      refine x_iloadn (x := a2) rfl rfl ?_
      refine x_inv (N := m_X0_readHouses) (As := [.int a1, .int a2]) (b := 98) (st := []) (dx9 := 3) (mc := 0) (ms := 0) (host := "") 0 rfl t_X0_readHouses ⟨Or.inl q_0_69, i_X0_readHouses.1, i_X0_readHouses.2⟩ ⟨by decide, rfl⟩ (congrArg Prod.fst (J.1.1 98 (0, 16) rfl)) rfl (by decide) rfl rfl ⟨by decide, by decide⟩ (sf_X0_readHouses_r98 (jr_of rfl (by omega)) (jr_of rfl (by omega)) hD J  (fun h J S16 => ?_))
      have Sm := jSm_tr rfl Sm S16
      show jX m_X0_turnTo 6 0 0 12 [(0, .ref 98), (1, .int a1), (2, .int a2)] [] _ 0 0 _
      refine x_vret rfl rfl ?_
      show jX m_X4_seatAll 7 0 0 29 [(0, .ref 107), (1, .int a1), (2, .int a2)] [] _ 0 0 _
      refine x_aloadn (x := 107) rfl rfl ?_
      refine x_iconst (v := 0) rfl ki_0 ?_
      refine z_putI (N := 18) (w := 0) 4 9 rfl f_4_31 rfl (jfin_no TX4 RX4 18 rfl rfl) hD J Sm rfl rfl jk_0 (pw_107_9 (by omega)) rfl (fun h w17 J Sm => ?_)
      refine x_iconst (v := 0) rfl ki_0 ?_
      refine x_istoren (lsx9 := [(3, .int 0), (0, .ref 107), (1, .int a1), (2, .int a2)]) rfl rfl rfl ?_
      exact jX.sub (jsb_c rfl (jsb_c rfl jsb_n)) (ct_X4_seatAll_r107_36 hD hQ  41 0 h (by have := jk_0; omega) (jr_of jk_0 (by omega)) J Sm)
    ·
      refine x_aloadn (x := 114) rfl rfl ?_
      refine x_iconst (v := 2) rfl ki_2 ?_
      refine z_iald0 (N := 3) rfl J rfl jk_2 (by omega) (fun v18 qv18 => ?_)
      have ev18 := jfull v18
      refine x_iloadn (x := v1) rfl rfl ?_
      refine x_icne (tgt := 33) rfl rfl (ti_ne rfl rfl ⟨fun c19 => ?_, fun c19 => ?_⟩)
      ·
        refine x_iconst (v := 0) rfl ki_0 ?_
        refine x_istore (lsx9 := [(4, .int 0), (0, .ref 114), (1, .int a1), (2, .int a2), (3, .int v1)]) rfl rfl rfl ?_
        refine x_aloadn (x := 114) rfl rfl ?_
        refine x_iconst (v := 0) rfl ki_0 ?_
        refine x_iloadn (x := a1) rfl rfl ?_
        refine z_iast (N := 3) (l := 0) (u := 3) (w := a1.toInt) rfl hD J Sm rfl rfl jk_0 (by omega) rfl (wr_114) rfl (fun h w20 J Sm => ?_)
        refine x_aloadn (x := 114) rfl rfl ?_
        refine x_iconst (v := 1) rfl ki_1 ?_
        refine x_iloadn (x := a2) rfl rfl ?_
        refine z_iast (N := 3) (l := 0) (u := 3) (w := a2.toInt) rfl hD J Sm rfl rfl jk_1 (by omega) rfl (wr_114) rfl (fun h w21 J Sm => ?_)
        refine x_aloadn (x := 114) rfl rfl ?_
        refine x_iconst (v := 2) rfl ki_2 ?_
        refine x_iloadn (x := v1) rfl rfl ?_
        refine z_iast (N := 3) (l := 0) (u := 3) (w := v1.toInt) rfl hD J Sm rfl rfl jk_2 (by omega) rfl (wr_114) rfl (fun h w22 J Sm => ?_)
        refine x_iload (x := 0) rfl rfl ?_
        refine x_zret rfl rfl (by decide) ?_
        show jX m_X4_seatAll 7 0 0 16 [(0, .ref 107), (1, .int a1), (2, .int a2)] [.int 0] _ 0 0 _
        refine x_ifeq (tgt := 20) rfl rfl (ti_eq jk_0 jk_0 (br_t (by omega) ?_))
        refine x_aloadn (x := 107) rfl rfl ?_
        refine z_getR (N := 18) (b := 98) 4 2 rfl f_4_67 rfl J rfl 13698 ⟨rfl, rfl⟩ rfl ?_
        refine x_iloadn (x := a1) rfl rfl ?_
        refine x_iloadn (x := a2) rfl rfl ?_
        refine x_inv (N := m_X0_turnTo) (As := [.int a1, .int a2]) (b := 98) (st := []) (dx9 := 6) (mc := 0) (ms := 0) (host := "") 0 rfl t_X0_turnTo ⟨Or.inl q_4_101, i_X0_turnTo.1, i_X0_turnTo.2⟩ ⟨by decide, rfl⟩ (congrArg Prod.fst (J.1.1 98 (0, 16) rfl)) rfl (by decide) rfl rfl ⟨by decide, by decide⟩ (jC.of rfl k_X0_turnTo rfl ?_)
        show jX m_X0_turnTo 6 0 0 0 [(0, .ref 98), (1, .int a1), (2, .int a2)] [] _ 0 0 _
        refine x_aloadn (x := 98) rfl rfl ?_
        refine x_iloadn (x := a1) rfl rfl ?_
        refine x_iloadn (x := a2) rfl rfl ?_
        refine x_inv (N := m_X0_readLaws) (As := [.int a1, .int a2]) (b := 98) (st := []) (dx9 := 3) (mc := 0) (ms := 0) (host := "") 0 rfl t_X0_readLaws ⟨Or.inl q_0_65, i_X0_readLaws.1, i_X0_readLaws.2⟩ ⟨by decide, rfl⟩ (congrArg Prod.fst (J.1.1 98 (0, 16) rfl)) rfl (by decide) rfl rfl ⟨by decide, by decide⟩ (sf_X0_readLaws_r98 (jr_of rfl (by omega)) (jr_of rfl (by omega)) hD J  (fun h J S23 => ?_))
        have Sm := jSm_tr rfl Sm S23
        show jX m_X0_turnTo 6 0 0 6 [(0, .ref 98), (1, .int a1), (2, .int a2)] [] _ 0 0 _
        refine x_aloadn (x := 98) rfl rfl ?_
        refine x_iloadn (x := a1) rfl rfl ?_
        refine x_iloadn (x := a2) rfl rfl ?_
        refine x_inv (N := m_X0_readHouses) (As := [.int a1, .int a2]) (b := 98) (st := []) (dx9 := 3) (mc := 0) (ms := 0) (host := "") 0 rfl t_X0_readHouses ⟨Or.inl q_0_69, i_X0_readHouses.1, i_X0_readHouses.2⟩ ⟨by decide, rfl⟩ (congrArg Prod.fst (J.1.1 98 (0, 16) rfl)) rfl (by decide) rfl rfl ⟨by decide, by decide⟩ (sf_X0_readHouses_r98 (jr_of rfl (by omega)) (jr_of rfl (by omega)) hD J  (fun h J S24 => ?_))
        have Sm := jSm_tr rfl Sm S24
        show jX m_X0_turnTo 6 0 0 12 [(0, .ref 98), (1, .int a1), (2, .int a2)] [] _ 0 0 _
        refine x_vret rfl rfl ?_
        show jX m_X4_seatAll 7 0 0 29 [(0, .ref 107), (1, .int a1), (2, .int a2)] [] _ 0 0 _
        refine x_aloadn (x := 107) rfl rfl ?_
        refine x_iconst (v := 0) rfl ki_0 ?_
        refine z_putI (N := 18) (w := 0) 4 9 rfl f_4_31 rfl (jfin_no TX4 RX4 18 rfl rfl) hD J Sm rfl rfl jk_0 (pw_107_9 (by omega)) rfl (fun h w25 J Sm => ?_)
        refine x_iconst (v := 0) rfl ki_0 ?_
        refine x_istoren (lsx9 := [(3, .int 0), (0, .ref 107), (1, .int a1), (2, .int a2)]) rfl rfl rfl ?_
        exact jX.sub (jsb_c rfl (jsb_c rfl jsb_n)) (ct_X4_seatAll_r107_36 hD hQ  41 0 h (by have := jk_0; omega) (jr_of jk_0 (by omega)) J Sm)
      ·
        refine x_iconst (v := 1) rfl ki_1 ?_
        refine x_goto (tgt := 34) rfl rfl ?_
        refine x_istore (lsx9 := [(4, .int 1), (0, .ref 114), (1, .int a1), (2, .int a2), (3, .int v1)]) rfl rfl rfl ?_
        refine x_aloadn (x := 114) rfl rfl ?_
        refine x_iconst (v := 0) rfl ki_0 ?_
        refine x_iloadn (x := a1) rfl rfl ?_
        refine z_iast (N := 3) (l := 0) (u := 3) (w := a1.toInt) rfl hD J Sm rfl rfl jk_0 (by omega) rfl (wr_114) rfl (fun h w26 J Sm => ?_)
        refine x_aloadn (x := 114) rfl rfl ?_
        refine x_iconst (v := 1) rfl ki_1 ?_
        refine x_iloadn (x := a2) rfl rfl ?_
        refine z_iast (N := 3) (l := 0) (u := 3) (w := a2.toInt) rfl hD J Sm rfl rfl jk_1 (by omega) rfl (wr_114) rfl (fun h w27 J Sm => ?_)
        refine x_aloadn (x := 114) rfl rfl ?_
        refine x_iconst (v := 2) rfl ki_2 ?_
        refine x_iloadn (x := v1) rfl rfl ?_
        refine z_iast (N := 3) (l := 0) (u := 3) (w := v1.toInt) rfl hD J Sm rfl rfl jk_2 (by omega) rfl (wr_114) rfl (fun h w28 J Sm => ?_)
        refine x_iload (x := 1) rfl rfl ?_
        refine x_zret rfl rfl (by decide) ?_
        show jX m_X4_seatAll 7 0 0 16 [(0, .ref 107), (1, .int a1), (2, .int a2)] [.int 1] _ 0 0 _
        refine x_ifeq (tgt := 20) rfl rfl (ti_eq jk_1 jk_0 (br_f (by omega) ?_))
        refine x_vret rfl rfl ?_
        exact hQ _ J Sm
def fp_X11_seat_r31 : jFp := [(78, 13, 14), (82, 0, 600), (83, 0, 600), (84, 0, 200), (85, 0, 4), (86, 0, 3), (98, 10, 11), (98, 11, 12), (98, 12, 13), (98, 13, 14), (98, 14, 15), (98, 15, 16), (99, 0, 30), (100, 0, 30), (101, 0, 3), (102, 0, 40), (103, 0, 40), (104, 0, 40), (105, 0, 3), (106, 0, 100), (107, 9, 10), (112, 0, 40), (113, 0, 40), (114, 0, 3)]
set_option maxRecDepth 100000 in
set_option maxHeartbeats 4000000 in
theorem ct_X11_seat_r31_14 {Dy : jH → Prop} {h0 : jH} {Q : Option Value → jH → Prop} (hD : jDk Dy) (hQ : ∀ (v : Int32) hx9, (-1) ≤ v.toInt ∧ v.toInt ≤ 40 → jJ jSgX Dy hx9 → jSm fp_X11_seat_r31 h0 hx9 → Q (some (.int v)) hx9) : ∀ (h : jH), jJ jSgX Dy h → jSm fp_X11_seat_r31 h0 h → jX m_X11_seat 8 0 0 14 [] [] h 0 0 Q := by
  intro  h    J Sm
  refine x_iconst (v := (-1)) rfl ki_m1 ?_
  refine x_iret rfl rfl ?_
  exact hQ _ _ (jr_of jk_m1 (by omega)) J Sm
set_option maxRecDepth 100000 in
set_option maxHeartbeats 4000000 in
theorem ct_X11_seat_r31_86 {Dy : jH → Prop} {h0 : jH} {Q : Option Value → jH → Prop} (hD : jDk Dy) (hQ : ∀ (v : Int32) hx9, (-1) ≤ v.toInt ∧ v.toInt ≤ 40 → jJ jSgX Dy hx9 → jSm fp_X11_seat_r31 h0 hx9 → Q (some (.int v)) hx9) : ∀ (s0 : Int32) (h : jH), 0 ≤ s0.toInt ∧ s0.toInt ≤ 39 → jJ jSgX Dy h → jSm fp_X11_seat_r31 h0 h → jX m_X11_seat 8 0 0 86 [] [.int s0] h 0 0 Q := by
  intro s0 h y0   J Sm
  refine x_iret rfl rfl ?_
  exact hQ _ _ (jr_of rfl (by omega)) J Sm
set_option maxRecDepth 100000 in
set_option maxHeartbeats 4000000 in
theorem ct_X11_seat_r31_100086 {Dy : jH → Prop} {h0 : jH} {Q : Option Value → jH → Prop} (hD : jDk Dy) (hQ : ∀ (v : Int32) hx9, (-1) ≤ v.toInt ∧ v.toInt ≤ 40 → jJ jSgX Dy hx9 → jSm fp_X11_seat_r31 h0 hx9 → Q (some (.int v)) hx9) : ∀ (h : jH), jJ jSgX Dy h → jSm fp_X11_seat_r31 h0 h → jX m_X11_seat 8 0 0 86 [] [.int (-1)] h 0 0 Q := by
  intro  h    J Sm
  refine x_iret rfl rfl ?_
  exact hQ _ _ (jr_of jk_m1 (by omega)) J Sm
set_option maxRecDepth 100000 in
set_option maxHeartbeats 4000000 in
theorem ct_X11_seat_r31_85 {Dy : jH → Prop} {h0 : jH} {Q : Option Value → jH → Prop} (hD : jDk Dy) (hQ : ∀ (v : Int32) hx9, (-1) ≤ v.toInt ∧ v.toInt ≤ 40 → jJ jSgX Dy hx9 → jSm fp_X11_seat_r31 h0 hx9 → Q (some (.int v)) hx9) : ∀ (h : jH), jJ jSgX Dy h → jSm fp_X11_seat_r31 h0 h → jX m_X11_seat 8 0 0 85 [] [] h 0 0 Q := by
  intro  h    J Sm
  refine x_iconst (v := (-1)) rfl ki_m1 ?_
  exact jX.sub jsb_n (ct_X11_seat_r31_100086 hD hQ  h J Sm)
set_option maxRecDepth 100000 in
set_option maxHeartbeats 4000000 in
theorem sf_X11_seat_r31 {Dy : jH → Prop} {h : jH} {Q : Option Value → jH → Prop} {a1 : Int32} {a2 : Int32} {a3 : Int32} (hD : jDk Dy) (J : jJ jSgX Dy h) (hQ : ∀ (v : Int32) hx9, (-1) ≤ v.toInt ∧ v.toInt ≤ 40 → jJ jSgX Dy hx9 → jSm fp_X11_seat_r31 h hx9 → Q (some (.int v)) hx9) : jC m_X11_seat 8 0 0 [.ref 31, .int a1, .int a2, .int a3] h Q := by
  refine jC.of rfl k_X11_seat rfl ?_
  have Sm := jSm_rf fp_X11_seat_r31 h
  have ea1 := jfull a1
  have ea2 := jfull a2
  have ea3 := jfull a3
  show jX m_X11_seat 8 0 0 0 [(0, .ref 31), (1, .int a1), (2, .int a2), (3, .int a3)] [] _ 0 0 _
  refine x_iloadn (x := a1) rfl rfl ?_
  refine x_inst (N := m_X11_isDay) (As := [.int a1]) (st := []) (dx9 := 1) (mc := 0) (ms := 0) (host := "") rfl t_X11_isDay ⟨Or.inl q_11_115, s_X11_isDay⟩ rfl (by decide) rfl rfl ⟨by decide, by decide⟩ (zc_X11_isDay rfl (fun v1 ev1 => ?_))
  show jX m_X11_seat 8 0 0 4 [(0, .ref 31), (1, .int a1), (2, .int a2), (3, .int a3)] [.int v1] _ 0 0 _
  refine x_ifeq (tgt := 14) rfl rfl (ti_eq rfl jk_0 ⟨fun c2 => ?_, fun c2 => ?_⟩)
  ·
    exact jX.sub jsb_n (ct_X11_seat_r31_14 hD hQ  h J Sm)
  ·
    refine x_iloadn (x := a2) rfl rfl ?_
    refine x_inst (N := m_X11_isDay) (As := [.int a2]) (st := []) (dx9 := 1) (mc := 0) (ms := 0) (host := "") rfl t_X11_isDay ⟨Or.inl q_11_115, s_X11_isDay⟩ rfl (by decide) rfl rfl ⟨by decide, by decide⟩ (zc_X11_isDay rfl (fun v3 ev3 => ?_))
    show jX m_X11_seat 8 0 0 11 [(0, .ref 31), (1, .int a1), (2, .int a2), (3, .int a3)] [.int v3] _ 0 0 _
    refine x_ifne (tgt := 16) rfl rfl (ti_ne rfl jk_0 ⟨fun c4 => ?_, fun c4 => ?_⟩)
    ·
      refine x_aloadn (x := 31) rfl rfl ?_
      refine z_getR (N := 13) (b := 78) 11 4 rfl f_11_41 rfl J rfl 3972 ⟨rfl, rfl⟩ rfl ?_
      refine x_iloadn (x := a2) rfl rfl ?_
      refine x_inv (N := m_X7_asKnown) (As := [.int a2]) (b := 78) (st := []) (dx9 := 6) (mc := 0) (ms := 0) (host := "") 7 rfl t_X7_asKnown ⟨Or.inl q_11_240, i_X7_asKnown.1, i_X7_asKnown.2⟩ ⟨by decide, rfl⟩ (congrArg Prod.fst (J.1.1 78 (7, 16) rfl)) rfl (by decide) rfl rfl ⟨by decide, by decide⟩ (sf_X7_asKnown_r78 (jr_of rfl (by omega)) hD J  (fun h J S5 => ?_))
      have Sm := jSm_tr rfl Sm S5
      show jX m_X11_seat 8 0 0 24 [(0, .ref 31), (1, .int a1), (2, .int a2), (3, .int a3)] [] _ 0 0 _
      refine x_aloadn (x := 31) rfl rfl ?_
      refine z_getR (N := 13) (b := 107) 11 8 rfl f_11_75 rfl J rfl 3976 ⟨rfl, rfl⟩ rfl ?_
      refine x_iloadn (x := a1) rfl rfl ?_
      refine x_iloadn (x := a2) rfl rfl ?_
      refine x_inv (N := m_X4_seatAll) (As := [.int a1, .int a2]) (b := 107) (st := []) (dx9 := 7) (mc := 0) (ms := 0) (host := "") 4 rfl t_X4_seatAll ⟨Or.inl q_11_488, i_X4_seatAll.1, i_X4_seatAll.2⟩ ⟨by decide, rfl⟩ (congrArg Prod.fst (J.1.1 107 (4, 18) rfl)) rfl (by decide) rfl rfl ⟨by decide, by decide⟩ (sf_X4_seatAll_r107 (jr_of rfl (by omega)) (jr_of rfl (by omega)) hD J  (fun h J S6 => ?_))
      have Sm := jSm_tr rfl Sm S6
      show jX m_X11_seat 8 0 0 33 [(0, .ref 31), (1, .int a1), (2, .int a2), (3, .int a3)] [] _ 0 0 _
      refine x_iloadn (x := a3) rfl rfl ?_
      refine x_iconst (v := (-1)) rfl ki_m1 ?_
      refine x_icne (tgt := 46) rfl rfl (ti_ne rfl jk_m1 ⟨fun c7 => ?_, fun c7 => ?_⟩)
      ·
        refine x_iloadn (x := a3) rfl rfl ?_
        refine x_iflt (tgt := 85) rfl rfl (ti_lt rfl jk_0 ⟨fun c8 => ?_, fun c8 => ?_⟩)
        ·
          exact jX.sub jsb_n (ct_X11_seat_r31_85 hD hQ  h J Sm)
        ·
          refine x_iloadn (x := a3) rfl rfl ?_
          refine x_aloadn (x := 31) rfl rfl ?_
          refine z_getR (N := 13) (b := 107) 11 8 rfl f_11_75 rfl J rfl 3976 ⟨rfl, rfl⟩ rfl ?_
          refine z_getI (N := 18) 4 9 rfl f_11_491 rfl J rfl sg_107_9_10_1_0_1 (fun v9 qv9 ev9 => ?_)
          refine x_icge (tgt := 85) rfl rfl (ti_ge rfl rfl ⟨fun c10 => ?_, fun c10 => ?_⟩)
          ·
            exact jX.sub jsb_n (ct_X11_seat_r31_85 hD hQ  h J Sm)
          ·
            refine x_iloadn (x := a3) rfl rfl ?_
            refine x_aloadn (x := 31) rfl rfl ?_
            refine z_getR (N := 13) (b := 107) 11 8 rfl f_11_75 rfl J rfl 3976 ⟨rfl, rfl⟩ rfl ?_
            refine z_getR (N := 18) (b := 112) 4 7 rfl f_11_494 rfl J rfl 13703 ⟨rfl, rfl⟩ rfl ?_
            refine z_alen (N := 40) (v := 40) rfl J rfl rfl (by decide) ?_
            refine x_icge (tgt := 85) rfl rfl (ti_ge rfl jk_40 (br_f (by omega) ?_))
            refine x_aloadn (x := 31) rfl rfl ?_
            refine z_getR (N := 13) (b := 107) 11 8 rfl f_11_75 rfl J rfl 3976 ⟨rfl, rfl⟩ rfl ?_
            refine z_getR (N := 18) (b := 112) 4 7 rfl f_11_494 rfl J rfl 13703 ⟨rfl, rfl⟩ rfl ?_
            refine x_iloadn (x := a3) rfl rfl ?_
            refine z_iald (N := 40) rfl J rfl sg_112_0_40_1_0_1 rfl (by omega) (fun v11 qv11 ev11 => ?_)
            refine x_goto (tgt := 86) rfl rfl ?_
            exact jX.sub jsb_n (ct_X11_seat_r31_86 hD hQ  v11 h (jr_of rfl (by omega)) J Sm)
      ·
        refine x_aloadn (x := 31) rfl rfl ?_
        refine z_getR (N := 13) (b := 107) 11 8 rfl f_11_75 rfl J rfl 3976 ⟨rfl, rfl⟩ rfl ?_
        refine z_getI (N := 18) 4 9 rfl f_11_491 rfl J rfl sg_107_9_10_1_0_1 (fun v12 qv12 ev12 => ?_)
        refine x_iret rfl rfl ?_
        exact hQ _ _ (jr_of rfl (by omega)) J Sm
    ·
      exact jX.sub jsb_n (ct_X11_seat_r31_14 hD hQ  h J Sm)
def fp_X11_soul_r31 : jFp := [(78, 13, 14), (82, 0, 600), (83, 0, 600), (84, 0, 200), (86, 0, 3)]
set_option maxRecDepth 100000 in
set_option maxHeartbeats 4000000 in
theorem sf_X11_soul_r31 {Dy : jH → Prop} {h : jH} {Q : Option Value → jH → Prop} {a1 : Int32} {a2 : Int32} (hD : jDk Dy) (J : jJ jSgX Dy h) (hQ : ∀ (v : Int32) hx9, (-1) ≤ v.toInt ∧ v.toInt ≤ 599 → jJ jSgX Dy hx9 → jSm fp_X11_soul_r31 h hx9 → Q (some (.int v)) hx9) : jC m_X11_soul 8 0 0 [.ref 31, .int a1, .int a2] h Q := by
  refine jC.of rfl k_X11_soul rfl ?_
  have Sm := jSm_rf fp_X11_soul_r31 h
  have ea1 := jfull a1
  have ea2 := jfull a2
  show jX m_X11_soul 8 0 0 0 [(0, .ref 31), (1, .int a1), (2, .int a2)] [] _ 0 0 _
  refine x_aloadn (x := 31) rfl rfl ?_
  refine x_iloadn (x := a1) rfl rfl ?_
  refine x_iloadn (x := a2) rfl rfl ?_
  refine x_inv (N := m_X11_soulOn) (As := [.int a1, .int a2]) (b := 31) (st := []) (dx9 := 7) (mc := 0) (ms := 0) (host := "") 11 rfl t_X11_soulOn ⟨Or.inl q_11_234, i_X11_soulOn.1, i_X11_soulOn.2⟩ ⟨by decide, rfl⟩ (congrArg Prod.fst (J.1.1 31 (11, 13) rfl)) rfl (by decide) rfl rfl ⟨by decide, by decide⟩ (jC.of rfl k_X11_soulOn rfl ?_)
  show jX m_X11_soulOn 7 0 0 0 [(0, .ref 31), (1, .int a1), (2, .int a2)] [] _ 0 0 _
  refine x_iloadn (x := a2) rfl rfl ?_
  refine x_inst (N := m_X11_isDay) (As := [.int a2]) (st := []) (dx9 := 1) (mc := 0) (ms := 0) (host := "") rfl t_X11_isDay ⟨Or.inl q_11_115, s_X11_isDay⟩ rfl (by decide) rfl rfl ⟨by decide, by decide⟩ (zc_X11_isDay rfl (fun v1 ev1 => ?_))
  show jX m_X11_soulOn 7 0 0 4 [(0, .ref 31), (1, .int a1), (2, .int a2)] [.int v1] _ 0 0 _
  refine x_ifeq (tgt := 18) rfl rfl (ti_eq rfl jk_0 ⟨fun c2 => ?_, fun c2 => ?_⟩)
  ·
    refine x_iconst (v := (-1)) rfl ki_m1 ?_
    refine x_iret rfl rfl ?_
    show jX m_X11_soul 8 0 0 6 [(0, .ref 31), (1, .int a1), (2, .int a2)] [.int (-1)] _ 0 0 _
    refine x_iret rfl rfl ?_
    exact hQ _ _ (jr_of jk_m1 (by omega)) J Sm
  ·
    refine x_aloadn (x := 31) rfl rfl ?_
    refine z_getR (N := 13) (b := 78) 11 4 rfl f_11_41 rfl J rfl 3972 ⟨rfl, rfl⟩ rfl ?_
    refine x_iloadn (x := a1) rfl rfl ?_
    refine x_inv (N := m_X7_isMention) (As := [.int a1]) (b := 78) (st := []) (dx9 := 6) (mc := 0) (ms := 0) (host := "") 7 rfl t_X7_isMention ⟨Or.inl q_11_187, i_X7_isMention.1, i_X7_isMention.2⟩ ⟨by decide, rfl⟩ (congrArg Prod.fst (J.1.1 78 (7, 16) rfl)) rfl (by decide) rfl rfl ⟨by decide, by decide⟩ (jC.of rfl k_X7_isMention rfl ?_)
    show jX m_X7_isMention 6 0 0 0 [(0, .ref 78), (1, .int a1)] [] _ 0 0 _
    refine x_iloadn (x := a1) rfl rfl ?_
    refine x_iflt (tgt := 41) rfl rfl (ti_lt rfl jk_0 ⟨fun c3 => ?_, fun c3 => ?_⟩)
    ·
      refine x_iconst (v := 0) rfl ki_0 ?_
      refine x_zret rfl rfl (by decide) ?_
      show jX m_X11_soulOn 7 0 0 15 [(0, .ref 31), (1, .int a1), (2, .int a2)] [.int 0] _ 0 0 _
      refine x_ifne (tgt := 20) rfl rfl (ti_ne jk_0 jk_0 (bn_f (by omega) ?_))
      refine x_iconst (v := (-1)) rfl ki_m1 ?_
      refine x_iret rfl rfl ?_
      show jX m_X11_soul 8 0 0 6 [(0, .ref 31), (1, .int a1), (2, .int a2)] [.int (-1)] _ 0 0 _
      refine x_iret rfl rfl ?_
      exact hQ _ _ (jr_of jk_m1 (by omega)) J Sm
    ·
      refine x_iloadn (x := a1) rfl rfl ?_
      refine x_sipush (v := 600) rfl ks_600 ?_
      refine x_icge (tgt := 41) rfl rfl (ti_ge rfl jk_600 ⟨fun c4 => ?_, fun c4 => ?_⟩)
      ·
        refine x_iconst (v := 0) rfl ki_0 ?_
        refine x_zret rfl rfl (by decide) ?_
        show jX m_X11_soulOn 7 0 0 15 [(0, .ref 31), (1, .int a1), (2, .int a2)] [.int 0] _ 0 0 _
        refine x_ifne (tgt := 20) rfl rfl (ti_ne jk_0 jk_0 (bn_f (by omega) ?_))
        refine x_iconst (v := (-1)) rfl ki_m1 ?_
        refine x_iret rfl rfl ?_
        show jX m_X11_soul 8 0 0 6 [(0, .ref 31), (1, .int a1), (2, .int a2)] [.int (-1)] _ 0 0 _
        refine x_iret rfl rfl ?_
        exact hQ _ _ (jr_of jk_m1 (by omega)) J Sm
      ·
        refine x_iloadn (x := a1) rfl rfl ?_
        refine x_iconst (v := 3) rfl ki_3 ?_
        refine z_idiv rfl rfl jk_3 (by omega) (by omega) (fun v5 ev5 => ?_)
        refine x_aloadn (x := 78) rfl rfl ?_
        refine z_getR (N := 16) (b := 32) 7 0 rfl f_7_55 rfl J rfl 9984 ⟨rfl, rfl⟩ rfl ?_
        refine z_getR (N := 20) (b := 33) 1 0 rfl f_7_63 rfl J rfl 4096 ⟨rfl, rfl⟩ rfl ?_
        refine z_getI (N := 4) 8 3 rfl f_7_85 rfl J rfl sg_33_3_4_1_0_1 (fun v6 qv6 ev6 => ?_)
        refine x_icge (tgt := 41) rfl rfl (ti_ge rfl rfl ⟨fun c7 => ?_, fun c7 => ?_⟩)
        ·
          refine x_iconst (v := 0) rfl ki_0 ?_
          refine x_zret rfl rfl (by decide) ?_
          show jX m_X11_soulOn 7 0 0 15 [(0, .ref 31), (1, .int a1), (2, .int a2)] [.int 0] _ 0 0 _
          refine x_ifne (tgt := 20) rfl rfl (ti_ne jk_0 jk_0 (bn_f (by omega) ?_))
          refine x_iconst (v := (-1)) rfl ki_m1 ?_
          refine x_iret rfl rfl ?_
          show jX m_X11_soul 8 0 0 6 [(0, .ref 31), (1, .int a1), (2, .int a2)] [.int (-1)] _ 0 0 _
          refine x_iret rfl rfl ?_
          exact hQ _ _ (jr_of jk_m1 (by omega)) J Sm
        ·
          refine x_aloadn (x := 78) rfl rfl ?_
          refine z_getR (N := 16) (b := 79) 7 7 rfl f_7_27 rfl J rfl 9991 ⟨rfl, rfl⟩ rfl ?_
          refine x_iloadn (x := a1) rfl rfl ?_
          refine z_iald (N := 600) rfl J rfl sg_79_0_600_1_0_1 rfl (by omega) (fun v8 qv8 ev8 => ?_)
          refine x_iconst (v := (-1)) rfl ki_m1 ?_
          refine x_iceq (tgt := 41) rfl rfl (ti_eq rfl jk_m1 ⟨fun c9 => ?_, fun c9 => ?_⟩)
          ·
            refine x_iconst (v := 0) rfl ki_0 ?_
            refine x_zret rfl rfl (by decide) ?_
            show jX m_X11_soulOn 7 0 0 15 [(0, .ref 31), (1, .int a1), (2, .int a2)] [.int 0] _ 0 0 _
            refine x_ifne (tgt := 20) rfl rfl (ti_ne jk_0 jk_0 (bn_f (by omega) ?_))
            refine x_iconst (v := (-1)) rfl ki_m1 ?_
            refine x_iret rfl rfl ?_
            show jX m_X11_soul 8 0 0 6 [(0, .ref 31), (1, .int a1), (2, .int a2)] [.int (-1)] _ 0 0 _
            refine x_iret rfl rfl ?_
            exact hQ _ _ (jr_of jk_m1 (by omega)) J Sm
          ·
            refine x_iconst (v := 1) rfl ki_1 ?_
            refine x_goto (tgt := 42) rfl rfl ?_
            refine x_zret rfl rfl (by decide) ?_
            show jX m_X11_soulOn 7 0 0 15 [(0, .ref 31), (1, .int a1), (2, .int a2)] [.int 1] _ 0 0 _
            refine x_ifne (tgt := 20) rfl rfl (ti_ne jk_1 jk_0 (bn_t (by omega) ?_))
            refine x_aloadn (x := 31) rfl rfl ?_
            refine z_getR (N := 13) (b := 78) 11 4 rfl f_11_41 rfl J rfl 3972 ⟨rfl, rfl⟩ rfl ?_
            refine x_iloadn (x := a2) rfl rfl ?_
            refine x_inv (N := m_X7_asKnown) (As := [.int a2]) (b := 78) (st := []) (dx9 := 6) (mc := 0) (ms := 0) (host := "") 7 rfl t_X7_asKnown ⟨Or.inl q_11_240, i_X7_asKnown.1, i_X7_asKnown.2⟩ ⟨by decide, rfl⟩ (congrArg Prod.fst (J.1.1 78 (7, 16) rfl)) rfl (by decide) rfl rfl ⟨by decide, by decide⟩ (sf_X7_asKnown_r78 (jr_of rfl (by omega)) hD J  (fun h J S10 => ?_))
            have Sm := jSm_tr rfl Sm S10
            show jX m_X11_soulOn 7 0 0 28 [(0, .ref 31), (1, .int a1), (2, .int a2)] [] _ 0 0 _
            refine x_aloadn (x := 31) rfl rfl ?_
            refine z_getR (N := 13) (b := 78) 11 4 rfl f_11_41 rfl J rfl 3972 ⟨rfl, rfl⟩ rfl ?_
            refine z_getR (N := 16) (b := 82) 7 10 rfl f_11_537 rfl J rfl 9994 ⟨rfl, rfl⟩ rfl ?_
            refine x_iloadn (x := a1) rfl rfl ?_
            refine z_iald (N := 600) rfl J rfl sg_82_0_600_1_0_1 rfl (by omega) (fun v11 qv11 ev11 => ?_)
            refine x_iret rfl rfl ?_
            show jX m_X11_soul 8 0 0 6 [(0, .ref 31), (1, .int a1), (2, .int a2)] [.int v11] _ 0 0 _
            refine x_iret rfl rfl ?_
            exact hQ _ _ (jr_of rfl (by omega)) J Sm
def fp_X11_span_r31 : jFp := [(78, 13, 14), (82, 0, 600), (83, 0, 600), (84, 0, 200), (85, 0, 4), (86, 0, 3)]
set_option maxRecDepth 100000 in
set_option maxHeartbeats 4000000 in
theorem ct_X11_span_r31_23 {Dy : jH → Prop} {h0 : jH} {Q : Option Value → jH → Prop} (hD : jDk Dy) (hQ : ∀ (v : Int32) hx9, jJ jSgX Dy hx9 → jSm fp_X11_span_r31 h0 hx9 → Q (some (.int v)) hx9) : ∀ (h : jH), jJ jSgX Dy h → jSm fp_X11_span_r31 h0 h → jX m_X11_span 8 0 0 23 [] [] h 0 0 Q := by
  intro  h    J Sm
  refine x_iconst (v := (-1)) rfl ki_m1 ?_
  refine x_iret rfl rfl ?_
  exact hQ _ _ J Sm
set_option maxRecDepth 100000 in
set_option maxHeartbeats 4000000 in
theorem sf_X11_span_r31 {Dy : jH → Prop} {h : jH} {Q : Option Value → jH → Prop} {a1 : Int32} {a2 : Int32} {a3 : Int32} (hD : jDk Dy) (J : jJ jSgX Dy h) (hQ : ∀ (v : Int32) hx9, jJ jSgX Dy hx9 → jSm fp_X11_span_r31 h hx9 → Q (some (.int v)) hx9) : jC m_X11_span 8 0 0 [.ref 31, .int a1, .int a2, .int a3] h Q := by
  refine jC.of rfl k_X11_span rfl ?_
  have Sm := jSm_rf fp_X11_span_r31 h
  have ea1 := jfull a1
  have ea2 := jfull a2
  have ea3 := jfull a3
  show jX m_X11_span 8 0 0 0 [(0, .ref 31), (1, .int a1), (2, .int a2), (3, .int a3)] [] _ 0 0 _
  refine x_aloadn (x := 31) rfl rfl ?_
  refine x_iloadn (x := a1) rfl rfl ?_
  refine x_iloadn (x := a2) rfl rfl ?_
  refine x_inv (N := m_X11_soulOn) (As := [.int a1, .int a2]) (b := 31) (st := []) (dx9 := 7) (mc := 0) (ms := 0) (host := "") 11 rfl t_X11_soulOn ⟨Or.inl q_11_234, i_X11_soulOn.1, i_X11_soulOn.2⟩ ⟨by decide, rfl⟩ (congrArg Prod.fst (J.1.1 31 (11, 13) rfl)) rfl (by decide) rfl rfl ⟨by decide, by decide⟩ (jC.of rfl k_X11_soulOn rfl ?_)
  show jX m_X11_soulOn 7 0 0 0 [(0, .ref 31), (1, .int a1), (2, .int a2)] [] _ 0 0 _
  refine x_iloadn (x := a2) rfl rfl ?_
  refine x_inst (N := m_X11_isDay) (As := [.int a2]) (st := []) (dx9 := 1) (mc := 0) (ms := 0) (host := "") rfl t_X11_isDay ⟨Or.inl q_11_115, s_X11_isDay⟩ rfl (by decide) rfl rfl ⟨by decide, by decide⟩ (zc_X11_isDay rfl (fun v1 ev1 => ?_))
  show jX m_X11_soulOn 7 0 0 4 [(0, .ref 31), (1, .int a1), (2, .int a2)] [.int v1] _ 0 0 _
  refine x_ifeq (tgt := 18) rfl rfl (ti_eq rfl jk_0 ⟨fun c2 => ?_, fun c2 => ?_⟩)
  ·
    refine x_iconst (v := (-1)) rfl ki_m1 ?_
    refine x_iret rfl rfl ?_
    show jX m_X11_span 8 0 0 6 [(0, .ref 31), (1, .int a1), (2, .int a2), (3, .int a3)] [.int (-1)] _ 0 0 _
    refine x_istore (lsx9 := [(4, .int (-1)), (0, .ref 31), (1, .int a1), (2, .int a2), (3, .int a3)]) rfl rfl rfl ?_
    refine x_iload (x := (-1)) rfl rfl ?_
    refine x_iconst (v := (-1)) rfl ki_m1 ?_
    refine x_iceq (tgt := 23) rfl rfl (ti_eq jk_m1 jk_m1 (br_t (by omega) ?_))
    exact jX.sub jsb_n (ct_X11_span_r31_23 hD hQ  h J Sm)
  ·
    refine x_aloadn (x := 31) rfl rfl ?_
    refine z_getR (N := 13) (b := 78) 11 4 rfl f_11_41 rfl J rfl 3972 ⟨rfl, rfl⟩ rfl ?_
    refine x_iloadn (x := a1) rfl rfl ?_
    refine x_inv (N := m_X7_isMention) (As := [.int a1]) (b := 78) (st := []) (dx9 := 6) (mc := 0) (ms := 0) (host := "") 7 rfl t_X7_isMention ⟨Or.inl q_11_187, i_X7_isMention.1, i_X7_isMention.2⟩ ⟨by decide, rfl⟩ (congrArg Prod.fst (J.1.1 78 (7, 16) rfl)) rfl (by decide) rfl rfl ⟨by decide, by decide⟩ (jC.of rfl k_X7_isMention rfl ?_)
    show jX m_X7_isMention 6 0 0 0 [(0, .ref 78), (1, .int a1)] [] _ 0 0 _
    refine x_iloadn (x := a1) rfl rfl ?_
    refine x_iflt (tgt := 41) rfl rfl (ti_lt rfl jk_0 ⟨fun c3 => ?_, fun c3 => ?_⟩)
    ·
      refine x_iconst (v := 0) rfl ki_0 ?_
      refine x_zret rfl rfl (by decide) ?_
      show jX m_X11_soulOn 7 0 0 15 [(0, .ref 31), (1, .int a1), (2, .int a2)] [.int 0] _ 0 0 _
      refine x_ifne (tgt := 20) rfl rfl (ti_ne jk_0 jk_0 (bn_f (by omega) ?_))
      refine x_iconst (v := (-1)) rfl ki_m1 ?_
      refine x_iret rfl rfl ?_
      show jX m_X11_span 8 0 0 6 [(0, .ref 31), (1, .int a1), (2, .int a2), (3, .int a3)] [.int (-1)] _ 0 0 _
      refine x_istore (lsx9 := [(4, .int (-1)), (0, .ref 31), (1, .int a1), (2, .int a2), (3, .int a3)]) rfl rfl rfl ?_
      refine x_iload (x := (-1)) rfl rfl ?_
      refine x_iconst (v := (-1)) rfl ki_m1 ?_
      refine x_iceq (tgt := 23) rfl rfl (ti_eq jk_m1 jk_m1 (br_t (by omega) ?_))
      exact jX.sub jsb_n (ct_X11_span_r31_23 hD hQ  h J Sm)
    ·
      refine x_iloadn (x := a1) rfl rfl ?_
      refine x_sipush (v := 600) rfl ks_600 ?_
      refine x_icge (tgt := 41) rfl rfl (ti_ge rfl jk_600 ⟨fun c4 => ?_, fun c4 => ?_⟩)
      ·
        refine x_iconst (v := 0) rfl ki_0 ?_
        refine x_zret rfl rfl (by decide) ?_
        show jX m_X11_soulOn 7 0 0 15 [(0, .ref 31), (1, .int a1), (2, .int a2)] [.int 0] _ 0 0 _
        refine x_ifne (tgt := 20) rfl rfl (ti_ne jk_0 jk_0 (bn_f (by omega) ?_))
        refine x_iconst (v := (-1)) rfl ki_m1 ?_
        refine x_iret rfl rfl ?_
        show jX m_X11_span 8 0 0 6 [(0, .ref 31), (1, .int a1), (2, .int a2), (3, .int a3)] [.int (-1)] _ 0 0 _
        refine x_istore (lsx9 := [(4, .int (-1)), (0, .ref 31), (1, .int a1), (2, .int a2), (3, .int a3)]) rfl rfl rfl ?_
        refine x_iload (x := (-1)) rfl rfl ?_
        refine x_iconst (v := (-1)) rfl ki_m1 ?_
        refine x_iceq (tgt := 23) rfl rfl (ti_eq jk_m1 jk_m1 (br_t (by omega) ?_))
        exact jX.sub jsb_n (ct_X11_span_r31_23 hD hQ  h J Sm)
      ·
        refine x_iloadn (x := a1) rfl rfl ?_
        refine x_iconst (v := 3) rfl ki_3 ?_
        refine z_idiv rfl rfl jk_3 (by omega) (by omega) (fun v5 ev5 => ?_)
        refine x_aloadn (x := 78) rfl rfl ?_
        refine z_getR (N := 16) (b := 32) 7 0 rfl f_7_55 rfl J rfl 9984 ⟨rfl, rfl⟩ rfl ?_
        refine z_getR (N := 20) (b := 33) 1 0 rfl f_7_63 rfl J rfl 4096 ⟨rfl, rfl⟩ rfl ?_
        refine z_getI (N := 4) 8 3 rfl f_7_85 rfl J rfl sg_33_3_4_1_0_1 (fun v6 qv6 ev6 => ?_)
        refine x_icge (tgt := 41) rfl rfl (ti_ge rfl rfl ⟨fun c7 => ?_, fun c7 => ?_⟩)
        ·
          refine x_iconst (v := 0) rfl ki_0 ?_
          refine x_zret rfl rfl (by decide) ?_
          show jX m_X11_soulOn 7 0 0 15 [(0, .ref 31), (1, .int a1), (2, .int a2)] [.int 0] _ 0 0 _
          refine x_ifne (tgt := 20) rfl rfl (ti_ne jk_0 jk_0 (bn_f (by omega) ?_))
          refine x_iconst (v := (-1)) rfl ki_m1 ?_
          refine x_iret rfl rfl ?_
          show jX m_X11_span 8 0 0 6 [(0, .ref 31), (1, .int a1), (2, .int a2), (3, .int a3)] [.int (-1)] _ 0 0 _
          refine x_istore (lsx9 := [(4, .int (-1)), (0, .ref 31), (1, .int a1), (2, .int a2), (3, .int a3)]) rfl rfl rfl ?_
          refine x_iload (x := (-1)) rfl rfl ?_
          refine x_iconst (v := (-1)) rfl ki_m1 ?_
          refine x_iceq (tgt := 23) rfl rfl (ti_eq jk_m1 jk_m1 (br_t (by omega) ?_))
          exact jX.sub jsb_n (ct_X11_span_r31_23 hD hQ  h J Sm)
        ·
          refine x_aloadn (x := 78) rfl rfl ?_
          refine z_getR (N := 16) (b := 79) 7 7 rfl f_7_27 rfl J rfl 9991 ⟨rfl, rfl⟩ rfl ?_
          refine x_iloadn (x := a1) rfl rfl ?_
          refine z_iald (N := 600) rfl J rfl sg_79_0_600_1_0_1 rfl (by omega) (fun v8 qv8 ev8 => ?_)
          refine x_iconst (v := (-1)) rfl ki_m1 ?_
          refine x_iceq (tgt := 41) rfl rfl (ti_eq rfl jk_m1 ⟨fun c9 => ?_, fun c9 => ?_⟩)
          ·
            refine x_iconst (v := 0) rfl ki_0 ?_
            refine x_zret rfl rfl (by decide) ?_
            show jX m_X11_soulOn 7 0 0 15 [(0, .ref 31), (1, .int a1), (2, .int a2)] [.int 0] _ 0 0 _
            refine x_ifne (tgt := 20) rfl rfl (ti_ne jk_0 jk_0 (bn_f (by omega) ?_))
            refine x_iconst (v := (-1)) rfl ki_m1 ?_
            refine x_iret rfl rfl ?_
            show jX m_X11_span 8 0 0 6 [(0, .ref 31), (1, .int a1), (2, .int a2), (3, .int a3)] [.int (-1)] _ 0 0 _
            refine x_istore (lsx9 := [(4, .int (-1)), (0, .ref 31), (1, .int a1), (2, .int a2), (3, .int a3)]) rfl rfl rfl ?_
            refine x_iload (x := (-1)) rfl rfl ?_
            refine x_iconst (v := (-1)) rfl ki_m1 ?_
            refine x_iceq (tgt := 23) rfl rfl (ti_eq jk_m1 jk_m1 (br_t (by omega) ?_))
            exact jX.sub jsb_n (ct_X11_span_r31_23 hD hQ  h J Sm)
          ·
            refine x_iconst (v := 1) rfl ki_1 ?_
            refine x_goto (tgt := 42) rfl rfl ?_
            refine x_zret rfl rfl (by decide) ?_
            show jX m_X11_soulOn 7 0 0 15 [(0, .ref 31), (1, .int a1), (2, .int a2)] [.int 1] _ 0 0 _
            refine x_ifne (tgt := 20) rfl rfl (ti_ne jk_1 jk_0 (bn_t (by omega) ?_))
            refine x_aloadn (x := 31) rfl rfl ?_
            refine z_getR (N := 13) (b := 78) 11 4 rfl f_11_41 rfl J rfl 3972 ⟨rfl, rfl⟩ rfl ?_
            refine x_iloadn (x := a2) rfl rfl ?_
            refine x_inv (N := m_X7_asKnown) (As := [.int a2]) (b := 78) (st := []) (dx9 := 6) (mc := 0) (ms := 0) (host := "") 7 rfl t_X7_asKnown ⟨Or.inl q_11_240, i_X7_asKnown.1, i_X7_asKnown.2⟩ ⟨by decide, rfl⟩ (congrArg Prod.fst (J.1.1 78 (7, 16) rfl)) rfl (by decide) rfl rfl ⟨by decide, by decide⟩ (sf_X7_asKnown_r78 (jr_of rfl (by omega)) hD J  (fun h J S10 => ?_))
            have Sm := jSm_tr rfl Sm S10
            show jX m_X11_soulOn 7 0 0 28 [(0, .ref 31), (1, .int a1), (2, .int a2)] [] _ 0 0 _
            refine x_aloadn (x := 31) rfl rfl ?_
            refine z_getR (N := 13) (b := 78) 11 4 rfl f_11_41 rfl J rfl 3972 ⟨rfl, rfl⟩ rfl ?_
            refine z_getR (N := 16) (b := 82) 7 10 rfl f_11_537 rfl J rfl 9994 ⟨rfl, rfl⟩ rfl ?_
            refine x_iloadn (x := a1) rfl rfl ?_
            refine z_iald (N := 600) rfl J rfl sg_82_0_600_1_0_1 rfl (by omega) (fun v11 qv11 ev11 => ?_)
            refine x_iret rfl rfl ?_
            show jX m_X11_span 8 0 0 6 [(0, .ref 31), (1, .int a1), (2, .int a2), (3, .int a3)] [.int v11] _ 0 0 _
            refine x_istore (lsx9 := [(4, .int v11), (0, .ref 31), (1, .int a1), (2, .int a2), (3, .int a3)]) rfl rfl rfl ?_
            refine x_iload (x := v11) rfl rfl ?_
            refine x_iconst (v := (-1)) rfl ki_m1 ?_
            refine x_iceq (tgt := 23) rfl rfl (ti_eq rfl jk_m1 ⟨fun c12 => ?_, fun c12 => ?_⟩)
            ·
              exact jX.sub jsb_n (ct_X11_span_r31_23 hD hQ  h J Sm)
            ·
              refine x_iloadn (x := a3) rfl rfl ?_
              refine x_iflt (tgt := 23) rfl rfl (ti_lt rfl jk_0 ⟨fun c13 => ?_, fun c13 => ?_⟩)
              ·
                exact jX.sub jsb_n (ct_X11_span_r31_23 hD hQ  h J Sm)
              ·
                refine x_iloadn (x := a3) rfl rfl ?_
                refine x_iconst (v := 3) rfl ki_3 ?_
                refine x_icle (tgt := 25) rfl rfl (ti_le rfl jk_3 ⟨fun c14 => ?_, fun c14 => ?_⟩)
                ·
                  refine x_aloadn (x := 31) rfl rfl ?_
                  refine z_getR (N := 13) (b := 78) 11 4 rfl f_11_41 rfl J rfl 3972 ⟨rfl, rfl⟩ rfl ?_
                  refine x_iload (x := v11) rfl rfl ?_
                  refine x_inv (N := m_X7_readSpan) (As := [.int v11]) (b := 78) (st := []) (dx9 := 1) (mc := 0) (ms := 0) (host := "") 7 rfl t_X7_readSpan ⟨Or.inl q_11_264, i_X7_readSpan.1, i_X7_readSpan.2⟩ ⟨by decide, rfl⟩ (congrArg Prod.fst (J.1.1 78 (7, 16) rfl)) rfl (by decide) rfl rfl ⟨by decide, by decide⟩ (sf_X7_readSpan_r78 (jr_of rfl (by omega)) hD J  (fun h J S15 => ?_))
                  have Sm := jSm_tr rfl Sm S15
                  show jX m_X11_span 8 0 0 34 [(4, .int v11), (0, .ref 31), (1, .int a1), (2, .int a2), (3, .int a3)] [] _ 0 0 _
                  refine x_aloadn (x := 31) rfl rfl ?_
                  refine z_getR (N := 13) (b := 78) 11 4 rfl f_11_41 rfl J rfl 3972 ⟨rfl, rfl⟩ rfl ?_
                  refine z_getR (N := 16) (b := 85) 7 14 rfl f_11_267 rfl J rfl 9998 ⟨rfl, rfl⟩ rfl ?_
                  refine x_iloadn (x := a3) rfl rfl ?_
                  refine z_iald0 (N := 4) rfl J rfl rfl (by omega) (fun v16 qv16 => ?_)
                  have ev16 := jfull v16
                  refine x_iret rfl rfl ?_
                  exact hQ _ _ J Sm
                ·
                  exact jX.sub jsb_n (ct_X11_span_r31_23 hD hQ  h J Sm)
def fp_X5_readSide_r70 : jFp := [(68, 3, 4), (68, 4, 5), (68, 5, 6), (72, 0, 64)]
set_option maxRecDepth 100000 in
set_option maxHeartbeats 4000000 in
theorem ct_X5_readSide_r70_28 {Dy : jH → Prop} {h0 : jH} {Q : Option Value → jH → Prop} (hD : jDk Dy) (hQ : ∀ (v : Int32) hx9, 0 ≤ v.toInt ∧ v.toInt ≤ 1 → jJ jSgX Dy hx9 → jSm fp_X5_readSide_r70 h0 hx9 → ∀ u0 u1 : Int32, jiv hx9 68 5 = u0 → jiv hx9 68 3 = u1 → (u0.toInt ≠ 3 ∨ u1.toInt ≤ 399) → Q (some (.int v)) hx9) : ∀ (g0 : Int32) (g1 : Int32) (h : jH), 0 ≤ g0.toInt ∧ g0.toInt ≤ 400 → 0 ≤ g1.toInt ∧ g1.toInt ≤ 3 → (g1.toInt ≠ 3 ∨ g0.toInt ≤ 399) → jiv h 68 3 = g0 → jiv h 68 5 = g1 → jJ jSgX Dy h → jSm fp_X5_readSide_r70 h0 h → jX m_X5_readSide 3 0 0 28 [] [] h 0 0 Q := by
  intro g0 g1 h y0 y1 y2 z0 z1  J Sm
  refine x_iconst (v := 0) rfl ki_0 ?_
  refine x_zret rfl rfl (by decide) ?_
  exact hQ _ _ (jr_of jk_0 (by omega)) J Sm _ _ z1 z0 (by omega)
set_option maxRecDepth 100000 in
set_option maxHeartbeats 4000000 in
theorem ct_X5_readSide_r70_39 {Dy : jH → Prop} {h0 : jH} {Q : Option Value → jH → Prop} (hD : jDk Dy) (hQ : ∀ (v : Int32) hx9, 0 ≤ v.toInt ∧ v.toInt ≤ 1 → jJ jSgX Dy hx9 → jSm fp_X5_readSide_r70 h0 hx9 → ∀ u0 u1 : Int32, jiv hx9 68 5 = u0 → jiv hx9 68 3 = u1 → (u0.toInt ≠ 3 ∨ u1.toInt ≤ 399) → Q (some (.int v)) hx9) : ∀ r : Nat, ∀ (l1 : Int32) (l2 : Int32) (l3 : Int32) (g0 : Int32) (g1 : Int32) (g2 : Int32) (h : jH), 3 - l3.toInt < (r : Int) → 0 ≤ l1.toInt ∧ l1.toInt ≤ 60 → l1.toInt % 4 = 0 → (-400) ≤ l2.toInt ∧ l2.toInt ≤ 3 → 0 ≤ l3.toInt ∧ l3.toInt ≤ 3 → 0 ≤ g0.toInt ∧ g0.toInt ≤ 400 → 0 ≤ g1.toInt ∧ g1.toInt ≤ 400 → 0 ≤ g2.toInt ∧ g2.toInt ≤ 3 → (g2.toInt ≠ 3 ∨ g0.toInt ≤ 399) → jiv h 68 3 = g0 → jiv h 68 4 = g1 → jiv h 68 5 = g2 → jJ jSgX Dy h → jSm fp_X5_readSide_r70 h0 h → jX m_X5_readSide 3 0 0 39 [(0, .ref 70), (1, .int l1), (2, .int l2), (3, .int l3)] [] h 0 0 Q := by
  intro r
  induction r with
  | zero =>
    intro l1 l2 l3 g0 g1 g2 h hm y0 y1 y2 y3 y4 y5 y6 y7 z0 z1 z2  J Sm
    exfalso
    omega
  | succ r ih =>
    intro l1 l2 l3 g0 g1 g2 h hm y0 y1 y2 y3 y4 y5 y6 y7 z0 z1 z2  J Sm
    refine x_iloadn (x := l3) rfl rfl ?_
    refine x_iloadn (x := l2) rfl rfl ?_
    refine x_icge (tgt := 68) rfl rfl (ti_ge rfl rfl ⟨fun c1 => ?_, fun c1 => ?_⟩)
    ·
      refine x_aloadn (x := 70) rfl rfl ?_
      refine z_getR (N := 9) (b := 68) 5 1 rfl f_5_39 rfl J rfl 8961 ⟨rfl, rfl⟩ rfl ?_
      refine x_inv (N := m_X9_step) (As := []) (b := 68) (st := []) (dx9 := 2) (mc := 0) (ms := 0) (host := "") 9 rfl t_X9_step ⟨Or.inl q_5_67, i_X9_step.1, i_X9_step.2⟩ ⟨by decide, rfl⟩ (congrArg Prod.fst (J.1.1 68 (9, 6) rfl)) rfl (by decide) rfl rfl ⟨by decide, by decide⟩ (sf_X9_step_r68  hD J z2 z0 (by omega)  (fun h J S2 u3 u4 qu3 qu4 ru3 => ?_))
      have Sm := jSm_tr rfl Sm S2
      have eu3 := (show 0 ≤ u3.toInt ∧ u3.toInt ≤ 3 from qu3 ▸ jrg_f J sg_68_5_6_1_0_1)
      have eu4 := (show 0 ≤ u4.toInt ∧ u4.toInt ≤ 400 from qu4 ▸ jrg_f J sg_68_3_4_1_0_1)
      show jX m_X5_readSide 3 0 0 75 [(0, .ref 70), (1, .int l1), (2, .int l2), (3, .int l3)] [] _ 0 0 _
      refine x_iconst (v := 1) rfl ki_1 ?_
      refine x_zret rfl rfl (by decide) ?_
      exact hQ _ _ (jr_of jk_1 (by omega)) J Sm _ _ qu3 qu4 (by omega)
    ·
      refine x_aloadn (x := 70) rfl rfl ?_
      refine z_getR (N := 9) (b := 72) 5 3 rfl f_5_15 rfl J rfl 8963 ⟨rfl, rfl⟩ rfl ?_
      refine x_iloadn (x := l1) rfl rfl ?_
      refine x_iconst (v := 1) rfl ki_1 ?_
      refine z_iadd rfl rfl jk_1 (by omega) (fun v5 ev5 => ?_)
      refine x_iloadn (x := l3) rfl rfl ?_
      refine z_iadd rfl rfl rfl (by omega) (fun v6 ev6 => ?_)
      refine x_aloadn (x := 70) rfl rfl ?_
      refine z_getR (N := 9) (b := 68) 5 1 rfl f_5_39 rfl J rfl 8961 ⟨rfl, rfl⟩ rfl ?_
      refine x_iloadn (x := l3) rfl rfl ?_
      refine x_inv (N := m_X9_letter) (As := [.int l3]) (b := 68) (st := [.int v6, .ref 72]) (dx9 := 2) (mc := 0) (ms := 0) (host := "") 9 rfl t_X9_letter ⟨Or.inl q_5_79, i_X9_letter.1, i_X9_letter.2⟩ ⟨by decide, rfl⟩ (congrArg Prod.fst (J.1.1 68 (9, 6) rfl)) rfl (by decide) rfl rfl ⟨by decide, by decide⟩ (jC.of rfl k_X9_letter rfl ?_)
      show jX m_X9_letter 2 0 0 0 [(0, .ref 68), (1, .int l3)] [] _ 0 0 _
      refine x_iloadn (x := l3) rfl rfl ?_
      refine x_iflt (tgt := 31) rfl rfl (ti_lt rfl jk_0 (br_f (by omega) ?_))
      refine x_iloadn (x := l3) rfl rfl ?_
      refine x_aloadn (x := 68) rfl rfl ?_
      refine z_getM (N := 6) (v := g1) 9 4 rfl f_9_25 rfl J rfl z1 ?_
      refine x_aloadn (x := 68) rfl rfl ?_
      refine z_getM (N := 6) (v := g0) 9 3 rfl f_9_22 rfl J rfl z0 ?_
      refine z_isub rfl rfl rfl (by omega) (fun v7 ev7 => ?_)
      refine x_icge (tgt := 31) rfl rfl (ti_ge rfl rfl ⟨fun c8 => ?_, fun c8 => ?_⟩)
      ·
        refine x_iconst (v := 0) rfl ki_0 ?_
        refine x_iret rfl rfl ?_
        show jX m_X5_readSide 3 0 0 61 [(0, .ref 70), (1, .int l1), (2, .int l2), (3, .int l3)] [.int 0, .int v6, .ref 72] _ 0 0 _
        refine z_iast (N := 64) (l := 0) (u := 64) (w := 0) rfl hD J Sm rfl rfl rfl (by omega) jk_0 (wr_72 (fun q1 q2 q3 q4 => by omega) (fun q1 q2 q3 q4 => by omega) (fun q1 q2 q3 q4 => by omega)) rfl (fun h w9 J Sm => ?_)
        refine z_iinc (x := l3) (lsx9 := fun v10 => [(3, .int v10), (0, .ref 70), (1, .int l1), (2, .int l2)]) rfl rfl rfl jko_1 (by omega) rfl (fun _ => rfl) (fun v10 ev10 => ?_)
        refine x_goto (tgt := 39) rfl rfl ?_
        exact jX.sub (jsb_c rfl (jsb_c rfl (jsb_c rfl (jsb_c rfl jsb_n)))) (ih l1 l2 v10 g0 g1 g2 h (by omega) (jr_of rfl (by omega)) (jr_mod rfl (by omega)) (jr_of rfl (by omega)) (jr_of rfl (by omega)) (jr_of rfl (by omega)) (jr_of rfl (by omega)) (jr_of rfl (by omega)) (by omega) (jmo w9 rfl z0) (jmo w9 rfl z1) (jmo w9 rfl z2) J Sm)
      ·
        refine x_aloadn (x := 68) rfl rfl ?_
        refine z_getR (N := 6) (b := 69) 9 0 rfl f_9_11 rfl J rfl 8704 ⟨rfl, rfl⟩ rfl ?_
        refine x_aloadn (x := 68) rfl rfl ?_
        refine z_getM (N := 6) (v := g0) 9 3 rfl f_9_22 rfl J rfl z0 ?_
        refine x_iloadn (x := l3) rfl rfl ?_
        refine z_iadd rfl rfl rfl (by omega) (fun v11 ev11 => ?_)
        refine z_iald (N := 400) rfl J rfl sg_69_0_400_1_0_1 rfl (by omega) (fun v12 qv12 ev12 => ?_)
        refine x_goto (tgt := 32) rfl rfl ?_
        refine x_iret rfl rfl ?_
        show jX m_X5_readSide 3 0 0 61 [(0, .ref 70), (1, .int l1), (2, .int l2), (3, .int l3)] [.int v12, .int v6, .ref 72] _ 0 0 _
        refine z_iast (N := 64) (l := 0) (u := 64) (w := v12.toInt) rfl hD J Sm rfl rfl rfl (by omega) rfl (wr_72 (fun q1 q2 q3 q4 => by omega) (fun q1 q2 q3 q4 => by omega) (fun q1 q2 q3 q4 => by omega)) rfl (fun h w13 J Sm => ?_)
        refine z_iinc (x := l3) (lsx9 := fun v14 => [(3, .int v14), (0, .ref 70), (1, .int l1), (2, .int l2)]) rfl rfl rfl jko_1 (by omega) rfl (fun _ => rfl) (fun v14 ev14 => ?_)
        refine x_goto (tgt := 39) rfl rfl ?_
        exact jX.sub (jsb_c rfl (jsb_c rfl (jsb_c rfl (jsb_c rfl jsb_n)))) (ih l1 l2 v14 g0 g1 g2 h (by omega) (jr_of rfl (by omega)) (jr_mod rfl (by omega)) (jr_of rfl (by omega)) (jr_of rfl (by omega)) (jr_of rfl (by omega)) (jr_of rfl (by omega)) (jr_of rfl (by omega)) (by omega) (jmo w13 rfl z0) (jmo w13 rfl z1) (jmo w13 rfl z2) J Sm)
set_option maxRecDepth 100000 in
set_option maxHeartbeats 4000000 in
theorem sf_X5_readSide_r70 {Dy : jH → Prop} {h : jH} {Q : Option Value → jH → Prop} {a1 : Int32} (y1 : 0 ≤ a1.toInt ∧ a1.toInt ≤ 60) (ym1 : a1.toInt % 4 = 0) (hD : jDk Dy) (J : jJ jSgX Dy h) {p0 p1 : Int32} (zp0 : jiv h 68 5 = p0) (zp1 : jiv h 68 3 = p1) (rl_p0 : (p0.toInt ≠ 3 ∨ p1.toInt ≤ 399)) (hQ : ∀ (v : Int32) hx9, 0 ≤ v.toInt ∧ v.toInt ≤ 1 → jJ jSgX Dy hx9 → jSm fp_X5_readSide_r70 h hx9 → ∀ u0 u1 : Int32, jiv hx9 68 5 = u0 → jiv hx9 68 3 = u1 → (u0.toInt ≠ 3 ∨ u1.toInt ≤ 399) → Q (some (.int v)) hx9) : jC m_X5_readSide 3 0 0 [.ref 70, .int a1] h Q := by
  refine jC.of rfl k_X5_readSide rfl ?_
  have Sm := jSm_rf fp_X5_readSide_r70 h
  have ep0 := (show 0 ≤ p0.toInt ∧ p0.toInt ≤ 3 from zp0 ▸ jrg_f J sg_68_5_6_1_0_1)
  have ep1 := (show 0 ≤ p1.toInt ∧ p1.toInt ≤ 400 from zp1 ▸ jrg_f J sg_68_3_4_1_0_1)
  show jX m_X5_readSide 3 0 0 0 [(0, .ref 70), (1, .int a1)] [] _ 0 0 _
  refine x_aloadn (x := 70) rfl rfl ?_
  refine z_getR (N := 9) (b := 68) 5 1 rfl f_5_39 rfl J rfl 8961 ⟨rfl, rfl⟩ rfl ?_
  refine x_inv (N := m_X9_size) (As := []) (b := 68) (st := []) (dx9 := 2) (mc := 0) (ms := 0) (host := "") 9 rfl t_X9_size ⟨Or.inl q_5_73, i_X9_size.1, i_X9_size.2⟩ ⟨by decide, rfl⟩ (congrArg Prod.fst (J.1.1 68 (9, 6) rfl)) rfl (by decide) rfl rfl ⟨by decide, by decide⟩ (jC.of rfl k_X9_size rfl ?_)
  show jX m_X9_size 2 0 0 0 [(0, .ref 68)] [] _ 0 0 _
  refine x_aloadn (x := 68) rfl rfl ?_
  refine z_getI (N := 6) 9 4 rfl f_9_25 rfl J rfl sg_68_4_5_1_0_1 (fun v1 qv1 ev1 => ?_)
  refine x_aloadn (x := 68) rfl rfl ?_
  refine z_getM (N := 6) (v := p1) 9 3 rfl f_9_22 rfl J rfl zp1 ?_
  refine z_isub rfl rfl rfl (by omega) (fun v2 ev2 => ?_)
  refine x_iret rfl rfl ?_
  show jX m_X5_readSide 3 0 0 7 [(0, .ref 70), (1, .int a1)] [.int v2] _ 0 0 _
  refine x_istoren (lsx9 := [(2, .int v2), (0, .ref 70), (1, .int a1)]) rfl rfl rfl ?_
  refine x_iloadn (x := v2) rfl rfl ?_
  refine x_iconst (v := 3) rfl ki_3 ?_
  refine x_icgt (tgt := 28) rfl rfl (ti_gt rfl jk_3 ⟨fun c3 => ?_, fun c3 => ?_⟩)
  ·
    exact jX.sub jsb_n (ct_X5_readSide_r70_28 hD hQ  p1 p0 h (jr_of rfl (by omega)) (jr_of rfl (by omega)) (by omega) zp1 zp0 J Sm)
  ·
    refine x_iloadn (x := a1) rfl rfl ?_
    refine x_iflt (tgt := 28) rfl rfl (ti_lt rfl jk_0 (br_f (by omega) ?_))
    refine x_iloadn (x := a1) rfl rfl ?_
    refine x_iconst (v := 3) rfl ki_3 ?_
    refine z_iadd rfl rfl jk_3 (by omega) (fun v4 ev4 => ?_)
    refine x_aloadn (x := 70) rfl rfl ?_
    refine z_getR (N := 9) (b := 72) 5 3 rfl f_5_15 rfl J rfl 8963 ⟨rfl, rfl⟩ rfl ?_
    refine z_alen (N := 64) (v := 64) rfl J rfl rfl (by decide) ?_
    refine x_iclt (tgt := 30) rfl rfl (ti_lt rfl jk_64 (br_t (by omega) ?_))
    refine x_aloadn (x := 70) rfl rfl ?_
    refine z_getR (N := 9) (b := 72) 5 3 rfl f_5_15 rfl J rfl 8963 ⟨rfl, rfl⟩ rfl ?_
    refine x_iloadn (x := a1) rfl rfl ?_
    refine x_iloadn (x := v2) rfl rfl ?_
    refine z_iast (N := 64) (l := 0) (u := 64) (w := v2.toInt) rfl hD J Sm rfl rfl rfl (by omega) rfl (wr_72 (fun q1 q2 q3 q4 => by omega) (fun q1 q2 q3 q4 => by omega) (fun q1 q2 q3 q4 => by omega)) rfl (fun h w5 J Sm => ?_)
    refine x_iconst (v := 0) rfl ki_0 ?_
    refine x_istoren (lsx9 := [(3, .int 0), (2, .int v2), (0, .ref 70), (1, .int a1)]) rfl rfl rfl ?_
    exact jX.sub (jsb_c rfl (jsb_c rfl (jsb_c rfl (jsb_c rfl jsb_n)))) (ct_X5_readSide_r70_39 hD hQ  4 a1 v2 0 p1 v1 p0 h (by have := jk_0; omega) (jr_of rfl (by omega)) (jr_mod rfl (by omega)) (jr_of rfl (by omega)) (jr_of jk_0 (by omega)) (jr_of rfl (by omega)) (jr_of rfl (by omega)) (jr_of rfl (by omega)) (by omega) (jmo w5 rfl zp1) (jmo w5 rfl qv1) (jmo w5 rfl zp0) J Sm)
def fp_X5_readPair_r70 : jFp := [(68, 2, 3), (68, 3, 4), (68, 4, 5), (68, 5, 6), (72, 0, 64)]
set_option maxRecDepth 100000 in
set_option maxHeartbeats 4000000 in
theorem ct_X5_readPair_r70_18 {Dy : jH → Prop} {h0 : jH} {Q : Option Value → jH → Prop} (hD : jDk Dy) (hQ : ∀ (v : Int32) hx9, 0 ≤ v.toInt ∧ v.toInt ≤ 1 → jJ jSgX Dy hx9 → jSm fp_X5_readPair_r70 h0 hx9 → ∀ u0 u1 : Int32, jiv hx9 68 5 = u0 → jiv hx9 68 3 = u1 → (u0.toInt ≠ 3 ∨ u1.toInt ≤ 399) → Q (some (.int v)) hx9) : ∀ (g0 : Int32) (g1 : Int32) (h : jH), 0 ≤ g0.toInt ∧ g0.toInt ≤ 400 → 0 ≤ g1.toInt ∧ g1.toInt ≤ 3 → (g1.toInt ≠ 3 ∨ g0.toInt ≤ 399) → jiv h 68 3 = g0 → jiv h 68 5 = g1 → jJ jSgX Dy h → jSm fp_X5_readPair_r70 h0 h → jX m_X5_readPair 4 0 0 18 [(0, .ref 70)] [] h 0 0 Q := by
  intro g0 g1 h y0 y1 y2 z0 z1  J Sm
  refine x_aloadn (x := 70) rfl rfl ?_
  refine z_getR (N := 9) (b := 68) 5 1 rfl f_5_39 rfl J rfl 8961 ⟨rfl, rfl⟩ rfl ?_
  refine x_inv (N := m_X9_blame) (As := []) (b := 68) (st := []) (dx9 := 3) (mc := 0) (ms := 0) (host := "") 9 rfl t_X9_blame ⟨Or.inl q_5_64, i_X9_blame.1, i_X9_blame.2⟩ ⟨by decide, rfl⟩ (congrArg Prod.fst (J.1.1 68 (9, 6) rfl)) rfl (by decide) rfl rfl ⟨by decide, by decide⟩ (jC.of rfl k_X9_blame rfl ?_)
  show jX m_X9_blame 3 0 0 0 [(0, .ref 68)] [] _ 0 0 _
  refine x_aloadn (x := 68) rfl rfl ?_
  refine x_aloadn (x := 68) rfl rfl ?_
  refine z_getM (N := 6) (v := g0) 9 3 rfl f_9_22 rfl J rfl z0 ?_
  refine z_putI (N := 6) (w := g0.toInt) 9 2 rfl f_9_19 rfl (jfin_no TX9 RX9 6 rfl rfl) hD J Sm rfl rfl rfl (pw_68_2 (by omega)) rfl (fun h w1 J Sm => ?_)
  refine x_iconst (v := 0) rfl ki_0 ?_
  refine x_zret rfl rfl (by decide) ?_
  show jX m_X5_readPair 4 0 0 25 [(0, .ref 70)] [.int 0] _ 0 0 _
  refine x_zret rfl rfl (by decide) ?_
  exact hQ _ _ (jr_of jk_0 (by omega)) J Sm _ _ (jmo w1 rfl z1) (jmo w1 rfl z0) (by omega)
set_option maxRecDepth 100000 in
set_option maxHeartbeats 4000000 in
theorem ct_X5_readPair_r70_300099 {Dy : jH → Prop} {h0 : jH} {Q : Option Value → jH → Prop} (hD : jDk Dy) (hQ : ∀ (v : Int32) hx9, 0 ≤ v.toInt ∧ v.toInt ≤ 1 → jJ jSgX Dy hx9 → jSm fp_X5_readPair_r70 h0 hx9 → ∀ u0 u1 : Int32, jiv hx9 68 5 = u0 → jiv hx9 68 3 = u1 → (u0.toInt ≠ 3 ∨ u1.toInt ≤ 399) → Q (some (.int v)) hx9) : ∀ (g0 : Int32) (g1 : Int32) (h : jH), 0 ≤ g0.toInt ∧ g0.toInt ≤ 400 → 0 ≤ g1.toInt ∧ g1.toInt ≤ 3 → (g1.toInt ≠ 3 ∨ g0.toInt ≤ 399) → jiv h 68 3 = g0 → jiv h 68 5 = g1 → jJ jSgX Dy h → jSm fp_X5_readPair_r70 h0 h → jX m_X5_readPair 4 0 0 99 [] [.int 1] h 0 0 Q := by
  intro g0 g1 h y0 y1 y2 z0 z1  J Sm
  refine x_zret rfl rfl (by decide) ?_
  exact hQ _ _ (jr_of jk_1 (by omega)) J Sm _ _ z1 z0 (by omega)
set_option maxRecDepth 100000 in
set_option maxHeartbeats 4000000 in
theorem ct_X5_readPair_r70_200099 {Dy : jH → Prop} {h0 : jH} {Q : Option Value → jH → Prop} (hD : jDk Dy) (hQ : ∀ (v : Int32) hx9, 0 ≤ v.toInt ∧ v.toInt ≤ 1 → jJ jSgX Dy hx9 → jSm fp_X5_readPair_r70 h0 hx9 → ∀ u0 u1 : Int32, jiv hx9 68 5 = u0 → jiv hx9 68 3 = u1 → (u0.toInt ≠ 3 ∨ u1.toInt ≤ 399) → Q (some (.int v)) hx9) : ∀ (g0 : Int32) (g1 : Int32) (h : jH), 0 ≤ g0.toInt ∧ g0.toInt ≤ 400 → 0 ≤ g1.toInt ∧ g1.toInt ≤ 3 → (g1.toInt ≠ 3 ∨ g0.toInt ≤ 399) → jiv h 68 3 = g0 → jiv h 68 5 = g1 → jJ jSgX Dy h → jSm fp_X5_readPair_r70 h0 h → jX m_X5_readPair 4 0 0 99 [] [.int 0] h 0 0 Q := by
  intro g0 g1 h y0 y1 y2 z0 z1  J Sm
  refine x_zret rfl rfl (by decide) ?_
  exact hQ _ _ (jr_of jk_0 (by omega)) J Sm _ _ z1 z0 (by omega)
set_option maxRecDepth 100000 in
set_option maxHeartbeats 4000000 in
theorem ct_X5_readPair_r70_94 {Dy : jH → Prop} {h0 : jH} {Q : Option Value → jH → Prop} (hD : jDk Dy) (hQ : ∀ (v : Int32) hx9, 0 ≤ v.toInt ∧ v.toInt ≤ 1 → jJ jSgX Dy hx9 → jSm fp_X5_readPair_r70 h0 hx9 → ∀ u0 u1 : Int32, jiv hx9 68 5 = u0 → jiv hx9 68 3 = u1 → (u0.toInt ≠ 3 ∨ u1.toInt ≤ 399) → Q (some (.int v)) hx9) : ∀ (g0 : Int32) (g1 : Int32) (h : jH), 0 ≤ g0.toInt ∧ g0.toInt ≤ 400 → 0 ≤ g1.toInt ∧ g1.toInt ≤ 3 → (g1.toInt ≠ 3 ∨ g0.toInt ≤ 399) → jiv h 68 3 = g0 → jiv h 68 5 = g1 → jJ jSgX Dy h → jSm fp_X5_readPair_r70 h0 h → jX m_X5_readPair 4 0 0 94 [] [] h 0 0 Q := by
  intro g0 g1 h y0 y1 y2 z0 z1  J Sm
  refine x_iconst (v := 1) rfl ki_1 ?_
  refine x_goto (tgt := 99) rfl rfl ?_
  exact jX.sub jsb_n (ct_X5_readPair_r70_300099 hD hQ  g0 g1 h (jr_of rfl (by omega)) (jr_of rfl (by omega)) (by omega) z0 z1 J Sm)
set_option maxRecDepth 100000 in
set_option maxHeartbeats 4000000 in
theorem sf_X5_readPair_r70 {Dy : jH → Prop} {h : jH} {Q : Option Value → jH → Prop} {a1 : Int32} (y1 : 0 ≤ a1.toInt ∧ a1.toInt ≤ 56) (ym1 : a1.toInt % 8 = 0) (hD : jDk Dy) (J : jJ jSgX Dy h) {p0 p1 : Int32} (zp0 : jiv h 68 5 = p0) (zp1 : jiv h 68 3 = p1) (rl_p0 : (p0.toInt ≠ 3 ∨ p1.toInt ≤ 399)) (hQ : ∀ (v : Int32) hx9, 0 ≤ v.toInt ∧ v.toInt ≤ 1 → jJ jSgX Dy hx9 → jSm fp_X5_readPair_r70 h hx9 → ∀ u0 u1 : Int32, jiv hx9 68 5 = u0 → jiv hx9 68 3 = u1 → (u0.toInt ≠ 3 ∨ u1.toInt ≤ 399) → Q (some (.int v)) hx9) : jC m_X5_readPair 4 0 0 [.ref 70, .int a1] h Q := by
  refine jC.of rfl k_X5_readPair rfl ?_
  have Sm := jSm_rf fp_X5_readPair_r70 h
  have ep0 := (show 0 ≤ p0.toInt ∧ p0.toInt ≤ 3 from zp0 ▸ jrg_f J sg_68_5_6_1_0_1)
  have ep1 := (show 0 ≤ p1.toInt ∧ p1.toInt ≤ 400 from zp1 ▸ jrg_f J sg_68_3_4_1_0_1)
  show jX m_X5_readPair 4 0 0 0 [(0, .ref 70), (1, .int a1)] [] _ 0 0 _
  refine x_aloadn (x := 70) rfl rfl ?_
  refine z_getR (N := 9) (b := 68) 5 1 rfl f_5_39 rfl J rfl 8961 ⟨rfl, rfl⟩ rfl ?_
  refine x_inv (N := m_X9_isLetters) (As := []) (b := 68) (st := []) (dx9 := 3) (mc := 0) (ms := 0) (host := "") 9 rfl t_X9_isLetters ⟨Or.inl q_5_76, i_X9_isLetters.1, i_X9_isLetters.2⟩ ⟨by decide, rfl⟩ (congrArg Prod.fst (J.1.1 68 (9, 6) rfl)) rfl (by decide) rfl rfl ⟨by decide, by decide⟩ (jC.of rfl k_X9_isLetters rfl ?_)
  show jX m_X9_isLetters 3 0 0 0 [(0, .ref 68)] [] _ 0 0 _
  refine x_aloadn (x := 68) rfl rfl ?_
  refine z_getM (N := 6) (v := p0) 9 5 rfl f_9_28 rfl J rfl zp0 ?_
  refine x_iconst (v := 1) rfl ki_1 ?_
  refine x_icne (tgt := 12) rfl rfl (ti_ne rfl jk_1 ⟨fun c1 => ?_, fun c1 => ?_⟩)
  ·
    refine x_iconst (v := 0) rfl ki_0 ?_
    refine x_zret rfl rfl (by decide) ?_
    show jX m_X5_readPair 4 0 0 7 [(0, .ref 70), (1, .int a1)] [.int 0] _ 0 0 _
    refine x_ifeq (tgt := 18) rfl rfl (ti_eq jk_0 jk_0 (br_t (by omega) ?_))
    exact jX.sub (jsb_c rfl jsb_n) (ct_X5_readPair_r70_18 hD hQ  p1 p0 h (jr_of rfl (by omega)) (jr_of rfl (by omega)) (by omega) zp1 zp0 J Sm)
  ·
    refine x_iconst (v := 1) rfl ki_1 ?_
    refine x_goto (tgt := 13) rfl rfl ?_
    refine x_zret rfl rfl (by decide) ?_
    show jX m_X5_readPair 4 0 0 7 [(0, .ref 70), (1, .int a1)] [.int 1] _ 0 0 _
    refine x_ifeq (tgt := 18) rfl rfl (ti_eq jk_1 jk_0 (br_f (by omega) ?_))
    refine x_aloadn (x := 70) rfl rfl ?_
    refine x_iloadn (x := a1) rfl rfl ?_
    refine x_inv (N := m_X5_readSide) (As := [.int a1]) (b := 70) (st := []) (dx9 := 3) (mc := 0) (ms := 0) (host := "") 5 rfl t_X5_readSide ⟨Or.inl q_5_93, i_X5_readSide.1, i_X5_readSide.2⟩ ⟨by decide, rfl⟩ (congrArg Prod.fst (J.1.1 70 (5, 9) rfl)) rfl (by decide) rfl rfl ⟨by decide, by decide⟩ (sf_X5_readSide_r70 (jr_of rfl (by omega)) (jr_mod rfl (by omega)) hD J zp0 zp1 (by omega)  (fun v5 h ev5 J S2 u3 u4 qu3 qu4 ru3 => ?_))
    have Sm := jSm_tr rfl Sm S2
    have eu3 := (show 0 ≤ u3.toInt ∧ u3.toInt ≤ 3 from qu3 ▸ jrg_f J sg_68_5_6_1_0_1)
    have eu4 := (show 0 ≤ u4.toInt ∧ u4.toInt ≤ 400 from qu4 ▸ jrg_f J sg_68_3_4_1_0_1)
    show jX m_X5_readPair 4 0 0 15 [(0, .ref 70), (1, .int a1)] [.int v5] _ 0 0 _
    refine x_ifne (tgt := 26) rfl rfl (ti_ne rfl jk_0 ⟨fun c6 => ?_, fun c6 => ?_⟩)
    ·
      refine x_aloadn (x := 70) rfl rfl ?_
      refine z_getR (N := 9) (b := 68) 5 1 rfl f_5_39 rfl J rfl 8961 ⟨rfl, rfl⟩ rfl ?_
      refine x_bipush (v := 62) rfl kb_62 ?_
      refine x_inv (N := m_X9_isSign) (As := [.int 62]) (b := 68) (st := []) (dx9 := 1) (mc := 0) (ms := 0) (host := "") 9 rfl t_X9_isSign ⟨Or.inl q_5_48, i_X9_isSign.1, i_X9_isSign.2⟩ ⟨by decide, rfl⟩ (congrArg Prod.fst (J.1.1 68 (9, 6) rfl)) rfl (by decide) rfl rfl ⟨by decide, by decide⟩ (sf_X9_isSign_r68 (jr_of jk_62 (by omega)) hD J qu3 qu4 (by omega)  (fun v10 h ev10 J S7 u8 u9 qu8 qu9 ru8 => ?_))
      have Sm := jSm_tr rfl Sm S7
      have eu8 := (show 0 ≤ u8.toInt ∧ u8.toInt ≤ 3 from qu8 ▸ jrg_f J sg_68_5_6_1_0_1)
      have eu9 := (show 0 ≤ u9.toInt ∧ u9.toInt ≤ 400 from qu9 ▸ jrg_f J sg_68_3_4_1_0_1)
      show jX m_X5_readPair 4 0 0 35 [(0, .ref 70), (1, .int a1)] [.int v10] _ 0 0 _
      refine x_ifne (tgt := 46) rfl rfl (ti_ne rfl jk_0 ⟨fun c11 => ?_, fun c11 => ?_⟩)
      ·
        refine x_aloadn (x := 70) rfl rfl ?_
        refine z_getR (N := 9) (b := 68) 5 1 rfl f_5_39 rfl J rfl 8961 ⟨rfl, rfl⟩ rfl ?_
        refine x_inv (N := m_X9_step) (As := []) (b := 68) (st := []) (dx9 := 2) (mc := 0) (ms := 0) (host := "") 9 rfl t_X9_step ⟨Or.inl q_5_67, i_X9_step.1, i_X9_step.2⟩ ⟨by decide, rfl⟩ (congrArg Prod.fst (J.1.1 68 (9, 6) rfl)) rfl (by decide) rfl rfl ⟨by decide, by decide⟩ (sf_X9_step_r68  hD J qu8 qu9 (by omega)  (fun h J S12 u13 u14 qu13 qu14 ru13 => ?_))
        have Sm := jSm_tr rfl Sm S12
        have eu13 := (show 0 ≤ u13.toInt ∧ u13.toInt ≤ 3 from qu13 ▸ jrg_f J sg_68_5_6_1_0_1)
        have eu14 := (show 0 ≤ u14.toInt ∧ u14.toInt ≤ 400 from qu14 ▸ jrg_f J sg_68_3_4_1_0_1)
        show jX m_X5_readPair 4 0 0 53 [(0, .ref 70), (1, .int a1)] [] _ 0 0 _
        refine x_aloadn (x := 70) rfl rfl ?_
        refine z_getR (N := 9) (b := 68) 5 1 rfl f_5_39 rfl J rfl 8961 ⟨rfl, rfl⟩ rfl ?_
        refine x_inv (N := m_X9_isLetters) (As := []) (b := 68) (st := []) (dx9 := 3) (mc := 0) (ms := 0) (host := "") 9 rfl t_X9_isLetters ⟨Or.inl q_5_76, i_X9_isLetters.1, i_X9_isLetters.2⟩ ⟨by decide, rfl⟩ (congrArg Prod.fst (J.1.1 68 (9, 6) rfl)) rfl (by decide) rfl rfl ⟨by decide, by decide⟩ (jC.of rfl k_X9_isLetters rfl ?_)
        show jX m_X9_isLetters 3 0 0 0 [(0, .ref 68)] [] _ 0 0 _
        refine x_aloadn (x := 68) rfl rfl ?_
        refine z_getM (N := 6) (v := u13) 9 5 rfl f_9_28 rfl J rfl qu13 ?_
        refine x_iconst (v := 1) rfl ki_1 ?_
        refine x_icne (tgt := 12) rfl rfl (ti_ne rfl jk_1 ⟨fun c15 => ?_, fun c15 => ?_⟩)
        ·
          refine x_iconst (v := 0) rfl ki_0 ?_
          refine x_zret rfl rfl (by decide) ?_
          show jX m_X5_readPair 4 0 0 60 [(0, .ref 70), (1, .int a1)] [.int 0] _ 0 0 _
          refine x_ifne (tgt := 74) rfl rfl (ti_ne jk_0 jk_0 (bn_f (by omega) ?_))
          refine x_aloadn (x := 70) rfl rfl ?_
          refine z_getR (N := 9) (b := 72) 5 3 rfl f_5_15 rfl J rfl 8963 ⟨rfl, rfl⟩ rfl ?_
          refine x_iloadn (x := a1) rfl rfl ?_
          refine x_iconst (v := 4) rfl ki_4 ?_
          refine z_iadd rfl rfl jk_4 (by omega) (fun v16 ev16 => ?_)
          refine x_iconst (v := 0) rfl ki_0 ?_
          refine z_iast (N := 64) (l := 0) (u := 64) (w := 0) rfl hD J Sm rfl rfl rfl (by omega) jk_0 (wr_72 (fun q1 q2 q3 q4 => by omega) (fun q1 q2 q3 q4 => by omega) (fun q1 q2 q3 q4 => by omega)) rfl (fun h w17 J Sm => ?_)
          refine x_iconst (v := 1) rfl ki_1 ?_
          refine x_zret rfl rfl (by decide) ?_
          exact hQ _ _ (jr_of jk_1 (by omega)) J Sm _ _ (jmo w17 rfl qu13) (jmo w17 rfl qu14) (by omega)
        ·
          refine x_iconst (v := 1) rfl ki_1 ?_
          refine x_goto (tgt := 13) rfl rfl ?_
          refine x_zret rfl rfl (by decide) ?_
          show jX m_X5_readPair 4 0 0 60 [(0, .ref 70), (1, .int a1)] [.int 1] _ 0 0 _
          refine x_ifne (tgt := 74) rfl rfl (ti_ne jk_1 jk_0 (bn_t (by omega) ?_))
          refine x_aloadn (x := 70) rfl rfl ?_
          refine x_iloadn (x := a1) rfl rfl ?_
          refine x_iconst (v := 4) rfl ki_4 ?_
          refine z_iadd rfl rfl jk_4 (by omega) (fun v18 ev18 => ?_)
          refine x_inv (N := m_X5_readSide) (As := [.int v18]) (b := 70) (st := []) (dx9 := 3) (mc := 0) (ms := 0) (host := "") 5 rfl t_X5_readSide ⟨Or.inl q_5_93, i_X5_readSide.1, i_X5_readSide.2⟩ ⟨by decide, rfl⟩ (congrArg Prod.fst (J.1.1 70 (5, 9) rfl)) rfl (by decide) rfl rfl ⟨by decide, by decide⟩ (sf_X5_readSide_r70 (jr_of rfl (by omega)) (jr_mod rfl (by omega)) hD J qu13 qu14 (by omega)  (fun v22 h ev22 J S19 u20 u21 qu20 qu21 ru20 => ?_))
          have Sm := jSm_tr rfl Sm S19
          have eu20 := (show 0 ≤ u20.toInt ∧ u20.toInt ≤ 3 from qu20 ▸ jrg_f J sg_68_5_6_1_0_1)
          have eu21 := (show 0 ≤ u21.toInt ∧ u21.toInt ≤ 400 from qu21 ▸ jrg_f J sg_68_3_4_1_0_1)
          show jX m_X5_readPair 4 0 0 81 [(0, .ref 70), (1, .int a1)] [.int v22] _ 0 0 _
          refine x_ifne (tgt := 94) rfl rfl (ti_ne rfl jk_0 ⟨fun c23 => ?_, fun c23 => ?_⟩)
          ·
            exact jX.sub jsb_n (ct_X5_readPair_r70_94 hD hQ  u21 u20 h (jr_of rfl (by omega)) (jr_of rfl (by omega)) (by omega) qu21 qu20 J Sm)
          ·
            refine x_aloadn (x := 70) rfl rfl ?_
            refine z_getR (N := 9) (b := 68) 5 1 rfl f_5_39 rfl J rfl 8961 ⟨rfl, rfl⟩ rfl ?_
            refine x_inv (N := m_X9_blame) (As := []) (b := 68) (st := []) (dx9 := 3) (mc := 0) (ms := 0) (host := "") 9 rfl t_X9_blame ⟨Or.inl q_5_64, i_X9_blame.1, i_X9_blame.2⟩ ⟨by decide, rfl⟩ (congrArg Prod.fst (J.1.1 68 (9, 6) rfl)) rfl (by decide) rfl rfl ⟨by decide, by decide⟩ (jC.of rfl k_X9_blame rfl ?_)
            show jX m_X9_blame 3 0 0 0 [(0, .ref 68)] [] _ 0 0 _
            refine x_aloadn (x := 68) rfl rfl ?_
            refine x_aloadn (x := 68) rfl rfl ?_
            refine z_getM (N := 6) (v := u21) 9 3 rfl f_9_22 rfl J rfl qu21 ?_
            refine z_putI (N := 6) (w := u21.toInt) 9 2 rfl f_9_19 rfl (jfin_no TX9 RX9 6 rfl rfl) hD J Sm rfl rfl rfl (pw_68_2 (by omega)) rfl (fun h w24 J Sm => ?_)
            refine x_iconst (v := 0) rfl ki_0 ?_
            refine x_zret rfl rfl (by decide) ?_
            show jX m_X5_readPair 4 0 0 91 [(0, .ref 70), (1, .int a1)] [.int 0] _ 0 0 _
            refine x_ifeq (tgt := 98) rfl rfl (ti_eq jk_0 jk_0 (br_t (by omega) ?_))
            refine x_iconst (v := 0) rfl ki_0 ?_
            exact jX.sub jsb_n (ct_X5_readPair_r70_200099 hD hQ  u21 u20 h (jr_of rfl (by omega)) (jr_of rfl (by omega)) (by omega) (jmo w24 rfl qu21) (jmo w24 rfl qu20) J Sm)
      ·
        refine x_aloadn (x := 70) rfl rfl ?_
        refine z_getR (N := 9) (b := 68) 5 1 rfl f_5_39 rfl J rfl 8961 ⟨rfl, rfl⟩ rfl ?_
        refine x_inv (N := m_X9_blame) (As := []) (b := 68) (st := []) (dx9 := 3) (mc := 0) (ms := 0) (host := "") 9 rfl t_X9_blame ⟨Or.inl q_5_64, i_X9_blame.1, i_X9_blame.2⟩ ⟨by decide, rfl⟩ (congrArg Prod.fst (J.1.1 68 (9, 6) rfl)) rfl (by decide) rfl rfl ⟨by decide, by decide⟩ (jC.of rfl k_X9_blame rfl ?_)
        show jX m_X9_blame 3 0 0 0 [(0, .ref 68)] [] _ 0 0 _
        refine x_aloadn (x := 68) rfl rfl ?_
        refine x_aloadn (x := 68) rfl rfl ?_
        refine z_getM (N := 6) (v := u9) 9 3 rfl f_9_22 rfl J rfl qu9 ?_
        refine z_putI (N := 6) (w := u9.toInt) 9 2 rfl f_9_19 rfl (jfin_no TX9 RX9 6 rfl rfl) hD J Sm rfl rfl rfl (pw_68_2 (by omega)) rfl (fun h w25 J Sm => ?_)
        refine x_iconst (v := 0) rfl ki_0 ?_
        refine x_zret rfl rfl (by decide) ?_
        show jX m_X5_readPair 4 0 0 45 [(0, .ref 70), (1, .int a1)] [.int 0] _ 0 0 _
        refine x_zret rfl rfl (by decide) ?_
        exact hQ _ _ (jr_of jk_0 (by omega)) J Sm _ _ (jmo w25 rfl qu8) (jmo w25 rfl qu9) (by omega)
    ·
      exact jX.sub (jsb_c rfl jsb_n) (ct_X5_readPair_r70_18 hD hQ  u4 u3 h (jr_of rfl (by omega)) (jr_of rfl (by omega)) (by omega) qu4 qu3 J Sm)
def fp_X5_readPairs_r70 : jFp := [(68, 2, 3), (68, 3, 4), (68, 4, 5), (68, 5, 6), (72, 0, 64)]
set_option maxRecDepth 100000 in
set_option maxHeartbeats 4000000 in
theorem ct_X5_readPairs_r70_21 {Dy : jH → Prop} {h0 : jH} {Q : Option Value → jH → Prop} (hD : jDk Dy) (hQ : ∀ (v : Int32) hx9, (-1) ≤ v.toInt ∧ v.toInt ≤ 8 → jJ jSgX Dy hx9 → jSm fp_X5_readPairs_r70 h0 hx9 → ∀ u0 u1 : Int32, jiv hx9 68 5 = u0 → jiv hx9 68 3 = u1 → (u0.toInt ≠ 3 ∨ u1.toInt ≤ 399) → Q (some (.int v)) hx9) : ∀ r : Nat, ∀ (l1 : Int32) (g0 : Int32) (g1 : Int32) (h : jH), 8 - l1.toInt < (r : Int) → 0 ≤ l1.toInt ∧ l1.toInt ≤ 8 → 0 ≤ g0.toInt ∧ g0.toInt ≤ 400 → 0 ≤ g1.toInt ∧ g1.toInt ≤ 3 → (g1.toInt ≠ 3 ∨ g0.toInt ≤ 399) → jiv h 68 3 = g0 → jiv h 68 5 = g1 → jJ jSgX Dy h → jSm fp_X5_readPairs_r70 h0 h → jX m_X5_readPairs 5 0 0 21 [(0, .ref 70), (1, .int l1)] [] h 0 0 Q := by
  intro r
  induction r with
  | zero =>
    intro l1 g0 g1 h hm y0 y1 y2 y3 z0 z1  J Sm
    exfalso
    omega
  | succ r ih =>
    intro l1 g0 g1 h hm y0 y1 y2 y3 z0 z1  J Sm
    refine x_iloadn (x := l1) rfl rfl ?_
    refine x_bipush (v := 8) rfl kb_8 ?_
    refine x_icge (tgt := 89) rfl rfl (ti_ge rfl jk_8 ⟨fun c1 => ?_, fun c1 => ?_⟩)
    ·
      refine x_aloadn (x := 70) rfl rfl ?_
      refine z_getR (N := 9) (b := 68) 5 1 rfl f_5_39 rfl J rfl 8961 ⟨rfl, rfl⟩ rfl ?_
      refine x_inv (N := m_X9_blame) (As := []) (b := 68) (st := []) (dx9 := 4) (mc := 0) (ms := 0) (host := "") 9 rfl t_X9_blame ⟨Or.inl q_5_64, i_X9_blame.1, i_X9_blame.2⟩ ⟨by decide, rfl⟩ (congrArg Prod.fst (J.1.1 68 (9, 6) rfl)) rfl (by decide) rfl rfl ⟨by decide, by decide⟩ (jC.of rfl k_X9_blame rfl ?_)
      show jX m_X9_blame 4 0 0 0 [(0, .ref 68)] [] _ 0 0 _
      refine x_aloadn (x := 68) rfl rfl ?_
      refine x_aloadn (x := 68) rfl rfl ?_
      refine z_getM (N := 6) (v := g0) 9 3 rfl f_9_22 rfl J rfl z0 ?_
      refine z_putI (N := 6) (w := g0.toInt) 9 2 rfl f_9_19 rfl (jfin_no TX9 RX9 6 rfl rfl) hD J Sm rfl rfl rfl (pw_68_2 (by omega)) rfl (fun h w2 J Sm => ?_)
      refine x_iconst (v := 0) rfl ki_0 ?_
      refine x_zret rfl rfl (by decide) ?_
      show jX m_X5_readPairs 5 0 0 96 [(0, .ref 70), (1, .int l1)] [.int 0] _ 0 0 _
      refine x_pop rfl rfl ?_
      refine x_iconst (v := (-1)) rfl ki_m1 ?_
      refine x_iret rfl rfl ?_
      exact hQ _ _ (jr_of jk_m1 (by omega)) J Sm _ _ (jmo w2 rfl z1) (jmo w2 rfl z0) (by omega)
    ·
      refine x_aloadn (x := 70) rfl rfl ?_
      refine x_iloadn (x := l1) rfl rfl ?_
      refine x_bipush (v := 8) rfl kb_8 ?_
      refine z_imul rfl rfl jk_8 (by omega) (fun v3 ev3 => ?_)
      refine x_inv (N := m_X5_readPair) (As := [.int v3]) (b := 70) (st := []) (dx9 := 4) (mc := 0) (ms := 0) (host := "") 5 rfl t_X5_readPair ⟨Or.inl q_5_90, i_X5_readPair.1, i_X5_readPair.2⟩ ⟨by decide, rfl⟩ (congrArg Prod.fst (J.1.1 70 (5, 9) rfl)) rfl (by decide) rfl rfl ⟨by decide, by decide⟩ (sf_X5_readPair_r70 (jr_of rfl (by omega)) (jr_mod rfl (by omega)) hD J z1 z0 (by omega)  (fun v7 h ev7 J S4 u5 u6 qu5 qu6 ru5 => ?_))
      have Sm := jSm_tr rfl Sm S4
      have eu5 := (show 0 ≤ u5.toInt ∧ u5.toInt ≤ 3 from qu5 ▸ jrg_f J sg_68_5_6_1_0_1)
      have eu6 := (show 0 ≤ u6.toInt ∧ u6.toInt ≤ 400 from qu6 ▸ jrg_f J sg_68_3_4_1_0_1)
      show jX m_X5_readPairs 5 0 0 35 [(0, .ref 70), (1, .int l1)] [.int v7] _ 0 0 _
      refine x_ifne (tgt := 40) rfl rfl (ti_ne rfl jk_0 ⟨fun c8 => ?_, fun c8 => ?_⟩)
      ·
        refine x_aloadn (x := 70) rfl rfl ?_
        refine z_getR (N := 9) (b := 68) 5 1 rfl f_5_39 rfl J rfl 8961 ⟨rfl, rfl⟩ rfl ?_
        refine x_inv (N := m_X9_isEnd) (As := []) (b := 68) (st := []) (dx9 := 4) (mc := 0) (ms := 0) (host := "") 9 rfl t_X9_isEnd ⟨Or.inl q_5_60, i_X9_isEnd.1, i_X9_isEnd.2⟩ ⟨by decide, rfl⟩ (congrArg Prod.fst (J.1.1 68 (9, 6) rfl)) rfl (by decide) rfl rfl ⟨by decide, by decide⟩ (jC.of rfl k_X9_isEnd rfl ?_)
        show jX m_X9_isEnd 4 0 0 0 [(0, .ref 68)] [] _ 0 0 _
        refine x_aloadn (x := 68) rfl rfl ?_
        refine z_getM (N := 6) (v := u5) 9 5 rfl f_9_28 rfl J rfl qu5 ?_
        refine x_ifne (tgt := 11) rfl rfl (ti_ne rfl jk_0 ⟨fun c9 => ?_, fun c9 => ?_⟩)
        ·
          refine x_iconst (v := 0) rfl ki_0 ?_
          refine x_zret rfl rfl (by decide) ?_
          show jX m_X5_readPairs 5 0 0 47 [(0, .ref 70), (1, .int l1)] [.int 0] _ 0 0 _
          refine x_ifeq (tgt := 54) rfl rfl (ti_eq jk_0 jk_0 (br_t (by omega) ?_))
          refine x_aloadn (x := 70) rfl rfl ?_
          refine z_getR (N := 9) (b := 68) 5 1 rfl f_5_39 rfl J rfl 8961 ⟨rfl, rfl⟩ rfl ?_
          refine x_bipush (v := 44) rfl kb_44 ?_
          refine x_inv (N := m_X9_isSign) (As := [.int 44]) (b := 68) (st := []) (dx9 := 1) (mc := 0) (ms := 0) (host := "") 9 rfl t_X9_isSign ⟨Or.inl q_5_48, i_X9_isSign.1, i_X9_isSign.2⟩ ⟨by decide, rfl⟩ (congrArg Prod.fst (J.1.1 68 (9, 6) rfl)) rfl (by decide) rfl rfl ⟨by decide, by decide⟩ (sf_X9_isSign_r68 (jr_of jk_44 (by omega)) hD J qu5 qu6 (by omega)  (fun v13 h ev13 J S10 u11 u12 qu11 qu12 ru11 => ?_))
          have Sm := jSm_tr rfl Sm S10
          have eu11 := (show 0 ≤ u11.toInt ∧ u11.toInt ≤ 3 from qu11 ▸ jrg_f J sg_68_5_6_1_0_1)
          have eu12 := (show 0 ≤ u12.toInt ∧ u12.toInt ≤ 400 from qu12 ▸ jrg_f J sg_68_3_4_1_0_1)
          show jX m_X5_readPairs 5 0 0 63 [(0, .ref 70), (1, .int l1)] [.int v13] _ 0 0 _
          refine x_ifne (tgt := 76) rfl rfl (ti_ne rfl jk_0 ⟨fun c14 => ?_, fun c14 => ?_⟩)
          ·
            refine x_aloadn (x := 70) rfl rfl ?_
            refine z_getR (N := 9) (b := 68) 5 1 rfl f_5_39 rfl J rfl 8961 ⟨rfl, rfl⟩ rfl ?_
            refine x_inv (N := m_X9_step) (As := []) (b := 68) (st := []) (dx9 := 2) (mc := 0) (ms := 0) (host := "") 9 rfl t_X9_step ⟨Or.inl q_5_67, i_X9_step.1, i_X9_step.2⟩ ⟨by decide, rfl⟩ (congrArg Prod.fst (J.1.1 68 (9, 6) rfl)) rfl (by decide) rfl rfl ⟨by decide, by decide⟩ (sf_X9_step_r68  hD J qu11 qu12 (by omega)  (fun h J S15 u16 u17 qu16 qu17 ru16 => ?_))
            have Sm := jSm_tr rfl Sm S15
            have eu16 := (show 0 ≤ u16.toInt ∧ u16.toInt ≤ 3 from qu16 ▸ jrg_f J sg_68_5_6_1_0_1)
            have eu17 := (show 0 ≤ u17.toInt ∧ u17.toInt ≤ 400 from qu17 ▸ jrg_f J sg_68_3_4_1_0_1)
            show jX m_X5_readPairs 5 0 0 83 [(0, .ref 70), (1, .int l1)] [] _ 0 0 _
            refine z_iinc (x := l1) (lsx9 := fun v18 => [(1, .int v18), (0, .ref 70)]) rfl rfl rfl jko_1 (by omega) rfl (fun _ => rfl) (fun v18 ev18 => ?_)
            refine x_goto (tgt := 21) rfl rfl ?_
            exact jX.sub (jsb_c rfl (jsb_c rfl jsb_n)) (ih v18 u17 u16 h (by omega) (jr_of rfl (by omega)) (jr_of rfl (by omega)) (jr_of rfl (by omega)) (by omega) qu17 qu16 J Sm)
          ·
            refine x_aloadn (x := 70) rfl rfl ?_
            refine z_getR (N := 9) (b := 68) 5 1 rfl f_5_39 rfl J rfl 8961 ⟨rfl, rfl⟩ rfl ?_
            refine x_inv (N := m_X9_blame) (As := []) (b := 68) (st := []) (dx9 := 4) (mc := 0) (ms := 0) (host := "") 9 rfl t_X9_blame ⟨Or.inl q_5_64, i_X9_blame.1, i_X9_blame.2⟩ ⟨by decide, rfl⟩ (congrArg Prod.fst (J.1.1 68 (9, 6) rfl)) rfl (by decide) rfl rfl ⟨by decide, by decide⟩ (jC.of rfl k_X9_blame rfl ?_)
            show jX m_X9_blame 4 0 0 0 [(0, .ref 68)] [] _ 0 0 _
            refine x_aloadn (x := 68) rfl rfl ?_
            refine x_aloadn (x := 68) rfl rfl ?_
            refine z_getM (N := 6) (v := u12) 9 3 rfl f_9_22 rfl J rfl qu12 ?_
            refine z_putI (N := 6) (w := u12.toInt) 9 2 rfl f_9_19 rfl (jfin_no TX9 RX9 6 rfl rfl) hD J Sm rfl rfl rfl (pw_68_2 (by omega)) rfl (fun h w19 J Sm => ?_)
            refine x_iconst (v := 0) rfl ki_0 ?_
            refine x_zret rfl rfl (by decide) ?_
            show jX m_X5_readPairs 5 0 0 73 [(0, .ref 70), (1, .int l1)] [.int 0] _ 0 0 _
            refine x_pop rfl rfl ?_
            refine x_iconst (v := (-1)) rfl ki_m1 ?_
            refine x_iret rfl rfl ?_
            exact hQ _ _ (jr_of jk_m1 (by omega)) J Sm _ _ (jmo w19 rfl qu11) (jmo w19 rfl qu12) (by omega)
        ·
          refine x_iconst (v := 1) rfl ki_1 ?_
          refine x_goto (tgt := 12) rfl rfl ?_
          refine x_zret rfl rfl (by decide) ?_
          show jX m_X5_readPairs 5 0 0 47 [(0, .ref 70), (1, .int l1)] [.int 1] _ 0 0 _
          refine x_ifeq (tgt := 54) rfl rfl (ti_eq jk_1 jk_0 (br_f (by omega) ?_))
          refine x_iloadn (x := l1) rfl rfl ?_
          refine x_iconst (v := 1) rfl ki_1 ?_
          refine z_iadd rfl rfl jk_1 (by omega) (fun v20 ev20 => ?_)
          refine x_iret rfl rfl ?_
          exact hQ _ _ (jr_of rfl (by omega)) J Sm _ _ qu5 qu6 (by omega)
      ·
        refine x_iconst (v := (-1)) rfl ki_m1 ?_
        refine x_iret rfl rfl ?_
        exact hQ _ _ (jr_of jk_m1 (by omega)) J Sm _ _ qu5 qu6 (by omega)
set_option maxRecDepth 100000 in
set_option maxHeartbeats 4000000 in
theorem sf_X5_readPairs_r70 {Dy : jH → Prop} {h : jH} {Q : Option Value → jH → Prop} (hD : jDk Dy) (J : jJ jSgX Dy h) {p0 p1 : Int32} (zp0 : jiv h 68 5 = p0) (zp1 : jiv h 68 3 = p1) (rl_p0 : (p0.toInt ≠ 3 ∨ p1.toInt ≤ 399)) (hQ : ∀ (v : Int32) hx9, (-1) ≤ v.toInt ∧ v.toInt ≤ 8 → jJ jSgX Dy hx9 → jSm fp_X5_readPairs_r70 h hx9 → ∀ u0 u1 : Int32, jiv hx9 68 5 = u0 → jiv hx9 68 3 = u1 → (u0.toInt ≠ 3 ∨ u1.toInt ≤ 399) → Q (some (.int v)) hx9) : jC m_X5_readPairs 5 0 0 [.ref 70] h Q := by
  refine jC.of rfl k_X5_readPairs rfl ?_
  have Sm := jSm_rf fp_X5_readPairs_r70 h
  have ep0 := (show 0 ≤ p0.toInt ∧ p0.toInt ≤ 3 from zp0 ▸ jrg_f J sg_68_5_6_1_0_1)
  have ep1 := (show 0 ≤ p1.toInt ∧ p1.toInt ≤ 400 from zp1 ▸ jrg_f J sg_68_3_4_1_0_1)
  show jX m_X5_readPairs 5 0 0 0 [(0, .ref 70)] [] _ 0 0 _
  refine x_aloadn (x := 70) rfl rfl ?_
  refine z_getR (N := 9) (b := 68) 5 1 rfl f_5_39 rfl J rfl 8961 ⟨rfl, rfl⟩ rfl ?_
  refine x_inv (N := m_X9_begin) (As := []) (b := 68) (st := []) (dx9 := 4) (mc := 0) (ms := 0) (host := "") 9 rfl t_X9_begin ⟨Or.inl q_5_43, i_X9_begin.1, i_X9_begin.2⟩ ⟨by decide, rfl⟩ (congrArg Prod.fst (J.1.1 68 (9, 6) rfl)) rfl (by decide) rfl rfl ⟨by decide, by decide⟩ (jC.of rfl k_X9_begin rfl ?_)
  show jX m_X9_begin 4 0 0 0 [(0, .ref 68)] [] _ 0 0 _
  refine x_aloadn (x := 68) rfl rfl ?_
  refine x_iconst (v := (-1)) rfl ki_m1 ?_
  refine z_putI (N := 6) (w := (-1)) 9 2 rfl f_9_19 rfl (jfin_no TX9 RX9 6 rfl rfl) hD J Sm rfl rfl jk_m1 (pw_68_2 (by omega)) rfl (fun h w1 J Sm => ?_)
  refine x_aloadn (x := 68) rfl rfl ?_
  refine x_iconst (v := 0) rfl ki_0 ?_
  refine z_putI (N := 6) (w := 0) 9 4 rfl f_9_25 rfl (jfin_no TX9 RX9 6 rfl rfl) hD J Sm rfl rfl jk_0 (pw_68_4 (by omega)) rfl (fun h w2 J Sm => ?_)
  refine x_aloadn (x := 68) rfl rfl ?_
  refine x_inv (N := m_X9_step) (As := []) (b := 68) (st := []) (dx9 := 2) (mc := 0) (ms := 0) (host := "") 9 rfl t_X9_step ⟨Or.inl q_9_31, i_X9_step.1, i_X9_step.2⟩ ⟨by decide, rfl⟩ (congrArg Prod.fst (J.1.1 68 (9, 6) rfl)) rfl (by decide) rfl rfl ⟨by decide, by decide⟩ (sf_X9_step_r68  hD J (jmo w2 rfl (jmo w1 rfl zp0)) (jmo w2 rfl (jmo w1 rfl zp1)) (by omega)  (fun h J S3 u4 u5 qu4 qu5 ru4 => ?_))
  have Sm := jSm_tr rfl Sm S3
  have eu4 := (show 0 ≤ u4.toInt ∧ u4.toInt ≤ 3 from qu4 ▸ jrg_f J sg_68_5_6_1_0_1)
  have eu5 := (show 0 ≤ u5.toInt ∧ u5.toInt ≤ 400 from qu5 ▸ jrg_f J sg_68_3_4_1_0_1)
  show jX m_X9_begin 4 0 0 14 [(0, .ref 68)] [] _ 0 0 _
  refine x_vret rfl rfl ?_
  show jX m_X5_readPairs 5 0 0 7 [(0, .ref 70)] [] _ 0 0 _
  refine x_aloadn (x := 70) rfl rfl ?_
  refine z_getR (N := 9) (b := 68) 5 1 rfl f_5_39 rfl J rfl 8961 ⟨rfl, rfl⟩ rfl ?_
  refine x_inv (N := m_X9_isEnd) (As := []) (b := 68) (st := []) (dx9 := 4) (mc := 0) (ms := 0) (host := "") 9 rfl t_X9_isEnd ⟨Or.inl q_5_60, i_X9_isEnd.1, i_X9_isEnd.2⟩ ⟨by decide, rfl⟩ (congrArg Prod.fst (J.1.1 68 (9, 6) rfl)) rfl (by decide) rfl rfl ⟨by decide, by decide⟩ (jC.of rfl k_X9_isEnd rfl ?_)
  show jX m_X9_isEnd 4 0 0 0 [(0, .ref 68)] [] _ 0 0 _
  refine x_aloadn (x := 68) rfl rfl ?_
  refine z_getM (N := 6) (v := u4) 9 5 rfl f_9_28 rfl J rfl qu4 ?_
  refine x_ifne (tgt := 11) rfl rfl (ti_ne rfl jk_0 ⟨fun c6 => ?_, fun c6 => ?_⟩)
  ·
    refine x_iconst (v := 0) rfl ki_0 ?_
    refine x_zret rfl rfl (by decide) ?_
    show jX m_X5_readPairs 5 0 0 14 [(0, .ref 70)] [.int 0] _ 0 0 _
    refine x_ifeq (tgt := 19) rfl rfl (ti_eq jk_0 jk_0 (br_t (by omega) ?_))
    refine x_iconst (v := 0) rfl ki_0 ?_
    refine x_istoren (lsx9 := [(1, .int 0), (0, .ref 70)]) rfl rfl rfl ?_
    exact jX.sub (jsb_c rfl (jsb_c rfl jsb_n)) (ct_X5_readPairs_r70_21 hD hQ  9 0 u5 u4 h (by have := jk_0; omega) (jr_of jk_0 (by omega)) (jr_of rfl (by omega)) (jr_of rfl (by omega)) (by omega) qu5 qu4 J Sm)
  ·
    refine x_iconst (v := 1) rfl ki_1 ?_
    refine x_goto (tgt := 12) rfl rfl ?_
    refine x_zret rfl rfl (by decide) ?_
    show jX m_X5_readPairs 5 0 0 14 [(0, .ref 70)] [.int 1] _ 0 0 _
    refine x_ifeq (tgt := 19) rfl rfl (ti_eq jk_1 jk_0 (br_f (by omega) ?_))
    refine x_iconst (v := 0) rfl ki_0 ?_
    refine x_iret rfl rfl ?_
    exact hQ _ _ (jr_of jk_0 (by omega)) J Sm _ _ qu4 qu5 (by omega)
def fp_X11_spell_r31 : jFp := [(31, 12, 13), (32, 19, 20), (68, 1, 2), (68, 2, 3), (68, 3, 4), (68, 4, 5), (68, 5, 6), (72, 0, 64), (73, 0, 1024), (74, 0, 16), (75, 0, 43200), (76, 0, 1200), (77, 0, 1200)]
set_option maxRecDepth 100000 in
set_option maxHeartbeats 4000000 in
theorem ct_X11_spell_r31_10 {Dy : jH → Prop} {h0 : jH} {Q : Option Value → jH → Prop} (hD : jDk Dy) (hQ : ∀ (v : Int32) hx9, (-6) ≤ v.toInt ∧ v.toInt ≤ 8 → jJ jSgX Dy hx9 → jSm fp_X11_spell_r31 h0 hx9 → ∀ u0 u1 : Int32, jiv hx9 68 5 = u0 → jiv hx9 68 3 = u1 → (u0.toInt ≠ 3 ∨ u1.toInt ≤ 399) → Q (some (.int v)) hx9) : ∀ (g0 : Int32) (g1 : Int32) (h : jH), 0 ≤ g0.toInt ∧ g0.toInt ≤ 400 → 0 ≤ g1.toInt ∧ g1.toInt ≤ 3 → (g1.toInt ≠ 3 ∨ g0.toInt ≤ 399) → jiv h 68 3 = g0 → jiv h 68 5 = g1 → jJ jSgX Dy h → jSm fp_X11_spell_r31 h0 h → jX m_X11_spell 6 0 0 10 [(0, .ref 31)] [] h 0 0 Q := by
  intro g0 g1 h y0 y1 y2 z0 z1  J Sm
  refine x_aloadn (x := 31) rfl rfl ?_
  refine x_iconst (v := (-1)) rfl ki_m1 ?_
  refine x_inv (N := m_X11_refuseTape) (As := [.int (-1)]) (b := 31) (st := []) (dx9 := 5) (mc := 0) (ms := 0) (host := "") 11 rfl t_X11_refuseTape ⟨Or.inl q_11_122, i_X11_refuseTape.1, i_X11_refuseTape.2⟩ ⟨by decide, rfl⟩ (congrArg Prod.fst (J.1.1 31 (11, 13) rfl)) rfl (by decide) rfl rfl ⟨by decide, by decide⟩ (jC.of rfl k_X11_refuseTape rfl ?_)
  show jX m_X11_refuseTape 5 0 0 0 [(0, .ref 31), (1, .int (-1))] [] _ 0 0 _
  refine x_aloadn (x := 31) rfl rfl ?_
  refine z_getR (N := 13) (b := 68) 11 2 rfl f_11_23 rfl J rfl 3970 ⟨rfl, rfl⟩ rfl ?_
  refine x_iconst (v := 0) rfl ki_0 ?_
  refine z_putI (N := 6) (w := 0) 9 1 rfl f_11_106 rfl (jfin_no TX9 RX9 6 rfl rfl) hD J Sm rfl rfl jk_0 (pw_68_1 (by omega)) rfl (fun h w1 J Sm => ?_)
  refine x_aloadn (x := 31) rfl rfl ?_
  refine x_iloadn (x := (-1)) rfl rfl ?_
  refine x_inv (N := m_X11_refuse) (As := [.int (-1)]) (b := 31) (st := []) (dx9 := 4) (mc := 0) (ms := 0) (host := "") 11 rfl t_X11_refuse ⟨Or.inl q_11_206, i_X11_refuse.1, i_X11_refuse.2⟩ ⟨by decide, rfl⟩ (congrArg Prod.fst (J.1.1 31 (11, 13) rfl)) rfl (by decide) rfl rfl ⟨by decide, by decide⟩ (jC.of rfl k_X11_refuse rfl ?_)
  show jX m_X11_refuse 4 0 0 0 [(0, .ref 31), (1, .int (-1))] [] _ 0 0 _
  refine x_aloadn (x := 31) rfl rfl ?_
  refine x_iloadn (x := (-1)) rfl rfl ?_
  refine z_putI (N := 13) (w := (-1)) 11 12 rfl f_11_94 rfl (jfin_no TX11 RX11 13 rfl rfl) hD J Sm rfl rfl jk_m1 (pw_31_12 (by omega)) rfl (fun h w2 J Sm => ?_)
  refine x_iloadn (x := (-1)) rfl rfl ?_
  refine x_iret rfl rfl ?_
  show jX m_X11_refuseTape 5 0 0 13 [(0, .ref 31), (1, .int (-1))] [.int (-1)] _ 0 0 _
  refine x_iret rfl rfl ?_
  show jX m_X11_spell 6 0 0 15 [(0, .ref 31)] [.int (-1)] _ 0 0 _
  refine x_iret rfl rfl ?_
  exact hQ _ _ (jr_of jk_m1 (by omega)) J Sm _ _ (jmo w2 rfl (jmo w1 rfl z1)) (jmo w2 rfl (jmo w1 rfl z0)) (by omega)
set_option maxRecDepth 100000 in
set_option maxHeartbeats 4000000 in
theorem ct_X11_spell_r31_93 {Dy : jH → Prop} {h0 : jH} {Q : Option Value → jH → Prop} {R55 : Int} (hD : jDk Dy) (hQ : ∀ (v : Int32) hx9, (-6) ≤ v.toInt ∧ v.toInt ≤ 8 → jJ jSgX Dy hx9 → jSm fp_X11_spell_r31 h0 hx9 → ∀ u0 u1 : Int32, jiv hx9 68 5 = u0 → jiv hx9 68 3 = u1 → (u0.toInt ≠ 3 ∨ u1.toInt ≤ 399) → Q (some (.int v)) hx9) (k55 : ∀ (l1 : Int32) (l2 : Int32) (l3 : Int32) (g0 : Int32) (g1 : Int32) (h : jH), 200 - l3.toInt < R55 → 0 ≤ l1.toInt ∧ l1.toInt ≤ 15 → 0 ≤ l2.toInt ∧ l2.toInt ≤ 8 → 0 ≤ l3.toInt ∧ l3.toInt ≤ 200 → 0 ≤ g0.toInt ∧ g0.toInt ≤ 400 → 0 ≤ g1.toInt ∧ g1.toInt ≤ 3 → (g1.toInt ≠ 3 ∨ g0.toInt ≤ 399) → jiv h 68 3 = g0 → jiv h 68 5 = g1 → jJ jSgX Dy h → jSm fp_X11_spell_r31 h0 h → jX m_X11_spell 6 0 0 55 [(0, .ref 31), (1, .int l1), (2, .int l2), (3, .int l3)] [] h 0 0 Q) : ∀ (l1 : Int32) (l2 : Int32) (l3 : Int32) (g0 : Int32) (g1 : Int32) (h : jH), 0 ≤ l1.toInt ∧ l1.toInt ≤ 15 → 0 ≤ l2.toInt ∧ l2.toInt ≤ 8 → 0 ≤ l3.toInt ∧ l3.toInt ≤ 199 → 0 ≤ g0.toInt ∧ g0.toInt ≤ 400 → 0 ≤ g1.toInt ∧ g1.toInt ≤ 3 → (g1.toInt ≠ 3 ∨ g0.toInt ≤ 399) → jiv h 68 3 = g0 → jiv h 68 5 = g1 → 200 - l3.toInt ≤ R55 → jJ jSgX Dy h → jSm fp_X11_spell_r31 h0 h → jX m_X11_spell 6 0 0 93 [(0, .ref 31), (1, .int l1), (2, .int l2), (3, .int l3)] [] h 0 0 Q := by
  intro l1 l2 l3 g0 g1 h y0 y1 y2 y3 y4 y5 z0 z1 m55 J Sm
  refine z_iinc (x := l3) (lsx9 := fun v1 => [(3, .int v1), (0, .ref 31), (1, .int l1), (2, .int l2)]) rfl rfl rfl jko_1 (by omega) rfl (fun _ => rfl) (fun v1 ev1 => ?_)
  refine x_goto (tgt := 55) rfl rfl ?_
  exact jX.sub (jsb_c rfl (jsb_c rfl (jsb_c rfl (jsb_c rfl jsb_n)))) (k55 l1 l2 v1 g0 g1 h (by omega) (jr_of rfl (by omega)) (jr_of rfl (by omega)) (jr_of rfl (by omega)) (jr_of rfl (by omega)) (jr_of rfl (by omega)) (by omega) z0 z1 J Sm)
set_option maxRecDepth 100000 in
set_option maxHeartbeats 4000000 in
theorem ct_X11_spell_r31_55 {Dy : jH → Prop} {h0 : jH} {Q : Option Value → jH → Prop} (hD : jDk Dy) (hQ : ∀ (v : Int32) hx9, (-6) ≤ v.toInt ∧ v.toInt ≤ 8 → jJ jSgX Dy hx9 → jSm fp_X11_spell_r31 h0 hx9 → ∀ u0 u1 : Int32, jiv hx9 68 5 = u0 → jiv hx9 68 3 = u1 → (u0.toInt ≠ 3 ∨ u1.toInt ≤ 399) → Q (some (.int v)) hx9) : ∀ r : Nat, ∀ (l1 : Int32) (l2 : Int32) (l3 : Int32) (g0 : Int32) (g1 : Int32) (h : jH), 200 - l3.toInt < (r : Int) → 0 ≤ l1.toInt ∧ l1.toInt ≤ 15 → 0 ≤ l2.toInt ∧ l2.toInt ≤ 8 → 0 ≤ l3.toInt ∧ l3.toInt ≤ 200 → 0 ≤ g0.toInt ∧ g0.toInt ≤ 400 → 0 ≤ g1.toInt ∧ g1.toInt ≤ 3 → (g1.toInt ≠ 3 ∨ g0.toInt ≤ 399) → jiv h 68 3 = g0 → jiv h 68 5 = g1 → jJ jSgX Dy h → jSm fp_X11_spell_r31 h0 h → jX m_X11_spell 6 0 0 55 [(0, .ref 31), (1, .int l1), (2, .int l2), (3, .int l3)] [] h 0 0 Q := by
  intro r
  induction r with
  | zero =>
    intro l1 l2 l3 g0 g1 h hm y0 y1 y2 y3 y4 y5 z0 z1  J Sm
    exfalso
    omega
  | succ r ih =>
    intro l1 l2 l3 g0 g1 h hm y0 y1 y2 y3 y4 y5 z0 z1  J Sm
    refine x_iloadn (x := l3) rfl rfl ?_
    refine x_aloadn (x := 31) rfl rfl ?_
    refine z_getR (N := 13) (b := 32) 11 0 rfl f_11_10 rfl J rfl 3968 ⟨rfl, rfl⟩ rfl ?_
    refine z_getR (N := 20) (b := 33) 1 0 rfl f_11_126 rfl J rfl 4096 ⟨rfl, rfl⟩ rfl ?_
    refine z_getI (N := 4) 8 3 rfl f_11_142 rfl J rfl sg_33_3_4_1_0_1 (fun v1 qv1 ev1 => ?_)
    refine x_icge (tgt := 99) rfl rfl (ti_ge rfl rfl ⟨fun c2 => ?_, fun c2 => ?_⟩)
    ·
      refine x_aloadn (x := 31) rfl rfl ?_
      refine x_iloadn (x := l2) rfl rfl ?_
      refine x_inv (N := m_X11_accept) (As := [.int l2]) (b := 31) (st := []) (dx9 := 5) (mc := 0) (ms := 0) (host := "") 11 rfl t_X11_accept ⟨Or.inl q_11_165, i_X11_accept.1, i_X11_accept.2⟩ ⟨by decide, rfl⟩ (congrArg Prod.fst (J.1.1 31 (11, 13) rfl)) rfl (by decide) rfl rfl ⟨by decide, by decide⟩ (jC.of rfl k_X11_accept rfl ?_)
      show jX m_X11_accept 5 0 0 0 [(0, .ref 31), (1, .int l2)] [] _ 0 0 _
      refine x_aloadn (x := 31) rfl rfl ?_
      refine x_iconst (v := 0) rfl ki_0 ?_
      refine z_putI (N := 13) (w := 0) 11 12 rfl f_11_94 rfl (jfin_no TX11 RX11 13 rfl rfl) hD J Sm rfl rfl jk_0 (pw_31_12 (by omega)) rfl (fun h w3 J Sm => ?_)
      refine x_aloadn (x := 31) rfl rfl ?_
      refine z_getR (N := 13) (b := 32) 11 0 rfl f_11_10 rfl J rfl 3968 ⟨rfl, rfl⟩ rfl ?_
      refine x_dup rfl rfl ?_
      refine z_getI0 (N := 20) 1 19 rfl f_11_528 rfl J rfl (fun v4 qv4 => ?_)
      have ev4 := jfull v4
      refine x_iconst (v := 1) rfl ki_1 ?_
      refine z_iadd0 rfl (fun v5 => ?_)
      have ev5 := jfull v5
      refine z_putI (N := 20) (w := v5.toInt) 1 19 rfl f_11_528 rfl (jfin_no TX1 RX1 20 rfl rfl) hD J Sm rfl rfl rfl (pw_32_19 trivial) rfl (fun h w6 J Sm => ?_)
      refine x_iloadn (x := l2) rfl rfl ?_
      refine x_iret rfl rfl ?_
      show jX m_X11_spell 6 0 0 104 [(0, .ref 31), (1, .int l1), (2, .int l2), (3, .int l3)] [.int l2] _ 0 0 _
      refine x_iret rfl rfl ?_
      exact hQ _ _ (jr_of rfl (by omega)) J Sm _ _ (jmo w6 rfl (jmo w3 rfl z1)) (jmo w6 rfl (jmo w3 rfl z0)) (by omega)
    ·
      refine x_aloadn (x := 31) rfl rfl ?_
      refine z_getR (N := 13) (b := 32) 11 0 rfl f_11_10 rfl J rfl 3968 ⟨rfl, rfl⟩ rfl ?_
      refine z_getR (N := 20) (b := 33) 1 0 rfl f_11_126 rfl J rfl 4096 ⟨rfl, rfl⟩ rfl ?_
      refine x_iloadn (x := l3) rfl rfl ?_
      refine x_iconst (v := 3) rfl ki_3 ?_
      refine x_inv (N := m_X8_at) (As := [.int l3, .int 3]) (b := 33) (st := []) (dx9 := 1) (mc := 0) (ms := 0) (host := "") 8 rfl t_X8_at ⟨Or.inl q_11_171, i_X8_at.1, i_X8_at.2⟩ ⟨by decide, rfl⟩ (congrArg Prod.fst (J.1.1 33 (8, 4) rfl)) rfl (by decide) rfl rfl ⟨by decide, by decide⟩ (sf_X8_at_r33_c3 (jr_of rfl (by omega)) hD J  (fun v8 h ev8 J S7 => ?_))
      have Sm := jSm_tr rfl Sm S7
      show jX m_X11_spell 6 0 0 81 [(0, .ref 31), (1, .int l1), (2, .int l2), (3, .int l3)] [.int v8] _ 0 0 _
      refine x_iloadn (x := l1) rfl rfl ?_
      refine x_icne (tgt := 93) rfl rfl (ti_ne rfl rfl ⟨fun c9 => ?_, fun c9 => ?_⟩)
      ·
        exact jX.sub (jsb_c rfl (jsb_c rfl (jsb_c rfl (jsb_c rfl jsb_n)))) (ct_X11_spell_r31_93 hD hQ ih l1 l2 l3 g0 g1 h (jr_of rfl (by omega)) (jr_of rfl (by omega)) (jr_of rfl (by omega)) (jr_of rfl (by omega)) (jr_of rfl (by omega)) (by omega) (jmc S7 rfl z0) (jmc S7 rfl z1) (by omega) J Sm)
      ·
        refine x_aloadn (x := 31) rfl rfl ?_
        refine z_getR (N := 13) (b := 70) 11 3 rfl f_11_32 rfl J rfl 3971 ⟨rfl, rfl⟩ rfl ?_
        refine x_iloadn (x := l3) rfl rfl ?_
        refine x_inv (N := m_X5_learn) (As := [.int l3]) (b := 70) (st := []) (dx9 := 4) (mc := 0) (ms := 0) (host := "") 5 rfl t_X5_learn ⟨Or.inl q_11_186, i_X5_learn.1, i_X5_learn.2⟩ ⟨by decide, rfl⟩ (congrArg Prod.fst (J.1.1 70 (5, 9) rfl)) rfl (by decide) rfl rfl ⟨by decide, by decide⟩ (sf_X5_learn_r70 (jr_of rfl (by omega)) hD J  (fun h J S10 => ?_))
        have Sm := jSm_tr rfl Sm S10
        show jX m_X11_spell 6 0 0 93 [(0, .ref 31), (1, .int l1), (2, .int l2), (3, .int l3)] [] _ 0 0 _
        exact jX.sub (jsb_c rfl (jsb_c rfl (jsb_c rfl (jsb_c rfl jsb_n)))) (ct_X11_spell_r31_93 hD hQ ih l1 l2 l3 g0 g1 h (jr_of rfl (by omega)) (jr_of rfl (by omega)) (jr_of rfl (by omega)) (jr_of rfl (by omega)) (jr_of rfl (by omega)) (by omega) (jmc S10 rfl (jmc S7 rfl z0)) (jmc S10 rfl (jmc S7 rfl z1)) (by omega) J Sm)
set_option maxRecDepth 100000 in
set_option maxHeartbeats 4000000 in
theorem sf_X11_spell_r31 {Dy : jH → Prop} {h : jH} {Q : Option Value → jH → Prop} {a1 : Int32} (hD : jDk Dy) (J : jJ jSgX Dy h) {p0 p1 : Int32} (zp0 : jiv h 68 5 = p0) (zp1 : jiv h 68 3 = p1) (rl_p0 : (p0.toInt ≠ 3 ∨ p1.toInt ≤ 399)) (hQ : ∀ (v : Int32) hx9, (-6) ≤ v.toInt ∧ v.toInt ≤ 8 → jJ jSgX Dy hx9 → jSm fp_X11_spell_r31 h hx9 → ∀ u0 u1 : Int32, jiv hx9 68 5 = u0 → jiv hx9 68 3 = u1 → (u0.toInt ≠ 3 ∨ u1.toInt ≤ 399) → Q (some (.int v)) hx9) : jC m_X11_spell 6 0 0 [.ref 31, .int a1] h Q := by
  refine jC.of rfl k_X11_spell rfl ?_
  have Sm := jSm_rf fp_X11_spell_r31 h
  have ep0 := (show 0 ≤ p0.toInt ∧ p0.toInt ≤ 3 from zp0 ▸ jrg_f J sg_68_5_6_1_0_1)
  have ep1 := (show 0 ≤ p1.toInt ∧ p1.toInt ≤ 400 from zp1 ▸ jrg_f J sg_68_3_4_1_0_1)
  have ea1 := jfull a1
  show jX m_X11_spell 6 0 0 0 [(0, .ref 31), (1, .int a1)] [] _ 0 0 _
  refine x_iloadn (x := a1) rfl rfl ?_
  refine x_iflt (tgt := 10) rfl rfl (ti_lt rfl jk_0 ⟨fun c1 => ?_, fun c1 => ?_⟩)
  ·
    exact jX.sub (jsb_c rfl jsb_n) (ct_X11_spell_r31_10 hD hQ  p1 p0 h (jr_of rfl (by omega)) (jr_of rfl (by omega)) (by omega) zp1 zp0 J Sm)
  ·
    refine x_iloadn (x := a1) rfl rfl ?_
    refine x_bipush (v := 15) rfl kb_15 ?_
    refine x_icle (tgt := 16) rfl rfl (ti_le rfl jk_15 ⟨fun c2 => ?_, fun c2 => ?_⟩)
    ·
      refine x_aloadn (x := 31) rfl rfl ?_
      refine z_getR (N := 13) (b := 70) 11 3 rfl f_11_32 rfl J rfl 3971 ⟨rfl, rfl⟩ rfl ?_
      refine x_inv (N := m_X5_readPairs) (As := []) (b := 70) (st := []) (dx9 := 5) (mc := 0) (ms := 0) (host := "") 5 rfl t_X5_readPairs ⟨Or.inl q_11_178, i_X5_readPairs.1, i_X5_readPairs.2⟩ ⟨by decide, rfl⟩ (congrArg Prod.fst (J.1.1 70 (5, 9) rfl)) rfl (by decide) rfl rfl ⟨by decide, by decide⟩ (sf_X5_readPairs_r70  hD J zp0 zp1 (by omega)  (fun v6 h ev6 J S3 u4 u5 qu4 qu5 ru4 => ?_))
      have Sm := jSm_tr rfl Sm S3
      have eu4 := (show 0 ≤ u4.toInt ∧ u4.toInt ≤ 3 from qu4 ▸ jrg_f J sg_68_5_6_1_0_1)
      have eu5 := (show 0 ≤ u5.toInt ∧ u5.toInt ≤ 400 from qu5 ▸ jrg_f J sg_68_3_4_1_0_1)
      show jX m_X11_spell 6 0 0 23 [(0, .ref 31), (1, .int a1)] [.int v6] _ 0 0 _
      refine x_istoren (lsx9 := [(2, .int v6), (0, .ref 31), (1, .int a1)]) rfl rfl rfl ?_
      refine x_iloadn (x := v6) rfl rfl ?_
      refine x_iconst (v := (-1)) rfl ki_m1 ?_
      refine x_icne (tgt := 36) rfl rfl (ti_ne rfl jk_m1 ⟨fun c7 => ?_, fun c7 => ?_⟩)
      ·
        refine x_aloadn (x := 31) rfl rfl ?_
        refine z_getR (N := 13) (b := 68) 11 2 rfl f_11_23 rfl J rfl 3970 ⟨rfl, rfl⟩ rfl ?_
        refine x_iconst (v := 0) rfl ki_0 ?_
        refine z_putI (N := 6) (w := 0) 9 1 rfl f_11_106 rfl (jfin_no TX9 RX9 6 rfl rfl) hD J Sm rfl rfl jk_0 (pw_68_1 (by omega)) rfl (fun h w8 J Sm => ?_)
        refine x_aloadn (x := 31) rfl rfl ?_
        refine z_getR (N := 13) (b := 70) 11 3 rfl f_11_32 rfl J rfl 3971 ⟨rfl, rfl⟩ rfl ?_
        refine x_iloadn (x := a1) rfl rfl ?_
        refine x_iloadn (x := v6) rfl rfl ?_
        refine x_inv (N := m_X5_keepPairs) (As := [.int a1, .int v6]) (b := 70) (st := []) (dx9 := 5) (mc := 0) (ms := 0) (host := "") 5 rfl t_X5_keepPairs ⟨Or.inl q_11_182, i_X5_keepPairs.1, i_X5_keepPairs.2⟩ ⟨by decide, rfl⟩ (congrArg Prod.fst (J.1.1 70 (5, 9) rfl)) rfl (by decide) rfl rfl ⟨by decide, by decide⟩ (jC.of rfl k_X5_keepPairs rfl ?_)
        show jX m_X5_keepPairs 5 0 0 0 [(0, .ref 70), (1, .int a1), (2, .int v6)] [] _ 0 0 _
        refine x_iloadn (x := a1) rfl rfl ?_
        refine x_iflt (tgt := 50) rfl rfl (ti_lt rfl jk_0 (br_f (by omega) ?_))
        refine x_iloadn (x := a1) rfl rfl ?_
        refine x_bipush (v := 15) rfl kb_15 ?_
        refine x_icgt (tgt := 50) rfl rfl (ti_gt rfl jk_15 (br_f (by omega) ?_))
        refine x_iloadn (x := v6) rfl rfl ?_
        refine x_iflt (tgt := 50) rfl rfl (ti_lt rfl jk_0 (br_f (by omega) ?_))
        refine x_iloadn (x := v6) rfl rfl ?_
        refine x_bipush (v := 8) rfl kb_8 ?_
        refine x_icgt (tgt := 50) rfl rfl (ti_gt rfl jk_8 (br_f (by omega) ?_))
        refine x_aloadn (x := 70) rfl rfl ?_
        refine z_getR (N := 9) (b := 72) 5 3 rfl f_5_15 rfl J rfl 8963 ⟨rfl, rfl⟩ rfl ?_
        refine x_iconst (v := 0) rfl ki_0 ?_
        refine x_aloadn (x := 70) rfl rfl ?_
        refine z_getR (N := 9) (b := 73) 5 4 rfl f_5_18 rfl J rfl 8964 ⟨rfl, rfl⟩ rfl ?_
        refine x_iloadn (x := a1) rfl rfl ?_
        refine x_aloadn (x := 70) rfl rfl ?_
        refine z_getR (N := 9) (b := 72) 5 3 rfl f_5_15 rfl J rfl 8963 ⟨rfl, rfl⟩ rfl ?_
        refine z_alen (N := 64) (v := 64) rfl J rfl rfl (by decide) ?_
        refine z_imul rfl rfl jk_64 (by omega) (fun v9 ev9 => ?_)
        refine x_iloadn (x := v6) rfl rfl ?_
        refine x_bipush (v := 8) rfl kb_8 ?_
        refine z_imul rfl rfl jk_8 (by omega) (fun v10 ev10 => ?_)
        refine z_cpi (N1 := 64) (N2 := 1024) rfl ⟨q_5_96, jcp_w⟩ (by decide) rfl hD J Sm rfl rfl rfl rfl jk_0 rfl rfl (by omega) (cp_73 (fun k k1 k2 k3 => by have k4 := k3.1; have k5 := k3.2.1; have k6 := k3.2.2; simp only at k4 k5 k6; exact jcp_in J sg_72_0_64_4_0_1 rfl (by omega) (by decide)) (fun k k1 k2 k3 => by have k4 := k3.1; have k5 := k3.2.1; have k6 := k3.2.2; simp only at k4 k5 k6; exact jcp_in J sg_72_0_64_4_1_4 rfl (by omega) (by decide)) (fun k k1 k2 k3 => by have k4 := k3.1; have k5 := k3.2.1; have k6 := k3.2.2; simp only at k4 k5 k6; exact jcp_in J sg_72_0_64_1_0_1 rfl (by omega) (by decide))) rfl (fun h w11 J Sm => ?_)
        refine x_aloadn (x := 70) rfl rfl ?_
        refine z_getR (N := 9) (b := 74) 5 5 rfl f_5_21 rfl J rfl 8965 ⟨rfl, rfl⟩ rfl ?_
        refine x_iloadn (x := a1) rfl rfl ?_
        refine x_iloadn (x := v6) rfl rfl ?_
        refine z_iast (N := 16) (l := 0) (u := 16) (w := v6.toInt) rfl hD J Sm rfl rfl rfl (by omega) rfl (wr_74 (fun q1 q2 q3 q4 => by omega)) rfl (fun h w12 J Sm => ?_)
        refine x_vret rfl rfl ?_
        show jX m_X11_spell 6 0 0 53 [(2, .int v6), (0, .ref 31), (1, .int a1)] [] _ 0 0 _
        refine x_iconst (v := 0) rfl ki_0 ?_
        refine x_istoren (lsx9 := [(3, .int 0), (2, .int v6), (0, .ref 31), (1, .int a1)]) rfl rfl rfl ?_
        exact jX.sub (jsb_c rfl (jsb_c rfl (jsb_c rfl (jsb_c rfl jsb_n)))) (ct_X11_spell_r31_55 hD hQ  201 a1 v6 0 u5 u4 h (by have := jk_0; omega) (jr_of rfl (by omega)) (jr_of rfl (by omega)) (jr_of jk_0 (by omega)) (jr_of rfl (by omega)) (jr_of rfl (by omega)) (by omega) (jmo w12 rfl (jmk w11 rfl (jmo w8 rfl qu5))) (jmo w12 rfl (jmk w11 rfl (jmo w8 rfl qu4))) J Sm)
      ·
        refine x_aloadn (x := 31) rfl rfl ?_
        refine x_bipush (v := (-6)) rfl kb_m6 ?_
        refine x_inv (N := m_X11_refuseTape) (As := [.int (-6)]) (b := 31) (st := []) (dx9 := 5) (mc := 0) (ms := 0) (host := "") 11 rfl t_X11_refuseTape ⟨Or.inl q_11_122, i_X11_refuseTape.1, i_X11_refuseTape.2⟩ ⟨by decide, rfl⟩ (congrArg Prod.fst (J.1.1 31 (11, 13) rfl)) rfl (by decide) rfl rfl ⟨by decide, by decide⟩ (jC.of rfl k_X11_refuseTape rfl ?_)
        show jX m_X11_refuseTape 5 0 0 0 [(0, .ref 31), (1, .int (-6))] [] _ 0 0 _
        refine x_aloadn (x := 31) rfl rfl ?_
        refine z_getR (N := 13) (b := 68) 11 2 rfl f_11_23 rfl J rfl 3970 ⟨rfl, rfl⟩ rfl ?_
        refine x_iconst (v := 0) rfl ki_0 ?_
        refine z_putI (N := 6) (w := 0) 9 1 rfl f_11_106 rfl (jfin_no TX9 RX9 6 rfl rfl) hD J Sm rfl rfl jk_0 (pw_68_1 (by omega)) rfl (fun h w13 J Sm => ?_)
        refine x_aloadn (x := 31) rfl rfl ?_
        refine x_iloadn (x := (-6)) rfl rfl ?_
        refine x_inv (N := m_X11_refuse) (As := [.int (-6)]) (b := 31) (st := []) (dx9 := 4) (mc := 0) (ms := 0) (host := "") 11 rfl t_X11_refuse ⟨Or.inl q_11_206, i_X11_refuse.1, i_X11_refuse.2⟩ ⟨by decide, rfl⟩ (congrArg Prod.fst (J.1.1 31 (11, 13) rfl)) rfl (by decide) rfl rfl ⟨by decide, by decide⟩ (jC.of rfl k_X11_refuse rfl ?_)
        show jX m_X11_refuse 4 0 0 0 [(0, .ref 31), (1, .int (-6))] [] _ 0 0 _
        refine x_aloadn (x := 31) rfl rfl ?_
        refine x_iloadn (x := (-6)) rfl rfl ?_
        refine z_putI (N := 13) (w := (-6)) 11 12 rfl f_11_94 rfl (jfin_no TX11 RX11 13 rfl rfl) hD J Sm rfl rfl jk_m6 (pw_31_12 (by omega)) rfl (fun h w14 J Sm => ?_)
        refine x_iloadn (x := (-6)) rfl rfl ?_
        refine x_iret rfl rfl ?_
        show jX m_X11_refuseTape 5 0 0 13 [(0, .ref 31), (1, .int (-6))] [.int (-6)] _ 0 0 _
        refine x_iret rfl rfl ?_
        show jX m_X11_spell 6 0 0 35 [(2, .int v6), (0, .ref 31), (1, .int a1)] [.int (-6)] _ 0 0 _
        refine x_iret rfl rfl ?_
        exact hQ _ _ (jr_of jk_m6 (by omega)) J Sm _ _ (jmo w14 rfl (jmo w13 rfl qu4)) (jmo w14 rfl (jmo w13 rfl qu5)) (by omega)
    ·
      exact jX.sub (jsb_c rfl jsb_n) (ct_X11_spell_r31_10 hD hQ  p1 p0 h (jr_of rfl (by omega)) (jr_of rfl (by omega)) (by omega) zp1 zp0 J Sm)
def fp_X11_split_r31 : jFp := [(31, 12, 13), (32, 19, 20), (49, 3, 4), (50, 0, 200), (63, 3, 4), (64, 0, 740)]
set_option maxRecDepth 100000 in
set_option maxHeartbeats 4000000 in
theorem ct_X11_split_r31_41 {Dy : jH → Prop} {h0 : jH} {Q : Option Value → jH → Prop} (hD : jDk Dy) (hQ : ∀ (v : Int32) hx9, (-366) ≤ v.toInt ∧ v.toInt ≤ 40 → jJ jSgX Dy hx9 → jSm fp_X11_split_r31 h0 hx9 → Q (some (.int v)) hx9) : ∀ (h : jH), jJ jSgX Dy h → jSm fp_X11_split_r31 h0 h → jX m_X11_split 4 0 0 41 [(0, .ref 31)] [] h 0 0 Q := by
  intro  h    J Sm
  refine x_aloadn (x := 31) rfl rfl ?_
  refine x_iconst (v := (-1)) rfl ki_m1 ?_
  refine x_inv (N := m_X11_refuse) (As := [.int (-1)]) (b := 31) (st := []) (dx9 := 3) (mc := 0) (ms := 0) (host := "") 11 rfl t_X11_refuse ⟨Or.inl q_11_206, i_X11_refuse.1, i_X11_refuse.2⟩ ⟨by decide, rfl⟩ (congrArg Prod.fst (J.1.1 31 (11, 13) rfl)) rfl (by decide) rfl rfl ⟨by decide, by decide⟩ (jC.of rfl k_X11_refuse rfl ?_)
  show jX m_X11_refuse 3 0 0 0 [(0, .ref 31), (1, .int (-1))] [] _ 0 0 _
  refine x_aloadn (x := 31) rfl rfl ?_
  refine x_iloadn (x := (-1)) rfl rfl ?_
  refine z_putI (N := 13) (w := (-1)) 11 12 rfl f_11_94 rfl (jfin_no TX11 RX11 13 rfl rfl) hD J Sm rfl rfl jk_m1 (pw_31_12 (by omega)) rfl (fun h w1 J Sm => ?_)
  refine x_iloadn (x := (-1)) rfl rfl ?_
  refine x_iret rfl rfl ?_
  show jX m_X11_split 4 0 0 46 [(0, .ref 31)] [.int (-1)] _ 0 0 _
  refine x_iret rfl rfl ?_
  exact hQ _ _ (jr_of jk_m1 (by omega)) J Sm
set_option maxRecDepth 100000 in
set_option maxHeartbeats 4000000 in
theorem sf_X11_split_r31 {Dy : jH → Prop} {h : jH} {Q : Option Value → jH → Prop} {a1 : Int32} {a2 : Int32} {a3 : Int32} {a4 : Int32} {a5 : Int32} (hD : jDk Dy) (J : jJ jSgX Dy h) (hQ : ∀ (v : Int32) hx9, (-366) ≤ v.toInt ∧ v.toInt ≤ 40 → jJ jSgX Dy hx9 → jSm fp_X11_split_r31 h hx9 → Q (some (.int v)) hx9) : jC m_X11_split 4 0 0 [.ref 31, .int a1, .int a2, .int a3, .int a4, .int a5] h Q := by
  refine jC.of rfl k_X11_split rfl ?_
  have Sm := jSm_rf fp_X11_split_r31 h
  have ea1 := jfull a1
  have ea2 := jfull a2
  have ea3 := jfull a3
  have ea4 := jfull a4
  have ea5 := jfull a5
  show jX m_X11_split 4 0 0 0 [(0, .ref 31), (1, .int a1), (2, .int a2), (3, .int a3), (4, .int a4), (5, .int a5)] [] _ 0 0 _
  refine x_iloadn (x := a2) rfl rfl ?_
  refine x_iconst (v := 1) rfl ki_1 ?_
  refine x_bipush (v := 100) rfl kb_100 ?_
  refine x_inst (N := m_X11_isWithin) (As := [.int a2, .int 1, .int 100]) (st := []) (dx9 := 1) (mc := 0) (ms := 0) (host := "") rfl t_X11_isWithin ⟨Or.inl q_11_202, s_X11_isWithin⟩ rfl (by decide) rfl rfl ⟨by decide, by decide⟩ (zc_X11_isWithin rfl jk_1 jk_100 (fun v1 ev1 => ?_))
  show jX m_X11_split 4 0 0 7 [(0, .ref 31), (1, .int a1), (2, .int a2), (3, .int a3), (4, .int a4), (5, .int a5)] [.int v1] _ 0 0 _
  refine x_ifeq (tgt := 41) rfl rfl (ti_eq rfl jk_0 ⟨fun c2 => ?_, fun c2 => ?_⟩)
  ·
    exact jX.sub (jsb_c rfl jsb_n) (ct_X11_split_r31_41 hD hQ  h J Sm)
  ·
    refine x_iloadn (x := a3) rfl rfl ?_
    refine x_iconst (v := 1) rfl ki_1 ?_
    refine x_bipush (v := 100) rfl kb_100 ?_
    refine x_inst (N := m_X11_isWithin) (As := [.int a3, .int 1, .int 100]) (st := []) (dx9 := 1) (mc := 0) (ms := 0) (host := "") rfl t_X11_isWithin ⟨Or.inl q_11_202, s_X11_isWithin⟩ rfl (by decide) rfl rfl ⟨by decide, by decide⟩ (zc_X11_isWithin rfl jk_1 jk_100 (fun v3 ev3 => ?_))
    show jX m_X11_split 4 0 0 17 [(0, .ref 31), (1, .int a1), (2, .int a2), (3, .int a3), (4, .int a4), (5, .int a5)] [.int v3] _ 0 0 _
    refine x_ifeq (tgt := 41) rfl rfl (ti_eq rfl jk_0 ⟨fun c4 => ?_, fun c4 => ?_⟩)
    ·
      exact jX.sub (jsb_c rfl jsb_n) (ct_X11_split_r31_41 hD hQ  h J Sm)
    ·
      refine x_iloadn (x := a2) rfl rfl ?_
      refine x_iloadn (x := a3) rfl rfl ?_
      refine x_icge (tgt := 41) rfl rfl (ti_ge rfl rfl ⟨fun c5 => ?_, fun c5 => ?_⟩)
      ·
        exact jX.sub (jsb_c rfl jsb_n) (ct_X11_split_r31_41 hD hQ  h J Sm)
      ·
        refine x_iload (x := a4) rfl rfl ?_
        refine x_inst (N := m_X11_isDay) (As := [.int a4]) (st := []) (dx9 := 1) (mc := 0) (ms := 0) (host := "") rfl t_X11_isDay ⟨Or.inl q_11_115, s_X11_isDay⟩ rfl (by decide) rfl rfl ⟨by decide, by decide⟩ (zc_X11_isDay rfl (fun v6 ev6 => ?_))
        show jX m_X11_split 4 0 0 30 [(0, .ref 31), (1, .int a1), (2, .int a2), (3, .int a3), (4, .int a4), (5, .int a5)] [.int v6] _ 0 0 _
        refine x_ifeq (tgt := 41) rfl rfl (ti_eq rfl jk_0 ⟨fun c7 => ?_, fun c7 => ?_⟩)
        ·
          exact jX.sub (jsb_c rfl jsb_n) (ct_X11_split_r31_41 hD hQ  h J Sm)
        ·
          refine x_iload (x := a5) rfl rfl ?_
          refine x_inst (N := m_X11_isDay) (As := [.int a5]) (st := []) (dx9 := 1) (mc := 0) (ms := 0) (host := "") rfl t_X11_isDay ⟨Or.inl q_11_115, s_X11_isDay⟩ rfl (by decide) rfl rfl ⟨by decide, by decide⟩ (zc_X11_isDay rfl (fun v8 ev8 => ?_))
          show jX m_X11_split 4 0 0 38 [(0, .ref 31), (1, .int a1), (2, .int a2), (3, .int a3), (4, .int a4), (5, .int a5)] [.int v8] _ 0 0 _
          refine x_ifne (tgt := 47) rfl rfl (ti_ne rfl jk_0 ⟨fun c9 => ?_, fun c9 => ?_⟩)
          ·
            refine x_aloadn (x := 31) rfl rfl ?_
            refine x_iloadn (x := a1) rfl rfl ?_
            refine x_inv (N := m_X11_isHolding) (As := [.int a1]) (b := 31) (st := []) (dx9 := 3) (mc := 0) (ms := 0) (host := "") 11 rfl t_X11_isHolding ⟨Or.inl q_11_415, i_X11_isHolding.1, i_X11_isHolding.2⟩ ⟨by decide, rfl⟩ (congrArg Prod.fst (J.1.1 31 (11, 13) rfl)) rfl (by decide) rfl rfl ⟨by decide, by decide⟩ (jC.of rfl k_X11_isHolding rfl ?_)
            show jX m_X11_isHolding 3 0 0 0 [(0, .ref 31), (1, .int a1)] [] _ 0 0 _
            refine x_iloadn (x := a1) rfl rfl ?_
            refine x_iflt (tgt := 28) rfl rfl (ti_lt rfl jk_0 ⟨fun c10 => ?_, fun c10 => ?_⟩)
            ·
              refine x_iconst (v := 0) rfl ki_0 ?_
              refine x_zret rfl rfl (by decide) ?_
              show jX m_X11_split 4 0 0 52 [(0, .ref 31), (1, .int a1), (2, .int a2), (3, .int a3), (4, .int a4), (5, .int a5)] [.int 0] _ 0 0 _
              refine x_ifne (tgt := 62) rfl rfl (ti_ne jk_0 jk_0 (bn_f (by omega) ?_))
              refine x_aloadn (x := 31) rfl rfl ?_
              refine x_bipush (v := (-2)) rfl kb_m2 ?_
              refine x_inv (N := m_X11_refuse) (As := [.int (-2)]) (b := 31) (st := []) (dx9 := 3) (mc := 0) (ms := 0) (host := "") 11 rfl t_X11_refuse ⟨Or.inl q_11_206, i_X11_refuse.1, i_X11_refuse.2⟩ ⟨by decide, rfl⟩ (congrArg Prod.fst (J.1.1 31 (11, 13) rfl)) rfl (by decide) rfl rfl ⟨by decide, by decide⟩ (jC.of rfl k_X11_refuse rfl ?_)
              show jX m_X11_refuse 3 0 0 0 [(0, .ref 31), (1, .int (-2))] [] _ 0 0 _
              refine x_aloadn (x := 31) rfl rfl ?_
              refine x_iloadn (x := (-2)) rfl rfl ?_
              refine z_putI (N := 13) (w := (-2)) 11 12 rfl f_11_94 rfl (jfin_no TX11 RX11 13 rfl rfl) hD J Sm rfl rfl jk_m2 (pw_31_12 (by omega)) rfl (fun h w11 J Sm => ?_)
              refine x_iloadn (x := (-2)) rfl rfl ?_
              refine x_iret rfl rfl ?_
              show jX m_X11_split 4 0 0 61 [(0, .ref 31), (1, .int a1), (2, .int a2), (3, .int a3), (4, .int a4), (5, .int a5)] [.int (-2)] _ 0 0 _
              refine x_iret rfl rfl ?_
              exact hQ _ _ (jr_of jk_m2 (by omega)) J Sm
            ·
              refine x_iloadn (x := a1) rfl rfl ?_
              refine x_aloadn (x := 31) rfl rfl ?_
              refine z_getR (N := 13) (b := 32) 11 0 rfl f_11_10 rfl J rfl 3968 ⟨rfl, rfl⟩ rfl ?_
              refine z_getR (N := 20) (b := 49) 1 8 rfl f_11_408 rfl J rfl 4104 ⟨rfl, rfl⟩ rfl ?_
              refine z_getI (N := 4) 8 3 rfl f_11_142 rfl J rfl sg_49_3_4_1_0_1 (fun v12 qv12 ev12 => ?_)
              refine x_icge (tgt := 28) rfl rfl (ti_ge rfl rfl ⟨fun c13 => ?_, fun c13 => ?_⟩)
              ·
                refine x_iconst (v := 0) rfl ki_0 ?_
                refine x_zret rfl rfl (by decide) ?_
                show jX m_X11_split 4 0 0 52 [(0, .ref 31), (1, .int a1), (2, .int a2), (3, .int a3), (4, .int a4), (5, .int a5)] [.int 0] _ 0 0 _
                refine x_ifne (tgt := 62) rfl rfl (ti_ne jk_0 jk_0 (bn_f (by omega) ?_))
                refine x_aloadn (x := 31) rfl rfl ?_
                refine x_bipush (v := (-2)) rfl kb_m2 ?_
                refine x_inv (N := m_X11_refuse) (As := [.int (-2)]) (b := 31) (st := []) (dx9 := 3) (mc := 0) (ms := 0) (host := "") 11 rfl t_X11_refuse ⟨Or.inl q_11_206, i_X11_refuse.1, i_X11_refuse.2⟩ ⟨by decide, rfl⟩ (congrArg Prod.fst (J.1.1 31 (11, 13) rfl)) rfl (by decide) rfl rfl ⟨by decide, by decide⟩ (jC.of rfl k_X11_refuse rfl ?_)
                show jX m_X11_refuse 3 0 0 0 [(0, .ref 31), (1, .int (-2))] [] _ 0 0 _
                refine x_aloadn (x := 31) rfl rfl ?_
                refine x_iloadn (x := (-2)) rfl rfl ?_
                refine z_putI (N := 13) (w := (-2)) 11 12 rfl f_11_94 rfl (jfin_no TX11 RX11 13 rfl rfl) hD J Sm rfl rfl jk_m2 (pw_31_12 (by omega)) rfl (fun h w14 J Sm => ?_)
                refine x_iloadn (x := (-2)) rfl rfl ?_
                refine x_iret rfl rfl ?_
                show jX m_X11_split 4 0 0 61 [(0, .ref 31), (1, .int a1), (2, .int a2), (3, .int a3), (4, .int a4), (5, .int a5)] [.int (-2)] _ 0 0 _
                refine x_iret rfl rfl ?_
                exact hQ _ _ (jr_of jk_m2 (by omega)) J Sm
              ·
                refine x_iloadn (x := a1) rfl rfl ?_
                refine x_bipush (v := 40) rfl kb_40 ?_
                refine x_icge (tgt := 28) rfl rfl (ti_ge rfl jk_40 (br_f (by omega) ?_))
                refine x_iconst (v := 1) rfl ki_1 ?_
                refine x_goto (tgt := 29) rfl rfl ?_
                refine x_zret rfl rfl (by decide) ?_
                show jX m_X11_split 4 0 0 52 [(0, .ref 31), (1, .int a1), (2, .int a2), (3, .int a3), (4, .int a4), (5, .int a5)] [.int 1] _ 0 0 _
                refine x_ifne (tgt := 62) rfl rfl (ti_ne jk_1 jk_0 (bn_t (by omega) ?_))
                refine x_aloadn (x := 31) rfl rfl ?_
                refine z_getR (N := 13) (b := 32) 11 0 rfl f_11_10 rfl J rfl 3968 ⟨rfl, rfl⟩ rfl ?_
                refine z_getR (N := 20) (b := 49) 1 8 rfl f_11_408 rfl J rfl 4104 ⟨rfl, rfl⟩ rfl ?_
                refine x_inv (N := m_X8_isFull) (As := []) (b := 49) (st := []) (dx9 := 1) (mc := 0) (ms := 0) (host := "") 8 rfl t_X8_isFull ⟨Or.inl q_11_130, i_X8_isFull.1, i_X8_isFull.2⟩ ⟨by decide, rfl⟩ (congrArg Prod.fst (J.1.1 49 (8, 4) rfl)) rfl (by decide) rfl rfl ⟨by decide, by decide⟩ (sf_X8_isFull_r49  hD J  (fun v16 h ev16 J S15 => ?_))
                have Sm := jSm_tr rfl Sm S15
                show jX m_X11_split 4 0 0 72 [(0, .ref 31), (1, .int a1), (2, .int a2), (3, .int a3), (4, .int a4), (5, .int a5)] [.int v16] _ 0 0 _
                refine x_ifeq (tgt := 82) rfl rfl (ti_eq rfl jk_0 ⟨fun c17 => ?_, fun c17 => ?_⟩)
                ·
                  refine x_aloadn (x := 31) rfl rfl ?_
                  refine x_aloadn (x := 31) rfl rfl ?_
                  refine x_iloadn (x := a1) rfl rfl ?_
                  refine x_iloadn (x := a2) rfl rfl ?_
                  refine x_iloadn (x := a3) rfl rfl ?_
                  refine x_iload (x := a4) rfl rfl ?_
                  refine x_iload (x := a5) rfl rfl ?_
                  refine x_inv (N := m_X11_addHolding) (As := [.int a1, .int a2, .int a3, .int a4, .int a5]) (b := 31) (st := [.ref 31]) (dx9 := 3) (mc := 0) (ms := 0) (host := "") 11 rfl t_X11_addHolding ⟨Or.inl q_11_411, i_X11_addHolding.1, i_X11_addHolding.2⟩ ⟨by decide, rfl⟩ (congrArg Prod.fst (J.1.1 31 (11, 13) rfl)) rfl (by decide) rfl rfl ⟨by decide, by decide⟩ (jC.of rfl k_X11_addHolding rfl ?_)
                  show jX m_X11_addHolding 3 0 0 0 [(0, .ref 31), (1, .int a1), (2, .int a2), (3, .int a3), (4, .int a4), (5, .int a5)] [] _ 0 0 _
                  refine x_aloadn (x := 31) rfl rfl ?_
                  refine z_getR (N := 13) (b := 32) 11 0 rfl f_11_10 rfl J rfl 3968 ⟨rfl, rfl⟩ rfl ?_
                  refine z_getR (N := 20) (b := 49) 1 8 rfl f_11_408 rfl J rfl 4104 ⟨rfl, rfl⟩ rfl ?_
                  refine z_getM (N := 4) (v := v12) 8 3 rfl f_11_142 rfl J rfl (jmc S15 rfl qv12) ?_
                  refine x_istore (lsx9 := [(6, .int v12), (0, .ref 31), (1, .int a1), (2, .int a2), (3, .int a3), (4, .int a4), (5, .int a5)]) rfl rfl rfl ?_
                  refine x_aloadn (x := 31) rfl rfl ?_
                  refine z_getR (N := 13) (b := 32) 11 0 rfl f_11_10 rfl J rfl 3968 ⟨rfl, rfl⟩ rfl ?_
                  refine z_getR (N := 20) (b := 49) 1 8 rfl f_11_408 rfl J rfl 4104 ⟨rfl, rfl⟩ rfl ?_
                  refine x_iload (x := a5) rfl rfl ?_
                  refine x_iload (x := a4) rfl rfl ?_
                  refine x_iloadn (x := a1) rfl rfl ?_
                  refine x_iloadn (x := a2) rfl rfl ?_
                  refine x_iloadn (x := a3) rfl rfl ?_
                  refine x_iconst (v := 0) rfl ki_0 ?_
                  refine x_inv (N := m_X8_add) (As := [.int a5, .int a4, .int a1, .int a2, .int a3, .int 0]) (b := 49) (st := []) (dx9 := 2) (mc := 0) (ms := 0) (host := "") 8 rfl t_X8_add ⟨Or.inl q_11_145, i_X8_add.1, i_X8_add.2⟩ ⟨by decide, rfl⟩ (congrArg Prod.fst (J.1.1 49 (8, 4) rfl)) rfl (by decide) rfl rfl ⟨by decide, by decide⟩ (sf_X8_add_r49 (jr_of rfl (by omega)) (jr_of rfl (by omega)) (jr_of rfl (by omega)) (jr_of rfl (by omega)) (jr_of rfl (by omega)) (jr_of jk_0 (by omega)) hD J  (fun h J S18 => ?_))
                  have Sm := jSm_tr rfl Sm S18
                  show jX m_X11_addHolding 3 0 0 30 [(6, .int v12), (0, .ref 31), (1, .int a1), (2, .int a2), (3, .int a3), (4, .int a4), (5, .int a5)] [] _ 0 0 _
                  refine x_aloadn (x := 31) rfl rfl ?_
                  refine z_getR (N := 13) (b := 32) 11 0 rfl f_11_10 rfl J rfl 3968 ⟨rfl, rfl⟩ rfl ?_
                  refine z_getR (N := 20) (b := 63) 1 15 rfl f_11_159 rfl J rfl 4111 ⟨rfl, rfl⟩ rfl ?_
                  refine x_iconst (v := 3) rfl ki_3 ?_
                  refine x_iload (x := v12) rfl rfl ?_
                  refine x_iconst (v := 0) rfl ki_0 ?_
                  refine x_iconst (v := 0) rfl ki_0 ?_
                  refine x_iconst (v := 0) rfl ki_0 ?_
                  refine x_iconst (v := 0) rfl ki_0 ?_
                  refine x_inv (N := m_X8_add) (As := [.int 3, .int v12, .int 0, .int 0, .int 0, .int 0]) (b := 63) (st := []) (dx9 := 2) (mc := 0) (ms := 0) (host := "") 8 rfl t_X8_add ⟨Or.inl q_11_145, i_X8_add.1, i_X8_add.2⟩ ⟨by decide, rfl⟩ (congrArg Prod.fst (J.1.1 63 (8, 4) rfl)) rfl (by decide) rfl rfl ⟨by decide, by decide⟩ (sf_X8_add_r63 (jr_of jk_3 (by omega)) (jr_of rfl (by omega)) (jr_of jk_0 (by omega)) (jr_of jk_0 (by omega)) (jr_of jk_0 (by omega)) (jr_of jk_0 (by omega)) hD J  (fun h J S19 => ?_))
                  have Sm := jSm_tr rfl Sm S19
                  show jX m_X11_addHolding 3 0 0 47 [(6, .int v12), (0, .ref 31), (1, .int a1), (2, .int a2), (3, .int a3), (4, .int a4), (5, .int a5)] [] _ 0 0 _
                  refine x_iload (x := v12) rfl rfl ?_
                  refine x_iret rfl rfl ?_
                  show jX m_X11_split 4 0 0 94 [(0, .ref 31), (1, .int a1), (2, .int a2), (3, .int a3), (4, .int a4), (5, .int a5)] [.int v12, .ref 31] _ 0 0 _
                  refine x_inv (N := m_X11_accept) (As := [.int v12]) (b := 31) (st := []) (dx9 := 3) (mc := 0) (ms := 0) (host := "") 11 rfl t_X11_accept ⟨Or.inl q_11_165, i_X11_accept.1, i_X11_accept.2⟩ ⟨by decide, rfl⟩ (congrArg Prod.fst (J.1.1 31 (11, 13) rfl)) rfl (by decide) rfl rfl ⟨by decide, by decide⟩ (jC.of rfl k_X11_accept rfl ?_)
                  show jX m_X11_accept 3 0 0 0 [(0, .ref 31), (1, .int v12)] [] _ 0 0 _
                  refine x_aloadn (x := 31) rfl rfl ?_
                  refine x_iconst (v := 0) rfl ki_0 ?_
                  refine z_putI (N := 13) (w := 0) 11 12 rfl f_11_94 rfl (jfin_no TX11 RX11 13 rfl rfl) hD J Sm rfl rfl jk_0 (pw_31_12 (by omega)) rfl (fun h w20 J Sm => ?_)
                  refine x_aloadn (x := 31) rfl rfl ?_
                  refine z_getR (N := 13) (b := 32) 11 0 rfl f_11_10 rfl J rfl 3968 ⟨rfl, rfl⟩ rfl ?_
                  refine x_dup rfl rfl ?_
                  refine z_getI0 (N := 20) 1 19 rfl f_11_528 rfl J rfl (fun v21 qv21 => ?_)
                  have ev21 := jfull v21
                  refine x_iconst (v := 1) rfl ki_1 ?_
                  refine z_iadd0 rfl (fun v22 => ?_)
                  have ev22 := jfull v22
                  refine z_putI (N := 20) (w := v22.toInt) 1 19 rfl f_11_528 rfl (jfin_no TX1 RX1 20 rfl rfl) hD J Sm rfl rfl rfl (pw_32_19 trivial) rfl (fun h w23 J Sm => ?_)
                  refine x_iloadn (x := v12) rfl rfl ?_
                  refine x_iret rfl rfl ?_
                  show jX m_X11_split 4 0 0 97 [(0, .ref 31), (1, .int a1), (2, .int a2), (3, .int a3), (4, .int a4), (5, .int a5)] [.int v12] _ 0 0 _
                  refine x_iret rfl rfl ?_
                  exact hQ _ _ (jr_of rfl (by omega)) J Sm
                ·
                  refine x_aloadn (x := 31) rfl rfl ?_
                  refine x_bipush (v := (-5)) rfl kb_m5 ?_
                  refine x_inv (N := m_X11_refuse) (As := [.int (-5)]) (b := 31) (st := []) (dx9 := 3) (mc := 0) (ms := 0) (host := "") 11 rfl t_X11_refuse ⟨Or.inl q_11_206, i_X11_refuse.1, i_X11_refuse.2⟩ ⟨by decide, rfl⟩ (congrArg Prod.fst (J.1.1 31 (11, 13) rfl)) rfl (by decide) rfl rfl ⟨by decide, by decide⟩ (jC.of rfl k_X11_refuse rfl ?_)
                  show jX m_X11_refuse 3 0 0 0 [(0, .ref 31), (1, .int (-5))] [] _ 0 0 _
                  refine x_aloadn (x := 31) rfl rfl ?_
                  refine x_iloadn (x := (-5)) rfl rfl ?_
                  refine z_putI (N := 13) (w := (-5)) 11 12 rfl f_11_94 rfl (jfin_no TX11 RX11 13 rfl rfl) hD J Sm rfl rfl jk_m5 (pw_31_12 (by omega)) rfl (fun h w24 J Sm => ?_)
                  refine x_iloadn (x := (-5)) rfl rfl ?_
                  refine x_iret rfl rfl ?_
                  show jX m_X11_split 4 0 0 81 [(0, .ref 31), (1, .int a1), (2, .int a2), (3, .int a3), (4, .int a4), (5, .int a5)] [.int (-5)] _ 0 0 _
                  refine x_iret rfl rfl ?_
                  exact hQ _ _ (jr_of jk_m5 (by omega)) J Sm
          ·
            exact jX.sub (jsb_c rfl jsb_n) (ct_X11_split_r31_41 hD hQ  h J Sm)
def fp_X11_status_r31 : jFp := []
set_option maxRecDepth 100000 in
set_option maxHeartbeats 4000000 in
theorem sf_X11_status_r31 {Dy : jH → Prop} {h : jH} {Q : Option Value → jH → Prop} (hD : jDk Dy) (J : jJ jSgX Dy h) (hQ : ∀ (v : Int32) hx9, (-366) ≤ v.toInt ∧ v.toInt ≤ 0 → jJ jSgX Dy hx9 → jSm fp_X11_status_r31 h hx9 → Q (some (.int v)) hx9) : jC m_X11_status 1 0 0 [.ref 31] h Q := by
  refine jC.of rfl k_X11_status rfl ?_
  have Sm := jSm_rf fp_X11_status_r31 h
  show jX m_X11_status 1 0 0 0 [(0, .ref 31)] [] _ 0 0 _
  refine x_aloadn (x := 31) rfl rfl ?_
  refine z_getI (N := 13) 11 12 rfl f_11_94 rfl J rfl sg_31_12_13_1_0_1 (fun v1 qv1 ev1 => ?_)
  refine x_iret rfl rfl ?_
  exact hQ _ _ (jr_of rfl (by omega)) J Sm
def fp_X11_terms_r31 : jFp := [(31, 12, 13), (32, 19, 20), (78, 2, 3), (78, 3, 4), (78, 4, 5), (78, 5, 6), (78, 6, 7)]
set_option maxRecDepth 100000 in
set_option maxHeartbeats 4000000 in
theorem ct_X11_terms_r31_52 {Dy : jH → Prop} {h0 : jH} {Q : Option Value → jH → Prop} (hD : jDk Dy) (hQ : ∀ (v : Int32) hx9, (-1) ≤ v.toInt ∧ v.toInt ≤ 0 → jJ jSgX Dy hx9 → jSm fp_X11_terms_r31 h0 hx9 → Q (some (.int v)) hx9) : ∀ (h : jH), jJ jSgX Dy h → jSm fp_X11_terms_r31 h0 h → jX m_X11_terms 2 0 0 52 [(0, .ref 31)] [] h 0 0 Q := by
  intro  h    J Sm
  refine x_aloadn (x := 31) rfl rfl ?_
  refine x_iconst (v := (-1)) rfl ki_m1 ?_
  refine x_inv (N := m_X11_refuse) (As := [.int (-1)]) (b := 31) (st := []) (dx9 := 1) (mc := 0) (ms := 0) (host := "") 11 rfl t_X11_refuse ⟨Or.inl q_11_206, i_X11_refuse.1, i_X11_refuse.2⟩ ⟨by decide, rfl⟩ (congrArg Prod.fst (J.1.1 31 (11, 13) rfl)) rfl (by decide) rfl rfl ⟨by decide, by decide⟩ (jC.of rfl k_X11_refuse rfl ?_)
  show jX m_X11_refuse 1 0 0 0 [(0, .ref 31), (1, .int (-1))] [] _ 0 0 _
  refine x_aloadn (x := 31) rfl rfl ?_
  refine x_iloadn (x := (-1)) rfl rfl ?_
  refine z_putI (N := 13) (w := (-1)) 11 12 rfl f_11_94 rfl (jfin_no TX11 RX11 13 rfl rfl) hD J Sm rfl rfl jk_m1 (pw_31_12 (by omega)) rfl (fun h w1 J Sm => ?_)
  refine x_iloadn (x := (-1)) rfl rfl ?_
  refine x_iret rfl rfl ?_
  show jX m_X11_terms 2 0 0 57 [(0, .ref 31)] [.int (-1)] _ 0 0 _
  refine x_iret rfl rfl ?_
  exact hQ _ _ (jr_of jk_m1 (by omega)) J Sm
set_option maxRecDepth 100000 in
set_option maxHeartbeats 4000000 in
theorem sf_X11_terms_r31 {Dy : jH → Prop} {h : jH} {Q : Option Value → jH → Prop} {a1 : Int32} {a2 : Int32} {a3 : Int32} {a4 : Int32} {a5 : Int32} (hD : jDk Dy) (J : jJ jSgX Dy h) (hQ : ∀ (v : Int32) hx9, (-1) ≤ v.toInt ∧ v.toInt ≤ 0 → jJ jSgX Dy hx9 → jSm fp_X11_terms_r31 h hx9 → Q (some (.int v)) hx9) : jC m_X11_terms 2 0 0 [.ref 31, .int a1, .int a2, .int a3, .int a4, .int a5] h Q := by
  refine jC.of rfl k_X11_terms rfl ?_
  have Sm := jSm_rf fp_X11_terms_r31 h
  have ea1 := jfull a1
  have ea2 := jfull a2
  have ea3 := jfull a3
  have ea4 := jfull a4
  have ea5 := jfull a5
  show jX m_X11_terms 2 0 0 0 [(0, .ref 31), (1, .int a1), (2, .int a2), (3, .int a3), (4, .int a4), (5, .int a5)] [] _ 0 0 _
  refine x_iloadn (x := a1) rfl rfl ?_
  refine x_iconst (v := 0) rfl ki_0 ?_
  refine x_bipush (v := 100) rfl kb_100 ?_
  refine x_inst (N := m_X11_isWithin) (As := [.int a1, .int 0, .int 100]) (st := []) (dx9 := 1) (mc := 0) (ms := 0) (host := "") rfl t_X11_isWithin ⟨Or.inl q_11_202, s_X11_isWithin⟩ rfl (by decide) rfl rfl ⟨by decide, by decide⟩ (zc_X11_isWithin rfl jk_0 jk_100 (fun v1 ev1 => ?_))
  show jX m_X11_terms 2 0 0 7 [(0, .ref 31), (1, .int a1), (2, .int a2), (3, .int a3), (4, .int a4), (5, .int a5)] [.int v1] _ 0 0 _
  refine x_ifeq (tgt := 52) rfl rfl (ti_eq rfl jk_0 ⟨fun c2 => ?_, fun c2 => ?_⟩)
  ·
    exact jX.sub (jsb_c rfl jsb_n) (ct_X11_terms_r31_52 hD hQ  h J Sm)
  ·
    refine x_iloadn (x := a2) rfl rfl ?_
    refine x_iconst (v := 0) rfl ki_0 ?_
    refine x_bipush (v := 100) rfl kb_100 ?_
    refine x_inst (N := m_X11_isWithin) (As := [.int a2, .int 0, .int 100]) (st := []) (dx9 := 1) (mc := 0) (ms := 0) (host := "") rfl t_X11_isWithin ⟨Or.inl q_11_202, s_X11_isWithin⟩ rfl (by decide) rfl rfl ⟨by decide, by decide⟩ (zc_X11_isWithin rfl jk_0 jk_100 (fun v3 ev3 => ?_))
    show jX m_X11_terms 2 0 0 17 [(0, .ref 31), (1, .int a1), (2, .int a2), (3, .int a3), (4, .int a4), (5, .int a5)] [.int v3] _ 0 0 _
    refine x_ifeq (tgt := 52) rfl rfl (ti_eq rfl jk_0 ⟨fun c4 => ?_, fun c4 => ?_⟩)
    ·
      exact jX.sub (jsb_c rfl jsb_n) (ct_X11_terms_r31_52 hD hQ  h J Sm)
    ·
      refine x_iloadn (x := a3) rfl rfl ?_
      refine x_iconst (v := 0) rfl ki_0 ?_
      refine x_bipush (v := 100) rfl kb_100 ?_
      refine x_inst (N := m_X11_isWithin) (As := [.int a3, .int 0, .int 100]) (st := []) (dx9 := 1) (mc := 0) (ms := 0) (host := "") rfl t_X11_isWithin ⟨Or.inl q_11_202, s_X11_isWithin⟩ rfl (by decide) rfl rfl ⟨by decide, by decide⟩ (zc_X11_isWithin rfl jk_0 jk_100 (fun v5 ev5 => ?_))
      show jX m_X11_terms 2 0 0 27 [(0, .ref 31), (1, .int a1), (2, .int a2), (3, .int a3), (4, .int a4), (5, .int a5)] [.int v5] _ 0 0 _
      refine x_ifeq (tgt := 52) rfl rfl (ti_eq rfl jk_0 ⟨fun c6 => ?_, fun c6 => ?_⟩)
      ·
        exact jX.sub (jsb_c rfl jsb_n) (ct_X11_terms_r31_52 hD hQ  h J Sm)
      ·
        refine x_iload (x := a4) rfl rfl ?_
        refine x_iconst (v := 0) rfl ki_0 ?_
        refine x_bipush (v := 100) rfl kb_100 ?_
        refine x_inst (N := m_X11_isWithin) (As := [.int a4, .int 0, .int 100]) (st := []) (dx9 := 1) (mc := 0) (ms := 0) (host := "") rfl t_X11_isWithin ⟨Or.inl q_11_202, s_X11_isWithin⟩ rfl (by decide) rfl rfl ⟨by decide, by decide⟩ (zc_X11_isWithin rfl jk_0 jk_100 (fun v7 ev7 => ?_))
        show jX m_X11_terms 2 0 0 38 [(0, .ref 31), (1, .int a1), (2, .int a2), (3, .int a3), (4, .int a4), (5, .int a5)] [.int v7] _ 0 0 _
        refine x_ifeq (tgt := 52) rfl rfl (ti_eq rfl jk_0 ⟨fun c8 => ?_, fun c8 => ?_⟩)
        ·
          exact jX.sub (jsb_c rfl jsb_n) (ct_X11_terms_r31_52 hD hQ  h J Sm)
        ·
          refine x_iload (x := a5) rfl rfl ?_
          refine x_iconst (v := 0) rfl ki_0 ?_
          refine x_bipush (v := 20) rfl kb_20 ?_
          refine x_inst (N := m_X11_isWithin) (As := [.int a5, .int 0, .int 20]) (st := []) (dx9 := 1) (mc := 0) (ms := 0) (host := "") rfl t_X11_isWithin ⟨Or.inl q_11_202, s_X11_isWithin⟩ rfl (by decide) rfl rfl ⟨by decide, by decide⟩ (zc_X11_isWithin rfl jk_0 jk_20 (fun v9 ev9 => ?_))
          show jX m_X11_terms 2 0 0 49 [(0, .ref 31), (1, .int a1), (2, .int a2), (3, .int a3), (4, .int a4), (5, .int a5)] [.int v9] _ 0 0 _
          refine x_ifne (tgt := 58) rfl rfl (ti_ne rfl jk_0 ⟨fun c10 => ?_, fun c10 => ?_⟩)
          ·
            refine x_aloadn (x := 31) rfl rfl ?_
            refine z_getR (N := 13) (b := 78) 11 4 rfl f_11_41 rfl J rfl 3972 ⟨rfl, rfl⟩ rfl ?_
            refine x_iloadn (x := a1) rfl rfl ?_
            refine z_putI (N := 16) (w := a1.toInt) 7 2 rfl f_11_209 rfl (jfin_no TX7 RX7 16 rfl rfl) hD J Sm rfl rfl rfl (pw_78_2 (by omega)) rfl (fun h w11 J Sm => ?_)
            refine x_aloadn (x := 31) rfl rfl ?_
            refine z_getR (N := 13) (b := 78) 11 4 rfl f_11_41 rfl J rfl 3972 ⟨rfl, rfl⟩ rfl ?_
            refine x_iloadn (x := a2) rfl rfl ?_
            refine z_putI (N := 16) (w := a2.toInt) 7 3 rfl f_11_212 rfl (jfin_no TX7 RX7 16 rfl rfl) hD J Sm rfl rfl rfl (pw_78_3 (by omega)) rfl (fun h w12 J Sm => ?_)
            refine x_aloadn (x := 31) rfl rfl ?_
            refine z_getR (N := 13) (b := 78) 11 4 rfl f_11_41 rfl J rfl 3972 ⟨rfl, rfl⟩ rfl ?_
            refine x_iloadn (x := a3) rfl rfl ?_
            refine z_putI (N := 16) (w := a3.toInt) 7 4 rfl f_11_215 rfl (jfin_no TX7 RX7 16 rfl rfl) hD J Sm rfl rfl rfl (pw_78_4 (by omega)) rfl (fun h w13 J Sm => ?_)
            refine x_aloadn (x := 31) rfl rfl ?_
            refine z_getR (N := 13) (b := 78) 11 4 rfl f_11_41 rfl J rfl 3972 ⟨rfl, rfl⟩ rfl ?_
            refine x_iload (x := a4) rfl rfl ?_
            refine z_putI (N := 16) (w := a4.toInt) 7 5 rfl f_11_218 rfl (jfin_no TX7 RX7 16 rfl rfl) hD J Sm rfl rfl rfl (pw_78_5 (by omega)) rfl (fun h w14 J Sm => ?_)
            refine x_aloadn (x := 31) rfl rfl ?_
            refine z_getR (N := 13) (b := 78) 11 4 rfl f_11_41 rfl J rfl 3972 ⟨rfl, rfl⟩ rfl ?_
            refine x_iload (x := a5) rfl rfl ?_
            refine z_putI (N := 16) (w := a5.toInt) 7 6 rfl f_11_221 rfl (jfin_no TX7 RX7 16 rfl rfl) hD J Sm rfl rfl rfl (pw_78_6 (by omega)) rfl (fun h w15 J Sm => ?_)
            refine x_aloadn (x := 31) rfl rfl ?_
            refine x_iconst (v := 0) rfl ki_0 ?_
            refine x_inv (N := m_X11_accept) (As := [.int 0]) (b := 31) (st := []) (dx9 := 1) (mc := 0) (ms := 0) (host := "") 11 rfl t_X11_accept ⟨Or.inl q_11_165, i_X11_accept.1, i_X11_accept.2⟩ ⟨by decide, rfl⟩ (congrArg Prod.fst (J.1.1 31 (11, 13) rfl)) rfl (by decide) rfl rfl ⟨by decide, by decide⟩ (jC.of rfl k_X11_accept rfl ?_)
            show jX m_X11_accept 1 0 0 0 [(0, .ref 31), (1, .int 0)] [] _ 0 0 _
            refine x_aloadn (x := 31) rfl rfl ?_
            refine x_iconst (v := 0) rfl ki_0 ?_
            refine z_putI (N := 13) (w := 0) 11 12 rfl f_11_94 rfl (jfin_no TX11 RX11 13 rfl rfl) hD J Sm rfl rfl jk_0 (pw_31_12 (by omega)) rfl (fun h w16 J Sm => ?_)
            refine x_aloadn (x := 31) rfl rfl ?_
            refine z_getR (N := 13) (b := 32) 11 0 rfl f_11_10 rfl J rfl 3968 ⟨rfl, rfl⟩ rfl ?_
            refine x_dup rfl rfl ?_
            refine z_getI0 (N := 20) 1 19 rfl f_11_528 rfl J rfl (fun v17 qv17 => ?_)
            have ev17 := jfull v17
            refine x_iconst (v := 1) rfl ki_1 ?_
            refine z_iadd0 rfl (fun v18 => ?_)
            have ev18 := jfull v18
            refine z_putI (N := 20) (w := v18.toInt) 1 19 rfl f_11_528 rfl (jfin_no TX1 RX1 20 rfl rfl) hD J Sm rfl rfl rfl (pw_32_19 trivial) rfl (fun h w19 J Sm => ?_)
            refine x_iloadn (x := 0) rfl rfl ?_
            refine x_iret rfl rfl ?_
            show jX m_X11_terms 2 0 0 105 [(0, .ref 31), (1, .int a1), (2, .int a2), (3, .int a3), (4, .int a4), (5, .int a5)] [.int 0] _ 0 0 _
            refine x_iret rfl rfl ?_
            exact hQ _ _ (jr_of jk_0 (by omega)) J Sm
          ·
            exact jX.sub (jsb_c rfl jsb_n) (ct_X11_terms_r31_52 hD hQ  h J Sm)
def fp_X2_emit_r95 : jFp := [(95, 4, 5), (97, 0, 1200)]
set_option maxRecDepth 100000 in
set_option maxHeartbeats 4000000 in
theorem ct_X2_emit_r95_32 {Dy : jH → Prop} {h0 : jH} {Q : Option Value → jH → Prop} (hD : jDk Dy) (hQ : ∀ hx9, jJ jSgX Dy hx9 → jSm fp_X2_emit_r95 h0 hx9 → Q none hx9) : ∀ (h : jH), jJ jSgX Dy h → jSm fp_X2_emit_r95 h0 h → jX m_X2_emit 1 0 0 32 [] [] h 0 0 Q := by
  intro  h    J Sm
  refine x_vret rfl rfl ?_
  exact hQ _ J Sm
set_option maxRecDepth 100000 in
set_option maxHeartbeats 4000000 in
theorem sf_X2_emit_r95 {Dy : jH → Prop} {h : jH} {Q : Option Value → jH → Prop} {a1 : Int32} (hD : jDk Dy) (J : jJ jSgX Dy h) (hQ : ∀ hx9, jJ jSgX Dy hx9 → jSm fp_X2_emit_r95 h hx9 → Q none hx9) : jC m_X2_emit 1 0 0 [.ref 95, .int a1] h Q := by
  refine jC.of rfl k_X2_emit rfl ?_
  have Sm := jSm_rf fp_X2_emit_r95 h
  have ea1 := jfull a1
  show jX m_X2_emit 1 0 0 0 [(0, .ref 95), (1, .int a1)] [] _ 0 0 _
  refine x_aloadn (x := 95) rfl rfl ?_
  refine z_getI (N := 6) 2 4 rfl f_2_24 rfl J rfl sg_95_4_5_1_0_1 (fun v1 qv1 ev1 => ?_)
  refine x_aloadn (x := 95) rfl rfl ?_
  refine z_getR (N := 6) (b := 97) 2 2 rfl f_2_17 rfl J rfl 12162 ⟨rfl, rfl⟩ rfl ?_
  refine z_alen (N := 1200) (v := 1200) rfl J rfl rfl (by decide) ?_
  refine x_icge (tgt := 32) rfl rfl (ti_ge rfl jk_1200 ⟨fun c2 => ?_, fun c2 => ?_⟩)
  ·
    exact jX.sub jsb_n (ct_X2_emit_r95_32 hD hQ  h J Sm)
  ·
    refine x_aloadn (x := 95) rfl rfl ?_
    refine z_getR (N := 6) (b := 97) 2 2 rfl f_2_17 rfl J rfl 12162 ⟨rfl, rfl⟩ rfl ?_
    refine x_aloadn (x := 95) rfl rfl ?_
    refine z_getM (N := 6) (v := v1) 2 4 rfl f_2_24 rfl J rfl qv1 ?_
    refine x_iloadn (x := a1) rfl rfl ?_
    refine z_iast (N := 1200) (l := 0) (u := 1200) (w := a1.toInt) rfl hD J Sm rfl rfl rfl (by omega) rfl (wr_97) rfl (fun h w3 J Sm => ?_)
    refine x_aloadn (x := 95) rfl rfl ?_
    refine x_dup rfl rfl ?_
    refine z_getM (N := 6) (v := v1) 2 4 rfl f_2_24 rfl J rfl (jmo w3 rfl qv1) ?_
    refine x_iconst (v := 1) rfl ki_1 ?_
    refine z_iadd rfl rfl jk_1 (by omega) (fun v4 ev4 => ?_)
    refine z_putI (N := 6) (w := v4.toInt) 2 4 rfl f_2_24 rfl (jfin_no TX2 RX2 6 rfl rfl) hD J Sm rfl rfl rfl (pw_95_4 (by omega)) rfl (fun h w5 J Sm => ?_)
    exact jX.sub jsb_n (ct_X2_emit_r95_32 hD hQ  h J Sm)
def fp_X2_note_r95 : jFp := [(96, 0, 72)]
set_option maxRecDepth 100000 in
set_option maxHeartbeats 4000000 in
theorem ct_X2_note_r95_32 {Dy : jH → Prop} {h0 : jH} {Q : Option Value → jH → Prop} (hD : jDk Dy) (hQ : ∀ hx9, jJ jSgX Dy hx9 → jSm fp_X2_note_r95 h0 hx9 → Q none hx9) : ∀ (h : jH), jJ jSgX Dy h → jSm fp_X2_note_r95 h0 h → jX m_X2_note 1 0 0 32 [] [] h 0 0 Q := by
  intro  h    J Sm
  refine x_vret rfl rfl ?_
  exact hQ _ J Sm
set_option maxRecDepth 100000 in
set_option maxHeartbeats 4000000 in
theorem sf_X2_note_r95 {Dy : jH → Prop} {h : jH} {Q : Option Value → jH → Prop} {a1 : Int32} {a2 : Int32} (y1 : 0 ≤ a1.toInt ∧ a1.toInt ≤ 5) (hD : jDk Dy) (J : jJ jSgX Dy h) (hQ : ∀ hx9, jJ jSgX Dy hx9 → jSm fp_X2_note_r95 h hx9 → Q none hx9) : jC m_X2_note 1 0 0 [.ref 95, .int a1, .int a2] h Q := by
  refine jC.of rfl k_X2_note rfl ?_
  have Sm := jSm_rf fp_X2_note_r95 h
  have ea2 := jfull a2
  show jX m_X2_note 1 0 0 0 [(0, .ref 95), (1, .int a1), (2, .int a2)] [] _ 0 0 _
  refine x_aloadn (x := 95) rfl rfl ?_
  refine z_getI (N := 6) 2 3 rfl f_2_20 rfl J rfl sg_95_3_4_1_0_1 (fun v1 qv1 ev1 => ?_)
  refine x_iconst (v := 1) rfl ki_1 ?_
  refine z_isub rfl rfl jk_1 (by omega) (fun v2 ev2 => ?_)
  refine x_bipush (v := 6) rfl kb_6 ?_
  refine z_imul rfl rfl jk_6 (by omega) (fun v3 ev3 => ?_)
  refine x_iloadn (x := a1) rfl rfl ?_
  refine z_iadd rfl rfl rfl (by omega) (fun v4 ev4 => ?_)
  refine x_istoren (lsx9 := [(3, .int v4), (0, .ref 95), (1, .int a1), (2, .int a2)]) rfl rfl rfl ?_
  refine x_iloadn (x := v4) rfl rfl ?_
  refine x_iflt (tgt := 32) rfl rfl (ti_lt rfl jk_0 ⟨fun c5 => ?_, fun c5 => ?_⟩)
  ·
    exact jX.sub jsb_n (ct_X2_note_r95_32 hD hQ  h J Sm)
  ·
    refine x_iloadn (x := v4) rfl rfl ?_
    refine x_aloadn (x := 95) rfl rfl ?_
    refine z_getR (N := 6) (b := 96) 2 1 rfl f_2_11 rfl J rfl 12161 ⟨rfl, rfl⟩ rfl ?_
    refine z_alen (N := 72) (v := 72) rfl J rfl rfl (by decide) ?_
    refine x_icge (tgt := 32) rfl rfl (ti_ge rfl jk_72 (br_f (by omega) ?_))
    refine x_aloadn (x := 95) rfl rfl ?_
    refine z_getR (N := 6) (b := 96) 2 1 rfl f_2_11 rfl J rfl 12161 ⟨rfl, rfl⟩ rfl ?_
    refine x_iloadn (x := v4) rfl rfl ?_
    refine x_iloadn (x := a2) rfl rfl ?_
    refine z_iast (N := 72) (l := 0) (u := 72) (w := a2.toInt) rfl hD J Sm rfl rfl rfl (by omega) rfl (wr_96) rfl (fun h w6 J Sm => ?_)
    exact jX.sub jsb_n (ct_X2_note_r95_32 hD hQ  h J Sm)
def fp_X2_openHead_r95 : jFp := [(96, 0, 72)]
set_option maxRecDepth 100000 in
set_option maxHeartbeats 4000000 in
theorem sf_X2_openHead_r95 {Dy : jH → Prop} {h : jH} {Q : Option Value → jH → Prop} {a1 : Int32} (hD : jDk Dy) (J : jJ jSgX Dy h) (hQ : ∀ hx9, jJ jSgX Dy hx9 → jSm fp_X2_openHead_r95 h hx9 → Q none hx9) : jC m_X2_openHead 2 0 0 [.ref 95, .int a1] h Q := by
  refine jC.of rfl k_X2_openHead rfl ?_
  have Sm := jSm_rf fp_X2_openHead_r95 h
  have ea1 := jfull a1
  show jX m_X2_openHead 2 0 0 0 [(0, .ref 95), (1, .int a1)] [] _ 0 0 _
  refine x_aloadn (x := 95) rfl rfl ?_
  refine x_iconst (v := 0) rfl ki_0 ?_
  refine x_iloadn (x := a1) rfl rfl ?_
  refine x_inv (N := m_X2_note) (As := [.int 0, .int a1]) (b := 95) (st := []) (dx9 := 1) (mc := 0) (ms := 0) (host := "") 2 rfl t_X2_note ⟨Or.inl q_2_82, i_X2_note.1, i_X2_note.2⟩ ⟨by decide, rfl⟩ (congrArg Prod.fst (J.1.1 95 (2, 6) rfl)) rfl (by decide) rfl rfl ⟨by decide, by decide⟩ (sf_X2_note_r95 (jr_of jk_0 (by omega)) hD J  (fun h J S1 => ?_))
  have Sm := jSm_tr rfl Sm S1
  show jX m_X2_openHead 2 0 0 6 [(0, .ref 95), (1, .int a1)] [] _ 0 0 _
  refine x_aloadn (x := 95) rfl rfl ?_
  refine x_iconst (v := 1) rfl ki_1 ?_
  refine x_iconst (v := 0) rfl ki_0 ?_
  refine x_inv (N := m_X2_note) (As := [.int 1, .int 0]) (b := 95) (st := []) (dx9 := 1) (mc := 0) (ms := 0) (host := "") 2 rfl t_X2_note ⟨Or.inl q_2_82, i_X2_note.1, i_X2_note.2⟩ ⟨by decide, rfl⟩ (congrArg Prod.fst (J.1.1 95 (2, 6) rfl)) rfl (by decide) rfl rfl ⟨by decide, by decide⟩ (sf_X2_note_r95 (jr_of jk_1 (by omega)) hD J  (fun h J S2 => ?_))
  have Sm := jSm_tr rfl Sm S2
  show jX m_X2_openHead 2 0 0 12 [(0, .ref 95), (1, .int a1)] [] _ 0 0 _
  refine x_aloadn (x := 95) rfl rfl ?_
  refine x_iconst (v := 2) rfl ki_2 ?_
  refine x_iconst (v := 0) rfl ki_0 ?_
  refine x_inv (N := m_X2_note) (As := [.int 2, .int 0]) (b := 95) (st := []) (dx9 := 1) (mc := 0) (ms := 0) (host := "") 2 rfl t_X2_note ⟨Or.inl q_2_82, i_X2_note.1, i_X2_note.2⟩ ⟨by decide, rfl⟩ (congrArg Prod.fst (J.1.1 95 (2, 6) rfl)) rfl (by decide) rfl rfl ⟨by decide, by decide⟩ (sf_X2_note_r95 (jr_of jk_2 (by omega)) hD J  (fun h J S3 => ?_))
  have Sm := jSm_tr rfl Sm S3
  show jX m_X2_openHead 2 0 0 18 [(0, .ref 95), (1, .int a1)] [] _ 0 0 _
  refine x_aloadn (x := 95) rfl rfl ?_
  refine x_iconst (v := 3) rfl ki_3 ?_
  refine x_iconst (v := (-1)) rfl ki_m1 ?_
  refine x_inv (N := m_X2_note) (As := [.int 3, .int (-1)]) (b := 95) (st := []) (dx9 := 1) (mc := 0) (ms := 0) (host := "") 2 rfl t_X2_note ⟨Or.inl q_2_82, i_X2_note.1, i_X2_note.2⟩ ⟨by decide, rfl⟩ (congrArg Prod.fst (J.1.1 95 (2, 6) rfl)) rfl (by decide) rfl rfl ⟨by decide, by decide⟩ (sf_X2_note_r95 (jr_of jk_3 (by omega)) hD J  (fun h J S4 => ?_))
  have Sm := jSm_tr rfl Sm S4
  show jX m_X2_openHead 2 0 0 24 [(0, .ref 95), (1, .int a1)] [] _ 0 0 _
  refine x_aloadn (x := 95) rfl rfl ?_
  refine x_iconst (v := 4) rfl ki_4 ?_
  refine x_iconst (v := (-1)) rfl ki_m1 ?_
  refine x_inv (N := m_X2_note) (As := [.int 4, .int (-1)]) (b := 95) (st := []) (dx9 := 1) (mc := 0) (ms := 0) (host := "") 2 rfl t_X2_note ⟨Or.inl q_2_82, i_X2_note.1, i_X2_note.2⟩ ⟨by decide, rfl⟩ (congrArg Prod.fst (J.1.1 95 (2, 6) rfl)) rfl (by decide) rfl rfl ⟨by decide, by decide⟩ (sf_X2_note_r95 (jr_of jk_4 (by omega)) hD J  (fun h J S5 => ?_))
  have Sm := jSm_tr rfl Sm S5
  show jX m_X2_openHead 2 0 0 30 [(0, .ref 95), (1, .int a1)] [] _ 0 0 _
  refine x_aloadn (x := 95) rfl rfl ?_
  refine x_iconst (v := 5) rfl ki_5 ?_
  refine x_iconst (v := (-1)) rfl ki_m1 ?_
  refine x_inv (N := m_X2_note) (As := [.int 5, .int (-1)]) (b := 95) (st := []) (dx9 := 1) (mc := 0) (ms := 0) (host := "") 2 rfl t_X2_note ⟨Or.inl q_2_82, i_X2_note.1, i_X2_note.2⟩ ⟨by decide, rfl⟩ (congrArg Prod.fst (J.1.1 95 (2, 6) rfl)) rfl (by decide) rfl rfl ⟨by decide, by decide⟩ (sf_X2_note_r95 (jr_of jk_5 (by omega)) hD J  (fun h J S6 => ?_))
  have Sm := jSm_tr rfl Sm S6
  show jX m_X2_openHead 2 0 0 36 [(0, .ref 95), (1, .int a1)] [] _ 0 0 _
  refine x_vret rfl rfl ?_
  exact hQ _ J Sm
def fp_X9_numberTo_r68 : jFp := []
set_option maxRecDepth 100000 in
set_option maxHeartbeats 4000000 in
theorem ct_X9_numberTo_r68_61 {Dy : jH → Prop} {h0 : jH} {Q : Option Value → jH → Prop} (hD : jDk Dy) (hQ : ∀ (v : Int32) hx9, (-2147483648) ≤ v.toInt ∧ v.toInt ≤ 100000 → jJ jSgX Dy hx9 → jSm fp_X9_numberTo_r68 h0 hx9 → Q (some (.int v)) hx9) : ∀ (s0 : Int32) (h : jH), (-2147483648) ≤ s0.toInt ∧ s0.toInt ≤ 100000 → jJ jSgX Dy h → jSm fp_X9_numberTo_r68 h0 h → jX m_X9_numberTo 1 0 0 61 [] [.int s0] h 0 0 Q := by
  intro s0 h y0   J Sm
  refine x_iret rfl rfl ?_
  exact hQ _ _ (jr_of rfl (by omega)) J Sm
set_option maxRecDepth 100000 in
set_option maxHeartbeats 4000000 in
theorem ct_X9_numberTo_r68_100061 {Dy : jH → Prop} {h0 : jH} {Q : Option Value → jH → Prop} (hD : jDk Dy) (hQ : ∀ (v : Int32) hx9, (-2147483648) ≤ v.toInt ∧ v.toInt ≤ 100000 → jJ jSgX Dy hx9 → jSm fp_X9_numberTo_r68 h0 hx9 → Q (some (.int v)) hx9) : ∀ (h : jH), jJ jSgX Dy h → jSm fp_X9_numberTo_r68 h0 h → jX m_X9_numberTo 1 0 0 61 [] [.int (-1)] h 0 0 Q := by
  intro  h    J Sm
  refine x_iret rfl rfl ?_
  exact hQ _ _ (jr_of jk_m1 (by omega)) J Sm
set_option maxRecDepth 100000 in
set_option maxHeartbeats 4000000 in
theorem ct_X9_numberTo_r68_17 {Dy : jH → Prop} {h0 : jH} {Q : Option Value → jH → Prop} (hD : jDk Dy) (hQ : ∀ (v : Int32) hx9, (-2147483648) ≤ v.toInt ∧ v.toInt ≤ 100000 → jJ jSgX Dy hx9 → jSm fp_X9_numberTo_r68 h0 hx9 → Q (some (.int v)) hx9) : ∀ r : Nat, ∀ (l1 : Int32) (l2 : Int32) (l3 : Int32) (h : jH), 400 - l3.toInt < (r : Int) → 11 ≤ l1.toInt ∧ l1.toInt ≤ 100000 → (-2147483648) ≤ l2.toInt ∧ l2.toInt ≤ 1000000 → 0 ≤ l3.toInt ∧ l3.toInt ≤ 400 → jJ jSgX Dy h → jSm fp_X9_numberTo_r68 h0 h → jX m_X9_numberTo 1 0 0 17 [(0, .ref 68), (1, .int l1), (2, .int l2), (3, .int l3)] [] h 0 0 Q := by
  intro r
  induction r with
  | zero =>
    intro l1 l2 l3 h hm y0 y1 y2   J Sm
    exfalso
    omega
  | succ r ih =>
    intro l1 l2 l3 h hm y0 y1 y2   J Sm
    refine x_iloadn (x := l3) rfl rfl ?_
    refine x_aloadn (x := 68) rfl rfl ?_
    refine z_getI (N := 6) 9 4 rfl f_9_25 rfl J rfl sg_68_4_5_1_0_1 (fun v1 qv1 ev1 => ?_)
    refine x_icge (tgt := 51) rfl rfl (ti_ge rfl rfl ⟨fun c2 => ?_, fun c2 => ?_⟩)
    ·
      refine x_iloadn (x := l2) rfl rfl ?_
      refine x_iloadn (x := l1) rfl rfl ?_
      refine x_icgt (tgt := 60) rfl rfl (ti_gt rfl rfl ⟨fun c3 => ?_, fun c3 => ?_⟩)
      ·
        refine x_iconst (v := (-1)) rfl ki_m1 ?_
        exact jX.sub jsb_n (ct_X9_numberTo_r68_100061 hD hQ  h J Sm)
      ·
        refine x_iloadn (x := l2) rfl rfl ?_
        refine x_goto (tgt := 61) rfl rfl ?_
        exact jX.sub jsb_n (ct_X9_numberTo_r68_61 hD hQ  l2 h (jr_of rfl (by omega)) J Sm)
    ·
      refine x_ldc (v := 1000000) rfl z_9_47 ?_
      refine x_iloadn (x := l2) rfl rfl ?_
      refine x_bipush (v := 10) rfl kb_10 ?_
      refine z_imul0 rfl (fun v4 => ?_)
      have ev4 := jfull v4
      refine x_aloadn (x := 68) rfl rfl ?_
      refine z_getR (N := 6) (b := 69) 9 0 rfl f_9_11 rfl J rfl 8704 ⟨rfl, rfl⟩ rfl ?_
      refine x_iloadn (x := l3) rfl rfl ?_
      refine z_iald (N := 400) rfl J rfl sg_69_0_400_1_0_1 rfl (by omega) (fun v5 qv5 ev5 => ?_)
      refine z_iadd0 rfl (fun v6 => ?_)
      have ev6 := jfull v6
      refine x_bipush (v := 48) rfl kb_48 ?_
      refine z_isub0 rfl (fun v7 => ?_)
      have ev7 := jfull v7
      refine z_mmin rfl q_9_48 (by decide) rfl jk_1000000 rfl (fun v8 ev8 => ?_)
      refine x_istoren (lsx9 := [(2, .int v8), (0, .ref 68), (1, .int l1), (3, .int l3)]) rfl rfl rfl ?_
      refine z_iinc (x := l3) (lsx9 := fun v9 => [(3, .int v9), (2, .int v8), (0, .ref 68), (1, .int l1)]) rfl rfl rfl jko_1 (by omega) rfl (fun _ => rfl) (fun v9 ev9 => ?_)
      refine x_goto (tgt := 17) rfl rfl ?_
      exact jX.sub (jsb_c rfl (jsb_c rfl (jsb_c rfl (jsb_c rfl jsb_n)))) (ih l1 v8 v9 h (by omega) (jr_of rfl (by omega)) (jr_of rfl (by omega)) (jr_of rfl (by omega)) J Sm)
set_option maxRecDepth 100000 in
set_option maxHeartbeats 4000000 in
theorem sf_X9_numberTo_r68 {Dy : jH → Prop} {h : jH} {Q : Option Value → jH → Prop} {a1 : Int32} (y1 : 11 ≤ a1.toInt ∧ a1.toInt ≤ 100000) (hD : jDk Dy) (J : jJ jSgX Dy h) (hQ : ∀ (v : Int32) hx9, (-2147483648) ≤ v.toInt ∧ v.toInt ≤ 100000 → jJ jSgX Dy hx9 → jSm fp_X9_numberTo_r68 h hx9 → Q (some (.int v)) hx9) : jC m_X9_numberTo 1 0 0 [.ref 68, .int a1] h Q := by
  refine jC.of rfl k_X9_numberTo rfl ?_
  have Sm := jSm_rf fp_X9_numberTo_r68 h
  show jX m_X9_numberTo 1 0 0 0 [(0, .ref 68), (1, .int a1)] [] _ 0 0 _
  refine x_aloadn (x := 68) rfl rfl ?_
  refine z_getI (N := 6) 9 5 rfl f_9_28 rfl J rfl sg_68_5_6_1_0_1 (fun v1 qv1 ev1 => ?_)
  refine x_iconst (v := 2) rfl ki_2 ?_
  refine x_iceq (tgt := 10) rfl rfl (ti_eq rfl jk_2 ⟨fun c2 => ?_, fun c2 => ?_⟩)
  ·
    refine x_iconst (v := 0) rfl ki_0 ?_
    refine x_istoren (lsx9 := [(2, .int 0), (0, .ref 68), (1, .int a1)]) rfl rfl rfl ?_
    refine x_aloadn (x := 68) rfl rfl ?_
    refine z_getI (N := 6) 9 3 rfl f_9_22 rfl J rfl sg_68_3_4_1_0_1 (fun v3 qv3 ev3 => ?_)
    refine x_istoren (lsx9 := [(3, .int v3), (2, .int 0), (0, .ref 68), (1, .int a1)]) rfl rfl rfl ?_
    exact jX.sub (jsb_c rfl (jsb_c rfl (jsb_c rfl (jsb_c rfl jsb_n)))) (ct_X9_numberTo_r68_17 hD hQ  401 a1 0 v3 h (by omega) (jr_of rfl (by omega)) (jr_of jk_0 (by omega)) (jr_of rfl (by omega)) J Sm)
  ·
    refine x_iconst (v := (-1)) rfl ki_m1 ?_
    refine x_iret rfl rfl ?_
    exact hQ _ _ (jr_of jk_m1 (by omega)) J Sm
def fp_X2_readNumber_r95 : jFp := [(68, 2, 3), (68, 3, 4), (68, 4, 5), (68, 5, 6), (96, 0, 72)]
set_option maxRecDepth 100000 in
set_option maxHeartbeats 4000000 in
theorem sf_X2_readNumber_r95 {Dy : jH → Prop} {h : jH} {Q : Option Value → jH → Prop} {a1 : Int32} {a2 : Int32} (y1 : 1 ≤ a1.toInt ∧ a1.toInt ≤ 2) (y2 : 11 ≤ a2.toInt ∧ a2.toInt ≤ 399) (ym2 : a2.toInt % 2 = 1) (hD : jDk Dy) (J : jJ jSgX Dy h) {p0 p1 : Int32} (zp0 : jiv h 68 5 = p0) (zp1 : jiv h 68 3 = p1) (rl_p0 : (p0.toInt ≠ 3 ∨ p1.toInt ≤ 399)) (hQ : ∀ (v : Int32) hx9, 0 ≤ v.toInt ∧ v.toInt ≤ 1 → jJ jSgX Dy hx9 → jSm fp_X2_readNumber_r95 h hx9 → ∀ u0 u1 : Int32, jiv hx9 68 5 = u0 → jiv hx9 68 3 = u1 → (u0.toInt ≠ 3 ∨ u1.toInt ≤ 399) → Q (some (.int v)) hx9) : jC m_X2_readNumber 3 0 0 [.ref 95, .int a1, .int a2] h Q := by
  refine jC.of rfl k_X2_readNumber rfl ?_
  have Sm := jSm_rf fp_X2_readNumber_r95 h
  have ep0 := (show 0 ≤ p0.toInt ∧ p0.toInt ≤ 3 from zp0 ▸ jrg_f J sg_68_5_6_1_0_1)
  have ep1 := (show 0 ≤ p1.toInt ∧ p1.toInt ≤ 400 from zp1 ▸ jrg_f J sg_68_3_4_1_0_1)
  show jX m_X2_readNumber 3 0 0 0 [(0, .ref 95), (1, .int a1), (2, .int a2)] [] _ 0 0 _
  refine x_aloadn (x := 95) rfl rfl ?_
  refine z_getR (N := 6) (b := 68) 2 0 rfl f_2_30 rfl J rfl 12160 ⟨rfl, rfl⟩ rfl ?_
  refine x_iloadn (x := a2) rfl rfl ?_
  refine x_inv (N := m_X9_numberTo) (As := [.int a2]) (b := 68) (st := []) (dx9 := 1) (mc := 0) (ms := 0) (host := "") 9 rfl t_X9_numberTo ⟨Or.inl q_2_117, i_X9_numberTo.1, i_X9_numberTo.2⟩ ⟨by decide, rfl⟩ (congrArg Prod.fst (J.1.1 68 (9, 6) rfl)) rfl (by decide) rfl rfl ⟨by decide, by decide⟩ (sf_X9_numberTo_r68 (jr_of rfl (by omega)) hD J  (fun v2 h ev2 J S1 => ?_))
  have Sm := jSm_tr rfl Sm S1
  show jX m_X2_readNumber 3 0 0 8 [(0, .ref 95), (1, .int a1), (2, .int a2)] [.int v2] _ 0 0 _
  refine x_istoren (lsx9 := [(3, .int v2), (0, .ref 95), (1, .int a1), (2, .int a2)]) rfl rfl rfl ?_
  refine x_iloadn (x := v2) rfl rfl ?_
  refine x_iconst (v := (-1)) rfl ki_m1 ?_
  refine x_icne (tgt := 22) rfl rfl (ti_ne rfl jk_m1 ⟨fun c3 => ?_, fun c3 => ?_⟩)
  ·
    refine x_aloadn (x := 95) rfl rfl ?_
    refine x_iloadn (x := a1) rfl rfl ?_
    refine x_iloadn (x := v2) rfl rfl ?_
    refine x_inv (N := m_X2_note) (As := [.int a1, .int v2]) (b := 95) (st := []) (dx9 := 1) (mc := 0) (ms := 0) (host := "") 2 rfl t_X2_note ⟨Or.inl q_2_82, i_X2_note.1, i_X2_note.2⟩ ⟨by decide, rfl⟩ (congrArg Prod.fst (J.1.1 95 (2, 6) rfl)) rfl (by decide) rfl rfl ⟨by decide, by decide⟩ (sf_X2_note_r95 (jr_of rfl (by omega)) hD J  (fun h J S4 => ?_))
    have Sm := jSm_tr rfl Sm S4
    show jX m_X2_readNumber 3 0 0 28 [(3, .int v2), (0, .ref 95), (1, .int a1), (2, .int a2)] [] _ 0 0 _
    refine x_aloadn (x := 95) rfl rfl ?_
    refine z_getR (N := 6) (b := 68) 2 0 rfl f_2_30 rfl J rfl 12160 ⟨rfl, rfl⟩ rfl ?_
    refine x_inv (N := m_X9_step) (As := []) (b := 68) (st := []) (dx9 := 2) (mc := 0) (ms := 0) (host := "") 9 rfl t_X9_step ⟨Or.inl q_2_62, i_X9_step.1, i_X9_step.2⟩ ⟨by decide, rfl⟩ (congrArg Prod.fst (J.1.1 68 (9, 6) rfl)) rfl (by decide) rfl rfl ⟨by decide, by decide⟩ (sf_X9_step_r68  hD J (jmc S4 rfl (jmc S1 rfl zp0)) (jmc S4 rfl (jmc S1 rfl zp1)) (by omega)  (fun h J S5 u6 u7 qu6 qu7 ru6 => ?_))
    have Sm := jSm_tr rfl Sm S5
    have eu6 := (show 0 ≤ u6.toInt ∧ u6.toInt ≤ 3 from qu6 ▸ jrg_f J sg_68_5_6_1_0_1)
    have eu7 := (show 0 ≤ u7.toInt ∧ u7.toInt ≤ 400 from qu7 ▸ jrg_f J sg_68_3_4_1_0_1)
    show jX m_X2_readNumber 3 0 0 35 [(3, .int v2), (0, .ref 95), (1, .int a1), (2, .int a2)] [] _ 0 0 _
    refine x_iconst (v := 1) rfl ki_1 ?_
    refine x_zret rfl rfl (by decide) ?_
    exact hQ _ _ (jr_of jk_1 (by omega)) J Sm _ _ qu6 qu7 (by omega)
  ·
    refine x_aloadn (x := 95) rfl rfl ?_
    refine z_getR (N := 6) (b := 68) 2 0 rfl f_2_30 rfl J rfl 12160 ⟨rfl, rfl⟩ rfl ?_
    refine x_inv (N := m_X9_blame) (As := []) (b := 68) (st := []) (dx9 := 2) (mc := 0) (ms := 0) (host := "") 9 rfl t_X9_blame ⟨Or.inl q_2_59, i_X9_blame.1, i_X9_blame.2⟩ ⟨by decide, rfl⟩ (congrArg Prod.fst (J.1.1 68 (9, 6) rfl)) rfl (by decide) rfl rfl ⟨by decide, by decide⟩ (jC.of rfl k_X9_blame rfl ?_)
    show jX m_X9_blame 2 0 0 0 [(0, .ref 68)] [] _ 0 0 _
    refine x_aloadn (x := 68) rfl rfl ?_
    refine x_aloadn (x := 68) rfl rfl ?_
    refine z_getM (N := 6) (v := p1) 9 3 rfl f_9_22 rfl J rfl (jmc S1 rfl zp1) ?_
    refine z_putI (N := 6) (w := p1.toInt) 9 2 rfl f_9_19 rfl (jfin_no TX9 RX9 6 rfl rfl) hD J Sm rfl rfl rfl (pw_68_2 (by omega)) rfl (fun h w8 J Sm => ?_)
    refine x_iconst (v := 0) rfl ki_0 ?_
    refine x_zret rfl rfl (by decide) ?_
    show jX m_X2_readNumber 3 0 0 21 [(3, .int v2), (0, .ref 95), (1, .int a1), (2, .int a2)] [.int 0] _ 0 0 _
    refine x_zret rfl rfl (by decide) ?_
    exact hQ _ _ (jr_of jk_0 (by omega)) J Sm _ _ (jmo w8 rfl (jmc S1 rfl zp0)) (jmo w8 rfl (jmc S1 rfl zp1)) (by omega)
def fp_X2_readPart_r95 : jFp := [(68, 2, 3), (68, 3, 4), (68, 4, 5), (68, 5, 6), (95, 4, 5), (95, 5, 6), (97, 0, 1200)]
set_option maxRecDepth 100000 in
set_option maxHeartbeats 4000000 in
theorem sf_X2_readPart_r95 {Dy : jH → Prop} {h : jH} {Q : Option Value → jH → Prop} {a1 : Int32} {a2 : Int32} (y1 : 1 ≤ a1.toInt ∧ a1.toInt ≤ 2) (hD : jDk Dy) (J : jJ jSgX Dy h) {p0 p1 : Int32} (zp0 : jiv h 68 5 = p0) (zp1 : jiv h 68 3 = p1) (rl_p0 : (p0.toInt ≠ 3 ∨ p1.toInt ≤ 399)) (hQ : ∀ (v : Int32) hx9, 0 ≤ v.toInt ∧ v.toInt ≤ 1 → jJ jSgX Dy hx9 → jSm fp_X2_readPart_r95 h hx9 → ∀ u0 u1 : Int32, jiv hx9 68 5 = u0 → jiv hx9 68 3 = u1 → (u0.toInt ≠ 3 ∨ u1.toInt ≤ 399) → Q (some (.int v)) hx9) : jC m_X2_readPart 3 0 0 [.ref 95, .int a1, .int a2] h Q := by
  refine jC.of rfl k_X2_readPart rfl ?_
  have Sm := jSm_rf fp_X2_readPart_r95 h
  have ep0 := (show 0 ≤ p0.toInt ∧ p0.toInt ≤ 3 from zp0 ▸ jrg_f J sg_68_5_6_1_0_1)
  have ep1 := (show 0 ≤ p1.toInt ∧ p1.toInt ≤ 400 from zp1 ▸ jrg_f J sg_68_3_4_1_0_1)
  have ea2 := jfull a2
  show jX m_X2_readPart 3 0 0 0 [(0, .ref 95), (1, .int a1), (2, .int a2)] [] _ 0 0 _
  refine x_aloadn (x := 95) rfl rfl ?_
  refine z_getI (N := 6) 2 5 rfl f_2_27 rfl J rfl sg_95_5_6_1_0_1 (fun v1 qv1 ev1 => ?_)
  refine x_bipush (v := 60) rfl kb_60 ?_
  refine x_iclt (tgt := 17) rfl rfl (ti_lt rfl jk_60 ⟨fun c2 => ?_, fun c2 => ?_⟩)
  ·
    refine x_aloadn (x := 95) rfl rfl ?_
    refine x_dup rfl rfl ?_
    refine z_getM (N := 6) (v := v1) 2 5 rfl f_2_27 rfl J rfl qv1 ?_
    refine x_iconst (v := 1) rfl ki_1 ?_
    refine z_iadd rfl rfl jk_1 (by omega) (fun v3 ev3 => ?_)
    refine z_putI (N := 6) (w := v3.toInt) 2 5 rfl f_2_27 rfl (jfin_no TX2 RX2 6 rfl rfl) hD J Sm rfl rfl rfl (pw_95_5 (by omega)) rfl (fun h w4 J Sm => ?_)
    refine x_aloadn (x := 95) rfl rfl ?_
    refine x_iloadn (x := a1) rfl rfl ?_
    refine x_inv (N := m_X2_emit) (As := [.int a1]) (b := 95) (st := []) (dx9 := 1) (mc := 0) (ms := 0) (host := "") 2 rfl t_X2_emit ⟨Or.inl q_2_89, i_X2_emit.1, i_X2_emit.2⟩ ⟨by decide, rfl⟩ (congrArg Prod.fst (J.1.1 95 (2, 6) rfl)) rfl (by decide) rfl rfl ⟨by decide, by decide⟩ (sf_X2_emit_r95  hD J  (fun h J S5 => ?_))
    have Sm := jSm_tr rfl Sm S5
    show jX m_X2_readPart 3 0 0 32 [(0, .ref 95), (1, .int a1), (2, .int a2)] [] _ 0 0 _
    refine x_aloadn (x := 95) rfl rfl ?_
    refine x_iloadn (x := a2) rfl rfl ?_
    refine x_inv (N := m_X2_emit) (As := [.int a2]) (b := 95) (st := []) (dx9 := 1) (mc := 0) (ms := 0) (host := "") 2 rfl t_X2_emit ⟨Or.inl q_2_89, i_X2_emit.1, i_X2_emit.2⟩ ⟨by decide, rfl⟩ (congrArg Prod.fst (J.1.1 95 (2, 6) rfl)) rfl (by decide) rfl rfl ⟨by decide, by decide⟩ (sf_X2_emit_r95  hD J  (fun h J S6 => ?_))
    have Sm := jSm_tr rfl Sm S6
    show jX m_X2_readPart 3 0 0 37 [(0, .ref 95), (1, .int a1), (2, .int a2)] [] _ 0 0 _
    refine x_aloadn (x := 95) rfl rfl ?_
    refine z_getR (N := 6) (b := 68) 2 0 rfl f_2_30 rfl J rfl 12160 ⟨rfl, rfl⟩ rfl ?_
    refine x_inv (N := m_X9_step) (As := []) (b := 68) (st := []) (dx9 := 2) (mc := 0) (ms := 0) (host := "") 9 rfl t_X9_step ⟨Or.inl q_2_62, i_X9_step.1, i_X9_step.2⟩ ⟨by decide, rfl⟩ (congrArg Prod.fst (J.1.1 68 (9, 6) rfl)) rfl (by decide) rfl rfl ⟨by decide, by decide⟩ (sf_X9_step_r68  hD J (jmc S6 rfl (jmc S5 rfl (jmo w4 rfl zp0))) (jmc S6 rfl (jmc S5 rfl (jmo w4 rfl zp1))) (by omega)  (fun h J S7 u8 u9 qu8 qu9 ru8 => ?_))
    have Sm := jSm_tr rfl Sm S7
    have eu8 := (show 0 ≤ u8.toInt ∧ u8.toInt ≤ 3 from qu8 ▸ jrg_f J sg_68_5_6_1_0_1)
    have eu9 := (show 0 ≤ u9.toInt ∧ u9.toInt ≤ 400 from qu9 ▸ jrg_f J sg_68_3_4_1_0_1)
    show jX m_X2_readPart 3 0 0 44 [(0, .ref 95), (1, .int a1), (2, .int a2)] [] _ 0 0 _
    refine x_iconst (v := 1) rfl ki_1 ?_
    refine x_zret rfl rfl (by decide) ?_
    exact hQ _ _ (jr_of jk_1 (by omega)) J Sm _ _ qu8 qu9 (by omega)
  ·
    refine x_aloadn (x := 95) rfl rfl ?_
    refine z_getR (N := 6) (b := 68) 2 0 rfl f_2_30 rfl J rfl 12160 ⟨rfl, rfl⟩ rfl ?_
    refine x_inv (N := m_X9_blame) (As := []) (b := 68) (st := []) (dx9 := 2) (mc := 0) (ms := 0) (host := "") 9 rfl t_X9_blame ⟨Or.inl q_2_59, i_X9_blame.1, i_X9_blame.2⟩ ⟨by decide, rfl⟩ (congrArg Prod.fst (J.1.1 68 (9, 6) rfl)) rfl (by decide) rfl rfl ⟨by decide, by decide⟩ (jC.of rfl k_X9_blame rfl ?_)
    show jX m_X9_blame 2 0 0 0 [(0, .ref 68)] [] _ 0 0 _
    refine x_aloadn (x := 68) rfl rfl ?_
    refine x_aloadn (x := 68) rfl rfl ?_
    refine z_getM (N := 6) (v := p1) 9 3 rfl f_9_22 rfl J rfl zp1 ?_
    refine z_putI (N := 6) (w := p1.toInt) 9 2 rfl f_9_19 rfl (jfin_no TX9 RX9 6 rfl rfl) hD J Sm rfl rfl rfl (pw_68_2 (by omega)) rfl (fun h w10 J Sm => ?_)
    refine x_iconst (v := 0) rfl ki_0 ?_
    refine x_zret rfl rfl (by decide) ?_
    show jX m_X2_readPart 3 0 0 16 [(0, .ref 95), (1, .int a1), (2, .int a2)] [.int 0] _ 0 0 _
    refine x_zret rfl rfl (by decide) ?_
    exact hQ _ _ (jr_of jk_0 (by omega)) J Sm _ _ (jmo w10 rfl zp0) (jmo w10 rfl zp1) (by omega)
def fp_X9_wordOf_r68_r11 : jFp := []
set_option maxRecDepth 100000 in
set_option maxHeartbeats 4000000 in
theorem ct_X9_wordOf_r68_r11_110 {Dy : jH → Prop} {h0 : jH} {Q : Option Value → jH → Prop} {R23 : Int} (hD : jDk Dy) (hQ : ∀ (v : Int32) hx9, jJ jSgX Dy hx9 → jSm fp_X9_wordOf_r68_r11 h0 hx9 → Q (some (.int v)) hx9) (k23 : ∀ (l2 : Int32) (l3 : Int32) (l4 : Int32) (l5 : Int32) (g0 : Int32) (h : jH), 34 - l5.toInt < R23 → 0 ≤ l3.toInt ∧ l3.toInt ≤ 434 → 0 ≤ l4.toInt ∧ l4.toInt ≤ 1 → 0 ≤ l5.toInt ∧ l5.toInt ≤ 34 → 0 ≤ g0.toInt ∧ g0.toInt ≤ 400 → l3.toInt - l5.toInt ≤ 400 → jiv h 68 3 = g0 → jJ jSgX Dy h → jSm fp_X9_wordOf_r68_r11 h0 h → jX m_X9_wordOf 4 0 0 23 [(0, .ref 68), (1, .ref 11), (2, .int l2), (3, .int l3), (4, .int l4), (5, .int l5)] [] h 0 0 Q) : ∀ (l2 : Int32) (l3 : Int32) (l4 : Int32) (l5 : Int32) (g0 : Int32) (h : jH), 0 ≤ l3.toInt ∧ l3.toInt ≤ 434 → 0 ≤ l4.toInt ∧ l4.toInt ≤ 1 → 0 ≤ l5.toInt ∧ l5.toInt ≤ 33 → 0 ≤ g0.toInt ∧ g0.toInt ≤ 400 → l3.toInt - l5.toInt ≤ 401 → jiv h 68 3 = g0 → 34 - l5.toInt ≤ R23 → jJ jSgX Dy h → jSm fp_X9_wordOf_r68_r11 h0 h → jX m_X9_wordOf 4 0 0 110 [(0, .ref 68), (1, .ref 11), (2, .int l2), (3, .int l3), (4, .int l4), (5, .int l5)] [] h 0 0 Q := by
  intro l2 l3 l4 l5 g0 h y0 y1 y2 y3 y4 z0 m23 J Sm
  have el2 := jfull l2
  refine z_iinc (x := l5) (lsx9 := fun v1 => [(5, .int v1), (0, .ref 68), (1, .ref 11), (2, .int l2), (3, .int l3), (4, .int l4)]) rfl rfl rfl jko_1 (by omega) rfl (fun _ => rfl) (fun v1 ev1 => ?_)
  refine x_goto (tgt := 23) rfl rfl ?_
  exact jX.sub (jsb_c rfl (jsb_c rfl (jsb_c rfl (jsb_c rfl (jsb_c rfl (jsb_c rfl jsb_n)))))) (k23 l2 l3 l4 v1 g0 h (by omega) (jr_of rfl (by omega)) (jr_of rfl (by omega)) (jr_of rfl (by omega)) (jr_of rfl (by omega)) (by omega) z0 J Sm)
set_option maxRecDepth 100000 in
set_option maxHeartbeats 4000000 in
theorem ct_X9_wordOf_r68_r11_300105 {Dy : jH → Prop} {h0 : jH} {Q : Option Value → jH → Prop} {R23 : Int} (hD : jDk Dy) (hQ : ∀ (v : Int32) hx9, jJ jSgX Dy hx9 → jSm fp_X9_wordOf_r68_r11 h0 hx9 → Q (some (.int v)) hx9) (k23 : ∀ (l2 : Int32) (l3 : Int32) (l4 : Int32) (l5 : Int32) (g0 : Int32) (h : jH), 34 - l5.toInt < R23 → 0 ≤ l3.toInt ∧ l3.toInt ≤ 434 → 0 ≤ l4.toInt ∧ l4.toInt ≤ 1 → 0 ≤ l5.toInt ∧ l5.toInt ≤ 34 → 0 ≤ g0.toInt ∧ g0.toInt ≤ 400 → l3.toInt - l5.toInt ≤ 400 → jiv h 68 3 = g0 → jJ jSgX Dy h → jSm fp_X9_wordOf_r68_r11 h0 h → jX m_X9_wordOf 4 0 0 23 [(0, .ref 68), (1, .ref 11), (2, .int l2), (3, .int l3), (4, .int l4), (5, .int l5)] [] h 0 0 Q) : ∀ (l2 : Int32) (l3 : Int32) (l5 : Int32) (g0 : Int32) (h : jH), 0 ≤ l3.toInt ∧ l3.toInt ≤ 399 → 0 ≤ l5.toInt ∧ l5.toInt ≤ 33 → 0 ≤ g0.toInt ∧ g0.toInt ≤ 400 → l3.toInt - l5.toInt ≤ 400 → jiv h 68 3 = g0 → 34 - l5.toInt ≤ R23 → jJ jSgX Dy h → jSm fp_X9_wordOf_r68_r11 h0 h → jX m_X9_wordOf 4 0 0 105 [(0, .ref 68), (1, .ref 11), (2, .int l2), (3, .int l3), (5, .int l5)] [.int 1] h 0 0 Q := by
  intro l2 l3 l5 g0 h y0 y1 y2 y3 z0 m23 J Sm
  have el2 := jfull l2
  refine x_istore (lsx9 := [(4, .int 1), (0, .ref 68), (1, .ref 11), (2, .int l2), (3, .int l3), (5, .int l5)]) rfl rfl rfl ?_
  refine z_iinc (x := l3) (lsx9 := fun v1 => [(3, .int v1), (4, .int 1), (0, .ref 68), (1, .ref 11), (2, .int l2), (5, .int l5)]) rfl rfl rfl jko_1 (by omega) rfl (fun _ => rfl) (fun v1 ev1 => ?_)
  exact jX.sub (jsb_c rfl (jsb_c rfl (jsb_c rfl (jsb_c rfl (jsb_c rfl (jsb_c rfl jsb_n)))))) (ct_X9_wordOf_r68_r11_110 hD hQ k23 l2 v1 1 l5 g0 h (jr_of rfl (by omega)) (jr_of jk_1 (by omega)) (jr_of rfl (by omega)) (jr_of rfl (by omega)) (by omega) z0 (by omega) J Sm)
set_option maxRecDepth 100000 in
set_option maxHeartbeats 4000000 in
theorem ct_X9_wordOf_r68_r11_200105 {Dy : jH → Prop} {h0 : jH} {Q : Option Value → jH → Prop} {R23 : Int} (hD : jDk Dy) (hQ : ∀ (v : Int32) hx9, jJ jSgX Dy hx9 → jSm fp_X9_wordOf_r68_r11 h0 hx9 → Q (some (.int v)) hx9) (k23 : ∀ (l2 : Int32) (l3 : Int32) (l4 : Int32) (l5 : Int32) (g0 : Int32) (h : jH), 34 - l5.toInt < R23 → 0 ≤ l3.toInt ∧ l3.toInt ≤ 434 → 0 ≤ l4.toInt ∧ l4.toInt ≤ 1 → 0 ≤ l5.toInt ∧ l5.toInt ≤ 34 → 0 ≤ g0.toInt ∧ g0.toInt ≤ 400 → l3.toInt - l5.toInt ≤ 400 → jiv h 68 3 = g0 → jJ jSgX Dy h → jSm fp_X9_wordOf_r68_r11 h0 h → jX m_X9_wordOf 4 0 0 23 [(0, .ref 68), (1, .ref 11), (2, .int l2), (3, .int l3), (4, .int l4), (5, .int l5)] [] h 0 0 Q) : ∀ (l2 : Int32) (l3 : Int32) (l5 : Int32) (g0 : Int32) (h : jH), 0 ≤ l3.toInt ∧ l3.toInt ≤ 433 → 0 ≤ l5.toInt ∧ l5.toInt ≤ 33 → 0 ≤ g0.toInt ∧ g0.toInt ≤ 400 → l3.toInt - l5.toInt ≤ 400 → jiv h 68 3 = g0 → 34 - l5.toInt ≤ R23 → jJ jSgX Dy h → jSm fp_X9_wordOf_r68_r11 h0 h → jX m_X9_wordOf 4 0 0 105 [(0, .ref 68), (1, .ref 11), (2, .int l2), (3, .int l3), (5, .int l5)] [.int 0] h 0 0 Q := by
  intro l2 l3 l5 g0 h y0 y1 y2 y3 z0 m23 J Sm
  have el2 := jfull l2
  refine x_istore (lsx9 := [(4, .int 0), (0, .ref 68), (1, .ref 11), (2, .int l2), (3, .int l3), (5, .int l5)]) rfl rfl rfl ?_
  refine z_iinc (x := l3) (lsx9 := fun v1 => [(3, .int v1), (4, .int 0), (0, .ref 68), (1, .ref 11), (2, .int l2), (5, .int l5)]) rfl rfl rfl jko_1 (by omega) rfl (fun _ => rfl) (fun v1 ev1 => ?_)
  exact jX.sub (jsb_c rfl (jsb_c rfl (jsb_c rfl (jsb_c rfl (jsb_c rfl (jsb_c rfl jsb_n)))))) (ct_X9_wordOf_r68_r11_110 hD hQ k23 l2 v1 0 l5 g0 h (jr_of rfl (by omega)) (jr_of jk_0 (by omega)) (jr_of rfl (by omega)) (jr_of rfl (by omega)) (by omega) z0 (by omega) J Sm)
set_option maxRecDepth 100000 in
set_option maxHeartbeats 4000000 in
theorem ct_X9_wordOf_r68_r11_104 {Dy : jH → Prop} {h0 : jH} {Q : Option Value → jH → Prop} {R23 : Int} (hD : jDk Dy) (hQ : ∀ (v : Int32) hx9, jJ jSgX Dy hx9 → jSm fp_X9_wordOf_r68_r11 h0 hx9 → Q (some (.int v)) hx9) (k23 : ∀ (l2 : Int32) (l3 : Int32) (l4 : Int32) (l5 : Int32) (g0 : Int32) (h : jH), 34 - l5.toInt < R23 → 0 ≤ l3.toInt ∧ l3.toInt ≤ 434 → 0 ≤ l4.toInt ∧ l4.toInt ≤ 1 → 0 ≤ l5.toInt ∧ l5.toInt ≤ 34 → 0 ≤ g0.toInt ∧ g0.toInt ≤ 400 → l3.toInt - l5.toInt ≤ 400 → jiv h 68 3 = g0 → jJ jSgX Dy h → jSm fp_X9_wordOf_r68_r11 h0 h → jX m_X9_wordOf 4 0 0 23 [(0, .ref 68), (1, .ref 11), (2, .int l2), (3, .int l3), (4, .int l4), (5, .int l5)] [] h 0 0 Q) : ∀ (l2 : Int32) (l3 : Int32) (l5 : Int32) (g0 : Int32) (h : jH), 0 ≤ l3.toInt ∧ l3.toInt ≤ 433 → 0 ≤ l5.toInt ∧ l5.toInt ≤ 33 → 0 ≤ g0.toInt ∧ g0.toInt ≤ 400 → l3.toInt - l5.toInt ≤ 400 → jiv h 68 3 = g0 → 34 - l5.toInt ≤ R23 → jJ jSgX Dy h → jSm fp_X9_wordOf_r68_r11 h0 h → jX m_X9_wordOf 4 0 0 104 [(0, .ref 68), (1, .ref 11), (2, .int l2), (3, .int l3), (5, .int l5)] [] h 0 0 Q := by
  intro l2 l3 l5 g0 h y0 y1 y2 y3 z0 m23 J Sm
  have el2 := jfull l2
  refine x_iconst (v := 0) rfl ki_0 ?_
  exact jX.sub (jsb_c rfl (jsb_c rfl (jsb_c rfl (jsb_c rfl (jsb_c rfl jsb_n))))) (ct_X9_wordOf_r68_r11_200105 hD hQ k23 l2 l3 l5 g0 h (jr_of rfl (by omega)) (jr_of rfl (by omega)) (jr_of rfl (by omega)) (by omega) z0 (by omega) J Sm)
set_option maxRecDepth 100000 in
set_option maxHeartbeats 4000000 in
theorem ct_X9_wordOf_r68_r11_62 {Dy : jH → Prop} {h0 : jH} {Q : Option Value → jH → Prop} {R23 : Int} (hD : jDk Dy) (hQ : ∀ (v : Int32) hx9, jJ jSgX Dy hx9 → jSm fp_X9_wordOf_r68_r11 h0 hx9 → Q (some (.int v)) hx9) (k23 : ∀ (l2 : Int32) (l3 : Int32) (l4 : Int32) (l5 : Int32) (g0 : Int32) (h : jH), 34 - l5.toInt < R23 → 0 ≤ l3.toInt ∧ l3.toInt ≤ 434 → 0 ≤ l4.toInt ∧ l4.toInt ≤ 1 → 0 ≤ l5.toInt ∧ l5.toInt ≤ 34 → 0 ≤ g0.toInt ∧ g0.toInt ≤ 400 → l3.toInt - l5.toInt ≤ 400 → jiv h 68 3 = g0 → jJ jSgX Dy h → jSm fp_X9_wordOf_r68_r11 h0 h → jX m_X9_wordOf 4 0 0 23 [(0, .ref 68), (1, .ref 11), (2, .int l2), (3, .int l3), (4, .int l4), (5, .int l5)] [] h 0 0 Q) : ∀ (l2 : Int32) (l5 : Int32) (g0 : Int32) (h : jH), 0 ≤ l5.toInt ∧ l5.toInt ≤ 33 → 0 ≤ g0.toInt ∧ g0.toInt ≤ 400 → jiv h 68 3 = g0 → 34 - l5.toInt ≤ R23 → jJ jSgX Dy h → jSm fp_X9_wordOf_r68_r11 h0 h → jX m_X9_wordOf 4 0 0 62 [(0, .ref 68), (1, .ref 11), (2, .int l2), (5, .int l5)] [] h 0 0 Q := by
  intro l2 l5 g0 h y0 y1 z0 m23 J Sm
  have el2 := jfull l2
  refine z_iinc0 (x := l2) (lsx9 := fun v1 => [(2, .int v1), (0, .ref 68), (1, .ref 11), (5, .int l5)]) rfl rfl rfl (fun _ => rfl) (fun v1 => ?_)
  have ev1 := jfull v1
  refine x_aloadn (x := 68) rfl rfl ?_
  refine z_getM (N := 6) (v := g0) 9 3 rfl f_9_22 rfl J rfl z0 ?_
  refine x_istoren (lsx9 := [(3, .int g0), (2, .int v1), (0, .ref 68), (1, .ref 11), (5, .int l5)]) rfl rfl rfl ?_
  refine x_iconst (v := 1) rfl ki_1 ?_
  refine x_istore (lsx9 := [(4, .int 1), (3, .int g0), (2, .int v1), (0, .ref 68), (1, .ref 11), (5, .int l5)]) rfl rfl rfl ?_
  refine x_goto (tgt := 110) rfl rfl ?_
  exact jX.sub (jsb_c rfl (jsb_c rfl (jsb_c rfl (jsb_c rfl (jsb_c rfl (jsb_c rfl jsb_n)))))) (ct_X9_wordOf_r68_r11_110 hD hQ k23 v1 g0 1 l5 g0 h (jr_of rfl (by omega)) (jr_of jk_1 (by omega)) (jr_of rfl (by omega)) (jr_of rfl (by omega)) (by omega) z0 (by omega) J Sm)
set_option maxRecDepth 100000 in
set_option maxHeartbeats 4000000 in
theorem ct_X9_wordOf_r68_r11_23 {Dy : jH → Prop} {h0 : jH} {Q : Option Value → jH → Prop} (hD : jDk Dy) (hQ : ∀ (v : Int32) hx9, jJ jSgX Dy hx9 → jSm fp_X9_wordOf_r68_r11 h0 hx9 → Q (some (.int v)) hx9) : ∀ r : Nat, ∀ (l2 : Int32) (l3 : Int32) (l4 : Int32) (l5 : Int32) (g0 : Int32) (h : jH), 34 - l5.toInt < (r : Int) → 0 ≤ l3.toInt ∧ l3.toInt ≤ 434 → 0 ≤ l4.toInt ∧ l4.toInt ≤ 1 → 0 ≤ l5.toInt ∧ l5.toInt ≤ 34 → 0 ≤ g0.toInt ∧ g0.toInt ≤ 400 → l3.toInt - l5.toInt ≤ 400 → jiv h 68 3 = g0 → jJ jSgX Dy h → jSm fp_X9_wordOf_r68_r11 h0 h → jX m_X9_wordOf 4 0 0 23 [(0, .ref 68), (1, .ref 11), (2, .int l2), (3, .int l3), (4, .int l4), (5, .int l5)] [] h 0 0 Q := by
  intro r
  induction r with
  | zero =>
    intro l2 l3 l4 l5 g0 h hm y0 y1 y2 y3 y4 z0  J Sm
    exfalso
    have el2 := jfull l2
    omega
  | succ r ih =>
    intro l2 l3 l4 l5 g0 h hm y0 y1 y2 y3 y4 z0  J Sm
    have el2 := jfull l2
    refine x_iload (x := l5) rfl rfl ?_
    refine x_aloadn (x := 11) rfl rfl ?_
    refine x_invS (N := m_J0_length_8abf5) (i := 6) (As := []) (st := [.int l5]) (dx9 := 1) (by decide) rfl t_J0_length_8abf5 ⟨q_9_38, i_J0_length_8abf5.1, i_J0_length_8abf5.2⟩ rfl rfl (by decide) rfl rfl (zc_slen (N := 34) (v := 34) rfl J rfl rfl (by decide) ?_)
    show jX m_X9_wordOf 4 0 0 29 [(0, .ref 68), (1, .ref 11), (2, .int l2), (3, .int l3), (4, .int l4), (5, .int l5)] [.int 34, .int l5] _ 0 0 _
    refine x_icge (tgt := 116) rfl rfl (ti_ge rfl jk_34 ⟨fun c1 => ?_, fun c1 => ?_⟩)
    ·
      refine x_iconst (v := (-1)) rfl ki_m1 ?_
      refine x_iret rfl rfl ?_
      exact hQ _ _ J Sm
    ·
      refine x_aloadn (x := 11) rfl rfl ?_
      refine x_iload (x := l5) rfl rfl ?_
      refine x_invS (N := m_J0_charAt_5068e) (i := 6) (As := [.int l5]) (st := []) (dx9 := 3) (by decide) rfl t_J0_charAt_5068e ⟨q_9_43, i_J0_charAt_5068e.1, i_J0_charAt_5068e.2⟩ rfl rfl (by decide) rfl rfl (zc_schar (N := 34) rfl J rfl rfl rfl (by omega) (fun v2 ev2 => ?_))
      show jX m_X9_wordOf 4 0 0 38 [(0, .ref 68), (1, .ref 11), (2, .int l2), (3, .int l3), (4, .int l4), (5, .int l5)] [.int v2] _ 0 0 _
      refine x_istore (lsx9 := [(6, .int v2), (0, .ref 68), (1, .ref 11), (2, .int l2), (3, .int l3), (4, .int l4), (5, .int l5)]) rfl rfl rfl ?_
      refine x_iload (x := v2) rfl rfl ?_
      refine x_bipush (v := 32) rfl kb_32 ?_
      refine x_icne (tgt := 76) rfl rfl (ti_ne rfl jk_32 ⟨fun c3 => ?_, fun c3 => ?_⟩)
      ·
        refine x_iload (x := l4) rfl rfl ?_
        refine x_ifeq (tgt := 104) rfl rfl (ti_eq rfl jk_0 ⟨fun c4 => ?_, fun c4 => ?_⟩)
        ·
          exact jX.sub (jsb_c rfl (jsb_c rfl (jsb_c rfl (jsb_c rfl (jsb_c rfl jsb_n))))) (ct_X9_wordOf_r68_r11_104 hD hQ ih l2 l3 l5 g0 h (jr_of rfl (by omega)) (jr_of rfl (by omega)) (jr_of rfl (by omega)) (by omega) z0 (by omega) J Sm)
        ·
          refine x_iloadn (x := l3) rfl rfl ?_
          refine x_aloadn (x := 68) rfl rfl ?_
          refine z_getI (N := 6) 9 4 rfl f_9_25 rfl J rfl sg_68_4_5_1_0_1 (fun v5 qv5 ev5 => ?_)
          refine x_icge (tgt := 104) rfl rfl (ti_ge rfl rfl ⟨fun c6 => ?_, fun c6 => ?_⟩)
          ·
            exact jX.sub (jsb_c rfl (jsb_c rfl (jsb_c rfl (jsb_c rfl (jsb_c rfl jsb_n))))) (ct_X9_wordOf_r68_r11_104 hD hQ ih l2 l3 l5 g0 h (jr_of rfl (by omega)) (jr_of rfl (by omega)) (jr_of rfl (by omega)) (by omega) z0 (by omega) J Sm)
          ·
            refine x_aloadn (x := 68) rfl rfl ?_
            refine z_getR (N := 6) (b := 69) 9 0 rfl f_9_11 rfl J rfl 8704 ⟨rfl, rfl⟩ rfl ?_
            refine x_iloadn (x := l3) rfl rfl ?_
            refine z_iald (N := 400) rfl J rfl sg_69_0_400_1_0_1 rfl (by omega) (fun v7 qv7 ev7 => ?_)
            refine x_iload (x := v2) rfl rfl ?_
            refine x_icne (tgt := 104) rfl rfl (ti_ne rfl rfl ⟨fun c8 => ?_, fun c8 => ?_⟩)
            ·
              exact jX.sub (jsb_c rfl (jsb_c rfl (jsb_c rfl (jsb_c rfl (jsb_c rfl jsb_n))))) (ct_X9_wordOf_r68_r11_104 hD hQ ih l2 l3 l5 g0 h (jr_of rfl (by omega)) (jr_of rfl (by omega)) (jr_of rfl (by omega)) (by omega) z0 (by omega) J Sm)
            ·
              refine x_iconst (v := 1) rfl ki_1 ?_
              refine x_goto (tgt := 105) rfl rfl ?_
              exact jX.sub (jsb_c rfl (jsb_c rfl (jsb_c rfl (jsb_c rfl (jsb_c rfl jsb_n))))) (ct_X9_wordOf_r68_r11_300105 hD hQ ih l2 l3 l5 g0 h (jr_of rfl (by omega)) (jr_of rfl (by omega)) (jr_of rfl (by omega)) (by omega) z0 (by omega) J Sm)
      ·
        refine x_iload (x := l4) rfl rfl ?_
        refine x_ifeq (tgt := 62) rfl rfl (ti_eq rfl jk_0 ⟨fun c9 => ?_, fun c9 => ?_⟩)
        ·
          exact jX.sub (jsb_c rfl (jsb_c rfl (jsb_c rfl (jsb_c rfl jsb_n)))) (ct_X9_wordOf_r68_r11_62 hD hQ ih l2 l5 g0 h (jr_of rfl (by omega)) (jr_of rfl (by omega)) z0 (by omega) J Sm)
        ·
          refine x_iloadn (x := l3) rfl rfl ?_
          refine x_aloadn (x := 68) rfl rfl ?_
          refine z_getI (N := 6) 9 4 rfl f_9_25 rfl J rfl sg_68_4_5_1_0_1 (fun v10 qv10 ev10 => ?_)
          refine x_icne (tgt := 62) rfl rfl (ti_ne rfl rfl ⟨fun c11 => ?_, fun c11 => ?_⟩)
          ·
            exact jX.sub (jsb_c rfl (jsb_c rfl (jsb_c rfl (jsb_c rfl jsb_n)))) (ct_X9_wordOf_r68_r11_62 hD hQ ih l2 l5 g0 h (jr_of rfl (by omega)) (jr_of rfl (by omega)) z0 (by omega) J Sm)
          ·
            refine x_iloadn (x := l2) rfl rfl ?_
            refine x_iret rfl rfl ?_
            exact hQ _ _ J Sm
set_option maxRecDepth 100000 in
set_option maxHeartbeats 4000000 in
theorem sf_X9_wordOf_r68_r11 {Dy : jH → Prop} {h : jH} {Q : Option Value → jH → Prop} (hD : jDk Dy) (J : jJ jSgX Dy h) (hQ : ∀ (v : Int32) hx9, jJ jSgX Dy hx9 → jSm fp_X9_wordOf_r68_r11 h hx9 → Q (some (.int v)) hx9) : jC m_X9_wordOf 4 0 0 [.ref 68, .ref 11] h Q := by
  refine jC.of rfl k_X9_wordOf rfl ?_
  have Sm := jSm_rf fp_X9_wordOf_r68_r11 h
  show jX m_X9_wordOf 4 0 0 0 [(0, .ref 68), (1, .ref 11)] [] _ 0 0 _
  refine x_aloadn (x := 68) rfl rfl ?_
  refine z_getI (N := 6) 9 5 rfl f_9_28 rfl J rfl sg_68_5_6_1_0_1 (fun v1 qv1 ev1 => ?_)
  refine x_iconst (v := 1) rfl ki_1 ?_
  refine x_iceq (tgt := 10) rfl rfl (ti_eq rfl jk_1 ⟨fun c2 => ?_, fun c2 => ?_⟩)
  ·
    refine x_iconst (v := 0) rfl ki_0 ?_
    refine x_istoren (lsx9 := [(2, .int 0), (0, .ref 68), (1, .ref 11)]) rfl rfl rfl ?_
    refine x_aloadn (x := 68) rfl rfl ?_
    refine z_getI (N := 6) 9 3 rfl f_9_22 rfl J rfl sg_68_3_4_1_0_1 (fun v3 qv3 ev3 => ?_)
    refine x_istoren (lsx9 := [(3, .int v3), (2, .int 0), (0, .ref 68), (1, .ref 11)]) rfl rfl rfl ?_
    refine x_iconst (v := 1) rfl ki_1 ?_
    refine x_istore (lsx9 := [(4, .int 1), (3, .int v3), (2, .int 0), (0, .ref 68), (1, .ref 11)]) rfl rfl rfl ?_
    refine x_iconst (v := 0) rfl ki_0 ?_
    refine x_istore (lsx9 := [(5, .int 0), (4, .int 1), (3, .int v3), (2, .int 0), (0, .ref 68), (1, .ref 11)]) rfl rfl rfl ?_
    exact jX.sub (jsb_c rfl (jsb_c rfl (jsb_c rfl (jsb_c rfl (jsb_c rfl (jsb_c rfl jsb_n)))))) (ct_X9_wordOf_r68_r11_23 hD hQ  35 0 v3 1 0 v3 h (by have := jk_0; omega) (jr_of rfl (by omega)) (jr_of jk_1 (by omega)) (jr_of jk_0 (by omega)) (jr_of rfl (by omega)) (by have := jk_0; omega) qv3 J Sm)
  ·
    refine x_iconst (v := (-1)) rfl ki_m1 ?_
    refine x_iret rfl rfl ?_
    exact hQ _ _ J Sm
def fp_X2_readFactor_r95_c8 : jFp := [(68, 2, 3), (68, 3, 4), (68, 4, 5), (68, 5, 6), (95, 4, 5), (95, 5, 6), (97, 0, 1200)]
set_option maxRecDepth 100000 in
set_option maxHeartbeats 4000000 in
theorem ct_X2_readFactor_r95_c8_111 {Dy : jH → Prop} {h0 : jH} {Q : Option Value → jH → Prop} (hD : jDk Dy) (hQ : ∀ (v : Int32) hx9, 0 ≤ v.toInt ∧ v.toInt ≤ 1 → jJ jSgX Dy hx9 → jSm fp_X2_readFactor_r95_c8 h0 hx9 → ∀ u0 u1 : Int32, jiv hx9 68 5 = u0 → jiv hx9 68 3 = u1 → (u0.toInt ≠ 3 ∨ u1.toInt ≤ 399) → Q (some (.int v)) hx9) : ∀ (s0 : Int32) (g0 : Int32) (g1 : Int32) (h : jH), 0 ≤ s0.toInt ∧ s0.toInt ≤ 1 → 0 ≤ g0.toInt ∧ g0.toInt ≤ 400 → 0 ≤ g1.toInt ∧ g1.toInt ≤ 3 → (g1.toInt ≠ 3 ∨ g0.toInt ≤ 399) → jiv h 68 3 = g0 → jiv h 68 5 = g1 → jJ jSgX Dy h → jSm fp_X2_readFactor_r95_c8 h0 h → jX m_X2_readFactor 5 0 0 111 [] [.int s0] h 0 0 Q := by
  intro s0 g0 g1 h y0 y1 y2 y3 z0 z1  J Sm
  refine x_zret rfl rfl (jz01 (by omega)) ?_
  exact hQ _ _ (jr_of rfl (by omega)) J Sm _ _ z1 z0 (by omega)
set_option maxRecDepth 100000 in
set_option maxHeartbeats 4000000 in
theorem ct_X2_readFactor_r95_c8_200111 {Dy : jH → Prop} {h0 : jH} {Q : Option Value → jH → Prop} (hD : jDk Dy) (hQ : ∀ (v : Int32) hx9, 0 ≤ v.toInt ∧ v.toInt ≤ 1 → jJ jSgX Dy hx9 → jSm fp_X2_readFactor_r95_c8 h0 hx9 → ∀ u0 u1 : Int32, jiv hx9 68 5 = u0 → jiv hx9 68 3 = u1 → (u0.toInt ≠ 3 ∨ u1.toInt ≤ 399) → Q (some (.int v)) hx9) : ∀ (g0 : Int32) (g1 : Int32) (h : jH), 0 ≤ g0.toInt ∧ g0.toInt ≤ 400 → 0 ≤ g1.toInt ∧ g1.toInt ≤ 3 → (g1.toInt ≠ 3 ∨ g0.toInt ≤ 399) → jiv h 68 3 = g0 → jiv h 68 5 = g1 → jJ jSgX Dy h → jSm fp_X2_readFactor_r95_c8 h0 h → jX m_X2_readFactor 5 0 0 111 [] [.int 0] h 0 0 Q := by
  intro g0 g1 h y0 y1 y2 z0 z1  J Sm
  refine x_zret rfl rfl (by decide) ?_
  exact hQ _ _ (jr_of jk_0 (by omega)) J Sm _ _ z1 z0 (by omega)
set_option maxRecDepth 100000 in
set_option maxHeartbeats 4000000 in
theorem sf_X2_readFactor_r95_c8 {Dy : jH → Prop} {h : jH} {Q : Option Value → jH → Prop} (hD : jDk Dy) (J : jJ jSgX Dy h) {p0 p1 : Int32} (zp0 : jiv h 68 5 = p0) (zp1 : jiv h 68 3 = p1) (rl_p0 : (p0.toInt ≠ 3 ∨ p1.toInt ≤ 399)) (hQ : ∀ (v : Int32) hx9, 0 ≤ v.toInt ∧ v.toInt ≤ 1 → jJ jSgX Dy hx9 → jSm fp_X2_readFactor_r95_c8 h hx9 → ∀ u0 u1 : Int32, jiv hx9 68 5 = u0 → jiv hx9 68 3 = u1 → (u0.toInt ≠ 3 ∨ u1.toInt ≤ 399) → Q (some (.int v)) hx9) : jC m_X2_readFactor 5 0 0 [.ref 95, .int 8] h Q := by
  refine jC.of rfl k_X2_readFactor rfl ?_
  have Sm := jSm_rf fp_X2_readFactor_r95_c8 h
  have ep0 := (show 0 ≤ p0.toInt ∧ p0.toInt ≤ 3 from zp0 ▸ jrg_f J sg_68_5_6_1_0_1)
  have ep1 := (show 0 ≤ p1.toInt ∧ p1.toInt ≤ 400 from zp1 ▸ jrg_f J sg_68_3_4_1_0_1)
  show jX m_X2_readFactor 5 0 0 0 [(0, .ref 95), (1, .int 8)] [] _ 0 0 _
  refine x_aloadn (x := 95) rfl rfl ?_
  refine z_getR (N := 6) (b := 68) 2 0 rfl f_2_30 rfl J rfl 12160 ⟨rfl, rfl⟩ rfl ?_
  refine x_bipush (v := 91) rfl kb_91 ?_
  refine x_inv (N := m_X9_isSign) (As := [.int 91]) (b := 68) (st := []) (dx9 := 1) (mc := 0) (ms := 0) (host := "") 9 rfl t_X9_isSign ⟨Or.inl q_2_55, i_X9_isSign.1, i_X9_isSign.2⟩ ⟨by decide, rfl⟩ (congrArg Prod.fst (J.1.1 68 (9, 6) rfl)) rfl (by decide) rfl rfl ⟨by decide, by decide⟩ (sf_X9_isSign_r68 (jr_of jk_91 (by omega)) hD J zp0 zp1 (by omega)  (fun v4 h ev4 J S1 u2 u3 qu2 qu3 ru2 => ?_))
  have Sm := jSm_tr rfl Sm S1
  have eu2 := (show 0 ≤ u2.toInt ∧ u2.toInt ≤ 3 from qu2 ▸ jrg_f J sg_68_5_6_1_0_1)
  have eu3 := (show 0 ≤ u3.toInt ∧ u3.toInt ≤ 400 from qu3 ▸ jrg_f J sg_68_3_4_1_0_1)
  show jX m_X2_readFactor 5 0 0 9 [(0, .ref 95), (1, .int 8)] [.int v4] _ 0 0 _
  refine x_ifeq (tgt := 58) rfl rfl (ti_eq rfl jk_0 ⟨fun c5 => ?_, fun c5 => ?_⟩)
  ·
    refine x_aloadn (x := 95) rfl rfl ?_
    refine z_getR (N := 6) (b := 68) 2 0 rfl f_2_30 rfl J rfl 12160 ⟨rfl, rfl⟩ rfl ?_
    refine x_ldc (v := 100000) rfl z_2_147 ?_
    refine x_inv (N := m_X9_numberTo) (As := [.int 100000]) (b := 68) (st := []) (dx9 := 1) (mc := 0) (ms := 0) (host := "") 9 rfl t_X9_numberTo ⟨Or.inl q_2_117, i_X9_numberTo.1, i_X9_numberTo.2⟩ ⟨by decide, rfl⟩ (congrArg Prod.fst (J.1.1 68 (9, 6) rfl)) rfl (by decide) rfl rfl ⟨by decide, by decide⟩ (sf_X9_numberTo_r68 (jr_of jk_100000 (by omega)) hD J  (fun v7 h ev7 J S6 => ?_))
    have Sm := jSm_tr rfl Sm S6
    show jX m_X2_readFactor 5 0 0 67 [(0, .ref 95), (1, .int 8)] [.int v7] _ 0 0 _
    refine x_istoren (lsx9 := [(2, .int v7), (0, .ref 95), (1, .int 8)]) rfl rfl rfl ?_
    refine x_iloadn (x := v7) rfl rfl ?_
    refine x_iconst (v := (-1)) rfl ki_m1 ?_
    refine x_iceq (tgt := 80) rfl rfl (ti_eq rfl jk_m1 ⟨fun c8 => ?_, fun c8 => ?_⟩)
    ·
      refine x_aloadn (x := 95) rfl rfl ?_
      refine z_getR (N := 6) (b := 68) 2 0 rfl f_2_30 rfl J rfl 12160 ⟨rfl, rfl⟩ rfl ?_
      refine x_ldcS (jstr.getD 6 jstr_0) rfl (List.mem_of_getElem? (i := 6) rfl) rfl rfl ?_
      show jX m_X2_readFactor 5 0 0 86 [(2, .int v7), (0, .ref 95), (1, .int 8)] [.ref 11, .ref 68] _ 0 0 _
      refine x_inv (N := m_X9_wordOf) (As := [.ref 11]) (b := 68) (st := []) (dx9 := 4) (mc := 0) (ms := 0) (host := "") 9 rfl t_X9_wordOf ⟨Or.inl q_2_67, i_X9_wordOf.1, i_X9_wordOf.2⟩ ⟨by decide, rfl⟩ (congrArg Prod.fst (J.1.1 68 (9, 6) rfl)) rfl (by decide) rfl rfl ⟨by decide, by decide⟩ (sf_X9_wordOf_r68_r11  hD J  (fun v10 h J S9 => ?_))
      have ev10 := jfull v10
      have Sm := jSm_tr rfl Sm S9
      show jX m_X2_readFactor 5 0 0 89 [(2, .int v7), (0, .ref 95), (1, .int 8)] [.int v10] _ 0 0 _
      refine x_istoren (lsx9 := [(3, .int v10), (2, .int v7), (0, .ref 95), (1, .int 8)]) rfl rfl rfl ?_
      refine x_iloadn (x := v10) rfl rfl ?_
      refine x_iconst (v := (-1)) rfl ki_m1 ?_
      refine x_icne (tgt := 105) rfl rfl (ti_ne rfl jk_m1 ⟨fun c11 => ?_, fun c11 => ?_⟩)
      ·
        refine x_aloadn (x := 95) rfl rfl ?_
        refine x_iconst (v := 2) rfl ki_2 ?_
        refine x_iloadn (x := v10) rfl rfl ?_
        refine x_inv (N := m_X2_readPart) (As := [.int 2, .int v10]) (b := 95) (st := []) (dx9 := 3) (mc := 0) (ms := 0) (host := "") 2 rfl t_X2_readPart ⟨Or.inl q_2_141, i_X2_readPart.1, i_X2_readPart.2⟩ ⟨by decide, rfl⟩ (congrArg Prod.fst (J.1.1 95 (2, 6) rfl)) rfl (by decide) rfl rfl ⟨by decide, by decide⟩ (sf_X2_readPart_r95 (jr_of jk_2 (by omega)) hD J (jmc S9 rfl (jmc S6 rfl qu2)) (jmc S9 rfl (jmc S6 rfl qu3)) (by omega)  (fun v15 h ev15 J S12 u13 u14 qu13 qu14 ru13 => ?_))
        have Sm := jSm_tr rfl Sm S12
        have eu13 := (show 0 ≤ u13.toInt ∧ u13.toInt ≤ 3 from qu13 ▸ jrg_f J sg_68_5_6_1_0_1)
        have eu14 := (show 0 ≤ u14.toInt ∧ u14.toInt ≤ 400 from qu14 ▸ jrg_f J sg_68_3_4_1_0_1)
        show jX m_X2_readFactor 5 0 0 111 [(3, .int v10), (2, .int v7), (0, .ref 95), (1, .int 8)] [.int v15] _ 0 0 _
        exact jX.sub jsb_n (ct_X2_readFactor_r95_c8_111 hD hQ  v15 u14 u13 h (jr_of rfl (by omega)) (jr_of rfl (by omega)) (jr_of rfl (by omega)) (by omega) qu14 qu13 J Sm)
      ·
        refine x_aloadn (x := 95) rfl rfl ?_
        refine z_getR (N := 6) (b := 68) 2 0 rfl f_2_30 rfl J rfl 12160 ⟨rfl, rfl⟩ rfl ?_
        refine x_inv (N := m_X9_blame) (As := []) (b := 68) (st := []) (dx9 := 4) (mc := 0) (ms := 0) (host := "") 9 rfl t_X9_blame ⟨Or.inl q_2_59, i_X9_blame.1, i_X9_blame.2⟩ ⟨by decide, rfl⟩ (congrArg Prod.fst (J.1.1 68 (9, 6) rfl)) rfl (by decide) rfl rfl ⟨by decide, by decide⟩ (jC.of rfl k_X9_blame rfl ?_)
        show jX m_X9_blame 4 0 0 0 [(0, .ref 68)] [] _ 0 0 _
        refine x_aloadn (x := 68) rfl rfl ?_
        refine x_aloadn (x := 68) rfl rfl ?_
        refine z_getM (N := 6) (v := u3) 9 3 rfl f_9_22 rfl J rfl (jmc S9 rfl (jmc S6 rfl qu3)) ?_
        refine z_putI (N := 6) (w := u3.toInt) 9 2 rfl f_9_19 rfl (jfin_no TX9 RX9 6 rfl rfl) hD J Sm rfl rfl rfl (pw_68_2 (by omega)) rfl (fun h w16 J Sm => ?_)
        refine x_iconst (v := 0) rfl ki_0 ?_
        refine x_zret rfl rfl (by decide) ?_
        show jX m_X2_readFactor 5 0 0 102 [(3, .int v10), (2, .int v7), (0, .ref 95), (1, .int 8)] [.int 0] _ 0 0 _
        refine x_goto (tgt := 111) rfl rfl ?_
        exact jX.sub jsb_n (ct_X2_readFactor_r95_c8_200111 hD hQ  u3 u2 h (jr_of rfl (by omega)) (jr_of rfl (by omega)) (by omega) (jmo w16 rfl (jmc S9 rfl (jmc S6 rfl qu3))) (jmo w16 rfl (jmc S9 rfl (jmc S6 rfl qu2))) J Sm)
    ·
      refine x_aloadn (x := 95) rfl rfl ?_
      refine x_iconst (v := 1) rfl ki_1 ?_
      refine x_iloadn (x := v7) rfl rfl ?_
      refine x_inv (N := m_X2_readPart) (As := [.int 1, .int v7]) (b := 95) (st := []) (dx9 := 3) (mc := 0) (ms := 0) (host := "") 2 rfl t_X2_readPart ⟨Or.inl q_2_141, i_X2_readPart.1, i_X2_readPart.2⟩ ⟨by decide, rfl⟩ (congrArg Prod.fst (J.1.1 95 (2, 6) rfl)) rfl (by decide) rfl rfl ⟨by decide, by decide⟩ (sf_X2_readPart_r95 (jr_of jk_1 (by omega)) hD J (jmc S6 rfl qu2) (jmc S6 rfl qu3) (by omega)  (fun v20 h ev20 J S17 u18 u19 qu18 qu19 ru18 => ?_))
      have Sm := jSm_tr rfl Sm S17
      have eu18 := (show 0 ≤ u18.toInt ∧ u18.toInt ≤ 3 from qu18 ▸ jrg_f J sg_68_5_6_1_0_1)
      have eu19 := (show 0 ≤ u19.toInt ∧ u19.toInt ≤ 400 from qu19 ▸ jrg_f J sg_68_3_4_1_0_1)
      show jX m_X2_readFactor 5 0 0 79 [(2, .int v7), (0, .ref 95), (1, .int 8)] [.int v20] _ 0 0 _
      refine x_zret rfl rfl (jz01 (by omega)) ?_
      exact hQ _ _ (jr_of rfl (by omega)) J Sm _ _ qu18 qu19 (by omega)
  ·
    refine x_iloadn (x := 8) rfl rfl ?_
    refine x_bipush (v := 8) rfl kb_8 ?_
    refine x_iclt (tgt := 26) rfl rfl (ti_lt jk_8 jk_8 (br_f (by omega) ?_))
    refine x_aloadn (x := 95) rfl rfl ?_
    refine z_getR (N := 6) (b := 68) 2 0 rfl f_2_30 rfl J rfl 12160 ⟨rfl, rfl⟩ rfl ?_
    refine x_inv (N := m_X9_blame) (As := []) (b := 68) (st := []) (dx9 := 4) (mc := 0) (ms := 0) (host := "") 9 rfl t_X9_blame ⟨Or.inl q_2_59, i_X9_blame.1, i_X9_blame.2⟩ ⟨by decide, rfl⟩ (congrArg Prod.fst (J.1.1 68 (9, 6) rfl)) rfl (by decide) rfl rfl ⟨by decide, by decide⟩ (jC.of rfl k_X9_blame rfl ?_)
    show jX m_X9_blame 4 0 0 0 [(0, .ref 68)] [] _ 0 0 _
    refine x_aloadn (x := 68) rfl rfl ?_
    refine x_aloadn (x := 68) rfl rfl ?_
    refine z_getM (N := 6) (v := u3) 9 3 rfl f_9_22 rfl J rfl qu3 ?_
    refine z_putI (N := 6) (w := u3.toInt) 9 2 rfl f_9_19 rfl (jfin_no TX9 RX9 6 rfl rfl) hD J Sm rfl rfl rfl (pw_68_2 (by omega)) rfl (fun h w21 J Sm => ?_)
    refine x_iconst (v := 0) rfl ki_0 ?_
    refine x_zret rfl rfl (by decide) ?_
    show jX m_X2_readFactor 5 0 0 25 [(0, .ref 95), (1, .int 8)] [.int 0] _ 0 0 _
    refine x_zret rfl rfl (by decide) ?_
    exact hQ _ _ (jr_of jk_0 (by omega)) J Sm _ _ (jmo w21 rfl qu2) (jmo w21 rfl qu3) (by omega)
def fp_X2_readSum_r95_c8 : jFp := [(68, 2, 3), (68, 3, 4), (68, 4, 5), (68, 5, 6), (95, 4, 5), (95, 5, 6), (97, 0, 1200)]
set_option maxRecDepth 100000 in
set_option maxHeartbeats 4000000 in
theorem ct_X2_readSum_r95_c8_100148 {Dy : jH → Prop} {h0 : jH} {Q : Option Value → jH → Prop} {R4 : Int} (hD : jDk Dy) (hQ : ∀ (v : Int32) hx9, 0 ≤ v.toInt ∧ v.toInt ≤ 1 → jJ jSgX Dy hx9 → jSm fp_X2_readSum_r95_c8 h0 hx9 → ∀ u0 u1 : Int32, jiv hx9 68 5 = u0 → jiv hx9 68 3 = u1 → (u0.toInt ≠ 3 ∨ u1.toInt ≤ 399) → Q (some (.int v)) hx9) (k4 : ∀ (l2 : Int32) (l3 : Int32) (g0 : Int32) (g1 : Int32) (h : jH), 400 - l3.toInt < R4 → (-1) ≤ l2.toInt ∧ l2.toInt ≤ 4 → 0 ≤ l3.toInt ∧ l3.toInt ≤ 400 → 0 ≤ g0.toInt ∧ g0.toInt ≤ 400 → 0 ≤ g1.toInt ∧ g1.toInt ≤ 3 → (g1.toInt ≠ 3 ∨ g0.toInt ≤ 399) → jiv h 68 3 = g0 → jiv h 68 5 = g1 → jJ jSgX Dy h → jSm fp_X2_readSum_r95_c8 h0 h → jX m_X2_readSum 6 0 0 4 [(0, .ref 95), (1, .int 8), (2, .int l2), (3, .int l3)] [] h 0 0 Q) : ∀ (l3 : Int32) (g0 : Int32) (g1 : Int32) (h : jH), 0 ≤ l3.toInt ∧ l3.toInt ≤ 399 → 0 ≤ g0.toInt ∧ g0.toInt ≤ 400 → 0 ≤ g1.toInt ∧ g1.toInt ≤ 3 → (g1.toInt ≠ 3 ∨ g0.toInt ≤ 399) → jiv h 68 3 = g0 → jiv h 68 5 = g1 → 400 - l3.toInt ≤ R4 → jJ jSgX Dy h → jSm fp_X2_readSum_r95_c8 h0 h → jX m_X2_readSum 6 0 0 148 [(0, .ref 95), (1, .int 8), (3, .int l3)] [.int (-1)] h 0 0 Q := by
  intro l3 g0 g1 h y0 y1 y2 y3 z0 z1 m4 J Sm
  refine x_istoren (lsx9 := [(2, .int (-1)), (0, .ref 95), (1, .int 8), (3, .int l3)]) rfl rfl rfl ?_
  refine x_iloadn (x := (-1)) rfl rfl ?_
  refine x_iconst (v := (-1)) rfl ki_m1 ?_
  refine x_icne (tgt := 156) rfl rfl (ti_ne jk_m1 jk_m1 (bn_f (by omega) ?_))
  refine x_iconst (v := 1) rfl ki_1 ?_
  refine x_zret rfl rfl (by decide) ?_
  exact hQ _ _ (jr_of jk_1 (by omega)) J Sm _ _ z1 z0 (by omega)
set_option maxRecDepth 100000 in
set_option maxHeartbeats 4000000 in
theorem ct_X2_readSum_r95_c8_600148 {Dy : jH → Prop} {h0 : jH} {Q : Option Value → jH → Prop} {R4 : Int} (hD : jDk Dy) (hQ : ∀ (v : Int32) hx9, 0 ≤ v.toInt ∧ v.toInt ≤ 1 → jJ jSgX Dy hx9 → jSm fp_X2_readSum_r95_c8 h0 hx9 → ∀ u0 u1 : Int32, jiv hx9 68 5 = u0 → jiv hx9 68 3 = u1 → (u0.toInt ≠ 3 ∨ u1.toInt ≤ 399) → Q (some (.int v)) hx9) (k4 : ∀ (l2 : Int32) (l3 : Int32) (g0 : Int32) (g1 : Int32) (h : jH), 400 - l3.toInt < R4 → (-1) ≤ l2.toInt ∧ l2.toInt ≤ 4 → 0 ≤ l3.toInt ∧ l3.toInt ≤ 400 → 0 ≤ g0.toInt ∧ g0.toInt ≤ 400 → 0 ≤ g1.toInt ∧ g1.toInt ≤ 3 → (g1.toInt ≠ 3 ∨ g0.toInt ≤ 399) → jiv h 68 3 = g0 → jiv h 68 5 = g1 → jJ jSgX Dy h → jSm fp_X2_readSum_r95_c8 h0 h → jX m_X2_readSum 6 0 0 4 [(0, .ref 95), (1, .int 8), (2, .int l2), (3, .int l3)] [] h 0 0 Q) : ∀ (l3 : Int32) (g0 : Int32) (g1 : Int32) (h : jH), 0 ≤ l3.toInt ∧ l3.toInt ≤ 399 → 0 ≤ g0.toInt ∧ g0.toInt ≤ 400 → 0 ≤ g1.toInt ∧ g1.toInt ≤ 3 → (g1.toInt ≠ 3 ∨ g0.toInt ≤ 399) → jiv h 68 3 = g0 → jiv h 68 5 = g1 → 400 - l3.toInt ≤ R4 → jJ jSgX Dy h → jSm fp_X2_readSum_r95_c8 h0 h → jX m_X2_readSum 6 0 0 148 [(0, .ref 95), (1, .int 8), (3, .int l3)] [.int 4] h 0 0 Q := by
  intro l3 g0 g1 h y0 y1 y2 y3 z0 z1 m4 J Sm
  refine x_istoren (lsx9 := [(2, .int 4), (0, .ref 95), (1, .int 8), (3, .int l3)]) rfl rfl rfl ?_
  refine x_iloadn (x := 4) rfl rfl ?_
  refine x_iconst (v := (-1)) rfl ki_m1 ?_
  refine x_icne (tgt := 156) rfl rfl (ti_ne jk_4 jk_m1 (bn_t (by omega) ?_))
  refine x_aloadn (x := 95) rfl rfl ?_
  refine z_getR (N := 6) (b := 68) 2 0 rfl f_2_30 rfl J rfl 12160 ⟨rfl, rfl⟩ rfl ?_
  refine x_inv (N := m_X9_step) (As := []) (b := 68) (st := []) (dx9 := 2) (mc := 0) (ms := 0) (host := "") 9 rfl t_X9_step ⟨Or.inl q_2_62, i_X9_step.1, i_X9_step.2⟩ ⟨by decide, rfl⟩ (congrArg Prod.fst (J.1.1 68 (9, 6) rfl)) rfl (by decide) rfl rfl ⟨by decide, by decide⟩ (sf_X9_step_r68  hD J z1 z0 (by omega)  (fun h J S1 u2 u3 qu2 qu3 ru2 => ?_))
  have Sm := jSm_tr rfl Sm S1
  have eu2 := (show 0 ≤ u2.toInt ∧ u2.toInt ≤ 3 from qu2 ▸ jrg_f J sg_68_5_6_1_0_1)
  have eu3 := (show 0 ≤ u3.toInt ∧ u3.toInt ≤ 400 from qu3 ▸ jrg_f J sg_68_3_4_1_0_1)
  show jX m_X2_readSum 6 0 0 163 [(2, .int 4), (0, .ref 95), (1, .int 8), (3, .int l3)] [] _ 0 0 _
  refine z_iinc (x := l3) (lsx9 := fun v4 => [(3, .int v4), (2, .int 4), (0, .ref 95), (1, .int 8)]) rfl rfl rfl jko_1 (by omega) rfl (fun _ => rfl) (fun v4 ev4 => ?_)
  refine x_goto (tgt := 4) rfl rfl ?_
  exact jX.sub (jsb_c rfl (jsb_c rfl (jsb_c rfl (jsb_c rfl jsb_n)))) (k4 4 v4 u3 u2 h (by omega) (jr_of jk_4 (by omega)) (jr_of rfl (by omega)) (jr_of rfl (by omega)) (jr_of rfl (by omega)) (by omega) qu3 qu2 J Sm)
set_option maxRecDepth 100000 in
set_option maxHeartbeats 4000000 in
theorem ct_X2_readSum_r95_c8_500148 {Dy : jH → Prop} {h0 : jH} {Q : Option Value → jH → Prop} {R4 : Int} (hD : jDk Dy) (hQ : ∀ (v : Int32) hx9, 0 ≤ v.toInt ∧ v.toInt ≤ 1 → jJ jSgX Dy hx9 → jSm fp_X2_readSum_r95_c8 h0 hx9 → ∀ u0 u1 : Int32, jiv hx9 68 5 = u0 → jiv hx9 68 3 = u1 → (u0.toInt ≠ 3 ∨ u1.toInt ≤ 399) → Q (some (.int v)) hx9) (k4 : ∀ (l2 : Int32) (l3 : Int32) (g0 : Int32) (g1 : Int32) (h : jH), 400 - l3.toInt < R4 → (-1) ≤ l2.toInt ∧ l2.toInt ≤ 4 → 0 ≤ l3.toInt ∧ l3.toInt ≤ 400 → 0 ≤ g0.toInt ∧ g0.toInt ≤ 400 → 0 ≤ g1.toInt ∧ g1.toInt ≤ 3 → (g1.toInt ≠ 3 ∨ g0.toInt ≤ 399) → jiv h 68 3 = g0 → jiv h 68 5 = g1 → jJ jSgX Dy h → jSm fp_X2_readSum_r95_c8 h0 h → jX m_X2_readSum 6 0 0 4 [(0, .ref 95), (1, .int 8), (2, .int l2), (3, .int l3)] [] h 0 0 Q) : ∀ (l3 : Int32) (g0 : Int32) (g1 : Int32) (h : jH), 0 ≤ l3.toInt ∧ l3.toInt ≤ 399 → 0 ≤ g0.toInt ∧ g0.toInt ≤ 400 → 0 ≤ g1.toInt ∧ g1.toInt ≤ 3 → (g1.toInt ≠ 3 ∨ g0.toInt ≤ 399) → jiv h 68 3 = g0 → jiv h 68 5 = g1 → 400 - l3.toInt ≤ R4 → jJ jSgX Dy h → jSm fp_X2_readSum_r95_c8 h0 h → jX m_X2_readSum 6 0 0 148 [(0, .ref 95), (1, .int 8), (3, .int l3)] [.int 3] h 0 0 Q := by
  intro l3 g0 g1 h y0 y1 y2 y3 z0 z1 m4 J Sm
  refine x_istoren (lsx9 := [(2, .int 3), (0, .ref 95), (1, .int 8), (3, .int l3)]) rfl rfl rfl ?_
  refine x_iloadn (x := 3) rfl rfl ?_
  refine x_iconst (v := (-1)) rfl ki_m1 ?_
  refine x_icne (tgt := 156) rfl rfl (ti_ne jk_3 jk_m1 (bn_t (by omega) ?_))
  refine x_aloadn (x := 95) rfl rfl ?_
  refine z_getR (N := 6) (b := 68) 2 0 rfl f_2_30 rfl J rfl 12160 ⟨rfl, rfl⟩ rfl ?_
  refine x_inv (N := m_X9_step) (As := []) (b := 68) (st := []) (dx9 := 2) (mc := 0) (ms := 0) (host := "") 9 rfl t_X9_step ⟨Or.inl q_2_62, i_X9_step.1, i_X9_step.2⟩ ⟨by decide, rfl⟩ (congrArg Prod.fst (J.1.1 68 (9, 6) rfl)) rfl (by decide) rfl rfl ⟨by decide, by decide⟩ (sf_X9_step_r68  hD J z1 z0 (by omega)  (fun h J S1 u2 u3 qu2 qu3 ru2 => ?_))
  have Sm := jSm_tr rfl Sm S1
  have eu2 := (show 0 ≤ u2.toInt ∧ u2.toInt ≤ 3 from qu2 ▸ jrg_f J sg_68_5_6_1_0_1)
  have eu3 := (show 0 ≤ u3.toInt ∧ u3.toInt ≤ 400 from qu3 ▸ jrg_f J sg_68_3_4_1_0_1)
  show jX m_X2_readSum 6 0 0 163 [(2, .int 3), (0, .ref 95), (1, .int 8), (3, .int l3)] [] _ 0 0 _
  refine z_iinc (x := l3) (lsx9 := fun v4 => [(3, .int v4), (2, .int 3), (0, .ref 95), (1, .int 8)]) rfl rfl rfl jko_1 (by omega) rfl (fun _ => rfl) (fun v4 ev4 => ?_)
  refine x_goto (tgt := 4) rfl rfl ?_
  exact jX.sub (jsb_c rfl (jsb_c rfl (jsb_c rfl (jsb_c rfl jsb_n)))) (k4 3 v4 u3 u2 h (by omega) (jr_of jk_3 (by omega)) (jr_of rfl (by omega)) (jr_of rfl (by omega)) (jr_of rfl (by omega)) (by omega) qu3 qu2 J Sm)
set_option maxRecDepth 100000 in
set_option maxHeartbeats 4000000 in
theorem ct_X2_readSum_r95_c8_115 {Dy : jH → Prop} {h0 : jH} {Q : Option Value → jH → Prop} {R4 : Int} (hD : jDk Dy) (hQ : ∀ (v : Int32) hx9, 0 ≤ v.toInt ∧ v.toInt ≤ 1 → jJ jSgX Dy hx9 → jSm fp_X2_readSum_r95_c8 h0 hx9 → ∀ u0 u1 : Int32, jiv hx9 68 5 = u0 → jiv hx9 68 3 = u1 → (u0.toInt ≠ 3 ∨ u1.toInt ≤ 399) → Q (some (.int v)) hx9) (k4 : ∀ (l2 : Int32) (l3 : Int32) (g0 : Int32) (g1 : Int32) (h : jH), 400 - l3.toInt < R4 → (-1) ≤ l2.toInt ∧ l2.toInt ≤ 4 → 0 ≤ l3.toInt ∧ l3.toInt ≤ 400 → 0 ≤ g0.toInt ∧ g0.toInt ≤ 400 → 0 ≤ g1.toInt ∧ g1.toInt ≤ 3 → (g1.toInt ≠ 3 ∨ g0.toInt ≤ 399) → jiv h 68 3 = g0 → jiv h 68 5 = g1 → jJ jSgX Dy h → jSm fp_X2_readSum_r95_c8 h0 h → jX m_X2_readSum 6 0 0 4 [(0, .ref 95), (1, .int 8), (2, .int l2), (3, .int l3)] [] h 0 0 Q) : ∀ (l3 : Int32) (g0 : Int32) (g1 : Int32) (h : jH), 0 ≤ l3.toInt ∧ l3.toInt ≤ 399 → 0 ≤ g0.toInt ∧ g0.toInt ≤ 400 → 0 ≤ g1.toInt ∧ g1.toInt ≤ 3 → (g1.toInt ≠ 3 ∨ g0.toInt ≤ 399) → jiv h 68 3 = g0 → jiv h 68 5 = g1 → 400 - l3.toInt ≤ R4 → jJ jSgX Dy h → jSm fp_X2_readSum_r95_c8 h0 h → jX m_X2_readSum 6 0 0 115 [(0, .ref 95), (1, .int 8), (3, .int l3)] [] h 0 0 Q := by
  intro l3 g0 g1 h y0 y1 y2 y3 z0 z1 m4 J Sm
  refine x_aloadn (x := 95) rfl rfl ?_
  refine z_getR (N := 6) (b := 68) 2 0 rfl f_2_30 rfl J rfl 12160 ⟨rfl, rfl⟩ rfl ?_
  refine x_bipush (v := 43) rfl kb_43 ?_
  refine x_inv (N := m_X9_isSign) (As := [.int 43]) (b := 68) (st := []) (dx9 := 1) (mc := 0) (ms := 0) (host := "") 9 rfl t_X9_isSign ⟨Or.inl q_2_55, i_X9_isSign.1, i_X9_isSign.2⟩ ⟨by decide, rfl⟩ (congrArg Prod.fst (J.1.1 68 (9, 6) rfl)) rfl (by decide) rfl rfl ⟨by decide, by decide⟩ (sf_X9_isSign_r68 (jr_of jk_43 (by omega)) hD J z1 z0 (by omega)  (fun v4 h ev4 J S1 u2 u3 qu2 qu3 ru2 => ?_))
  have Sm := jSm_tr rfl Sm S1
  have eu2 := (show 0 ≤ u2.toInt ∧ u2.toInt ≤ 3 from qu2 ▸ jrg_f J sg_68_5_6_1_0_1)
  have eu3 := (show 0 ≤ u3.toInt ∧ u3.toInt ≤ 400 from qu3 ▸ jrg_f J sg_68_3_4_1_0_1)
  show jX m_X2_readSum 6 0 0 124 [(0, .ref 95), (1, .int 8), (3, .int l3)] [.int v4] _ 0 0 _
  refine x_ifeq (tgt := 131) rfl rfl (ti_eq rfl jk_0 ⟨fun c5 => ?_, fun c5 => ?_⟩)
  ·
    refine x_aloadn (x := 95) rfl rfl ?_
    refine z_getR (N := 6) (b := 68) 2 0 rfl f_2_30 rfl J rfl 12160 ⟨rfl, rfl⟩ rfl ?_
    refine x_bipush (v := 45) rfl kb_45 ?_
    refine x_inv (N := m_X9_isSign) (As := [.int 45]) (b := 68) (st := []) (dx9 := 1) (mc := 0) (ms := 0) (host := "") 9 rfl t_X9_isSign ⟨Or.inl q_2_55, i_X9_isSign.1, i_X9_isSign.2⟩ ⟨by decide, rfl⟩ (congrArg Prod.fst (J.1.1 68 (9, 6) rfl)) rfl (by decide) rfl rfl ⟨by decide, by decide⟩ (sf_X9_isSign_r68 (jr_of jk_45 (by omega)) hD J qu2 qu3 (by omega)  (fun v9 h ev9 J S6 u7 u8 qu7 qu8 ru7 => ?_))
    have Sm := jSm_tr rfl Sm S6
    have eu7 := (show 0 ≤ u7.toInt ∧ u7.toInt ≤ 3 from qu7 ▸ jrg_f J sg_68_5_6_1_0_1)
    have eu8 := (show 0 ≤ u8.toInt ∧ u8.toInt ≤ 400 from qu8 ▸ jrg_f J sg_68_3_4_1_0_1)
    show jX m_X2_readSum 6 0 0 140 [(0, .ref 95), (1, .int 8), (3, .int l3)] [.int v9] _ 0 0 _
    refine x_ifeq (tgt := 147) rfl rfl (ti_eq rfl jk_0 ⟨fun c10 => ?_, fun c10 => ?_⟩)
    ·
      refine x_iconst (v := (-1)) rfl ki_m1 ?_
      exact jX.sub (jsb_c rfl (jsb_c rfl (jsb_c rfl jsb_n))) (ct_X2_readSum_r95_c8_100148 hD hQ k4 l3 u8 u7 h (jr_of rfl (by omega)) (jr_of rfl (by omega)) (jr_of rfl (by omega)) (by omega) qu8 qu7 (by omega) J Sm)
    ·
      refine x_iconst (v := 4) rfl ki_4 ?_
      refine x_goto (tgt := 148) rfl rfl ?_
      exact jX.sub (jsb_c rfl (jsb_c rfl (jsb_c rfl jsb_n))) (ct_X2_readSum_r95_c8_600148 hD hQ k4 l3 u8 u7 h (jr_of rfl (by omega)) (jr_of rfl (by omega)) (jr_of rfl (by omega)) (by omega) qu8 qu7 (by omega) J Sm)
  ·
    refine x_iconst (v := 3) rfl ki_3 ?_
    refine x_goto (tgt := 148) rfl rfl ?_
    exact jX.sub (jsb_c rfl (jsb_c rfl (jsb_c rfl jsb_n))) (ct_X2_readSum_r95_c8_500148 hD hQ k4 l3 u3 u2 h (jr_of rfl (by omega)) (jr_of rfl (by omega)) (jr_of rfl (by omega)) (by omega) qu3 qu2 (by omega) J Sm)
set_option maxRecDepth 100000 in
set_option maxHeartbeats 4000000 in
theorem ct_X2_readSum_r95_c8_105 {Dy : jH → Prop} {h0 : jH} {Q : Option Value → jH → Prop} {R4 : Int} (hD : jDk Dy) (hQ : ∀ (v : Int32) hx9, 0 ≤ v.toInt ∧ v.toInt ≤ 1 → jJ jSgX Dy hx9 → jSm fp_X2_readSum_r95_c8 h0 hx9 → ∀ u0 u1 : Int32, jiv hx9 68 5 = u0 → jiv hx9 68 3 = u1 → (u0.toInt ≠ 3 ∨ u1.toInt ≤ 399) → Q (some (.int v)) hx9) (k4 : ∀ (l2 : Int32) (l3 : Int32) (g0 : Int32) (g1 : Int32) (h : jH), 400 - l3.toInt < R4 → (-1) ≤ l2.toInt ∧ l2.toInt ≤ 4 → 0 ≤ l3.toInt ∧ l3.toInt ≤ 400 → 0 ≤ g0.toInt ∧ g0.toInt ≤ 400 → 0 ≤ g1.toInt ∧ g1.toInt ≤ 3 → (g1.toInt ≠ 3 ∨ g0.toInt ≤ 399) → jiv h 68 3 = g0 → jiv h 68 5 = g1 → jJ jSgX Dy h → jSm fp_X2_readSum_r95_c8 h0 h → jX m_X2_readSum 6 0 0 4 [(0, .ref 95), (1, .int 8), (2, .int l2), (3, .int l3)] [] h 0 0 Q) : ∀ (l2 : Int32) (l3 : Int32) (g0 : Int32) (g1 : Int32) (h : jH), (-1) ≤ l2.toInt ∧ l2.toInt ≤ 4 → 0 ≤ l3.toInt ∧ l3.toInt ≤ 399 → 0 ≤ g0.toInt ∧ g0.toInt ≤ 400 → 0 ≤ g1.toInt ∧ g1.toInt ≤ 3 → (g1.toInt ≠ 3 ∨ g0.toInt ≤ 399) → jiv h 68 3 = g0 → jiv h 68 5 = g1 → 400 - l3.toInt ≤ R4 → jJ jSgX Dy h → jSm fp_X2_readSum_r95_c8 h0 h → jX m_X2_readSum 6 0 0 105 [(0, .ref 95), (1, .int 8), (2, .int l2), (3, .int l3)] [] h 0 0 Q := by
  intro l2 l3 g0 g1 h y0 y1 y2 y3 y4 z0 z1 m4 J Sm
  refine x_iloadn (x := l2) rfl rfl ?_
  refine x_iconst (v := (-1)) rfl ki_m1 ?_
  refine x_iceq (tgt := 115) rfl rfl (ti_eq rfl jk_m1 ⟨fun c1 => ?_, fun c1 => ?_⟩)
  ·
    exact jX.sub (jsb_c rfl (jsb_c rfl (jsb_c rfl jsb_n))) (ct_X2_readSum_r95_c8_115 hD hQ k4 l3 g0 g1 h (jr_of rfl (by omega)) (jr_of rfl (by omega)) (jr_of rfl (by omega)) (by omega) z0 z1 (by omega) J Sm)
  ·
    refine x_aloadn (x := 95) rfl rfl ?_
    refine x_iloadn (x := l2) rfl rfl ?_
    refine x_inv (N := m_X2_emit) (As := [.int l2]) (b := 95) (st := []) (dx9 := 1) (mc := 0) (ms := 0) (host := "") 2 rfl t_X2_emit ⟨Or.inl q_2_89, i_X2_emit.1, i_X2_emit.2⟩ ⟨by decide, rfl⟩ (congrArg Prod.fst (J.1.1 95 (2, 6) rfl)) rfl (by decide) rfl rfl ⟨by decide, by decide⟩ (sf_X2_emit_r95  hD J  (fun h J S2 => ?_))
    have Sm := jSm_tr rfl Sm S2
    show jX m_X2_readSum 6 0 0 115 [(0, .ref 95), (1, .int 8), (2, .int l2), (3, .int l3)] [] _ 0 0 _
    exact jX.sub (jsb_c rfl (jsb_c rfl (jsb_c rfl jsb_n))) (ct_X2_readSum_r95_c8_115 hD hQ k4 l3 g0 g1 h (jr_of rfl (by omega)) (jr_of rfl (by omega)) (jr_of rfl (by omega)) (by omega) (jmc S2 rfl z0) (jmc S2 rfl z1) (by omega) J Sm)
set_option maxRecDepth 100000 in
set_option maxHeartbeats 4000000 in
theorem ct_X2_readSum_r95_c8_100081 {Dy : jH → Prop} {h0 : jH} {Q : Option Value → jH → Prop} {R4 : Int} {R17 : Int} (hD : jDk Dy) (hQ : ∀ (v : Int32) hx9, 0 ≤ v.toInt ∧ v.toInt ≤ 1 → jJ jSgX Dy hx9 → jSm fp_X2_readSum_r95_c8 h0 hx9 → ∀ u0 u1 : Int32, jiv hx9 68 5 = u0 → jiv hx9 68 3 = u1 → (u0.toInt ≠ 3 ∨ u1.toInt ≤ 399) → Q (some (.int v)) hx9) (k4 : ∀ (l2 : Int32) (l3 : Int32) (g0 : Int32) (g1 : Int32) (h : jH), 400 - l3.toInt < R4 → (-1) ≤ l2.toInt ∧ l2.toInt ≤ 4 → 0 ≤ l3.toInt ∧ l3.toInt ≤ 400 → 0 ≤ g0.toInt ∧ g0.toInt ≤ 400 → 0 ≤ g1.toInt ∧ g1.toInt ≤ 3 → (g1.toInt ≠ 3 ∨ g0.toInt ≤ 399) → jiv h 68 3 = g0 → jiv h 68 5 = g1 → jJ jSgX Dy h → jSm fp_X2_readSum_r95_c8 h0 h → jX m_X2_readSum 6 0 0 4 [(0, .ref 95), (1, .int 8), (2, .int l2), (3, .int l3)] [] h 0 0 Q) (k17 : ∀ (l2 : Int32) (l3 : Int32) (l4 : Int32) (l5 : Int32) (g0 : Int32) (g1 : Int32) (h : jH), 400 - l5.toInt < R17 → (-1) ≤ l2.toInt ∧ l2.toInt ≤ 4 → 0 ≤ l3.toInt ∧ l3.toInt ≤ 399 → (-1) ≤ l4.toInt ∧ l4.toInt ≤ 6 → 0 ≤ l5.toInt ∧ l5.toInt ≤ 400 → 0 ≤ g0.toInt ∧ g0.toInt ≤ 400 → 0 ≤ g1.toInt ∧ g1.toInt ≤ 3 → (g1.toInt ≠ 3 ∨ g0.toInt ≤ 399) → jiv h 68 3 = g0 → jiv h 68 5 = g1 → 400 - l3.toInt ≤ R4 → jJ jSgX Dy h → jSm fp_X2_readSum_r95_c8 h0 h → jX m_X2_readSum 6 0 0 17 [(0, .ref 95), (1, .int 8), (2, .int l2), (3, .int l3), (4, .int l4), (5, .int l5)] [] h 0 0 Q) : ∀ (l2 : Int32) (l3 : Int32) (l5 : Int32) (g0 : Int32) (g1 : Int32) (h : jH), (-1) ≤ l2.toInt ∧ l2.toInt ≤ 4 → 0 ≤ l3.toInt ∧ l3.toInt ≤ 399 → 0 ≤ l5.toInt ∧ l5.toInt ≤ 399 → 0 ≤ g0.toInt ∧ g0.toInt ≤ 400 → 0 ≤ g1.toInt ∧ g1.toInt ≤ 3 → (g1.toInt ≠ 3 ∨ g0.toInt ≤ 399) → jiv h 68 3 = g0 → jiv h 68 5 = g1 → 400 - l3.toInt ≤ R4 → 400 - l5.toInt ≤ R17 → jJ jSgX Dy h → jSm fp_X2_readSum_r95_c8 h0 h → jX m_X2_readSum 6 0 0 81 [(0, .ref 95), (1, .int 8), (2, .int l2), (3, .int l3), (5, .int l5)] [.int (-1)] h 0 0 Q := by
  intro l2 l3 l5 g0 g1 h y0 y1 y2 y3 y4 y5 z0 z1 m4 m17 J Sm
  refine x_istore (lsx9 := [(4, .int (-1)), (0, .ref 95), (1, .int 8), (2, .int l2), (3, .int l3), (5, .int l5)]) rfl rfl rfl ?_
  refine x_iload (x := (-1)) rfl rfl ?_
  refine x_iconst (v := (-1)) rfl ki_m1 ?_
  refine x_icne (tgt := 92) rfl rfl (ti_ne jk_m1 jk_m1 (bn_f (by omega) ?_))
  refine x_goto (tgt := 105) rfl rfl ?_
  exact jX.sub (jsb_c rfl (jsb_c rfl (jsb_c rfl (jsb_c rfl jsb_n)))) (ct_X2_readSum_r95_c8_105 hD hQ k4 l2 l3 g0 g1 h (jr_of rfl (by omega)) (jr_of rfl (by omega)) (jr_of rfl (by omega)) (jr_of rfl (by omega)) (by omega) z0 z1 (by omega) J Sm)
set_option maxRecDepth 100000 in
set_option maxHeartbeats 4000000 in
theorem ct_X2_readSum_r95_c8_800081 {Dy : jH → Prop} {h0 : jH} {Q : Option Value → jH → Prop} {R4 : Int} {R17 : Int} (hD : jDk Dy) (hQ : ∀ (v : Int32) hx9, 0 ≤ v.toInt ∧ v.toInt ≤ 1 → jJ jSgX Dy hx9 → jSm fp_X2_readSum_r95_c8 h0 hx9 → ∀ u0 u1 : Int32, jiv hx9 68 5 = u0 → jiv hx9 68 3 = u1 → (u0.toInt ≠ 3 ∨ u1.toInt ≤ 399) → Q (some (.int v)) hx9) (k4 : ∀ (l2 : Int32) (l3 : Int32) (g0 : Int32) (g1 : Int32) (h : jH), 400 - l3.toInt < R4 → (-1) ≤ l2.toInt ∧ l2.toInt ≤ 4 → 0 ≤ l3.toInt ∧ l3.toInt ≤ 400 → 0 ≤ g0.toInt ∧ g0.toInt ≤ 400 → 0 ≤ g1.toInt ∧ g1.toInt ≤ 3 → (g1.toInt ≠ 3 ∨ g0.toInt ≤ 399) → jiv h 68 3 = g0 → jiv h 68 5 = g1 → jJ jSgX Dy h → jSm fp_X2_readSum_r95_c8 h0 h → jX m_X2_readSum 6 0 0 4 [(0, .ref 95), (1, .int 8), (2, .int l2), (3, .int l3)] [] h 0 0 Q) (k17 : ∀ (l2 : Int32) (l3 : Int32) (l4 : Int32) (l5 : Int32) (g0 : Int32) (g1 : Int32) (h : jH), 400 - l5.toInt < R17 → (-1) ≤ l2.toInt ∧ l2.toInt ≤ 4 → 0 ≤ l3.toInt ∧ l3.toInt ≤ 399 → (-1) ≤ l4.toInt ∧ l4.toInt ≤ 6 → 0 ≤ l5.toInt ∧ l5.toInt ≤ 400 → 0 ≤ g0.toInt ∧ g0.toInt ≤ 400 → 0 ≤ g1.toInt ∧ g1.toInt ≤ 3 → (g1.toInt ≠ 3 ∨ g0.toInt ≤ 399) → jiv h 68 3 = g0 → jiv h 68 5 = g1 → 400 - l3.toInt ≤ R4 → jJ jSgX Dy h → jSm fp_X2_readSum_r95_c8 h0 h → jX m_X2_readSum 6 0 0 17 [(0, .ref 95), (1, .int 8), (2, .int l2), (3, .int l3), (4, .int l4), (5, .int l5)] [] h 0 0 Q) : ∀ (l2 : Int32) (l3 : Int32) (l5 : Int32) (g0 : Int32) (g1 : Int32) (h : jH), (-1) ≤ l2.toInt ∧ l2.toInt ≤ 4 → 0 ≤ l3.toInt ∧ l3.toInt ≤ 399 → 0 ≤ l5.toInt ∧ l5.toInt ≤ 399 → 0 ≤ g0.toInt ∧ g0.toInt ≤ 400 → 0 ≤ g1.toInt ∧ g1.toInt ≤ 3 → (g1.toInt ≠ 3 ∨ g0.toInt ≤ 399) → jiv h 68 3 = g0 → jiv h 68 5 = g1 → 400 - l3.toInt ≤ R4 → 400 - l5.toInt ≤ R17 → jJ jSgX Dy h → jSm fp_X2_readSum_r95_c8 h0 h → jX m_X2_readSum 6 0 0 81 [(0, .ref 95), (1, .int 8), (2, .int l2), (3, .int l3), (5, .int l5)] [.int 6] h 0 0 Q := by
  intro l2 l3 l5 g0 g1 h y0 y1 y2 y3 y4 y5 z0 z1 m4 m17 J Sm
  refine x_istore (lsx9 := [(4, .int 6), (0, .ref 95), (1, .int 8), (2, .int l2), (3, .int l3), (5, .int l5)]) rfl rfl rfl ?_
  refine x_iload (x := 6) rfl rfl ?_
  refine x_iconst (v := (-1)) rfl ki_m1 ?_
  refine x_icne (tgt := 92) rfl rfl (ti_ne jk_6 jk_m1 (bn_t (by omega) ?_))
  refine x_aloadn (x := 95) rfl rfl ?_
  refine z_getR (N := 6) (b := 68) 2 0 rfl f_2_30 rfl J rfl 12160 ⟨rfl, rfl⟩ rfl ?_
  refine x_inv (N := m_X9_step) (As := []) (b := 68) (st := []) (dx9 := 2) (mc := 0) (ms := 0) (host := "") 9 rfl t_X9_step ⟨Or.inl q_2_62, i_X9_step.1, i_X9_step.2⟩ ⟨by decide, rfl⟩ (congrArg Prod.fst (J.1.1 68 (9, 6) rfl)) rfl (by decide) rfl rfl ⟨by decide, by decide⟩ (sf_X9_step_r68  hD J z1 z0 (by omega)  (fun h J S1 u2 u3 qu2 qu3 ru2 => ?_))
  have Sm := jSm_tr rfl Sm S1
  have eu2 := (show 0 ≤ u2.toInt ∧ u2.toInt ≤ 3 from qu2 ▸ jrg_f J sg_68_5_6_1_0_1)
  have eu3 := (show 0 ≤ u3.toInt ∧ u3.toInt ≤ 400 from qu3 ▸ jrg_f J sg_68_3_4_1_0_1)
  show jX m_X2_readSum 6 0 0 99 [(4, .int 6), (0, .ref 95), (1, .int 8), (2, .int l2), (3, .int l3), (5, .int l5)] [] _ 0 0 _
  refine z_iinc (x := l5) (lsx9 := fun v4 => [(5, .int v4), (4, .int 6), (0, .ref 95), (1, .int 8), (2, .int l2), (3, .int l3)]) rfl rfl rfl jko_1 (by omega) rfl (fun _ => rfl) (fun v4 ev4 => ?_)
  refine x_goto (tgt := 17) rfl rfl ?_
  exact jX.sub (jsb_c rfl (jsb_c rfl (jsb_c rfl (jsb_c rfl (jsb_c rfl (jsb_c rfl jsb_n)))))) (k17 l2 l3 6 v4 u3 u2 h (by omega) (jr_of rfl (by omega)) (jr_of rfl (by omega)) (jr_of jk_6 (by omega)) (jr_of rfl (by omega)) (jr_of rfl (by omega)) (jr_of rfl (by omega)) (by omega) qu3 qu2 (by omega) J Sm)
set_option maxRecDepth 100000 in
set_option maxHeartbeats 4000000 in
theorem ct_X2_readSum_r95_c8_700081 {Dy : jH → Prop} {h0 : jH} {Q : Option Value → jH → Prop} {R4 : Int} {R17 : Int} (hD : jDk Dy) (hQ : ∀ (v : Int32) hx9, 0 ≤ v.toInt ∧ v.toInt ≤ 1 → jJ jSgX Dy hx9 → jSm fp_X2_readSum_r95_c8 h0 hx9 → ∀ u0 u1 : Int32, jiv hx9 68 5 = u0 → jiv hx9 68 3 = u1 → (u0.toInt ≠ 3 ∨ u1.toInt ≤ 399) → Q (some (.int v)) hx9) (k4 : ∀ (l2 : Int32) (l3 : Int32) (g0 : Int32) (g1 : Int32) (h : jH), 400 - l3.toInt < R4 → (-1) ≤ l2.toInt ∧ l2.toInt ≤ 4 → 0 ≤ l3.toInt ∧ l3.toInt ≤ 400 → 0 ≤ g0.toInt ∧ g0.toInt ≤ 400 → 0 ≤ g1.toInt ∧ g1.toInt ≤ 3 → (g1.toInt ≠ 3 ∨ g0.toInt ≤ 399) → jiv h 68 3 = g0 → jiv h 68 5 = g1 → jJ jSgX Dy h → jSm fp_X2_readSum_r95_c8 h0 h → jX m_X2_readSum 6 0 0 4 [(0, .ref 95), (1, .int 8), (2, .int l2), (3, .int l3)] [] h 0 0 Q) (k17 : ∀ (l2 : Int32) (l3 : Int32) (l4 : Int32) (l5 : Int32) (g0 : Int32) (g1 : Int32) (h : jH), 400 - l5.toInt < R17 → (-1) ≤ l2.toInt ∧ l2.toInt ≤ 4 → 0 ≤ l3.toInt ∧ l3.toInt ≤ 399 → (-1) ≤ l4.toInt ∧ l4.toInt ≤ 6 → 0 ≤ l5.toInt ∧ l5.toInt ≤ 400 → 0 ≤ g0.toInt ∧ g0.toInt ≤ 400 → 0 ≤ g1.toInt ∧ g1.toInt ≤ 3 → (g1.toInt ≠ 3 ∨ g0.toInt ≤ 399) → jiv h 68 3 = g0 → jiv h 68 5 = g1 → 400 - l3.toInt ≤ R4 → jJ jSgX Dy h → jSm fp_X2_readSum_r95_c8 h0 h → jX m_X2_readSum 6 0 0 17 [(0, .ref 95), (1, .int 8), (2, .int l2), (3, .int l3), (4, .int l4), (5, .int l5)] [] h 0 0 Q) : ∀ (l2 : Int32) (l3 : Int32) (l5 : Int32) (g0 : Int32) (g1 : Int32) (h : jH), (-1) ≤ l2.toInt ∧ l2.toInt ≤ 4 → 0 ≤ l3.toInt ∧ l3.toInt ≤ 399 → 0 ≤ l5.toInt ∧ l5.toInt ≤ 399 → 0 ≤ g0.toInt ∧ g0.toInt ≤ 400 → 0 ≤ g1.toInt ∧ g1.toInt ≤ 3 → (g1.toInt ≠ 3 ∨ g0.toInt ≤ 399) → jiv h 68 3 = g0 → jiv h 68 5 = g1 → 400 - l3.toInt ≤ R4 → 400 - l5.toInt ≤ R17 → jJ jSgX Dy h → jSm fp_X2_readSum_r95_c8 h0 h → jX m_X2_readSum 6 0 0 81 [(0, .ref 95), (1, .int 8), (2, .int l2), (3, .int l3), (5, .int l5)] [.int 5] h 0 0 Q := by
  intro l2 l3 l5 g0 g1 h y0 y1 y2 y3 y4 y5 z0 z1 m4 m17 J Sm
  refine x_istore (lsx9 := [(4, .int 5), (0, .ref 95), (1, .int 8), (2, .int l2), (3, .int l3), (5, .int l5)]) rfl rfl rfl ?_
  refine x_iload (x := 5) rfl rfl ?_
  refine x_iconst (v := (-1)) rfl ki_m1 ?_
  refine x_icne (tgt := 92) rfl rfl (ti_ne jk_5 jk_m1 (bn_t (by omega) ?_))
  refine x_aloadn (x := 95) rfl rfl ?_
  refine z_getR (N := 6) (b := 68) 2 0 rfl f_2_30 rfl J rfl 12160 ⟨rfl, rfl⟩ rfl ?_
  refine x_inv (N := m_X9_step) (As := []) (b := 68) (st := []) (dx9 := 2) (mc := 0) (ms := 0) (host := "") 9 rfl t_X9_step ⟨Or.inl q_2_62, i_X9_step.1, i_X9_step.2⟩ ⟨by decide, rfl⟩ (congrArg Prod.fst (J.1.1 68 (9, 6) rfl)) rfl (by decide) rfl rfl ⟨by decide, by decide⟩ (sf_X9_step_r68  hD J z1 z0 (by omega)  (fun h J S1 u2 u3 qu2 qu3 ru2 => ?_))
  have Sm := jSm_tr rfl Sm S1
  have eu2 := (show 0 ≤ u2.toInt ∧ u2.toInt ≤ 3 from qu2 ▸ jrg_f J sg_68_5_6_1_0_1)
  have eu3 := (show 0 ≤ u3.toInt ∧ u3.toInt ≤ 400 from qu3 ▸ jrg_f J sg_68_3_4_1_0_1)
  show jX m_X2_readSum 6 0 0 99 [(4, .int 5), (0, .ref 95), (1, .int 8), (2, .int l2), (3, .int l3), (5, .int l5)] [] _ 0 0 _
  refine z_iinc (x := l5) (lsx9 := fun v4 => [(5, .int v4), (4, .int 5), (0, .ref 95), (1, .int 8), (2, .int l2), (3, .int l3)]) rfl rfl rfl jko_1 (by omega) rfl (fun _ => rfl) (fun v4 ev4 => ?_)
  refine x_goto (tgt := 17) rfl rfl ?_
  exact jX.sub (jsb_c rfl (jsb_c rfl (jsb_c rfl (jsb_c rfl (jsb_c rfl (jsb_c rfl jsb_n)))))) (k17 l2 l3 5 v4 u3 u2 h (by omega) (jr_of rfl (by omega)) (jr_of rfl (by omega)) (jr_of jk_5 (by omega)) (jr_of rfl (by omega)) (jr_of rfl (by omega)) (jr_of rfl (by omega)) (by omega) qu3 qu2 (by omega) J Sm)
set_option maxRecDepth 100000 in
set_option maxHeartbeats 4000000 in
theorem ct_X2_readSum_r95_c8_47 {Dy : jH → Prop} {h0 : jH} {Q : Option Value → jH → Prop} {R4 : Int} {R17 : Int} (hD : jDk Dy) (hQ : ∀ (v : Int32) hx9, 0 ≤ v.toInt ∧ v.toInt ≤ 1 → jJ jSgX Dy hx9 → jSm fp_X2_readSum_r95_c8 h0 hx9 → ∀ u0 u1 : Int32, jiv hx9 68 5 = u0 → jiv hx9 68 3 = u1 → (u0.toInt ≠ 3 ∨ u1.toInt ≤ 399) → Q (some (.int v)) hx9) (k4 : ∀ (l2 : Int32) (l3 : Int32) (g0 : Int32) (g1 : Int32) (h : jH), 400 - l3.toInt < R4 → (-1) ≤ l2.toInt ∧ l2.toInt ≤ 4 → 0 ≤ l3.toInt ∧ l3.toInt ≤ 400 → 0 ≤ g0.toInt ∧ g0.toInt ≤ 400 → 0 ≤ g1.toInt ∧ g1.toInt ≤ 3 → (g1.toInt ≠ 3 ∨ g0.toInt ≤ 399) → jiv h 68 3 = g0 → jiv h 68 5 = g1 → jJ jSgX Dy h → jSm fp_X2_readSum_r95_c8 h0 h → jX m_X2_readSum 6 0 0 4 [(0, .ref 95), (1, .int 8), (2, .int l2), (3, .int l3)] [] h 0 0 Q) (k17 : ∀ (l2 : Int32) (l3 : Int32) (l4 : Int32) (l5 : Int32) (g0 : Int32) (g1 : Int32) (h : jH), 400 - l5.toInt < R17 → (-1) ≤ l2.toInt ∧ l2.toInt ≤ 4 → 0 ≤ l3.toInt ∧ l3.toInt ≤ 399 → (-1) ≤ l4.toInt ∧ l4.toInt ≤ 6 → 0 ≤ l5.toInt ∧ l5.toInt ≤ 400 → 0 ≤ g0.toInt ∧ g0.toInt ≤ 400 → 0 ≤ g1.toInt ∧ g1.toInt ≤ 3 → (g1.toInt ≠ 3 ∨ g0.toInt ≤ 399) → jiv h 68 3 = g0 → jiv h 68 5 = g1 → 400 - l3.toInt ≤ R4 → jJ jSgX Dy h → jSm fp_X2_readSum_r95_c8 h0 h → jX m_X2_readSum 6 0 0 17 [(0, .ref 95), (1, .int 8), (2, .int l2), (3, .int l3), (4, .int l4), (5, .int l5)] [] h 0 0 Q) : ∀ (l2 : Int32) (l3 : Int32) (l5 : Int32) (g0 : Int32) (g1 : Int32) (h : jH), (-1) ≤ l2.toInt ∧ l2.toInt ≤ 4 → 0 ≤ l3.toInt ∧ l3.toInt ≤ 399 → 0 ≤ l5.toInt ∧ l5.toInt ≤ 399 → 0 ≤ g0.toInt ∧ g0.toInt ≤ 400 → 0 ≤ g1.toInt ∧ g1.toInt ≤ 3 → (g1.toInt ≠ 3 ∨ g0.toInt ≤ 399) → jiv h 68 3 = g0 → jiv h 68 5 = g1 → 400 - l3.toInt ≤ R4 → 400 - l5.toInt ≤ R17 → jJ jSgX Dy h → jSm fp_X2_readSum_r95_c8 h0 h → jX m_X2_readSum 6 0 0 47 [(0, .ref 95), (1, .int 8), (2, .int l2), (3, .int l3), (5, .int l5)] [] h 0 0 Q := by
  intro l2 l3 l5 g0 g1 h y0 y1 y2 y3 y4 y5 z0 z1 m4 m17 J Sm
  refine x_aloadn (x := 95) rfl rfl ?_
  refine z_getR (N := 6) (b := 68) 2 0 rfl f_2_30 rfl J rfl 12160 ⟨rfl, rfl⟩ rfl ?_
  refine x_bipush (v := 42) rfl kb_42 ?_
  refine x_inv (N := m_X9_isSign) (As := [.int 42]) (b := 68) (st := []) (dx9 := 1) (mc := 0) (ms := 0) (host := "") 9 rfl t_X9_isSign ⟨Or.inl q_2_55, i_X9_isSign.1, i_X9_isSign.2⟩ ⟨by decide, rfl⟩ (congrArg Prod.fst (J.1.1 68 (9, 6) rfl)) rfl (by decide) rfl rfl ⟨by decide, by decide⟩ (sf_X9_isSign_r68 (jr_of jk_42 (by omega)) hD J z1 z0 (by omega)  (fun v4 h ev4 J S1 u2 u3 qu2 qu3 ru2 => ?_))
  have Sm := jSm_tr rfl Sm S1
  have eu2 := (show 0 ≤ u2.toInt ∧ u2.toInt ≤ 3 from qu2 ▸ jrg_f J sg_68_5_6_1_0_1)
  have eu3 := (show 0 ≤ u3.toInt ∧ u3.toInt ≤ 400 from qu3 ▸ jrg_f J sg_68_3_4_1_0_1)
  show jX m_X2_readSum 6 0 0 56 [(0, .ref 95), (1, .int 8), (2, .int l2), (3, .int l3), (5, .int l5)] [.int v4] _ 0 0 _
  refine x_ifeq (tgt := 63) rfl rfl (ti_eq rfl jk_0 ⟨fun c5 => ?_, fun c5 => ?_⟩)
  ·
    refine x_aloadn (x := 95) rfl rfl ?_
    refine z_getR (N := 6) (b := 68) 2 0 rfl f_2_30 rfl J rfl 12160 ⟨rfl, rfl⟩ rfl ?_
    refine x_bipush (v := 47) rfl kb_47 ?_
    refine x_inv (N := m_X9_isSign) (As := [.int 47]) (b := 68) (st := []) (dx9 := 1) (mc := 0) (ms := 0) (host := "") 9 rfl t_X9_isSign ⟨Or.inl q_2_55, i_X9_isSign.1, i_X9_isSign.2⟩ ⟨by decide, rfl⟩ (congrArg Prod.fst (J.1.1 68 (9, 6) rfl)) rfl (by decide) rfl rfl ⟨by decide, by decide⟩ (sf_X9_isSign_r68 (jr_of jk_47 (by omega)) hD J qu2 qu3 (by omega)  (fun v9 h ev9 J S6 u7 u8 qu7 qu8 ru7 => ?_))
    have Sm := jSm_tr rfl Sm S6
    have eu7 := (show 0 ≤ u7.toInt ∧ u7.toInt ≤ 3 from qu7 ▸ jrg_f J sg_68_5_6_1_0_1)
    have eu8 := (show 0 ≤ u8.toInt ∧ u8.toInt ≤ 400 from qu8 ▸ jrg_f J sg_68_3_4_1_0_1)
    show jX m_X2_readSum 6 0 0 72 [(0, .ref 95), (1, .int 8), (2, .int l2), (3, .int l3), (5, .int l5)] [.int v9] _ 0 0 _
    refine x_ifeq (tgt := 80) rfl rfl (ti_eq rfl jk_0 ⟨fun c10 => ?_, fun c10 => ?_⟩)
    ·
      refine x_iconst (v := (-1)) rfl ki_m1 ?_
      exact jX.sub (jsb_c rfl (jsb_c rfl (jsb_c rfl (jsb_c rfl (jsb_c rfl jsb_n))))) (ct_X2_readSum_r95_c8_100081 hD hQ k4 k17 l2 l3 l5 u8 u7 h (jr_of rfl (by omega)) (jr_of rfl (by omega)) (jr_of rfl (by omega)) (jr_of rfl (by omega)) (jr_of rfl (by omega)) (by omega) qu8 qu7 (by omega) (by omega) J Sm)
    ·
      refine x_bipush (v := 6) rfl kb_6 ?_
      refine x_goto (tgt := 81) rfl rfl ?_
      exact jX.sub (jsb_c rfl (jsb_c rfl (jsb_c rfl (jsb_c rfl (jsb_c rfl jsb_n))))) (ct_X2_readSum_r95_c8_800081 hD hQ k4 k17 l2 l3 l5 u8 u7 h (jr_of rfl (by omega)) (jr_of rfl (by omega)) (jr_of rfl (by omega)) (jr_of rfl (by omega)) (jr_of rfl (by omega)) (by omega) qu8 qu7 (by omega) (by omega) J Sm)
  ·
    refine x_iconst (v := 5) rfl ki_5 ?_
    refine x_goto (tgt := 81) rfl rfl ?_
    exact jX.sub (jsb_c rfl (jsb_c rfl (jsb_c rfl (jsb_c rfl (jsb_c rfl jsb_n))))) (ct_X2_readSum_r95_c8_700081 hD hQ k4 k17 l2 l3 l5 u3 u2 h (jr_of rfl (by omega)) (jr_of rfl (by omega)) (jr_of rfl (by omega)) (jr_of rfl (by omega)) (jr_of rfl (by omega)) (by omega) qu3 qu2 (by omega) (by omega) J Sm)
set_option maxRecDepth 100000 in
set_option maxHeartbeats 4000000 in
theorem ct_X2_readSum_r95_c8_17 {Dy : jH → Prop} {h0 : jH} {Q : Option Value → jH → Prop} {R4 : Int} (hD : jDk Dy) (hQ : ∀ (v : Int32) hx9, 0 ≤ v.toInt ∧ v.toInt ≤ 1 → jJ jSgX Dy hx9 → jSm fp_X2_readSum_r95_c8 h0 hx9 → ∀ u0 u1 : Int32, jiv hx9 68 5 = u0 → jiv hx9 68 3 = u1 → (u0.toInt ≠ 3 ∨ u1.toInt ≤ 399) → Q (some (.int v)) hx9) (k4 : ∀ (l2 : Int32) (l3 : Int32) (g0 : Int32) (g1 : Int32) (h : jH), 400 - l3.toInt < R4 → (-1) ≤ l2.toInt ∧ l2.toInt ≤ 4 → 0 ≤ l3.toInt ∧ l3.toInt ≤ 400 → 0 ≤ g0.toInt ∧ g0.toInt ≤ 400 → 0 ≤ g1.toInt ∧ g1.toInt ≤ 3 → (g1.toInt ≠ 3 ∨ g0.toInt ≤ 399) → jiv h 68 3 = g0 → jiv h 68 5 = g1 → jJ jSgX Dy h → jSm fp_X2_readSum_r95_c8 h0 h → jX m_X2_readSum 6 0 0 4 [(0, .ref 95), (1, .int 8), (2, .int l2), (3, .int l3)] [] h 0 0 Q) : ∀ r : Nat, ∀ (l2 : Int32) (l3 : Int32) (l4 : Int32) (l5 : Int32) (g0 : Int32) (g1 : Int32) (h : jH), 400 - l5.toInt < (r : Int) → (-1) ≤ l2.toInt ∧ l2.toInt ≤ 4 → 0 ≤ l3.toInt ∧ l3.toInt ≤ 399 → (-1) ≤ l4.toInt ∧ l4.toInt ≤ 6 → 0 ≤ l5.toInt ∧ l5.toInt ≤ 400 → 0 ≤ g0.toInt ∧ g0.toInt ≤ 400 → 0 ≤ g1.toInt ∧ g1.toInt ≤ 3 → (g1.toInt ≠ 3 ∨ g0.toInt ≤ 399) → jiv h 68 3 = g0 → jiv h 68 5 = g1 → 400 - l3.toInt ≤ R4 → jJ jSgX Dy h → jSm fp_X2_readSum_r95_c8 h0 h → jX m_X2_readSum 6 0 0 17 [(0, .ref 95), (1, .int 8), (2, .int l2), (3, .int l3), (4, .int l4), (5, .int l5)] [] h 0 0 Q := by
  intro r
  induction r with
  | zero =>
    intro l2 l3 l4 l5 g0 g1 h hm y0 y1 y2 y3 y4 y5 y6 z0 z1 m4 J Sm
    exfalso
    omega
  | succ r ih =>
    intro l2 l3 l4 l5 g0 g1 h hm y0 y1 y2 y3 y4 y5 y6 z0 z1 m4 J Sm
    refine x_iload (x := l5) rfl rfl ?_
    refine x_sipush (v := 400) rfl ks_400 ?_
    refine x_icge (tgt := 105) rfl rfl (ti_ge rfl jk_400 ⟨fun c1 => ?_, fun c1 => ?_⟩)
    ·
      exact jX.sub (jsb_c rfl (jsb_c rfl (jsb_c rfl (jsb_c rfl jsb_n)))) (ct_X2_readSum_r95_c8_105 hD hQ k4 l2 l3 g0 g1 h (jr_of rfl (by omega)) (jr_of rfl (by omega)) (jr_of rfl (by omega)) (jr_of rfl (by omega)) (by omega) z0 z1 (by omega) J Sm)
    ·
      refine x_aloadn (x := 95) rfl rfl ?_
      refine x_iloadn (x := 8) rfl rfl ?_
      refine x_inv (N := m_X2_readFactor) (As := [.int 8]) (b := 95) (st := []) (dx9 := 5) (mc := 0) (ms := 0) (host := "") 2 rfl t_X2_readFactor ⟨Or.inl q_2_144, i_X2_readFactor.1, i_X2_readFactor.2⟩ ⟨by decide, rfl⟩ (congrArg Prod.fst (J.1.1 95 (2, 6) rfl)) rfl (by decide) rfl rfl ⟨by decide, by decide⟩ (sf_X2_readFactor_r95_c8  hD J z1 z0 (by omega)  (fun v5 h ev5 J S2 u3 u4 qu3 qu4 ru3 => ?_))
      have Sm := jSm_tr rfl Sm S2
      have eu3 := (show 0 ≤ u3.toInt ∧ u3.toInt ≤ 3 from qu3 ▸ jrg_f J sg_68_5_6_1_0_1)
      have eu4 := (show 0 ≤ u4.toInt ∧ u4.toInt ≤ 400 from qu4 ▸ jrg_f J sg_68_3_4_1_0_1)
      show jX m_X2_readSum 6 0 0 30 [(0, .ref 95), (1, .int 8), (2, .int l2), (3, .int l3), (4, .int l4), (5, .int l5)] [.int v5] _ 0 0 _
      refine x_ifne (tgt := 35) rfl rfl (ti_ne rfl jk_0 ⟨fun c6 => ?_, fun c6 => ?_⟩)
      ·
        refine x_iload (x := l4) rfl rfl ?_
        refine x_iconst (v := (-1)) rfl ki_m1 ?_
        refine x_iceq (tgt := 47) rfl rfl (ti_eq rfl jk_m1 ⟨fun c7 => ?_, fun c7 => ?_⟩)
        ·
          exact jX.sub (jsb_c rfl (jsb_c rfl (jsb_c rfl (jsb_c rfl (jsb_c rfl jsb_n))))) (ct_X2_readSum_r95_c8_47 hD hQ k4 ih l2 l3 l5 u4 u3 h (jr_of rfl (by omega)) (jr_of rfl (by omega)) (jr_of rfl (by omega)) (jr_of rfl (by omega)) (jr_of rfl (by omega)) (by omega) qu4 qu3 (by omega) (by omega) J Sm)
        ·
          refine x_aloadn (x := 95) rfl rfl ?_
          refine x_iload (x := l4) rfl rfl ?_
          refine x_inv (N := m_X2_emit) (As := [.int l4]) (b := 95) (st := []) (dx9 := 1) (mc := 0) (ms := 0) (host := "") 2 rfl t_X2_emit ⟨Or.inl q_2_89, i_X2_emit.1, i_X2_emit.2⟩ ⟨by decide, rfl⟩ (congrArg Prod.fst (J.1.1 95 (2, 6) rfl)) rfl (by decide) rfl rfl ⟨by decide, by decide⟩ (sf_X2_emit_r95  hD J  (fun h J S8 => ?_))
          have Sm := jSm_tr rfl Sm S8
          show jX m_X2_readSum 6 0 0 47 [(0, .ref 95), (1, .int 8), (2, .int l2), (3, .int l3), (4, .int l4), (5, .int l5)] [] _ 0 0 _
          exact jX.sub (jsb_c rfl (jsb_c rfl (jsb_c rfl (jsb_c rfl (jsb_c rfl jsb_n))))) (ct_X2_readSum_r95_c8_47 hD hQ k4 ih l2 l3 l5 u4 u3 h (jr_of rfl (by omega)) (jr_of rfl (by omega)) (jr_of rfl (by omega)) (jr_of rfl (by omega)) (jr_of rfl (by omega)) (by omega) (jmc S8 rfl qu4) (jmc S8 rfl qu3) (by omega) (by omega) J Sm)
      ·
        refine x_iconst (v := 0) rfl ki_0 ?_
        refine x_zret rfl rfl (by decide) ?_
        exact hQ _ _ (jr_of jk_0 (by omega)) J Sm _ _ qu3 qu4 (by omega)
set_option maxRecDepth 100000 in
set_option maxHeartbeats 4000000 in
theorem ct_X2_readSum_r95_c8_4 {Dy : jH → Prop} {h0 : jH} {Q : Option Value → jH → Prop} (hD : jDk Dy) (hQ : ∀ (v : Int32) hx9, 0 ≤ v.toInt ∧ v.toInt ≤ 1 → jJ jSgX Dy hx9 → jSm fp_X2_readSum_r95_c8 h0 hx9 → ∀ u0 u1 : Int32, jiv hx9 68 5 = u0 → jiv hx9 68 3 = u1 → (u0.toInt ≠ 3 ∨ u1.toInt ≤ 399) → Q (some (.int v)) hx9) : ∀ r : Nat, ∀ (l2 : Int32) (l3 : Int32) (g0 : Int32) (g1 : Int32) (h : jH), 400 - l3.toInt < (r : Int) → (-1) ≤ l2.toInt ∧ l2.toInt ≤ 4 → 0 ≤ l3.toInt ∧ l3.toInt ≤ 400 → 0 ≤ g0.toInt ∧ g0.toInt ≤ 400 → 0 ≤ g1.toInt ∧ g1.toInt ≤ 3 → (g1.toInt ≠ 3 ∨ g0.toInt ≤ 399) → jiv h 68 3 = g0 → jiv h 68 5 = g1 → jJ jSgX Dy h → jSm fp_X2_readSum_r95_c8 h0 h → jX m_X2_readSum 6 0 0 4 [(0, .ref 95), (1, .int 8), (2, .int l2), (3, .int l3)] [] h 0 0 Q := by
  intro r
  induction r with
  | zero =>
    intro l2 l3 g0 g1 h hm y0 y1 y2 y3 y4 z0 z1  J Sm
    exfalso
    omega
  | succ r ih =>
    intro l2 l3 g0 g1 h hm y0 y1 y2 y3 y4 z0 z1  J Sm
    refine x_iloadn (x := l3) rfl rfl ?_
    refine x_sipush (v := 400) rfl ks_400 ?_
    refine x_icge (tgt := 169) rfl rfl (ti_ge rfl jk_400 ⟨fun c1 => ?_, fun c1 => ?_⟩)
    ·
      refine x_aloadn (x := 95) rfl rfl ?_
      refine z_getR (N := 6) (b := 68) 2 0 rfl f_2_30 rfl J rfl 12160 ⟨rfl, rfl⟩ rfl ?_
      refine x_inv (N := m_X9_blame) (As := []) (b := 68) (st := []) (dx9 := 5) (mc := 0) (ms := 0) (host := "") 9 rfl t_X9_blame ⟨Or.inl q_2_59, i_X9_blame.1, i_X9_blame.2⟩ ⟨by decide, rfl⟩ (congrArg Prod.fst (J.1.1 68 (9, 6) rfl)) rfl (by decide) rfl rfl ⟨by decide, by decide⟩ (jC.of rfl k_X9_blame rfl ?_)
      show jX m_X9_blame 5 0 0 0 [(0, .ref 68)] [] _ 0 0 _
      refine x_aloadn (x := 68) rfl rfl ?_
      refine x_aloadn (x := 68) rfl rfl ?_
      refine z_getM (N := 6) (v := g0) 9 3 rfl f_9_22 rfl J rfl z0 ?_
      refine z_putI (N := 6) (w := g0.toInt) 9 2 rfl f_9_19 rfl (jfin_no TX9 RX9 6 rfl rfl) hD J Sm rfl rfl rfl (pw_68_2 (by omega)) rfl (fun h w2 J Sm => ?_)
      refine x_iconst (v := 0) rfl ki_0 ?_
      refine x_zret rfl rfl (by decide) ?_
      show jX m_X2_readSum 6 0 0 176 [(0, .ref 95), (1, .int 8), (2, .int l2), (3, .int l3)] [.int 0] _ 0 0 _
      refine x_zret rfl rfl (by decide) ?_
      exact hQ _ _ (jr_of jk_0 (by omega)) J Sm _ _ (jmo w2 rfl z1) (jmo w2 rfl z0) (by omega)
    ·
      refine x_iconst (v := (-1)) rfl ki_m1 ?_
      refine x_istore (lsx9 := [(4, .int (-1)), (0, .ref 95), (1, .int 8), (2, .int l2), (3, .int l3)]) rfl rfl rfl ?_
      refine x_iconst (v := 0) rfl ki_0 ?_
      refine x_istore (lsx9 := [(5, .int 0), (4, .int (-1)), (0, .ref 95), (1, .int 8), (2, .int l2), (3, .int l3)]) rfl rfl rfl ?_
      exact jX.sub (jsb_c rfl (jsb_c rfl (jsb_c rfl (jsb_c rfl (jsb_c rfl (jsb_c rfl jsb_n)))))) (ct_X2_readSum_r95_c8_17 hD hQ ih 401 l2 l3 (-1) 0 g0 g1 h (by have := jk_0; omega) (jr_of rfl (by omega)) (jr_of rfl (by omega)) (jr_of jk_m1 (by omega)) (jr_of jk_0 (by omega)) (jr_of rfl (by omega)) (jr_of rfl (by omega)) (by omega) z0 z1 (by omega) J Sm)
set_option maxRecDepth 100000 in
set_option maxHeartbeats 4000000 in
theorem sf_X2_readSum_r95_c8 {Dy : jH → Prop} {h : jH} {Q : Option Value → jH → Prop} (hD : jDk Dy) (J : jJ jSgX Dy h) {p0 p1 : Int32} (zp0 : jiv h 68 5 = p0) (zp1 : jiv h 68 3 = p1) (rl_p0 : (p0.toInt ≠ 3 ∨ p1.toInt ≤ 399)) (hQ : ∀ (v : Int32) hx9, 0 ≤ v.toInt ∧ v.toInt ≤ 1 → jJ jSgX Dy hx9 → jSm fp_X2_readSum_r95_c8 h hx9 → ∀ u0 u1 : Int32, jiv hx9 68 5 = u0 → jiv hx9 68 3 = u1 → (u0.toInt ≠ 3 ∨ u1.toInt ≤ 399) → Q (some (.int v)) hx9) : jC m_X2_readSum 6 0 0 [.ref 95, .int 8] h Q := by
  refine jC.of rfl k_X2_readSum rfl ?_
  have Sm := jSm_rf fp_X2_readSum_r95_c8 h
  have ep0 := (show 0 ≤ p0.toInt ∧ p0.toInt ≤ 3 from zp0 ▸ jrg_f J sg_68_5_6_1_0_1)
  have ep1 := (show 0 ≤ p1.toInt ∧ p1.toInt ≤ 400 from zp1 ▸ jrg_f J sg_68_3_4_1_0_1)
  show jX m_X2_readSum 6 0 0 0 [(0, .ref 95), (1, .int 8)] [] _ 0 0 _
  refine x_iconst (v := (-1)) rfl ki_m1 ?_
  refine x_istoren (lsx9 := [(2, .int (-1)), (0, .ref 95), (1, .int 8)]) rfl rfl rfl ?_
  refine x_iconst (v := 0) rfl ki_0 ?_
  refine x_istoren (lsx9 := [(3, .int 0), (2, .int (-1)), (0, .ref 95), (1, .int 8)]) rfl rfl rfl ?_
  exact jX.sub (jsb_c rfl (jsb_c rfl (jsb_c rfl (jsb_c rfl jsb_n)))) (ct_X2_readSum_r95_c8_4 hD hQ  401 (-1) 0 p1 p0 h (by have := jk_0; omega) (jr_of jk_m1 (by omega)) (jr_of jk_0 (by omega)) (jr_of rfl (by omega)) (jr_of rfl (by omega)) (by omega) zp1 zp0 J Sm)
def fp_X2_readFactor_r95_c7 : jFp := [(68, 2, 3), (68, 3, 4), (68, 4, 5), (68, 5, 6), (95, 4, 5), (95, 5, 6), (97, 0, 1200)]
set_option maxRecDepth 100000 in
set_option maxHeartbeats 4000000 in
theorem ct_X2_readFactor_r95_c7_111 {Dy : jH → Prop} {h0 : jH} {Q : Option Value → jH → Prop} (hD : jDk Dy) (hQ : ∀ (v : Int32) hx9, 0 ≤ v.toInt ∧ v.toInt ≤ 1 → jJ jSgX Dy hx9 → jSm fp_X2_readFactor_r95_c7 h0 hx9 → ∀ u0 u1 : Int32, jiv hx9 68 5 = u0 → jiv hx9 68 3 = u1 → (u0.toInt ≠ 3 ∨ u1.toInt ≤ 399) → Q (some (.int v)) hx9) : ∀ (s0 : Int32) (g0 : Int32) (g1 : Int32) (h : jH), 0 ≤ s0.toInt ∧ s0.toInt ≤ 1 → 0 ≤ g0.toInt ∧ g0.toInt ≤ 400 → 0 ≤ g1.toInt ∧ g1.toInt ≤ 3 → (g1.toInt ≠ 3 ∨ g0.toInt ≤ 399) → jiv h 68 3 = g0 → jiv h 68 5 = g1 → jJ jSgX Dy h → jSm fp_X2_readFactor_r95_c7 h0 h → jX m_X2_readFactor 7 0 0 111 [] [.int s0] h 0 0 Q := by
  intro s0 g0 g1 h y0 y1 y2 y3 z0 z1  J Sm
  refine x_zret rfl rfl (jz01 (by omega)) ?_
  exact hQ _ _ (jr_of rfl (by omega)) J Sm _ _ z1 z0 (by omega)
set_option maxRecDepth 100000 in
set_option maxHeartbeats 4000000 in
theorem ct_X2_readFactor_r95_c7_200111 {Dy : jH → Prop} {h0 : jH} {Q : Option Value → jH → Prop} (hD : jDk Dy) (hQ : ∀ (v : Int32) hx9, 0 ≤ v.toInt ∧ v.toInt ≤ 1 → jJ jSgX Dy hx9 → jSm fp_X2_readFactor_r95_c7 h0 hx9 → ∀ u0 u1 : Int32, jiv hx9 68 5 = u0 → jiv hx9 68 3 = u1 → (u0.toInt ≠ 3 ∨ u1.toInt ≤ 399) → Q (some (.int v)) hx9) : ∀ (g0 : Int32) (g1 : Int32) (h : jH), 0 ≤ g0.toInt ∧ g0.toInt ≤ 400 → 0 ≤ g1.toInt ∧ g1.toInt ≤ 3 → (g1.toInt ≠ 3 ∨ g0.toInt ≤ 399) → jiv h 68 3 = g0 → jiv h 68 5 = g1 → jJ jSgX Dy h → jSm fp_X2_readFactor_r95_c7 h0 h → jX m_X2_readFactor 7 0 0 111 [] [.int 0] h 0 0 Q := by
  intro g0 g1 h y0 y1 y2 z0 z1  J Sm
  refine x_zret rfl rfl (by decide) ?_
  exact hQ _ _ (jr_of jk_0 (by omega)) J Sm _ _ z1 z0 (by omega)
set_option maxRecDepth 100000 in
set_option maxHeartbeats 4000000 in
theorem ct_X2_readFactor_r95_c7_300057 {Dy : jH → Prop} {h0 : jH} {Q : Option Value → jH → Prop} (hD : jDk Dy) (hQ : ∀ (v : Int32) hx9, 0 ≤ v.toInt ∧ v.toInt ≤ 1 → jJ jSgX Dy hx9 → jSm fp_X2_readFactor_r95_c7 h0 hx9 → ∀ u0 u1 : Int32, jiv hx9 68 5 = u0 → jiv hx9 68 3 = u1 → (u0.toInt ≠ 3 ∨ u1.toInt ≤ 399) → Q (some (.int v)) hx9) : ∀ (g0 : Int32) (g1 : Int32) (h : jH), 0 ≤ g0.toInt ∧ g0.toInt ≤ 400 → 0 ≤ g1.toInt ∧ g1.toInt ≤ 3 → (g1.toInt ≠ 3 ∨ g0.toInt ≤ 399) → jiv h 68 3 = g0 → jiv h 68 5 = g1 → jJ jSgX Dy h → jSm fp_X2_readFactor_r95_c7 h0 h → jX m_X2_readFactor 7 0 0 57 [] [.int 1] h 0 0 Q := by
  intro g0 g1 h y0 y1 y2 z0 z1  J Sm
  refine x_zret rfl rfl (by decide) ?_
  exact hQ _ _ (jr_of jk_1 (by omega)) J Sm _ _ z1 z0 (by omega)
set_option maxRecDepth 100000 in
set_option maxHeartbeats 4000000 in
theorem ct_X2_readFactor_r95_c7_200057 {Dy : jH → Prop} {h0 : jH} {Q : Option Value → jH → Prop} (hD : jDk Dy) (hQ : ∀ (v : Int32) hx9, 0 ≤ v.toInt ∧ v.toInt ≤ 1 → jJ jSgX Dy hx9 → jSm fp_X2_readFactor_r95_c7 h0 hx9 → ∀ u0 u1 : Int32, jiv hx9 68 5 = u0 → jiv hx9 68 3 = u1 → (u0.toInt ≠ 3 ∨ u1.toInt ≤ 399) → Q (some (.int v)) hx9) : ∀ (g0 : Int32) (g1 : Int32) (h : jH), 0 ≤ g0.toInt ∧ g0.toInt ≤ 400 → 0 ≤ g1.toInt ∧ g1.toInt ≤ 3 → (g1.toInt ≠ 3 ∨ g0.toInt ≤ 399) → jiv h 68 3 = g0 → jiv h 68 5 = g1 → jJ jSgX Dy h → jSm fp_X2_readFactor_r95_c7 h0 h → jX m_X2_readFactor 7 0 0 57 [] [.int 0] h 0 0 Q := by
  intro g0 g1 h y0 y1 y2 z0 z1  J Sm
  refine x_zret rfl rfl (by decide) ?_
  exact hQ _ _ (jr_of jk_0 (by omega)) J Sm _ _ z1 z0 (by omega)
set_option maxRecDepth 100000 in
set_option maxHeartbeats 4000000 in
theorem ct_X2_readFactor_r95_c7_56 {Dy : jH → Prop} {h0 : jH} {Q : Option Value → jH → Prop} (hD : jDk Dy) (hQ : ∀ (v : Int32) hx9, 0 ≤ v.toInt ∧ v.toInt ≤ 1 → jJ jSgX Dy hx9 → jSm fp_X2_readFactor_r95_c7 h0 hx9 → ∀ u0 u1 : Int32, jiv hx9 68 5 = u0 → jiv hx9 68 3 = u1 → (u0.toInt ≠ 3 ∨ u1.toInt ≤ 399) → Q (some (.int v)) hx9) : ∀ (g0 : Int32) (g1 : Int32) (h : jH), 0 ≤ g0.toInt ∧ g0.toInt ≤ 400 → 0 ≤ g1.toInt ∧ g1.toInt ≤ 3 → (g1.toInt ≠ 3 ∨ g0.toInt ≤ 399) → jiv h 68 3 = g0 → jiv h 68 5 = g1 → jJ jSgX Dy h → jSm fp_X2_readFactor_r95_c7 h0 h → jX m_X2_readFactor 7 0 0 56 [] [] h 0 0 Q := by
  intro g0 g1 h y0 y1 y2 z0 z1  J Sm
  refine x_iconst (v := 0) rfl ki_0 ?_
  exact jX.sub jsb_n (ct_X2_readFactor_r95_c7_200057 hD hQ  g0 g1 h (jr_of rfl (by omega)) (jr_of rfl (by omega)) (by omega) z0 z1 J Sm)
set_option maxRecDepth 100000 in
set_option maxHeartbeats 4000000 in
theorem sf_X2_readFactor_r95_c7 {Dy : jH → Prop} {h : jH} {Q : Option Value → jH → Prop} (hD : jDk Dy) (J : jJ jSgX Dy h) {p0 p1 : Int32} (zp0 : jiv h 68 5 = p0) (zp1 : jiv h 68 3 = p1) (rl_p0 : (p0.toInt ≠ 3 ∨ p1.toInt ≤ 399)) (hQ : ∀ (v : Int32) hx9, 0 ≤ v.toInt ∧ v.toInt ≤ 1 → jJ jSgX Dy hx9 → jSm fp_X2_readFactor_r95_c7 h hx9 → ∀ u0 u1 : Int32, jiv hx9 68 5 = u0 → jiv hx9 68 3 = u1 → (u0.toInt ≠ 3 ∨ u1.toInt ≤ 399) → Q (some (.int v)) hx9) : jC m_X2_readFactor 7 0 0 [.ref 95, .int 7] h Q := by
  refine jC.of rfl k_X2_readFactor rfl ?_
  have Sm := jSm_rf fp_X2_readFactor_r95_c7 h
  have ep0 := (show 0 ≤ p0.toInt ∧ p0.toInt ≤ 3 from zp0 ▸ jrg_f J sg_68_5_6_1_0_1)
  have ep1 := (show 0 ≤ p1.toInt ∧ p1.toInt ≤ 400 from zp1 ▸ jrg_f J sg_68_3_4_1_0_1)
  show jX m_X2_readFactor 7 0 0 0 [(0, .ref 95), (1, .int 7)] [] _ 0 0 _
  refine x_aloadn (x := 95) rfl rfl ?_
  refine z_getR (N := 6) (b := 68) 2 0 rfl f_2_30 rfl J rfl 12160 ⟨rfl, rfl⟩ rfl ?_
  refine x_bipush (v := 91) rfl kb_91 ?_
  refine x_inv (N := m_X9_isSign) (As := [.int 91]) (b := 68) (st := []) (dx9 := 1) (mc := 0) (ms := 0) (host := "") 9 rfl t_X9_isSign ⟨Or.inl q_2_55, i_X9_isSign.1, i_X9_isSign.2⟩ ⟨by decide, rfl⟩ (congrArg Prod.fst (J.1.1 68 (9, 6) rfl)) rfl (by decide) rfl rfl ⟨by decide, by decide⟩ (sf_X9_isSign_r68 (jr_of jk_91 (by omega)) hD J zp0 zp1 (by omega)  (fun v4 h ev4 J S1 u2 u3 qu2 qu3 ru2 => ?_))
  have Sm := jSm_tr rfl Sm S1
  have eu2 := (show 0 ≤ u2.toInt ∧ u2.toInt ≤ 3 from qu2 ▸ jrg_f J sg_68_5_6_1_0_1)
  have eu3 := (show 0 ≤ u3.toInt ∧ u3.toInt ≤ 400 from qu3 ▸ jrg_f J sg_68_3_4_1_0_1)
  show jX m_X2_readFactor 7 0 0 9 [(0, .ref 95), (1, .int 7)] [.int v4] _ 0 0 _
  refine x_ifeq (tgt := 58) rfl rfl (ti_eq rfl jk_0 ⟨fun c5 => ?_, fun c5 => ?_⟩)
  ·
    refine x_aloadn (x := 95) rfl rfl ?_
    refine z_getR (N := 6) (b := 68) 2 0 rfl f_2_30 rfl J rfl 12160 ⟨rfl, rfl⟩ rfl ?_
    refine x_ldc (v := 100000) rfl z_2_147 ?_
    refine x_inv (N := m_X9_numberTo) (As := [.int 100000]) (b := 68) (st := []) (dx9 := 1) (mc := 0) (ms := 0) (host := "") 9 rfl t_X9_numberTo ⟨Or.inl q_2_117, i_X9_numberTo.1, i_X9_numberTo.2⟩ ⟨by decide, rfl⟩ (congrArg Prod.fst (J.1.1 68 (9, 6) rfl)) rfl (by decide) rfl rfl ⟨by decide, by decide⟩ (sf_X9_numberTo_r68 (jr_of jk_100000 (by omega)) hD J  (fun v7 h ev7 J S6 => ?_))
    have Sm := jSm_tr rfl Sm S6
    show jX m_X2_readFactor 7 0 0 67 [(0, .ref 95), (1, .int 7)] [.int v7] _ 0 0 _
    refine x_istoren (lsx9 := [(2, .int v7), (0, .ref 95), (1, .int 7)]) rfl rfl rfl ?_
    refine x_iloadn (x := v7) rfl rfl ?_
    refine x_iconst (v := (-1)) rfl ki_m1 ?_
    refine x_iceq (tgt := 80) rfl rfl (ti_eq rfl jk_m1 ⟨fun c8 => ?_, fun c8 => ?_⟩)
    ·
      refine x_aloadn (x := 95) rfl rfl ?_
      refine z_getR (N := 6) (b := 68) 2 0 rfl f_2_30 rfl J rfl 12160 ⟨rfl, rfl⟩ rfl ?_
      refine x_ldcS (jstr.getD 6 jstr_0) rfl (List.mem_of_getElem? (i := 6) rfl) rfl rfl ?_
      show jX m_X2_readFactor 7 0 0 86 [(2, .int v7), (0, .ref 95), (1, .int 7)] [.ref 11, .ref 68] _ 0 0 _
      refine x_inv (N := m_X9_wordOf) (As := [.ref 11]) (b := 68) (st := []) (dx9 := 4) (mc := 0) (ms := 0) (host := "") 9 rfl t_X9_wordOf ⟨Or.inl q_2_67, i_X9_wordOf.1, i_X9_wordOf.2⟩ ⟨by decide, rfl⟩ (congrArg Prod.fst (J.1.1 68 (9, 6) rfl)) rfl (by decide) rfl rfl ⟨by decide, by decide⟩ (sf_X9_wordOf_r68_r11  hD J  (fun v10 h J S9 => ?_))
      have ev10 := jfull v10
      have Sm := jSm_tr rfl Sm S9
      show jX m_X2_readFactor 7 0 0 89 [(2, .int v7), (0, .ref 95), (1, .int 7)] [.int v10] _ 0 0 _
      refine x_istoren (lsx9 := [(3, .int v10), (2, .int v7), (0, .ref 95), (1, .int 7)]) rfl rfl rfl ?_
      refine x_iloadn (x := v10) rfl rfl ?_
      refine x_iconst (v := (-1)) rfl ki_m1 ?_
      refine x_icne (tgt := 105) rfl rfl (ti_ne rfl jk_m1 ⟨fun c11 => ?_, fun c11 => ?_⟩)
      ·
        refine x_aloadn (x := 95) rfl rfl ?_
        refine x_iconst (v := 2) rfl ki_2 ?_
        refine x_iloadn (x := v10) rfl rfl ?_
        refine x_inv (N := m_X2_readPart) (As := [.int 2, .int v10]) (b := 95) (st := []) (dx9 := 3) (mc := 0) (ms := 0) (host := "") 2 rfl t_X2_readPart ⟨Or.inl q_2_141, i_X2_readPart.1, i_X2_readPart.2⟩ ⟨by decide, rfl⟩ (congrArg Prod.fst (J.1.1 95 (2, 6) rfl)) rfl (by decide) rfl rfl ⟨by decide, by decide⟩ (sf_X2_readPart_r95 (jr_of jk_2 (by omega)) hD J (jmc S9 rfl (jmc S6 rfl qu2)) (jmc S9 rfl (jmc S6 rfl qu3)) (by omega)  (fun v15 h ev15 J S12 u13 u14 qu13 qu14 ru13 => ?_))
        have Sm := jSm_tr rfl Sm S12
        have eu13 := (show 0 ≤ u13.toInt ∧ u13.toInt ≤ 3 from qu13 ▸ jrg_f J sg_68_5_6_1_0_1)
        have eu14 := (show 0 ≤ u14.toInt ∧ u14.toInt ≤ 400 from qu14 ▸ jrg_f J sg_68_3_4_1_0_1)
        show jX m_X2_readFactor 7 0 0 111 [(3, .int v10), (2, .int v7), (0, .ref 95), (1, .int 7)] [.int v15] _ 0 0 _
        exact jX.sub jsb_n (ct_X2_readFactor_r95_c7_111 hD hQ  v15 u14 u13 h (jr_of rfl (by omega)) (jr_of rfl (by omega)) (jr_of rfl (by omega)) (by omega) qu14 qu13 J Sm)
      ·
        refine x_aloadn (x := 95) rfl rfl ?_
        refine z_getR (N := 6) (b := 68) 2 0 rfl f_2_30 rfl J rfl 12160 ⟨rfl, rfl⟩ rfl ?_
        refine x_inv (N := m_X9_blame) (As := []) (b := 68) (st := []) (dx9 := 6) (mc := 0) (ms := 0) (host := "") 9 rfl t_X9_blame ⟨Or.inl q_2_59, i_X9_blame.1, i_X9_blame.2⟩ ⟨by decide, rfl⟩ (congrArg Prod.fst (J.1.1 68 (9, 6) rfl)) rfl (by decide) rfl rfl ⟨by decide, by decide⟩ (jC.of rfl k_X9_blame rfl ?_)
        show jX m_X9_blame 6 0 0 0 [(0, .ref 68)] [] _ 0 0 _
        refine x_aloadn (x := 68) rfl rfl ?_
        refine x_aloadn (x := 68) rfl rfl ?_
        refine z_getM (N := 6) (v := u3) 9 3 rfl f_9_22 rfl J rfl (jmc S9 rfl (jmc S6 rfl qu3)) ?_
        refine z_putI (N := 6) (w := u3.toInt) 9 2 rfl f_9_19 rfl (jfin_no TX9 RX9 6 rfl rfl) hD J Sm rfl rfl rfl (pw_68_2 (by omega)) rfl (fun h w16 J Sm => ?_)
        refine x_iconst (v := 0) rfl ki_0 ?_
        refine x_zret rfl rfl (by decide) ?_
        show jX m_X2_readFactor 7 0 0 102 [(3, .int v10), (2, .int v7), (0, .ref 95), (1, .int 7)] [.int 0] _ 0 0 _
        refine x_goto (tgt := 111) rfl rfl ?_
        exact jX.sub jsb_n (ct_X2_readFactor_r95_c7_200111 hD hQ  u3 u2 h (jr_of rfl (by omega)) (jr_of rfl (by omega)) (by omega) (jmo w16 rfl (jmc S9 rfl (jmc S6 rfl qu3))) (jmo w16 rfl (jmc S9 rfl (jmc S6 rfl qu2))) J Sm)
    ·
      refine x_aloadn (x := 95) rfl rfl ?_
      refine x_iconst (v := 1) rfl ki_1 ?_
      refine x_iloadn (x := v7) rfl rfl ?_
      refine x_inv (N := m_X2_readPart) (As := [.int 1, .int v7]) (b := 95) (st := []) (dx9 := 3) (mc := 0) (ms := 0) (host := "") 2 rfl t_X2_readPart ⟨Or.inl q_2_141, i_X2_readPart.1, i_X2_readPart.2⟩ ⟨by decide, rfl⟩ (congrArg Prod.fst (J.1.1 95 (2, 6) rfl)) rfl (by decide) rfl rfl ⟨by decide, by decide⟩ (sf_X2_readPart_r95 (jr_of jk_1 (by omega)) hD J (jmc S6 rfl qu2) (jmc S6 rfl qu3) (by omega)  (fun v20 h ev20 J S17 u18 u19 qu18 qu19 ru18 => ?_))
      have Sm := jSm_tr rfl Sm S17
      have eu18 := (show 0 ≤ u18.toInt ∧ u18.toInt ≤ 3 from qu18 ▸ jrg_f J sg_68_5_6_1_0_1)
      have eu19 := (show 0 ≤ u19.toInt ∧ u19.toInt ≤ 400 from qu19 ▸ jrg_f J sg_68_3_4_1_0_1)
      show jX m_X2_readFactor 7 0 0 79 [(2, .int v7), (0, .ref 95), (1, .int 7)] [.int v20] _ 0 0 _
      refine x_zret rfl rfl (jz01 (by omega)) ?_
      exact hQ _ _ (jr_of rfl (by omega)) J Sm _ _ qu18 qu19 (by omega)
  ·
    refine x_iloadn (x := 7) rfl rfl ?_
    refine x_bipush (v := 8) rfl kb_8 ?_
    refine x_iclt (tgt := 26) rfl rfl (ti_lt jk_7 jk_8 (br_t (by omega) ?_))
    refine x_aloadn (x := 95) rfl rfl ?_
    refine z_getR (N := 6) (b := 68) 2 0 rfl f_2_30 rfl J rfl 12160 ⟨rfl, rfl⟩ rfl ?_
    refine x_inv (N := m_X9_step) (As := []) (b := 68) (st := []) (dx9 := 2) (mc := 0) (ms := 0) (host := "") 9 rfl t_X9_step ⟨Or.inl q_2_62, i_X9_step.1, i_X9_step.2⟩ ⟨by decide, rfl⟩ (congrArg Prod.fst (J.1.1 68 (9, 6) rfl)) rfl (by decide) rfl rfl ⟨by decide, by decide⟩ (sf_X9_step_r68  hD J qu2 qu3 (by omega)  (fun h J S21 u22 u23 qu22 qu23 ru22 => ?_))
    have Sm := jSm_tr rfl Sm S21
    have eu22 := (show 0 ≤ u22.toInt ∧ u22.toInt ≤ 3 from qu22 ▸ jrg_f J sg_68_5_6_1_0_1)
    have eu23 := (show 0 ≤ u23.toInt ∧ u23.toInt ≤ 400 from qu23 ▸ jrg_f J sg_68_3_4_1_0_1)
    show jX m_X2_readFactor 7 0 0 33 [(0, .ref 95), (1, .int 7)] [] _ 0 0 _
    refine x_aloadn (x := 95) rfl rfl ?_
    refine x_iloadn (x := 7) rfl rfl ?_
    refine x_iconst (v := 1) rfl ki_1 ?_
    refine y_iadd (v := 8) rfl (by decide) ?_
    refine x_inv (N := m_X2_readSum) (As := [.int 8]) (b := 95) (st := []) (dx9 := 6) (mc := 0) (ms := 0) (host := "") 2 rfl t_X2_readSum ⟨Or.inl q_2_86, i_X2_readSum.1, i_X2_readSum.2⟩ ⟨by decide, rfl⟩ (congrArg Prod.fst (J.1.1 95 (2, 6) rfl)) rfl (by decide) rfl rfl ⟨by decide, by decide⟩ (sf_X2_readSum_r95_c8  hD J qu22 qu23 (by omega)  (fun v27 h ev27 J S24 u25 u26 qu25 qu26 ru25 => ?_))
    have Sm := jSm_tr rfl Sm S24
    have eu25 := (show 0 ≤ u25.toInt ∧ u25.toInt ≤ 3 from qu25 ▸ jrg_f J sg_68_5_6_1_0_1)
    have eu26 := (show 0 ≤ u26.toInt ∧ u26.toInt ≤ 400 from qu26 ▸ jrg_f J sg_68_3_4_1_0_1)
    show jX m_X2_readFactor 7 0 0 40 [(0, .ref 95), (1, .int 7)] [.int v27] _ 0 0 _
    refine x_ifeq (tgt := 56) rfl rfl (ti_eq rfl jk_0 ⟨fun c28 => ?_, fun c28 => ?_⟩)
    ·
      exact jX.sub jsb_n (ct_X2_readFactor_r95_c7_56 hD hQ  u26 u25 h (jr_of rfl (by omega)) (jr_of rfl (by omega)) (by omega) qu26 qu25 J Sm)
    ·
      refine x_aloadn (x := 95) rfl rfl ?_
      refine x_bipush (v := 93) rfl kb_93 ?_
      refine x_inv (N := m_X2_readSign) (As := [.int 93]) (b := 95) (st := []) (dx9 := 6) (mc := 0) (ms := 0) (host := "") 2 rfl t_X2_readSign ⟨Or.inl q_2_138, i_X2_readSign.1, i_X2_readSign.2⟩ ⟨by decide, rfl⟩ (congrArg Prod.fst (J.1.1 95 (2, 6) rfl)) rfl (by decide) rfl rfl ⟨by decide, by decide⟩ (jC.of rfl k_X2_readSign rfl ?_)
      show jX m_X2_readSign 6 0 0 0 [(0, .ref 95), (1, .int 93)] [] _ 0 0 _
      refine x_aloadn (x := 95) rfl rfl ?_
      refine z_getR (N := 6) (b := 68) 2 0 rfl f_2_30 rfl J rfl 12160 ⟨rfl, rfl⟩ rfl ?_
      refine x_iloadn (x := 93) rfl rfl ?_
      refine x_inv (N := m_X9_isSign) (As := [.int 93]) (b := 68) (st := []) (dx9 := 1) (mc := 0) (ms := 0) (host := "") 9 rfl t_X9_isSign ⟨Or.inl q_2_55, i_X9_isSign.1, i_X9_isSign.2⟩ ⟨by decide, rfl⟩ (congrArg Prod.fst (J.1.1 68 (9, 6) rfl)) rfl (by decide) rfl rfl ⟨by decide, by decide⟩ (sf_X9_isSign_r68 (jr_of jk_93 (by omega)) hD J qu25 qu26 (by omega)  (fun v32 h ev32 J S29 u30 u31 qu30 qu31 ru30 => ?_))
      have Sm := jSm_tr rfl Sm S29
      have eu30 := (show 0 ≤ u30.toInt ∧ u30.toInt ≤ 3 from qu30 ▸ jrg_f J sg_68_5_6_1_0_1)
      have eu31 := (show 0 ≤ u31.toInt ∧ u31.toInt ≤ 400 from qu31 ▸ jrg_f J sg_68_3_4_1_0_1)
      show jX m_X2_readSign 6 0 0 8 [(0, .ref 95), (1, .int 93)] [.int v32] _ 0 0 _
      refine x_ifne (tgt := 19) rfl rfl (ti_ne rfl jk_0 ⟨fun c33 => ?_, fun c33 => ?_⟩)
      ·
        refine x_aloadn (x := 95) rfl rfl ?_
        refine z_getR (N := 6) (b := 68) 2 0 rfl f_2_30 rfl J rfl 12160 ⟨rfl, rfl⟩ rfl ?_
        refine x_inv (N := m_X9_step) (As := []) (b := 68) (st := []) (dx9 := 2) (mc := 0) (ms := 0) (host := "") 9 rfl t_X9_step ⟨Or.inl q_2_62, i_X9_step.1, i_X9_step.2⟩ ⟨by decide, rfl⟩ (congrArg Prod.fst (J.1.1 68 (9, 6) rfl)) rfl (by decide) rfl rfl ⟨by decide, by decide⟩ (sf_X9_step_r68  hD J qu30 qu31 (by omega)  (fun h J S34 u35 u36 qu35 qu36 ru35 => ?_))
        have Sm := jSm_tr rfl Sm S34
        have eu35 := (show 0 ≤ u35.toInt ∧ u35.toInt ≤ 3 from qu35 ▸ jrg_f J sg_68_5_6_1_0_1)
        have eu36 := (show 0 ≤ u36.toInt ∧ u36.toInt ≤ 400 from qu36 ▸ jrg_f J sg_68_3_4_1_0_1)
        show jX m_X2_readSign 6 0 0 26 [(0, .ref 95), (1, .int 93)] [] _ 0 0 _
        refine x_iconst (v := 1) rfl ki_1 ?_
        refine x_zret rfl rfl (by decide) ?_
        show jX m_X2_readFactor 7 0 0 49 [(0, .ref 95), (1, .int 7)] [.int 1] _ 0 0 _
        refine x_ifeq (tgt := 56) rfl rfl (ti_eq jk_1 jk_0 (br_f (by omega) ?_))
        refine x_iconst (v := 1) rfl ki_1 ?_
        refine x_goto (tgt := 57) rfl rfl ?_
        exact jX.sub jsb_n (ct_X2_readFactor_r95_c7_300057 hD hQ  u36 u35 h (jr_of rfl (by omega)) (jr_of rfl (by omega)) (by omega) qu36 qu35 J Sm)
      ·
        refine x_aloadn (x := 95) rfl rfl ?_
        refine z_getR (N := 6) (b := 68) 2 0 rfl f_2_30 rfl J rfl 12160 ⟨rfl, rfl⟩ rfl ?_
        refine x_inv (N := m_X9_blame) (As := []) (b := 68) (st := []) (dx9 := 5) (mc := 0) (ms := 0) (host := "") 9 rfl t_X9_blame ⟨Or.inl q_2_59, i_X9_blame.1, i_X9_blame.2⟩ ⟨by decide, rfl⟩ (congrArg Prod.fst (J.1.1 68 (9, 6) rfl)) rfl (by decide) rfl rfl ⟨by decide, by decide⟩ (jC.of rfl k_X9_blame rfl ?_)
        show jX m_X9_blame 5 0 0 0 [(0, .ref 68)] [] _ 0 0 _
        refine x_aloadn (x := 68) rfl rfl ?_
        refine x_aloadn (x := 68) rfl rfl ?_
        refine z_getM (N := 6) (v := u31) 9 3 rfl f_9_22 rfl J rfl qu31 ?_
        refine z_putI (N := 6) (w := u31.toInt) 9 2 rfl f_9_19 rfl (jfin_no TX9 RX9 6 rfl rfl) hD J Sm rfl rfl rfl (pw_68_2 (by omega)) rfl (fun h w37 J Sm => ?_)
        refine x_iconst (v := 0) rfl ki_0 ?_
        refine x_zret rfl rfl (by decide) ?_
        show jX m_X2_readSign 6 0 0 18 [(0, .ref 95), (1, .int 93)] [.int 0] _ 0 0 _
        refine x_zret rfl rfl (by decide) ?_
        show jX m_X2_readFactor 7 0 0 49 [(0, .ref 95), (1, .int 7)] [.int 0] _ 0 0 _
        refine x_ifeq (tgt := 56) rfl rfl (ti_eq jk_0 jk_0 (br_t (by omega) ?_))
        exact jX.sub jsb_n (ct_X2_readFactor_r95_c7_56 hD hQ  u31 u30 h (jr_of rfl (by omega)) (jr_of rfl (by omega)) (by omega) (jmo w37 rfl qu31) (jmo w37 rfl qu30) J Sm)
