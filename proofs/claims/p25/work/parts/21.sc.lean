def fp_X12_fact2_r125 : jFp := [(125, 32, 33), (125, 33, 34), (125, 34, 35), (125, 35, 36), (162, 0, 40), (163, 0, 40), (164, 0, 40)]
set_option maxRecDepth 100000 in
set_option maxHeartbeats 4000000 in
theorem ct_X12_fact2_r125_5000122 {Dy : jH → Prop} {h0 : jH} {Q : Option Value → jH → Prop} (hD : jDk Dy) (hQ : ∀ (v : Int64) hx9, jJ jSgM Dy hx9 → jSm fp_X12_fact2_r125 h0 hx9 → Q (some (.long v)) hx9) : ∀ (s0 : Int64) (h : jH), 0 ≤ s0.toInt ∧ s0.toInt ≤ 1 → jJ jSgM Dy h → jSm fp_X12_fact2_r125 h0 h → jX m_X12_fact2 8 0 0 122 [] [.long s0] h 0 0 Q := by
  intro s0 h y0   J Sm
  refine x_lret rfl rfl ?_
  exact hQ _ _ J Sm
set_option maxRecDepth 100000 in
set_option maxHeartbeats 4000000 in
theorem ct_X12_fact2_r125_117 {Dy : jH → Prop} {h0 : jH} {Q : Option Value → jH → Prop} (hD : jDk Dy) (hQ : ∀ (v : Int64) hx9, jJ jSgM Dy hx9 → jSm fp_X12_fact2_r125 h0 hx9 → Q (some (.long v)) hx9) : ∀ (h : jH), jJ jSgM Dy h → jSm fp_X12_fact2_r125 h0 h → jX m_X12_fact2 8 0 0 117 [] [] h 0 0 Q := by
  intro  h    J Sm
  refine x_lconst (v := 1) rfl kl_1 ?_
  refine x_goto (tgt := 122) rfl rfl ?_
  exact jX.sub jsb_n (ct_X12_fact2_r125_5000122 hD hQ  1 h (jr_ofl jkl_1 (by omega)) J Sm)
set_option maxRecDepth 100000 in
set_option maxHeartbeats 4000000 in
theorem ct_X12_fact2_r125_5000138 {Dy : jH → Prop} {h0 : jH} {Q : Option Value → jH → Prop} (hD : jDk Dy) (hQ : ∀ (v : Int64) hx9, jJ jSgM Dy hx9 → jSm fp_X12_fact2_r125 h0 hx9 → Q (some (.long v)) hx9) : ∀ (s0 : Int64) (h : jH), 0 ≤ s0.toInt ∧ s0.toInt ≤ 1 → jJ jSgM Dy h → jSm fp_X12_fact2_r125 h0 h → jX m_X12_fact2 8 0 0 138 [] [.long s0] h 0 0 Q := by
  intro s0 h y0   J Sm
  refine x_lret rfl rfl ?_
  exact hQ _ _ J Sm
set_option maxRecDepth 100000 in
set_option maxHeartbeats 4000000 in
theorem ct_X12_fact2_r125_5000153 {Dy : jH → Prop} {h0 : jH} {Q : Option Value → jH → Prop} (hD : jDk Dy) (hQ : ∀ (v : Int64) hx9, jJ jSgM Dy hx9 → jSm fp_X12_fact2_r125 h0 hx9 → Q (some (.long v)) hx9) : ∀ (s0 : Int64) (h : jH), 0 ≤ s0.toInt ∧ s0.toInt ≤ 1 → jJ jSgM Dy h → jSm fp_X12_fact2_r125 h0 h → jX m_X12_fact2 8 0 0 153 [] [.long s0] h 0 0 Q := by
  intro s0 h y0   J Sm
  refine x_lret rfl rfl ?_
  exact hQ _ _ J Sm
set_option maxRecDepth 100000 in
set_option maxHeartbeats 4000000 in
theorem ct_X12_fact2_r125_5000168 {Dy : jH → Prop} {h0 : jH} {Q : Option Value → jH → Prop} (hD : jDk Dy) (hQ : ∀ (v : Int64) hx9, jJ jSgM Dy hx9 → jSm fp_X12_fact2_r125 h0 hx9 → Q (some (.long v)) hx9) : ∀ (s0 : Int64) (h : jH), 0 ≤ s0.toInt ∧ s0.toInt ≤ 1 → jJ jSgM Dy h → jSm fp_X12_fact2_r125 h0 h → jX m_X12_fact2 8 0 0 168 [] [.long s0] h 0 0 Q := by
  intro s0 h y0   J Sm
  refine x_lret rfl rfl ?_
  exact hQ _ _ J Sm
set_option maxRecDepth 100000 in
set_option maxHeartbeats 4000000 in
theorem ct_X12_fact2_r125_5000184 {Dy : jH → Prop} {h0 : jH} {Q : Option Value → jH → Prop} (hD : jDk Dy) (hQ : ∀ (v : Int64) hx9, jJ jSgM Dy hx9 → jSm fp_X12_fact2_r125 h0 hx9 → Q (some (.long v)) hx9) : ∀ (s0 : Int64) (h : jH), 0 ≤ s0.toInt ∧ s0.toInt ≤ 1 → jJ jSgM Dy h → jSm fp_X12_fact2_r125 h0 h → jX m_X12_fact2 8 0 0 184 [] [.long s0] h 0 0 Q := by
  intro s0 h y0   J Sm
  refine x_lret rfl rfl ?_
  exact hQ _ _ J Sm
set_option maxRecDepth 100000 in
set_option maxHeartbeats 4000000 in
theorem sf_X12_fact2_r125 {Dy : jH → Prop} {h : jH} {Q : Option Value → jH → Prop} {a1 : Int32} {a2 : Int32} {a3 : Int32} (y1 : (-1) ≤ a1.toInt ∧ a1.toInt ≤ 599) (y2 : 0 ≤ a2.toInt ∧ a2.toInt ≤ 146399) (hD : jDk Dy) (J : jJ jSgM Dy h) (hQ : ∀ (v : Int64) hx9, jJ jSgM Dy hx9 → jSm fp_X12_fact2_r125 h hx9 → Q (some (.long v)) hx9) : jC m_X12_fact2 8 0 0 [.ref 125, .int a1, .int a2, .int a3] h Q := by
  refine jC.of rfl k_X12_fact2 rfl ?_
  have Sm := jSm_rf fp_X12_fact2_r125 h
  have ea3 := jfull a3
  show jX m_X12_fact2 8 0 0 0 [(0, .ref 125), (1, .int a1), (2, .int a2), (3, .int a3)] [] _ 0 0 _
  refine x_iloadn (x := a3) rfl rfl ?_
  by_cases c1 : a3.toInt = 0
  ·
    refine x_tableIn (tgt := 52) 0 rfl c1 (by decide) (by decide) rfl rfl ?_
    refine x_aloadn (x := 125) rfl rfl ?_
    refine x_iloadn (x := a1) rfl rfl ?_
    refine x_iloadn (x := a2) rfl rfl ?_
    refine x_inv (N := m_X12_ageOf) (As := [.int a1, .int a2]) (b := 125) (st := []) (dx9 := 7) (mc := 0) (ms := 0) (host := "") 12 rfl t_X12_ageOf ⟨Or.inl q_12_704, i_X12_ageOf.1, i_X12_ageOf.2⟩ ⟨by decide, rfl⟩ (congrArg Prod.fst (J.1.1 125 (12, 92) rfl)) rfl (by decide) rfl rfl ⟨by decide, by decide⟩ (jC.of rfl k_X12_ageOf rfl ?_)
    show jX m_X12_ageOf 7 0 0 0 [(0, .ref 125), (1, .int a1), (2, .int a2)] [] _ 0 0 _
    refine x_aloadn (x := 125) rfl rfl ?_
    refine x_iloadn (x := a1) rfl rfl ?_
    refine x_inv (N := m_X12_findSpan) (As := [.int a1]) (b := 125) (st := []) (dx9 := 6) (mc := 0) (ms := 0) (host := "") 12 rfl t_X12_findSpan ⟨Or.inl q_12_437, i_X12_findSpan.1, i_X12_findSpan.2⟩ ⟨by decide, rfl⟩ (congrArg Prod.fst (J.1.1 125 (12, 92) rfl)) rfl (by decide) rfl rfl ⟨by decide, by decide⟩ (sf_X12_findSpan_r125 (jr_of rfl (by omega)) hD J  (fun h J S2 => ?_))
    have Sm := jSm_tr rfl Sm S2
    show jX m_X12_ageOf 7 0 0 5 [(0, .ref 125), (1, .int a1), (2, .int a2)] [] _ 0 0 _
    refine x_iloadn (x := a2) rfl rfl ?_
    refine x_aloadn (x := 125) rfl rfl ?_
    refine z_getI (N := 92) 12 33 rfl f_12_415 rfl J rfl sg_125_33_34_1_0_1 (fun v3 qv3 ev3 => ?_)
    refine z_isub0 rfl (fun v4 => ?_)
    have ev4 := jfull v4
    refine x_sipush (v := 366) rfl ks_366 ?_
    refine z_idiv0 rfl jk_366 (by omega) (fun v5 => ?_)
    have ev5 := jfull v5
    refine x_istoren (lsx9 := [(3, .int v5), (0, .ref 125), (1, .int a1), (2, .int a2)]) rfl rfl rfl ?_
    refine x_iloadn (x := v5) rfl rfl ?_
    refine x_ifge (tgt := 24) rfl rfl (ti_ge rfl jk_0 ⟨fun c6 => ?_, fun c6 => ?_⟩)
    ·
      refine x_iloadn (x := v5) rfl rfl ?_
      refine x_iret rfl rfl ?_
      show jX m_X12_fact2 8 0 0 58 [(0, .ref 125), (1, .int a1), (2, .int a2), (3, .int a3)] [.int v5] _ 0 0 _
      refine z_i2l rfl rfl (fun v7 ev7 => ?_)
      refine x_lret rfl rfl ?_
      exact hQ _ _ J Sm
    ·
      refine x_iconst (v := 0) rfl ki_0 ?_
      refine x_goto (tgt := 25) rfl rfl ?_
      refine x_iret rfl rfl ?_
      show jX m_X12_fact2 8 0 0 58 [(0, .ref 125), (1, .int a1), (2, .int a2), (3, .int a3)] [.int 0] _ 0 0 _
      refine z_i2l rfl jk_0 (fun v8 ev8 => ?_)
      refine x_lret rfl rfl ?_
      exact hQ _ _ J Sm
  by_cases c9 : a3.toInt = 1
  ·
    refine x_tableIn (tgt := 60) 1 rfl c9 (by decide) (by decide) rfl rfl ?_
    refine x_aloadn (x := 125) rfl rfl ?_
    refine x_iloadn (x := a1) rfl rfl ?_
    refine x_iloadn (x := a2) rfl rfl ?_
    refine x_inv (N := m_X12_childrenOf) (As := [.int a1, .int a2]) (b := 125) (st := []) (dx9 := 6) (mc := 0) (ms := 0) (host := "") 12 rfl t_X12_childrenOf ⟨Or.inl q_12_707, i_X12_childrenOf.1, i_X12_childrenOf.2⟩ ⟨by decide, rfl⟩ (congrArg Prod.fst (J.1.1 125 (12, 92) rfl)) rfl (by decide) rfl rfl ⟨by decide, by decide⟩ (sf_X12_childrenOf_r125 (jr_of rfl (by omega)) (jr_of rfl (by omega)) hD J  (fun v11 h J S10 => ?_))
    have ev11 := jfull v11
    have Sm := jSm_tr rfl Sm S10
    show jX m_X12_fact2 8 0 0 66 [(0, .ref 125), (1, .int a1), (2, .int a2), (3, .int a3)] [.int v11] _ 0 0 _
    refine z_i2l rfl rfl (fun v12 ev12 => ?_)
    refine x_lret rfl rfl ?_
    exact hQ _ _ J Sm
  by_cases c13 : a3.toInt = 2
  ·
    refine x_tableIn (tgt := 68) 2 rfl c13 (by decide) (by decide) rfl rfl ?_
    refine x_aloadn (x := 125) rfl rfl ?_
    refine x_iloadn (x := a1) rfl rfl ?_
    refine x_iloadn (x := a2) rfl rfl ?_
    refine x_inv (N := m_X12_valueHeld) (As := [.int a1, .int a2]) (b := 125) (st := []) (dx9 := 3) (mc := 0) (ms := 0) (host := "") 12 rfl t_X12_valueHeld ⟨Or.inl q_12_710, i_X12_valueHeld.1, i_X12_valueHeld.2⟩ ⟨by decide, rfl⟩ (congrArg Prod.fst (J.1.1 125 (12, 92) rfl)) rfl (by decide) rfl rfl ⟨by decide, by decide⟩ (sf_X12_valueHeld_r125 (jr_of rfl (by omega)) (jr_of rfl (by omega)) hD J  (fun v15 h J S14 => ?_))
    have ev15 := jfull v15
    have Sm := jSm_tr rfl Sm S14
    show jX m_X12_fact2 8 0 0 74 [(0, .ref 125), (1, .int a1), (2, .int a2), (3, .int a3)] [.int v15] _ 0 0 _
    refine z_i2l rfl rfl (fun v16 ev16 => ?_)
    refine x_lret rfl rfl ?_
    exact hQ _ _ J Sm
  by_cases c17 : a3.toInt = 3
  ·
    refine x_tableIn (tgt := 76) 3 rfl c17 (by decide) (by decide) rfl rfl ?_
    refine x_aloadn (x := 125) rfl rfl ?_
    refine x_iloadn (x := a1) rfl rfl ?_
    refine x_iloadn (x := a2) rfl rfl ?_
    refine x_inv (N := m_X12_yearsOf) (As := [.int a1, .int a2]) (b := 125) (st := []) (dx9 := 4) (mc := 0) (ms := 0) (host := "") 12 rfl t_X12_yearsOf ⟨Or.inl q_12_713, i_X12_yearsOf.1, i_X12_yearsOf.2⟩ ⟨by decide, rfl⟩ (congrArg Prod.fst (J.1.1 125 (12, 92) rfl)) rfl (by decide) rfl rfl ⟨by decide, by decide⟩ (sf_X12_yearsOf_r125 (jr_of rfl (by omega)) (jr_of rfl (by omega)) hD J  (fun v19 h J S18 => ?_))
    have ev19 := jfull v19
    have Sm := jSm_tr rfl Sm S18
    show jX m_X12_fact2 8 0 0 82 [(0, .ref 125), (1, .int a1), (2, .int a2), (3, .int a3)] [.int v19] _ 0 0 _
    refine z_i2l rfl rfl (fun v20 ev20 => ?_)
    refine x_lret rfl rfl ?_
    exact hQ _ _ J Sm
  by_cases c21 : a3.toInt = 4
  ·
    refine x_tableIn (tgt := 84) 4 rfl c21 (by decide) (by decide) rfl rfl ?_
    refine x_aloadn (x := 125) rfl rfl ?_
    refine x_iloadn (x := a1) rfl rfl ?_
    refine x_iloadn (x := a2) rfl rfl ?_
    refine x_sipush (v := 365) rfl ks_365 ?_
    refine z_isub rfl rfl jk_365 (by omega) (fun v22 ev22 => ?_)
    refine x_iloadn (x := a2) rfl rfl ?_
    refine x_inv (N := m_X12_reliefOf) (As := [.int a1, .int v22, .int a2]) (b := 125) (st := []) (dx9 := 3) (mc := 0) (ms := 0) (host := "") 12 rfl t_X12_reliefOf ⟨Or.inl q_12_701, i_X12_reliefOf.1, i_X12_reliefOf.2⟩ ⟨by decide, rfl⟩ (congrArg Prod.fst (J.1.1 125 (12, 92) rfl)) rfl (by decide) rfl rfl ⟨by decide, by decide⟩ (sf_X12_reliefOf_r125 (jr_of rfl (by omega)) (jr_of rfl (by omega)) (jr_of rfl (by omega)) hD J  (fun v24 h J S23 => ?_))
    have ev24 := jfull v24
    have Sm := jSm_tr rfl Sm S23
    show jX m_X12_fact2 8 0 0 95 [(0, .ref 125), (1, .int a1), (2, .int a2), (3, .int a3)] [.int v24] _ 0 0 _
    refine z_i2l rfl rfl (fun v25 ev25 => ?_)
    refine x_lret rfl rfl ?_
    exact hQ _ _ J Sm
  by_cases c26 : a3.toInt = 5
  ·
    refine x_tableIn (tgt := 97) 5 rfl c26 (by decide) (by decide) rfl rfl ?_
    refine x_aloadn (x := 125) rfl rfl ?_
    refine x_iloadn (x := a1) rfl rfl ?_
    refine x_iconst (v := 3) rfl ki_3 ?_
    refine x_iloadn (x := a2) rfl rfl ?_
    refine x_inv (N := m_X12_hasPart) (As := [.int a1, .int 3, .int a2]) (b := 125) (st := []) (dx9 := 7) (mc := 0) (ms := 0) (host := "") 12 rfl t_X12_hasPart ⟨Or.inl q_12_691, i_X12_hasPart.1, i_X12_hasPart.2⟩ ⟨by decide, rfl⟩ (congrArg Prod.fst (J.1.1 125 (12, 92) rfl)) rfl (by decide) rfl rfl ⟨by decide, by decide⟩ (jC.of rfl k_X12_hasPart rfl ?_)
    show jX m_X12_hasPart 7 0 0 0 [(0, .ref 125), (1, .int a1), (2, .int 3), (3, .int a2)] [] _ 0 0 _
    refine x_aloadn (x := 125) rfl rfl ?_
    refine x_iloadn (x := a1) rfl rfl ?_
    refine x_iloadn (x := 3) rfl rfl ?_
    refine x_iloadn (x := a2) rfl rfl ?_
    refine x_inv (N := m_X12_mentionOf) (As := [.int a1, .int 3, .int a2]) (b := 125) (st := []) (dx9 := 4) (mc := 0) (ms := 0) (host := "") 12 rfl t_X12_mentionOf ⟨Or.inl q_12_405, i_X12_mentionOf.1, i_X12_mentionOf.2⟩ ⟨by decide, rfl⟩ (congrArg Prod.fst (J.1.1 125 (12, 92) rfl)) rfl (by decide) rfl rfl ⟨by decide, by decide⟩ (sf_X12_mentionOf_r125 (jr_of rfl (by omega)) (jr_of jk_3 (by omega)) (jr_of rfl (by omega)) hD J  (fun v28 h ev28 J S27 => ?_))
    have Sm := jSm_tr rfl Sm S27
    show jX m_X12_hasPart 7 0 0 7 [(0, .ref 125), (1, .int a1), (2, .int 3), (3, .int a2)] [.int v28] _ 0 0 _
    refine x_iconst (v := (-1)) rfl ki_m1 ?_
    refine x_iceq (tgt := 15) rfl rfl (ti_eq rfl jk_m1 ⟨fun c29 => ?_, fun c29 => ?_⟩)
    ·
      refine x_iconst (v := 0) rfl ki_0 ?_
      refine x_zret rfl rfl (by decide) ?_
      show jX m_X12_fact2 8 0 0 104 [(0, .ref 125), (1, .int a1), (2, .int a2), (3, .int a3)] [.int 0] _ 0 0 _
      refine x_ifne (tgt := 117) rfl rfl (ti_ne jk_0 jk_0 (bn_f (by omega) ?_))
      refine x_aloadn (x := 125) rfl rfl ?_
      refine x_iloadn (x := a1) rfl rfl ?_
      refine x_iconst (v := 4) rfl ki_4 ?_
      refine x_iloadn (x := a2) rfl rfl ?_
      refine x_inv (N := m_X12_hasPart) (As := [.int a1, .int 4, .int a2]) (b := 125) (st := []) (dx9 := 7) (mc := 0) (ms := 0) (host := "") 12 rfl t_X12_hasPart ⟨Or.inl q_12_691, i_X12_hasPart.1, i_X12_hasPart.2⟩ ⟨by decide, rfl⟩ (congrArg Prod.fst (J.1.1 125 (12, 92) rfl)) rfl (by decide) rfl rfl ⟨by decide, by decide⟩ (jC.of rfl k_X12_hasPart rfl ?_)
      show jX m_X12_hasPart 7 0 0 0 [(0, .ref 125), (1, .int a1), (2, .int 4), (3, .int a2)] [] _ 0 0 _
      refine x_aloadn (x := 125) rfl rfl ?_
      refine x_iloadn (x := a1) rfl rfl ?_
      refine x_iloadn (x := 4) rfl rfl ?_
      refine x_iloadn (x := a2) rfl rfl ?_
      refine x_inv (N := m_X12_mentionOf) (As := [.int a1, .int 4, .int a2]) (b := 125) (st := []) (dx9 := 4) (mc := 0) (ms := 0) (host := "") 12 rfl t_X12_mentionOf ⟨Or.inl q_12_405, i_X12_mentionOf.1, i_X12_mentionOf.2⟩ ⟨by decide, rfl⟩ (congrArg Prod.fst (J.1.1 125 (12, 92) rfl)) rfl (by decide) rfl rfl ⟨by decide, by decide⟩ (sf_X12_mentionOf_r125 (jr_of rfl (by omega)) (jr_of jk_4 (by omega)) (jr_of rfl (by omega)) hD J  (fun v31 h ev31 J S30 => ?_))
      have Sm := jSm_tr rfl Sm S30
      show jX m_X12_hasPart 7 0 0 7 [(0, .ref 125), (1, .int a1), (2, .int 4), (3, .int a2)] [.int v31] _ 0 0 _
      refine x_iconst (v := (-1)) rfl ki_m1 ?_
      refine x_iceq (tgt := 15) rfl rfl (ti_eq rfl jk_m1 ⟨fun c32 => ?_, fun c32 => ?_⟩)
      ·
        refine x_iconst (v := 0) rfl ki_0 ?_
        refine x_zret rfl rfl (by decide) ?_
        show jX m_X12_fact2 8 0 0 114 [(0, .ref 125), (1, .int a1), (2, .int a2), (3, .int a3)] [.int 0] _ 0 0 _
        refine x_ifeq (tgt := 121) rfl rfl (ti_eq jk_0 jk_0 (br_t (by omega) ?_))
        refine x_lconst (v := 0) rfl kl_0 ?_
        exact jX.sub jsb_n (ct_X12_fact2_r125_5000122 hD hQ  0 h (jr_ofl jkl_0 (by omega)) J Sm)
      ·
        refine x_iconst (v := 1) rfl ki_1 ?_
        refine x_goto (tgt := 16) rfl rfl ?_
        refine x_zret rfl rfl (by decide) ?_
        show jX m_X12_fact2 8 0 0 114 [(0, .ref 125), (1, .int a1), (2, .int a2), (3, .int a3)] [.int 1] _ 0 0 _
        refine x_ifeq (tgt := 121) rfl rfl (ti_eq jk_1 jk_0 (br_f (by omega) ?_))
        exact jX.sub jsb_n (ct_X12_fact2_r125_117 hD hQ  h J Sm)
    ·
      refine x_iconst (v := 1) rfl ki_1 ?_
      refine x_goto (tgt := 16) rfl rfl ?_
      refine x_zret rfl rfl (by decide) ?_
      show jX m_X12_fact2 8 0 0 104 [(0, .ref 125), (1, .int a1), (2, .int a2), (3, .int a3)] [.int 1] _ 0 0 _
      refine x_ifne (tgt := 117) rfl rfl (ti_ne jk_1 jk_0 (bn_t (by omega) ?_))
      exact jX.sub jsb_n (ct_X12_fact2_r125_117 hD hQ  h J Sm)
  by_cases c33 : a3.toInt = 6
  ·
    refine x_tableIn (tgt := 123) 6 rfl c33 (by decide) (by decide) rfl rfl ?_
    refine x_aloadn (x := 125) rfl rfl ?_
    refine x_iloadn (x := a1) rfl rfl ?_
    refine x_iconst (v := 5) rfl ki_5 ?_
    refine x_iloadn (x := a2) rfl rfl ?_
    refine x_inv (N := m_X12_hasPart) (As := [.int a1, .int 5, .int a2]) (b := 125) (st := []) (dx9 := 7) (mc := 0) (ms := 0) (host := "") 12 rfl t_X12_hasPart ⟨Or.inl q_12_691, i_X12_hasPart.1, i_X12_hasPart.2⟩ ⟨by decide, rfl⟩ (congrArg Prod.fst (J.1.1 125 (12, 92) rfl)) rfl (by decide) rfl rfl ⟨by decide, by decide⟩ (jC.of rfl k_X12_hasPart rfl ?_)
    show jX m_X12_hasPart 7 0 0 0 [(0, .ref 125), (1, .int a1), (2, .int 5), (3, .int a2)] [] _ 0 0 _
    refine x_aloadn (x := 125) rfl rfl ?_
    refine x_iloadn (x := a1) rfl rfl ?_
    refine x_iloadn (x := 5) rfl rfl ?_
    refine x_iloadn (x := a2) rfl rfl ?_
    refine x_inv (N := m_X12_mentionOf) (As := [.int a1, .int 5, .int a2]) (b := 125) (st := []) (dx9 := 4) (mc := 0) (ms := 0) (host := "") 12 rfl t_X12_mentionOf ⟨Or.inl q_12_405, i_X12_mentionOf.1, i_X12_mentionOf.2⟩ ⟨by decide, rfl⟩ (congrArg Prod.fst (J.1.1 125 (12, 92) rfl)) rfl (by decide) rfl rfl ⟨by decide, by decide⟩ (sf_X12_mentionOf_r125 (jr_of rfl (by omega)) (jr_of jk_5 (by omega)) (jr_of rfl (by omega)) hD J  (fun v35 h ev35 J S34 => ?_))
    have Sm := jSm_tr rfl Sm S34
    show jX m_X12_hasPart 7 0 0 7 [(0, .ref 125), (1, .int a1), (2, .int 5), (3, .int a2)] [.int v35] _ 0 0 _
    refine x_iconst (v := (-1)) rfl ki_m1 ?_
    refine x_iceq (tgt := 15) rfl rfl (ti_eq rfl jk_m1 ⟨fun c36 => ?_, fun c36 => ?_⟩)
    ·
      refine x_iconst (v := 0) rfl ki_0 ?_
      refine x_zret rfl rfl (by decide) ?_
      show jX m_X12_fact2 8 0 0 130 [(0, .ref 125), (1, .int a1), (2, .int a2), (3, .int a3)] [.int 0] _ 0 0 _
      refine x_ifeq (tgt := 137) rfl rfl (ti_eq jk_0 jk_0 (br_t (by omega) ?_))
      refine x_lconst (v := 0) rfl kl_0 ?_
      exact jX.sub jsb_n (ct_X12_fact2_r125_5000138 hD hQ  0 h (jr_ofl jkl_0 (by omega)) J Sm)
    ·
      refine x_iconst (v := 1) rfl ki_1 ?_
      refine x_goto (tgt := 16) rfl rfl ?_
      refine x_zret rfl rfl (by decide) ?_
      show jX m_X12_fact2 8 0 0 130 [(0, .ref 125), (1, .int a1), (2, .int a2), (3, .int a3)] [.int 1] _ 0 0 _
      refine x_ifeq (tgt := 137) rfl rfl (ti_eq jk_1 jk_0 (br_f (by omega) ?_))
      refine x_lconst (v := 1) rfl kl_1 ?_
      refine x_goto (tgt := 138) rfl rfl ?_
      exact jX.sub jsb_n (ct_X12_fact2_r125_5000138 hD hQ  1 h (jr_ofl jkl_1 (by omega)) J Sm)
  by_cases c37 : a3.toInt = 7
  ·
    refine x_tableIn (tgt := 139) 7 rfl c37 (by decide) (by decide) rfl rfl ?_
    refine x_aloadn (x := 125) rfl rfl ?_
    refine x_iloadn (x := a1) rfl rfl ?_
    refine x_iloadn (x := a2) rfl rfl ?_
    refine x_inv (N := m_X12_isPoor) (As := [.int a1, .int a2]) (b := 125) (st := []) (dx9 := 7) (mc := 0) (ms := 0) (host := "") 12 rfl t_X12_isPoor ⟨Or.inl q_12_716, i_X12_isPoor.1, i_X12_isPoor.2⟩ ⟨by decide, rfl⟩ (congrArg Prod.fst (J.1.1 125 (12, 92) rfl)) rfl (by decide) rfl rfl ⟨by decide, by decide⟩ (jC.of rfl k_X12_isPoor rfl ?_)
    show jX m_X12_isPoor 7 0 0 0 [(0, .ref 125), (1, .int a1), (2, .int a2)] [] _ 0 0 _
    refine x_aloadn (x := 125) rfl rfl ?_
    refine x_iloadn (x := a1) rfl rfl ?_
    refine x_iloadn (x := a2) rfl rfl ?_
    refine x_sipush (v := 365) rfl ks_365 ?_
    refine z_isub rfl rfl jk_365 (by omega) (fun v38 ev38 => ?_)
    refine x_iloadn (x := a2) rfl rfl ?_
    refine x_inv (N := m_X12_reliefOf) (As := [.int a1, .int v38, .int a2]) (b := 125) (st := []) (dx9 := 3) (mc := 0) (ms := 0) (host := "") 12 rfl t_X12_reliefOf ⟨Or.inl q_12_701, i_X12_reliefOf.1, i_X12_reliefOf.2⟩ ⟨by decide, rfl⟩ (congrArg Prod.fst (J.1.1 125 (12, 92) rfl)) rfl (by decide) rfl rfl ⟨by decide, by decide⟩ (sf_X12_reliefOf_r125 (jr_of rfl (by omega)) (jr_of rfl (by omega)) (jr_of rfl (by omega)) hD J  (fun v40 h J S39 => ?_))
    have ev40 := jfull v40
    have Sm := jSm_tr rfl Sm S39
    show jX m_X12_isPoor 7 0 0 11 [(0, .ref 125), (1, .int a1), (2, .int a2)] [.int v40] _ 0 0 _
    refine x_ifle (tgt := 18) rfl rfl (ti_le rfl jk_0 ⟨fun c41 => ?_, fun c41 => ?_⟩)
    ·
      refine x_iconst (v := 0) rfl ki_0 ?_
      refine x_zret rfl rfl (by decide) ?_
      show jX m_X12_fact2 8 0 0 145 [(0, .ref 125), (1, .int a1), (2, .int a2), (3, .int a3)] [.int 0] _ 0 0 _
      refine x_ifeq (tgt := 152) rfl rfl (ti_eq jk_0 jk_0 (br_t (by omega) ?_))
      refine x_lconst (v := 0) rfl kl_0 ?_
      exact jX.sub jsb_n (ct_X12_fact2_r125_5000153 hD hQ  0 h (jr_ofl jkl_0 (by omega)) J Sm)
    ·
      refine x_iconst (v := 1) rfl ki_1 ?_
      refine x_goto (tgt := 19) rfl rfl ?_
      refine x_zret rfl rfl (by decide) ?_
      show jX m_X12_fact2 8 0 0 145 [(0, .ref 125), (1, .int a1), (2, .int a2), (3, .int a3)] [.int 1] _ 0 0 _
      refine x_ifeq (tgt := 152) rfl rfl (ti_eq jk_1 jk_0 (br_f (by omega) ?_))
      refine x_lconst (v := 1) rfl kl_1 ?_
      refine x_goto (tgt := 153) rfl rfl ?_
      exact jX.sub jsb_n (ct_X12_fact2_r125_5000153 hD hQ  1 h (jr_ofl jkl_1 (by omega)) J Sm)
  by_cases c42 : a3.toInt = 8
  ·
    refine x_tableIn (tgt := 154) 8 rfl c42 (by decide) (by decide) rfl rfl ?_
    refine x_aloadn (x := 125) rfl rfl ?_
    refine x_iloadn (x := a1) rfl rfl ?_
    refine x_iloadn (x := a2) rfl rfl ?_
    refine x_inv (N := m_X12_valueHeld) (As := [.int a1, .int a2]) (b := 125) (st := []) (dx9 := 3) (mc := 0) (ms := 0) (host := "") 12 rfl t_X12_valueHeld ⟨Or.inl q_12_710, i_X12_valueHeld.1, i_X12_valueHeld.2⟩ ⟨by decide, rfl⟩ (congrArg Prod.fst (J.1.1 125 (12, 92) rfl)) rfl (by decide) rfl rfl ⟨by decide, by decide⟩ (sf_X12_valueHeld_r125 (jr_of rfl (by omega)) (jr_of rfl (by omega)) hD J  (fun v44 h J S43 => ?_))
    have ev44 := jfull v44
    have Sm := jSm_tr rfl Sm S43
    show jX m_X12_fact2 8 0 0 160 [(0, .ref 125), (1, .int a1), (2, .int a2), (3, .int a3)] [.int v44] _ 0 0 _
    refine x_ifle (tgt := 167) rfl rfl (ti_le rfl jk_0 ⟨fun c45 => ?_, fun c45 => ?_⟩)
    ·
      refine x_lconst (v := 0) rfl kl_0 ?_
      exact jX.sub jsb_n (ct_X12_fact2_r125_5000168 hD hQ  0 h (jr_ofl jkl_0 (by omega)) J Sm)
    ·
      refine x_lconst (v := 1) rfl kl_1 ?_
      refine x_goto (tgt := 168) rfl rfl ?_
      exact jX.sub jsb_n (ct_X12_fact2_r125_5000168 hD hQ  1 h (jr_ofl jkl_1 (by omega)) J Sm)
  refine x_tableOut (tgt := 169) rfl (by omega) rfl ?_
  refine x_aloadn (x := 125) rfl rfl ?_
  refine x_iloadn (x := a1) rfl rfl ?_
  refine x_iloadn (x := a2) rfl rfl ?_
  refine x_iconst (v := (-1)) rfl ki_m1 ?_
  refine x_inv (N := m_X12_isCertified) (As := [.int a1, .int a2, .int (-1)]) (b := 125) (st := []) (dx9 := 2) (mc := 0) (ms := 0) (host := "") 12 rfl t_X12_isCertified ⟨Or.inl q_12_719, i_X12_isCertified.1, i_X12_isCertified.2⟩ ⟨by decide, rfl⟩ (congrArg Prod.fst (J.1.1 125 (12, 92) rfl)) rfl (by decide) rfl rfl ⟨by decide, by decide⟩ (sf_X12_isCertified_r125 (jr_of rfl (by omega)) (jr_of rfl (by omega)) (jr_of jk_m1 (by omega)) hD J  (fun v47 h ev47 J S46 => ?_))
  have Sm := jSm_tr rfl Sm S46
  show jX m_X12_fact2 8 0 0 176 [(0, .ref 125), (1, .int a1), (2, .int a2), (3, .int a3)] [.int v47] _ 0 0 _
  refine x_ifeq (tgt := 183) rfl rfl (ti_eq rfl jk_0 ⟨fun c48 => ?_, fun c48 => ?_⟩)
  ·
    refine x_lconst (v := 0) rfl kl_0 ?_
    exact jX.sub jsb_n (ct_X12_fact2_r125_5000184 hD hQ  0 h (jr_ofl jkl_0 (by omega)) J Sm)
  ·
    refine x_lconst (v := 1) rfl kl_1 ?_
    refine x_goto (tgt := 184) rfl rfl ?_
    exact jX.sub jsb_n (ct_X12_fact2_r125_5000184 hD hQ  1 h (jr_ofl jkl_1 (by omega)) J Sm)
def fp_X12_stands_r125 : jFp := []
set_option maxRecDepth 100000 in
set_option maxHeartbeats 4000000 in
theorem ct_X12_stands_r125_95 {Dy : jH → Prop} {h0 : jH} {Q : Option Value → jH → Prop} (hD : jDk Dy) (hQ : ∀ (v : Int32) hx9, 0 ≤ v.toInt ∧ v.toInt ≤ 1 → jJ jSgM Dy hx9 → jSm fp_X12_stands_r125 h0 hx9 → Q (some (.int v)) hx9) : ∀ (l6 : Int32) (h : jH), 0 ≤ l6.toInt ∧ l6.toInt ≤ 1 → jJ jSgM Dy h → jSm fp_X12_stands_r125 h0 h → jX m_X12_stands 1 0 0 95 [(6, .int l6)] [] h 0 0 Q := by
  intro l6 h y0   J Sm
  refine x_iload (x := l6) rfl rfl ?_
  refine x_zret rfl rfl (jz01 (by omega)) ?_
  exact hQ _ _ (jr_of rfl (by omega)) J Sm
set_option maxRecDepth 100000 in
set_option maxHeartbeats 4000000 in
theorem ct_X12_stands_r125_200087 {Dy : jH → Prop} {h0 : jH} {Q : Option Value → jH → Prop} {R37 : Int} (hD : jDk Dy) (hQ : ∀ (v : Int32) hx9, 0 ≤ v.toInt ∧ v.toInt ≤ 1 → jJ jSgM Dy hx9 → jSm fp_X12_stands_r125 h0 hx9 → Q (some (.int v)) hx9) (k37 : ∀ (l1 : Int32) (l2 : Int32) (l3 : Int32) (l4 : Int32) (l5 : Int32) (l6 : Int32) (l7 : Int32) (h : jH), 3 - l7.toInt < R37 → 26 ≤ l1.toInt ∧ l1.toInt ≤ 18006 → l1.toInt % 2 = 0 → 0 ≤ l2.toInt ∧ l2.toInt ≤ 11 → 0 ≤ l3.toInt ∧ l3.toInt ≤ 15 → 0 ≤ l4.toInt ∧ l4.toInt ≤ 14 → l4.toInt % 2 = 0 → 0 ≤ l5.toInt ∧ l5.toInt ≤ 3 → 0 ≤ l6.toInt ∧ l6.toInt ≤ 1 → 0 ≤ l7.toInt ∧ l7.toInt ≤ 3 → (l1.toInt % 90 = 6 ∨ l1.toInt % 90 = 26 ∨ l1.toInt % 90 = 40 ∨ l1.toInt % 90 = 54 ∨ l1.toInt % 90 = 68 ∨ l1.toInt % 90 = 82) → (l6.toInt = 0 ∨ l2.toInt + l5.toInt ≤ 12) → jJ jSgM Dy h → jSm fp_X12_stands_r125 h0 h → jX m_X12_stands 1 0 0 37 [(0, .ref 125), (1, .int l1), (2, .int l2), (3, .int l3), (4, .int l4), (5, .int l5), (6, .int l6), (7, .int l7)] [] h 0 0 Q) : ∀ (l1 : Int32) (l2 : Int32) (l3 : Int32) (l4 : Int32) (l5 : Int32) (l7 : Int32) (h : jH), 26 ≤ l1.toInt ∧ l1.toInt ≤ 18006 → l1.toInt % 2 = 0 → 0 ≤ l2.toInt ∧ l2.toInt ≤ 11 → 0 ≤ l3.toInt ∧ l3.toInt ≤ 15 → 0 ≤ l4.toInt ∧ l4.toInt ≤ 14 → l4.toInt % 2 = 0 → 1 ≤ l5.toInt ∧ l5.toInt ≤ 3 → 0 ≤ l7.toInt ∧ l7.toInt ≤ 2 → (l1.toInt % 90 = 6 ∨ l1.toInt % 90 = 26 ∨ l1.toInt % 90 = 40 ∨ l1.toInt % 90 = 54 ∨ l1.toInt % 90 = 68 ∨ l1.toInt % 90 = 82) → 3 - l7.toInt ≤ R37 → jJ jSgM Dy h → jSm fp_X12_stands_r125 h0 h → jX m_X12_stands 1 0 0 87 [(0, .ref 125), (1, .int l1), (2, .int l2), (3, .int l3), (4, .int l4), (5, .int l5), (7, .int l7)] [.int 0] h 0 0 Q := by
  intro l1 l2 l3 l4 l5 l7 h y0 y1 y2 y3 y4 y5 y6 y7 y8  m37 J Sm
  refine x_istore (lsx9 := [(6, .int 0), (0, .ref 125), (1, .int l1), (2, .int l2), (3, .int l3), (4, .int l4), (5, .int l5), (7, .int l7)]) rfl rfl rfl ?_
  refine z_iinc (x := l7) (lsx9 := fun v1 => [(7, .int v1), (6, .int 0), (0, .ref 125), (1, .int l1), (2, .int l2), (3, .int l3), (4, .int l4), (5, .int l5)]) rfl rfl rfl jko_1 (by omega) rfl (fun _ => rfl) (fun v1 ev1 => ?_)
  refine x_goto (tgt := 37) rfl rfl ?_
  exact jX.sub (jsb_c rfl (jsb_c rfl (jsb_c rfl (jsb_c rfl (jsb_c rfl (jsb_c rfl (jsb_c rfl (jsb_c rfl jsb_n)))))))) (k37 l1 l2 l3 l4 l5 0 v1 h (by omega) (jr_of rfl (by omega)) (jr_mod rfl (by omega)) (jr_of rfl (by omega)) (jr_of rfl (by omega)) (jr_of rfl (by omega)) (jr_mod rfl (by omega)) (jr_of rfl (by omega)) (jr_of jk_0 (by omega)) (jr_of rfl (by omega)) (by omega) (by have := jk_0; omega) J Sm)
set_option maxRecDepth 100000 in
set_option maxHeartbeats 4000000 in
theorem ct_X12_stands_r125_300087 {Dy : jH → Prop} {h0 : jH} {Q : Option Value → jH → Prop} {R37 : Int} (hD : jDk Dy) (hQ : ∀ (v : Int32) hx9, 0 ≤ v.toInt ∧ v.toInt ≤ 1 → jJ jSgM Dy hx9 → jSm fp_X12_stands_r125 h0 hx9 → Q (some (.int v)) hx9) (k37 : ∀ (l1 : Int32) (l2 : Int32) (l3 : Int32) (l4 : Int32) (l5 : Int32) (l6 : Int32) (l7 : Int32) (h : jH), 3 - l7.toInt < R37 → 26 ≤ l1.toInt ∧ l1.toInt ≤ 18006 → l1.toInt % 2 = 0 → 0 ≤ l2.toInt ∧ l2.toInt ≤ 11 → 0 ≤ l3.toInt ∧ l3.toInt ≤ 15 → 0 ≤ l4.toInt ∧ l4.toInt ≤ 14 → l4.toInt % 2 = 0 → 0 ≤ l5.toInt ∧ l5.toInt ≤ 3 → 0 ≤ l6.toInt ∧ l6.toInt ≤ 1 → 0 ≤ l7.toInt ∧ l7.toInt ≤ 3 → (l1.toInt % 90 = 6 ∨ l1.toInt % 90 = 26 ∨ l1.toInt % 90 = 40 ∨ l1.toInt % 90 = 54 ∨ l1.toInt % 90 = 68 ∨ l1.toInt % 90 = 82) → (l6.toInt = 0 ∨ l2.toInt + l5.toInt ≤ 12) → jJ jSgM Dy h → jSm fp_X12_stands_r125 h0 h → jX m_X12_stands 1 0 0 37 [(0, .ref 125), (1, .int l1), (2, .int l2), (3, .int l3), (4, .int l4), (5, .int l5), (6, .int l6), (7, .int l7)] [] h 0 0 Q) : ∀ (l1 : Int32) (l2 : Int32) (l3 : Int32) (l4 : Int32) (l5 : Int32) (l7 : Int32) (h : jH), 26 ≤ l1.toInt ∧ l1.toInt ≤ 18006 → l1.toInt % 2 = 0 → 0 ≤ l2.toInt ∧ l2.toInt ≤ 11 → 0 ≤ l3.toInt ∧ l3.toInt ≤ 15 → 0 ≤ l4.toInt ∧ l4.toInt ≤ 14 → l4.toInt % 2 = 0 → 1 ≤ l5.toInt ∧ l5.toInt ≤ 3 → 0 ≤ l7.toInt ∧ l7.toInt ≤ 2 → (l1.toInt % 90 = 6 ∨ l1.toInt % 90 = 26 ∨ l1.toInt % 90 = 40 ∨ l1.toInt % 90 = 54 ∨ l1.toInt % 90 = 68 ∨ l1.toInt % 90 = 82) → l2.toInt + l5.toInt ≤ 12 → 3 - l7.toInt ≤ R37 → jJ jSgM Dy h → jSm fp_X12_stands_r125 h0 h → jX m_X12_stands 1 0 0 87 [(0, .ref 125), (1, .int l1), (2, .int l2), (3, .int l3), (4, .int l4), (5, .int l5), (7, .int l7)] [.int 1] h 0 0 Q := by
  intro l1 l2 l3 l4 l5 l7 h y0 y1 y2 y3 y4 y5 y6 y7 y8 y9  m37 J Sm
  refine x_istore (lsx9 := [(6, .int 1), (0, .ref 125), (1, .int l1), (2, .int l2), (3, .int l3), (4, .int l4), (5, .int l5), (7, .int l7)]) rfl rfl rfl ?_
  refine z_iinc (x := l7) (lsx9 := fun v1 => [(7, .int v1), (6, .int 1), (0, .ref 125), (1, .int l1), (2, .int l2), (3, .int l3), (4, .int l4), (5, .int l5)]) rfl rfl rfl jko_1 (by omega) rfl (fun _ => rfl) (fun v1 ev1 => ?_)
  refine x_goto (tgt := 37) rfl rfl ?_
  exact jX.sub (jsb_c rfl (jsb_c rfl (jsb_c rfl (jsb_c rfl (jsb_c rfl (jsb_c rfl (jsb_c rfl (jsb_c rfl jsb_n)))))))) (k37 l1 l2 l3 l4 l5 1 v1 h (by omega) (jr_of rfl (by omega)) (jr_mod rfl (by omega)) (jr_of rfl (by omega)) (jr_of rfl (by omega)) (jr_of rfl (by omega)) (jr_mod rfl (by omega)) (jr_of rfl (by omega)) (jr_of jk_1 (by omega)) (jr_of rfl (by omega)) (by omega) (by have := jk_1; omega) J Sm)
set_option maxRecDepth 100000 in
set_option maxHeartbeats 4000000 in
theorem ct_X12_stands_r125_37 {Dy : jH → Prop} {h0 : jH} {Q : Option Value → jH → Prop} (hD : jDk Dy) (hQ : ∀ (v : Int32) hx9, 0 ≤ v.toInt ∧ v.toInt ≤ 1 → jJ jSgM Dy hx9 → jSm fp_X12_stands_r125 h0 hx9 → Q (some (.int v)) hx9) : ∀ r : Nat, ∀ (l1 : Int32) (l2 : Int32) (l3 : Int32) (l4 : Int32) (l5 : Int32) (l6 : Int32) (l7 : Int32) (h : jH), 3 - l7.toInt < (r : Int) → 26 ≤ l1.toInt ∧ l1.toInt ≤ 18006 → l1.toInt % 2 = 0 → 0 ≤ l2.toInt ∧ l2.toInt ≤ 11 → 0 ≤ l3.toInt ∧ l3.toInt ≤ 15 → 0 ≤ l4.toInt ∧ l4.toInt ≤ 14 → l4.toInt % 2 = 0 → 0 ≤ l5.toInt ∧ l5.toInt ≤ 3 → 0 ≤ l6.toInt ∧ l6.toInt ≤ 1 → 0 ≤ l7.toInt ∧ l7.toInt ≤ 3 → (l1.toInt % 90 = 6 ∨ l1.toInt % 90 = 26 ∨ l1.toInt % 90 = 40 ∨ l1.toInt % 90 = 54 ∨ l1.toInt % 90 = 68 ∨ l1.toInt % 90 = 82) → (l6.toInt = 0 ∨ l2.toInt + l5.toInt ≤ 12) → jJ jSgM Dy h → jSm fp_X12_stands_r125 h0 h → jX m_X12_stands 1 0 0 37 [(0, .ref 125), (1, .int l1), (2, .int l2), (3, .int l3), (4, .int l4), (5, .int l5), (6, .int l6), (7, .int l7)] [] h 0 0 Q := by
  intro r
  induction r with
  | zero =>
    intro l1 l2 l3 l4 l5 l6 l7 h hm y0 y1 y2 y3 y4 y5 y6 y7 y8 y9 y10   J Sm
    exfalso
    omega
  | succ r ih =>
    intro l1 l2 l3 l4 l5 l6 l7 h hm y0 y1 y2 y3 y4 y5 y6 y7 y8 y9 y10   J Sm
    refine x_iload (x := l7) rfl rfl ?_
    refine x_iload (x := l5) rfl rfl ?_
    refine x_icge (tgt := 95) rfl rfl (ti_ge rfl rfl ⟨fun c1 => ?_, fun c1 => ?_⟩)
    ·
      exact jX.sub (jsb_c rfl jsb_n) (ct_X12_stands_r125_95 hD hQ  l6 h (jr_of rfl (by omega)) J Sm)
    ·
      refine x_iload (x := l6) rfl rfl ?_
      refine x_ifeq (tgt := 95) rfl rfl (ti_eq rfl jk_0 ⟨fun c2 => ?_, fun c2 => ?_⟩)
      ·
        exact jX.sub (jsb_c rfl jsb_n) (ct_X12_stands_r125_95 hD hQ  l6 h (jr_of rfl (by omega)) J Sm)
      ·
        refine x_aloadn (x := 125) rfl rfl ?_
        refine z_getR (N := 92) (b := 126) 12 2 rfl f_12_8 rfl J rfl 16002 ⟨rfl, rfl⟩ rfl ?_
        refine x_iloadn (x := l1) rfl rfl ?_
        refine x_iconst (v := 2) rfl ki_2 ?_
        refine z_iadd rfl rfl jk_2 (by omega) (fun v3 ev3 => ?_)
        refine x_iloadn (x := l2) rfl rfl ?_
        refine z_iadd rfl rfl rfl (by omega) (fun v4 ev4 => ?_)
        refine x_iload (x := l7) rfl rfl ?_
        refine z_iadd rfl rfl rfl (by omega) (fun v5 ev5 => ?_)
        refine z_iald0 (N := 50660) rfl J rfl rfl (by omega) (fun v6 qv6 => ?_)
        have ev6 := jfull v6
        refine x_aloadn (x := 125) rfl rfl ?_
        refine z_getR (N := 92) (b := 134) 12 17 rfl f_12_42 rfl J rfl 16017 ⟨rfl, rfl⟩ rfl ?_
        refine x_bipush (v := 48) rfl kb_48 ?_
        refine x_iloadn (x := l3) rfl rfl ?_
        refine z_imul rfl jk_48 rfl (by omega) (fun v7 ev7 => ?_)
        refine x_iconst (v := 3) rfl ki_3 ?_
        refine x_iload (x := l4) rfl rfl ?_
        refine z_imul rfl jk_3 rfl (by omega) (fun v8 ev8 => ?_)
        refine z_iadd rfl rfl rfl (by omega) (fun v9 ev9 => ?_)
        refine x_iload (x := l7) rfl rfl ?_
        refine z_iadd rfl rfl rfl (by omega) (fun v10 ev10 => ?_)
        refine z_iald (N := 768) rfl J rfl sg_134_0_768_1_0_1 rfl (by omega) (fun v11 qv11 ev11 => ?_)
        refine x_icne (tgt := 86) rfl rfl (ti_ne rfl rfl ⟨fun c12 => ?_, fun c12 => ?_⟩)
        ·
          refine x_iconst (v := 0) rfl ki_0 ?_
          exact jX.sub (jsb_c rfl (jsb_c rfl (jsb_c rfl (jsb_c rfl (jsb_c rfl (jsb_c rfl (jsb_c rfl jsb_n))))))) (ct_X12_stands_r125_200087 hD hQ ih l1 l2 l3 l4 l5 l7 h (jr_of rfl (by omega)) (jr_mod rfl (by omega)) (jr_of rfl (by omega)) (jr_of rfl (by omega)) (jr_of rfl (by omega)) (jr_mod rfl (by omega)) (jr_of rfl (by omega)) (jr_of rfl (by omega)) (by omega) (by omega) J Sm)
        ·
          refine x_iconst (v := 1) rfl ki_1 ?_
          refine x_goto (tgt := 87) rfl rfl ?_
          exact jX.sub (jsb_c rfl (jsb_c rfl (jsb_c rfl (jsb_c rfl (jsb_c rfl (jsb_c rfl (jsb_c rfl jsb_n))))))) (ct_X12_stands_r125_300087 hD hQ ih l1 l2 l3 l4 l5 l7 h (jr_of rfl (by omega)) (jr_mod rfl (by omega)) (jr_of rfl (by omega)) (jr_of rfl (by omega)) (jr_of rfl (by omega)) (jr_mod rfl (by omega)) (jr_of rfl (by omega)) (jr_of rfl (by omega)) (by omega) (by omega) (by omega) J Sm)
set_option maxRecDepth 100000 in
set_option maxHeartbeats 4000000 in
theorem ct_X12_stands_r125_200032 {Dy : jH → Prop} {h0 : jH} {Q : Option Value → jH → Prop} (hD : jDk Dy) (hQ : ∀ (v : Int32) hx9, 0 ≤ v.toInt ∧ v.toInt ≤ 1 → jJ jSgM Dy hx9 → jSm fp_X12_stands_r125 h0 hx9 → Q (some (.int v)) hx9) : ∀ (l1 : Int32) (l2 : Int32) (l3 : Int32) (l4 : Int32) (l5 : Int32) (h : jH), 26 ≤ l1.toInt ∧ l1.toInt ≤ 18006 → l1.toInt % 2 = 0 → 0 ≤ l2.toInt ∧ l2.toInt ≤ 11 → 0 ≤ l3.toInt ∧ l3.toInt ≤ 15 → 0 ≤ l4.toInt ∧ l4.toInt ≤ 14 → l4.toInt % 2 = 0 → 0 ≤ l5.toInt ∧ l5.toInt ≤ 3 → (l1.toInt % 90 = 6 ∨ l1.toInt % 90 = 26 ∨ l1.toInt % 90 = 40 ∨ l1.toInt % 90 = 54 ∨ l1.toInt % 90 = 68 ∨ l1.toInt % 90 = 82) → jJ jSgM Dy h → jSm fp_X12_stands_r125 h0 h → jX m_X12_stands 1 0 0 32 [(0, .ref 125), (1, .int l1), (2, .int l2), (3, .int l3), (4, .int l4), (5, .int l5)] [.int 0] h 0 0 Q := by
  intro l1 l2 l3 l4 l5 h y0 y1 y2 y3 y4 y5 y6 y7   J Sm
  refine x_istore (lsx9 := [(6, .int 0), (0, .ref 125), (1, .int l1), (2, .int l2), (3, .int l3), (4, .int l4), (5, .int l5)]) rfl rfl rfl ?_
  refine x_iconst (v := 0) rfl ki_0 ?_
  refine x_istore (lsx9 := [(7, .int 0), (6, .int 0), (0, .ref 125), (1, .int l1), (2, .int l2), (3, .int l3), (4, .int l4), (5, .int l5)]) rfl rfl rfl ?_
  exact jX.sub (jsb_c rfl (jsb_c rfl (jsb_c rfl (jsb_c rfl (jsb_c rfl (jsb_c rfl (jsb_c rfl (jsb_c rfl jsb_n)))))))) (ct_X12_stands_r125_37 hD hQ  4 l1 l2 l3 l4 l5 0 0 h (by have := jk_0; omega) (jr_of rfl (by omega)) (jr_mod rfl (by omega)) (jr_of rfl (by omega)) (jr_of rfl (by omega)) (jr_of rfl (by omega)) (jr_mod rfl (by omega)) (jr_of rfl (by omega)) (jr_of jk_0 (by omega)) (jr_of jk_0 (by omega)) (by omega) (by have := jk_0; omega) J Sm)
set_option maxRecDepth 100000 in
set_option maxHeartbeats 4000000 in
theorem ct_X12_stands_r125_300032 {Dy : jH → Prop} {h0 : jH} {Q : Option Value → jH → Prop} (hD : jDk Dy) (hQ : ∀ (v : Int32) hx9, 0 ≤ v.toInt ∧ v.toInt ≤ 1 → jJ jSgM Dy hx9 → jSm fp_X12_stands_r125 h0 hx9 → Q (some (.int v)) hx9) : ∀ (l1 : Int32) (l2 : Int32) (l3 : Int32) (l4 : Int32) (l5 : Int32) (h : jH), 26 ≤ l1.toInt ∧ l1.toInt ≤ 18006 → l1.toInt % 2 = 0 → 0 ≤ l2.toInt ∧ l2.toInt ≤ 11 → 0 ≤ l3.toInt ∧ l3.toInt ≤ 15 → 0 ≤ l4.toInt ∧ l4.toInt ≤ 14 → l4.toInt % 2 = 0 → 0 ≤ l5.toInt ∧ l5.toInt ≤ 3 → (l1.toInt % 90 = 6 ∨ l1.toInt % 90 = 26 ∨ l1.toInt % 90 = 40 ∨ l1.toInt % 90 = 54 ∨ l1.toInt % 90 = 68 ∨ l1.toInt % 90 = 82) → l2.toInt + l5.toInt ≤ 12 → jJ jSgM Dy h → jSm fp_X12_stands_r125 h0 h → jX m_X12_stands 1 0 0 32 [(0, .ref 125), (1, .int l1), (2, .int l2), (3, .int l3), (4, .int l4), (5, .int l5)] [.int 1] h 0 0 Q := by
  intro l1 l2 l3 l4 l5 h y0 y1 y2 y3 y4 y5 y6 y7 y8   J Sm
  refine x_istore (lsx9 := [(6, .int 1), (0, .ref 125), (1, .int l1), (2, .int l2), (3, .int l3), (4, .int l4), (5, .int l5)]) rfl rfl rfl ?_
  refine x_iconst (v := 0) rfl ki_0 ?_
  refine x_istore (lsx9 := [(7, .int 0), (6, .int 1), (0, .ref 125), (1, .int l1), (2, .int l2), (3, .int l3), (4, .int l4), (5, .int l5)]) rfl rfl rfl ?_
  exact jX.sub (jsb_c rfl (jsb_c rfl (jsb_c rfl (jsb_c rfl (jsb_c rfl (jsb_c rfl (jsb_c rfl (jsb_c rfl jsb_n)))))))) (ct_X12_stands_r125_37 hD hQ  4 l1 l2 l3 l4 l5 1 0 h (by have := jk_0; omega) (jr_of rfl (by omega)) (jr_mod rfl (by omega)) (jr_of rfl (by omega)) (jr_of rfl (by omega)) (jr_of rfl (by omega)) (jr_mod rfl (by omega)) (jr_of rfl (by omega)) (jr_of jk_1 (by omega)) (jr_of jk_0 (by omega)) (by omega) (by have := jk_1; omega) J Sm)
set_option maxRecDepth 100000 in
set_option maxHeartbeats 4000000 in
theorem sf_X12_stands_r125 {Dy : jH → Prop} {h : jH} {Q : Option Value → jH → Prop} {a1 : Int32} {a2 : Int32} {a3 : Int32} {a4 : Int32} (y1 : 26 ≤ a1.toInt ∧ a1.toInt ≤ 18006) (ym1 : a1.toInt % 2 = 0) (yr1 : (a1.toInt % 90 = 6 ∨ a1.toInt % 90 = 26 ∨ a1.toInt % 90 = 40 ∨ a1.toInt % 90 = 54 ∨ a1.toInt % 90 = 68 ∨ a1.toInt % 90 = 82)) (y2 : 0 ≤ a2.toInt ∧ a2.toInt ≤ 11) (y3 : 0 ≤ a3.toInt ∧ a3.toInt ≤ 15) (y4 : 0 ≤ a4.toInt ∧ a4.toInt ≤ 14) (ym4 : a4.toInt % 2 = 0) (hD : jDk Dy) (J : jJ jSgM Dy h) (hQ : ∀ (v : Int32) hx9, 0 ≤ v.toInt ∧ v.toInt ≤ 1 → jJ jSgM Dy hx9 → jSm fp_X12_stands_r125 h hx9 → Q (some (.int v)) hx9) : jC m_X12_stands 1 0 0 [.ref 125, .int a1, .int a2, .int a3, .int a4] h Q := by
  refine jC.of rfl k_X12_stands rfl ?_
  have Sm := jSm_rf fp_X12_stands_r125 h
  show jX m_X12_stands 1 0 0 0 [(0, .ref 125), (1, .int a1), (2, .int a2), (3, .int a3), (4, .int a4)] [] _ 0 0 _
  refine x_aloadn (x := 125) rfl rfl ?_
  refine z_getR (N := 92) (b := 133) 12 16 rfl f_12_39 rfl J rfl 16016 ⟨rfl, rfl⟩ rfl ?_
  refine x_bipush (v := 16) rfl kb_16 ?_
  refine x_iloadn (x := a3) rfl rfl ?_
  refine z_imul rfl jk_16 rfl (by omega) (fun v1 ev1 => ?_)
  refine x_iload (x := a4) rfl rfl ?_
  refine z_iadd rfl rfl rfl (by omega) (fun v2 ev2 => ?_)
  refine z_iald (N := 256) rfl J rfl sg_133_0_256_1_0_1 rfl (by omega) (fun v3 qv3 ev3 => ?_)
  refine x_istore (lsx9 := [(5, .int v3), (0, .ref 125), (1, .int a1), (2, .int a2), (3, .int a3), (4, .int a4)]) rfl rfl rfl ?_
  refine x_iloadn (x := a2) rfl rfl ?_
  refine x_iload (x := v3) rfl rfl ?_
  refine z_iadd rfl rfl rfl (by omega) (fun v4 ev4 => ?_)
  refine x_aloadn (x := 125) rfl rfl ?_
  refine z_getR (N := 92) (b := 126) 12 2 rfl f_12_8 rfl J rfl 16002 ⟨rfl, rfl⟩ rfl ?_
  refine x_iloadn (x := a1) rfl rfl ?_
  refine z_ialdU (N := 50660) (lo := 0) (hi := 12) rfl J rfl rfl (by omega) ((show (a1.toInt - 20) % 90 = 6 ∨ (a1.toInt - 20) % 90 = 20 ∨ (a1.toInt - 20) % 90 = 34 ∨ (a1.toInt - 20) % 90 = 48 ∨ (a1.toInt - 20) % 90 = 62 ∨ (a1.toInt - 20) % 90 = 76 from by omega).elim (fun q => (jrg_w (jrg_c J sg_126_20_18020_90_6_7 rfl (by omega)) (by decide))) (fun q => q.elim (fun q => (jrg_w (jrg_c J sg_126_20_18020_90_20_21 rfl (by omega)) (by decide))) (fun q => q.elim (fun q => (jrg_w (jrg_c J sg_126_20_18020_90_34_35 rfl (by omega)) (by decide))) (fun q => q.elim (fun q => (jrg_w (jrg_c J sg_126_20_18020_90_48_49 rfl (by omega)) (by decide))) (fun q => q.elim (fun q => (jrg_w (jrg_c J sg_126_20_18020_90_62_63 rfl (by omega)) (by decide))) (fun q => (jrg_w (jrg_c J sg_126_20_18020_90_76_77 rfl (by omega)) (by decide)))))))) (fun v5 qv5 ev5 => ?_)
  refine x_icgt (tgt := 31) rfl rfl (ti_gt rfl rfl ⟨fun c6 => ?_, fun c6 => ?_⟩)
  ·
    refine x_iconst (v := 0) rfl ki_0 ?_
    exact jX.sub (jsb_c rfl (jsb_c rfl (jsb_c rfl (jsb_c rfl (jsb_c rfl (jsb_c rfl jsb_n)))))) (ct_X12_stands_r125_200032 hD hQ  a1 a2 a3 a4 v3 h (jr_of rfl (by omega)) (jr_mod rfl (by omega)) (jr_of rfl (by omega)) (jr_of rfl (by omega)) (jr_of rfl (by omega)) (jr_mod rfl (by omega)) (jr_of rfl (by omega)) (by omega) J Sm)
  ·
    refine x_iconst (v := 1) rfl ki_1 ?_
    refine x_goto (tgt := 32) rfl rfl ?_
    exact jX.sub (jsb_c rfl (jsb_c rfl (jsb_c rfl (jsb_c rfl (jsb_c rfl (jsb_c rfl jsb_n)))))) (ct_X12_stands_r125_300032 hD hQ  a1 a2 a3 a4 v3 h (jr_of rfl (by omega)) (jr_mod rfl (by omega)) (jr_of rfl (by omega)) (jr_of rfl (by omega)) (jr_of rfl (by omega)) (jr_mod rfl (by omega)) (jr_of rfl (by omega)) (by omega) (by omega) J Sm)
def fp_X12_fold_r125 : jFp := [(137, 0, 80), (138, 0, 2)]
set_option maxRecDepth 100000 in
set_option maxHeartbeats 4000000 in
theorem ct_X12_fold_r125_218 {Dy : jH → Prop} {h0 : jH} {Q : Option Value → jH → Prop} {R30 : Int} (hD : jDk Dy) (hQ : ∀ hx9, jJ jSgM Dy hx9 → jSm fp_X12_fold_r125 h0 hx9 → Q none hx9) (k30 : ∀ (l3 : Int32) (l4 : Int32) (l5 : Int32) (l6 : Int32) (l7 : Int32) (h : jH), 14 - l7.toInt < R30 → 0 ≤ l3.toInt ∧ l3.toInt ≤ 1 → 26 ≤ l4.toInt ∧ l4.toInt ≤ 18006 → l4.toInt % 2 = 0 → 0 ≤ l5.toInt ∧ l5.toInt ≤ 15 → 0 ≤ l6.toInt ∧ l6.toInt ≤ 36 → 0 ≤ l7.toInt ∧ l7.toInt ≤ 14 → (l4.toInt % 90 = 6 ∨ l4.toInt % 90 = 26 ∨ l4.toInt % 90 = 40 ∨ l4.toInt % 90 = 54 ∨ l4.toInt % 90 = 68 ∨ l4.toInt % 90 = 82) → (l6.toInt ≤ 3 * l7.toInt ∧ l6.toInt ≤ 36) → jJ jSgM Dy h → jSm fp_X12_fold_r125 h0 h → jX m_X12_fold 3 0 0 30 [(0, .ref 125), (3, .int l3), (4, .int l4), (5, .int l5), (6, .int l6), (7, .int l7)] [] h 0 0 Q) : ∀ (l3 : Int32) (l4 : Int32) (l5 : Int32) (l6 : Int32) (l7 : Int32) (h : jH), 0 ≤ l3.toInt ∧ l3.toInt ≤ 1 → 26 ≤ l4.toInt ∧ l4.toInt ≤ 18006 → l4.toInt % 2 = 0 → 0 ≤ l5.toInt ∧ l5.toInt ≤ 15 → 0 ≤ l6.toInt ∧ l6.toInt ≤ 36 → 1 ≤ l7.toInt ∧ l7.toInt ≤ 14 → (l4.toInt % 90 = 6 ∨ l4.toInt % 90 = 26 ∨ l4.toInt % 90 = 40 ∨ l4.toInt % 90 = 54 ∨ l4.toInt % 90 = 68 ∨ l4.toInt % 90 = 82) → (l6.toInt ≤ 3 * l7.toInt ∧ l6.toInt ≤ 36) → 14 - l7.toInt < R30 → jJ jSgM Dy h → jSm fp_X12_fold_r125 h0 h → jX m_X12_fold 3 0 0 218 [(0, .ref 125), (3, .int l3), (4, .int l4), (5, .int l5), (6, .int l6), (7, .int l7)] [] h 0 0 Q := by
  intro l3 l4 l5 l6 l7 h y0 y1 y2 y3 y4 y5 y6 y7  m30 J Sm
  refine x_goto (tgt := 30) rfl rfl ?_
  exact jX.sub (jsb_c rfl (jsb_c rfl (jsb_c rfl (jsb_c rfl (jsb_c rfl (jsb_c rfl jsb_n)))))) (k30 l3 l4 l5 l6 l7 h (by omega) (jr_of rfl (by omega)) (jr_of rfl (by omega)) (jr_mod rfl (by omega)) (jr_of rfl (by omega)) (jr_of rfl (by omega)) (jr_of rfl (by omega)) (by omega) (by omega) J Sm)
set_option maxRecDepth 100000 in
set_option maxHeartbeats 4000000 in
theorem ct_X12_fold_r125_134 {Dy : jH → Prop} {h0 : jH} {Q : Option Value → jH → Prop} {R30 : Int} (hD : jDk Dy) (hQ : ∀ hx9, jJ jSgM Dy hx9 → jSm fp_X12_fold_r125 h0 hx9 → Q none hx9) (k30 : ∀ (l3 : Int32) (l4 : Int32) (l5 : Int32) (l6 : Int32) (l7 : Int32) (h : jH), 14 - l7.toInt < R30 → 0 ≤ l3.toInt ∧ l3.toInt ≤ 1 → 26 ≤ l4.toInt ∧ l4.toInt ≤ 18006 → l4.toInt % 2 = 0 → 0 ≤ l5.toInt ∧ l5.toInt ≤ 15 → 0 ≤ l6.toInt ∧ l6.toInt ≤ 36 → 0 ≤ l7.toInt ∧ l7.toInt ≤ 14 → (l4.toInt % 90 = 6 ∨ l4.toInt % 90 = 26 ∨ l4.toInt % 90 = 40 ∨ l4.toInt % 90 = 54 ∨ l4.toInt % 90 = 68 ∨ l4.toInt % 90 = 82) → (l6.toInt ≤ 3 * l7.toInt ∧ l6.toInt ≤ 36) → jJ jSgM Dy h → jSm fp_X12_fold_r125 h0 h → jX m_X12_fold 3 0 0 30 [(0, .ref 125), (3, .int l3), (4, .int l4), (5, .int l5), (6, .int l6), (7, .int l7)] [] h 0 0 Q) : ∀ r : Nat, ∀ (l3 : Int32) (l4 : Int32) (l5 : Int32) (l6 : Int32) (l7 : Int32) (l8 : Int32) (l9 : Int32) (g0 : Int32) (h : jH), 36 - l6.toInt < (r : Int) → 0 ≤ l3.toInt ∧ l3.toInt ≤ 1 → 26 ≤ l4.toInt ∧ l4.toInt ≤ 18006 → l4.toInt % 2 = 0 → 0 ≤ l5.toInt ∧ l5.toInt ≤ 15 → 0 ≤ l6.toInt ∧ l6.toInt ≤ 36 → 0 ≤ l7.toInt ∧ l7.toInt ≤ 11 → 0 ≤ l8.toInt ∧ l8.toInt ≤ 7 → 0 ≤ l9.toInt ∧ l9.toInt ≤ 3 → 1 ≤ g0.toInt ∧ g0.toInt ≤ 8 → (l4.toInt % 90 = 6 ∨ l4.toInt % 90 = 26 ∨ l4.toInt % 90 = 40 ∨ l4.toInt % 90 = 54 ∨ l4.toInt % 90 = 68 ∨ l4.toInt % 90 = 82) → l6.toInt ≤ 3 * l7.toInt + l9.toInt → l8.toInt - g0.toInt ≤ (-1) → jiv h 132 l5.toNatClampNeg = g0 → 14 - l7.toInt ≤ R30 → jJ jSgM Dy h → jSm fp_X12_fold_r125 h0 h → jX m_X12_fold 3 0 0 134 [(0, .ref 125), (3, .int l3), (4, .int l4), (5, .int l5), (6, .int l6), (7, .int l7), (8, .int l8), (9, .int l9)] [] h 0 0 Q := by
  intro r
  induction r with
  | zero =>
    intro l3 l4 l5 l6 l7 l8 l9 g0 h hm y0 y1 y2 y3 y4 y5 y6 y7 y8 y9 y10 y11 z0 m30 J Sm
    exfalso
    omega
  | succ r ih =>
    intro l3 l4 l5 l6 l7 l8 l9 g0 h hm y0 y1 y2 y3 y4 y5 y6 y7 y8 y9 y10 y11 z0 m30 J Sm
    refine x_iload (x := l9) rfl rfl ?_
    refine x_aloadn (x := 125) rfl rfl ?_
    refine z_getR (N := 92) (b := 133) 12 16 rfl f_12_39 rfl J rfl 16016 ⟨rfl, rfl⟩ rfl ?_
    refine x_bipush (v := 16) rfl kb_16 ?_
    refine x_iload (x := l5) rfl rfl ?_
    refine z_imul rfl jk_16 rfl (by omega) (fun v1 ev1 => ?_)
    refine x_iconst (v := 2) rfl ki_2 ?_
    refine x_iload (x := l8) rfl rfl ?_
    refine z_imul rfl jk_2 rfl (by omega) (fun v2 ev2 => ?_)
    refine z_iadd rfl rfl rfl (by omega) (fun v3 ev3 => ?_)
    refine x_iconst (v := 1) rfl ki_1 ?_
    refine z_iadd rfl rfl jk_1 (by omega) (fun v4 ev4 => ?_)
    refine z_iald (N := 256) rfl J rfl sg_133_0_256_1_0_1 rfl (by omega) (fun v5 qv5 ev5 => ?_)
    refine x_icge (tgt := 198) rfl rfl (ti_ge rfl rfl ⟨fun c6 => ?_, fun c6 => ?_⟩)
    ·
      refine x_iload (x := l7) rfl rfl ?_
      refine x_aloadn (x := 125) rfl rfl ?_
      refine z_getR (N := 92) (b := 133) 12 16 rfl f_12_39 rfl J rfl 16016 ⟨rfl, rfl⟩ rfl ?_
      refine x_bipush (v := 16) rfl kb_16 ?_
      refine x_iload (x := l5) rfl rfl ?_
      refine z_imul rfl jk_16 rfl (by omega) (fun v7 ev7 => ?_)
      refine x_iconst (v := 2) rfl ki_2 ?_
      refine x_iload (x := l8) rfl rfl ?_
      refine z_imul rfl jk_2 rfl (by omega) (fun v8 ev8 => ?_)
      refine z_iadd rfl rfl rfl (by omega) (fun v9 ev9 => ?_)
      refine z_iald (N := 256) rfl J rfl sg_133_0_256_1_0_1 rfl (by omega) (fun v10 qv10 ev10 => ?_)
      have sv10 := jspl_at (p := l8.toInt) hD J (by omega) (by omega) (by omega) z0 qv10
      refine z_iadd rfl rfl rfl (by omega) (fun v11 ev11 => ?_)
      refine x_istore (lsx9 := [(7, .int v11), (0, .ref 125), (3, .int l3), (4, .int l4), (5, .int l5), (6, .int l6), (8, .int l8), (9, .int l9)]) rfl rfl rfl ?_
      exact jX.sub (jsb_c rfl (jsb_c rfl (jsb_c rfl (jsb_c rfl (jsb_c rfl (jsb_c rfl jsb_n)))))) (ct_X12_fold_r125_218 hD hQ k30 l3 l4 l5 l6 v11 h (jr_of rfl (by omega)) (jr_of rfl (by omega)) (jr_mod rfl (by omega)) (jr_of rfl (by omega)) (jr_of rfl (by omega)) (jr_of rfl (by omega)) (by omega) (by omega) (by omega) J Sm)
    ·
      refine x_aloadn (x := 125) rfl rfl ?_
      refine z_getR (N := 92) (b := 137) 12 21 rfl f_12_51 rfl J rfl 16021 ⟨rfl, rfl⟩ rfl ?_
      refine x_bipush (v := 40) rfl kb_40 ?_
      refine x_iloadn (x := l3) rfl rfl ?_
      refine z_imul rfl jk_40 rfl (by omega) (fun v12 ev12 => ?_)
      refine x_iload (x := l6) rfl rfl ?_
      refine z_iadd rfl rfl rfl (by omega) (fun v13 ev13 => ?_)
      refine x_aloadn (x := 125) rfl rfl ?_
      refine z_getR (N := 92) (b := 134) 12 17 rfl f_12_42 rfl J rfl 16017 ⟨rfl, rfl⟩ rfl ?_
      refine x_bipush (v := 48) rfl kb_48 ?_
      refine x_iload (x := l5) rfl rfl ?_
      refine z_imul rfl jk_48 rfl (by omega) (fun v14 ev14 => ?_)
      refine x_bipush (v := 6) rfl kb_6 ?_
      refine x_iload (x := l8) rfl rfl ?_
      refine z_imul rfl jk_6 rfl (by omega) (fun v15 ev15 => ?_)
      refine z_iadd rfl rfl rfl (by omega) (fun v16 ev16 => ?_)
      refine x_iconst (v := 3) rfl ki_3 ?_
      refine z_iadd rfl rfl jk_3 (by omega) (fun v17 ev17 => ?_)
      refine x_iload (x := l9) rfl rfl ?_
      refine z_iadd rfl rfl rfl (by omega) (fun v18 ev18 => ?_)
      refine z_iald (N := 768) rfl J rfl sg_134_0_768_1_0_1 rfl (by omega) (fun v19 qv19 ev19 => ?_)
      refine z_iast (N := 80) (l := 0) (u := 80) (w := v19.toInt) rfl hD J Sm rfl rfl rfl (by omega) rfl (wr_137 (fun q1 q2 q3 q4 => by omega)) rfl (fun h w20 J Sm => ?_)
      refine z_iinc (x := l6) (lsx9 := fun v21 => [(6, .int v21), (0, .ref 125), (3, .int l3), (4, .int l4), (5, .int l5), (7, .int l7), (8, .int l8), (9, .int l9)]) rfl rfl rfl jko_1 (by omega) rfl (fun _ => rfl) (fun v21 ev21 => ?_)
      refine z_iinc (x := l9) (lsx9 := fun v22 => [(9, .int v22), (6, .int v21), (0, .ref 125), (3, .int l3), (4, .int l4), (5, .int l5), (7, .int l7), (8, .int l8)]) rfl rfl rfl jko_1 (by omega) rfl (fun _ => rfl) (fun v22 ev22 => ?_)
      refine x_goto (tgt := 134) rfl rfl ?_
      exact jX.sub (jsb_c rfl (jsb_c rfl (jsb_c rfl (jsb_c rfl (jsb_c rfl (jsb_c rfl (jsb_c rfl (jsb_c rfl jsb_n)))))))) (ih l3 l4 l5 v21 l7 l8 v22 g0 h (by omega) (jr_of rfl (by omega)) (jr_of rfl (by omega)) (jr_mod rfl (by omega)) (jr_of rfl (by omega)) (jr_of rfl (by omega)) (jr_of rfl (by omega)) (jr_of rfl (by omega)) (jr_of rfl (by omega)) (jr_of rfl (by omega)) (by omega) (by omega) (by omega) (jmo w20 rfl z0) (by omega) J Sm)
set_option maxRecDepth 100000 in
set_option maxHeartbeats 4000000 in
theorem ct_X12_fold_r125_85 {Dy : jH → Prop} {h0 : jH} {Q : Option Value → jH → Prop} {R30 : Int} {R56 : Int} (hD : jDk Dy) (hQ : ∀ hx9, jJ jSgM Dy hx9 → jSm fp_X12_fold_r125 h0 hx9 → Q none hx9) (k30 : ∀ (l3 : Int32) (l4 : Int32) (l5 : Int32) (l6 : Int32) (l7 : Int32) (h : jH), 14 - l7.toInt < R30 → 0 ≤ l3.toInt ∧ l3.toInt ≤ 1 → 26 ≤ l4.toInt ∧ l4.toInt ≤ 18006 → l4.toInt % 2 = 0 → 0 ≤ l5.toInt ∧ l5.toInt ≤ 15 → 0 ≤ l6.toInt ∧ l6.toInt ≤ 36 → 0 ≤ l7.toInt ∧ l7.toInt ≤ 14 → (l4.toInt % 90 = 6 ∨ l4.toInt % 90 = 26 ∨ l4.toInt % 90 = 40 ∨ l4.toInt % 90 = 54 ∨ l4.toInt % 90 = 68 ∨ l4.toInt % 90 = 82) → (l6.toInt ≤ 3 * l7.toInt ∧ l6.toInt ≤ 36) → jJ jSgM Dy h → jSm fp_X12_fold_r125 h0 h → jX m_X12_fold 3 0 0 30 [(0, .ref 125), (3, .int l3), (4, .int l4), (5, .int l5), (6, .int l6), (7, .int l7)] [] h 0 0 Q) (k56 : ∀ (l3 : Int32) (l4 : Int32) (l5 : Int32) (l6 : Int32) (l7 : Int32) (l8 : Int32) (l9 : Int32) (g0 : Int32) (h : jH), l9.toInt - (-1) < R56 → 0 ≤ l3.toInt ∧ l3.toInt ≤ 1 → 26 ≤ l4.toInt ∧ l4.toInt ≤ 18006 → l4.toInt % 2 = 0 → 0 ≤ l5.toInt ∧ l5.toInt ≤ 15 → 0 ≤ l6.toInt ∧ l6.toInt ≤ 33 → 0 ≤ l7.toInt ∧ l7.toInt ≤ 11 → (-1) ≤ l8.toInt ∧ l8.toInt ≤ 7 → (-1) ≤ l9.toInt ∧ l9.toInt ≤ 7 → 0 ≤ g0.toInt ∧ g0.toInt ≤ 8 → (l4.toInt % 90 = 6 ∨ l4.toInt % 90 = 26 ∨ l4.toInt % 90 = 40 ∨ l4.toInt % 90 = 54 ∨ l4.toInt % 90 = 68 ∨ l4.toInt % 90 = 82) → (l6.toInt ≤ 3 * l7.toInt ∧ l6.toInt ≤ 36) → l8.toInt - g0.toInt ≤ (-1) → l9.toInt - g0.toInt ≤ (-1) → jiv h 132 l5.toNatClampNeg = g0 → 14 - l7.toInt ≤ R30 → jJ jSgM Dy h → jSm fp_X12_fold_r125 h0 h → jX m_X12_fold 3 0 0 56 [(0, .ref 125), (3, .int l3), (4, .int l4), (5, .int l5), (6, .int l6), (7, .int l7), (8, .int l8), (9, .int l9)] [] h 0 0 Q) : ∀ (l3 : Int32) (l4 : Int32) (l5 : Int32) (l6 : Int32) (l7 : Int32) (l9 : Int32) (s0 : Int32) (g0 : Int32) (h : jH), 0 ≤ l3.toInt ∧ l3.toInt ≤ 1 → 26 ≤ l4.toInt ∧ l4.toInt ≤ 18006 → l4.toInt % 2 = 0 → 0 ≤ l5.toInt ∧ l5.toInt ≤ 15 → 0 ≤ l6.toInt ∧ l6.toInt ≤ 33 → 0 ≤ l7.toInt ∧ l7.toInt ≤ 11 → 0 ≤ l9.toInt ∧ l9.toInt ≤ 7 → (-1) ≤ s0.toInt ∧ s0.toInt ≤ 7 → 1 ≤ g0.toInt ∧ g0.toInt ≤ 8 → (l4.toInt % 90 = 6 ∨ l4.toInt % 90 = 26 ∨ l4.toInt % 90 = 40 ∨ l4.toInt % 90 = 54 ∨ l4.toInt % 90 = 68 ∨ l4.toInt % 90 = 82) → (l6.toInt ≤ 3 * l7.toInt ∧ l6.toInt ≤ 36) → l9.toInt - g0.toInt ≤ (-1) → s0.toInt - g0.toInt ≤ (-1) → jiv h 132 l5.toNatClampNeg = g0 → 14 - l7.toInt ≤ R30 → l9.toInt - (-1) ≤ R56 → jJ jSgM Dy h → jSm fp_X12_fold_r125 h0 h → jX m_X12_fold 3 0 0 85 [(0, .ref 125), (3, .int l3), (4, .int l4), (5, .int l5), (6, .int l6), (7, .int l7), (9, .int l9)] [.int s0] h 0 0 Q := by
  intro l3 l4 l5 l6 l7 l9 s0 g0 h y0 y1 y2 y3 y4 y5 y6 y7 y8 y9 y10 y11 y12 z0 m30 m56 J Sm
  refine x_istore (lsx9 := [(8, .int s0), (0, .ref 125), (3, .int l3), (4, .int l4), (5, .int l5), (6, .int l6), (7, .int l7), (9, .int l9)]) rfl rfl rfl ?_
  refine z_iinc (x := l9) (lsx9 := fun v1 => [(9, .int v1), (8, .int s0), (0, .ref 125), (3, .int l3), (4, .int l4), (5, .int l5), (6, .int l6), (7, .int l7)]) rfl rfl rfl jko_m1 (by omega) rfl (fun _ => rfl) (fun v1 ev1 => ?_)
  refine x_goto (tgt := 56) rfl rfl ?_
  exact jX.sub (jsb_c rfl (jsb_c rfl (jsb_c rfl (jsb_c rfl (jsb_c rfl (jsb_c rfl (jsb_c rfl (jsb_c rfl jsb_n)))))))) (k56 l3 l4 l5 l6 l7 s0 v1 g0 h (by omega) (jr_of rfl (by omega)) (jr_of rfl (by omega)) (jr_mod rfl (by omega)) (jr_of rfl (by omega)) (jr_of rfl (by omega)) (jr_of rfl (by omega)) (jr_of rfl (by omega)) (jr_of rfl (by omega)) (jr_of rfl (by omega)) (by omega) (by omega) (by omega) (by omega) z0 (by omega) J Sm)
set_option maxRecDepth 100000 in
set_option maxHeartbeats 4000000 in
theorem ct_X12_fold_r125_56 {Dy : jH → Prop} {h0 : jH} {Q : Option Value → jH → Prop} {R30 : Int} (hD : jDk Dy) (hQ : ∀ hx9, jJ jSgM Dy hx9 → jSm fp_X12_fold_r125 h0 hx9 → Q none hx9) (k30 : ∀ (l3 : Int32) (l4 : Int32) (l5 : Int32) (l6 : Int32) (l7 : Int32) (h : jH), 14 - l7.toInt < R30 → 0 ≤ l3.toInt ∧ l3.toInt ≤ 1 → 26 ≤ l4.toInt ∧ l4.toInt ≤ 18006 → l4.toInt % 2 = 0 → 0 ≤ l5.toInt ∧ l5.toInt ≤ 15 → 0 ≤ l6.toInt ∧ l6.toInt ≤ 36 → 0 ≤ l7.toInt ∧ l7.toInt ≤ 14 → (l4.toInt % 90 = 6 ∨ l4.toInt % 90 = 26 ∨ l4.toInt % 90 = 40 ∨ l4.toInt % 90 = 54 ∨ l4.toInt % 90 = 68 ∨ l4.toInt % 90 = 82) → (l6.toInt ≤ 3 * l7.toInt ∧ l6.toInt ≤ 36) → jJ jSgM Dy h → jSm fp_X12_fold_r125 h0 h → jX m_X12_fold 3 0 0 30 [(0, .ref 125), (3, .int l3), (4, .int l4), (5, .int l5), (6, .int l6), (7, .int l7)] [] h 0 0 Q) : ∀ r : Nat, ∀ (l3 : Int32) (l4 : Int32) (l5 : Int32) (l6 : Int32) (l7 : Int32) (l8 : Int32) (l9 : Int32) (g0 : Int32) (h : jH), l9.toInt - (-1) < (r : Int) → 0 ≤ l3.toInt ∧ l3.toInt ≤ 1 → 26 ≤ l4.toInt ∧ l4.toInt ≤ 18006 → l4.toInt % 2 = 0 → 0 ≤ l5.toInt ∧ l5.toInt ≤ 15 → 0 ≤ l6.toInt ∧ l6.toInt ≤ 33 → 0 ≤ l7.toInt ∧ l7.toInt ≤ 11 → (-1) ≤ l8.toInt ∧ l8.toInt ≤ 7 → (-1) ≤ l9.toInt ∧ l9.toInt ≤ 7 → 0 ≤ g0.toInt ∧ g0.toInt ≤ 8 → (l4.toInt % 90 = 6 ∨ l4.toInt % 90 = 26 ∨ l4.toInt % 90 = 40 ∨ l4.toInt % 90 = 54 ∨ l4.toInt % 90 = 68 ∨ l4.toInt % 90 = 82) → (l6.toInt ≤ 3 * l7.toInt ∧ l6.toInt ≤ 36) → l8.toInt - g0.toInt ≤ (-1) → l9.toInt - g0.toInt ≤ (-1) → jiv h 132 l5.toNatClampNeg = g0 → 14 - l7.toInt ≤ R30 → jJ jSgM Dy h → jSm fp_X12_fold_r125 h0 h → jX m_X12_fold 3 0 0 56 [(0, .ref 125), (3, .int l3), (4, .int l4), (5, .int l5), (6, .int l6), (7, .int l7), (8, .int l8), (9, .int l9)] [] h 0 0 Q := by
  intro r
  induction r with
  | zero =>
    intro l3 l4 l5 l6 l7 l8 l9 g0 h hm y0 y1 y2 y3 y4 y5 y6 y7 y8 y9 y10 y11 y12 z0 m30 J Sm
    exfalso
    omega
  | succ r ih =>
    intro l3 l4 l5 l6 l7 l8 l9 g0 h hm y0 y1 y2 y3 y4 y5 y6 y7 y8 y9 y10 y11 y12 z0 m30 J Sm
    refine x_iload (x := l9) rfl rfl ?_
    refine x_iflt (tgt := 93) rfl rfl (ti_lt rfl jk_0 ⟨fun c1 => ?_, fun c1 => ?_⟩)
    ·
      refine x_iload (x := l8) rfl rfl ?_
      refine x_ifge (tgt := 131) rfl rfl (ti_ge rfl jk_0 ⟨fun c2 => ?_, fun c2 => ?_⟩)
      ·
        refine x_iconst (v := 0) rfl ki_0 ?_
        refine x_istore (lsx9 := [(9, .int 0), (0, .ref 125), (3, .int l3), (4, .int l4), (5, .int l5), (6, .int l6), (7, .int l7), (8, .int l8)]) rfl rfl rfl ?_
        exact jX.sub (jsb_c rfl (jsb_c rfl (jsb_c rfl (jsb_c rfl (jsb_c rfl (jsb_c rfl (jsb_c rfl (jsb_c rfl jsb_n)))))))) (ct_X12_fold_r125_134 hD hQ k30 37 l3 l4 l5 l6 l7 l8 0 g0 h (by omega) (jr_of rfl (by omega)) (jr_of rfl (by omega)) (jr_mod rfl (by omega)) (jr_of rfl (by omega)) (jr_of rfl (by omega)) (jr_of rfl (by omega)) (jr_of rfl (by omega)) (jr_of jk_0 (by omega)) (jr_of rfl (by omega)) (by omega) (by have := jk_0; omega) (by omega) z0 (by omega) J Sm)
      ·
        refine x_aloadn (x := 125) rfl rfl ?_
        refine z_getR (N := 92) (b := 137) 12 21 rfl f_12_51 rfl J rfl 16021 ⟨rfl, rfl⟩ rfl ?_
        refine x_bipush (v := 40) rfl kb_40 ?_
        refine x_iloadn (x := l3) rfl rfl ?_
        refine z_imul rfl jk_40 rfl (by omega) (fun v3 ev3 => ?_)
        refine x_iload (x := l6) rfl rfl ?_
        refine z_iadd rfl rfl rfl (by omega) (fun v4 ev4 => ?_)
        refine x_aloadn (x := 125) rfl rfl ?_
        refine z_getR (N := 92) (b := 126) 12 2 rfl f_12_8 rfl J rfl 16002 ⟨rfl, rfl⟩ rfl ?_
        refine x_iload (x := l4) rfl rfl ?_
        refine x_iconst (v := 2) rfl ki_2 ?_
        refine z_iadd rfl rfl jk_2 (by omega) (fun v5 ev5 => ?_)
        refine x_iload (x := l7) rfl rfl ?_
        refine z_iadd rfl rfl rfl (by omega) (fun v6 ev6 => ?_)
        refine z_ialdU (N := 50660) (lo := 0) (hi := 255) rfl J rfl rfl (by omega) ((show (8 ≤ (v6.toInt - 20) % 90 ∧ (v6.toInt - 20) % 90 < 20) ∨ (22 ≤ (v6.toInt - 20) % 90 ∧ (v6.toInt - 20) % 90 < 34) ∨ (36 ≤ (v6.toInt - 20) % 90 ∧ (v6.toInt - 20) % 90 < 48) ∨ (50 ≤ (v6.toInt - 20) % 90 ∧ (v6.toInt - 20) % 90 < 62) ∨ (64 ≤ (v6.toInt - 20) % 90 ∧ (v6.toInt - 20) % 90 < 76) ∨ (78 ≤ (v6.toInt - 20) % 90 ∧ (v6.toInt - 20) % 90 < 90) from by omega).elim (fun q => (jrg_w (jrg_c J sg_126_20_18020_90_8_20 rfl (by omega)) (by decide))) (fun q => q.elim (fun q => (jrg_w (jrg_c J sg_126_20_18020_90_22_34 rfl (by omega)) (by decide))) (fun q => q.elim (fun q => (jrg_w (jrg_c J sg_126_20_18020_90_36_48 rfl (by omega)) (by decide))) (fun q => q.elim (fun q => (jrg_w (jrg_c J sg_126_20_18020_90_50_62 rfl (by omega)) (by decide))) (fun q => q.elim (fun q => (jrg_w (jrg_c J sg_126_20_18020_90_64_76 rfl (by omega)) (by decide))) (fun q => (jrg_w (jrg_c J sg_126_20_18020_90_78_90 rfl (by omega)) (by decide)))))))) (fun v7 qv7 ev7 => ?_)
        refine z_iast (N := 80) (l := 0) (u := 80) (w := v7.toInt) rfl hD J Sm rfl rfl rfl (by omega) rfl (wr_137 (fun q1 q2 q3 q4 => by omega)) rfl (fun h w8 J Sm => ?_)
        refine z_iinc (x := l6) (lsx9 := fun v9 => [(6, .int v9), (0, .ref 125), (3, .int l3), (4, .int l4), (5, .int l5), (7, .int l7), (8, .int l8), (9, .int l9)]) rfl rfl rfl jko_1 (by omega) rfl (fun _ => rfl) (fun v9 ev9 => ?_)
        refine z_iinc (x := l7) (lsx9 := fun v10 => [(7, .int v10), (6, .int v9), (0, .ref 125), (3, .int l3), (4, .int l4), (5, .int l5), (8, .int l8), (9, .int l9)]) rfl rfl rfl jko_1 (by omega) rfl (fun _ => rfl) (fun v10 ev10 => ?_)
        refine x_goto (tgt := 218) rfl rfl ?_
        exact jX.sub (jsb_c rfl (jsb_c rfl (jsb_c rfl (jsb_c rfl (jsb_c rfl (jsb_c rfl jsb_n)))))) (ct_X12_fold_r125_218 hD hQ k30 l3 l4 l5 v9 v10 h (jr_of rfl (by omega)) (jr_of rfl (by omega)) (jr_mod rfl (by omega)) (jr_of rfl (by omega)) (jr_of rfl (by omega)) (jr_of rfl (by omega)) (by omega) (by omega) (by omega) J Sm)
    ·
      refine x_aloadn (x := 125) rfl rfl ?_
      refine x_iload (x := l4) rfl rfl ?_
      refine x_iload (x := l7) rfl rfl ?_
      refine x_iload (x := l5) rfl rfl ?_
      refine x_iconst (v := 2) rfl ki_2 ?_
      refine x_iload (x := l9) rfl rfl ?_
      refine z_imul rfl jk_2 rfl (by omega) (fun v11 ev11 => ?_)
      refine x_inv (N := m_X12_stands) (As := [.int l4, .int l7, .int l5, .int v11]) (b := 125) (st := []) (dx9 := 1) (mc := 0) (ms := 0) (host := "") 12 rfl t_X12_stands ⟨Or.inl q_12_318, i_X12_stands.1, i_X12_stands.2⟩ ⟨by decide, rfl⟩ (congrArg Prod.fst (J.1.1 125 (12, 92) rfl)) rfl (by decide) rfl rfl ⟨by decide, by decide⟩ (sf_X12_stands_r125 (jr_of rfl (by omega)) (jr_mod rfl (by omega)) (by omega) (jr_of rfl (by omega)) (jr_of rfl (by omega)) (jr_of rfl (by omega)) (jr_mod rfl (by omega)) hD J  (fun v13 h ev13 J S12 => ?_))
      have Sm := jSm_tr rfl Sm S12
      show jX m_X12_fold 3 0 0 75 [(0, .ref 125), (3, .int l3), (4, .int l4), (5, .int l5), (6, .int l6), (7, .int l7), (8, .int l8), (9, .int l9)] [.int v13] _ 0 0 _
      refine x_ifeq (tgt := 83) rfl rfl (ti_eq rfl jk_0 ⟨fun c14 => ?_, fun c14 => ?_⟩)
      ·
        refine x_iload (x := l8) rfl rfl ?_
        exact jX.sub (jsb_c rfl (jsb_c rfl (jsb_c rfl (jsb_c rfl (jsb_c rfl (jsb_c rfl (jsb_c rfl jsb_n))))))) (ct_X12_fold_r125_85 hD hQ k30 ih l3 l4 l5 l6 l7 l9 l8 g0 h (jr_of rfl (by omega)) (jr_of rfl (by omega)) (jr_mod rfl (by omega)) (jr_of rfl (by omega)) (jr_of rfl (by omega)) (jr_of rfl (by omega)) (jr_of rfl (by omega)) (jr_of rfl (by omega)) (jr_of rfl (by omega)) (by omega) (by omega) (by omega) (by omega) (jmc S12 rfl z0) (by omega) (by omega) J Sm)
      ·
        refine x_iload (x := l9) rfl rfl ?_
        refine x_goto (tgt := 85) rfl rfl ?_
        exact jX.sub (jsb_c rfl (jsb_c rfl (jsb_c rfl (jsb_c rfl (jsb_c rfl (jsb_c rfl (jsb_c rfl jsb_n))))))) (ct_X12_fold_r125_85 hD hQ k30 ih l3 l4 l5 l6 l7 l9 l9 g0 h (jr_of rfl (by omega)) (jr_of rfl (by omega)) (jr_mod rfl (by omega)) (jr_of rfl (by omega)) (jr_of rfl (by omega)) (jr_of rfl (by omega)) (jr_of rfl (by omega)) (jr_of rfl (by omega)) (jr_of rfl (by omega)) (by omega) (by omega) (by omega) (by omega) (jmc S12 rfl z0) (by omega) (by omega) J Sm)
set_option maxRecDepth 100000 in
set_option maxHeartbeats 4000000 in
theorem ct_X12_fold_r125_30 {Dy : jH → Prop} {h0 : jH} {Q : Option Value → jH → Prop} (hD : jDk Dy) (hQ : ∀ hx9, jJ jSgM Dy hx9 → jSm fp_X12_fold_r125 h0 hx9 → Q none hx9) : ∀ r : Nat, ∀ (l3 : Int32) (l4 : Int32) (l5 : Int32) (l6 : Int32) (l7 : Int32) (h : jH), 14 - l7.toInt < (r : Int) → 0 ≤ l3.toInt ∧ l3.toInt ≤ 1 → 26 ≤ l4.toInt ∧ l4.toInt ≤ 18006 → l4.toInt % 2 = 0 → 0 ≤ l5.toInt ∧ l5.toInt ≤ 15 → 0 ≤ l6.toInt ∧ l6.toInt ≤ 36 → 0 ≤ l7.toInt ∧ l7.toInt ≤ 14 → (l4.toInt % 90 = 6 ∨ l4.toInt % 90 = 26 ∨ l4.toInt % 90 = 40 ∨ l4.toInt % 90 = 54 ∨ l4.toInt % 90 = 68 ∨ l4.toInt % 90 = 82) → (l6.toInt ≤ 3 * l7.toInt ∧ l6.toInt ≤ 36) → jJ jSgM Dy h → jSm fp_X12_fold_r125 h0 h → jX m_X12_fold 3 0 0 30 [(0, .ref 125), (3, .int l3), (4, .int l4), (5, .int l5), (6, .int l6), (7, .int l7)] [] h 0 0 Q := by
  intro r
  induction r with
  | zero =>
    intro l3 l4 l5 l6 l7 h hm y0 y1 y2 y3 y4 y5 y6 y7   J Sm
    exfalso
    omega
  | succ r ih =>
    intro l3 l4 l5 l6 l7 h hm y0 y1 y2 y3 y4 y5 y6 y7   J Sm
    refine x_iload (x := l7) rfl rfl ?_
    refine x_aloadn (x := 125) rfl rfl ?_
    refine z_getR (N := 92) (b := 126) 12 2 rfl f_12_8 rfl J rfl 16002 ⟨rfl, rfl⟩ rfl ?_
    refine x_iload (x := l4) rfl rfl ?_
    refine z_ialdU (N := 50660) (lo := 0) (hi := 12) rfl J rfl rfl (by omega) ((show (l4.toInt - 20) % 90 = 6 ∨ (l4.toInt - 20) % 90 = 20 ∨ (l4.toInt - 20) % 90 = 34 ∨ (l4.toInt - 20) % 90 = 48 ∨ (l4.toInt - 20) % 90 = 62 ∨ (l4.toInt - 20) % 90 = 76 from by omega).elim (fun q => (jrg_w (jrg_c J sg_126_20_18020_90_6_7 rfl (by omega)) (by decide))) (fun q => q.elim (fun q => (jrg_w (jrg_c J sg_126_20_18020_90_20_21 rfl (by omega)) (by decide))) (fun q => q.elim (fun q => (jrg_w (jrg_c J sg_126_20_18020_90_34_35 rfl (by omega)) (by decide))) (fun q => q.elim (fun q => (jrg_w (jrg_c J sg_126_20_18020_90_48_49 rfl (by omega)) (by decide))) (fun q => q.elim (fun q => (jrg_w (jrg_c J sg_126_20_18020_90_62_63 rfl (by omega)) (by decide))) (fun q => (jrg_w (jrg_c J sg_126_20_18020_90_76_77 rfl (by omega)) (by decide)))))))) (fun v1 qv1 ev1 => ?_)
    refine x_icge (tgt := 221) rfl rfl (ti_ge rfl rfl ⟨fun c2 => ?_, fun c2 => ?_⟩)
    ·
      refine x_aloadn (x := 125) rfl rfl ?_
      refine z_getR (N := 92) (b := 138) 12 22 rfl f_12_54 rfl J rfl 16022 ⟨rfl, rfl⟩ rfl ?_
      refine x_iloadn (x := l3) rfl rfl ?_
      refine x_iload (x := l6) rfl rfl ?_
      refine z_iast (N := 2) (l := 0) (u := 2) (w := l6.toInt) rfl hD J Sm rfl rfl rfl (by omega) rfl (wr_138 (fun q1 q2 q3 q4 => by omega)) rfl (fun h w3 J Sm => ?_)
      refine x_vret rfl rfl ?_
      exact hQ _ J Sm
    ·
      refine x_iconst (v := (-1)) rfl ki_m1 ?_
      refine x_istore (lsx9 := [(8, .int (-1)), (0, .ref 125), (3, .int l3), (4, .int l4), (5, .int l5), (6, .int l6), (7, .int l7)]) rfl rfl rfl ?_
      refine x_aloadn (x := 125) rfl rfl ?_
      refine z_getR (N := 92) (b := 132) 12 15 rfl f_12_36 rfl J rfl 16015 ⟨rfl, rfl⟩ rfl ?_
      refine x_iload (x := l5) rfl rfl ?_
      refine z_iald (N := 16) rfl J rfl sg_132_0_16_1_0_1 rfl (by omega) (fun v4 qv4 ev4 => ?_)
      refine x_iconst (v := 1) rfl ki_1 ?_
      refine z_isub rfl rfl jk_1 (by omega) (fun v5 ev5 => ?_)
      refine x_istore (lsx9 := [(9, .int v5), (8, .int (-1)), (0, .ref 125), (3, .int l3), (4, .int l4), (5, .int l5), (6, .int l6), (7, .int l7)]) rfl rfl rfl ?_
      exact jX.sub (jsb_c rfl (jsb_c rfl (jsb_c rfl (jsb_c rfl (jsb_c rfl (jsb_c rfl (jsb_c rfl (jsb_c rfl jsb_n)))))))) (ct_X12_fold_r125_56 hD hQ ih 9 l3 l4 l5 l6 l7 (-1) v5 v4 h (by omega) (jr_of rfl (by omega)) (jr_of rfl (by omega)) (jr_mod rfl (by omega)) (jr_of rfl (by omega)) (jr_of rfl (by omega)) (jr_of rfl (by omega)) (jr_of jk_m1 (by omega)) (jr_of rfl (by omega)) (jr_of rfl (by omega)) (by omega) (by omega) (by have := jk_m1; omega) (by omega) qv4 (by omega) J Sm)
set_option maxRecDepth 100000 in
set_option maxHeartbeats 4000000 in
theorem sf_X12_fold_r125 {Dy : jH → Prop} {h : jH} {Q : Option Value → jH → Prop} {a1 : Int32} {a2 : Int32} {a3 : Int32} (y1 : 0 ≤ a1.toInt ∧ a1.toInt ≤ 599) (y2 : 0 ≤ a2.toInt ∧ a2.toInt ≤ 1) (y3 : 0 ≤ a3.toInt ∧ a3.toInt ≤ 1) (hD : jDk Dy) (J : jJ jSgM Dy h) (hQ : ∀ hx9, jJ jSgM Dy hx9 → jSm fp_X12_fold_r125 h hx9 → Q none hx9) : jC m_X12_fold 3 0 0 [.ref 125, .int a1, .int a2, .int a3] h Q := by
  refine jC.of rfl k_X12_fold rfl ?_
  have Sm := jSm_rf fp_X12_fold_r125 h
  show jX m_X12_fold 3 0 0 0 [(0, .ref 125), (1, .int a1), (2, .int a2), (3, .int a3)] [] _ 0 0 _
  refine x_aloadn (x := 125) rfl rfl ?_
  refine x_iloadn (x := a1) rfl rfl ?_
  refine x_iloadn (x := a2) rfl rfl ?_
  refine x_inv (N := m_X12_nameAt) (As := [.int a1, .int a2]) (b := 125) (st := []) (dx9 := 2) (mc := 0) (ms := 0) (host := "") 12 rfl t_X12_nameAt ⟨Or.inl q_12_311, i_X12_nameAt.1, i_X12_nameAt.2⟩ ⟨by decide, rfl⟩ (congrArg Prod.fst (J.1.1 125 (12, 92) rfl)) rfl (by decide) rfl rfl ⟨by decide, by decide⟩ (jC.of rfl k_X12_nameAt rfl ?_)
  show jX m_X12_nameAt 2 0 0 0 [(0, .ref 125), (1, .int a1), (2, .int a2)] [] _ 0 0 _
  refine x_aloadn (x := 125) rfl rfl ?_
  refine x_iloadn (x := a1) rfl rfl ?_
  refine x_iconst (v := 3) rfl ki_3 ?_
  refine z_idiv rfl rfl jk_3 (by omega) (by omega) (fun v1 ev1 => ?_)
  refine x_inv (N := m_X12_at) (As := [.int v1]) (b := 125) (st := []) (dx9 := 1) (mc := 0) (ms := 0) (host := "") 12 rfl t_X12_at ⟨Or.inl q_12_254, i_X12_at.1, i_X12_at.2⟩ ⟨by decide, rfl⟩ (congrArg Prod.fst (J.1.1 125 (12, 92) rfl)) rfl (by decide) rfl rfl ⟨by decide, by decide⟩ (jC.of rfl k_X12_at rfl ?_)
  show jX m_X12_at 1 0 0 0 [(0, .ref 125), (1, .int v1)] [] _ 0 0 _
  refine x_bipush (v := 20) rfl kb_20 ?_
  refine x_bipush (v := 90) rfl kb_90 ?_
  refine x_iloadn (x := v1) rfl rfl ?_
  refine z_imul rfl jk_90 rfl (by omega) (fun v2 ev2 => ?_)
  refine z_iadd rfl jk_20 rfl (by omega) (fun v3 ev3 => ?_)
  refine x_iret rfl rfl ?_
  show jX m_X12_nameAt 2 0 0 7 [(0, .ref 125), (1, .int a1), (2, .int a2)] [.int v3] _ 0 0 _
  refine x_bipush (v := 6) rfl kb_6 ?_
  refine z_iadd rfl rfl jk_6 (by omega) (fun v4 ev4 => ?_)
  refine x_bipush (v := 28) rfl kb_28 ?_
  refine x_iloadn (x := a1) rfl rfl ?_
  refine x_iconst (v := 3) rfl ki_3 ?_
  refine z_irem rfl rfl jk_3 (by omega) (by omega) (fun v5 ev5 => ?_)
  refine z_imul rfl jk_28 rfl (by omega) (fun v6 ev6 => ?_)
  refine z_iadd rfl rfl rfl (by omega) (fun v7 ev7 => ?_)
  refine x_bipush (v := 14) rfl kb_14 ?_
  refine x_iloadn (x := a2) rfl rfl ?_
  refine z_imul rfl jk_14 rfl (by omega) (fun v8 ev8 => ?_)
  refine z_iadd rfl rfl rfl (by omega) (fun v9 ev9 => ?_)
  have rnv9 := jnam (m := a1.toInt) (w := a2.toInt) (v := v9.toInt) (by omega) (by omega) (by omega)
  refine x_iret rfl rfl ?_
  show jX m_X12_fold 3 0 0 6 [(0, .ref 125), (1, .int a1), (2, .int a2), (3, .int a3)] [.int v9] _ 0 0 _
  refine x_istore (lsx9 := [(4, .int v9), (0, .ref 125), (1, .int a1), (2, .int a2), (3, .int a3)]) rfl rfl rfl ?_
  refine x_aloadn (x := 125) rfl rfl ?_
  refine z_getR (N := 92) (b := 126) 12 2 rfl f_12_8 rfl J rfl 16002 ⟨rfl, rfl⟩ rfl ?_
  refine x_aloadn (x := 125) rfl rfl ?_
  refine x_iloadn (x := a1) rfl rfl ?_
  refine x_iconst (v := 3) rfl ki_3 ?_
  refine z_idiv rfl rfl jk_3 (by omega) (by omega) (fun v10 ev10 => ?_)
  refine x_inv (N := m_X12_at) (As := [.int v10]) (b := 125) (st := [.ref 126]) (dx9 := 2) (mc := 0) (ms := 0) (host := "") 12 rfl t_X12_at ⟨Or.inl q_12_254, i_X12_at.1, i_X12_at.2⟩ ⟨by decide, rfl⟩ (congrArg Prod.fst (J.1.1 125 (12, 92) rfl)) rfl (by decide) rfl rfl ⟨by decide, by decide⟩ (jC.of rfl k_X12_at rfl ?_)
  show jX m_X12_at 2 0 0 0 [(0, .ref 125), (1, .int v10)] [] _ 0 0 _
  refine x_bipush (v := 20) rfl kb_20 ?_
  refine x_bipush (v := 90) rfl kb_90 ?_
  refine x_iloadn (x := v10) rfl rfl ?_
  refine z_imul rfl jk_90 rfl (by omega) (fun v11 ev11 => ?_)
  refine z_iadd rfl jk_20 rfl (by omega) (fun v12 ev12 => ?_)
  refine x_iret rfl rfl ?_
  show jX m_X12_fold 3 0 0 19 [(4, .int v9), (0, .ref 125), (1, .int a1), (2, .int a2), (3, .int a3)] [.int v12, .ref 126] _ 0 0 _
  refine x_iconst (v := 1) rfl ki_1 ?_
  refine z_iadd rfl rfl jk_1 (by omega) (fun v13 ev13 => ?_)
  refine z_iald (N := 50660) rfl J rfl sg_126_20_18020_90_1_2 rfl (by omega) (fun v14 qv14 ev14 => ?_)
  refine x_istore (lsx9 := [(5, .int v14), (4, .int v9), (0, .ref 125), (1, .int a1), (2, .int a2), (3, .int a3)]) rfl rfl rfl ?_
  refine x_iconst (v := 0) rfl ki_0 ?_
  refine x_istore (lsx9 := [(6, .int 0), (5, .int v14), (4, .int v9), (0, .ref 125), (1, .int a1), (2, .int a2), (3, .int a3)]) rfl rfl rfl ?_
  refine x_iconst (v := 0) rfl ki_0 ?_
  refine x_istore (lsx9 := [(7, .int 0), (6, .int 0), (5, .int v14), (4, .int v9), (0, .ref 125), (1, .int a1), (2, .int a2), (3, .int a3)]) rfl rfl rfl ?_
  exact jX.sub (jsb_c rfl (jsb_c rfl (jsb_c rfl (jsb_c rfl (jsb_c rfl (jsb_c rfl jsb_n)))))) (ct_X12_fold_r125_30 hD hQ  15 a3 v9 v14 0 0 h (by have := jk_0; omega) (jr_of rfl (by omega)) (jr_of rfl (by omega)) (jr_mod rfl (by omega)) (jr_of rfl (by omega)) (jr_of jk_0 (by omega)) (jr_of jk_0 (by omega)) (by omega) (by have := jk_0; have := jk_0; omega) J Sm)
def fp_X12_areAlike_r125 : jFp := [(137, 0, 80), (138, 0, 2)]
set_option maxRecDepth 100000 in
set_option maxHeartbeats 4000000 in
theorem ct_X12_areAlike_r125_175 {Dy : jH → Prop} {h0 : jH} {Q : Option Value → jH → Prop} (hD : jDk Dy) (hQ : ∀ (v : Int32) hx9, 0 ≤ v.toInt ∧ v.toInt ≤ 1 → jJ jSgM Dy hx9 → jSm fp_X12_areAlike_r125 h0 hx9 → Q (some (.int v)) hx9) : ∀ (l9 : Int32) (h : jH), 0 ≤ l9.toInt ∧ l9.toInt ≤ 1 → jJ jSgM Dy h → jSm fp_X12_areAlike_r125 h0 h → jX m_X12_areAlike 4 0 0 175 [(9, .int l9)] [] h 0 0 Q := by
  intro l9 h y0   J Sm
  refine x_iload (x := l9) rfl rfl ?_
  refine x_zret rfl rfl (jz01 (by omega)) ?_
  exact hQ _ _ (jr_of rfl (by omega)) J Sm
set_option maxRecDepth 100000 in
set_option maxHeartbeats 4000000 in
theorem ct_X12_areAlike_r125_200167 {Dy : jH → Prop} {h0 : jH} {Q : Option Value → jH → Prop} {R123 : Int} (hD : jDk Dy) (hQ : ∀ (v : Int32) hx9, 0 ≤ v.toInt ∧ v.toInt ≤ 1 → jJ jSgM Dy hx9 → jSm fp_X12_areAlike_r125 h0 hx9 → Q (some (.int v)) hx9) (k123 : ∀ (l6 : Int32) (l7 : Int32) (l9 : Int32) (l10 : Int32) (h : jH), 36 - l10.toInt < R123 → 0 ≤ l6.toInt ∧ l6.toInt ≤ 36 → 0 ≤ l7.toInt ∧ l7.toInt ≤ 36 → 0 ≤ l9.toInt ∧ l9.toInt ≤ 1 → 0 ≤ l10.toInt ∧ l10.toInt ≤ 36 → jJ jSgM Dy h → jSm fp_X12_areAlike_r125 h0 h → jX m_X12_areAlike 4 0 0 123 [(0, .ref 125), (6, .int l6), (7, .int l7), (9, .int l9), (10, .int l10)] [] h 0 0 Q) : ∀ (l6 : Int32) (l7 : Int32) (l10 : Int32) (h : jH), 1 ≤ l6.toInt ∧ l6.toInt ≤ 36 → 1 ≤ l7.toInt ∧ l7.toInt ≤ 36 → 0 ≤ l10.toInt ∧ l10.toInt ≤ 35 → 36 - l10.toInt ≤ R123 → jJ jSgM Dy h → jSm fp_X12_areAlike_r125 h0 h → jX m_X12_areAlike 4 0 0 167 [(0, .ref 125), (6, .int l6), (7, .int l7), (10, .int l10)] [.int 0] h 0 0 Q := by
  intro l6 l7 l10 h y0 y1 y2  m123 J Sm
  refine x_istore (lsx9 := [(9, .int 0), (0, .ref 125), (6, .int l6), (7, .int l7), (10, .int l10)]) rfl rfl rfl ?_
  refine z_iinc (x := l10) (lsx9 := fun v1 => [(10, .int v1), (9, .int 0), (0, .ref 125), (6, .int l6), (7, .int l7)]) rfl rfl rfl jko_1 (by omega) rfl (fun _ => rfl) (fun v1 ev1 => ?_)
  refine x_goto (tgt := 123) rfl rfl ?_
  exact jX.sub (jsb_c rfl (jsb_c rfl (jsb_c rfl (jsb_c rfl (jsb_c rfl jsb_n))))) (k123 l6 l7 0 v1 h (by omega) (jr_of rfl (by omega)) (jr_of rfl (by omega)) (jr_of jk_0 (by omega)) (jr_of rfl (by omega)) J Sm)
set_option maxRecDepth 100000 in
set_option maxHeartbeats 4000000 in
theorem ct_X12_areAlike_r125_300167 {Dy : jH → Prop} {h0 : jH} {Q : Option Value → jH → Prop} {R123 : Int} (hD : jDk Dy) (hQ : ∀ (v : Int32) hx9, 0 ≤ v.toInt ∧ v.toInt ≤ 1 → jJ jSgM Dy hx9 → jSm fp_X12_areAlike_r125 h0 hx9 → Q (some (.int v)) hx9) (k123 : ∀ (l6 : Int32) (l7 : Int32) (l9 : Int32) (l10 : Int32) (h : jH), 36 - l10.toInt < R123 → 0 ≤ l6.toInt ∧ l6.toInt ≤ 36 → 0 ≤ l7.toInt ∧ l7.toInt ≤ 36 → 0 ≤ l9.toInt ∧ l9.toInt ≤ 1 → 0 ≤ l10.toInt ∧ l10.toInt ≤ 36 → jJ jSgM Dy h → jSm fp_X12_areAlike_r125 h0 h → jX m_X12_areAlike 4 0 0 123 [(0, .ref 125), (6, .int l6), (7, .int l7), (9, .int l9), (10, .int l10)] [] h 0 0 Q) : ∀ (l6 : Int32) (l7 : Int32) (l10 : Int32) (h : jH), 1 ≤ l6.toInt ∧ l6.toInt ≤ 36 → 1 ≤ l7.toInt ∧ l7.toInt ≤ 36 → 0 ≤ l10.toInt ∧ l10.toInt ≤ 35 → 36 - l10.toInt ≤ R123 → jJ jSgM Dy h → jSm fp_X12_areAlike_r125 h0 h → jX m_X12_areAlike 4 0 0 167 [(0, .ref 125), (6, .int l6), (7, .int l7), (10, .int l10)] [.int 1] h 0 0 Q := by
  intro l6 l7 l10 h y0 y1 y2  m123 J Sm
  refine x_istore (lsx9 := [(9, .int 1), (0, .ref 125), (6, .int l6), (7, .int l7), (10, .int l10)]) rfl rfl rfl ?_
  refine z_iinc (x := l10) (lsx9 := fun v1 => [(10, .int v1), (9, .int 1), (0, .ref 125), (6, .int l6), (7, .int l7)]) rfl rfl rfl jko_1 (by omega) rfl (fun _ => rfl) (fun v1 ev1 => ?_)
  refine x_goto (tgt := 123) rfl rfl ?_
  exact jX.sub (jsb_c rfl (jsb_c rfl (jsb_c rfl (jsb_c rfl (jsb_c rfl jsb_n))))) (k123 l6 l7 1 v1 h (by omega) (jr_of rfl (by omega)) (jr_of rfl (by omega)) (jr_of jk_1 (by omega)) (jr_of rfl (by omega)) J Sm)
set_option maxRecDepth 100000 in
set_option maxHeartbeats 4000000 in
theorem ct_X12_areAlike_r125_123 {Dy : jH → Prop} {h0 : jH} {Q : Option Value → jH → Prop} (hD : jDk Dy) (hQ : ∀ (v : Int32) hx9, 0 ≤ v.toInt ∧ v.toInt ≤ 1 → jJ jSgM Dy hx9 → jSm fp_X12_areAlike_r125 h0 hx9 → Q (some (.int v)) hx9) : ∀ r : Nat, ∀ (l6 : Int32) (l7 : Int32) (l9 : Int32) (l10 : Int32) (h : jH), 36 - l10.toInt < (r : Int) → 0 ≤ l6.toInt ∧ l6.toInt ≤ 36 → 0 ≤ l7.toInt ∧ l7.toInt ≤ 36 → 0 ≤ l9.toInt ∧ l9.toInt ≤ 1 → 0 ≤ l10.toInt ∧ l10.toInt ≤ 36 → jJ jSgM Dy h → jSm fp_X12_areAlike_r125 h0 h → jX m_X12_areAlike 4 0 0 123 [(0, .ref 125), (6, .int l6), (7, .int l7), (9, .int l9), (10, .int l10)] [] h 0 0 Q := by
  intro r
  induction r with
  | zero =>
    intro l6 l7 l9 l10 h hm y0 y1 y2 y3   J Sm
    exfalso
    omega
  | succ r ih =>
    intro l6 l7 l9 l10 h hm y0 y1 y2 y3   J Sm
    refine x_iload (x := l10) rfl rfl ?_
    refine x_iload (x := l6) rfl rfl ?_
    refine x_icge (tgt := 175) rfl rfl (ti_ge rfl rfl ⟨fun c1 => ?_, fun c1 => ?_⟩)
    ·
      exact jX.sub (jsb_c rfl jsb_n) (ct_X12_areAlike_r125_175 hD hQ  l9 h (jr_of rfl (by omega)) J Sm)
    ·
      refine x_iload (x := l10) rfl rfl ?_
      refine x_iload (x := l7) rfl rfl ?_
      refine x_icge (tgt := 175) rfl rfl (ti_ge rfl rfl ⟨fun c2 => ?_, fun c2 => ?_⟩)
      ·
        exact jX.sub (jsb_c rfl jsb_n) (ct_X12_areAlike_r125_175 hD hQ  l9 h (jr_of rfl (by omega)) J Sm)
      ·
        refine x_iload (x := l9) rfl rfl ?_
        refine x_ifeq (tgt := 175) rfl rfl (ti_eq rfl jk_0 ⟨fun c3 => ?_, fun c3 => ?_⟩)
        ·
          exact jX.sub (jsb_c rfl jsb_n) (ct_X12_areAlike_r125_175 hD hQ  l9 h (jr_of rfl (by omega)) J Sm)
        ·
          refine x_aloadn (x := 125) rfl rfl ?_
          refine z_getR (N := 92) (b := 137) 12 21 rfl f_12_51 rfl J rfl 16021 ⟨rfl, rfl⟩ rfl ?_
          refine x_iload (x := l10) rfl rfl ?_
          refine z_iald (N := 80) rfl J rfl sg_137_0_80_1_0_1 rfl (by omega) (fun v4 qv4 ev4 => ?_)
          refine x_aloadn (x := 125) rfl rfl ?_
          refine z_getR (N := 92) (b := 137) 12 21 rfl f_12_51 rfl J rfl 16021 ⟨rfl, rfl⟩ rfl ?_
          refine x_bipush (v := 40) rfl kb_40 ?_
          refine x_iload (x := l10) rfl rfl ?_
          refine z_iadd rfl jk_40 rfl (by omega) (fun v5 ev5 => ?_)
          refine z_iald (N := 80) rfl J rfl sg_137_0_80_1_0_1 rfl (by omega) (fun v6 qv6 ev6 => ?_)
          refine x_icne (tgt := 166) rfl rfl (ti_ne rfl rfl ⟨fun c7 => ?_, fun c7 => ?_⟩)
          ·
            refine x_iconst (v := 0) rfl ki_0 ?_
            exact jX.sub (jsb_c rfl (jsb_c rfl (jsb_c rfl (jsb_c rfl jsb_n)))) (ct_X12_areAlike_r125_200167 hD hQ ih l6 l7 l10 h (jr_of rfl (by omega)) (jr_of rfl (by omega)) (jr_of rfl (by omega)) (by omega) J Sm)
          ·
            refine x_iconst (v := 1) rfl ki_1 ?_
            refine x_goto (tgt := 167) rfl rfl ?_
            exact jX.sub (jsb_c rfl (jsb_c rfl (jsb_c rfl (jsb_c rfl jsb_n)))) (ct_X12_areAlike_r125_300167 hD hQ ih l6 l7 l10 h (jr_of rfl (by omega)) (jr_of rfl (by omega)) (jr_of rfl (by omega)) (by omega) J Sm)
set_option maxRecDepth 100000 in
set_option maxHeartbeats 4000000 in
theorem ct_X12_areAlike_r125_300114 {Dy : jH → Prop} {h0 : jH} {Q : Option Value → jH → Prop} (hD : jDk Dy) (hQ : ∀ (v : Int32) hx9, 0 ≤ v.toInt ∧ v.toInt ≤ 1 → jJ jSgM Dy hx9 → jSm fp_X12_areAlike_r125 h0 hx9 → Q (some (.int v)) hx9) : ∀ (l6 : Int32) (l7 : Int32) (h : jH), 0 ≤ l6.toInt ∧ l6.toInt ≤ 36 → 0 ≤ l7.toInt ∧ l7.toInt ≤ 36 → jJ jSgM Dy h → jSm fp_X12_areAlike_r125 h0 h → jX m_X12_areAlike 4 0 0 114 [(0, .ref 125), (6, .int l6), (7, .int l7)] [.int 1] h 0 0 Q := by
  intro l6 l7 h y0 y1   J Sm
  refine x_istore (lsx9 := [(8, .int 1), (0, .ref 125), (6, .int l6), (7, .int l7)]) rfl rfl rfl ?_
  refine x_iload (x := 1) rfl rfl ?_
  refine x_istore (lsx9 := [(9, .int 1), (8, .int 1), (0, .ref 125), (6, .int l6), (7, .int l7)]) rfl rfl rfl ?_
  refine x_iconst (v := 0) rfl ki_0 ?_
  refine x_istore (lsx9 := [(10, .int 0), (9, .int 1), (8, .int 1), (0, .ref 125), (6, .int l6), (7, .int l7)]) rfl rfl rfl ?_
  exact jX.sub (jsb_c rfl (jsb_c rfl (jsb_c rfl (jsb_c rfl (jsb_c rfl jsb_n))))) (ct_X12_areAlike_r125_123 hD hQ  37 l6 l7 1 0 h (by have := jk_0; omega) (jr_of rfl (by omega)) (jr_of rfl (by omega)) (jr_of jk_1 (by omega)) (jr_of jk_0 (by omega)) J Sm)
set_option maxRecDepth 100000 in
set_option maxHeartbeats 4000000 in
theorem ct_X12_areAlike_r125_200114 {Dy : jH → Prop} {h0 : jH} {Q : Option Value → jH → Prop} (hD : jDk Dy) (hQ : ∀ (v : Int32) hx9, 0 ≤ v.toInt ∧ v.toInt ≤ 1 → jJ jSgM Dy hx9 → jSm fp_X12_areAlike_r125 h0 hx9 → Q (some (.int v)) hx9) : ∀ (l6 : Int32) (l7 : Int32) (h : jH), 0 ≤ l6.toInt ∧ l6.toInt ≤ 36 → 0 ≤ l7.toInt ∧ l7.toInt ≤ 36 → jJ jSgM Dy h → jSm fp_X12_areAlike_r125 h0 h → jX m_X12_areAlike 4 0 0 114 [(0, .ref 125), (6, .int l6), (7, .int l7)] [.int 0] h 0 0 Q := by
  intro l6 l7 h y0 y1   J Sm
  refine x_istore (lsx9 := [(8, .int 0), (0, .ref 125), (6, .int l6), (7, .int l7)]) rfl rfl rfl ?_
  refine x_iload (x := 0) rfl rfl ?_
  refine x_istore (lsx9 := [(9, .int 0), (8, .int 0), (0, .ref 125), (6, .int l6), (7, .int l7)]) rfl rfl rfl ?_
  refine x_iconst (v := 0) rfl ki_0 ?_
  refine x_istore (lsx9 := [(10, .int 0), (9, .int 0), (8, .int 0), (0, .ref 125), (6, .int l6), (7, .int l7)]) rfl rfl rfl ?_
  exact jX.sub (jsb_c rfl (jsb_c rfl (jsb_c rfl (jsb_c rfl (jsb_c rfl jsb_n))))) (ct_X12_areAlike_r125_123 hD hQ  37 l6 l7 0 0 h (by have := jk_0; omega) (jr_of rfl (by omega)) (jr_of rfl (by omega)) (jr_of jk_0 (by omega)) (jr_of jk_0 (by omega)) J Sm)
set_option maxRecDepth 100000 in
set_option maxHeartbeats 4000000 in
theorem ct_X12_areAlike_r125_109 {Dy : jH → Prop} {h0 : jH} {Q : Option Value → jH → Prop} (hD : jDk Dy) (hQ : ∀ (v : Int32) hx9, 0 ≤ v.toInt ∧ v.toInt ≤ 1 → jJ jSgM Dy hx9 → jSm fp_X12_areAlike_r125 h0 hx9 → Q (some (.int v)) hx9) : ∀ (l6 : Int32) (l7 : Int32) (h : jH), 0 ≤ l6.toInt ∧ l6.toInt ≤ 36 → 0 ≤ l7.toInt ∧ l7.toInt ≤ 36 → jJ jSgM Dy h → jSm fp_X12_areAlike_r125 h0 h → jX m_X12_areAlike 4 0 0 109 [(0, .ref 125), (6, .int l6), (7, .int l7)] [] h 0 0 Q := by
  intro l6 l7 h y0 y1   J Sm
  refine x_iconst (v := 1) rfl ki_1 ?_
  refine x_goto (tgt := 114) rfl rfl ?_
  exact jX.sub (jsb_c rfl (jsb_c rfl (jsb_c rfl jsb_n))) (ct_X12_areAlike_r125_300114 hD hQ  l6 l7 h (jr_of rfl (by omega)) (jr_of rfl (by omega)) J Sm)
set_option maxRecDepth 100000 in
set_option maxHeartbeats 4000000 in
theorem ct_X12_areAlike_r125_113 {Dy : jH → Prop} {h0 : jH} {Q : Option Value → jH → Prop} (hD : jDk Dy) (hQ : ∀ (v : Int32) hx9, 0 ≤ v.toInt ∧ v.toInt ≤ 1 → jJ jSgM Dy hx9 → jSm fp_X12_areAlike_r125 h0 hx9 → Q (some (.int v)) hx9) : ∀ (l6 : Int32) (l7 : Int32) (h : jH), 0 ≤ l6.toInt ∧ l6.toInt ≤ 36 → 0 ≤ l7.toInt ∧ l7.toInt ≤ 36 → jJ jSgM Dy h → jSm fp_X12_areAlike_r125 h0 h → jX m_X12_areAlike 4 0 0 113 [(0, .ref 125), (6, .int l6), (7, .int l7)] [] h 0 0 Q := by
  intro l6 l7 h y0 y1   J Sm
  refine x_iconst (v := 0) rfl ki_0 ?_
  exact jX.sub (jsb_c rfl (jsb_c rfl (jsb_c rfl jsb_n))) (ct_X12_areAlike_r125_200114 hD hQ  l6 l7 h (jr_of rfl (by omega)) (jr_of rfl (by omega)) J Sm)
set_option maxRecDepth 100000 in
set_option maxHeartbeats 4000000 in
theorem ct_X12_areAlike_r125_97 {Dy : jH → Prop} {h0 : jH} {Q : Option Value → jH → Prop} (hD : jDk Dy) (hQ : ∀ (v : Int32) hx9, 0 ≤ v.toInt ∧ v.toInt ≤ 1 → jJ jSgM Dy hx9 → jSm fp_X12_areAlike_r125 h0 hx9 → Q (some (.int v)) hx9) : ∀ (l5 : Int32) (l6 : Int32) (l7 : Int32) (h : jH), 0 ≤ l5.toInt ∧ l5.toInt ≤ 1 → 0 ≤ l6.toInt ∧ l6.toInt ≤ 36 → 0 ≤ l7.toInt ∧ l7.toInt ≤ 36 → jJ jSgM Dy h → jSm fp_X12_areAlike_r125 h0 h → jX m_X12_areAlike 4 0 0 97 [(0, .ref 125), (5, .int l5), (6, .int l6), (7, .int l7)] [] h 0 0 Q := by
  intro l5 l6 l7 h y0 y1 y2   J Sm
  refine x_iload (x := l7) rfl rfl ?_
  refine x_iload (x := l6) rfl rfl ?_
  refine x_icge (tgt := 113) rfl rfl (ti_ge rfl rfl ⟨fun c1 => ?_, fun c1 => ?_⟩)
  ·
    exact jX.sub (jsb_c rfl (jsb_c rfl (jsb_c rfl jsb_n))) (ct_X12_areAlike_r125_113 hD hQ  l6 l7 h (jr_of rfl (by omega)) (jr_of rfl (by omega)) J Sm)
  ·
    refine x_iload (x := l5) rfl rfl ?_
    refine x_ifeq (tgt := 113) rfl rfl (ti_eq rfl jk_0 ⟨fun c2 => ?_, fun c2 => ?_⟩)
    ·
      exact jX.sub (jsb_c rfl (jsb_c rfl (jsb_c rfl jsb_n))) (ct_X12_areAlike_r125_113 hD hQ  l6 l7 h (jr_of rfl (by omega)) (jr_of rfl (by omega)) J Sm)
    ·
      exact jX.sub (jsb_c rfl (jsb_c rfl (jsb_c rfl jsb_n))) (ct_X12_areAlike_r125_109 hD hQ  l6 l7 h (jr_of rfl (by omega)) (jr_of rfl (by omega)) J Sm)
set_option maxRecDepth 100000 in
set_option maxHeartbeats 4000000 in
theorem ct_X12_areAlike_r125_200060 {Dy : jH → Prop} {h0 : jH} {Q : Option Value → jH → Prop} (hD : jDk Dy) (hQ : ∀ (v : Int32) hx9, 0 ≤ v.toInt ∧ v.toInt ≤ 1 → jJ jSgM Dy hx9 → jSm fp_X12_areAlike_r125 h0 hx9 → Q (some (.int v)) hx9) : ∀ (l4 : Int32) (h : jH), 0 ≤ l4.toInt ∧ l4.toInt ≤ 1 → jJ jSgM Dy h → jSm fp_X12_areAlike_r125 h0 h → jX m_X12_areAlike 4 0 0 60 [(0, .ref 125), (4, .int l4)] [.int 0] h 0 0 Q := by
  intro l4 h y0   J Sm
  refine x_istore (lsx9 := [(5, .int 0), (0, .ref 125), (4, .int l4)]) rfl rfl rfl ?_
  refine x_aloadn (x := 125) rfl rfl ?_
  refine z_getR (N := 92) (b := 138) 12 22 rfl f_12_54 rfl J rfl 16022 ⟨rfl, rfl⟩ rfl ?_
  refine x_iconst (v := 0) rfl ki_0 ?_
  refine z_iald (N := 2) rfl J rfl sg_138_0_2_1_0_1 jk_0 (by omega) (fun v1 qv1 ev1 => ?_)
  refine x_istore (lsx9 := [(6, .int v1), (5, .int 0), (0, .ref 125), (4, .int l4)]) rfl rfl rfl ?_
  refine x_aloadn (x := 125) rfl rfl ?_
  refine z_getR (N := 92) (b := 138) 12 22 rfl f_12_54 rfl J rfl 16022 ⟨rfl, rfl⟩ rfl ?_
  refine x_iconst (v := 1) rfl ki_1 ?_
  refine z_iald (N := 2) rfl J rfl sg_138_0_2_1_0_1 jk_1 (by omega) (fun v2 qv2 ev2 => ?_)
  refine x_istore (lsx9 := [(7, .int v2), (6, .int v1), (5, .int 0), (0, .ref 125), (4, .int l4)]) rfl rfl rfl ?_
  refine x_iload (x := v1) rfl rfl ?_
  refine x_iload (x := v2) rfl rfl ?_
  refine x_iceq (tgt := 109) rfl rfl (ti_eq rfl rfl ⟨fun c3 => ?_, fun c3 => ?_⟩)
  ·
    exact jX.sub (jsb_c rfl (jsb_c rfl (jsb_c rfl jsb_n))) (ct_X12_areAlike_r125_109 hD hQ  v1 v2 h (jr_of rfl (by omega)) (jr_of rfl (by omega)) J Sm)
  ·
    refine x_iload (x := v1) rfl rfl ?_
    refine x_iload (x := v2) rfl rfl ?_
    refine x_icge (tgt := 97) rfl rfl (ti_ge rfl rfl ⟨fun c4 => ?_, fun c4 => ?_⟩)
    ·
      exact jX.sub (jsb_c rfl (jsb_c rfl (jsb_c rfl (jsb_c rfl jsb_n)))) (ct_X12_areAlike_r125_97 hD hQ  0 v1 v2 h (jr_of jk_0 (by omega)) (jr_of rfl (by omega)) (jr_of rfl (by omega)) J Sm)
    ·
      refine x_iload (x := l4) rfl rfl ?_
      refine x_ifne (tgt := 109) rfl rfl (ti_ne rfl jk_0 ⟨fun c5 => ?_, fun c5 => ?_⟩)
      ·
        exact jX.sub (jsb_c rfl (jsb_c rfl (jsb_c rfl jsb_n))) (ct_X12_areAlike_r125_109 hD hQ  v1 v2 h (jr_of rfl (by omega)) (jr_of rfl (by omega)) J Sm)
      ·
        exact jX.sub (jsb_c rfl (jsb_c rfl (jsb_c rfl (jsb_c rfl jsb_n)))) (ct_X12_areAlike_r125_97 hD hQ  0 v1 v2 h (jr_of jk_0 (by omega)) (jr_of rfl (by omega)) (jr_of rfl (by omega)) J Sm)
set_option maxRecDepth 100000 in
set_option maxHeartbeats 4000000 in
theorem ct_X12_areAlike_r125_300060 {Dy : jH → Prop} {h0 : jH} {Q : Option Value → jH → Prop} (hD : jDk Dy) (hQ : ∀ (v : Int32) hx9, 0 ≤ v.toInt ∧ v.toInt ≤ 1 → jJ jSgM Dy hx9 → jSm fp_X12_areAlike_r125 h0 hx9 → Q (some (.int v)) hx9) : ∀ (l4 : Int32) (h : jH), 0 ≤ l4.toInt ∧ l4.toInt ≤ 1 → jJ jSgM Dy h → jSm fp_X12_areAlike_r125 h0 h → jX m_X12_areAlike 4 0 0 60 [(0, .ref 125), (4, .int l4)] [.int 1] h 0 0 Q := by
  intro l4 h y0   J Sm
  refine x_istore (lsx9 := [(5, .int 1), (0, .ref 125), (4, .int l4)]) rfl rfl rfl ?_
  refine x_aloadn (x := 125) rfl rfl ?_
  refine z_getR (N := 92) (b := 138) 12 22 rfl f_12_54 rfl J rfl 16022 ⟨rfl, rfl⟩ rfl ?_
  refine x_iconst (v := 0) rfl ki_0 ?_
  refine z_iald (N := 2) rfl J rfl sg_138_0_2_1_0_1 jk_0 (by omega) (fun v1 qv1 ev1 => ?_)
  refine x_istore (lsx9 := [(6, .int v1), (5, .int 1), (0, .ref 125), (4, .int l4)]) rfl rfl rfl ?_
  refine x_aloadn (x := 125) rfl rfl ?_
  refine z_getR (N := 92) (b := 138) 12 22 rfl f_12_54 rfl J rfl 16022 ⟨rfl, rfl⟩ rfl ?_
  refine x_iconst (v := 1) rfl ki_1 ?_
  refine z_iald (N := 2) rfl J rfl sg_138_0_2_1_0_1 jk_1 (by omega) (fun v2 qv2 ev2 => ?_)
  refine x_istore (lsx9 := [(7, .int v2), (6, .int v1), (5, .int 1), (0, .ref 125), (4, .int l4)]) rfl rfl rfl ?_
  refine x_iload (x := v1) rfl rfl ?_
  refine x_iload (x := v2) rfl rfl ?_
  refine x_iceq (tgt := 109) rfl rfl (ti_eq rfl rfl ⟨fun c3 => ?_, fun c3 => ?_⟩)
  ·
    exact jX.sub (jsb_c rfl (jsb_c rfl (jsb_c rfl jsb_n))) (ct_X12_areAlike_r125_109 hD hQ  v1 v2 h (jr_of rfl (by omega)) (jr_of rfl (by omega)) J Sm)
  ·
    refine x_iload (x := v1) rfl rfl ?_
    refine x_iload (x := v2) rfl rfl ?_
    refine x_icge (tgt := 97) rfl rfl (ti_ge rfl rfl ⟨fun c4 => ?_, fun c4 => ?_⟩)
    ·
      exact jX.sub (jsb_c rfl (jsb_c rfl (jsb_c rfl (jsb_c rfl jsb_n)))) (ct_X12_areAlike_r125_97 hD hQ  1 v1 v2 h (jr_of jk_1 (by omega)) (jr_of rfl (by omega)) (jr_of rfl (by omega)) J Sm)
    ·
      refine x_iload (x := l4) rfl rfl ?_
      refine x_ifne (tgt := 109) rfl rfl (ti_ne rfl jk_0 ⟨fun c5 => ?_, fun c5 => ?_⟩)
      ·
        exact jX.sub (jsb_c rfl (jsb_c rfl (jsb_c rfl jsb_n))) (ct_X12_areAlike_r125_109 hD hQ  v1 v2 h (jr_of rfl (by omega)) (jr_of rfl (by omega)) J Sm)
      ·
        exact jX.sub (jsb_c rfl (jsb_c rfl (jsb_c rfl (jsb_c rfl jsb_n)))) (ct_X12_areAlike_r125_97 hD hQ  1 v1 v2 h (jr_of jk_1 (by omega)) (jr_of rfl (by omega)) (jr_of rfl (by omega)) J Sm)
set_option maxRecDepth 100000 in
set_option maxHeartbeats 4000000 in
theorem ct_X12_areAlike_r125_200036 {Dy : jH → Prop} {h0 : jH} {Q : Option Value → jH → Prop} (hD : jDk Dy) (hQ : ∀ (v : Int32) hx9, 0 ≤ v.toInt ∧ v.toInt ≤ 1 → jJ jSgM Dy hx9 → jSm fp_X12_areAlike_r125 h0 hx9 → Q (some (.int v)) hx9) : ∀ (l2 : Int32) (l3 : Int32) (h : jH), 0 ≤ l2.toInt ∧ l2.toInt ≤ 599 → 0 ≤ l3.toInt ∧ l3.toInt ≤ 1 → jJ jSgM Dy h → jSm fp_X12_areAlike_r125 h0 h → jX m_X12_areAlike 4 0 0 36 [(0, .ref 125), (2, .int l2), (3, .int l3)] [.int 0] h 0 0 Q := by
  intro l2 l3 h y0 y1   J Sm
  refine x_istore (lsx9 := [(4, .int 0), (0, .ref 125), (2, .int l2), (3, .int l3)]) rfl rfl rfl ?_
  refine x_aloadn (x := 125) rfl rfl ?_
  refine z_getR (N := 92) (b := 126) 12 2 rfl f_12_8 rfl J rfl 16002 ⟨rfl, rfl⟩ rfl ?_
  refine x_aloadn (x := 125) rfl rfl ?_
  refine x_iloadn (x := l2) rfl rfl ?_
  refine x_iloadn (x := l3) rfl rfl ?_
  refine x_inv (N := m_X12_nameAt) (As := [.int l2, .int l3]) (b := 125) (st := [.ref 126]) (dx9 := 3) (mc := 0) (ms := 0) (host := "") 12 rfl t_X12_nameAt ⟨Or.inl q_12_311, i_X12_nameAt.1, i_X12_nameAt.2⟩ ⟨by decide, rfl⟩ (congrArg Prod.fst (J.1.1 125 (12, 92) rfl)) rfl (by decide) rfl rfl ⟨by decide, by decide⟩ (jC.of rfl k_X12_nameAt rfl ?_)
  show jX m_X12_nameAt 3 0 0 0 [(0, .ref 125), (1, .int l2), (2, .int l3)] [] _ 0 0 _
  refine x_aloadn (x := 125) rfl rfl ?_
  refine x_iloadn (x := l2) rfl rfl ?_
  refine x_iconst (v := 3) rfl ki_3 ?_
  refine z_idiv rfl rfl jk_3 (by omega) (by omega) (fun v1 ev1 => ?_)
  refine x_inv (N := m_X12_at) (As := [.int v1]) (b := 125) (st := []) (dx9 := 2) (mc := 0) (ms := 0) (host := "") 12 rfl t_X12_at ⟨Or.inl q_12_254, i_X12_at.1, i_X12_at.2⟩ ⟨by decide, rfl⟩ (congrArg Prod.fst (J.1.1 125 (12, 92) rfl)) rfl (by decide) rfl rfl ⟨by decide, by decide⟩ (jC.of rfl k_X12_at rfl ?_)
  show jX m_X12_at 2 0 0 0 [(0, .ref 125), (1, .int v1)] [] _ 0 0 _
  refine x_bipush (v := 20) rfl kb_20 ?_
  refine x_bipush (v := 90) rfl kb_90 ?_
  refine x_iloadn (x := v1) rfl rfl ?_
  refine z_imul rfl jk_90 rfl (by omega) (fun v2 ev2 => ?_)
  refine z_iadd rfl jk_20 rfl (by omega) (fun v3 ev3 => ?_)
  refine x_iret rfl rfl ?_
  show jX m_X12_nameAt 3 0 0 7 [(0, .ref 125), (1, .int l2), (2, .int l3)] [.int v3] _ 0 0 _
  refine x_bipush (v := 6) rfl kb_6 ?_
  refine z_iadd rfl rfl jk_6 (by omega) (fun v4 ev4 => ?_)
  refine x_bipush (v := 28) rfl kb_28 ?_
  refine x_iloadn (x := l2) rfl rfl ?_
  refine x_iconst (v := 3) rfl ki_3 ?_
  refine z_irem rfl rfl jk_3 (by omega) (by omega) (fun v5 ev5 => ?_)
  refine z_imul rfl jk_28 rfl (by omega) (fun v6 ev6 => ?_)
  refine z_iadd rfl rfl rfl (by omega) (fun v7 ev7 => ?_)
  refine x_bipush (v := 14) rfl kb_14 ?_
  refine x_iloadn (x := l3) rfl rfl ?_
  refine z_imul rfl jk_14 rfl (by omega) (fun v8 ev8 => ?_)
  refine z_iadd rfl rfl rfl (by omega) (fun v9 ev9 => ?_)
  have rnv9 := jnam (m := l2.toInt) (w := l3.toInt) (v := v9.toInt) (by omega) (by omega) (by omega)
  refine x_iret rfl rfl ?_
  show jX m_X12_areAlike 4 0 0 48 [(4, .int 0), (0, .ref 125), (2, .int l2), (3, .int l3)] [.int v9, .ref 126] _ 0 0 _
  refine x_iconst (v := 1) rfl ki_1 ?_
  refine z_iadd rfl rfl jk_1 (by omega) (fun v10 ev10 => ?_)
  refine z_ialdU (N := 50660) (lo := 0) (hi := 1) rfl J rfl rfl (by omega) ((show (v10.toInt - 20) % 90 = 7 ∨ (v10.toInt - 20) % 90 = 21 ∨ (v10.toInt - 20) % 90 = 35 ∨ (v10.toInt - 20) % 90 = 49 ∨ (v10.toInt - 20) % 90 = 63 ∨ (v10.toInt - 20) % 90 = 77 from by omega).elim (fun q => (jrg_w (jrg_c J sg_126_20_18020_90_7_8 rfl (by omega)) (by decide))) (fun q => q.elim (fun q => (jrg_w (jrg_c J sg_126_20_18020_90_21_22 rfl (by omega)) (by decide))) (fun q => q.elim (fun q => (jrg_w (jrg_c J sg_126_20_18020_90_35_36 rfl (by omega)) (by decide))) (fun q => q.elim (fun q => (jrg_w (jrg_c J sg_126_20_18020_90_49_50 rfl (by omega)) (by decide))) (fun q => q.elim (fun q => (jrg_w (jrg_c J sg_126_20_18020_90_63_64 rfl (by omega)) (by decide))) (fun q => (jrg_w (jrg_c J sg_126_20_18020_90_77_78 rfl (by omega)) (by decide)))))))) (fun v11 qv11 ev11 => ?_)
  refine x_iconst (v := 1) rfl ki_1 ?_
  refine x_icne (tgt := 59) rfl rfl (ti_ne rfl jk_1 ⟨fun c12 => ?_, fun c12 => ?_⟩)
  ·
    refine x_iconst (v := 0) rfl ki_0 ?_
    exact jX.sub (jsb_c rfl (jsb_c rfl jsb_n)) (ct_X12_areAlike_r125_200060 hD hQ  0 h (jr_of jk_0 (by omega)) J Sm)
  ·
    refine x_iconst (v := 1) rfl ki_1 ?_
    refine x_goto (tgt := 60) rfl rfl ?_
    exact jX.sub (jsb_c rfl (jsb_c rfl jsb_n)) (ct_X12_areAlike_r125_300060 hD hQ  0 h (jr_of jk_0 (by omega)) J Sm)
set_option maxRecDepth 100000 in
set_option maxHeartbeats 4000000 in
theorem ct_X12_areAlike_r125_300036 {Dy : jH → Prop} {h0 : jH} {Q : Option Value → jH → Prop} (hD : jDk Dy) (hQ : ∀ (v : Int32) hx9, 0 ≤ v.toInt ∧ v.toInt ≤ 1 → jJ jSgM Dy hx9 → jSm fp_X12_areAlike_r125 h0 hx9 → Q (some (.int v)) hx9) : ∀ (l2 : Int32) (l3 : Int32) (h : jH), 0 ≤ l2.toInt ∧ l2.toInt ≤ 599 → 0 ≤ l3.toInt ∧ l3.toInt ≤ 1 → jJ jSgM Dy h → jSm fp_X12_areAlike_r125 h0 h → jX m_X12_areAlike 4 0 0 36 [(0, .ref 125), (2, .int l2), (3, .int l3)] [.int 1] h 0 0 Q := by
  intro l2 l3 h y0 y1   J Sm
  refine x_istore (lsx9 := [(4, .int 1), (0, .ref 125), (2, .int l2), (3, .int l3)]) rfl rfl rfl ?_
  refine x_aloadn (x := 125) rfl rfl ?_
  refine z_getR (N := 92) (b := 126) 12 2 rfl f_12_8 rfl J rfl 16002 ⟨rfl, rfl⟩ rfl ?_
  refine x_aloadn (x := 125) rfl rfl ?_
  refine x_iloadn (x := l2) rfl rfl ?_
  refine x_iloadn (x := l3) rfl rfl ?_
  refine x_inv (N := m_X12_nameAt) (As := [.int l2, .int l3]) (b := 125) (st := [.ref 126]) (dx9 := 3) (mc := 0) (ms := 0) (host := "") 12 rfl t_X12_nameAt ⟨Or.inl q_12_311, i_X12_nameAt.1, i_X12_nameAt.2⟩ ⟨by decide, rfl⟩ (congrArg Prod.fst (J.1.1 125 (12, 92) rfl)) rfl (by decide) rfl rfl ⟨by decide, by decide⟩ (jC.of rfl k_X12_nameAt rfl ?_)
  show jX m_X12_nameAt 3 0 0 0 [(0, .ref 125), (1, .int l2), (2, .int l3)] [] _ 0 0 _
  refine x_aloadn (x := 125) rfl rfl ?_
  refine x_iloadn (x := l2) rfl rfl ?_
  refine x_iconst (v := 3) rfl ki_3 ?_
  refine z_idiv rfl rfl jk_3 (by omega) (by omega) (fun v1 ev1 => ?_)
  refine x_inv (N := m_X12_at) (As := [.int v1]) (b := 125) (st := []) (dx9 := 2) (mc := 0) (ms := 0) (host := "") 12 rfl t_X12_at ⟨Or.inl q_12_254, i_X12_at.1, i_X12_at.2⟩ ⟨by decide, rfl⟩ (congrArg Prod.fst (J.1.1 125 (12, 92) rfl)) rfl (by decide) rfl rfl ⟨by decide, by decide⟩ (jC.of rfl k_X12_at rfl ?_)
  show jX m_X12_at 2 0 0 0 [(0, .ref 125), (1, .int v1)] [] _ 0 0 _
  refine x_bipush (v := 20) rfl kb_20 ?_
  refine x_bipush (v := 90) rfl kb_90 ?_
  refine x_iloadn (x := v1) rfl rfl ?_
  refine z_imul rfl jk_90 rfl (by omega) (fun v2 ev2 => ?_)
  refine z_iadd rfl jk_20 rfl (by omega) (fun v3 ev3 => ?_)
  refine x_iret rfl rfl ?_
  show jX m_X12_nameAt 3 0 0 7 [(0, .ref 125), (1, .int l2), (2, .int l3)] [.int v3] _ 0 0 _
  refine x_bipush (v := 6) rfl kb_6 ?_
  refine z_iadd rfl rfl jk_6 (by omega) (fun v4 ev4 => ?_)
  refine x_bipush (v := 28) rfl kb_28 ?_
  refine x_iloadn (x := l2) rfl rfl ?_
  refine x_iconst (v := 3) rfl ki_3 ?_
  refine z_irem rfl rfl jk_3 (by omega) (by omega) (fun v5 ev5 => ?_)
  refine z_imul rfl jk_28 rfl (by omega) (fun v6 ev6 => ?_)
  refine z_iadd rfl rfl rfl (by omega) (fun v7 ev7 => ?_)
  refine x_bipush (v := 14) rfl kb_14 ?_
  refine x_iloadn (x := l3) rfl rfl ?_
  refine z_imul rfl jk_14 rfl (by omega) (fun v8 ev8 => ?_)
  refine z_iadd rfl rfl rfl (by omega) (fun v9 ev9 => ?_)
  have rnv9 := jnam (m := l2.toInt) (w := l3.toInt) (v := v9.toInt) (by omega) (by omega) (by omega)
  refine x_iret rfl rfl ?_
  show jX m_X12_areAlike 4 0 0 48 [(4, .int 1), (0, .ref 125), (2, .int l2), (3, .int l3)] [.int v9, .ref 126] _ 0 0 _
  refine x_iconst (v := 1) rfl ki_1 ?_
  refine z_iadd rfl rfl jk_1 (by omega) (fun v10 ev10 => ?_)
  refine z_ialdU (N := 50660) (lo := 0) (hi := 1) rfl J rfl rfl (by omega) ((show (v10.toInt - 20) % 90 = 7 ∨ (v10.toInt - 20) % 90 = 21 ∨ (v10.toInt - 20) % 90 = 35 ∨ (v10.toInt - 20) % 90 = 49 ∨ (v10.toInt - 20) % 90 = 63 ∨ (v10.toInt - 20) % 90 = 77 from by omega).elim (fun q => (jrg_w (jrg_c J sg_126_20_18020_90_7_8 rfl (by omega)) (by decide))) (fun q => q.elim (fun q => (jrg_w (jrg_c J sg_126_20_18020_90_21_22 rfl (by omega)) (by decide))) (fun q => q.elim (fun q => (jrg_w (jrg_c J sg_126_20_18020_90_35_36 rfl (by omega)) (by decide))) (fun q => q.elim (fun q => (jrg_w (jrg_c J sg_126_20_18020_90_49_50 rfl (by omega)) (by decide))) (fun q => q.elim (fun q => (jrg_w (jrg_c J sg_126_20_18020_90_63_64 rfl (by omega)) (by decide))) (fun q => (jrg_w (jrg_c J sg_126_20_18020_90_77_78 rfl (by omega)) (by decide)))))))) (fun v11 qv11 ev11 => ?_)
  refine x_iconst (v := 1) rfl ki_1 ?_
  refine x_icne (tgt := 59) rfl rfl (ti_ne rfl jk_1 ⟨fun c12 => ?_, fun c12 => ?_⟩)
  ·
    refine x_iconst (v := 0) rfl ki_0 ?_
    exact jX.sub (jsb_c rfl (jsb_c rfl jsb_n)) (ct_X12_areAlike_r125_200060 hD hQ  1 h (jr_of jk_1 (by omega)) J Sm)
  ·
    refine x_iconst (v := 1) rfl ki_1 ?_
    refine x_goto (tgt := 60) rfl rfl ?_
    exact jX.sub (jsb_c rfl (jsb_c rfl jsb_n)) (ct_X12_areAlike_r125_300060 hD hQ  1 h (jr_of jk_1 (by omega)) J Sm)
set_option maxRecDepth 100000 in
set_option maxHeartbeats 4000000 in
theorem sf_X12_areAlike_r125 {Dy : jH → Prop} {h : jH} {Q : Option Value → jH → Prop} {a1 : Int32} {a2 : Int32} {a3 : Int32} (y1 : 0 ≤ a1.toInt ∧ a1.toInt ≤ 599) (y2 : 0 ≤ a2.toInt ∧ a2.toInt ≤ 599) (y3 : 0 ≤ a3.toInt ∧ a3.toInt ≤ 1) (hD : jDk Dy) (J : jJ jSgM Dy h) (hQ : ∀ (v : Int32) hx9, 0 ≤ v.toInt ∧ v.toInt ≤ 1 → jJ jSgM Dy hx9 → jSm fp_X12_areAlike_r125 h hx9 → Q (some (.int v)) hx9) : jC m_X12_areAlike 4 0 0 [.ref 125, .int a1, .int a2, .int a3] h Q := by
  refine jC.of rfl k_X12_areAlike rfl ?_
  have Sm := jSm_rf fp_X12_areAlike_r125 h
  show jX m_X12_areAlike 4 0 0 0 [(0, .ref 125), (1, .int a1), (2, .int a2), (3, .int a3)] [] _ 0 0 _
  refine x_aloadn (x := 125) rfl rfl ?_
  refine x_iloadn (x := a1) rfl rfl ?_
  refine x_iloadn (x := a3) rfl rfl ?_
  refine x_iconst (v := 0) rfl ki_0 ?_
  refine x_inv (N := m_X12_fold) (As := [.int a1, .int a3, .int 0]) (b := 125) (st := []) (dx9 := 3) (mc := 0) (ms := 0) (host := "") 12 rfl t_X12_fold ⟨Or.inl q_12_325, i_X12_fold.1, i_X12_fold.2⟩ ⟨by decide, rfl⟩ (congrArg Prod.fst (J.1.1 125 (12, 92) rfl)) rfl (by decide) rfl rfl ⟨by decide, by decide⟩ (sf_X12_fold_r125 (jr_of rfl (by omega)) (jr_of rfl (by omega)) (jr_of jk_0 (by omega)) hD J  (fun h J S1 => ?_))
  have Sm := jSm_tr rfl Sm S1
  show jX m_X12_areAlike 4 0 0 7 [(0, .ref 125), (1, .int a1), (2, .int a2), (3, .int a3)] [] _ 0 0 _
  refine x_aloadn (x := 125) rfl rfl ?_
  refine x_iloadn (x := a2) rfl rfl ?_
  refine x_iloadn (x := a3) rfl rfl ?_
  refine x_iconst (v := 1) rfl ki_1 ?_
  refine x_inv (N := m_X12_fold) (As := [.int a2, .int a3, .int 1]) (b := 125) (st := []) (dx9 := 3) (mc := 0) (ms := 0) (host := "") 12 rfl t_X12_fold ⟨Or.inl q_12_325, i_X12_fold.1, i_X12_fold.2⟩ ⟨by decide, rfl⟩ (congrArg Prod.fst (J.1.1 125 (12, 92) rfl)) rfl (by decide) rfl rfl ⟨by decide, by decide⟩ (sf_X12_fold_r125 (jr_of rfl (by omega)) (jr_of rfl (by omega)) (jr_of jk_1 (by omega)) hD J  (fun h J S2 => ?_))
  have Sm := jSm_tr rfl Sm S2
  show jX m_X12_areAlike 4 0 0 14 [(0, .ref 125), (1, .int a1), (2, .int a2), (3, .int a3)] [] _ 0 0 _
  refine x_aloadn (x := 125) rfl rfl ?_
  refine z_getR (N := 92) (b := 126) 12 2 rfl f_12_8 rfl J rfl 16002 ⟨rfl, rfl⟩ rfl ?_
  refine x_aloadn (x := 125) rfl rfl ?_
  refine x_iloadn (x := a1) rfl rfl ?_
  refine x_iloadn (x := a3) rfl rfl ?_
  refine x_inv (N := m_X12_nameAt) (As := [.int a1, .int a3]) (b := 125) (st := [.ref 126]) (dx9 := 3) (mc := 0) (ms := 0) (host := "") 12 rfl t_X12_nameAt ⟨Or.inl q_12_311, i_X12_nameAt.1, i_X12_nameAt.2⟩ ⟨by decide, rfl⟩ (congrArg Prod.fst (J.1.1 125 (12, 92) rfl)) rfl (by decide) rfl rfl ⟨by decide, by decide⟩ (jC.of rfl k_X12_nameAt rfl ?_)
  show jX m_X12_nameAt 3 0 0 0 [(0, .ref 125), (1, .int a1), (2, .int a3)] [] _ 0 0 _
  refine x_aloadn (x := 125) rfl rfl ?_
  refine x_iloadn (x := a1) rfl rfl ?_
  refine x_iconst (v := 3) rfl ki_3 ?_
  refine z_idiv rfl rfl jk_3 (by omega) (by omega) (fun v3 ev3 => ?_)
  refine x_inv (N := m_X12_at) (As := [.int v3]) (b := 125) (st := []) (dx9 := 2) (mc := 0) (ms := 0) (host := "") 12 rfl t_X12_at ⟨Or.inl q_12_254, i_X12_at.1, i_X12_at.2⟩ ⟨by decide, rfl⟩ (congrArg Prod.fst (J.1.1 125 (12, 92) rfl)) rfl (by decide) rfl rfl ⟨by decide, by decide⟩ (jC.of rfl k_X12_at rfl ?_)
  show jX m_X12_at 2 0 0 0 [(0, .ref 125), (1, .int v3)] [] _ 0 0 _
  refine x_bipush (v := 20) rfl kb_20 ?_
  refine x_bipush (v := 90) rfl kb_90 ?_
  refine x_iloadn (x := v3) rfl rfl ?_
  refine z_imul rfl jk_90 rfl (by omega) (fun v4 ev4 => ?_)
  refine z_iadd rfl jk_20 rfl (by omega) (fun v5 ev5 => ?_)
  refine x_iret rfl rfl ?_
  show jX m_X12_nameAt 3 0 0 7 [(0, .ref 125), (1, .int a1), (2, .int a3)] [.int v5] _ 0 0 _
  refine x_bipush (v := 6) rfl kb_6 ?_
  refine z_iadd rfl rfl jk_6 (by omega) (fun v6 ev6 => ?_)
  refine x_bipush (v := 28) rfl kb_28 ?_
  refine x_iloadn (x := a1) rfl rfl ?_
  refine x_iconst (v := 3) rfl ki_3 ?_
  refine z_irem rfl rfl jk_3 (by omega) (by omega) (fun v7 ev7 => ?_)
  refine z_imul rfl jk_28 rfl (by omega) (fun v8 ev8 => ?_)
  refine z_iadd rfl rfl rfl (by omega) (fun v9 ev9 => ?_)
  refine x_bipush (v := 14) rfl kb_14 ?_
  refine x_iloadn (x := a3) rfl rfl ?_
  refine z_imul rfl jk_14 rfl (by omega) (fun v10 ev10 => ?_)
  refine z_iadd rfl rfl rfl (by omega) (fun v11 ev11 => ?_)
  have rnv11 := jnam (m := a1.toInt) (w := a3.toInt) (v := v11.toInt) (by omega) (by omega) (by omega)
  refine x_iret rfl rfl ?_
  show jX m_X12_areAlike 4 0 0 24 [(0, .ref 125), (1, .int a1), (2, .int a2), (3, .int a3)] [.int v11, .ref 126] _ 0 0 _
  refine x_iconst (v := 1) rfl ki_1 ?_
  refine z_iadd rfl rfl jk_1 (by omega) (fun v12 ev12 => ?_)
  refine z_ialdU (N := 50660) (lo := 0) (hi := 1) rfl J rfl rfl (by omega) ((show (v12.toInt - 20) % 90 = 7 ∨ (v12.toInt - 20) % 90 = 21 ∨ (v12.toInt - 20) % 90 = 35 ∨ (v12.toInt - 20) % 90 = 49 ∨ (v12.toInt - 20) % 90 = 63 ∨ (v12.toInt - 20) % 90 = 77 from by omega).elim (fun q => (jrg_w (jrg_c J sg_126_20_18020_90_7_8 rfl (by omega)) (by decide))) (fun q => q.elim (fun q => (jrg_w (jrg_c J sg_126_20_18020_90_21_22 rfl (by omega)) (by decide))) (fun q => q.elim (fun q => (jrg_w (jrg_c J sg_126_20_18020_90_35_36 rfl (by omega)) (by decide))) (fun q => q.elim (fun q => (jrg_w (jrg_c J sg_126_20_18020_90_49_50 rfl (by omega)) (by decide))) (fun q => q.elim (fun q => (jrg_w (jrg_c J sg_126_20_18020_90_63_64 rfl (by omega)) (by decide))) (fun q => (jrg_w (jrg_c J sg_126_20_18020_90_77_78 rfl (by omega)) (by decide)))))))) (fun v13 qv13 ev13 => ?_)
  refine x_iconst (v := 1) rfl ki_1 ?_
  refine x_icne (tgt := 35) rfl rfl (ti_ne rfl jk_1 ⟨fun c14 => ?_, fun c14 => ?_⟩)
  ·
    refine x_iconst (v := 0) rfl ki_0 ?_
    exact jX.sub (jsb_c rfl (jsb_c rfl (jsb_c rfl jsb_n))) (ct_X12_areAlike_r125_200036 hD hQ  a2 a3 h (jr_of rfl (by omega)) (jr_of rfl (by omega)) J Sm)
  ·
    refine x_iconst (v := 1) rfl ki_1 ?_
    refine x_goto (tgt := 36) rfl rfl ?_
    exact jX.sub (jsb_c rfl (jsb_c rfl (jsb_c rfl jsb_n))) (ct_X12_areAlike_r125_300036 hD hQ  a2 a3 h (jr_of rfl (by omega)) (jr_of rfl (by omega)) J Sm)
def fp_X12_areApart_r125 : jFp := []
set_option maxRecDepth 100000 in
set_option maxHeartbeats 4000000 in
theorem ct_X12_areApart_r125_300081 {Dy : jH → Prop} {h0 : jH} {Q : Option Value → jH → Prop} {R5 : Int} (hD : jDk Dy) (hQ : ∀ (v : Int32) hx9, 0 ≤ v.toInt ∧ v.toInt ≤ 1 → jJ jSgM Dy hx9 → jSm fp_X12_areApart_r125 h0 hx9 → Q (some (.int v)) hx9) (k5 : ∀ (l1 : Int32) (l2 : Int32) (l3 : Int32) (l4 : Int32) (h : jH), 60 - l4.toInt < R5 → 0 ≤ l1.toInt ∧ l1.toInt ≤ 599 → 0 ≤ l2.toInt ∧ l2.toInt ≤ 599 → 0 ≤ l3.toInt ∧ l3.toInt ≤ 1 → 0 ≤ l4.toInt ∧ l4.toInt ≤ 60 → jJ jSgM Dy h → jSm fp_X12_areApart_r125 h0 h → jX m_X12_areApart 1 0 0 5 [(0, .ref 125), (1, .int l1), (2, .int l2), (3, .int l3), (4, .int l4)] [] h 0 0 Q) : ∀ (l1 : Int32) (l2 : Int32) (l4 : Int32) (h : jH), 0 ≤ l1.toInt ∧ l1.toInt ≤ 599 → 0 ≤ l2.toInt ∧ l2.toInt ≤ 599 → 0 ≤ l4.toInt ∧ l4.toInt ≤ 59 → 60 - l4.toInt ≤ R5 → jJ jSgM Dy h → jSm fp_X12_areApart_r125 h0 h → jX m_X12_areApart 1 0 0 81 [(0, .ref 125), (1, .int l1), (2, .int l2), (4, .int l4)] [.int 1] h 0 0 Q := by
  intro l1 l2 l4 h y0 y1 y2  m5 J Sm
  refine x_istoren (lsx9 := [(3, .int 1), (0, .ref 125), (1, .int l1), (2, .int l2), (4, .int l4)]) rfl rfl rfl ?_
  refine z_iinc (x := l4) (lsx9 := fun v1 => [(4, .int v1), (3, .int 1), (0, .ref 125), (1, .int l1), (2, .int l2)]) rfl rfl rfl jko_1 (by omega) rfl (fun _ => rfl) (fun v1 ev1 => ?_)
  refine x_goto (tgt := 5) rfl rfl ?_
  exact jX.sub (jsb_c rfl (jsb_c rfl (jsb_c rfl (jsb_c rfl (jsb_c rfl jsb_n))))) (k5 l1 l2 1 v1 h (by omega) (jr_of rfl (by omega)) (jr_of rfl (by omega)) (jr_of jk_1 (by omega)) (jr_of rfl (by omega)) J Sm)
set_option maxRecDepth 100000 in
set_option maxHeartbeats 4000000 in
theorem ct_X12_areApart_r125_200081 {Dy : jH → Prop} {h0 : jH} {Q : Option Value → jH → Prop} {R5 : Int} (hD : jDk Dy) (hQ : ∀ (v : Int32) hx9, 0 ≤ v.toInt ∧ v.toInt ≤ 1 → jJ jSgM Dy hx9 → jSm fp_X12_areApart_r125 h0 hx9 → Q (some (.int v)) hx9) (k5 : ∀ (l1 : Int32) (l2 : Int32) (l3 : Int32) (l4 : Int32) (h : jH), 60 - l4.toInt < R5 → 0 ≤ l1.toInt ∧ l1.toInt ≤ 599 → 0 ≤ l2.toInt ∧ l2.toInt ≤ 599 → 0 ≤ l3.toInt ∧ l3.toInt ≤ 1 → 0 ≤ l4.toInt ∧ l4.toInt ≤ 60 → jJ jSgM Dy h → jSm fp_X12_areApart_r125 h0 h → jX m_X12_areApart 1 0 0 5 [(0, .ref 125), (1, .int l1), (2, .int l2), (3, .int l3), (4, .int l4)] [] h 0 0 Q) : ∀ (l1 : Int32) (l2 : Int32) (l4 : Int32) (h : jH), 0 ≤ l1.toInt ∧ l1.toInt ≤ 599 → 0 ≤ l2.toInt ∧ l2.toInt ≤ 599 → 0 ≤ l4.toInt ∧ l4.toInt ≤ 59 → 60 - l4.toInt ≤ R5 → jJ jSgM Dy h → jSm fp_X12_areApart_r125 h0 h → jX m_X12_areApart 1 0 0 81 [(0, .ref 125), (1, .int l1), (2, .int l2), (4, .int l4)] [.int 0] h 0 0 Q := by
  intro l1 l2 l4 h y0 y1 y2  m5 J Sm
  refine x_istoren (lsx9 := [(3, .int 0), (0, .ref 125), (1, .int l1), (2, .int l2), (4, .int l4)]) rfl rfl rfl ?_
  refine z_iinc (x := l4) (lsx9 := fun v1 => [(4, .int v1), (3, .int 0), (0, .ref 125), (1, .int l1), (2, .int l2)]) rfl rfl rfl jko_1 (by omega) rfl (fun _ => rfl) (fun v1 ev1 => ?_)
  refine x_goto (tgt := 5) rfl rfl ?_
  exact jX.sub (jsb_c rfl (jsb_c rfl (jsb_c rfl (jsb_c rfl (jsb_c rfl jsb_n))))) (k5 l1 l2 0 v1 h (by omega) (jr_of rfl (by omega)) (jr_of rfl (by omega)) (jr_of jk_0 (by omega)) (jr_of rfl (by omega)) J Sm)
set_option maxRecDepth 100000 in
set_option maxHeartbeats 4000000 in
theorem ct_X12_areApart_r125_76 {Dy : jH → Prop} {h0 : jH} {Q : Option Value → jH → Prop} {R5 : Int} (hD : jDk Dy) (hQ : ∀ (v : Int32) hx9, 0 ≤ v.toInt ∧ v.toInt ≤ 1 → jJ jSgM Dy hx9 → jSm fp_X12_areApart_r125 h0 hx9 → Q (some (.int v)) hx9) (k5 : ∀ (l1 : Int32) (l2 : Int32) (l3 : Int32) (l4 : Int32) (h : jH), 60 - l4.toInt < R5 → 0 ≤ l1.toInt ∧ l1.toInt ≤ 599 → 0 ≤ l2.toInt ∧ l2.toInt ≤ 599 → 0 ≤ l3.toInt ∧ l3.toInt ≤ 1 → 0 ≤ l4.toInt ∧ l4.toInt ≤ 60 → jJ jSgM Dy h → jSm fp_X12_areApart_r125 h0 h → jX m_X12_areApart 1 0 0 5 [(0, .ref 125), (1, .int l1), (2, .int l2), (3, .int l3), (4, .int l4)] [] h 0 0 Q) : ∀ (l1 : Int32) (l2 : Int32) (l4 : Int32) (h : jH), 0 ≤ l1.toInt ∧ l1.toInt ≤ 599 → 0 ≤ l2.toInt ∧ l2.toInt ≤ 599 → 0 ≤ l4.toInt ∧ l4.toInt ≤ 59 → 60 - l4.toInt ≤ R5 → jJ jSgM Dy h → jSm fp_X12_areApart_r125 h0 h → jX m_X12_areApart 1 0 0 76 [(0, .ref 125), (1, .int l1), (2, .int l2), (4, .int l4)] [] h 0 0 Q := by
  intro l1 l2 l4 h y0 y1 y2  m5 J Sm
  refine x_iconst (v := 1) rfl ki_1 ?_
  refine x_goto (tgt := 81) rfl rfl ?_
  exact jX.sub (jsb_c rfl (jsb_c rfl (jsb_c rfl (jsb_c rfl jsb_n)))) (ct_X12_areApart_r125_300081 hD hQ k5 l1 l2 l4 h (jr_of rfl (by omega)) (jr_of rfl (by omega)) (jr_of rfl (by omega)) (by omega) J Sm)
set_option maxRecDepth 100000 in
set_option maxHeartbeats 4000000 in
theorem ct_X12_areApart_r125_80 {Dy : jH → Prop} {h0 : jH} {Q : Option Value → jH → Prop} {R5 : Int} (hD : jDk Dy) (hQ : ∀ (v : Int32) hx9, 0 ≤ v.toInt ∧ v.toInt ≤ 1 → jJ jSgM Dy hx9 → jSm fp_X12_areApart_r125 h0 hx9 → Q (some (.int v)) hx9) (k5 : ∀ (l1 : Int32) (l2 : Int32) (l3 : Int32) (l4 : Int32) (h : jH), 60 - l4.toInt < R5 → 0 ≤ l1.toInt ∧ l1.toInt ≤ 599 → 0 ≤ l2.toInt ∧ l2.toInt ≤ 599 → 0 ≤ l3.toInt ∧ l3.toInt ≤ 1 → 0 ≤ l4.toInt ∧ l4.toInt ≤ 60 → jJ jSgM Dy h → jSm fp_X12_areApart_r125 h0 h → jX m_X12_areApart 1 0 0 5 [(0, .ref 125), (1, .int l1), (2, .int l2), (3, .int l3), (4, .int l4)] [] h 0 0 Q) : ∀ (l1 : Int32) (l2 : Int32) (l4 : Int32) (h : jH), 0 ≤ l1.toInt ∧ l1.toInt ≤ 599 → 0 ≤ l2.toInt ∧ l2.toInt ≤ 599 → 0 ≤ l4.toInt ∧ l4.toInt ≤ 59 → 60 - l4.toInt ≤ R5 → jJ jSgM Dy h → jSm fp_X12_areApart_r125 h0 h → jX m_X12_areApart 1 0 0 80 [(0, .ref 125), (1, .int l1), (2, .int l2), (4, .int l4)] [] h 0 0 Q := by
  intro l1 l2 l4 h y0 y1 y2  m5 J Sm
  refine x_iconst (v := 0) rfl ki_0 ?_
  exact jX.sub (jsb_c rfl (jsb_c rfl (jsb_c rfl (jsb_c rfl jsb_n)))) (ct_X12_areApart_r125_200081 hD hQ k5 l1 l2 l4 h (jr_of rfl (by omega)) (jr_of rfl (by omega)) (jr_of rfl (by omega)) (by omega) J Sm)
set_option maxRecDepth 100000 in
set_option maxHeartbeats 4000000 in
theorem ct_X12_areApart_r125_64 {Dy : jH → Prop} {h0 : jH} {Q : Option Value → jH → Prop} {R5 : Int} (hD : jDk Dy) (hQ : ∀ (v : Int32) hx9, 0 ≤ v.toInt ∧ v.toInt ≤ 1 → jJ jSgM Dy hx9 → jSm fp_X12_areApart_r125 h0 hx9 → Q (some (.int v)) hx9) (k5 : ∀ (l1 : Int32) (l2 : Int32) (l3 : Int32) (l4 : Int32) (h : jH), 60 - l4.toInt < R5 → 0 ≤ l1.toInt ∧ l1.toInt ≤ 599 → 0 ≤ l2.toInt ∧ l2.toInt ≤ 599 → 0 ≤ l3.toInt ∧ l3.toInt ≤ 1 → 0 ≤ l4.toInt ∧ l4.toInt ≤ 60 → jJ jSgM Dy h → jSm fp_X12_areApart_r125 h0 h → jX m_X12_areApart 1 0 0 5 [(0, .ref 125), (1, .int l1), (2, .int l2), (3, .int l3), (4, .int l4)] [] h 0 0 Q) : ∀ (l1 : Int32) (l2 : Int32) (l4 : Int32) (l5 : Int32) (l6 : Int32) (h : jH), 0 ≤ l1.toInt ∧ l1.toInt ≤ 599 → 0 ≤ l2.toInt ∧ l2.toInt ≤ 599 → 0 ≤ l4.toInt ∧ l4.toInt ≤ 59 → 0 ≤ l5.toInt ∧ l5.toInt ≤ 599 → 0 ≤ l6.toInt ∧ l6.toInt ≤ 599 → 60 - l4.toInt ≤ R5 → jJ jSgM Dy h → jSm fp_X12_areApart_r125 h0 h → jX m_X12_areApart 1 0 0 64 [(0, .ref 125), (1, .int l1), (2, .int l2), (4, .int l4), (5, .int l5), (6, .int l6)] [] h 0 0 Q := by
  intro l1 l2 l4 l5 l6 h y0 y1 y2 y3 y4  m5 J Sm
  refine x_iload (x := l5) rfl rfl ?_
  refine x_iloadn (x := l2) rfl rfl ?_
  refine x_icne (tgt := 80) rfl rfl (ti_ne rfl rfl ⟨fun c1 => ?_, fun c1 => ?_⟩)
  ·
    exact jX.sub (jsb_c rfl (jsb_c rfl (jsb_c rfl (jsb_c rfl jsb_n)))) (ct_X12_areApart_r125_80 hD hQ k5 l1 l2 l4 h (jr_of rfl (by omega)) (jr_of rfl (by omega)) (jr_of rfl (by omega)) (by omega) J Sm)
  ·
    refine x_iload (x := l6) rfl rfl ?_
    refine x_iloadn (x := l1) rfl rfl ?_
    refine x_icne (tgt := 80) rfl rfl (ti_ne rfl rfl ⟨fun c2 => ?_, fun c2 => ?_⟩)
    ·
      exact jX.sub (jsb_c rfl (jsb_c rfl (jsb_c rfl (jsb_c rfl jsb_n)))) (ct_X12_areApart_r125_80 hD hQ k5 l1 l2 l4 h (jr_of rfl (by omega)) (jr_of rfl (by omega)) (jr_of rfl (by omega)) (by omega) J Sm)
    ·
      exact jX.sub (jsb_c rfl (jsb_c rfl (jsb_c rfl (jsb_c rfl jsb_n)))) (ct_X12_areApart_r125_76 hD hQ k5 l1 l2 l4 h (jr_of rfl (by omega)) (jr_of rfl (by omega)) (jr_of rfl (by omega)) (by omega) J Sm)
set_option maxRecDepth 100000 in
set_option maxHeartbeats 4000000 in
theorem ct_X12_areApart_r125_5 {Dy : jH → Prop} {h0 : jH} {Q : Option Value → jH → Prop} (hD : jDk Dy) (hQ : ∀ (v : Int32) hx9, 0 ≤ v.toInt ∧ v.toInt ≤ 1 → jJ jSgM Dy hx9 → jSm fp_X12_areApart_r125 h0 hx9 → Q (some (.int v)) hx9) : ∀ r : Nat, ∀ (l1 : Int32) (l2 : Int32) (l3 : Int32) (l4 : Int32) (h : jH), 60 - l4.toInt < (r : Int) → 0 ≤ l1.toInt ∧ l1.toInt ≤ 599 → 0 ≤ l2.toInt ∧ l2.toInt ≤ 599 → 0 ≤ l3.toInt ∧ l3.toInt ≤ 1 → 0 ≤ l4.toInt ∧ l4.toInt ≤ 60 → jJ jSgM Dy h → jSm fp_X12_areApart_r125 h0 h → jX m_X12_areApart 1 0 0 5 [(0, .ref 125), (1, .int l1), (2, .int l2), (3, .int l3), (4, .int l4)] [] h 0 0 Q := by
  intro r
  induction r with
  | zero =>
    intro l1 l2 l3 l4 h hm y0 y1 y2 y3   J Sm
    exfalso
    omega
  | succ r ih =>
    intro l1 l2 l3 l4 h hm y0 y1 y2 y3   J Sm
    refine x_iload (x := l4) rfl rfl ?_
    refine x_aloadn (x := 125) rfl rfl ?_
    refine z_getR (N := 92) (b := 126) 12 2 rfl f_12_8 rfl J rfl 16002 ⟨rfl, rfl⟩ rfl ?_
    refine x_iconst (v := 1) rfl ki_1 ?_
    refine z_iald (N := 50660) rfl J rfl sg_126_1_2_1_0_1 jk_1 (by omega) (fun v1 qv1 ev1 => ?_)
    refine x_icge (tgt := 88) rfl rfl (ti_ge rfl rfl ⟨fun c2 => ?_, fun c2 => ?_⟩)
    ·
      refine x_iloadn (x := l3) rfl rfl ?_
      refine x_zret rfl rfl (jz01 (by omega)) ?_
      exact hQ _ _ (jr_of rfl (by omega)) J Sm
    ·
      refine x_aloadn (x := 125) rfl rfl ?_
      refine z_getR (N := 92) (b := 126) 12 2 rfl f_12_8 rfl J rfl 16002 ⟨rfl, rfl⟩ rfl ?_
      refine x_sipush (v := 18020) rfl ks_18020 ?_
      refine x_iconst (v := 2) rfl ki_2 ?_
      refine x_iload (x := l4) rfl rfl ?_
      refine z_imul rfl jk_2 rfl (by omega) (fun v3 ev3 => ?_)
      refine z_iadd rfl jk_18020 rfl (by omega) (fun v4 ev4 => ?_)
      refine z_iald (N := 50660) rfl J rfl sg_126_18020_18140_2_0_1 rfl (by omega) (fun v5 qv5 ev5 => ?_)
      refine x_istore (lsx9 := [(5, .int v5), (0, .ref 125), (1, .int l1), (2, .int l2), (3, .int l3), (4, .int l4)]) rfl rfl rfl ?_
      refine x_aloadn (x := 125) rfl rfl ?_
      refine z_getR (N := 92) (b := 126) 12 2 rfl f_12_8 rfl J rfl 16002 ⟨rfl, rfl⟩ rfl ?_
      refine x_sipush (v := 18020) rfl ks_18020 ?_
      refine x_iconst (v := 2) rfl ki_2 ?_
      refine x_iload (x := l4) rfl rfl ?_
      refine z_imul rfl jk_2 rfl (by omega) (fun v6 ev6 => ?_)
      refine z_iadd rfl jk_18020 rfl (by omega) (fun v7 ev7 => ?_)
      refine x_iconst (v := 1) rfl ki_1 ?_
      refine z_iadd rfl rfl jk_1 (by omega) (fun v8 ev8 => ?_)
      refine z_iald (N := 50660) rfl J rfl sg_126_18020_18140_2_1_2 rfl (by omega) (fun v9 qv9 ev9 => ?_)
      refine x_istore (lsx9 := [(6, .int v9), (5, .int v5), (0, .ref 125), (1, .int l1), (2, .int l2), (3, .int l3), (4, .int l4)]) rfl rfl rfl ?_
      refine x_iloadn (x := l3) rfl rfl ?_
      refine x_ifne (tgt := 76) rfl rfl (ti_ne rfl jk_0 ⟨fun c10 => ?_, fun c10 => ?_⟩)
      ·
        exact jX.sub (jsb_c rfl (jsb_c rfl (jsb_c rfl (jsb_c rfl jsb_n)))) (ct_X12_areApart_r125_76 hD hQ ih l1 l2 l4 h (jr_of rfl (by omega)) (jr_of rfl (by omega)) (jr_of rfl (by omega)) (by omega) J Sm)
      ·
        refine x_iload (x := v5) rfl rfl ?_
        refine x_iloadn (x := l1) rfl rfl ?_
        refine x_icne (tgt := 64) rfl rfl (ti_ne rfl rfl ⟨fun c11 => ?_, fun c11 => ?_⟩)
        ·
          exact jX.sub (jsb_c rfl (jsb_c rfl (jsb_c rfl (jsb_c rfl (jsb_c rfl (jsb_c rfl jsb_n)))))) (ct_X12_areApart_r125_64 hD hQ ih l1 l2 l4 v5 v9 h (jr_of rfl (by omega)) (jr_of rfl (by omega)) (jr_of rfl (by omega)) (jr_of rfl (by omega)) (jr_of rfl (by omega)) (by omega) J Sm)
        ·
          refine x_iload (x := v9) rfl rfl ?_
          refine x_iloadn (x := l2) rfl rfl ?_
          refine x_iceq (tgt := 76) rfl rfl (ti_eq rfl rfl ⟨fun c12 => ?_, fun c12 => ?_⟩)
          ·
            exact jX.sub (jsb_c rfl (jsb_c rfl (jsb_c rfl (jsb_c rfl jsb_n)))) (ct_X12_areApart_r125_76 hD hQ ih l1 l2 l4 h (jr_of rfl (by omega)) (jr_of rfl (by omega)) (jr_of rfl (by omega)) (by omega) J Sm)
          ·
            exact jX.sub (jsb_c rfl (jsb_c rfl (jsb_c rfl (jsb_c rfl (jsb_c rfl (jsb_c rfl jsb_n)))))) (ct_X12_areApart_r125_64 hD hQ ih l1 l2 l4 v5 v9 h (jr_of rfl (by omega)) (jr_of rfl (by omega)) (jr_of rfl (by omega)) (jr_of rfl (by omega)) (jr_of rfl (by omega)) (by omega) J Sm)
set_option maxRecDepth 100000 in
set_option maxHeartbeats 4000000 in
theorem sf_X12_areApart_r125 {Dy : jH → Prop} {h : jH} {Q : Option Value → jH → Prop} {a1 : Int32} {a2 : Int32} (y1 : 0 ≤ a1.toInt ∧ a1.toInt ≤ 599) (y2 : 0 ≤ a2.toInt ∧ a2.toInt ≤ 599) (hD : jDk Dy) (J : jJ jSgM Dy h) (hQ : ∀ (v : Int32) hx9, 0 ≤ v.toInt ∧ v.toInt ≤ 1 → jJ jSgM Dy hx9 → jSm fp_X12_areApart_r125 h hx9 → Q (some (.int v)) hx9) : jC m_X12_areApart 1 0 0 [.ref 125, .int a1, .int a2] h Q := by
  refine jC.of rfl k_X12_areApart rfl ?_
  have Sm := jSm_rf fp_X12_areApart_r125 h
  show jX m_X12_areApart 1 0 0 0 [(0, .ref 125), (1, .int a1), (2, .int a2)] [] _ 0 0 _
  refine x_iconst (v := 0) rfl ki_0 ?_
  refine x_istoren (lsx9 := [(3, .int 0), (0, .ref 125), (1, .int a1), (2, .int a2)]) rfl rfl rfl ?_
  refine x_iconst (v := 0) rfl ki_0 ?_
  refine x_istore (lsx9 := [(4, .int 0), (3, .int 0), (0, .ref 125), (1, .int a1), (2, .int a2)]) rfl rfl rfl ?_
  exact jX.sub (jsb_c rfl (jsb_c rfl (jsb_c rfl (jsb_c rfl (jsb_c rfl jsb_n))))) (ct_X12_areApart_r125_5 hD hQ  61 a1 a2 0 0 h (by have := jk_0; omega) (jr_of rfl (by omega)) (jr_of rfl (by omega)) (jr_of jk_0 (by omega)) (jr_of jk_0 (by omega)) J Sm)
def fp_X12_barsByAge_r125 : jFp := []
set_option maxRecDepth 100000 in
set_option maxHeartbeats 4000000 in
theorem ct_X12_barsByAge_r125_16 {Dy : jH → Prop} {h0 : jH} {Q : Option Value → jH → Prop} (hD : jDk Dy) (hQ : ∀ (v : Int32) hx9, 0 ≤ v.toInt ∧ v.toInt ≤ 1 → jJ jSgM Dy hx9 → jSm fp_X12_barsByAge_r125 h0 hx9 → Q (some (.int v)) hx9) : ∀ (h : jH), jJ jSgM Dy h → jSm fp_X12_barsByAge_r125 h0 h → jX m_X12_barsByAge 5 0 0 16 [] [] h 0 0 Q := by
  intro  h    J Sm
  refine x_iconst (v := 0) rfl ki_0 ?_
  refine x_zret rfl rfl (by decide) ?_
  exact hQ _ _ (jr_of jk_0 (by omega)) J Sm
set_option maxRecDepth 100000 in
set_option maxHeartbeats 4000000 in
theorem ct_X12_barsByAge_r125_200075 {Dy : jH → Prop} {h0 : jH} {Q : Option Value → jH → Prop} (hD : jDk Dy) (hQ : ∀ (v : Int32) hx9, 0 ≤ v.toInt ∧ v.toInt ≤ 1 → jJ jSgM Dy hx9 → jSm fp_X12_barsByAge_r125 h0 hx9 → Q (some (.int v)) hx9) : ∀ (h : jH), jJ jSgM Dy h → jSm fp_X12_barsByAge_r125 h0 h → jX m_X12_barsByAge 5 0 0 75 [] [.int 0] h 0 0 Q := by
  intro  h    J Sm
  refine x_zret rfl rfl (by decide) ?_
  exact hQ _ _ (jr_of jk_0 (by omega)) J Sm
set_option maxRecDepth 100000 in
set_option maxHeartbeats 4000000 in
theorem ct_X12_barsByAge_r125_300075 {Dy : jH → Prop} {h0 : jH} {Q : Option Value → jH → Prop} (hD : jDk Dy) (hQ : ∀ (v : Int32) hx9, 0 ≤ v.toInt ∧ v.toInt ≤ 1 → jJ jSgM Dy hx9 → jSm fp_X12_barsByAge_r125 h0 hx9 → Q (some (.int v)) hx9) : ∀ (h : jH), jJ jSgM Dy h → jSm fp_X12_barsByAge_r125 h0 h → jX m_X12_barsByAge 5 0 0 75 [] [.int 1] h 0 0 Q := by
  intro  h    J Sm
  refine x_zret rfl rfl (by decide) ?_
  exact hQ _ _ (jr_of jk_1 (by omega)) J Sm
set_option maxRecDepth 100000 in
set_option maxHeartbeats 4000000 in
theorem ct_X12_barsByAge_r125_70 {Dy : jH → Prop} {h0 : jH} {Q : Option Value → jH → Prop} (hD : jDk Dy) (hQ : ∀ (v : Int32) hx9, 0 ≤ v.toInt ∧ v.toInt ≤ 1 → jJ jSgM Dy hx9 → jSm fp_X12_barsByAge_r125 h0 hx9 → Q (some (.int v)) hx9) : ∀ (h : jH), jJ jSgM Dy h → jSm fp_X12_barsByAge_r125 h0 h → jX m_X12_barsByAge 5 0 0 70 [] [] h 0 0 Q := by
  intro  h    J Sm
  refine x_iconst (v := 1) rfl ki_1 ?_
  refine x_goto (tgt := 75) rfl rfl ?_
  exact jX.sub jsb_n (ct_X12_barsByAge_r125_300075 hD hQ  h J Sm)
set_option maxRecDepth 100000 in
set_option maxHeartbeats 4000000 in
theorem sf_X12_barsByAge_r125 {Dy : jH → Prop} {h : jH} {Q : Option Value → jH → Prop} {a1 : Int32} {a2 : Int32} (y1 : 0 ≤ a1.toInt ∧ a1.toInt ≤ 599) (y2 : 0 ≤ a2.toInt ∧ a2.toInt ≤ 599) (hD : jDk Dy) (J : jJ jSgM Dy h) (hQ : ∀ (v : Int32) hx9, 0 ≤ v.toInt ∧ v.toInt ≤ 1 → jJ jSgM Dy hx9 → jSm fp_X12_barsByAge_r125 h hx9 → Q (some (.int v)) hx9) : jC m_X12_barsByAge 5 0 0 [.ref 125, .int a1, .int a2] h Q := by
  refine jC.of rfl k_X12_barsByAge rfl ?_
  have Sm := jSm_rf fp_X12_barsByAge_r125 h
  show jX m_X12_barsByAge 5 0 0 0 [(0, .ref 125), (1, .int a1), (2, .int a2)] [] _ 0 0 _
  refine x_aloadn (x := 125) rfl rfl ?_
  refine x_iloadn (x := a1) rfl rfl ?_
  refine x_inv (N := m_X12_partOf) (As := [.int a1]) (b := 125) (st := []) (dx9 := 3) (mc := 0) (ms := 0) (host := "") 12 rfl t_X12_partOf ⟨Or.inl q_12_338, i_X12_partOf.1, i_X12_partOf.2⟩ ⟨by decide, rfl⟩ (congrArg Prod.fst (J.1.1 125 (12, 92) rfl)) rfl (by decide) rfl rfl ⟨by decide, by decide⟩ (sf_X12_partOf_r125 (jr_of rfl (by omega)) hD J  (fun v2 h ev2 J S1 => ?_))
  have Sm := jSm_tr rfl Sm S1
  show jX m_X12_barsByAge 5 0 0 5 [(0, .ref 125), (1, .int a1), (2, .int a2)] [.int v2] _ 0 0 _
  refine x_ifne (tgt := 16) rfl rfl (ti_ne rfl jk_0 ⟨fun c3 => ?_, fun c3 => ?_⟩)
  ·
    exact jX.sub jsb_n (ct_X12_barsByAge_r125_16 hD hQ  h J Sm)
  ·
    refine x_aloadn (x := 125) rfl rfl ?_
    refine x_iloadn (x := a2) rfl rfl ?_
    refine x_inv (N := m_X12_hasAge) (As := [.int a2]) (b := 125) (st := []) (dx9 := 4) (mc := 0) (ms := 0) (host := "") 12 rfl t_X12_hasAge ⟨Or.inl q_12_350, i_X12_hasAge.1, i_X12_hasAge.2⟩ ⟨by decide, rfl⟩ (congrArg Prod.fst (J.1.1 125 (12, 92) rfl)) rfl (by decide) rfl rfl ⟨by decide, by decide⟩ (sf_X12_hasAge_r125 (jr_of rfl (by omega)) hD J  (fun v5 h ev5 J S4 => ?_))
    have Sm := jSm_tr rfl Sm S4
    show jX m_X12_barsByAge 5 0 0 13 [(0, .ref 125), (1, .int a1), (2, .int a2)] [.int v5] _ 0 0 _
    refine x_ifne (tgt := 18) rfl rfl (ti_ne rfl jk_0 ⟨fun c6 => ?_, fun c6 => ?_⟩)
    ·
      refine x_aloadn (x := 125) rfl rfl ?_
      refine x_iloadn (x := a2) rfl rfl ?_
      refine x_inv (N := m_X12_dayAt) (As := [.int a2]) (b := 125) (st := []) (dx9 := 3) (mc := 0) (ms := 0) (host := "") 12 rfl t_X12_dayAt ⟨Or.inl q_12_347, i_X12_dayAt.1, i_X12_dayAt.2⟩ ⟨by decide, rfl⟩ (congrArg Prod.fst (J.1.1 125 (12, 92) rfl)) rfl (by decide) rfl rfl ⟨by decide, by decide⟩ (sf_X12_dayAt_r125 (jr_of rfl (by omega)) hD J  (fun v8 h ev8 J S7 => ?_))
      have Sm := jSm_tr rfl Sm S7
      show jX m_X12_barsByAge 5 0 0 23 [(0, .ref 125), (1, .int a1), (2, .int a2)] [.int v8] _ 0 0 _
      refine z_i2l rfl rfl (fun v9 ev9 => ?_)
      refine x_ldc2 (v := 366) rfl z_12_353 ?_
      refine z_ldiv0 rfl jkl_366 (by omega) (fun v10 => ?_)
      have ev10 := jfullL v10
      refine x_aloadn (x := 125) rfl rfl ?_
      refine x_iloadn (x := a1) rfl rfl ?_
      refine x_inv (N := m_X12_dayAt) (As := [.int a1]) (b := 125) (st := [.long v10]) (dx9 := 3) (mc := 0) (ms := 0) (host := "") 12 rfl t_X12_dayAt ⟨Or.inl q_12_347, i_X12_dayAt.1, i_X12_dayAt.2⟩ ⟨by decide, rfl⟩ (congrArg Prod.fst (J.1.1 125 (12, 92) rfl)) rfl (by decide) rfl rfl ⟨by decide, by decide⟩ (sf_X12_dayAt_r125 (jr_of rfl (by omega)) hD J  (fun v12 h ev12 J S11 => ?_))
      have Sm := jSm_tr rfl Sm S11
      show jX m_X12_barsByAge 5 0 0 33 [(0, .ref 125), (1, .int a1), (2, .int a2)] [.int v12, .long v10] _ 0 0 _
      refine x_sipush (v := 366) rfl ks_366 ?_
      refine z_idiv rfl rfl jk_366 (by omega) (by omega) (fun v13 ev13 => ?_)
      refine z_i2l rfl rfl (fun v14 ev14 => ?_)
      refine z_lsub0 rfl (fun v15 => ?_)
      have ev15 := jfullL v15
      refine x_aloadn (x := 125) rfl rfl ?_
      refine x_iloadn (x := a2) rfl rfl ?_
      refine x_iconst (v := 3) rfl ki_3 ?_
      refine z_idiv rfl rfl jk_3 (by omega) (by omega) (fun v16 ev16 => ?_)
      refine x_inv (N := m_X12_numberOf) (As := [.int v16]) (b := 125) (st := [.long v15]) (dx9 := 4) (mc := 0) (ms := 0) (host := "") 12 rfl t_X12_numberOf ⟨Or.inl q_12_296, i_X12_numberOf.1, i_X12_numberOf.2⟩ ⟨by decide, rfl⟩ (congrArg Prod.fst (J.1.1 125 (12, 92) rfl)) rfl (by decide) rfl rfl ⟨by decide, by decide⟩ (jC.of rfl k_X12_numberOf rfl ?_)
      show jX m_X12_numberOf 4 0 0 0 [(0, .ref 125), (1, .int v16)] [] _ 0 0 _
      refine x_aloadn (x := 125) rfl rfl ?_
      refine z_getR (N := 92) (b := 126) 12 2 rfl f_12_8 rfl J rfl 16002 ⟨rfl, rfl⟩ rfl ?_
      refine x_aloadn (x := 125) rfl rfl ?_
      refine x_iloadn (x := v16) rfl rfl ?_
      refine x_inv (N := m_X12_at) (As := [.int v16]) (b := 125) (st := [.ref 126]) (dx9 := 3) (mc := 0) (ms := 0) (host := "") 12 rfl t_X12_at ⟨Or.inl q_12_254, i_X12_at.1, i_X12_at.2⟩ ⟨by decide, rfl⟩ (congrArg Prod.fst (J.1.1 125 (12, 92) rfl)) rfl (by decide) rfl rfl ⟨by decide, by decide⟩ (jC.of rfl k_X12_at rfl ?_)
      show jX m_X12_at 3 0 0 0 [(0, .ref 125), (1, .int v16)] [] _ 0 0 _
      refine x_bipush (v := 20) rfl kb_20 ?_
      refine x_bipush (v := 90) rfl kb_90 ?_
      refine x_iloadn (x := v16) rfl rfl ?_
      refine z_imul rfl jk_90 rfl (by omega) (fun v17 ev17 => ?_)
      refine z_iadd rfl jk_20 rfl (by omega) (fun v18 ev18 => ?_)
      refine x_iret rfl rfl ?_
      show jX m_X12_numberOf 4 0 0 9 [(0, .ref 125), (1, .int v16)] [.int v18, .ref 126] _ 0 0 _
      refine x_iconst (v := 4) rfl ki_4 ?_
      refine z_iadd rfl rfl jk_4 (by omega) (fun v19 ev19 => ?_)
      refine z_iald0 (N := 50660) rfl J rfl rfl (by omega) (fun v20 qv20 => ?_)
      have ev20 := jfull v20
      refine x_iret rfl rfl ?_
      show jX m_X12_barsByAge 5 0 0 46 [(0, .ref 125), (1, .int a1), (2, .int a2)] [.int v20, .long v15] _ 0 0 _
      refine z_i2l rfl rfl (fun v21 ev21 => ?_)
      refine z_lsub0 rfl (fun v22 => ?_)
      have ev22 := jfullL v22
      refine x_lstoren (lsx9 := [(3, .long v22), (0, .ref 125), (1, .int a1), (2, .int a2)]) rfl rfl rfl ?_
      refine x_lloadn (x := v22) rfl rfl ?_
      refine x_aloadn (x := 125) rfl rfl ?_
      refine z_getI (N := 92) 12 27 rfl f_12_69 rfl J rfl sg_125_27_28_1_0_1 (fun v23 qv23 ev23 => ?_)
      refine z_i2l rfl rfl (fun v24 ev24 => ?_)
      refine z_lcmp rfl rfl rfl (fun v25 ev25 => ?_)
      refine x_ifgt (tgt := 70) rfl rfl (ti_gt rfl jk_0 ⟨fun c26 => ?_, fun c26 => ?_⟩)
      ·
        exact jX.sub jsb_n (ct_X12_barsByAge_r125_70 hD hQ  h J Sm)
      ·
        refine x_lloadn (x := v22) rfl rfl ?_
        refine z_lneg0 rfl (fun v27 => ?_)
        refine x_aloadn (x := 125) rfl rfl ?_
        refine z_getM (N := 92) (v := v23) 12 27 rfl f_12_69 rfl J rfl qv23 ?_
        refine z_i2l rfl rfl (fun v28 ev28 => ?_)
        refine z_lcmp rfl rfl rfl (fun v29 ev29 => ?_)
        refine x_ifle (tgt := 74) rfl rfl (ti_le rfl jk_0 ⟨fun c30 => ?_, fun c30 => ?_⟩)
        ·
          refine x_iconst (v := 0) rfl ki_0 ?_
          exact jX.sub jsb_n (ct_X12_barsByAge_r125_200075 hD hQ  h J Sm)
        ·
          exact jX.sub jsb_n (ct_X12_barsByAge_r125_70 hD hQ  h J Sm)
    ·
      exact jX.sub jsb_n (ct_X12_barsByAge_r125_16 hD hQ  h J Sm)
def fp_X12_barsByDay_r125 : jFp := []
set_option maxRecDepth 100000 in
set_option maxHeartbeats 4000000 in
theorem ct_X12_barsByDay_r125_200138 {Dy : jH → Prop} {h0 : jH} {Q : Option Value → jH → Prop} (hD : jDk Dy) (hQ : ∀ (v : Int32) hx9, 0 ≤ v.toInt ∧ v.toInt ≤ 1 → jJ jSgM Dy hx9 → jSm fp_X12_barsByDay_r125 h0 hx9 → Q (some (.int v)) hx9) : ∀ (h : jH), jJ jSgM Dy h → jSm fp_X12_barsByDay_r125 h0 h → jX m_X12_barsByDay 4 0 0 138 [] [.int 0] h 0 0 Q := by
  intro  h    J Sm
  refine x_zret rfl rfl (by decide) ?_
  exact hQ _ _ (jr_of jk_0 (by omega)) J Sm
set_option maxRecDepth 100000 in
set_option maxHeartbeats 4000000 in
theorem ct_X12_barsByDay_r125_300138 {Dy : jH → Prop} {h0 : jH} {Q : Option Value → jH → Prop} (hD : jDk Dy) (hQ : ∀ (v : Int32) hx9, 0 ≤ v.toInt ∧ v.toInt ≤ 1 → jJ jSgM Dy hx9 → jSm fp_X12_barsByDay_r125 h0 hx9 → Q (some (.int v)) hx9) : ∀ (h : jH), jJ jSgM Dy h → jSm fp_X12_barsByDay_r125 h0 h → jX m_X12_barsByDay 4 0 0 138 [] [.int 1] h 0 0 Q := by
  intro  h    J Sm
  refine x_zret rfl rfl (by decide) ?_
  exact hQ _ _ (jr_of jk_1 (by omega)) J Sm
set_option maxRecDepth 100000 in
set_option maxHeartbeats 4000000 in
theorem ct_X12_barsByDay_r125_137 {Dy : jH → Prop} {h0 : jH} {Q : Option Value → jH → Prop} (hD : jDk Dy) (hQ : ∀ (v : Int32) hx9, 0 ≤ v.toInt ∧ v.toInt ≤ 1 → jJ jSgM Dy hx9 → jSm fp_X12_barsByDay_r125 h0 hx9 → Q (some (.int v)) hx9) : ∀ (h : jH), jJ jSgM Dy h → jSm fp_X12_barsByDay_r125 h0 h → jX m_X12_barsByDay 4 0 0 137 [] [] h 0 0 Q := by
  intro  h    J Sm
  refine x_iconst (v := 0) rfl ki_0 ?_
  exact jX.sub jsb_n (ct_X12_barsByDay_r125_200138 hD hQ  h J Sm)
set_option maxRecDepth 100000 in
set_option maxHeartbeats 4000000 in
theorem ct_X12_barsByDay_r125_200129 {Dy : jH → Prop} {h0 : jH} {Q : Option Value → jH → Prop} (hD : jDk Dy) (hQ : ∀ (v : Int32) hx9, 0 ≤ v.toInt ∧ v.toInt ≤ 1 → jJ jSgM Dy hx9 → jSm fp_X12_barsByDay_r125 h0 hx9 → Q (some (.int v)) hx9) : ∀ (s1 : Int32) (s2 : Int32) (h : jH), 0 ≤ s1.toInt ∧ s1.toInt ≤ 146399 → 0 ≤ s2.toInt ∧ s2.toInt ≤ 146399 → jJ jSgM Dy h → jSm fp_X12_barsByDay_r125 h0 h → jX m_X12_barsByDay 4 0 0 129 [] [.int 0, .int s1, .int s2] h 0 0 Q := by
  intro s1 s2 h y0 y1   J Sm
  refine z_iadd rfl rfl jk_0 (by omega) (fun v1 ev1 => ?_)
  refine x_icle (tgt := 137) rfl rfl (ti_le rfl rfl ⟨fun c2 => ?_, fun c2 => ?_⟩)
  ·
    exact jX.sub jsb_n (ct_X12_barsByDay_r125_137 hD hQ  h J Sm)
  ·
    refine x_iconst (v := 1) rfl ki_1 ?_
    refine x_goto (tgt := 138) rfl rfl ?_
    exact jX.sub jsb_n (ct_X12_barsByDay_r125_300138 hD hQ  h J Sm)
set_option maxRecDepth 100000 in
set_option maxHeartbeats 4000000 in
theorem ct_X12_barsByDay_r125_129 {Dy : jH → Prop} {h0 : jH} {Q : Option Value → jH → Prop} (hD : jDk Dy) (hQ : ∀ (v : Int32) hx9, 0 ≤ v.toInt ∧ v.toInt ≤ 1 → jJ jSgM Dy hx9 → jSm fp_X12_barsByDay_r125 h0 hx9 → Q (some (.int v)) hx9) : ∀ (s1 : Int32) (s2 : Int32) (h : jH), 0 ≤ s1.toInt ∧ s1.toInt ≤ 146399 → 0 ≤ s2.toInt ∧ s2.toInt ≤ 146399 → jJ jSgM Dy h → jSm fp_X12_barsByDay_r125 h0 h → jX m_X12_barsByDay 4 0 0 129 [] [.int 366, .int s1, .int s2] h 0 0 Q := by
  intro s1 s2 h y0 y1   J Sm
  refine z_iadd rfl rfl jk_366 (by omega) (fun v1 ev1 => ?_)
  refine x_icle (tgt := 137) rfl rfl (ti_le rfl rfl ⟨fun c2 => ?_, fun c2 => ?_⟩)
  ·
    exact jX.sub jsb_n (ct_X12_barsByDay_r125_137 hD hQ  h J Sm)
  ·
    refine x_iconst (v := 1) rfl ki_1 ?_
    refine x_goto (tgt := 138) rfl rfl ?_
    exact jX.sub jsb_n (ct_X12_barsByDay_r125_300138 hD hQ  h J Sm)
set_option maxRecDepth 100000 in
set_option maxHeartbeats 4000000 in
theorem ct_X12_barsByDay_r125_300097 {Dy : jH → Prop} {h0 : jH} {Q : Option Value → jH → Prop} (hD : jDk Dy) (hQ : ∀ (v : Int32) hx9, 0 ≤ v.toInt ∧ v.toInt ≤ 1 → jJ jSgM Dy hx9 → jSm fp_X12_barsByDay_r125 h0 hx9 → Q (some (.int v)) hx9) : ∀ (h : jH), jJ jSgM Dy h → jSm fp_X12_barsByDay_r125 h0 h → jX m_X12_barsByDay 4 0 0 97 [] [.int 1] h 0 0 Q := by
  intro  h    J Sm
  refine x_zret rfl rfl (by decide) ?_
  exact hQ _ _ (jr_of jk_1 (by omega)) J Sm
set_option maxRecDepth 100000 in
set_option maxHeartbeats 4000000 in
theorem ct_X12_barsByDay_r125_200097 {Dy : jH → Prop} {h0 : jH} {Q : Option Value → jH → Prop} (hD : jDk Dy) (hQ : ∀ (v : Int32) hx9, 0 ≤ v.toInt ∧ v.toInt ≤ 1 → jJ jSgM Dy hx9 → jSm fp_X12_barsByDay_r125 h0 hx9 → Q (some (.int v)) hx9) : ∀ (h : jH), jJ jSgM Dy h → jSm fp_X12_barsByDay_r125 h0 h → jX m_X12_barsByDay 4 0 0 97 [] [.int 0] h 0 0 Q := by
  intro  h    J Sm
  refine x_zret rfl rfl (by decide) ?_
  exact hQ _ _ (jr_of jk_0 (by omega)) J Sm
set_option maxRecDepth 100000 in
set_option maxHeartbeats 4000000 in
theorem ct_X12_barsByDay_r125_92 {Dy : jH → Prop} {h0 : jH} {Q : Option Value → jH → Prop} (hD : jDk Dy) (hQ : ∀ (v : Int32) hx9, 0 ≤ v.toInt ∧ v.toInt ≤ 1 → jJ jSgM Dy hx9 → jSm fp_X12_barsByDay_r125 h0 hx9 → Q (some (.int v)) hx9) : ∀ (h : jH), jJ jSgM Dy h → jSm fp_X12_barsByDay_r125 h0 h → jX m_X12_barsByDay 4 0 0 92 [] [] h 0 0 Q := by
  intro  h    J Sm
  refine x_iconst (v := 1) rfl ki_1 ?_
  refine x_goto (tgt := 97) rfl rfl ?_
  exact jX.sub jsb_n (ct_X12_barsByDay_r125_300097 hD hQ  h J Sm)
set_option maxRecDepth 100000 in
set_option maxHeartbeats 4000000 in
theorem ct_X12_barsByDay_r125_96 {Dy : jH → Prop} {h0 : jH} {Q : Option Value → jH → Prop} (hD : jDk Dy) (hQ : ∀ (v : Int32) hx9, 0 ≤ v.toInt ∧ v.toInt ≤ 1 → jJ jSgM Dy hx9 → jSm fp_X12_barsByDay_r125 h0 hx9 → Q (some (.int v)) hx9) : ∀ (h : jH), jJ jSgM Dy h → jSm fp_X12_barsByDay_r125 h0 h → jX m_X12_barsByDay 4 0 0 96 [] [] h 0 0 Q := by
  intro  h    J Sm
  refine x_iconst (v := 0) rfl ki_0 ?_
  exact jX.sub jsb_n (ct_X12_barsByDay_r125_200097 hD hQ  h J Sm)
set_option maxRecDepth 100000 in
set_option maxHeartbeats 4000000 in
theorem ct_X12_barsByDay_r125_70 {Dy : jH → Prop} {h0 : jH} {Q : Option Value → jH → Prop} (hD : jDk Dy) (hQ : ∀ (v : Int32) hx9, 0 ≤ v.toInt ∧ v.toInt ≤ 1 → jJ jSgM Dy hx9 → jSm fp_X12_barsByDay_r125 h0 hx9 → Q (some (.int v)) hx9) : ∀ (l1 : Int32) (l2 : Int32) (l3 : Int32) (h : jH), 0 ≤ l1.toInt ∧ l1.toInt ≤ 599 → 0 ≤ l2.toInt ∧ l2.toInt ≤ 599 → 0 ≤ l3.toInt ∧ l3.toInt ≤ 6 → jJ jSgM Dy h → jSm fp_X12_barsByDay_r125 h0 h → jX m_X12_barsByDay 4 0 0 70 [(0, .ref 125), (1, .int l1), (2, .int l2), (3, .int l3)] [] h 0 0 Q := by
  intro l1 l2 l3 h y0 y1 y2   J Sm
  refine x_iloadn (x := l3) rfl rfl ?_
  refine x_iconst (v := 2) rfl ki_2 ?_
  refine x_icne (tgt := 96) rfl rfl (ti_ne rfl jk_2 ⟨fun c1 => ?_, fun c1 => ?_⟩)
  ·
    exact jX.sub jsb_n (ct_X12_barsByDay_r125_96 hD hQ  h J Sm)
  ·
    refine x_aloadn (x := 125) rfl rfl ?_
    refine x_iloadn (x := l2) rfl rfl ?_
    refine x_inv (N := m_X12_dayAt) (As := [.int l2]) (b := 125) (st := []) (dx9 := 3) (mc := 0) (ms := 0) (host := "") 12 rfl t_X12_dayAt ⟨Or.inl q_12_347, i_X12_dayAt.1, i_X12_dayAt.2⟩ ⟨by decide, rfl⟩ (congrArg Prod.fst (J.1.1 125 (12, 92) rfl)) rfl (by decide) rfl rfl ⟨by decide, by decide⟩ (sf_X12_dayAt_r125 (jr_of rfl (by omega)) hD J  (fun v3 h ev3 J S2 => ?_))
    have Sm := jSm_tr rfl Sm S2
    show jX m_X12_barsByDay 4 0 0 80 [(0, .ref 125), (1, .int l1), (2, .int l2), (3, .int l3)] [.int v3] _ 0 0 _
    refine x_aloadn (x := 125) rfl rfl ?_
    refine x_iloadn (x := l1) rfl rfl ?_
    refine x_inv (N := m_X12_dayAt) (As := [.int l1]) (b := 125) (st := [.int v3]) (dx9 := 3) (mc := 0) (ms := 0) (host := "") 12 rfl t_X12_dayAt ⟨Or.inl q_12_347, i_X12_dayAt.1, i_X12_dayAt.2⟩ ⟨by decide, rfl⟩ (congrArg Prod.fst (J.1.1 125 (12, 92) rfl)) rfl (by decide) rfl rfl ⟨by decide, by decide⟩ (sf_X12_dayAt_r125 (jr_of rfl (by omega)) hD J  (fun v5 h ev5 J S4 => ?_))
    have Sm := jSm_tr rfl Sm S4
    show jX m_X12_barsByDay 4 0 0 85 [(0, .ref 125), (1, .int l1), (2, .int l2), (3, .int l3)] [.int v5, .int v3] _ 0 0 _
    refine x_sipush (v := 18300) rfl ks_18300 ?_
    refine z_iadd rfl rfl jk_18300 (by omega) (fun v6 ev6 => ?_)
    refine x_icle (tgt := 96) rfl rfl (ti_le rfl rfl ⟨fun c7 => ?_, fun c7 => ?_⟩)
    ·
      exact jX.sub jsb_n (ct_X12_barsByDay_r125_96 hD hQ  h J Sm)
    ·
      exact jX.sub jsb_n (ct_X12_barsByDay_r125_92 hD hQ  h J Sm)
set_option maxRecDepth 100000 in
set_option maxHeartbeats 4000000 in
theorem ct_X12_barsByDay_r125_200033 {Dy : jH → Prop} {h0 : jH} {Q : Option Value → jH → Prop} (hD : jDk Dy) (hQ : ∀ (v : Int32) hx9, 0 ≤ v.toInt ∧ v.toInt ≤ 1 → jJ jSgM Dy hx9 → jSm fp_X12_barsByDay_r125 h0 hx9 → Q (some (.int v)) hx9) : ∀ (l1 : Int32) (l2 : Int32) (l3 : Int32) (h : jH), 0 ≤ l1.toInt ∧ l1.toInt ≤ 599 → 0 ≤ l2.toInt ∧ l2.toInt ≤ 599 → 0 ≤ l3.toInt ∧ l3.toInt ≤ 6 → jJ jSgM Dy h → jSm fp_X12_barsByDay_r125 h0 h → jX m_X12_barsByDay 4 0 0 33 [(0, .ref 125), (1, .int l1), (2, .int l2), (3, .int l3)] [.int 0] h 0 0 Q := by
  intro l1 l2 l3 h y0 y1 y2   J Sm
  refine x_istore (lsx9 := [(4, .int 0), (0, .ref 125), (1, .int l1), (2, .int l2), (3, .int l3)]) rfl rfl rfl ?_
  refine x_aloadn (x := 125) rfl rfl ?_
  refine x_iloadn (x := l2) rfl rfl ?_
  refine x_inv (N := m_X12_dayAt) (As := [.int l2]) (b := 125) (st := []) (dx9 := 3) (mc := 0) (ms := 0) (host := "") 12 rfl t_X12_dayAt ⟨Or.inl q_12_347, i_X12_dayAt.1, i_X12_dayAt.2⟩ ⟨by decide, rfl⟩ (congrArg Prod.fst (J.1.1 125 (12, 92) rfl)) rfl (by decide) rfl rfl ⟨by decide, by decide⟩ (sf_X12_dayAt_r125 (jr_of rfl (by omega)) hD J  (fun v2 h ev2 J S1 => ?_))
  have Sm := jSm_tr rfl Sm S1
  show jX m_X12_barsByDay 4 0 0 40 [(4, .int 0), (0, .ref 125), (1, .int l1), (2, .int l2), (3, .int l3)] [.int v2] _ 0 0 _
  refine x_aloadn (x := 125) rfl rfl ?_
  refine x_iloadn (x := l1) rfl rfl ?_
  refine x_inv (N := m_X12_dayAt) (As := [.int l1]) (b := 125) (st := [.int v2]) (dx9 := 3) (mc := 0) (ms := 0) (host := "") 12 rfl t_X12_dayAt ⟨Or.inl q_12_347, i_X12_dayAt.1, i_X12_dayAt.2⟩ ⟨by decide, rfl⟩ (congrArg Prod.fst (J.1.1 125 (12, 92) rfl)) rfl (by decide) rfl rfl ⟨by decide, by decide⟩ (sf_X12_dayAt_r125 (jr_of rfl (by omega)) hD J  (fun v4 h ev4 J S3 => ?_))
  have Sm := jSm_tr rfl Sm S3
  show jX m_X12_barsByDay 4 0 0 45 [(4, .int 0), (0, .ref 125), (1, .int l1), (2, .int l2), (3, .int l3)] [.int v4, .int v2] _ 0 0 _
  refine x_iclt (tgt := 92) rfl rfl (ti_lt rfl rfl ⟨fun c5 => ?_, fun c5 => ?_⟩)
  ·
    exact jX.sub jsb_n (ct_X12_barsByDay_r125_92 hD hQ  h J Sm)
  ·
    refine x_iload (x := 0) rfl rfl ?_
    refine x_ifeq (tgt := 70) rfl rfl (ti_eq jk_0 jk_0 (br_t (by omega) ?_))
    exact jX.sub (jsb_c rfl (jsb_c rfl (jsb_c rfl (jsb_c rfl jsb_n)))) (ct_X12_barsByDay_r125_70 hD hQ  l1 l2 l3 h (jr_of rfl (by omega)) (jr_of rfl (by omega)) (jr_of rfl (by omega)) J Sm)
set_option maxRecDepth 100000 in
set_option maxHeartbeats 4000000 in
theorem ct_X12_barsByDay_r125_300033 {Dy : jH → Prop} {h0 : jH} {Q : Option Value → jH → Prop} (hD : jDk Dy) (hQ : ∀ (v : Int32) hx9, 0 ≤ v.toInt ∧ v.toInt ≤ 1 → jJ jSgM Dy hx9 → jSm fp_X12_barsByDay_r125 h0 hx9 → Q (some (.int v)) hx9) : ∀ (l1 : Int32) (l2 : Int32) (l3 : Int32) (h : jH), 0 ≤ l1.toInt ∧ l1.toInt ≤ 599 → 0 ≤ l2.toInt ∧ l2.toInt ≤ 599 → 0 ≤ l3.toInt ∧ l3.toInt ≤ 6 → jJ jSgM Dy h → jSm fp_X12_barsByDay_r125 h0 h → jX m_X12_barsByDay 4 0 0 33 [(0, .ref 125), (1, .int l1), (2, .int l2), (3, .int l3)] [.int 1] h 0 0 Q := by
  intro l1 l2 l3 h y0 y1 y2   J Sm
  refine x_istore (lsx9 := [(4, .int 1), (0, .ref 125), (1, .int l1), (2, .int l2), (3, .int l3)]) rfl rfl rfl ?_
  refine x_aloadn (x := 125) rfl rfl ?_
  refine x_iloadn (x := l2) rfl rfl ?_
  refine x_inv (N := m_X12_dayAt) (As := [.int l2]) (b := 125) (st := []) (dx9 := 3) (mc := 0) (ms := 0) (host := "") 12 rfl t_X12_dayAt ⟨Or.inl q_12_347, i_X12_dayAt.1, i_X12_dayAt.2⟩ ⟨by decide, rfl⟩ (congrArg Prod.fst (J.1.1 125 (12, 92) rfl)) rfl (by decide) rfl rfl ⟨by decide, by decide⟩ (sf_X12_dayAt_r125 (jr_of rfl (by omega)) hD J  (fun v2 h ev2 J S1 => ?_))
  have Sm := jSm_tr rfl Sm S1
  show jX m_X12_barsByDay 4 0 0 40 [(4, .int 1), (0, .ref 125), (1, .int l1), (2, .int l2), (3, .int l3)] [.int v2] _ 0 0 _
  refine x_aloadn (x := 125) rfl rfl ?_
  refine x_iloadn (x := l1) rfl rfl ?_
  refine x_inv (N := m_X12_dayAt) (As := [.int l1]) (b := 125) (st := [.int v2]) (dx9 := 3) (mc := 0) (ms := 0) (host := "") 12 rfl t_X12_dayAt ⟨Or.inl q_12_347, i_X12_dayAt.1, i_X12_dayAt.2⟩ ⟨by decide, rfl⟩ (congrArg Prod.fst (J.1.1 125 (12, 92) rfl)) rfl (by decide) rfl rfl ⟨by decide, by decide⟩ (sf_X12_dayAt_r125 (jr_of rfl (by omega)) hD J  (fun v4 h ev4 J S3 => ?_))
  have Sm := jSm_tr rfl Sm S3
  show jX m_X12_barsByDay 4 0 0 45 [(4, .int 1), (0, .ref 125), (1, .int l1), (2, .int l2), (3, .int l3)] [.int v4, .int v2] _ 0 0 _
  refine x_iclt (tgt := 92) rfl rfl (ti_lt rfl rfl ⟨fun c5 => ?_, fun c5 => ?_⟩)
  ·
    exact jX.sub jsb_n (ct_X12_barsByDay_r125_92 hD hQ  h J Sm)
  ·
    refine x_iload (x := 1) rfl rfl ?_
    refine x_ifeq (tgt := 70) rfl rfl (ti_eq jk_1 jk_0 (br_f (by omega) ?_))
    refine x_aloadn (x := 125) rfl rfl ?_
    refine x_iloadn (x := l2) rfl rfl ?_
    refine x_inv (N := m_X12_dayAt) (As := [.int l2]) (b := 125) (st := []) (dx9 := 3) (mc := 0) (ms := 0) (host := "") 12 rfl t_X12_dayAt ⟨Or.inl q_12_347, i_X12_dayAt.1, i_X12_dayAt.2⟩ ⟨by decide, rfl⟩ (congrArg Prod.fst (J.1.1 125 (12, 92) rfl)) rfl (by decide) rfl rfl ⟨by decide, by decide⟩ (sf_X12_dayAt_r125 (jr_of rfl (by omega)) hD J  (fun v7 h ev7 J S6 => ?_))
    have Sm := jSm_tr rfl Sm S6
    show jX m_X12_barsByDay 4 0 0 58 [(4, .int 1), (0, .ref 125), (1, .int l1), (2, .int l2), (3, .int l3)] [.int v7] _ 0 0 _
    refine x_aloadn (x := 125) rfl rfl ?_
    refine x_iloadn (x := l1) rfl rfl ?_
    refine x_inv (N := m_X12_dayAt) (As := [.int l1]) (b := 125) (st := [.int v7]) (dx9 := 3) (mc := 0) (ms := 0) (host := "") 12 rfl t_X12_dayAt ⟨Or.inl q_12_347, i_X12_dayAt.1, i_X12_dayAt.2⟩ ⟨by decide, rfl⟩ (congrArg Prod.fst (J.1.1 125 (12, 92) rfl)) rfl (by decide) rfl rfl ⟨by decide, by decide⟩ (sf_X12_dayAt_r125 (jr_of rfl (by omega)) hD J  (fun v9 h ev9 J S8 => ?_))
    have Sm := jSm_tr rfl Sm S8
    show jX m_X12_barsByDay 4 0 0 63 [(4, .int 1), (0, .ref 125), (1, .int l1), (2, .int l2), (3, .int l3)] [.int v9, .int v7] _ 0 0 _
    refine x_sipush (v := 5124) rfl ks_5124 ?_
    refine z_iadd rfl rfl jk_5124 (by omega) (fun v10 ev10 => ?_)
    refine x_iclt (tgt := 92) rfl rfl (ti_lt rfl rfl ⟨fun c11 => ?_, fun c11 => ?_⟩)
    ·
      exact jX.sub jsb_n (ct_X12_barsByDay_r125_92 hD hQ  h J Sm)
    ·
      exact jX.sub (jsb_c rfl (jsb_c rfl (jsb_c rfl (jsb_c rfl jsb_n)))) (ct_X12_barsByDay_r125_70 hD hQ  l1 l2 l3 h (jr_of rfl (by omega)) (jr_of rfl (by omega)) (jr_of rfl (by omega)) J Sm)
set_option maxRecDepth 100000 in
set_option maxHeartbeats 4000000 in
theorem ct_X12_barsByDay_r125_28 {Dy : jH → Prop} {h0 : jH} {Q : Option Value → jH → Prop} (hD : jDk Dy) (hQ : ∀ (v : Int32) hx9, 0 ≤ v.toInt ∧ v.toInt ≤ 1 → jJ jSgM Dy hx9 → jSm fp_X12_barsByDay_r125 h0 hx9 → Q (some (.int v)) hx9) : ∀ (l1 : Int32) (l2 : Int32) (l3 : Int32) (h : jH), 0 ≤ l1.toInt ∧ l1.toInt ≤ 599 → 0 ≤ l2.toInt ∧ l2.toInt ≤ 599 → 0 ≤ l3.toInt ∧ l3.toInt ≤ 6 → jJ jSgM Dy h → jSm fp_X12_barsByDay_r125 h0 h → jX m_X12_barsByDay 4 0 0 28 [(0, .ref 125), (1, .int l1), (2, .int l2), (3, .int l3)] [] h 0 0 Q := by
  intro l1 l2 l3 h y0 y1 y2   J Sm
  refine x_iconst (v := 1) rfl ki_1 ?_
  refine x_goto (tgt := 33) rfl rfl ?_
  exact jX.sub (jsb_c rfl (jsb_c rfl (jsb_c rfl (jsb_c rfl jsb_n)))) (ct_X12_barsByDay_r125_300033 hD hQ  l1 l2 l3 h (jr_of rfl (by omega)) (jr_of rfl (by omega)) (jr_of rfl (by omega)) J Sm)
set_option maxRecDepth 100000 in
set_option maxHeartbeats 4000000 in
theorem sf_X12_barsByDay_r125 {Dy : jH → Prop} {h : jH} {Q : Option Value → jH → Prop} {a1 : Int32} {a2 : Int32} (y1 : 0 ≤ a1.toInt ∧ a1.toInt ≤ 599) (y2 : 0 ≤ a2.toInt ∧ a2.toInt ≤ 599) (hD : jDk Dy) (J : jJ jSgM Dy h) (hQ : ∀ (v : Int32) hx9, 0 ≤ v.toInt ∧ v.toInt ≤ 1 → jJ jSgM Dy hx9 → jSm fp_X12_barsByDay_r125 h hx9 → Q (some (.int v)) hx9) : jC m_X12_barsByDay 4 0 0 [.ref 125, .int a1, .int a2] h Q := by
  refine jC.of rfl k_X12_barsByDay rfl ?_
  have Sm := jSm_rf fp_X12_barsByDay_r125 h
  show jX m_X12_barsByDay 4 0 0 0 [(0, .ref 125), (1, .int a1), (2, .int a2)] [] _ 0 0 _
  refine x_aloadn (x := 125) rfl rfl ?_
  refine x_iloadn (x := a2) rfl rfl ?_
  refine x_inv (N := m_X12_partOf) (As := [.int a2]) (b := 125) (st := []) (dx9 := 3) (mc := 0) (ms := 0) (host := "") 12 rfl t_X12_partOf ⟨Or.inl q_12_338, i_X12_partOf.1, i_X12_partOf.2⟩ ⟨by decide, rfl⟩ (congrArg Prod.fst (J.1.1 125 (12, 92) rfl)) rfl (by decide) rfl rfl ⟨by decide, by decide⟩ (sf_X12_partOf_r125 (jr_of rfl (by omega)) hD J  (fun v2 h ev2 J S1 => ?_))
  have Sm := jSm_tr rfl Sm S1
  show jX m_X12_barsByDay 4 0 0 5 [(0, .ref 125), (1, .int a1), (2, .int a2)] [.int v2] _ 0 0 _
  refine x_istoren (lsx9 := [(3, .int v2), (0, .ref 125), (1, .int a1), (2, .int a2)]) rfl rfl rfl ?_
  refine x_aloadn (x := 125) rfl rfl ?_
  refine x_iloadn (x := a1) rfl rfl ?_
  refine x_inv (N := m_X12_partOf) (As := [.int a1]) (b := 125) (st := []) (dx9 := 3) (mc := 0) (ms := 0) (host := "") 12 rfl t_X12_partOf ⟨Or.inl q_12_338, i_X12_partOf.1, i_X12_partOf.2⟩ ⟨by decide, rfl⟩ (congrArg Prod.fst (J.1.1 125 (12, 92) rfl)) rfl (by decide) rfl rfl ⟨by decide, by decide⟩ (sf_X12_partOf_r125 (jr_of rfl (by omega)) hD J  (fun v4 h ev4 J S3 => ?_))
  have Sm := jSm_tr rfl Sm S3
  show jX m_X12_barsByDay 4 0 0 11 [(3, .int v2), (0, .ref 125), (1, .int a1), (2, .int a2)] [.int v4] _ 0 0 _
  refine x_ifne (tgt := 98) rfl rfl (ti_ne rfl jk_0 ⟨fun c5 => ?_, fun c5 => ?_⟩)
  ·
    refine x_aloadn (x := 125) rfl rfl ?_
    refine x_iloadn (x := a1) rfl rfl ?_
    refine x_inv (N := m_X12_partOf) (As := [.int a1]) (b := 125) (st := []) (dx9 := 3) (mc := 0) (ms := 0) (host := "") 12 rfl t_X12_partOf ⟨Or.inl q_12_338, i_X12_partOf.1, i_X12_partOf.2⟩ ⟨by decide, rfl⟩ (congrArg Prod.fst (J.1.1 125 (12, 92) rfl)) rfl (by decide) rfl rfl ⟨by decide, by decide⟩ (sf_X12_partOf_r125 (jr_of rfl (by omega)) hD J  (fun v7 h ev7 J S6 => ?_))
    have Sm := jSm_tr rfl Sm S6
    show jX m_X12_barsByDay 4 0 0 103 [(3, .int v2), (0, .ref 125), (1, .int a1), (2, .int a2)] [.int v7] _ 0 0 _
    refine x_iconst (v := 5) rfl ki_5 ?_
    refine x_icne (tgt := 137) rfl rfl (ti_ne rfl jk_5 ⟨fun c8 => ?_, fun c8 => ?_⟩)
    ·
      exact jX.sub jsb_n (ct_X12_barsByDay_r125_137 hD hQ  h J Sm)
    ·
      refine x_aloadn (x := 125) rfl rfl ?_
      refine x_iloadn (x := a2) rfl rfl ?_
      refine x_inv (N := m_X12_dayAt) (As := [.int a2]) (b := 125) (st := []) (dx9 := 3) (mc := 0) (ms := 0) (host := "") 12 rfl t_X12_dayAt ⟨Or.inl q_12_347, i_X12_dayAt.1, i_X12_dayAt.2⟩ ⟨by decide, rfl⟩ (congrArg Prod.fst (J.1.1 125 (12, 92) rfl)) rfl (by decide) rfl rfl ⟨by decide, by decide⟩ (sf_X12_dayAt_r125 (jr_of rfl (by omega)) hD J  (fun v10 h ev10 J S9 => ?_))
      have Sm := jSm_tr rfl Sm S9
      show jX m_X12_barsByDay 4 0 0 112 [(3, .int v2), (0, .ref 125), (1, .int a1), (2, .int a2)] [.int v10] _ 0 0 _
      refine x_aloadn (x := 125) rfl rfl ?_
      refine x_iloadn (x := a1) rfl rfl ?_
      refine x_inv (N := m_X12_dayAt) (As := [.int a1]) (b := 125) (st := [.int v10]) (dx9 := 3) (mc := 0) (ms := 0) (host := "") 12 rfl t_X12_dayAt ⟨Or.inl q_12_347, i_X12_dayAt.1, i_X12_dayAt.2⟩ ⟨by decide, rfl⟩ (congrArg Prod.fst (J.1.1 125 (12, 92) rfl)) rfl (by decide) rfl rfl ⟨by decide, by decide⟩ (sf_X12_dayAt_r125 (jr_of rfl (by omega)) hD J  (fun v12 h ev12 J S11 => ?_))
      have Sm := jSm_tr rfl Sm S11
      show jX m_X12_barsByDay 4 0 0 117 [(3, .int v2), (0, .ref 125), (1, .int a1), (2, .int a2)] [.int v12, .int v10] _ 0 0 _
      refine x_iloadn (x := v2) rfl rfl ?_
      refine x_iconst (v := 1) rfl ki_1 ?_
      refine x_icne (tgt := 128) rfl rfl (ti_ne rfl jk_1 ⟨fun c13 => ?_, fun c13 => ?_⟩)
      ·
        refine x_iconst (v := 0) rfl ki_0 ?_
        exact jX.sub jsb_n (ct_X12_barsByDay_r125_200129 hD hQ  v12 v10 h (jr_of rfl (by omega)) (jr_of rfl (by omega)) J Sm)
      ·
        refine x_sipush (v := 366) rfl ks_366 ?_
        refine x_goto (tgt := 129) rfl rfl ?_
        exact jX.sub jsb_n (ct_X12_barsByDay_r125_129 hD hQ  v12 v10 h (jr_of rfl (by omega)) (jr_of rfl (by omega)) J Sm)
  ·
    refine x_iloadn (x := v2) rfl rfl ?_
    refine x_inst (N := m_X12_isMan) (As := [.int v2]) (st := []) (dx9 := 1) (mc := 0) (ms := 0) (host := "") rfl t_X12_isMan ⟨Or.inl q_12_341, s_X12_isMan⟩ rfl (by decide) rfl rfl ⟨by decide, by decide⟩ (sf_X12_isMan (jr_of rfl (by omega)) hD J  (fun v15 h ev15 J S14 => ?_))
    have Sm := jSm_tr rfl Sm S14
    show jX m_X12_barsByDay 4 0 0 18 [(3, .int v2), (0, .ref 125), (1, .int a1), (2, .int a2)] [.int v15] _ 0 0 _
    refine x_ifne (tgt := 28) rfl rfl (ti_ne rfl jk_0 ⟨fun c16 => ?_, fun c16 => ?_⟩)
    ·
      exact jX.sub (jsb_c rfl (jsb_c rfl (jsb_c rfl (jsb_c rfl jsb_n)))) (ct_X12_barsByDay_r125_28 hD hQ  a1 a2 v2 h (jr_of rfl (by omega)) (jr_of rfl (by omega)) (jr_of rfl (by omega)) J Sm)
    ·
      refine x_iloadn (x := v2) rfl rfl ?_
      refine x_inst (N := m_X12_isWoman) (As := [.int v2]) (st := []) (dx9 := 1) (mc := 0) (ms := 0) (host := "") rfl t_X12_isWoman ⟨Or.inl q_12_344, s_X12_isWoman⟩ rfl (by decide) rfl rfl ⟨by decide, by decide⟩ (sf_X12_isWoman (jr_of rfl (by omega)) hD J  (fun v18 h ev18 J S17 => ?_))
      have Sm := jSm_tr rfl Sm S17
      show jX m_X12_barsByDay 4 0 0 25 [(3, .int v2), (0, .ref 125), (1, .int a1), (2, .int a2)] [.int v18] _ 0 0 _
      refine x_ifeq (tgt := 32) rfl rfl (ti_eq rfl jk_0 ⟨fun c19 => ?_, fun c19 => ?_⟩)
      ·
        refine x_iconst (v := 0) rfl ki_0 ?_
        exact jX.sub (jsb_c rfl (jsb_c rfl (jsb_c rfl (jsb_c rfl jsb_n)))) (ct_X12_barsByDay_r125_200033 hD hQ  a1 a2 v2 h (jr_of rfl (by omega)) (jr_of rfl (by omega)) (jr_of rfl (by omega)) J Sm)
      ·
        exact jX.sub (jsb_c rfl (jsb_c rfl (jsb_c rfl (jsb_c rfl jsb_n)))) (ct_X12_barsByDay_r125_28 hD hQ  a1 a2 v2 h (jr_of rfl (by omega)) (jr_of rfl (by omega)) (jr_of rfl (by omega)) J Sm)
def fp_X12_why_r125 : jFp := [(137, 0, 80), (138, 0, 2)]
set_option maxRecDepth 100000 in
set_option maxHeartbeats 4000000 in
theorem ct_X12_why_r125_180 {Dy : jH → Prop} {h0 : jH} {Q : Option Value → jH → Prop} (hD : jDk Dy) (hQ : ∀ (v : Int32) hx9, 0 ≤ v.toInt ∧ v.toInt ≤ 7 → jJ jSgM Dy hx9 → jSm fp_X12_why_r125 h0 hx9 → Q (some (.int v)) hx9) : ∀ (h : jH), jJ jSgM Dy h → jSm fp_X12_why_r125 h0 h → jX m_X12_why 6 0 0 180 [] [] h 0 0 Q := by
  intro  h    J Sm
  refine x_bipush (v := 6) rfl kb_6 ?_
  refine x_iret rfl rfl ?_
  exact hQ _ _ (jr_of jk_6 (by omega)) J Sm
set_option maxRecDepth 100000 in
set_option maxHeartbeats 4000000 in
theorem ct_X12_why_r125_200207 {Dy : jH → Prop} {h0 : jH} {Q : Option Value → jH → Prop} (hD : jDk Dy) (hQ : ∀ (v : Int32) hx9, 0 ≤ v.toInt ∧ v.toInt ≤ 7 → jJ jSgM Dy hx9 → jSm fp_X12_why_r125 h0 hx9 → Q (some (.int v)) hx9) : ∀ (h : jH), jJ jSgM Dy h → jSm fp_X12_why_r125 h0 h → jX m_X12_why 6 0 0 207 [] [.int 0] h 0 0 Q := by
  intro  h    J Sm
  refine x_iret rfl rfl ?_
  exact hQ _ _ (jr_of jk_0 (by omega)) J Sm
set_option maxRecDepth 100000 in
set_option maxHeartbeats 4000000 in
theorem ct_X12_why_r125_900207 {Dy : jH → Prop} {h0 : jH} {Q : Option Value → jH → Prop} (hD : jDk Dy) (hQ : ∀ (v : Int32) hx9, 0 ≤ v.toInt ∧ v.toInt ≤ 7 → jJ jSgM Dy hx9 → jSm fp_X12_why_r125 h0 hx9 → Q (some (.int v)) hx9) : ∀ (h : jH), jJ jSgM Dy h → jSm fp_X12_why_r125 h0 h → jX m_X12_why 6 0 0 207 [] [.int 7] h 0 0 Q := by
  intro  h    J Sm
  refine x_iret rfl rfl ?_
  exact hQ _ _ (jr_of jk_7 (by omega)) J Sm
set_option maxRecDepth 100000 in
set_option maxHeartbeats 4000000 in
theorem ct_X12_why_r125_201 {Dy : jH → Prop} {h0 : jH} {Q : Option Value → jH → Prop} (hD : jDk Dy) (hQ : ∀ (v : Int32) hx9, 0 ≤ v.toInt ∧ v.toInt ≤ 7 → jJ jSgM Dy hx9 → jSm fp_X12_why_r125 h0 hx9 → Q (some (.int v)) hx9) : ∀ (h : jH), jJ jSgM Dy h → jSm fp_X12_why_r125 h0 h → jX m_X12_why 6 0 0 201 [] [] h 0 0 Q := by
  intro  h    J Sm
  refine x_bipush (v := 7) rfl kb_7 ?_
  refine x_goto (tgt := 207) rfl rfl ?_
  exact jX.sub jsb_n (ct_X12_why_r125_900207 hD hQ  h J Sm)
set_option maxRecDepth 100000 in
set_option maxHeartbeats 4000000 in
theorem ct_X12_why_r125_162 {Dy : jH → Prop} {h0 : jH} {Q : Option Value → jH → Prop} (hD : jDk Dy) (hQ : ∀ (v : Int32) hx9, 0 ≤ v.toInt ∧ v.toInt ≤ 7 → jJ jSgM Dy hx9 → jSm fp_X12_why_r125 h0 hx9 → Q (some (.int v)) hx9) : ∀ (l1 : Int32) (l2 : Int32) (h : jH), 0 ≤ l1.toInt ∧ l1.toInt ≤ 599 → 0 ≤ l2.toInt ∧ l2.toInt ≤ 599 → jJ jSgM Dy h → jSm fp_X12_why_r125 h0 h → jX m_X12_why 6 0 0 162 [(0, .ref 125), (1, .int l1), (2, .int l2)] [] h 0 0 Q := by
  intro l1 l2 h y0 y1   J Sm
  refine x_aloadn (x := 125) rfl rfl ?_
  refine x_iloadn (x := l1) rfl rfl ?_
  refine x_iloadn (x := l2) rfl rfl ?_
  refine x_inv (N := m_X12_barsByDay) (As := [.int l1, .int l2]) (b := 125) (st := []) (dx9 := 4) (mc := 0) (ms := 0) (host := "") 12 rfl t_X12_barsByDay ⟨Or.inl q_12_362, i_X12_barsByDay.1, i_X12_barsByDay.2⟩ ⟨by decide, rfl⟩ (congrArg Prod.fst (J.1.1 125 (12, 92) rfl)) rfl (by decide) rfl rfl ⟨by decide, by decide⟩ (sf_X12_barsByDay_r125 (jr_of rfl (by omega)) (jr_of rfl (by omega)) hD J  (fun v2 h ev2 J S1 => ?_))
  have Sm := jSm_tr rfl Sm S1
  show jX m_X12_why 6 0 0 168 [(0, .ref 125), (1, .int l1), (2, .int l2)] [.int v2] _ 0 0 _
  refine x_ifne (tgt := 180) rfl rfl (ti_ne rfl jk_0 ⟨fun c3 => ?_, fun c3 => ?_⟩)
  ·
    exact jX.sub jsb_n (ct_X12_why_r125_180 hD hQ  h J Sm)
  ·
    refine x_aloadn (x := 125) rfl rfl ?_
    refine x_iloadn (x := l2) rfl rfl ?_
    refine x_iloadn (x := l1) rfl rfl ?_
    refine x_inv (N := m_X12_barsByDay) (As := [.int l2, .int l1]) (b := 125) (st := []) (dx9 := 4) (mc := 0) (ms := 0) (host := "") 12 rfl t_X12_barsByDay ⟨Or.inl q_12_362, i_X12_barsByDay.1, i_X12_barsByDay.2⟩ ⟨by decide, rfl⟩ (congrArg Prod.fst (J.1.1 125 (12, 92) rfl)) rfl (by decide) rfl rfl ⟨by decide, by decide⟩ (sf_X12_barsByDay_r125 (jr_of rfl (by omega)) (jr_of rfl (by omega)) hD J  (fun v5 h ev5 J S4 => ?_))
    have Sm := jSm_tr rfl Sm S4
    show jX m_X12_why 6 0 0 177 [(0, .ref 125), (1, .int l1), (2, .int l2)] [.int v5] _ 0 0 _
    refine x_ifeq (tgt := 183) rfl rfl (ti_eq rfl jk_0 ⟨fun c6 => ?_, fun c6 => ?_⟩)
    ·
      refine x_aloadn (x := 125) rfl rfl ?_
      refine x_iloadn (x := l1) rfl rfl ?_
      refine x_iloadn (x := l2) rfl rfl ?_
      refine x_inv (N := m_X12_barsByAge) (As := [.int l1, .int l2]) (b := 125) (st := []) (dx9 := 5) (mc := 0) (ms := 0) (host := "") 12 rfl t_X12_barsByAge ⟨Or.inl q_12_365, i_X12_barsByAge.1, i_X12_barsByAge.2⟩ ⟨by decide, rfl⟩ (congrArg Prod.fst (J.1.1 125 (12, 92) rfl)) rfl (by decide) rfl rfl ⟨by decide, by decide⟩ (sf_X12_barsByAge_r125 (jr_of rfl (by omega)) (jr_of rfl (by omega)) hD J  (fun v8 h ev8 J S7 => ?_))
      have Sm := jSm_tr rfl Sm S7
      show jX m_X12_why 6 0 0 189 [(0, .ref 125), (1, .int l1), (2, .int l2)] [.int v8] _ 0 0 _
      refine x_ifne (tgt := 201) rfl rfl (ti_ne rfl jk_0 ⟨fun c9 => ?_, fun c9 => ?_⟩)
      ·
        exact jX.sub jsb_n (ct_X12_why_r125_201 hD hQ  h J Sm)
      ·
        refine x_aloadn (x := 125) rfl rfl ?_
        refine x_iloadn (x := l2) rfl rfl ?_
        refine x_iloadn (x := l1) rfl rfl ?_
        refine x_inv (N := m_X12_barsByAge) (As := [.int l2, .int l1]) (b := 125) (st := []) (dx9 := 5) (mc := 0) (ms := 0) (host := "") 12 rfl t_X12_barsByAge ⟨Or.inl q_12_365, i_X12_barsByAge.1, i_X12_barsByAge.2⟩ ⟨by decide, rfl⟩ (congrArg Prod.fst (J.1.1 125 (12, 92) rfl)) rfl (by decide) rfl rfl ⟨by decide, by decide⟩ (sf_X12_barsByAge_r125 (jr_of rfl (by omega)) (jr_of rfl (by omega)) hD J  (fun v11 h ev11 J S10 => ?_))
        have Sm := jSm_tr rfl Sm S10
        show jX m_X12_why 6 0 0 198 [(0, .ref 125), (1, .int l1), (2, .int l2)] [.int v11] _ 0 0 _
        refine x_ifeq (tgt := 206) rfl rfl (ti_eq rfl jk_0 ⟨fun c12 => ?_, fun c12 => ?_⟩)
        ·
          refine x_iconst (v := 0) rfl ki_0 ?_
          exact jX.sub jsb_n (ct_X12_why_r125_200207 hD hQ  h J Sm)
        ·
          exact jX.sub jsb_n (ct_X12_why_r125_201 hD hQ  h J Sm)
    ·
      exact jX.sub jsb_n (ct_X12_why_r125_180 hD hQ  h J Sm)
set_option maxRecDepth 100000 in
set_option maxHeartbeats 4000000 in
theorem ct_X12_why_r125_160 {Dy : jH → Prop} {h0 : jH} {Q : Option Value → jH → Prop} (hD : jDk Dy) (hQ : ∀ (v : Int32) hx9, 0 ≤ v.toInt ∧ v.toInt ≤ 7 → jJ jSgM Dy hx9 → jSm fp_X12_why_r125 h0 hx9 → Q (some (.int v)) hx9) : ∀ (h : jH), jJ jSgM Dy h → jSm fp_X12_why_r125 h0 h → jX m_X12_why 6 0 0 160 [] [] h 0 0 Q := by
  intro  h    J Sm
  refine x_iconst (v := 5) rfl ki_5 ?_
  refine x_iret rfl rfl ?_
  exact hQ _ _ (jr_of jk_5 (by omega)) J Sm
set_option maxRecDepth 100000 in
set_option maxHeartbeats 4000000 in
theorem ct_X12_why_r125_145 {Dy : jH → Prop} {h0 : jH} {Q : Option Value → jH → Prop} (hD : jDk Dy) (hQ : ∀ (v : Int32) hx9, 0 ≤ v.toInt ∧ v.toInt ≤ 7 → jJ jSgM Dy hx9 → jSm fp_X12_why_r125 h0 hx9 → Q (some (.int v)) hx9) : ∀ (l1 : Int32) (l2 : Int32) (l3 : Int32) (l4 : Int32) (h : jH), 0 ≤ l1.toInt ∧ l1.toInt ≤ 599 → 0 ≤ l2.toInt ∧ l2.toInt ≤ 599 → 0 ≤ l3.toInt ∧ l3.toInt ≤ 6 → 0 ≤ l4.toInt ∧ l4.toInt ≤ 6 → jJ jSgM Dy h → jSm fp_X12_why_r125 h0 h → jX m_X12_why 6 0 0 145 [(0, .ref 125), (1, .int l1), (2, .int l2), (3, .int l3), (4, .int l4)] [] h 0 0 Q := by
  intro l1 l2 l3 l4 h y0 y1 y2 y3   J Sm
  refine x_iloadn (x := l3) rfl rfl ?_
  refine x_inst (N := m_X12_isWoman) (As := [.int l3]) (st := []) (dx9 := 1) (mc := 0) (ms := 0) (host := "") rfl t_X12_isWoman ⟨Or.inl q_12_344, s_X12_isWoman⟩ rfl (by decide) rfl rfl ⟨by decide, by decide⟩ (sf_X12_isWoman (jr_of rfl (by omega)) hD J  (fun v2 h ev2 J S1 => ?_))
  have Sm := jSm_tr rfl Sm S1
  show jX m_X12_why 6 0 0 149 [(0, .ref 125), (1, .int l1), (2, .int l2), (3, .int l3), (4, .int l4)] [.int v2] _ 0 0 _
  refine x_ifeq (tgt := 162) rfl rfl (ti_eq rfl jk_0 ⟨fun c3 => ?_, fun c3 => ?_⟩)
  ·
    exact jX.sub (jsb_c rfl (jsb_c rfl (jsb_c rfl jsb_n))) (ct_X12_why_r125_162 hD hQ  l1 l2 h (jr_of rfl (by omega)) (jr_of rfl (by omega)) J Sm)
  ·
    refine x_iload (x := l4) rfl rfl ?_
    refine x_inst (N := m_X12_isMan) (As := [.int l4]) (st := []) (dx9 := 1) (mc := 0) (ms := 0) (host := "") rfl t_X12_isMan ⟨Or.inl q_12_341, s_X12_isMan⟩ rfl (by decide) rfl rfl ⟨by decide, by decide⟩ (sf_X12_isMan (jr_of rfl (by omega)) hD J  (fun v5 h ev5 J S4 => ?_))
    have Sm := jSm_tr rfl Sm S4
    show jX m_X12_why 6 0 0 157 [(0, .ref 125), (1, .int l1), (2, .int l2), (3, .int l3), (4, .int l4)] [.int v5] _ 0 0 _
    refine x_ifeq (tgt := 162) rfl rfl (ti_eq rfl jk_0 ⟨fun c6 => ?_, fun c6 => ?_⟩)
    ·
      exact jX.sub (jsb_c rfl (jsb_c rfl (jsb_c rfl jsb_n))) (ct_X12_why_r125_162 hD hQ  l1 l2 h (jr_of rfl (by omega)) (jr_of rfl (by omega)) J Sm)
    ·
      exact jX.sub jsb_n (ct_X12_why_r125_160 hD hQ  h J Sm)
set_option maxRecDepth 100000 in
set_option maxHeartbeats 4000000 in
theorem ct_X12_why_r125_130 {Dy : jH → Prop} {h0 : jH} {Q : Option Value → jH → Prop} (hD : jDk Dy) (hQ : ∀ (v : Int32) hx9, 0 ≤ v.toInt ∧ v.toInt ≤ 7 → jJ jSgM Dy hx9 → jSm fp_X12_why_r125 h0 hx9 → Q (some (.int v)) hx9) : ∀ (l1 : Int32) (l2 : Int32) (l3 : Int32) (l4 : Int32) (h : jH), 0 ≤ l1.toInt ∧ l1.toInt ≤ 599 → 0 ≤ l2.toInt ∧ l2.toInt ≤ 599 → 0 ≤ l3.toInt ∧ l3.toInt ≤ 6 → 0 ≤ l4.toInt ∧ l4.toInt ≤ 6 → jJ jSgM Dy h → jSm fp_X12_why_r125 h0 h → jX m_X12_why 6 0 0 130 [(0, .ref 125), (1, .int l1), (2, .int l2), (3, .int l3), (4, .int l4)] [] h 0 0 Q := by
  intro l1 l2 l3 l4 h y0 y1 y2 y3   J Sm
  refine x_iloadn (x := l3) rfl rfl ?_
  refine x_inst (N := m_X12_isMan) (As := [.int l3]) (st := []) (dx9 := 1) (mc := 0) (ms := 0) (host := "") rfl t_X12_isMan ⟨Or.inl q_12_341, s_X12_isMan⟩ rfl (by decide) rfl rfl ⟨by decide, by decide⟩ (sf_X12_isMan (jr_of rfl (by omega)) hD J  (fun v2 h ev2 J S1 => ?_))
  have Sm := jSm_tr rfl Sm S1
  show jX m_X12_why 6 0 0 134 [(0, .ref 125), (1, .int l1), (2, .int l2), (3, .int l3), (4, .int l4)] [.int v2] _ 0 0 _
  refine x_ifeq (tgt := 145) rfl rfl (ti_eq rfl jk_0 ⟨fun c3 => ?_, fun c3 => ?_⟩)
  ·
    exact jX.sub (jsb_c rfl (jsb_c rfl (jsb_c rfl (jsb_c rfl (jsb_c rfl jsb_n))))) (ct_X12_why_r125_145 hD hQ  l1 l2 l3 l4 h (jr_of rfl (by omega)) (jr_of rfl (by omega)) (jr_of rfl (by omega)) (jr_of rfl (by omega)) J Sm)
  ·
    refine x_iload (x := l4) rfl rfl ?_
    refine x_inst (N := m_X12_isWoman) (As := [.int l4]) (st := []) (dx9 := 1) (mc := 0) (ms := 0) (host := "") rfl t_X12_isWoman ⟨Or.inl q_12_344, s_X12_isWoman⟩ rfl (by decide) rfl rfl ⟨by decide, by decide⟩ (sf_X12_isWoman (jr_of rfl (by omega)) hD J  (fun v5 h ev5 J S4 => ?_))
    have Sm := jSm_tr rfl Sm S4
    show jX m_X12_why 6 0 0 142 [(0, .ref 125), (1, .int l1), (2, .int l2), (3, .int l3), (4, .int l4)] [.int v5] _ 0 0 _
    refine x_ifne (tgt := 160) rfl rfl (ti_ne rfl jk_0 ⟨fun c6 => ?_, fun c6 => ?_⟩)
    ·
      exact jX.sub jsb_n (ct_X12_why_r125_160 hD hQ  h J Sm)
    ·
      exact jX.sub (jsb_c rfl (jsb_c rfl (jsb_c rfl (jsb_c rfl (jsb_c rfl jsb_n))))) (ct_X12_why_r125_145 hD hQ  l1 l2 l3 l4 h (jr_of rfl (by omega)) (jr_of rfl (by omega)) (jr_of rfl (by omega)) (jr_of rfl (by omega)) J Sm)
set_option maxRecDepth 100000 in
set_option maxHeartbeats 4000000 in
theorem ct_X12_why_r125_119 {Dy : jH → Prop} {h0 : jH} {Q : Option Value → jH → Prop} (hD : jDk Dy) (hQ : ∀ (v : Int32) hx9, 0 ≤ v.toInt ∧ v.toInt ≤ 7 → jJ jSgM Dy hx9 → jSm fp_X12_why_r125 h0 hx9 → Q (some (.int v)) hx9) : ∀ (l1 : Int32) (l2 : Int32) (l3 : Int32) (l4 : Int32) (h : jH), 0 ≤ l1.toInt ∧ l1.toInt ≤ 599 → 0 ≤ l2.toInt ∧ l2.toInt ≤ 599 → 0 ≤ l3.toInt ∧ l3.toInt ≤ 6 → 0 ≤ l4.toInt ∧ l4.toInt ≤ 6 → jJ jSgM Dy h → jSm fp_X12_why_r125 h0 h → jX m_X12_why 6 0 0 119 [(0, .ref 125), (1, .int l1), (2, .int l2), (3, .int l3), (4, .int l4)] [] h 0 0 Q := by
  intro l1 l2 l3 l4 h y0 y1 y2 y3   J Sm
  refine x_iloadn (x := l3) rfl rfl ?_
  refine x_iconst (v := 5) rfl ki_5 ?_
  refine x_icne (tgt := 130) rfl rfl (ti_ne rfl jk_5 ⟨fun c1 => ?_, fun c1 => ?_⟩)
  ·
    exact jX.sub (jsb_c rfl (jsb_c rfl (jsb_c rfl (jsb_c rfl (jsb_c rfl jsb_n))))) (ct_X12_why_r125_130 hD hQ  l1 l2 l3 l4 h (jr_of rfl (by omega)) (jr_of rfl (by omega)) (jr_of rfl (by omega)) (jr_of rfl (by omega)) J Sm)
  ·
    refine x_iload (x := l4) rfl rfl ?_
    refine x_iconst (v := 5) rfl ki_5 ?_
    refine x_iceq (tgt := 160) rfl rfl (ti_eq rfl jk_5 ⟨fun c2 => ?_, fun c2 => ?_⟩)
    ·
      exact jX.sub jsb_n (ct_X12_why_r125_160 hD hQ  h J Sm)
    ·
      exact jX.sub (jsb_c rfl (jsb_c rfl (jsb_c rfl (jsb_c rfl (jsb_c rfl jsb_n))))) (ct_X12_why_r125_130 hD hQ  l1 l2 l3 l4 h (jr_of rfl (by omega)) (jr_of rfl (by omega)) (jr_of rfl (by omega)) (jr_of rfl (by omega)) J Sm)
set_option maxRecDepth 100000 in
set_option maxHeartbeats 4000000 in
theorem ct_X12_why_r125_110 {Dy : jH → Prop} {h0 : jH} {Q : Option Value → jH → Prop} (hD : jDk Dy) (hQ : ∀ (v : Int32) hx9, 0 ≤ v.toInt ∧ v.toInt ≤ 7 → jJ jSgM Dy hx9 → jSm fp_X12_why_r125 h0 hx9 → Q (some (.int v)) hx9) : ∀ (l1 : Int32) (l2 : Int32) (l3 : Int32) (l4 : Int32) (h : jH), 0 ≤ l1.toInt ∧ l1.toInt ≤ 599 → 0 ≤ l2.toInt ∧ l2.toInt ≤ 599 → 0 ≤ l3.toInt ∧ l3.toInt ≤ 6 → 0 ≤ l4.toInt ∧ l4.toInt ≤ 6 → jJ jSgM Dy h → jSm fp_X12_why_r125 h0 h → jX m_X12_why 6 0 0 110 [(0, .ref 125), (1, .int l1), (2, .int l2), (3, .int l3), (4, .int l4)] [] h 0 0 Q := by
  intro l1 l2 l3 l4 h y0 y1 y2 y3   J Sm
  refine x_iloadn (x := l3) rfl rfl ?_
  refine x_ifne (tgt := 119) rfl rfl (ti_ne rfl jk_0 ⟨fun c1 => ?_, fun c1 => ?_⟩)
  ·
    exact jX.sub (jsb_c rfl (jsb_c rfl (jsb_c rfl (jsb_c rfl (jsb_c rfl jsb_n))))) (ct_X12_why_r125_119 hD hQ  l1 l2 l3 l4 h (jr_of rfl (by omega)) (jr_of rfl (by omega)) (jr_of rfl (by omega)) (jr_of rfl (by omega)) J Sm)
  ·
    refine x_iload (x := l4) rfl rfl ?_
    refine x_ifeq (tgt := 160) rfl rfl (ti_eq rfl jk_0 ⟨fun c2 => ?_, fun c2 => ?_⟩)
    ·
      exact jX.sub jsb_n (ct_X12_why_r125_160 hD hQ  h J Sm)
    ·
      exact jX.sub (jsb_c rfl (jsb_c rfl (jsb_c rfl (jsb_c rfl (jsb_c rfl jsb_n))))) (ct_X12_why_r125_119 hD hQ  l1 l2 l3 l4 h (jr_of rfl (by omega)) (jr_of rfl (by omega)) (jr_of rfl (by omega)) (jr_of rfl (by omega)) J Sm)
set_option maxRecDepth 100000 in
set_option maxHeartbeats 4000000 in
theorem ct_X12_why_r125_52 {Dy : jH → Prop} {h0 : jH} {Q : Option Value → jH → Prop} (hD : jDk Dy) (hQ : ∀ (v : Int32) hx9, 0 ≤ v.toInt ∧ v.toInt ≤ 7 → jJ jSgM Dy hx9 → jSm fp_X12_why_r125 h0 hx9 → Q (some (.int v)) hx9) : ∀ (l1 : Int32) (l2 : Int32) (h : jH), 0 ≤ l1.toInt ∧ l1.toInt ≤ 599 → 0 ≤ l2.toInt ∧ l2.toInt ≤ 599 → jJ jSgM Dy h → jSm fp_X12_why_r125 h0 h → jX m_X12_why 6 0 0 52 [(0, .ref 125), (1, .int l1), (2, .int l2)] [] h 0 0 Q := by
  intro l1 l2 h y0 y1   J Sm
  refine x_aloadn (x := 125) rfl rfl ?_
  refine x_iloadn (x := l1) rfl rfl ?_
  refine x_inv (N := m_X12_partOf) (As := [.int l1]) (b := 125) (st := []) (dx9 := 3) (mc := 0) (ms := 0) (host := "") 12 rfl t_X12_partOf ⟨Or.inl q_12_338, i_X12_partOf.1, i_X12_partOf.2⟩ ⟨by decide, rfl⟩ (congrArg Prod.fst (J.1.1 125 (12, 92) rfl)) rfl (by decide) rfl rfl ⟨by decide, by decide⟩ (sf_X12_partOf_r125 (jr_of rfl (by omega)) hD J  (fun v2 h ev2 J S1 => ?_))
  have Sm := jSm_tr rfl Sm S1
  show jX m_X12_why 6 0 0 57 [(0, .ref 125), (1, .int l1), (2, .int l2)] [.int v2] _ 0 0 _
  refine x_istoren (lsx9 := [(3, .int v2), (0, .ref 125), (1, .int l1), (2, .int l2)]) rfl rfl rfl ?_
  refine x_aloadn (x := 125) rfl rfl ?_
  refine x_iloadn (x := l2) rfl rfl ?_
  refine x_inv (N := m_X12_partOf) (As := [.int l2]) (b := 125) (st := []) (dx9 := 3) (mc := 0) (ms := 0) (host := "") 12 rfl t_X12_partOf ⟨Or.inl q_12_338, i_X12_partOf.1, i_X12_partOf.2⟩ ⟨by decide, rfl⟩ (congrArg Prod.fst (J.1.1 125 (12, 92) rfl)) rfl (by decide) rfl rfl ⟨by decide, by decide⟩ (sf_X12_partOf_r125 (jr_of rfl (by omega)) hD J  (fun v4 h ev4 J S3 => ?_))
  have Sm := jSm_tr rfl Sm S3
  show jX m_X12_why 6 0 0 63 [(3, .int v2), (0, .ref 125), (1, .int l1), (2, .int l2)] [.int v4] _ 0 0 _
  refine x_istore (lsx9 := [(4, .int v4), (3, .int v2), (0, .ref 125), (1, .int l1), (2, .int l2)]) rfl rfl rfl ?_
  refine x_aloadn (x := 125) rfl rfl ?_
  refine x_iloadn (x := l1) rfl rfl ?_
  refine x_iconst (v := 1) rfl ki_1 ?_
  refine x_inv (N := m_X12_isNamed) (As := [.int l1, .int 1]) (b := 125) (st := []) (dx9 := 5) (mc := 0) (ms := 0) (host := "") 12 rfl t_X12_isNamed ⟨Or.inl q_12_315, i_X12_isNamed.1, i_X12_isNamed.2⟩ ⟨by decide, rfl⟩ (congrArg Prod.fst (J.1.1 125 (12, 92) rfl)) rfl (by decide) rfl rfl ⟨by decide, by decide⟩ (jC.of rfl k_X12_isNamed rfl ?_)
  show jX m_X12_isNamed 5 0 0 0 [(0, .ref 125), (1, .int l1), (2, .int 1)] [] _ 0 0 _
  refine x_aloadn (x := 125) rfl rfl ?_
  refine z_getR (N := 92) (b := 126) 12 2 rfl f_12_8 rfl J rfl 16002 ⟨rfl, rfl⟩ rfl ?_
  refine x_aloadn (x := 125) rfl rfl ?_
  refine x_iloadn (x := l1) rfl rfl ?_
  refine x_iloadn (x := 1) rfl rfl ?_
  refine x_inv (N := m_X12_nameAt) (As := [.int l1, .int 1]) (b := 125) (st := [.ref 126]) (dx9 := 4) (mc := 0) (ms := 0) (host := "") 12 rfl t_X12_nameAt ⟨Or.inl q_12_311, i_X12_nameAt.1, i_X12_nameAt.2⟩ ⟨by decide, rfl⟩ (congrArg Prod.fst (J.1.1 125 (12, 92) rfl)) rfl (by decide) rfl rfl ⟨by decide, by decide⟩ (jC.of rfl k_X12_nameAt rfl ?_)
  show jX m_X12_nameAt 4 0 0 0 [(0, .ref 125), (1, .int l1), (2, .int 1)] [] _ 0 0 _
  refine x_aloadn (x := 125) rfl rfl ?_
  refine x_iloadn (x := l1) rfl rfl ?_
  refine x_iconst (v := 3) rfl ki_3 ?_
  refine z_idiv rfl rfl jk_3 (by omega) (by omega) (fun v5 ev5 => ?_)
  refine x_inv (N := m_X12_at) (As := [.int v5]) (b := 125) (st := []) (dx9 := 3) (mc := 0) (ms := 0) (host := "") 12 rfl t_X12_at ⟨Or.inl q_12_254, i_X12_at.1, i_X12_at.2⟩ ⟨by decide, rfl⟩ (congrArg Prod.fst (J.1.1 125 (12, 92) rfl)) rfl (by decide) rfl rfl ⟨by decide, by decide⟩ (jC.of rfl k_X12_at rfl ?_)
  show jX m_X12_at 3 0 0 0 [(0, .ref 125), (1, .int v5)] [] _ 0 0 _
  refine x_bipush (v := 20) rfl kb_20 ?_
  refine x_bipush (v := 90) rfl kb_90 ?_
  refine x_iloadn (x := v5) rfl rfl ?_
  refine z_imul rfl jk_90 rfl (by omega) (fun v6 ev6 => ?_)
  refine z_iadd rfl jk_20 rfl (by omega) (fun v7 ev7 => ?_)
  refine x_iret rfl rfl ?_
  show jX m_X12_nameAt 4 0 0 7 [(0, .ref 125), (1, .int l1), (2, .int 1)] [.int v7] _ 0 0 _
  refine x_bipush (v := 6) rfl kb_6 ?_
  refine z_iadd rfl rfl jk_6 (by omega) (fun v8 ev8 => ?_)
  refine x_bipush (v := 28) rfl kb_28 ?_
  refine x_iloadn (x := l1) rfl rfl ?_
  refine x_iconst (v := 3) rfl ki_3 ?_
  refine z_irem rfl rfl jk_3 (by omega) (by omega) (fun v9 ev9 => ?_)
  refine z_imul rfl jk_28 rfl (by omega) (fun v10 ev10 => ?_)
  refine z_iadd rfl rfl rfl (by omega) (fun v11 ev11 => ?_)
  refine x_bipush (v := 14) rfl kb_14 ?_
  refine x_iloadn (x := 1) rfl rfl ?_
  refine y_imul (v := 14) rfl (by decide) ?_
  refine z_iadd rfl rfl jk_14 (by omega) (fun v12 ev12 => ?_)
  have rnv12 := jnam (m := l1.toInt) (w := 1) (v := v12.toInt) (by omega) (by omega) (by omega)
  refine x_iret rfl rfl ?_
  show jX m_X12_isNamed 5 0 0 10 [(0, .ref 125), (1, .int l1), (2, .int 1)] [.int v12, .ref 126] _ 0 0 _
  refine z_ialdU (N := 50660) (lo := 0) (hi := 12) rfl J rfl rfl (by omega) ((show (v12.toInt - 20) % 90 = 20 ∨ (v12.toInt - 20) % 90 = 48 ∨ (v12.toInt - 20) % 90 = 76 from by omega).elim (fun q => (jrg_w (jrg_c J sg_126_20_18020_90_20_21 rfl (by omega)) (by decide))) (fun q => q.elim (fun q => (jrg_w (jrg_c J sg_126_20_18020_90_48_49 rfl (by omega)) (by decide))) (fun q => (jrg_w (jrg_c J sg_126_20_18020_90_76_77 rfl (by omega)) (by decide))))) (fun v13 qv13 ev13 => ?_)
  refine x_ifle (tgt := 18) rfl rfl (ti_le rfl jk_0 ⟨fun c14 => ?_, fun c14 => ?_⟩)
  ·
    refine x_iconst (v := 0) rfl ki_0 ?_
    refine x_zret rfl rfl (by decide) ?_
    show jX m_X12_why 6 0 0 71 [(4, .int v4), (3, .int v2), (0, .ref 125), (1, .int l1), (2, .int l2)] [.int 0] _ 0 0 _
    refine x_ifeq (tgt := 110) rfl rfl (ti_eq jk_0 jk_0 (br_t (by omega) ?_))
    exact jX.sub (jsb_c rfl (jsb_c rfl (jsb_c rfl (jsb_c rfl (jsb_c rfl jsb_n))))) (ct_X12_why_r125_110 hD hQ  l1 l2 v2 v4 h (jr_of rfl (by omega)) (jr_of rfl (by omega)) (jr_of rfl (by omega)) (jr_of rfl (by omega)) J Sm)
  ·
    refine x_iconst (v := 1) rfl ki_1 ?_
    refine x_goto (tgt := 19) rfl rfl ?_
    refine x_zret rfl rfl (by decide) ?_
    show jX m_X12_why 6 0 0 71 [(4, .int v4), (3, .int v2), (0, .ref 125), (1, .int l1), (2, .int l2)] [.int 1] _ 0 0 _
    refine x_ifeq (tgt := 110) rfl rfl (ti_eq jk_1 jk_0 (br_f (by omega) ?_))
    refine x_aloadn (x := 125) rfl rfl ?_
    refine x_iloadn (x := l2) rfl rfl ?_
    refine x_iconst (v := 1) rfl ki_1 ?_
    refine x_inv (N := m_X12_isNamed) (As := [.int l2, .int 1]) (b := 125) (st := []) (dx9 := 5) (mc := 0) (ms := 0) (host := "") 12 rfl t_X12_isNamed ⟨Or.inl q_12_315, i_X12_isNamed.1, i_X12_isNamed.2⟩ ⟨by decide, rfl⟩ (congrArg Prod.fst (J.1.1 125 (12, 92) rfl)) rfl (by decide) rfl rfl ⟨by decide, by decide⟩ (jC.of rfl k_X12_isNamed rfl ?_)
    show jX m_X12_isNamed 5 0 0 0 [(0, .ref 125), (1, .int l2), (2, .int 1)] [] _ 0 0 _
    refine x_aloadn (x := 125) rfl rfl ?_
    refine z_getR (N := 92) (b := 126) 12 2 rfl f_12_8 rfl J rfl 16002 ⟨rfl, rfl⟩ rfl ?_
    refine x_aloadn (x := 125) rfl rfl ?_
    refine x_iloadn (x := l2) rfl rfl ?_
    refine x_iloadn (x := 1) rfl rfl ?_
    refine x_inv (N := m_X12_nameAt) (As := [.int l2, .int 1]) (b := 125) (st := [.ref 126]) (dx9 := 4) (mc := 0) (ms := 0) (host := "") 12 rfl t_X12_nameAt ⟨Or.inl q_12_311, i_X12_nameAt.1, i_X12_nameAt.2⟩ ⟨by decide, rfl⟩ (congrArg Prod.fst (J.1.1 125 (12, 92) rfl)) rfl (by decide) rfl rfl ⟨by decide, by decide⟩ (jC.of rfl k_X12_nameAt rfl ?_)
    show jX m_X12_nameAt 4 0 0 0 [(0, .ref 125), (1, .int l2), (2, .int 1)] [] _ 0 0 _
    refine x_aloadn (x := 125) rfl rfl ?_
    refine x_iloadn (x := l2) rfl rfl ?_
    refine x_iconst (v := 3) rfl ki_3 ?_
    refine z_idiv rfl rfl jk_3 (by omega) (by omega) (fun v15 ev15 => ?_)
    refine x_inv (N := m_X12_at) (As := [.int v15]) (b := 125) (st := []) (dx9 := 3) (mc := 0) (ms := 0) (host := "") 12 rfl t_X12_at ⟨Or.inl q_12_254, i_X12_at.1, i_X12_at.2⟩ ⟨by decide, rfl⟩ (congrArg Prod.fst (J.1.1 125 (12, 92) rfl)) rfl (by decide) rfl rfl ⟨by decide, by decide⟩ (jC.of rfl k_X12_at rfl ?_)
    show jX m_X12_at 3 0 0 0 [(0, .ref 125), (1, .int v15)] [] _ 0 0 _
    refine x_bipush (v := 20) rfl kb_20 ?_
    refine x_bipush (v := 90) rfl kb_90 ?_
    refine x_iloadn (x := v15) rfl rfl ?_
    refine z_imul rfl jk_90 rfl (by omega) (fun v16 ev16 => ?_)
    refine z_iadd rfl jk_20 rfl (by omega) (fun v17 ev17 => ?_)
    refine x_iret rfl rfl ?_
    show jX m_X12_nameAt 4 0 0 7 [(0, .ref 125), (1, .int l2), (2, .int 1)] [.int v17] _ 0 0 _
    refine x_bipush (v := 6) rfl kb_6 ?_
    refine z_iadd rfl rfl jk_6 (by omega) (fun v18 ev18 => ?_)
    refine x_bipush (v := 28) rfl kb_28 ?_
    refine x_iloadn (x := l2) rfl rfl ?_
    refine x_iconst (v := 3) rfl ki_3 ?_
    refine z_irem rfl rfl jk_3 (by omega) (by omega) (fun v19 ev19 => ?_)
    refine z_imul rfl jk_28 rfl (by omega) (fun v20 ev20 => ?_)
    refine z_iadd rfl rfl rfl (by omega) (fun v21 ev21 => ?_)
    refine x_bipush (v := 14) rfl kb_14 ?_
    refine x_iloadn (x := 1) rfl rfl ?_
    refine y_imul (v := 14) rfl (by decide) ?_
    refine z_iadd rfl rfl jk_14 (by omega) (fun v22 ev22 => ?_)
    have rnv22 := jnam (m := l2.toInt) (w := 1) (v := v22.toInt) (by omega) (by omega) (by omega)
    refine x_iret rfl rfl ?_
    show jX m_X12_isNamed 5 0 0 10 [(0, .ref 125), (1, .int l2), (2, .int 1)] [.int v22, .ref 126] _ 0 0 _
    refine z_ialdU (N := 50660) (lo := 0) (hi := 12) rfl J rfl rfl (by omega) ((show (v22.toInt - 20) % 90 = 20 ∨ (v22.toInt - 20) % 90 = 48 ∨ (v22.toInt - 20) % 90 = 76 from by omega).elim (fun q => (jrg_w (jrg_c J sg_126_20_18020_90_20_21 rfl (by omega)) (by decide))) (fun q => q.elim (fun q => (jrg_w (jrg_c J sg_126_20_18020_90_48_49 rfl (by omega)) (by decide))) (fun q => (jrg_w (jrg_c J sg_126_20_18020_90_76_77 rfl (by omega)) (by decide))))) (fun v23 qv23 ev23 => ?_)
    refine x_ifle (tgt := 18) rfl rfl (ti_le rfl jk_0 ⟨fun c24 => ?_, fun c24 => ?_⟩)
    ·
      refine x_iconst (v := 0) rfl ki_0 ?_
      refine x_zret rfl rfl (by decide) ?_
      show jX m_X12_why 6 0 0 80 [(4, .int v4), (3, .int v2), (0, .ref 125), (1, .int l1), (2, .int l2)] [.int 0] _ 0 0 _
      refine x_ifeq (tgt := 110) rfl rfl (ti_eq jk_0 jk_0 (br_t (by omega) ?_))
      exact jX.sub (jsb_c rfl (jsb_c rfl (jsb_c rfl (jsb_c rfl (jsb_c rfl jsb_n))))) (ct_X12_why_r125_110 hD hQ  l1 l2 v2 v4 h (jr_of rfl (by omega)) (jr_of rfl (by omega)) (jr_of rfl (by omega)) (jr_of rfl (by omega)) J Sm)
    ·
      refine x_iconst (v := 1) rfl ki_1 ?_
      refine x_goto (tgt := 19) rfl rfl ?_
      refine x_zret rfl rfl (by decide) ?_
      show jX m_X12_why 6 0 0 80 [(4, .int v4), (3, .int v2), (0, .ref 125), (1, .int l1), (2, .int l2)] [.int 1] _ 0 0 _
      refine x_ifeq (tgt := 110) rfl rfl (ti_eq jk_1 jk_0 (br_f (by omega) ?_))
      refine x_iloadn (x := v2) rfl rfl ?_
      refine x_inst (N := m_X12_isWoman) (As := [.int v2]) (st := []) (dx9 := 1) (mc := 0) (ms := 0) (host := "") rfl t_X12_isWoman ⟨Or.inl q_12_344, s_X12_isWoman⟩ rfl (by decide) rfl rfl ⟨by decide, by decide⟩ (sf_X12_isWoman (jr_of rfl (by omega)) hD J  (fun v26 h ev26 J S25 => ?_))
      have Sm := jSm_tr rfl Sm S25
      show jX m_X12_why 6 0 0 87 [(4, .int v4), (3, .int v2), (0, .ref 125), (1, .int l1), (2, .int l2)] [.int v26] _ 0 0 _
      refine x_ifne (tgt := 110) rfl rfl (ti_ne rfl jk_0 ⟨fun c27 => ?_, fun c27 => ?_⟩)
      ·
        exact jX.sub (jsb_c rfl (jsb_c rfl (jsb_c rfl (jsb_c rfl (jsb_c rfl jsb_n))))) (ct_X12_why_r125_110 hD hQ  l1 l2 v2 v4 h (jr_of rfl (by omega)) (jr_of rfl (by omega)) (jr_of rfl (by omega)) (jr_of rfl (by omega)) J Sm)
      ·
        refine x_iload (x := v4) rfl rfl ?_
        refine x_inst (N := m_X12_isWoman) (As := [.int v4]) (st := []) (dx9 := 1) (mc := 0) (ms := 0) (host := "") rfl t_X12_isWoman ⟨Or.inl q_12_344, s_X12_isWoman⟩ rfl (by decide) rfl rfl ⟨by decide, by decide⟩ (sf_X12_isWoman (jr_of rfl (by omega)) hD J  (fun v29 h ev29 J S28 => ?_))
        have Sm := jSm_tr rfl Sm S28
        show jX m_X12_why 6 0 0 95 [(4, .int v4), (3, .int v2), (0, .ref 125), (1, .int l1), (2, .int l2)] [.int v29] _ 0 0 _
        refine x_ifne (tgt := 110) rfl rfl (ti_ne rfl jk_0 ⟨fun c30 => ?_, fun c30 => ?_⟩)
        ·
          exact jX.sub (jsb_c rfl (jsb_c rfl (jsb_c rfl (jsb_c rfl (jsb_c rfl jsb_n))))) (ct_X12_why_r125_110 hD hQ  l1 l2 v2 v4 h (jr_of rfl (by omega)) (jr_of rfl (by omega)) (jr_of rfl (by omega)) (jr_of rfl (by omega)) J Sm)
        ·
          refine x_aloadn (x := 125) rfl rfl ?_
          refine x_iloadn (x := l1) rfl rfl ?_
          refine x_iloadn (x := l2) rfl rfl ?_
          refine x_iconst (v := 1) rfl ki_1 ?_
          refine x_inv (N := m_X12_areAlike) (As := [.int l1, .int l2, .int 1]) (b := 125) (st := []) (dx9 := 4) (mc := 0) (ms := 0) (host := "") 12 rfl t_X12_areAlike ⟨Or.inl q_12_358, i_X12_areAlike.1, i_X12_areAlike.2⟩ ⟨by decide, rfl⟩ (congrArg Prod.fst (J.1.1 125 (12, 92) rfl)) rfl (by decide) rfl rfl ⟨by decide, by decide⟩ (sf_X12_areAlike_r125 (jr_of rfl (by omega)) (jr_of rfl (by omega)) (jr_of jk_1 (by omega)) hD J  (fun v32 h ev32 J S31 => ?_))
          have Sm := jSm_tr rfl Sm S31
          show jX m_X12_why 6 0 0 105 [(4, .int v4), (3, .int v2), (0, .ref 125), (1, .int l1), (2, .int l2)] [.int v32] _ 0 0 _
          refine x_ifne (tgt := 110) rfl rfl (ti_ne rfl jk_0 ⟨fun c33 => ?_, fun c33 => ?_⟩)
          ·
            exact jX.sub (jsb_c rfl (jsb_c rfl (jsb_c rfl (jsb_c rfl (jsb_c rfl jsb_n))))) (ct_X12_why_r125_110 hD hQ  l1 l2 v2 v4 h (jr_of rfl (by omega)) (jr_of rfl (by omega)) (jr_of rfl (by omega)) (jr_of rfl (by omega)) J Sm)
          ·
            refine x_iconst (v := 4) rfl ki_4 ?_
            refine x_iret rfl rfl ?_
            exact hQ _ _ (jr_of jk_4 (by omega)) J Sm
set_option maxRecDepth 100000 in
set_option maxHeartbeats 4000000 in
theorem sf_X12_why_r125 {Dy : jH → Prop} {h : jH} {Q : Option Value → jH → Prop} {a1 : Int32} {a2 : Int32} (y1 : 0 ≤ a1.toInt ∧ a1.toInt ≤ 599) (y2 : 0 ≤ a2.toInt ∧ a2.toInt ≤ 599) (hD : jDk Dy) (J : jJ jSgM Dy h) (hQ : ∀ (v : Int32) hx9, 0 ≤ v.toInt ∧ v.toInt ≤ 7 → jJ jSgM Dy hx9 → jSm fp_X12_why_r125 h hx9 → Q (some (.int v)) hx9) : jC m_X12_why 6 0 0 [.ref 125, .int a1, .int a2] h Q := by
  refine jC.of rfl k_X12_why rfl ?_
  have Sm := jSm_rf fp_X12_why_r125 h
  show jX m_X12_why 6 0 0 0 [(0, .ref 125), (1, .int a1), (2, .int a2)] [] _ 0 0 _
  refine x_iloadn (x := a1) rfl rfl ?_
  refine x_iconst (v := 3) rfl ki_3 ?_
  refine z_idiv rfl rfl jk_3 (by omega) (by omega) (fun v1 ev1 => ?_)
  refine x_iloadn (x := a2) rfl rfl ?_
  refine x_iconst (v := 3) rfl ki_3 ?_
  refine z_idiv rfl rfl jk_3 (by omega) (by omega) (fun v2 ev2 => ?_)
  refine x_icne (tgt := 11) rfl rfl (ti_ne rfl rfl ⟨fun c3 => ?_, fun c3 => ?_⟩)
  ·
    refine x_aloadn (x := 125) rfl rfl ?_
    refine x_iloadn (x := a1) rfl rfl ?_
    refine x_iloadn (x := a2) rfl rfl ?_
    refine x_inv (N := m_X12_areApart) (As := [.int a1, .int a2]) (b := 125) (st := []) (dx9 := 1) (mc := 0) (ms := 0) (host := "") 12 rfl t_X12_areApart ⟨Or.inl q_12_355, i_X12_areApart.1, i_X12_areApart.2⟩ ⟨by decide, rfl⟩ (congrArg Prod.fst (J.1.1 125 (12, 92) rfl)) rfl (by decide) rfl rfl ⟨by decide, by decide⟩ (sf_X12_areApart_r125 (jr_of rfl (by omega)) (jr_of rfl (by omega)) hD J  (fun v5 h ev5 J S4 => ?_))
    have Sm := jSm_tr rfl Sm S4
    show jX m_X12_why 6 0 0 17 [(0, .ref 125), (1, .int a1), (2, .int a2)] [.int v5] _ 0 0 _
    refine x_ifeq (tgt := 22) rfl rfl (ti_eq rfl jk_0 ⟨fun c6 => ?_, fun c6 => ?_⟩)
    ·
      refine x_aloadn (x := 125) rfl rfl ?_
      refine x_iloadn (x := a1) rfl rfl ?_
      refine x_iconst (v := 0) rfl ki_0 ?_
      refine x_inv (N := m_X12_isNamed) (As := [.int a1, .int 0]) (b := 125) (st := []) (dx9 := 5) (mc := 0) (ms := 0) (host := "") 12 rfl t_X12_isNamed ⟨Or.inl q_12_315, i_X12_isNamed.1, i_X12_isNamed.2⟩ ⟨by decide, rfl⟩ (congrArg Prod.fst (J.1.1 125 (12, 92) rfl)) rfl (by decide) rfl rfl ⟨by decide, by decide⟩ (jC.of rfl k_X12_isNamed rfl ?_)
      show jX m_X12_isNamed 5 0 0 0 [(0, .ref 125), (1, .int a1), (2, .int 0)] [] _ 0 0 _
      refine x_aloadn (x := 125) rfl rfl ?_
      refine z_getR (N := 92) (b := 126) 12 2 rfl f_12_8 rfl J rfl 16002 ⟨rfl, rfl⟩ rfl ?_
      refine x_aloadn (x := 125) rfl rfl ?_
      refine x_iloadn (x := a1) rfl rfl ?_
      refine x_iloadn (x := 0) rfl rfl ?_
      refine x_inv (N := m_X12_nameAt) (As := [.int a1, .int 0]) (b := 125) (st := [.ref 126]) (dx9 := 4) (mc := 0) (ms := 0) (host := "") 12 rfl t_X12_nameAt ⟨Or.inl q_12_311, i_X12_nameAt.1, i_X12_nameAt.2⟩ ⟨by decide, rfl⟩ (congrArg Prod.fst (J.1.1 125 (12, 92) rfl)) rfl (by decide) rfl rfl ⟨by decide, by decide⟩ (jC.of rfl k_X12_nameAt rfl ?_)
      show jX m_X12_nameAt 4 0 0 0 [(0, .ref 125), (1, .int a1), (2, .int 0)] [] _ 0 0 _
      refine x_aloadn (x := 125) rfl rfl ?_
      refine x_iloadn (x := a1) rfl rfl ?_
      refine x_iconst (v := 3) rfl ki_3 ?_
      refine z_idiv rfl rfl jk_3 (by omega) (by omega) (fun v7 ev7 => ?_)
      refine x_inv (N := m_X12_at) (As := [.int v7]) (b := 125) (st := []) (dx9 := 3) (mc := 0) (ms := 0) (host := "") 12 rfl t_X12_at ⟨Or.inl q_12_254, i_X12_at.1, i_X12_at.2⟩ ⟨by decide, rfl⟩ (congrArg Prod.fst (J.1.1 125 (12, 92) rfl)) rfl (by decide) rfl rfl ⟨by decide, by decide⟩ (jC.of rfl k_X12_at rfl ?_)
      show jX m_X12_at 3 0 0 0 [(0, .ref 125), (1, .int v7)] [] _ 0 0 _
      refine x_bipush (v := 20) rfl kb_20 ?_
      refine x_bipush (v := 90) rfl kb_90 ?_
      refine x_iloadn (x := v7) rfl rfl ?_
      refine z_imul rfl jk_90 rfl (by omega) (fun v8 ev8 => ?_)
      refine z_iadd rfl jk_20 rfl (by omega) (fun v9 ev9 => ?_)
      refine x_iret rfl rfl ?_
      show jX m_X12_nameAt 4 0 0 7 [(0, .ref 125), (1, .int a1), (2, .int 0)] [.int v9] _ 0 0 _
      refine x_bipush (v := 6) rfl kb_6 ?_
      refine z_iadd rfl rfl jk_6 (by omega) (fun v10 ev10 => ?_)
      refine x_bipush (v := 28) rfl kb_28 ?_
      refine x_iloadn (x := a1) rfl rfl ?_
      refine x_iconst (v := 3) rfl ki_3 ?_
      refine z_irem rfl rfl jk_3 (by omega) (by omega) (fun v11 ev11 => ?_)
      refine z_imul rfl jk_28 rfl (by omega) (fun v12 ev12 => ?_)
      refine z_iadd rfl rfl rfl (by omega) (fun v13 ev13 => ?_)
      refine x_bipush (v := 14) rfl kb_14 ?_
      refine x_iloadn (x := 0) rfl rfl ?_
      refine y_imul (v := 0) rfl (by decide) ?_
      refine z_iadd rfl rfl jk_0 (by omega) (fun v14 ev14 => ?_)
      have rnv14 := jnam (m := a1.toInt) (w := 0) (v := v14.toInt) (by omega) (by omega) (by omega)
      refine x_iret rfl rfl ?_
      show jX m_X12_isNamed 5 0 0 10 [(0, .ref 125), (1, .int a1), (2, .int 0)] [.int v14, .ref 126] _ 0 0 _
      refine z_ialdU (N := 50660) (lo := 0) (hi := 12) rfl J rfl rfl (by omega) ((show (v14.toInt - 20) % 90 = 6 ∨ (v14.toInt - 20) % 90 = 34 ∨ (v14.toInt - 20) % 90 = 62 from by omega).elim (fun q => (jrg_w (jrg_c J sg_126_20_18020_90_6_7 rfl (by omega)) (by decide))) (fun q => q.elim (fun q => (jrg_w (jrg_c J sg_126_20_18020_90_34_35 rfl (by omega)) (by decide))) (fun q => (jrg_w (jrg_c J sg_126_20_18020_90_62_63 rfl (by omega)) (by decide))))) (fun v15 qv15 ev15 => ?_)
      refine x_ifle (tgt := 18) rfl rfl (ti_le rfl jk_0 ⟨fun c16 => ?_, fun c16 => ?_⟩)
      ·
        refine x_iconst (v := 0) rfl ki_0 ?_
        refine x_zret rfl rfl (by decide) ?_
        show jX m_X12_why 6 0 0 28 [(0, .ref 125), (1, .int a1), (2, .int a2)] [.int 0] _ 0 0 _
        refine x_ifeq (tgt := 52) rfl rfl (ti_eq jk_0 jk_0 (br_t (by omega) ?_))
        exact jX.sub (jsb_c rfl (jsb_c rfl (jsb_c rfl jsb_n))) (ct_X12_why_r125_52 hD hQ  a1 a2 h (jr_of rfl (by omega)) (jr_of rfl (by omega)) J Sm)
      ·
        refine x_iconst (v := 1) rfl ki_1 ?_
        refine x_goto (tgt := 19) rfl rfl ?_
        refine x_zret rfl rfl (by decide) ?_
        show jX m_X12_why 6 0 0 28 [(0, .ref 125), (1, .int a1), (2, .int a2)] [.int 1] _ 0 0 _
        refine x_ifeq (tgt := 52) rfl rfl (ti_eq jk_1 jk_0 (br_f (by omega) ?_))
        refine x_aloadn (x := 125) rfl rfl ?_
        refine x_iloadn (x := a2) rfl rfl ?_
        refine x_iconst (v := 0) rfl ki_0 ?_
        refine x_inv (N := m_X12_isNamed) (As := [.int a2, .int 0]) (b := 125) (st := []) (dx9 := 5) (mc := 0) (ms := 0) (host := "") 12 rfl t_X12_isNamed ⟨Or.inl q_12_315, i_X12_isNamed.1, i_X12_isNamed.2⟩ ⟨by decide, rfl⟩ (congrArg Prod.fst (J.1.1 125 (12, 92) rfl)) rfl (by decide) rfl rfl ⟨by decide, by decide⟩ (jC.of rfl k_X12_isNamed rfl ?_)
        show jX m_X12_isNamed 5 0 0 0 [(0, .ref 125), (1, .int a2), (2, .int 0)] [] _ 0 0 _
        refine x_aloadn (x := 125) rfl rfl ?_
        refine z_getR (N := 92) (b := 126) 12 2 rfl f_12_8 rfl J rfl 16002 ⟨rfl, rfl⟩ rfl ?_
        refine x_aloadn (x := 125) rfl rfl ?_
        refine x_iloadn (x := a2) rfl rfl ?_
        refine x_iloadn (x := 0) rfl rfl ?_
        refine x_inv (N := m_X12_nameAt) (As := [.int a2, .int 0]) (b := 125) (st := [.ref 126]) (dx9 := 4) (mc := 0) (ms := 0) (host := "") 12 rfl t_X12_nameAt ⟨Or.inl q_12_311, i_X12_nameAt.1, i_X12_nameAt.2⟩ ⟨by decide, rfl⟩ (congrArg Prod.fst (J.1.1 125 (12, 92) rfl)) rfl (by decide) rfl rfl ⟨by decide, by decide⟩ (jC.of rfl k_X12_nameAt rfl ?_)
        show jX m_X12_nameAt 4 0 0 0 [(0, .ref 125), (1, .int a2), (2, .int 0)] [] _ 0 0 _
        refine x_aloadn (x := 125) rfl rfl ?_
        refine x_iloadn (x := a2) rfl rfl ?_
        refine x_iconst (v := 3) rfl ki_3 ?_
        refine z_idiv rfl rfl jk_3 (by omega) (by omega) (fun v17 ev17 => ?_)
        refine x_inv (N := m_X12_at) (As := [.int v17]) (b := 125) (st := []) (dx9 := 3) (mc := 0) (ms := 0) (host := "") 12 rfl t_X12_at ⟨Or.inl q_12_254, i_X12_at.1, i_X12_at.2⟩ ⟨by decide, rfl⟩ (congrArg Prod.fst (J.1.1 125 (12, 92) rfl)) rfl (by decide) rfl rfl ⟨by decide, by decide⟩ (jC.of rfl k_X12_at rfl ?_)
        show jX m_X12_at 3 0 0 0 [(0, .ref 125), (1, .int v17)] [] _ 0 0 _
        refine x_bipush (v := 20) rfl kb_20 ?_
        refine x_bipush (v := 90) rfl kb_90 ?_
        refine x_iloadn (x := v17) rfl rfl ?_
        refine z_imul rfl jk_90 rfl (by omega) (fun v18 ev18 => ?_)
        refine z_iadd rfl jk_20 rfl (by omega) (fun v19 ev19 => ?_)
        refine x_iret rfl rfl ?_
        show jX m_X12_nameAt 4 0 0 7 [(0, .ref 125), (1, .int a2), (2, .int 0)] [.int v19] _ 0 0 _
        refine x_bipush (v := 6) rfl kb_6 ?_
        refine z_iadd rfl rfl jk_6 (by omega) (fun v20 ev20 => ?_)
        refine x_bipush (v := 28) rfl kb_28 ?_
        refine x_iloadn (x := a2) rfl rfl ?_
        refine x_iconst (v := 3) rfl ki_3 ?_
        refine z_irem rfl rfl jk_3 (by omega) (by omega) (fun v21 ev21 => ?_)
        refine z_imul rfl jk_28 rfl (by omega) (fun v22 ev22 => ?_)
        refine z_iadd rfl rfl rfl (by omega) (fun v23 ev23 => ?_)
        refine x_bipush (v := 14) rfl kb_14 ?_
        refine x_iloadn (x := 0) rfl rfl ?_
        refine y_imul (v := 0) rfl (by decide) ?_
        refine z_iadd rfl rfl jk_0 (by omega) (fun v24 ev24 => ?_)
        have rnv24 := jnam (m := a2.toInt) (w := 0) (v := v24.toInt) (by omega) (by omega) (by omega)
        refine x_iret rfl rfl ?_
        show jX m_X12_isNamed 5 0 0 10 [(0, .ref 125), (1, .int a2), (2, .int 0)] [.int v24, .ref 126] _ 0 0 _
        refine z_ialdU (N := 50660) (lo := 0) (hi := 12) rfl J rfl rfl (by omega) ((show (v24.toInt - 20) % 90 = 6 ∨ (v24.toInt - 20) % 90 = 34 ∨ (v24.toInt - 20) % 90 = 62 from by omega).elim (fun q => (jrg_w (jrg_c J sg_126_20_18020_90_6_7 rfl (by omega)) (by decide))) (fun q => q.elim (fun q => (jrg_w (jrg_c J sg_126_20_18020_90_34_35 rfl (by omega)) (by decide))) (fun q => (jrg_w (jrg_c J sg_126_20_18020_90_62_63 rfl (by omega)) (by decide))))) (fun v25 qv25 ev25 => ?_)
        refine x_ifle (tgt := 18) rfl rfl (ti_le rfl jk_0 ⟨fun c26 => ?_, fun c26 => ?_⟩)
        ·
          refine x_iconst (v := 0) rfl ki_0 ?_
          refine x_zret rfl rfl (by decide) ?_
          show jX m_X12_why 6 0 0 37 [(0, .ref 125), (1, .int a1), (2, .int a2)] [.int 0] _ 0 0 _
          refine x_ifeq (tgt := 52) rfl rfl (ti_eq jk_0 jk_0 (br_t (by omega) ?_))
          exact jX.sub (jsb_c rfl (jsb_c rfl (jsb_c rfl jsb_n))) (ct_X12_why_r125_52 hD hQ  a1 a2 h (jr_of rfl (by omega)) (jr_of rfl (by omega)) J Sm)
        ·
          refine x_iconst (v := 1) rfl ki_1 ?_
          refine x_goto (tgt := 19) rfl rfl ?_
          refine x_zret rfl rfl (by decide) ?_
          show jX m_X12_why 6 0 0 37 [(0, .ref 125), (1, .int a1), (2, .int a2)] [.int 1] _ 0 0 _
          refine x_ifeq (tgt := 52) rfl rfl (ti_eq jk_1 jk_0 (br_f (by omega) ?_))
          refine x_aloadn (x := 125) rfl rfl ?_
          refine x_iloadn (x := a1) rfl rfl ?_
          refine x_iloadn (x := a2) rfl rfl ?_
          refine x_iconst (v := 0) rfl ki_0 ?_
          refine x_inv (N := m_X12_areAlike) (As := [.int a1, .int a2, .int 0]) (b := 125) (st := []) (dx9 := 4) (mc := 0) (ms := 0) (host := "") 12 rfl t_X12_areAlike ⟨Or.inl q_12_358, i_X12_areAlike.1, i_X12_areAlike.2⟩ ⟨by decide, rfl⟩ (congrArg Prod.fst (J.1.1 125 (12, 92) rfl)) rfl (by decide) rfl rfl ⟨by decide, by decide⟩ (sf_X12_areAlike_r125 (jr_of rfl (by omega)) (jr_of rfl (by omega)) (jr_of jk_0 (by omega)) hD J  (fun v28 h ev28 J S27 => ?_))
          have Sm := jSm_tr rfl Sm S27
          show jX m_X12_why 6 0 0 47 [(0, .ref 125), (1, .int a1), (2, .int a2)] [.int v28] _ 0 0 _
          refine x_ifne (tgt := 52) rfl rfl (ti_ne rfl jk_0 ⟨fun c29 => ?_, fun c29 => ?_⟩)
          ·
            exact jX.sub (jsb_c rfl (jsb_c rfl (jsb_c rfl jsb_n))) (ct_X12_why_r125_52 hD hQ  a1 a2 h (jr_of rfl (by omega)) (jr_of rfl (by omega)) J Sm)
          ·
            refine x_iconst (v := 3) rfl ki_3 ?_
            refine x_iret rfl rfl ?_
            exact hQ _ _ (jr_of jk_3 (by omega)) J Sm
    ·
      refine x_iconst (v := 2) rfl ki_2 ?_
      refine x_iret rfl rfl ?_
      exact hQ _ _ (jr_of jk_2 (by omega)) J Sm
  ·
    refine x_iconst (v := 1) rfl ki_1 ?_
    refine x_iret rfl rfl ?_
    exact hQ _ _ (jr_of jk_1 (by omega)) J Sm
def fp_X12_canJoin_r125 : jFp := [(137, 0, 80), (138, 0, 2)]
set_option maxRecDepth 100000 in
set_option maxHeartbeats 4000000 in
theorem ct_X12_canJoin_r125_91 {Dy : jH → Prop} {h0 : jH} {Q : Option Value → jH → Prop} (hD : jDk Dy) (hQ : ∀ (v : Int32) hx9, 0 ≤ v.toInt ∧ v.toInt ≤ 1 → jJ jSgM Dy hx9 → jSm fp_X12_canJoin_r125 h0 hx9 → Q (some (.int v)) hx9) : ∀ (l3 : Int32) (h : jH), 0 ≤ l3.toInt ∧ l3.toInt ≤ 1 → jJ jSgM Dy h → jSm fp_X12_canJoin_r125 h0 h → jX m_X12_canJoin 7 0 0 91 [(3, .int l3)] [] h 0 0 Q := by
  intro l3 h y0   J Sm
  refine x_iloadn (x := l3) rfl rfl ?_
  refine x_zret rfl rfl (jz01 (by omega)) ?_
  exact hQ _ _ (jr_of rfl (by omega)) J Sm
set_option maxRecDepth 100000 in
set_option maxHeartbeats 4000000 in
theorem ct_X12_canJoin_r125_85 {Dy : jH → Prop} {h0 : jH} {Q : Option Value → jH → Prop} {R15 : Int} (hD : jDk Dy) (hQ : ∀ (v : Int32) hx9, 0 ≤ v.toInt ∧ v.toInt ≤ 1 → jJ jSgM Dy hx9 → jSm fp_X12_canJoin_r125 h0 hx9 → Q (some (.int v)) hx9) (k15 : ∀ (l1 : Int32) (l2 : Int32) (l3 : Int32) (l4 : Int32) (l5 : Int32) (h : jH), 600 - l5.toInt < R15 → 0 ≤ l1.toInt ∧ l1.toInt ≤ 599 → 0 ≤ l2.toInt ∧ l2.toInt ≤ 599 → 0 ≤ l3.toInt ∧ l3.toInt ≤ 1 → 0 ≤ l4.toInt ∧ l4.toInt ≤ 600 → l4.toInt % 3 = 0 → 0 ≤ l5.toInt ∧ l5.toInt ≤ 600 → jJ jSgM Dy h → jSm fp_X12_canJoin_r125 h0 h → jX m_X12_canJoin 7 0 0 15 [(0, .ref 125), (1, .int l1), (2, .int l2), (3, .int l3), (4, .int l4), (5, .int l5)] [] h 0 0 Q) : ∀ (l1 : Int32) (l2 : Int32) (l3 : Int32) (l4 : Int32) (l5 : Int32) (h : jH), 0 ≤ l1.toInt ∧ l1.toInt ≤ 599 → 0 ≤ l2.toInt ∧ l2.toInt ≤ 599 → 0 ≤ l3.toInt ∧ l3.toInt ≤ 1 → 3 ≤ l4.toInt ∧ l4.toInt ≤ 600 → l4.toInt % 3 = 0 → 0 ≤ l5.toInt ∧ l5.toInt ≤ 599 → 600 - l5.toInt ≤ R15 → jJ jSgM Dy h → jSm fp_X12_canJoin_r125 h0 h → jX m_X12_canJoin 7 0 0 85 [(0, .ref 125), (1, .int l1), (2, .int l2), (3, .int l3), (4, .int l4), (5, .int l5)] [] h 0 0 Q := by
  intro l1 l2 l3 l4 l5 h y0 y1 y2 y3 y4 y5  m15 J Sm
  refine z_iinc (x := l5) (lsx9 := fun v1 => [(5, .int v1), (0, .ref 125), (1, .int l1), (2, .int l2), (3, .int l3), (4, .int l4)]) rfl rfl rfl jko_1 (by omega) rfl (fun _ => rfl) (fun v1 ev1 => ?_)
  refine x_goto (tgt := 15) rfl rfl ?_
  exact jX.sub (jsb_c rfl (jsb_c rfl (jsb_c rfl (jsb_c rfl (jsb_c rfl (jsb_c rfl jsb_n)))))) (k15 l1 l2 l3 l4 v1 h (by omega) (jr_of rfl (by omega)) (jr_of rfl (by omega)) (jr_of rfl (by omega)) (jr_of rfl (by omega)) (jr_mod rfl (by omega)) (jr_of rfl (by omega)) J Sm)
set_option maxRecDepth 100000 in
set_option maxHeartbeats 4000000 in
theorem ct_X12_canJoin_r125_200078 {Dy : jH → Prop} {h0 : jH} {Q : Option Value → jH → Prop} {R15 : Int} {R29 : Int} (hD : jDk Dy) (hQ : ∀ (v : Int32) hx9, 0 ≤ v.toInt ∧ v.toInt ≤ 1 → jJ jSgM Dy hx9 → jSm fp_X12_canJoin_r125 h0 hx9 → Q (some (.int v)) hx9) (k15 : ∀ (l1 : Int32) (l2 : Int32) (l3 : Int32) (l4 : Int32) (l5 : Int32) (h : jH), 600 - l5.toInt < R15 → 0 ≤ l1.toInt ∧ l1.toInt ≤ 599 → 0 ≤ l2.toInt ∧ l2.toInt ≤ 599 → 0 ≤ l3.toInt ∧ l3.toInt ≤ 1 → 0 ≤ l4.toInt ∧ l4.toInt ≤ 600 → l4.toInt % 3 = 0 → 0 ≤ l5.toInt ∧ l5.toInt ≤ 600 → jJ jSgM Dy h → jSm fp_X12_canJoin_r125 h0 h → jX m_X12_canJoin 7 0 0 15 [(0, .ref 125), (1, .int l1), (2, .int l2), (3, .int l3), (4, .int l4), (5, .int l5)] [] h 0 0 Q) (k29 : ∀ (l1 : Int32) (l2 : Int32) (l3 : Int32) (l4 : Int32) (l5 : Int32) (l6 : Int32) (h : jH), 600 - l6.toInt < R29 → 0 ≤ l1.toInt ∧ l1.toInt ≤ 599 → 0 ≤ l2.toInt ∧ l2.toInt ≤ 599 → 0 ≤ l3.toInt ∧ l3.toInt ≤ 1 → 3 ≤ l4.toInt ∧ l4.toInt ≤ 600 → l4.toInt % 3 = 0 → 0 ≤ l5.toInt ∧ l5.toInt ≤ 599 → 0 ≤ l6.toInt ∧ l6.toInt ≤ 600 → 600 - l5.toInt ≤ R15 → jJ jSgM Dy h → jSm fp_X12_canJoin_r125 h0 h → jX m_X12_canJoin 7 0 0 29 [(0, .ref 125), (1, .int l1), (2, .int l2), (3, .int l3), (4, .int l4), (5, .int l5), (6, .int l6)] [] h 0 0 Q) : ∀ (l1 : Int32) (l2 : Int32) (l4 : Int32) (l5 : Int32) (l6 : Int32) (h : jH), 0 ≤ l1.toInt ∧ l1.toInt ≤ 599 → 0 ≤ l2.toInt ∧ l2.toInt ≤ 599 → 3 ≤ l4.toInt ∧ l4.toInt ≤ 600 → l4.toInt % 3 = 0 → 0 ≤ l5.toInt ∧ l5.toInt ≤ 599 → 0 ≤ l6.toInt ∧ l6.toInt ≤ 599 → 600 - l5.toInt ≤ R15 → 600 - l6.toInt ≤ R29 → jJ jSgM Dy h → jSm fp_X12_canJoin_r125 h0 h → jX m_X12_canJoin 7 0 0 78 [(0, .ref 125), (1, .int l1), (2, .int l2), (4, .int l4), (5, .int l5), (6, .int l6)] [.int 0] h 0 0 Q := by
  intro l1 l2 l4 l5 l6 h y0 y1 y2 y3 y4 y5  m15 m29 J Sm
  refine x_istoren (lsx9 := [(3, .int 0), (0, .ref 125), (1, .int l1), (2, .int l2), (4, .int l4), (5, .int l5), (6, .int l6)]) rfl rfl rfl ?_
  refine z_iinc (x := l6) (lsx9 := fun v1 => [(6, .int v1), (3, .int 0), (0, .ref 125), (1, .int l1), (2, .int l2), (4, .int l4), (5, .int l5)]) rfl rfl rfl jko_1 (by omega) rfl (fun _ => rfl) (fun v1 ev1 => ?_)
  refine x_goto (tgt := 29) rfl rfl ?_
  exact jX.sub (jsb_c rfl (jsb_c rfl (jsb_c rfl (jsb_c rfl (jsb_c rfl (jsb_c rfl (jsb_c rfl jsb_n))))))) (k29 l1 l2 0 l4 l5 v1 h (by omega) (jr_of rfl (by omega)) (jr_of rfl (by omega)) (jr_of jk_0 (by omega)) (jr_of rfl (by omega)) (jr_mod rfl (by omega)) (jr_of rfl (by omega)) (jr_of rfl (by omega)) (by omega) J Sm)
set_option maxRecDepth 100000 in
set_option maxHeartbeats 4000000 in
theorem ct_X12_canJoin_r125_300078 {Dy : jH → Prop} {h0 : jH} {Q : Option Value → jH → Prop} {R15 : Int} {R29 : Int} (hD : jDk Dy) (hQ : ∀ (v : Int32) hx9, 0 ≤ v.toInt ∧ v.toInt ≤ 1 → jJ jSgM Dy hx9 → jSm fp_X12_canJoin_r125 h0 hx9 → Q (some (.int v)) hx9) (k15 : ∀ (l1 : Int32) (l2 : Int32) (l3 : Int32) (l4 : Int32) (l5 : Int32) (h : jH), 600 - l5.toInt < R15 → 0 ≤ l1.toInt ∧ l1.toInt ≤ 599 → 0 ≤ l2.toInt ∧ l2.toInt ≤ 599 → 0 ≤ l3.toInt ∧ l3.toInt ≤ 1 → 0 ≤ l4.toInt ∧ l4.toInt ≤ 600 → l4.toInt % 3 = 0 → 0 ≤ l5.toInt ∧ l5.toInt ≤ 600 → jJ jSgM Dy h → jSm fp_X12_canJoin_r125 h0 h → jX m_X12_canJoin 7 0 0 15 [(0, .ref 125), (1, .int l1), (2, .int l2), (3, .int l3), (4, .int l4), (5, .int l5)] [] h 0 0 Q) (k29 : ∀ (l1 : Int32) (l2 : Int32) (l3 : Int32) (l4 : Int32) (l5 : Int32) (l6 : Int32) (h : jH), 600 - l6.toInt < R29 → 0 ≤ l1.toInt ∧ l1.toInt ≤ 599 → 0 ≤ l2.toInt ∧ l2.toInt ≤ 599 → 0 ≤ l3.toInt ∧ l3.toInt ≤ 1 → 3 ≤ l4.toInt ∧ l4.toInt ≤ 600 → l4.toInt % 3 = 0 → 0 ≤ l5.toInt ∧ l5.toInt ≤ 599 → 0 ≤ l6.toInt ∧ l6.toInt ≤ 600 → 600 - l5.toInt ≤ R15 → jJ jSgM Dy h → jSm fp_X12_canJoin_r125 h0 h → jX m_X12_canJoin 7 0 0 29 [(0, .ref 125), (1, .int l1), (2, .int l2), (3, .int l3), (4, .int l4), (5, .int l5), (6, .int l6)] [] h 0 0 Q) : ∀ (l1 : Int32) (l2 : Int32) (l4 : Int32) (l5 : Int32) (l6 : Int32) (h : jH), 0 ≤ l1.toInt ∧ l1.toInt ≤ 599 → 0 ≤ l2.toInt ∧ l2.toInt ≤ 599 → 3 ≤ l4.toInt ∧ l4.toInt ≤ 600 → l4.toInt % 3 = 0 → 0 ≤ l5.toInt ∧ l5.toInt ≤ 599 → 0 ≤ l6.toInt ∧ l6.toInt ≤ 599 → 600 - l5.toInt ≤ R15 → 600 - l6.toInt ≤ R29 → jJ jSgM Dy h → jSm fp_X12_canJoin_r125 h0 h → jX m_X12_canJoin 7 0 0 78 [(0, .ref 125), (1, .int l1), (2, .int l2), (4, .int l4), (5, .int l5), (6, .int l6)] [.int 1] h 0 0 Q := by
  intro l1 l2 l4 l5 l6 h y0 y1 y2 y3 y4 y5  m15 m29 J Sm
  refine x_istoren (lsx9 := [(3, .int 1), (0, .ref 125), (1, .int l1), (2, .int l2), (4, .int l4), (5, .int l5), (6, .int l6)]) rfl rfl rfl ?_
  refine z_iinc (x := l6) (lsx9 := fun v1 => [(6, .int v1), (3, .int 1), (0, .ref 125), (1, .int l1), (2, .int l2), (4, .int l4), (5, .int l5)]) rfl rfl rfl jko_1 (by omega) rfl (fun _ => rfl) (fun v1 ev1 => ?_)
  refine x_goto (tgt := 29) rfl rfl ?_
  exact jX.sub (jsb_c rfl (jsb_c rfl (jsb_c rfl (jsb_c rfl (jsb_c rfl (jsb_c rfl (jsb_c rfl jsb_n))))))) (k29 l1 l2 1 l4 l5 v1 h (by omega) (jr_of rfl (by omega)) (jr_of rfl (by omega)) (jr_of jk_1 (by omega)) (jr_of rfl (by omega)) (jr_mod rfl (by omega)) (jr_of rfl (by omega)) (jr_of rfl (by omega)) (by omega) J Sm)
set_option maxRecDepth 100000 in
set_option maxHeartbeats 4000000 in
theorem ct_X12_canJoin_r125_73 {Dy : jH → Prop} {h0 : jH} {Q : Option Value → jH → Prop} {R15 : Int} {R29 : Int} (hD : jDk Dy) (hQ : ∀ (v : Int32) hx9, 0 ≤ v.toInt ∧ v.toInt ≤ 1 → jJ jSgM Dy hx9 → jSm fp_X12_canJoin_r125 h0 hx9 → Q (some (.int v)) hx9) (k15 : ∀ (l1 : Int32) (l2 : Int32) (l3 : Int32) (l4 : Int32) (l5 : Int32) (h : jH), 600 - l5.toInt < R15 → 0 ≤ l1.toInt ∧ l1.toInt ≤ 599 → 0 ≤ l2.toInt ∧ l2.toInt ≤ 599 → 0 ≤ l3.toInt ∧ l3.toInt ≤ 1 → 0 ≤ l4.toInt ∧ l4.toInt ≤ 600 → l4.toInt % 3 = 0 → 0 ≤ l5.toInt ∧ l5.toInt ≤ 600 → jJ jSgM Dy h → jSm fp_X12_canJoin_r125 h0 h → jX m_X12_canJoin 7 0 0 15 [(0, .ref 125), (1, .int l1), (2, .int l2), (3, .int l3), (4, .int l4), (5, .int l5)] [] h 0 0 Q) (k29 : ∀ (l1 : Int32) (l2 : Int32) (l3 : Int32) (l4 : Int32) (l5 : Int32) (l6 : Int32) (h : jH), 600 - l6.toInt < R29 → 0 ≤ l1.toInt ∧ l1.toInt ≤ 599 → 0 ≤ l2.toInt ∧ l2.toInt ≤ 599 → 0 ≤ l3.toInt ∧ l3.toInt ≤ 1 → 3 ≤ l4.toInt ∧ l4.toInt ≤ 600 → l4.toInt % 3 = 0 → 0 ≤ l5.toInt ∧ l5.toInt ≤ 599 → 0 ≤ l6.toInt ∧ l6.toInt ≤ 600 → 600 - l5.toInt ≤ R15 → jJ jSgM Dy h → jSm fp_X12_canJoin_r125 h0 h → jX m_X12_canJoin 7 0 0 29 [(0, .ref 125), (1, .int l1), (2, .int l2), (3, .int l3), (4, .int l4), (5, .int l5), (6, .int l6)] [] h 0 0 Q) : ∀ (l1 : Int32) (l2 : Int32) (l4 : Int32) (l5 : Int32) (l6 : Int32) (h : jH), 0 ≤ l1.toInt ∧ l1.toInt ≤ 599 → 0 ≤ l2.toInt ∧ l2.toInt ≤ 599 → 3 ≤ l4.toInt ∧ l4.toInt ≤ 600 → l4.toInt % 3 = 0 → 0 ≤ l5.toInt ∧ l5.toInt ≤ 599 → 0 ≤ l6.toInt ∧ l6.toInt ≤ 599 → 600 - l5.toInt ≤ R15 → 600 - l6.toInt ≤ R29 → jJ jSgM Dy h → jSm fp_X12_canJoin_r125 h0 h → jX m_X12_canJoin 7 0 0 73 [(0, .ref 125), (1, .int l1), (2, .int l2), (4, .int l4), (5, .int l5), (6, .int l6)] [] h 0 0 Q := by
  intro l1 l2 l4 l5 l6 h y0 y1 y2 y3 y4 y5  m15 m29 J Sm
  refine x_iconst (v := 1) rfl ki_1 ?_
  refine x_goto (tgt := 78) rfl rfl ?_
  exact jX.sub (jsb_c rfl (jsb_c rfl (jsb_c rfl (jsb_c rfl (jsb_c rfl (jsb_c rfl jsb_n)))))) (ct_X12_canJoin_r125_300078 hD hQ k15 k29 l1 l2 l4 l5 l6 h (jr_of rfl (by omega)) (jr_of rfl (by omega)) (jr_of rfl (by omega)) (jr_mod rfl (by omega)) (jr_of rfl (by omega)) (jr_of rfl (by omega)) (by omega) (by omega) J Sm)
set_option maxRecDepth 100000 in
set_option maxHeartbeats 4000000 in
theorem ct_X12_canJoin_r125_29 {Dy : jH → Prop} {h0 : jH} {Q : Option Value → jH → Prop} {R15 : Int} (hD : jDk Dy) (hQ : ∀ (v : Int32) hx9, 0 ≤ v.toInt ∧ v.toInt ≤ 1 → jJ jSgM Dy hx9 → jSm fp_X12_canJoin_r125 h0 hx9 → Q (some (.int v)) hx9) (k15 : ∀ (l1 : Int32) (l2 : Int32) (l3 : Int32) (l4 : Int32) (l5 : Int32) (h : jH), 600 - l5.toInt < R15 → 0 ≤ l1.toInt ∧ l1.toInt ≤ 599 → 0 ≤ l2.toInt ∧ l2.toInt ≤ 599 → 0 ≤ l3.toInt ∧ l3.toInt ≤ 1 → 0 ≤ l4.toInt ∧ l4.toInt ≤ 600 → l4.toInt % 3 = 0 → 0 ≤ l5.toInt ∧ l5.toInt ≤ 600 → jJ jSgM Dy h → jSm fp_X12_canJoin_r125 h0 h → jX m_X12_canJoin 7 0 0 15 [(0, .ref 125), (1, .int l1), (2, .int l2), (3, .int l3), (4, .int l4), (5, .int l5)] [] h 0 0 Q) : ∀ r : Nat, ∀ (l1 : Int32) (l2 : Int32) (l3 : Int32) (l4 : Int32) (l5 : Int32) (l6 : Int32) (h : jH), 600 - l6.toInt < (r : Int) → 0 ≤ l1.toInt ∧ l1.toInt ≤ 599 → 0 ≤ l2.toInt ∧ l2.toInt ≤ 599 → 0 ≤ l3.toInt ∧ l3.toInt ≤ 1 → 3 ≤ l4.toInt ∧ l4.toInt ≤ 600 → l4.toInt % 3 = 0 → 0 ≤ l5.toInt ∧ l5.toInt ≤ 599 → 0 ≤ l6.toInt ∧ l6.toInt ≤ 600 → 600 - l5.toInt ≤ R15 → jJ jSgM Dy h → jSm fp_X12_canJoin_r125 h0 h → jX m_X12_canJoin 7 0 0 29 [(0, .ref 125), (1, .int l1), (2, .int l2), (3, .int l3), (4, .int l4), (5, .int l5), (6, .int l6)] [] h 0 0 Q := by
  intro r
  induction r with
  | zero =>
    intro l1 l2 l3 l4 l5 l6 h hm y0 y1 y2 y3 y4 y5 y6  m15 J Sm
    exfalso
    omega
  | succ r ih =>
    intro l1 l2 l3 l4 l5 l6 h hm y0 y1 y2 y3 y4 y5 y6  m15 J Sm
    refine x_iload (x := l6) rfl rfl ?_
    refine x_iload (x := l4) rfl rfl ?_
    refine x_icge (tgt := 85) rfl rfl (ti_ge rfl rfl ⟨fun c1 => ?_, fun c1 => ?_⟩)
    ·
      exact jX.sub (jsb_c rfl (jsb_c rfl (jsb_c rfl (jsb_c rfl (jsb_c rfl (jsb_c rfl jsb_n)))))) (ct_X12_canJoin_r125_85 hD hQ k15 l1 l2 l3 l4 l5 h (jr_of rfl (by omega)) (jr_of rfl (by omega)) (jr_of rfl (by omega)) (jr_of rfl (by omega)) (jr_mod rfl (by omega)) (jr_of rfl (by omega)) (by omega) J Sm)
    ·
      refine x_iloadn (x := l3) rfl rfl ?_
      refine x_ifeq (tgt := 85) rfl rfl (ti_eq rfl jk_0 ⟨fun c2 => ?_, fun c2 => ?_⟩)
      ·
        exact jX.sub (jsb_c rfl (jsb_c rfl (jsb_c rfl (jsb_c rfl (jsb_c rfl (jsb_c rfl jsb_n)))))) (ct_X12_canJoin_r125_85 hD hQ k15 l1 l2 l3 l4 l5 h (jr_of rfl (by omega)) (jr_of rfl (by omega)) (jr_of rfl (by omega)) (jr_of rfl (by omega)) (jr_mod rfl (by omega)) (jr_of rfl (by omega)) (by omega) J Sm)
      ·
        refine x_aloadn (x := 125) rfl rfl ?_
        refine z_getR (N := 92) (b := 139) 12 29 rfl f_12_72 rfl J rfl 16029 ⟨rfl, rfl⟩ rfl ?_
        refine x_iload (x := l5) rfl rfl ?_
        refine z_iald (N := 600) rfl J rfl sg_139_0_600_1_0_1 rfl (by omega) (fun v3 qv3 ev3 => ?_)
        refine x_iloadn (x := l1) rfl rfl ?_
        refine x_icne (tgt := 85) rfl rfl (ti_ne rfl rfl ⟨fun c4 => ?_, fun c4 => ?_⟩)
        ·
          exact jX.sub (jsb_c rfl (jsb_c rfl (jsb_c rfl (jsb_c rfl (jsb_c rfl (jsb_c rfl jsb_n)))))) (ct_X12_canJoin_r125_85 hD hQ k15 l1 l2 l3 l4 l5 h (jr_of rfl (by omega)) (jr_of rfl (by omega)) (jr_of rfl (by omega)) (jr_of rfl (by omega)) (jr_mod rfl (by omega)) (jr_of rfl (by omega)) (by omega) J Sm)
        ·
          refine x_aloadn (x := 125) rfl rfl ?_
          refine z_getR (N := 92) (b := 139) 12 29 rfl f_12_72 rfl J rfl 16029 ⟨rfl, rfl⟩ rfl ?_
          refine x_iload (x := l6) rfl rfl ?_
          refine z_iald (N := 600) rfl J rfl sg_139_0_600_1_0_1 rfl (by omega) (fun v5 qv5 ev5 => ?_)
          refine x_iloadn (x := l2) rfl rfl ?_
          refine x_icne (tgt := 73) rfl rfl (ti_ne rfl rfl ⟨fun c6 => ?_, fun c6 => ?_⟩)
          ·
            exact jX.sub (jsb_c rfl (jsb_c rfl (jsb_c rfl (jsb_c rfl (jsb_c rfl (jsb_c rfl jsb_n)))))) (ct_X12_canJoin_r125_73 hD hQ k15 ih l1 l2 l4 l5 l6 h (jr_of rfl (by omega)) (jr_of rfl (by omega)) (jr_of rfl (by omega)) (jr_mod rfl (by omega)) (jr_of rfl (by omega)) (jr_of rfl (by omega)) (by omega) (by omega) J Sm)
          ·
            refine x_aloadn (x := 125) rfl rfl ?_
            refine x_iload (x := l5) rfl rfl ?_
            refine x_iload (x := l6) rfl rfl ?_
            refine x_inv (N := m_X12_why) (As := [.int l5, .int l6]) (b := 125) (st := []) (dx9 := 6) (mc := 0) (ms := 0) (host := "") 12 rfl t_X12_why ⟨Or.inl q_12_368, i_X12_why.1, i_X12_why.2⟩ ⟨by decide, rfl⟩ (congrArg Prod.fst (J.1.1 125 (12, 92) rfl)) rfl (by decide) rfl rfl ⟨by decide, by decide⟩ (sf_X12_why_r125 (jr_of rfl (by omega)) (jr_of rfl (by omega)) hD J  (fun v8 h ev8 J S7 => ?_))
            have Sm := jSm_tr rfl Sm S7
            show jX m_X12_canJoin 7 0 0 70 [(0, .ref 125), (1, .int l1), (2, .int l2), (3, .int l3), (4, .int l4), (5, .int l5), (6, .int l6)] [.int v8] _ 0 0 _
            refine x_ifne (tgt := 77) rfl rfl (ti_ne rfl jk_0 ⟨fun c9 => ?_, fun c9 => ?_⟩)
            ·
              refine x_iconst (v := 0) rfl ki_0 ?_
              exact jX.sub (jsb_c rfl (jsb_c rfl (jsb_c rfl (jsb_c rfl (jsb_c rfl (jsb_c rfl jsb_n)))))) (ct_X12_canJoin_r125_200078 hD hQ k15 ih l1 l2 l4 l5 l6 h (jr_of rfl (by omega)) (jr_of rfl (by omega)) (jr_of rfl (by omega)) (jr_mod rfl (by omega)) (jr_of rfl (by omega)) (jr_of rfl (by omega)) (by omega) (by omega) J Sm)
            ·
              exact jX.sub (jsb_c rfl (jsb_c rfl (jsb_c rfl (jsb_c rfl (jsb_c rfl (jsb_c rfl jsb_n)))))) (ct_X12_canJoin_r125_73 hD hQ k15 ih l1 l2 l4 l5 l6 h (jr_of rfl (by omega)) (jr_of rfl (by omega)) (jr_of rfl (by omega)) (jr_mod rfl (by omega)) (jr_of rfl (by omega)) (jr_of rfl (by omega)) (by omega) (by omega) J Sm)
set_option maxRecDepth 100000 in
set_option maxHeartbeats 4000000 in
theorem ct_X12_canJoin_r125_15 {Dy : jH → Prop} {h0 : jH} {Q : Option Value → jH → Prop} (hD : jDk Dy) (hQ : ∀ (v : Int32) hx9, 0 ≤ v.toInt ∧ v.toInt ≤ 1 → jJ jSgM Dy hx9 → jSm fp_X12_canJoin_r125 h0 hx9 → Q (some (.int v)) hx9) : ∀ r : Nat, ∀ (l1 : Int32) (l2 : Int32) (l3 : Int32) (l4 : Int32) (l5 : Int32) (h : jH), 600 - l5.toInt < (r : Int) → 0 ≤ l1.toInt ∧ l1.toInt ≤ 599 → 0 ≤ l2.toInt ∧ l2.toInt ≤ 599 → 0 ≤ l3.toInt ∧ l3.toInt ≤ 1 → 0 ≤ l4.toInt ∧ l4.toInt ≤ 600 → l4.toInt % 3 = 0 → 0 ≤ l5.toInt ∧ l5.toInt ≤ 600 → jJ jSgM Dy h → jSm fp_X12_canJoin_r125 h0 h → jX m_X12_canJoin 7 0 0 15 [(0, .ref 125), (1, .int l1), (2, .int l2), (3, .int l3), (4, .int l4), (5, .int l5)] [] h 0 0 Q := by
  intro r
  induction r with
  | zero =>
    intro l1 l2 l3 l4 l5 h hm y0 y1 y2 y3 y4 y5   J Sm
    exfalso
    omega
  | succ r ih =>
    intro l1 l2 l3 l4 l5 h hm y0 y1 y2 y3 y4 y5   J Sm
    refine x_iload (x := l5) rfl rfl ?_
    refine x_iload (x := l4) rfl rfl ?_
    refine x_icge (tgt := 91) rfl rfl (ti_ge rfl rfl ⟨fun c1 => ?_, fun c1 => ?_⟩)
    ·
      exact jX.sub (jsb_c rfl jsb_n) (ct_X12_canJoin_r125_91 hD hQ  l3 h (jr_of rfl (by omega)) J Sm)
    ·
      refine x_iloadn (x := l3) rfl rfl ?_
      refine x_ifeq (tgt := 91) rfl rfl (ti_eq rfl jk_0 ⟨fun c2 => ?_, fun c2 => ?_⟩)
      ·
        exact jX.sub (jsb_c rfl jsb_n) (ct_X12_canJoin_r125_91 hD hQ  l3 h (jr_of rfl (by omega)) J Sm)
      ·
        refine x_iconst (v := 0) rfl ki_0 ?_
        refine x_istore (lsx9 := [(6, .int 0), (0, .ref 125), (1, .int l1), (2, .int l2), (3, .int l3), (4, .int l4), (5, .int l5)]) rfl rfl rfl ?_
        exact jX.sub (jsb_c rfl (jsb_c rfl (jsb_c rfl (jsb_c rfl (jsb_c rfl (jsb_c rfl (jsb_c rfl jsb_n))))))) (ct_X12_canJoin_r125_29 hD hQ ih 601 l1 l2 l3 l4 l5 0 h (by have := jk_0; omega) (jr_of rfl (by omega)) (jr_of rfl (by omega)) (jr_of rfl (by omega)) (jr_of rfl (by omega)) (jr_mod rfl (by omega)) (jr_of rfl (by omega)) (jr_of jk_0 (by omega)) (by omega) J Sm)
set_option maxRecDepth 100000 in
set_option maxHeartbeats 4000000 in
theorem sf_X12_canJoin_r125 {Dy : jH → Prop} {h : jH} {Q : Option Value → jH → Prop} {a1 : Int32} {a2 : Int32} (y1 : 0 ≤ a1.toInt ∧ a1.toInt ≤ 599) (y2 : 0 ≤ a2.toInt ∧ a2.toInt ≤ 599) (hD : jDk Dy) (J : jJ jSgM Dy h) (hQ : ∀ (v : Int32) hx9, 0 ≤ v.toInt ∧ v.toInt ≤ 1 → jJ jSgM Dy hx9 → jSm fp_X12_canJoin_r125 h hx9 → Q (some (.int v)) hx9) : jC m_X12_canJoin 7 0 0 [.ref 125, .int a1, .int a2] h Q := by
  refine jC.of rfl k_X12_canJoin rfl ?_
  have Sm := jSm_rf fp_X12_canJoin_r125 h
  show jX m_X12_canJoin 7 0 0 0 [(0, .ref 125), (1, .int a1), (2, .int a2)] [] _ 0 0 _
  refine x_iconst (v := 1) rfl ki_1 ?_
  refine x_istoren (lsx9 := [(3, .int 1), (0, .ref 125), (1, .int a1), (2, .int a2)]) rfl rfl rfl ?_
  refine x_iconst (v := 3) rfl ki_3 ?_
  refine x_aloadn (x := 125) rfl rfl ?_
  refine z_getR (N := 92) (b := 126) 12 2 rfl f_12_8 rfl J rfl 16002 ⟨rfl, rfl⟩ rfl ?_
  refine x_iconst (v := 0) rfl ki_0 ?_
  refine z_iald (N := 50660) rfl J rfl sg_126_0_1_1_0_1 jk_0 (by omega) (fun v1 qv1 ev1 => ?_)
  refine z_imul rfl jk_3 rfl (by omega) (fun v2 ev2 => ?_)
  refine x_istore (lsx9 := [(4, .int v2), (3, .int 1), (0, .ref 125), (1, .int a1), (2, .int a2)]) rfl rfl rfl ?_
  refine x_iconst (v := 0) rfl ki_0 ?_
  refine x_istore (lsx9 := [(5, .int 0), (4, .int v2), (3, .int 1), (0, .ref 125), (1, .int a1), (2, .int a2)]) rfl rfl rfl ?_
  exact jX.sub (jsb_c rfl (jsb_c rfl (jsb_c rfl (jsb_c rfl (jsb_c rfl (jsb_c rfl jsb_n)))))) (ct_X12_canJoin_r125_15 hD hQ  601 a1 a2 1 v2 0 h (by have := jk_0; omega) (jr_of rfl (by omega)) (jr_of rfl (by omega)) (jr_of jk_1 (by omega)) (jr_of rfl (by omega)) (jr_mod rfl (by omega)) (jr_of jk_0 (by omega)) J Sm)
def fp_X12_join2_r125 : jFp := [(139, 0, 600)]
set_option maxRecDepth 100000 in
set_option maxHeartbeats 4000000 in
theorem ct_X12_join2_r125_68 {Dy : jH → Prop} {h0 : jH} {Q : Option Value → jH → Prop} {R26 : Int} (hD : jDk Dy) (hQ : ∀ hx9, jJ jSgM Dy hx9 → jSm fp_X12_join2_r125 h0 hx9 → Q none hx9) (k26 : ∀ (l3 : Int32) (l4 : Int32) (l5 : Int32) (h : jH), 600 - l5.toInt < R26 → 0 ≤ l3.toInt ∧ l3.toInt ≤ 599 → 0 ≤ l4.toInt ∧ l4.toInt ≤ 599 → 0 ≤ l5.toInt ∧ l5.toInt ≤ 600 → jJ jSgM Dy h → jSm fp_X12_join2_r125 h0 h → jX m_X12_join2 1 0 0 26 [(0, .ref 125), (3, .int l3), (4, .int l4), (5, .int l5)] [] h 0 0 Q) : ∀ (l3 : Int32) (l4 : Int32) (l5 : Int32) (s0 : Int32) (s1 : Int32) (h : jH), 0 ≤ l3.toInt ∧ l3.toInt ≤ 599 → 0 ≤ l4.toInt ∧ l4.toInt ≤ 599 → 0 ≤ l5.toInt ∧ l5.toInt ≤ 599 → (-1) ≤ s0.toInt ∧ s0.toInt ≤ 599 → 0 ≤ s1.toInt ∧ s1.toInt ≤ 599 → 600 - l5.toInt ≤ R26 → jJ jSgM Dy h → jSm fp_X12_join2_r125 h0 h → jX m_X12_join2 1 0 0 68 [(0, .ref 125), (3, .int l3), (4, .int l4), (5, .int l5)] [.int s0, .int s1, .ref 139] h 0 0 Q := by
  intro l3 l4 l5 s0 s1 h y0 y1 y2 y3 y4  m26 J Sm
  refine z_iast (N := 600) (l := 0) (u := 600) (w := s0.toInt) rfl hD J Sm rfl rfl rfl (by omega) rfl (wr_139 (fun q1 q2 q3 q4 => by omega)) rfl (fun h w1 J Sm => ?_)
  refine z_iinc (x := l5) (lsx9 := fun v2 => [(5, .int v2), (0, .ref 125), (3, .int l3), (4, .int l4)]) rfl rfl rfl jko_1 (by omega) rfl (fun _ => rfl) (fun v2 ev2 => ?_)
  refine x_goto (tgt := 26) rfl rfl ?_
  exact jX.sub (jsb_c rfl (jsb_c rfl (jsb_c rfl (jsb_c rfl jsb_n)))) (k26 l3 l4 v2 h (by omega) (jr_of rfl (by omega)) (jr_of rfl (by omega)) (jr_of rfl (by omega)) J Sm)
set_option maxRecDepth 100000 in
set_option maxHeartbeats 4000000 in
theorem ct_X12_join2_r125_26 {Dy : jH → Prop} {h0 : jH} {Q : Option Value → jH → Prop} (hD : jDk Dy) (hQ : ∀ hx9, jJ jSgM Dy hx9 → jSm fp_X12_join2_r125 h0 hx9 → Q none hx9) : ∀ r : Nat, ∀ (l3 : Int32) (l4 : Int32) (l5 : Int32) (h : jH), 600 - l5.toInt < (r : Int) → 0 ≤ l3.toInt ∧ l3.toInt ≤ 599 → 0 ≤ l4.toInt ∧ l4.toInt ≤ 599 → 0 ≤ l5.toInt ∧ l5.toInt ≤ 600 → jJ jSgM Dy h → jSm fp_X12_join2_r125 h0 h → jX m_X12_join2 1 0 0 26 [(0, .ref 125), (3, .int l3), (4, .int l4), (5, .int l5)] [] h 0 0 Q := by
  intro r
  induction r with
  | zero =>
    intro l3 l4 l5 h hm y0 y1 y2   J Sm
    exfalso
    omega
  | succ r ih =>
    intro l3 l4 l5 h hm y0 y1 y2   J Sm
    refine x_iload (x := l5) rfl rfl ?_
    refine x_iconst (v := 3) rfl ki_3 ?_
    refine x_aloadn (x := 125) rfl rfl ?_
    refine z_getR (N := 92) (b := 126) 12 2 rfl f_12_8 rfl J rfl 16002 ⟨rfl, rfl⟩ rfl ?_
    refine x_iconst (v := 0) rfl ki_0 ?_
    refine z_iald (N := 50660) rfl J rfl sg_126_0_1_1_0_1 jk_0 (by omega) (fun v1 qv1 ev1 => ?_)
    refine z_imul rfl jk_3 rfl (by omega) (fun v2 ev2 => ?_)
    refine x_icge (tgt := 75) rfl rfl (ti_ge rfl rfl ⟨fun c3 => ?_, fun c3 => ?_⟩)
    ·
      refine x_vret rfl rfl ?_
      exact hQ _ J Sm
    ·
      refine x_aloadn (x := 125) rfl rfl ?_
      refine z_getR (N := 92) (b := 139) 12 29 rfl f_12_72 rfl J rfl 16029 ⟨rfl, rfl⟩ rfl ?_
      refine x_iload (x := l5) rfl rfl ?_
      refine x_aloadn (x := 125) rfl rfl ?_
      refine z_getR (N := 92) (b := 139) 12 29 rfl f_12_72 rfl J rfl 16029 ⟨rfl, rfl⟩ rfl ?_
      refine x_iload (x := l5) rfl rfl ?_
      refine z_iald (N := 600) rfl J rfl sg_139_0_600_1_0_1 rfl (by omega) (fun v4 qv4 ev4 => ?_)
      refine x_iload (x := l4) rfl rfl ?_
      refine x_icne (tgt := 61) rfl rfl (ti_ne rfl rfl ⟨fun c5 => ?_, fun c5 => ?_⟩)
      ·
        refine x_aloadn (x := 125) rfl rfl ?_
        refine z_getR (N := 92) (b := 139) 12 29 rfl f_12_72 rfl J rfl 16029 ⟨rfl, rfl⟩ rfl ?_
        refine x_iload (x := l5) rfl rfl ?_
        refine z_ialdM (N := 600) (v := v4) rfl J rfl rfl (by omega) qv4 ?_
        exact jX.sub (jsb_c rfl (jsb_c rfl (jsb_c rfl (jsb_c rfl jsb_n)))) (ct_X12_join2_r125_68 hD hQ ih l3 l4 l5 v4 l5 h (jr_of rfl (by omega)) (jr_of rfl (by omega)) (jr_of rfl (by omega)) (jr_of rfl (by omega)) (jr_of rfl (by omega)) (by omega) J Sm)
      ·
        refine x_iloadn (x := l3) rfl rfl ?_
        refine x_goto (tgt := 68) rfl rfl ?_
        exact jX.sub (jsb_c rfl (jsb_c rfl (jsb_c rfl (jsb_c rfl jsb_n)))) (ct_X12_join2_r125_68 hD hQ ih l3 l4 l5 l3 l5 h (jr_of rfl (by omega)) (jr_of rfl (by omega)) (jr_of rfl (by omega)) (jr_of rfl (by omega)) (jr_of rfl (by omega)) (by omega) J Sm)
set_option maxRecDepth 100000 in
set_option maxHeartbeats 4000000 in
theorem ct_X12_join2_r125_21 {Dy : jH → Prop} {h0 : jH} {Q : Option Value → jH → Prop} (hD : jDk Dy) (hQ : ∀ hx9, jJ jSgM Dy hx9 → jSm fp_X12_join2_r125 h0 hx9 → Q none hx9) : ∀ (l3 : Int32) (s0 : Int32) (h : jH), 0 ≤ l3.toInt ∧ l3.toInt ≤ 599 → 0 ≤ s0.toInt ∧ s0.toInt ≤ 599 → jJ jSgM Dy h → jSm fp_X12_join2_r125 h0 h → jX m_X12_join2 1 0 0 21 [(0, .ref 125), (3, .int l3)] [.int s0] h 0 0 Q := by
  intro l3 s0 h y0 y1   J Sm
  refine x_istore (lsx9 := [(4, .int s0), (0, .ref 125), (3, .int l3)]) rfl rfl rfl ?_
  refine x_iconst (v := 0) rfl ki_0 ?_
  refine x_istore (lsx9 := [(5, .int 0), (4, .int s0), (0, .ref 125), (3, .int l3)]) rfl rfl rfl ?_
  exact jX.sub (jsb_c rfl (jsb_c rfl (jsb_c rfl (jsb_c rfl jsb_n)))) (ct_X12_join2_r125_26 hD hQ  601 l3 s0 0 h (by have := jk_0; omega) (jr_of rfl (by omega)) (jr_of rfl (by omega)) (jr_of jk_0 (by omega)) J Sm)
set_option maxRecDepth 100000 in
set_option maxHeartbeats 4000000 in
theorem ct_X12_join2_r125_10 {Dy : jH → Prop} {h0 : jH} {Q : Option Value → jH → Prop} (hD : jDk Dy) (hQ : ∀ hx9, jJ jSgM Dy hx9 → jSm fp_X12_join2_r125 h0 hx9 → Q none hx9) : ∀ (l1 : Int32) (l2 : Int32) (s0 : Int32) (h : jH), 0 ≤ l1.toInt ∧ l1.toInt ≤ 599 → 0 ≤ l2.toInt ∧ l2.toInt ≤ 599 → 0 ≤ s0.toInt ∧ s0.toInt ≤ 599 → jJ jSgM Dy h → jSm fp_X12_join2_r125 h0 h → jX m_X12_join2 1 0 0 10 [(0, .ref 125), (1, .int l1), (2, .int l2)] [.int s0] h 0 0 Q := by
  intro l1 l2 s0 h y0 y1 y2   J Sm
  refine x_istoren (lsx9 := [(3, .int s0), (0, .ref 125), (1, .int l1), (2, .int l2)]) rfl rfl rfl ?_
  refine x_iloadn (x := l1) rfl rfl ?_
  refine x_iloadn (x := l2) rfl rfl ?_
  refine x_icge (tgt := 20) rfl rfl (ti_ge rfl rfl ⟨fun c1 => ?_, fun c1 => ?_⟩)
  ·
    refine x_iloadn (x := l1) rfl rfl ?_
    exact jX.sub (jsb_c rfl (jsb_c rfl jsb_n)) (ct_X12_join2_r125_21 hD hQ  s0 l1 h (jr_of rfl (by omega)) (jr_of rfl (by omega)) J Sm)
  ·
    refine x_iloadn (x := l2) rfl rfl ?_
    refine x_goto (tgt := 21) rfl rfl ?_
    exact jX.sub (jsb_c rfl (jsb_c rfl jsb_n)) (ct_X12_join2_r125_21 hD hQ  s0 l2 h (jr_of rfl (by omega)) (jr_of rfl (by omega)) J Sm)
set_option maxRecDepth 100000 in
set_option maxHeartbeats 4000000 in
theorem sf_X12_join2_r125 {Dy : jH → Prop} {h : jH} {Q : Option Value → jH → Prop} {a1 : Int32} {a2 : Int32} (y1 : 0 ≤ a1.toInt ∧ a1.toInt ≤ 599) (y2 : 0 ≤ a2.toInt ∧ a2.toInt ≤ 599) (hD : jDk Dy) (J : jJ jSgM Dy h) (hQ : ∀ hx9, jJ jSgM Dy hx9 → jSm fp_X12_join2_r125 h hx9 → Q none hx9) : jC m_X12_join2 1 0 0 [.ref 125, .int a1, .int a2] h Q := by
  refine jC.of rfl k_X12_join2 rfl ?_
  have Sm := jSm_rf fp_X12_join2_r125 h
  show jX m_X12_join2 1 0 0 0 [(0, .ref 125), (1, .int a1), (2, .int a2)] [] _ 0 0 _
  refine x_iloadn (x := a1) rfl rfl ?_
  refine x_iloadn (x := a2) rfl rfl ?_
  refine x_icge (tgt := 9) rfl rfl (ti_ge rfl rfl ⟨fun c1 => ?_, fun c1 => ?_⟩)
  ·
    refine x_iloadn (x := a2) rfl rfl ?_
    exact jX.sub (jsb_c rfl (jsb_c rfl (jsb_c rfl jsb_n))) (ct_X12_join2_r125_10 hD hQ  a1 a2 a2 h (jr_of rfl (by omega)) (jr_of rfl (by omega)) (jr_of rfl (by omega)) J Sm)
  ·
    refine x_iloadn (x := a1) rfl rfl ?_
    refine x_goto (tgt := 10) rfl rfl ?_
    exact jX.sub (jsb_c rfl (jsb_c rfl (jsb_c rfl jsb_n))) (ct_X12_join2_r125_10 hD hQ  a1 a2 a1 h (jr_of rfl (by omega)) (jr_of rfl (by omega)) (jr_of rfl (by omega)) J Sm)
def fp_X12_find_r125 : jFp := [(125, 28, 29), (125, 31, 32), (125, 57, 58), (137, 0, 80), (138, 0, 2), (139, 0, 600), (140, 0, 200)]
set_option maxRecDepth 100000 in
set_option maxHeartbeats 4000000 in
theorem ct_X12_find_r125_221 {Dy : jH → Prop} {h0 : jH} {Q : Option Value → jH → Prop} {R67 : Int} (hD : jDk Dy) (hQ : ∀ hx9, jJ jSgM Dy hx9 → jSm fp_X12_find_r125 h0 hx9 → Q none hx9) (k67 : ∀ (l1 : Int32) (l2 : Int32) (g0 : Int32) (h : jH), 200 - l2.toInt < R67 → 0 ≤ l1.toInt ∧ l1.toInt ≤ 146399 → 0 ≤ l2.toInt ∧ l2.toInt ≤ 200 → 0 ≤ g0.toInt ∧ g0.toInt ≤ 200 → g0.toInt - l2.toInt ≤ 0 → jiv h 125 31 = g0 → jJ jSgM Dy h → jSm fp_X12_find_r125 h0 h → jX m_X12_find 8 0 0 67 [(0, .ref 125), (1, .int l1), (2, .int l2)] [] h 0 0 Q) : ∀ (l1 : Int32) (l2 : Int32) (g0 : Int32) (h : jH), 0 ≤ l1.toInt ∧ l1.toInt ≤ 146399 → 0 ≤ l2.toInt ∧ l2.toInt ≤ 199 → 0 ≤ g0.toInt ∧ g0.toInt ≤ 200 → g0.toInt - l2.toInt ≤ 1 → jiv h 125 31 = g0 → 200 - l2.toInt ≤ R67 → jJ jSgM Dy h → jSm fp_X12_find_r125 h0 h → jX m_X12_find 8 0 0 221 [(0, .ref 125), (1, .int l1), (2, .int l2)] [] h 0 0 Q := by
  intro l1 l2 g0 h y0 y1 y2 y3 z0 m67 J Sm
  refine z_iinc (x := l2) (lsx9 := fun v1 => [(2, .int v1), (0, .ref 125), (1, .int l1)]) rfl rfl rfl jko_1 (by omega) rfl (fun _ => rfl) (fun v1 ev1 => ?_)
  refine x_goto (tgt := 67) rfl rfl ?_
  exact jX.sub (jsb_c rfl (jsb_c rfl (jsb_c rfl jsb_n))) (k67 l1 v1 g0 h (by omega) (jr_of rfl (by omega)) (jr_of rfl (by omega)) (jr_of rfl (by omega)) (by omega) z0 J Sm)
set_option maxRecDepth 100000 in
set_option maxHeartbeats 4000000 in
theorem ct_X12_find_r125_67 {Dy : jH → Prop} {h0 : jH} {Q : Option Value → jH → Prop} (hD : jDk Dy) (hQ : ∀ hx9, jJ jSgM Dy hx9 → jSm fp_X12_find_r125 h0 hx9 → Q none hx9) : ∀ r : Nat, ∀ (l1 : Int32) (l2 : Int32) (g0 : Int32) (h : jH), 200 - l2.toInt < (r : Int) → 0 ≤ l1.toInt ∧ l1.toInt ≤ 146399 → 0 ≤ l2.toInt ∧ l2.toInt ≤ 200 → 0 ≤ g0.toInt ∧ g0.toInt ≤ 200 → g0.toInt - l2.toInt ≤ 0 → jiv h 125 31 = g0 → jJ jSgM Dy h → jSm fp_X12_find_r125 h0 h → jX m_X12_find 8 0 0 67 [(0, .ref 125), (1, .int l1), (2, .int l2)] [] h 0 0 Q := by
  intro r
  induction r with
  | zero =>
    intro l1 l2 g0 h hm y0 y1 y2 y3 z0  J Sm
    exfalso
    omega
  | succ r ih =>
    intro l1 l2 g0 h hm y0 y1 y2 y3 z0  J Sm
    refine x_iloadn (x := l2) rfl rfl ?_
    refine x_aloadn (x := 125) rfl rfl ?_
    refine z_getR (N := 92) (b := 126) 12 2 rfl f_12_8 rfl J rfl 16002 ⟨rfl, rfl⟩ rfl ?_
    refine x_iconst (v := 2) rfl ki_2 ?_
    refine z_iald (N := 50660) rfl J rfl sg_126_2_3_1_0_1 jk_2 (by omega) (fun v1 qv1 ev1 => ?_)
    refine x_icge (tgt := 227) rfl rfl (ti_ge rfl rfl ⟨fun c2 => ?_, fun c2 => ?_⟩)
    ·
      refine x_vret rfl rfl ?_
      exact hQ _ J Sm
    ·
      refine x_aloadn (x := 125) rfl rfl ?_
      refine z_getR (N := 92) (b := 126) 12 2 rfl f_12_8 rfl J rfl 16002 ⟨rfl, rfl⟩ rfl ?_
      refine x_sipush (v := 18140) rfl ks_18140 ?_
      refine x_iconst (v := 3) rfl ki_3 ?_
      refine x_iloadn (x := l2) rfl rfl ?_
      refine z_imul rfl jk_3 rfl (by omega) (fun v3 ev3 => ?_)
      refine z_iadd rfl jk_18140 rfl (by omega) (fun v4 ev4 => ?_)
      refine z_iald (N := 50660) rfl J rfl sg_126_18140_18740_3_0_1 rfl (by omega) (fun v5 qv5 ev5 => ?_)
      refine x_istoren (lsx9 := [(3, .int v5), (0, .ref 125), (1, .int l1), (2, .int l2)]) rfl rfl rfl ?_
      refine x_aloadn (x := 125) rfl rfl ?_
      refine z_getR (N := 92) (b := 126) 12 2 rfl f_12_8 rfl J rfl 16002 ⟨rfl, rfl⟩ rfl ?_
      refine x_sipush (v := 18140) rfl ks_18140 ?_
      refine x_iconst (v := 3) rfl ki_3 ?_
      refine x_iloadn (x := l2) rfl rfl ?_
      refine z_imul rfl jk_3 rfl (by omega) (fun v6 ev6 => ?_)
      refine z_iadd rfl jk_18140 rfl (by omega) (fun v7 ev7 => ?_)
      refine x_iconst (v := 1) rfl ki_1 ?_
      refine z_iadd rfl rfl jk_1 (by omega) (fun v8 ev8 => ?_)
      refine z_iald (N := 50660) rfl J rfl sg_126_18140_18740_3_1_2 rfl (by omega) (fun v9 qv9 ev9 => ?_)
      refine x_istore (lsx9 := [(4, .int v9), (3, .int v5), (0, .ref 125), (1, .int l1), (2, .int l2)]) rfl rfl rfl ?_
      refine x_aloadn (x := 125) rfl rfl ?_
      refine z_getR (N := 92) (b := 126) 12 2 rfl f_12_8 rfl J rfl 16002 ⟨rfl, rfl⟩ rfl ?_
      refine x_sipush (v := 18140) rfl ks_18140 ?_
      refine x_iconst (v := 3) rfl ki_3 ?_
      refine x_iloadn (x := l2) rfl rfl ?_
      refine z_imul rfl jk_3 rfl (by omega) (fun v10 ev10 => ?_)
      refine z_iadd rfl jk_18140 rfl (by omega) (fun v11 ev11 => ?_)
      refine x_iconst (v := 2) rfl ki_2 ?_
      refine z_iadd rfl rfl jk_2 (by omega) (fun v12 ev12 => ?_)
      refine z_iald (N := 50660) rfl J rfl sg_126_18140_18740_3_2_3 rfl (by omega) (fun v13 qv13 ev13 => ?_)
      refine x_iloadn (x := l1) rfl rfl ?_
      refine x_icgt (tgt := 221) rfl rfl (ti_gt rfl rfl ⟨fun c14 => ?_, fun c14 => ?_⟩)
      ·
        exact jX.sub (jsb_c rfl (jsb_c rfl (jsb_c rfl jsb_n))) (ct_X12_find_r125_221 hD hQ ih l1 l2 g0 h (jr_of rfl (by omega)) (jr_of rfl (by omega)) (jr_of rfl (by omega)) (by omega) z0 (by omega) J Sm)
      ·
        refine x_aloadn (x := 125) rfl rfl ?_
        refine z_getR (N := 92) (b := 139) 12 29 rfl f_12_72 rfl J rfl 16029 ⟨rfl, rfl⟩ rfl ?_
        refine x_iloadn (x := v5) rfl rfl ?_
        refine z_iald (N := 600) rfl J rfl sg_139_0_600_1_0_1 rfl (by omega) (fun v15 qv15 ev15 => ?_)
        refine x_iconst (v := (-1)) rfl ki_m1 ?_
        refine x_iceq (tgt := 221) rfl rfl (ti_eq rfl jk_m1 ⟨fun c16 => ?_, fun c16 => ?_⟩)
        ·
          exact jX.sub (jsb_c rfl (jsb_c rfl (jsb_c rfl jsb_n))) (ct_X12_find_r125_221 hD hQ ih l1 l2 g0 h (jr_of rfl (by omega)) (jr_of rfl (by omega)) (jr_of rfl (by omega)) (by omega) z0 (by omega) J Sm)
        ·
          refine x_aloadn (x := 125) rfl rfl ?_
          refine z_getR (N := 92) (b := 139) 12 29 rfl f_12_72 rfl J rfl 16029 ⟨rfl, rfl⟩ rfl ?_
          refine x_iload (x := v9) rfl rfl ?_
          refine z_iald (N := 600) rfl J rfl sg_139_0_600_1_0_1 rfl (by omega) (fun v17 qv17 ev17 => ?_)
          refine x_iconst (v := (-1)) rfl ki_m1 ?_
          refine x_iceq (tgt := 221) rfl rfl (ti_eq rfl jk_m1 ⟨fun c18 => ?_, fun c18 => ?_⟩)
          ·
            exact jX.sub (jsb_c rfl (jsb_c rfl (jsb_c rfl jsb_n))) (ct_X12_find_r125_221 hD hQ ih l1 l2 g0 h (jr_of rfl (by omega)) (jr_of rfl (by omega)) (jr_of rfl (by omega)) (by omega) z0 (by omega) J Sm)
          ·
            refine x_aloadn (x := 125) rfl rfl ?_
            refine z_getR (N := 92) (b := 139) 12 29 rfl f_12_72 rfl J rfl 16029 ⟨rfl, rfl⟩ rfl ?_
            refine x_iloadn (x := v5) rfl rfl ?_
            refine z_ialdM (N := 600) (v := v15) rfl J rfl rfl (by omega) qv15 ?_
            refine x_aloadn (x := 125) rfl rfl ?_
            refine z_getR (N := 92) (b := 139) 12 29 rfl f_12_72 rfl J rfl 16029 ⟨rfl, rfl⟩ rfl ?_
            refine x_iload (x := v9) rfl rfl ?_
            refine z_ialdM (N := 600) (v := v17) rfl J rfl rfl (by omega) qv17 ?_
            refine x_iceq (tgt := 221) rfl rfl (ti_eq rfl rfl ⟨fun c19 => ?_, fun c19 => ?_⟩)
            ·
              exact jX.sub (jsb_c rfl (jsb_c rfl (jsb_c rfl jsb_n))) (ct_X12_find_r125_221 hD hQ ih l1 l2 g0 h (jr_of rfl (by omega)) (jr_of rfl (by omega)) (jr_of rfl (by omega)) (by omega) z0 (by omega) J Sm)
            ·
              refine x_aloadn (x := 125) rfl rfl ?_
              refine x_aloadn (x := 125) rfl rfl ?_
              refine z_getR (N := 92) (b := 139) 12 29 rfl f_12_72 rfl J rfl 16029 ⟨rfl, rfl⟩ rfl ?_
              refine x_iloadn (x := v5) rfl rfl ?_
              refine z_ialdM (N := 600) (v := v15) rfl J rfl rfl (by omega) qv15 ?_
              refine x_aloadn (x := 125) rfl rfl ?_
              refine z_getR (N := 92) (b := 139) 12 29 rfl f_12_72 rfl J rfl 16029 ⟨rfl, rfl⟩ rfl ?_
              refine x_iload (x := v9) rfl rfl ?_
              refine z_ialdM (N := 600) (v := v17) rfl J rfl rfl (by omega) qv17 ?_
              refine x_inv (N := m_X12_canJoin) (As := [.int v15, .int v17]) (b := 125) (st := []) (dx9 := 7) (mc := 0) (ms := 0) (host := "") 12 rfl t_X12_canJoin ⟨Or.inl q_12_386, i_X12_canJoin.1, i_X12_canJoin.2⟩ ⟨by decide, rfl⟩ (congrArg Prod.fst (J.1.1 125 (12, 92) rfl)) rfl (by decide) rfl rfl ⟨by decide, by decide⟩ (sf_X12_canJoin_r125 (jr_of rfl (by omega)) (jr_of rfl (by omega)) hD J  (fun v21 h ev21 J S20 => ?_))
              have Sm := jSm_tr rfl Sm S20
              show jX m_X12_find 8 0 0 178 [(4, .int v9), (3, .int v5), (0, .ref 125), (1, .int l1), (2, .int l2)] [.int v21] _ 0 0 _
              refine x_ifeq (tgt := 201) rfl rfl (ti_eq rfl jk_0 ⟨fun c22 => ?_, fun c22 => ?_⟩)
              ·
                refine x_aloadn (x := 125) rfl rfl ?_
                refine z_getR (N := 92) (b := 140) 12 30 rfl f_12_75 rfl J rfl 16030 ⟨rfl, rfl⟩ rfl ?_
                refine x_aloadn (x := 125) rfl rfl ?_
                refine z_getM (N := 92) (v := g0) 12 31 rfl f_12_380 rfl J rfl (jmc S20 rfl z0) ?_
                refine x_iloadn (x := l2) rfl rfl ?_
                refine z_iast (N := 200) (l := 0) (u := 200) (w := l2.toInt) rfl hD J Sm rfl rfl rfl (by omega) rfl (wr_140 (fun q1 q2 q3 q4 => by omega)) rfl (fun h w23 J Sm => ?_)
                refine x_aloadn (x := 125) rfl rfl ?_
                refine x_dup rfl rfl ?_
                refine z_getM (N := 92) (v := g0) 12 31 rfl f_12_380 rfl J rfl (jmo w23 rfl (jmc S20 rfl z0)) ?_
                refine x_iconst (v := 1) rfl ki_1 ?_
                refine z_iadd rfl rfl jk_1 (by omega) (fun v24 ev24 => ?_)
                refine z_putI (N := 92) (w := v24.toInt) 12 31 rfl f_12_380 rfl (jfin_no TX12 RX12 92 rfl rfl) hD J Sm rfl rfl rfl (pw_125_31 (by omega)) rfl (fun h w25 J Sm => ?_)
                exact jX.sub (jsb_c rfl (jsb_c rfl (jsb_c rfl jsb_n))) (ct_X12_find_r125_221 hD hQ ih l1 l2 v24 h (jr_of rfl (by omega)) (jr_of rfl (by omega)) (jr_of rfl (by omega)) (by omega) (jmw w25) (by omega) J Sm)
              ·
                refine x_aloadn (x := 125) rfl rfl ?_
                refine x_aloadn (x := 125) rfl rfl ?_
                refine z_getR (N := 92) (b := 139) 12 29 rfl f_12_72 rfl J rfl 16029 ⟨rfl, rfl⟩ rfl ?_
                refine x_iloadn (x := v5) rfl rfl ?_
                refine z_ialdM (N := 600) (v := v15) rfl J rfl rfl (by omega) (jmc S20 rfl qv15) ?_
                refine x_aloadn (x := 125) rfl rfl ?_
                refine z_getR (N := 92) (b := 139) 12 29 rfl f_12_72 rfl J rfl 16029 ⟨rfl, rfl⟩ rfl ?_
                refine x_iload (x := v9) rfl rfl ?_
                refine z_ialdM (N := 600) (v := v17) rfl J rfl rfl (by omega) (jmc S20 rfl qv17) ?_
                refine x_inv (N := m_X12_join2) (As := [.int v15, .int v17]) (b := 125) (st := []) (dx9 := 1) (mc := 0) (ms := 0) (host := "") 12 rfl t_X12_join2 ⟨Or.inl q_12_389, i_X12_join2.1, i_X12_join2.2⟩ ⟨by decide, rfl⟩ (congrArg Prod.fst (J.1.1 125 (12, 92) rfl)) rfl (by decide) rfl rfl ⟨by decide, by decide⟩ (sf_X12_join2_r125 (jr_of rfl (by omega)) (jr_of rfl (by omega)) hD J  (fun h J S26 => ?_))
                have Sm := jSm_tr rfl Sm S26
                show jX m_X12_find 8 0 0 198 [(4, .int v9), (3, .int v5), (0, .ref 125), (1, .int l1), (2, .int l2)] [] _ 0 0 _
                refine x_goto (tgt := 221) rfl rfl ?_
                exact jX.sub (jsb_c rfl (jsb_c rfl (jsb_c rfl jsb_n))) (ct_X12_find_r125_221 hD hQ ih l1 l2 g0 h (jr_of rfl (by omega)) (jr_of rfl (by omega)) (jr_of rfl (by omega)) (by omega) (jmc S26 rfl (jmc S20 rfl z0)) (by omega) J Sm)
set_option maxRecDepth 100000 in
set_option maxHeartbeats 4000000 in
theorem ct_X12_find_r125_58 {Dy : jH → Prop} {h0 : jH} {Q : Option Value → jH → Prop} {R17 : Int} (hD : jDk Dy) (hQ : ∀ hx9, jJ jSgM Dy hx9 → jSm fp_X12_find_r125 h0 hx9 → Q none hx9) (k17 : ∀ (l1 : Int32) (l2 : Int32) (g0 : Int32) (h : jH), 600 - l2.toInt < R17 → 0 ≤ l1.toInt ∧ l1.toInt ≤ 146399 → 0 ≤ l2.toInt ∧ l2.toInt ≤ 600 → 0 ≤ g0.toInt ∧ g0.toInt ≤ 0 → jiv h 125 31 = g0 → jJ jSgM Dy h → jSm fp_X12_find_r125 h0 h → jX m_X12_find 8 0 0 17 [(0, .ref 125), (1, .int l1), (2, .int l2)] [] h 0 0 Q) : ∀ (l1 : Int32) (l2 : Int32) (s0 : Int32) (s1 : Int32) (g0 : Int32) (h : jH), 0 ≤ l1.toInt ∧ l1.toInt ≤ 146399 → 0 ≤ l2.toInt ∧ l2.toInt ≤ 599 → 0 ≤ s0.toInt ∧ s0.toInt ≤ 599 → 0 ≤ s1.toInt ∧ s1.toInt ≤ 599 → 0 ≤ g0.toInt ∧ g0.toInt ≤ 0 → jiv h 125 31 = g0 → 600 - l2.toInt ≤ R17 → jJ jSgM Dy h → jSm fp_X12_find_r125 h0 h → jX m_X12_find 8 0 0 58 [(0, .ref 125), (1, .int l1), (2, .int l2)] [.int s0, .int s1, .ref 139] h 0 0 Q := by
  intro l1 l2 s0 s1 g0 h y0 y1 y2 y3 y4 z0 m17 J Sm
  refine z_iast (N := 600) (l := 0) (u := 600) (w := s0.toInt) rfl hD J Sm rfl rfl rfl (by omega) rfl (wr_139 (fun q1 q2 q3 q4 => by omega)) rfl (fun h w1 J Sm => ?_)
  refine z_iinc (x := l2) (lsx9 := fun v2 => [(2, .int v2), (0, .ref 125), (1, .int l1)]) rfl rfl rfl jko_1 (by omega) rfl (fun _ => rfl) (fun v2 ev2 => ?_)
  refine x_goto (tgt := 17) rfl rfl ?_
  exact jX.sub (jsb_c rfl (jsb_c rfl (jsb_c rfl jsb_n))) (k17 l1 v2 g0 h (by omega) (jr_of rfl (by omega)) (jr_of rfl (by omega)) (jr_of rfl (by omega)) (jmo w1 rfl z0) J Sm)
set_option maxRecDepth 100000 in
set_option maxHeartbeats 4000000 in
theorem ct_X12_find_r125_100058 {Dy : jH → Prop} {h0 : jH} {Q : Option Value → jH → Prop} {R17 : Int} (hD : jDk Dy) (hQ : ∀ hx9, jJ jSgM Dy hx9 → jSm fp_X12_find_r125 h0 hx9 → Q none hx9) (k17 : ∀ (l1 : Int32) (l2 : Int32) (g0 : Int32) (h : jH), 600 - l2.toInt < R17 → 0 ≤ l1.toInt ∧ l1.toInt ≤ 146399 → 0 ≤ l2.toInt ∧ l2.toInt ≤ 600 → 0 ≤ g0.toInt ∧ g0.toInt ≤ 0 → jiv h 125 31 = g0 → jJ jSgM Dy h → jSm fp_X12_find_r125 h0 h → jX m_X12_find 8 0 0 17 [(0, .ref 125), (1, .int l1), (2, .int l2)] [] h 0 0 Q) : ∀ (l1 : Int32) (l2 : Int32) (s1 : Int32) (g0 : Int32) (h : jH), 0 ≤ l1.toInt ∧ l1.toInt ≤ 146399 → 0 ≤ l2.toInt ∧ l2.toInt ≤ 599 → 0 ≤ s1.toInt ∧ s1.toInt ≤ 599 → 0 ≤ g0.toInt ∧ g0.toInt ≤ 0 → jiv h 125 31 = g0 → 600 - l2.toInt ≤ R17 → jJ jSgM Dy h → jSm fp_X12_find_r125 h0 h → jX m_X12_find 8 0 0 58 [(0, .ref 125), (1, .int l1), (2, .int l2)] [.int (-1), .int s1, .ref 139] h 0 0 Q := by
  intro l1 l2 s1 g0 h y0 y1 y2 y3 z0 m17 J Sm
  refine z_iast (N := 600) (l := 0) (u := 600) (w := (-1)) rfl hD J Sm rfl rfl rfl (by omega) jk_m1 (wr_139 (fun q1 q2 q3 q4 => by omega)) rfl (fun h w1 J Sm => ?_)
  refine z_iinc (x := l2) (lsx9 := fun v2 => [(2, .int v2), (0, .ref 125), (1, .int l1)]) rfl rfl rfl jko_1 (by omega) rfl (fun _ => rfl) (fun v2 ev2 => ?_)
  refine x_goto (tgt := 17) rfl rfl ?_
  exact jX.sub (jsb_c rfl (jsb_c rfl (jsb_c rfl jsb_n))) (k17 l1 v2 g0 h (by omega) (jr_of rfl (by omega)) (jr_of rfl (by omega)) (jr_of rfl (by omega)) (jmo w1 rfl z0) J Sm)
set_option maxRecDepth 100000 in
set_option maxHeartbeats 4000000 in
theorem ct_X12_find_r125_57 {Dy : jH → Prop} {h0 : jH} {Q : Option Value → jH → Prop} {R17 : Int} (hD : jDk Dy) (hQ : ∀ hx9, jJ jSgM Dy hx9 → jSm fp_X12_find_r125 h0 hx9 → Q none hx9) (k17 : ∀ (l1 : Int32) (l2 : Int32) (g0 : Int32) (h : jH), 600 - l2.toInt < R17 → 0 ≤ l1.toInt ∧ l1.toInt ≤ 146399 → 0 ≤ l2.toInt ∧ l2.toInt ≤ 600 → 0 ≤ g0.toInt ∧ g0.toInt ≤ 0 → jiv h 125 31 = g0 → jJ jSgM Dy h → jSm fp_X12_find_r125 h0 h → jX m_X12_find 8 0 0 17 [(0, .ref 125), (1, .int l1), (2, .int l2)] [] h 0 0 Q) : ∀ (l1 : Int32) (l2 : Int32) (s0 : Int32) (g0 : Int32) (h : jH), 0 ≤ l1.toInt ∧ l1.toInt ≤ 146399 → 0 ≤ l2.toInt ∧ l2.toInt ≤ 599 → 0 ≤ s0.toInt ∧ s0.toInt ≤ 599 → 0 ≤ g0.toInt ∧ g0.toInt ≤ 0 → jiv h 125 31 = g0 → 600 - l2.toInt ≤ R17 → jJ jSgM Dy h → jSm fp_X12_find_r125 h0 h → jX m_X12_find 8 0 0 57 [(0, .ref 125), (1, .int l1), (2, .int l2)] [.int s0, .ref 139] h 0 0 Q := by
  intro l1 l2 s0 g0 h y0 y1 y2 y3 z0 m17 J Sm
  refine x_iconst (v := (-1)) rfl ki_m1 ?_
  exact jX.sub (jsb_c rfl (jsb_c rfl (jsb_c rfl jsb_n))) (ct_X12_find_r125_100058 hD hQ k17 l1 l2 s0 g0 h (jr_of rfl (by omega)) (jr_of rfl (by omega)) (jr_of rfl (by omega)) (jr_of rfl (by omega)) z0 (by omega) J Sm)
set_option maxRecDepth 100000 in
set_option maxHeartbeats 4000000 in
theorem ct_X12_find_r125_17 {Dy : jH → Prop} {h0 : jH} {Q : Option Value → jH → Prop} (hD : jDk Dy) (hQ : ∀ hx9, jJ jSgM Dy hx9 → jSm fp_X12_find_r125 h0 hx9 → Q none hx9) : ∀ r : Nat, ∀ (l1 : Int32) (l2 : Int32) (g0 : Int32) (h : jH), 600 - l2.toInt < (r : Int) → 0 ≤ l1.toInt ∧ l1.toInt ≤ 146399 → 0 ≤ l2.toInt ∧ l2.toInt ≤ 600 → 0 ≤ g0.toInt ∧ g0.toInt ≤ 0 → jiv h 125 31 = g0 → jJ jSgM Dy h → jSm fp_X12_find_r125 h0 h → jX m_X12_find 8 0 0 17 [(0, .ref 125), (1, .int l1), (2, .int l2)] [] h 0 0 Q := by
  intro r
  induction r with
  | zero =>
    intro l1 l2 g0 h hm y0 y1 y2 z0  J Sm
    exfalso
    omega
  | succ r ih =>
    intro l1 l2 g0 h hm y0 y1 y2 z0  J Sm
    refine x_iloadn (x := l2) rfl rfl ?_
    refine x_iconst (v := 3) rfl ki_3 ?_
    refine x_aloadn (x := 125) rfl rfl ?_
    refine z_getR (N := 92) (b := 126) 12 2 rfl f_12_8 rfl J rfl 16002 ⟨rfl, rfl⟩ rfl ?_
    refine x_iconst (v := 0) rfl ki_0 ?_
    refine z_iald (N := 50660) rfl J rfl sg_126_0_1_1_0_1 jk_0 (by omega) (fun v1 qv1 ev1 => ?_)
    refine z_imul rfl jk_3 rfl (by omega) (fun v2 ev2 => ?_)
    refine x_icge (tgt := 65) rfl rfl (ti_ge rfl rfl ⟨fun c3 => ?_, fun c3 => ?_⟩)
    ·
      refine x_iconst (v := 0) rfl ki_0 ?_
      refine x_istoren (lsx9 := [(2, .int 0), (0, .ref 125), (1, .int l1)]) rfl rfl rfl ?_
      exact jX.sub (jsb_c rfl (jsb_c rfl (jsb_c rfl jsb_n))) (ct_X12_find_r125_67 hD hQ  201 l1 0 g0 h (by have := jk_0; omega) (jr_of rfl (by omega)) (jr_of jk_0 (by omega)) (jr_of rfl (by omega)) (by have := jk_0; omega) z0 J Sm)
    ·
      refine x_aloadn (x := 125) rfl rfl ?_
      refine z_getR (N := 92) (b := 139) 12 29 rfl f_12_72 rfl J rfl 16029 ⟨rfl, rfl⟩ rfl ?_
      refine x_iloadn (x := l2) rfl rfl ?_
      refine x_aloadn (x := 125) rfl rfl ?_
      refine x_iloadn (x := l2) rfl rfl ?_
      refine x_inv (N := m_X12_isMention) (As := [.int l2]) (b := 125) (st := [.int l2, .ref 139]) (dx9 := 7) (mc := 0) (ms := 0) (host := "") 12 rfl t_X12_isMention ⟨Or.inl q_12_322, i_X12_isMention.1, i_X12_isMention.2⟩ ⟨by decide, rfl⟩ (congrArg Prod.fst (J.1.1 125 (12, 92) rfl)) rfl (by decide) rfl rfl ⟨by decide, by decide⟩ (jC.of rfl k_X12_isMention rfl ?_)
      show jX m_X12_isMention 7 0 0 0 [(0, .ref 125), (1, .int l2)] [] _ 0 0 _
      refine x_iloadn (x := l2) rfl rfl ?_
      refine x_iflt (tgt := 34) rfl rfl (ti_lt rfl jk_0 (br_f (by omega) ?_))
      refine x_aloadn (x := 125) rfl rfl ?_
      refine x_iloadn (x := l2) rfl rfl ?_
      refine x_iconst (v := 3) rfl ki_3 ?_
      refine z_idiv rfl rfl jk_3 (by omega) (by omega) (fun v4 ev4 => ?_)
      refine x_inv (N := m_X12_isLine) (As := [.int v4]) (b := 125) (st := []) (dx9 := 6) (mc := 0) (ms := 0) (host := "") 12 rfl t_X12_isLine ⟨Or.inl q_12_293, i_X12_isLine.1, i_X12_isLine.2⟩ ⟨by decide, rfl⟩ (congrArg Prod.fst (J.1.1 125 (12, 92) rfl)) rfl (by decide) rfl rfl ⟨by decide, by decide⟩ (jC.of rfl k_X12_isLine rfl ?_)
      show jX m_X12_isLine 6 0 0 0 [(0, .ref 125), (1, .int v4)] [] _ 0 0 _
      refine x_iloadn (x := v4) rfl rfl ?_
      refine z_i2l rfl rfl (fun v5 ev5 => ?_)
      refine x_lconst (v := 0) rfl kl_0 ?_
      refine x_aloadn (x := 125) rfl rfl ?_
      refine z_getR (N := 92) (b := 126) 12 2 rfl f_12_8 rfl J rfl 16002 ⟨rfl, rfl⟩ rfl ?_
      refine x_iconst (v := 0) rfl ki_0 ?_
      refine z_ialdM (N := 50660) (v := v1) rfl J rfl jk_0 (by omega) qv1 ?_
      refine z_i2l rfl rfl (fun v6 ev6 => ?_)
      refine x_lconst (v := 1) rfl kl_1 ?_
      refine z_lsub rfl rfl jkl_1 (by omega) (fun v7 ev7 => ?_)
      refine x_inst (N := m_X12_in) (As := [.long v5, .long 0, .long v7]) (st := []) (dx9 := 1) (mc := 0) (ms := 0) (host := "") rfl t_X12_in ⟨Or.inl q_12_188, s_X12_in⟩ rfl (by decide) rfl rfl ⟨by decide, by decide⟩ (zc_X12_in rfl jkl_0 rfl (fun v8 ev8 => ?_))
      show jX m_X12_isLine 6 0 0 15 [(0, .ref 125), (1, .int v4)] [.int v8] _ 0 0 _
      refine x_zret rfl rfl (jz01 (by omega)) ?_
      show jX m_X12_isMention 7 0 0 11 [(0, .ref 125), (1, .int l2)] [.int v8] _ 0 0 _
      refine x_ifeq (tgt := 34) rfl rfl (ti_eq rfl jk_0 ⟨fun c9 => ?_, fun c9 => ?_⟩)
      ·
        refine x_iconst (v := 0) rfl ki_0 ?_
        refine x_zret rfl rfl (by decide) ?_
        show jX m_X12_find 8 0 0 39 [(0, .ref 125), (1, .int l1), (2, .int l2)] [.int 0, .int l2, .ref 139] _ 0 0 _
        refine x_ifeq (tgt := 57) rfl rfl (ti_eq jk_0 jk_0 (br_t (by omega) ?_))
        exact jX.sub (jsb_c rfl (jsb_c rfl (jsb_c rfl jsb_n))) (ct_X12_find_r125_57 hD hQ ih l1 l2 l2 g0 h (jr_of rfl (by omega)) (jr_of rfl (by omega)) (jr_of rfl (by omega)) (jr_of rfl (by omega)) z0 (by omega) J Sm)
      ·
        refine x_iloadn (x := l2) rfl rfl ?_
        refine x_iconst (v := 3) rfl ki_3 ?_
        refine z_irem rfl rfl jk_3 (by omega) (by omega) (fun v10 ev10 => ?_)
        refine x_aloadn (x := 125) rfl rfl ?_
        refine x_iloadn (x := l2) rfl rfl ?_
        refine x_iconst (v := 3) rfl ki_3 ?_
        refine z_idiv rfl rfl jk_3 (by omega) (by omega) (fun v11 ev11 => ?_)
        refine x_inv (N := m_X12_bookOf) (As := [.int v11]) (b := 125) (st := [.int v10]) (dx9 := 6) (mc := 0) (ms := 0) (host := "") 12 rfl t_X12_bookOf ⟨Or.inl q_12_299, i_X12_bookOf.1, i_X12_bookOf.2⟩ ⟨by decide, rfl⟩ (congrArg Prod.fst (J.1.1 125 (12, 92) rfl)) rfl (by decide) rfl rfl ⟨by decide, by decide⟩ (jC.of rfl k_X12_bookOf rfl ?_)
        show jX m_X12_bookOf 6 0 0 0 [(0, .ref 125), (1, .int v11)] [] _ 0 0 _
        refine x_aloadn (x := 125) rfl rfl ?_
        refine z_getR (N := 92) (b := 126) 12 2 rfl f_12_8 rfl J rfl 16002 ⟨rfl, rfl⟩ rfl ?_
        refine x_aloadn (x := 125) rfl rfl ?_
        refine x_iloadn (x := v11) rfl rfl ?_
        refine x_inv (N := m_X12_at) (As := [.int v11]) (b := 125) (st := [.ref 126]) (dx9 := 5) (mc := 0) (ms := 0) (host := "") 12 rfl t_X12_at ⟨Or.inl q_12_254, i_X12_at.1, i_X12_at.2⟩ ⟨by decide, rfl⟩ (congrArg Prod.fst (J.1.1 125 (12, 92) rfl)) rfl (by decide) rfl rfl ⟨by decide, by decide⟩ (jC.of rfl k_X12_at rfl ?_)
        show jX m_X12_at 5 0 0 0 [(0, .ref 125), (1, .int v11)] [] _ 0 0 _
        refine x_bipush (v := 20) rfl kb_20 ?_
        refine x_bipush (v := 90) rfl kb_90 ?_
        refine x_iloadn (x := v11) rfl rfl ?_
        refine z_imul rfl jk_90 rfl (by omega) (fun v12 ev12 => ?_)
        refine z_iadd rfl jk_20 rfl (by omega) (fun v13 ev13 => ?_)
        refine x_iret rfl rfl ?_
        show jX m_X12_bookOf 6 0 0 9 [(0, .ref 125), (1, .int v11)] [.int v13, .ref 126] _ 0 0 _
        refine z_iald (N := 50660) rfl J rfl sg_126_20_18020_90_0_1 rfl (by omega) (fun v14 qv14 ev14 => ?_)
        refine x_iret rfl rfl ?_
        show jX m_X12_isMention 7 0 0 24 [(0, .ref 125), (1, .int l2)] [.int v14, .int v10] _ 0 0 _
        refine x_inst (N := m_X12_rolesOf) (As := [.int v14]) (st := [.int v10]) (dx9 := 6) (mc := 0) (ms := 0) (host := "") rfl t_X12_rolesOf ⟨Or.inl q_12_286, s_X12_rolesOf⟩ rfl (by decide) rfl rfl ⟨by decide, by decide⟩ (jC.of rfl k_X12_rolesOf rfl ?_)
        show jX m_X12_rolesOf 6 0 0 0 [(0, .int v14)] [] _ 0 0 _
        refine x_iloadn (x := v14) rfl rfl ?_
        refine x_ifne (tgt := 8) rfl rfl (ti_ne rfl jk_0 ⟨fun c15 => ?_, fun c15 => ?_⟩)
        ·
          refine x_iloadn (x := v14) rfl rfl ?_
          refine x_iconst (v := 1) rfl ki_1 ?_
          refine x_icne (tgt := 17) rfl rfl (ti_ne rfl jk_1 ⟨fun c16 => ?_, fun c16 => ?_⟩)
          ·
            refine x_iconst (v := 1) rfl ki_1 ?_
            refine x_iret rfl rfl ?_
            show jX m_X12_isMention 7 0 0 27 [(0, .ref 125), (1, .int l2)] [.int 1, .int v10] _ 0 0 _
            refine x_icge (tgt := 34) rfl rfl (ti_ge rfl jk_1 ⟨fun c17 => ?_, fun c17 => ?_⟩)
            ·
              refine x_iconst (v := 0) rfl ki_0 ?_
              refine x_zret rfl rfl (by decide) ?_
              show jX m_X12_find 8 0 0 39 [(0, .ref 125), (1, .int l1), (2, .int l2)] [.int 0, .int l2, .ref 139] _ 0 0 _
              refine x_ifeq (tgt := 57) rfl rfl (ti_eq jk_0 jk_0 (br_t (by omega) ?_))
              exact jX.sub (jsb_c rfl (jsb_c rfl (jsb_c rfl jsb_n))) (ct_X12_find_r125_57 hD hQ ih l1 l2 l2 g0 h (jr_of rfl (by omega)) (jr_of rfl (by omega)) (jr_of rfl (by omega)) (jr_of rfl (by omega)) z0 (by omega) J Sm)
            ·
              refine x_iconst (v := 1) rfl ki_1 ?_
              refine x_goto (tgt := 35) rfl rfl ?_
              refine x_zret rfl rfl (by decide) ?_
              show jX m_X12_find 8 0 0 39 [(0, .ref 125), (1, .int l1), (2, .int l2)] [.int 1, .int l2, .ref 139] _ 0 0 _
              refine x_ifeq (tgt := 57) rfl rfl (ti_eq jk_1 jk_0 (br_f (by omega) ?_))
              refine x_aloadn (x := 125) rfl rfl ?_
              refine x_iloadn (x := l2) rfl rfl ?_
              refine x_iconst (v := 3) rfl ki_3 ?_
              refine z_idiv rfl rfl jk_3 (by omega) (by omega) (fun v18 ev18 => ?_)
              refine x_iloadn (x := l1) rfl rfl ?_
              refine x_inv (N := m_X12_isKnown) (As := [.int v18, .int l1]) (b := 125) (st := [.int l2, .ref 139]) (dx9 := 7) (mc := 0) (ms := 0) (host := "") 12 rfl t_X12_isKnown ⟨Or.inl q_12_383, i_X12_isKnown.1, i_X12_isKnown.2⟩ ⟨by decide, rfl⟩ (congrArg Prod.fst (J.1.1 125 (12, 92) rfl)) rfl (by decide) rfl rfl ⟨by decide, by decide⟩ (jC.of rfl k_X12_isKnown rfl ?_)
              show jX m_X12_isKnown 7 0 0 0 [(0, .ref 125), (1, .int v18), (2, .int l1)] [] _ 0 0 _
              refine x_aloadn (x := 125) rfl rfl ?_
              refine z_getR (N := 92) (b := 126) 12 2 rfl f_12_8 rfl J rfl 16002 ⟨rfl, rfl⟩ rfl ?_
              refine x_aloadn (x := 125) rfl rfl ?_
              refine x_iloadn (x := v18) rfl rfl ?_
              refine x_inv (N := m_X12_at) (As := [.int v18]) (b := 125) (st := [.ref 126]) (dx9 := 6) (mc := 0) (ms := 0) (host := "") 12 rfl t_X12_at ⟨Or.inl q_12_254, i_X12_at.1, i_X12_at.2⟩ ⟨by decide, rfl⟩ (congrArg Prod.fst (J.1.1 125 (12, 92) rfl)) rfl (by decide) rfl rfl ⟨by decide, by decide⟩ (jC.of rfl k_X12_at rfl ?_)
              show jX m_X12_at 6 0 0 0 [(0, .ref 125), (1, .int v18)] [] _ 0 0 _
              refine x_bipush (v := 20) rfl kb_20 ?_
              refine x_bipush (v := 90) rfl kb_90 ?_
              refine x_iloadn (x := v18) rfl rfl ?_
              refine z_imul rfl jk_90 rfl (by omega) (fun v19 ev19 => ?_)
              refine z_iadd rfl jk_20 rfl (by omega) (fun v20 ev20 => ?_)
              refine x_iret rfl rfl ?_
              show jX m_X12_isKnown 7 0 0 9 [(0, .ref 125), (1, .int v18), (2, .int l1)] [.int v20, .ref 126] _ 0 0 _
              refine x_iconst (v := 3) rfl ki_3 ?_
              refine z_iadd rfl rfl jk_3 (by omega) (fun v21 ev21 => ?_)
              refine z_iald (N := 50660) rfl J rfl sg_126_20_18020_90_3_4 rfl (by omega) (fun v22 qv22 ev22 => ?_)
              refine x_iloadn (x := l1) rfl rfl ?_
              refine x_icgt (tgt := 20) rfl rfl (ti_gt rfl rfl ⟨fun c23 => ?_, fun c23 => ?_⟩)
              ·
                refine x_iconst (v := 0) rfl ki_0 ?_
                refine x_zret rfl rfl (by decide) ?_
                show jX m_X12_find 8 0 0 50 [(0, .ref 125), (1, .int l1), (2, .int l2)] [.int 0, .int l2, .ref 139] _ 0 0 _
                refine x_ifeq (tgt := 57) rfl rfl (ti_eq jk_0 jk_0 (br_t (by omega) ?_))
                exact jX.sub (jsb_c rfl (jsb_c rfl (jsb_c rfl jsb_n))) (ct_X12_find_r125_57 hD hQ ih l1 l2 l2 g0 h (jr_of rfl (by omega)) (jr_of rfl (by omega)) (jr_of rfl (by omega)) (jr_of rfl (by omega)) z0 (by omega) J Sm)
              ·
                refine x_iconst (v := 1) rfl ki_1 ?_
                refine x_goto (tgt := 21) rfl rfl ?_
                refine x_zret rfl rfl (by decide) ?_
                show jX m_X12_find 8 0 0 50 [(0, .ref 125), (1, .int l1), (2, .int l2)] [.int 1, .int l2, .ref 139] _ 0 0 _
                refine x_ifeq (tgt := 57) rfl rfl (ti_eq jk_1 jk_0 (br_f (by omega) ?_))
                refine x_iloadn (x := l2) rfl rfl ?_
                refine x_goto (tgt := 58) rfl rfl ?_
                exact jX.sub (jsb_c rfl (jsb_c rfl (jsb_c rfl jsb_n))) (ct_X12_find_r125_58 hD hQ ih l1 l2 l2 l2 g0 h (jr_of rfl (by omega)) (jr_of rfl (by omega)) (jr_of rfl (by omega)) (jr_of rfl (by omega)) (jr_of rfl (by omega)) z0 (by omega) J Sm)
          ·
            refine x_iconst (v := 2) rfl ki_2 ?_
            refine x_goto (tgt := 18) rfl rfl ?_
            refine x_iret rfl rfl ?_
            show jX m_X12_isMention 7 0 0 27 [(0, .ref 125), (1, .int l2)] [.int 2, .int v10] _ 0 0 _
            refine x_icge (tgt := 34) rfl rfl (ti_ge rfl jk_2 ⟨fun c24 => ?_, fun c24 => ?_⟩)
            ·
              refine x_iconst (v := 0) rfl ki_0 ?_
              refine x_zret rfl rfl (by decide) ?_
              show jX m_X12_find 8 0 0 39 [(0, .ref 125), (1, .int l1), (2, .int l2)] [.int 0, .int l2, .ref 139] _ 0 0 _
              refine x_ifeq (tgt := 57) rfl rfl (ti_eq jk_0 jk_0 (br_t (by omega) ?_))
              exact jX.sub (jsb_c rfl (jsb_c rfl (jsb_c rfl jsb_n))) (ct_X12_find_r125_57 hD hQ ih l1 l2 l2 g0 h (jr_of rfl (by omega)) (jr_of rfl (by omega)) (jr_of rfl (by omega)) (jr_of rfl (by omega)) z0 (by omega) J Sm)
            ·
              refine x_iconst (v := 1) rfl ki_1 ?_
              refine x_goto (tgt := 35) rfl rfl ?_
              refine x_zret rfl rfl (by decide) ?_
              show jX m_X12_find 8 0 0 39 [(0, .ref 125), (1, .int l1), (2, .int l2)] [.int 1, .int l2, .ref 139] _ 0 0 _
              refine x_ifeq (tgt := 57) rfl rfl (ti_eq jk_1 jk_0 (br_f (by omega) ?_))
              refine x_aloadn (x := 125) rfl rfl ?_
              refine x_iloadn (x := l2) rfl rfl ?_
              refine x_iconst (v := 3) rfl ki_3 ?_
              refine z_idiv rfl rfl jk_3 (by omega) (by omega) (fun v25 ev25 => ?_)
              refine x_iloadn (x := l1) rfl rfl ?_
              refine x_inv (N := m_X12_isKnown) (As := [.int v25, .int l1]) (b := 125) (st := [.int l2, .ref 139]) (dx9 := 7) (mc := 0) (ms := 0) (host := "") 12 rfl t_X12_isKnown ⟨Or.inl q_12_383, i_X12_isKnown.1, i_X12_isKnown.2⟩ ⟨by decide, rfl⟩ (congrArg Prod.fst (J.1.1 125 (12, 92) rfl)) rfl (by decide) rfl rfl ⟨by decide, by decide⟩ (jC.of rfl k_X12_isKnown rfl ?_)
              show jX m_X12_isKnown 7 0 0 0 [(0, .ref 125), (1, .int v25), (2, .int l1)] [] _ 0 0 _
              refine x_aloadn (x := 125) rfl rfl ?_
              refine z_getR (N := 92) (b := 126) 12 2 rfl f_12_8 rfl J rfl 16002 ⟨rfl, rfl⟩ rfl ?_
              refine x_aloadn (x := 125) rfl rfl ?_
              refine x_iloadn (x := v25) rfl rfl ?_
              refine x_inv (N := m_X12_at) (As := [.int v25]) (b := 125) (st := [.ref 126]) (dx9 := 6) (mc := 0) (ms := 0) (host := "") 12 rfl t_X12_at ⟨Or.inl q_12_254, i_X12_at.1, i_X12_at.2⟩ ⟨by decide, rfl⟩ (congrArg Prod.fst (J.1.1 125 (12, 92) rfl)) rfl (by decide) rfl rfl ⟨by decide, by decide⟩ (jC.of rfl k_X12_at rfl ?_)
              show jX m_X12_at 6 0 0 0 [(0, .ref 125), (1, .int v25)] [] _ 0 0 _
              refine x_bipush (v := 20) rfl kb_20 ?_
              refine x_bipush (v := 90) rfl kb_90 ?_
              refine x_iloadn (x := v25) rfl rfl ?_
              refine z_imul rfl jk_90 rfl (by omega) (fun v26 ev26 => ?_)
              refine z_iadd rfl jk_20 rfl (by omega) (fun v27 ev27 => ?_)
              refine x_iret rfl rfl ?_
              show jX m_X12_isKnown 7 0 0 9 [(0, .ref 125), (1, .int v25), (2, .int l1)] [.int v27, .ref 126] _ 0 0 _
              refine x_iconst (v := 3) rfl ki_3 ?_
              refine z_iadd rfl rfl jk_3 (by omega) (fun v28 ev28 => ?_)
              refine z_iald (N := 50660) rfl J rfl sg_126_20_18020_90_3_4 rfl (by omega) (fun v29 qv29 ev29 => ?_)
              refine x_iloadn (x := l1) rfl rfl ?_
              refine x_icgt (tgt := 20) rfl rfl (ti_gt rfl rfl ⟨fun c30 => ?_, fun c30 => ?_⟩)
              ·
                refine x_iconst (v := 0) rfl ki_0 ?_
                refine x_zret rfl rfl (by decide) ?_
                show jX m_X12_find 8 0 0 50 [(0, .ref 125), (1, .int l1), (2, .int l2)] [.int 0, .int l2, .ref 139] _ 0 0 _
                refine x_ifeq (tgt := 57) rfl rfl (ti_eq jk_0 jk_0 (br_t (by omega) ?_))
                exact jX.sub (jsb_c rfl (jsb_c rfl (jsb_c rfl jsb_n))) (ct_X12_find_r125_57 hD hQ ih l1 l2 l2 g0 h (jr_of rfl (by omega)) (jr_of rfl (by omega)) (jr_of rfl (by omega)) (jr_of rfl (by omega)) z0 (by omega) J Sm)
              ·
                refine x_iconst (v := 1) rfl ki_1 ?_
                refine x_goto (tgt := 21) rfl rfl ?_
                refine x_zret rfl rfl (by decide) ?_
                show jX m_X12_find 8 0 0 50 [(0, .ref 125), (1, .int l1), (2, .int l2)] [.int 1, .int l2, .ref 139] _ 0 0 _
                refine x_ifeq (tgt := 57) rfl rfl (ti_eq jk_1 jk_0 (br_f (by omega) ?_))
                refine x_iloadn (x := l2) rfl rfl ?_
                refine x_goto (tgt := 58) rfl rfl ?_
                exact jX.sub (jsb_c rfl (jsb_c rfl (jsb_c rfl jsb_n))) (ct_X12_find_r125_58 hD hQ ih l1 l2 l2 l2 g0 h (jr_of rfl (by omega)) (jr_of rfl (by omega)) (jr_of rfl (by omega)) (jr_of rfl (by omega)) (jr_of rfl (by omega)) z0 (by omega) J Sm)
        ·
          refine x_iconst (v := 3) rfl ki_3 ?_
          refine x_goto (tgt := 18) rfl rfl ?_
          refine x_iret rfl rfl ?_
          show jX m_X12_isMention 7 0 0 27 [(0, .ref 125), (1, .int l2)] [.int 3, .int v10] _ 0 0 _
          refine x_icge (tgt := 34) rfl rfl (ti_ge rfl jk_3 (br_f (by omega) ?_))
          refine x_iconst (v := 1) rfl ki_1 ?_
          refine x_goto (tgt := 35) rfl rfl ?_
          refine x_zret rfl rfl (by decide) ?_
          show jX m_X12_find 8 0 0 39 [(0, .ref 125), (1, .int l1), (2, .int l2)] [.int 1, .int l2, .ref 139] _ 0 0 _
          refine x_ifeq (tgt := 57) rfl rfl (ti_eq jk_1 jk_0 (br_f (by omega) ?_))
          refine x_aloadn (x := 125) rfl rfl ?_
          refine x_iloadn (x := l2) rfl rfl ?_
          refine x_iconst (v := 3) rfl ki_3 ?_
          refine z_idiv rfl rfl jk_3 (by omega) (by omega) (fun v31 ev31 => ?_)
          refine x_iloadn (x := l1) rfl rfl ?_
          refine x_inv (N := m_X12_isKnown) (As := [.int v31, .int l1]) (b := 125) (st := [.int l2, .ref 139]) (dx9 := 7) (mc := 0) (ms := 0) (host := "") 12 rfl t_X12_isKnown ⟨Or.inl q_12_383, i_X12_isKnown.1, i_X12_isKnown.2⟩ ⟨by decide, rfl⟩ (congrArg Prod.fst (J.1.1 125 (12, 92) rfl)) rfl (by decide) rfl rfl ⟨by decide, by decide⟩ (jC.of rfl k_X12_isKnown rfl ?_)
          show jX m_X12_isKnown 7 0 0 0 [(0, .ref 125), (1, .int v31), (2, .int l1)] [] _ 0 0 _
          refine x_aloadn (x := 125) rfl rfl ?_
          refine z_getR (N := 92) (b := 126) 12 2 rfl f_12_8 rfl J rfl 16002 ⟨rfl, rfl⟩ rfl ?_
          refine x_aloadn (x := 125) rfl rfl ?_
          refine x_iloadn (x := v31) rfl rfl ?_
          refine x_inv (N := m_X12_at) (As := [.int v31]) (b := 125) (st := [.ref 126]) (dx9 := 6) (mc := 0) (ms := 0) (host := "") 12 rfl t_X12_at ⟨Or.inl q_12_254, i_X12_at.1, i_X12_at.2⟩ ⟨by decide, rfl⟩ (congrArg Prod.fst (J.1.1 125 (12, 92) rfl)) rfl (by decide) rfl rfl ⟨by decide, by decide⟩ (jC.of rfl k_X12_at rfl ?_)
          show jX m_X12_at 6 0 0 0 [(0, .ref 125), (1, .int v31)] [] _ 0 0 _
          refine x_bipush (v := 20) rfl kb_20 ?_
          refine x_bipush (v := 90) rfl kb_90 ?_
          refine x_iloadn (x := v31) rfl rfl ?_
          refine z_imul rfl jk_90 rfl (by omega) (fun v32 ev32 => ?_)
          refine z_iadd rfl jk_20 rfl (by omega) (fun v33 ev33 => ?_)
          refine x_iret rfl rfl ?_
          show jX m_X12_isKnown 7 0 0 9 [(0, .ref 125), (1, .int v31), (2, .int l1)] [.int v33, .ref 126] _ 0 0 _
          refine x_iconst (v := 3) rfl ki_3 ?_
          refine z_iadd rfl rfl jk_3 (by omega) (fun v34 ev34 => ?_)
          refine z_iald (N := 50660) rfl J rfl sg_126_20_18020_90_3_4 rfl (by omega) (fun v35 qv35 ev35 => ?_)
          refine x_iloadn (x := l1) rfl rfl ?_
          refine x_icgt (tgt := 20) rfl rfl (ti_gt rfl rfl ⟨fun c36 => ?_, fun c36 => ?_⟩)
          ·
            refine x_iconst (v := 0) rfl ki_0 ?_
            refine x_zret rfl rfl (by decide) ?_
            show jX m_X12_find 8 0 0 50 [(0, .ref 125), (1, .int l1), (2, .int l2)] [.int 0, .int l2, .ref 139] _ 0 0 _
            refine x_ifeq (tgt := 57) rfl rfl (ti_eq jk_0 jk_0 (br_t (by omega) ?_))
            exact jX.sub (jsb_c rfl (jsb_c rfl (jsb_c rfl jsb_n))) (ct_X12_find_r125_57 hD hQ ih l1 l2 l2 g0 h (jr_of rfl (by omega)) (jr_of rfl (by omega)) (jr_of rfl (by omega)) (jr_of rfl (by omega)) z0 (by omega) J Sm)
          ·
            refine x_iconst (v := 1) rfl ki_1 ?_
            refine x_goto (tgt := 21) rfl rfl ?_
            refine x_zret rfl rfl (by decide) ?_
            show jX m_X12_find 8 0 0 50 [(0, .ref 125), (1, .int l1), (2, .int l2)] [.int 1, .int l2, .ref 139] _ 0 0 _
            refine x_ifeq (tgt := 57) rfl rfl (ti_eq jk_1 jk_0 (br_f (by omega) ?_))
            refine x_iloadn (x := l2) rfl rfl ?_
            refine x_goto (tgt := 58) rfl rfl ?_
            exact jX.sub (jsb_c rfl (jsb_c rfl (jsb_c rfl jsb_n))) (ct_X12_find_r125_58 hD hQ ih l1 l2 l2 l2 g0 h (jr_of rfl (by omega)) (jr_of rfl (by omega)) (jr_of rfl (by omega)) (jr_of rfl (by omega)) (jr_of rfl (by omega)) z0 (by omega) J Sm)
set_option maxRecDepth 100000 in
set_option maxHeartbeats 4000000 in
theorem sf_X12_find_r125 {Dy : jH → Prop} {h : jH} {Q : Option Value → jH → Prop} {a1 : Int32} (y1 : 0 ≤ a1.toInt ∧ a1.toInt ≤ 146399) (hD : jDk Dy) (J : jJ jSgM Dy h) (hQ : ∀ hx9, jJ jSgM Dy hx9 → jSm fp_X12_find_r125 h hx9 → Q none hx9) : jC m_X12_find 8 0 0 [.ref 125, .int a1] h Q := by
  refine jC.of rfl k_X12_find rfl ?_
  have Sm := jSm_rf fp_X12_find_r125 h
  show jX m_X12_find 8 0 0 0 [(0, .ref 125), (1, .int a1)] [] _ 0 0 _
  refine x_aloadn (x := 125) rfl rfl ?_
  refine x_iloadn (x := a1) rfl rfl ?_
  refine z_putI (N := 92) (w := a1.toInt) 12 28 rfl f_12_377 rfl (jfin_no TX12 RX12 92 rfl rfl) hD J Sm rfl rfl rfl (pw_125_28 (by omega)) rfl (fun h w1 J Sm => ?_)
  refine x_aloadn (x := 125) rfl rfl ?_
  refine x_iconst (v := 0) rfl ki_0 ?_
  refine z_putI (N := 92) (w := 0) 12 31 rfl f_12_380 rfl (jfin_no TX12 RX12 92 rfl rfl) hD J Sm rfl rfl jk_0 (pw_125_31 (by omega)) rfl (fun h w2 J Sm => ?_)
  refine x_aloadn (x := 125) rfl rfl ?_
  refine x_iconst (v := (-1)) rfl ki_m1 ?_
  refine z_putI (N := 92) (w := (-1)) 12 57 rfl f_12_111 rfl (jfin_no TX12 RX12 92 rfl rfl) hD J Sm rfl rfl jk_m1 (pw_125_57 (by omega)) rfl (fun h w3 J Sm => ?_)
  refine x_iconst (v := 0) rfl ki_0 ?_
  refine x_istoren (lsx9 := [(2, .int 0), (0, .ref 125), (1, .int a1)]) rfl rfl rfl ?_
  exact jX.sub (jsb_c rfl (jsb_c rfl (jsb_c rfl jsb_n))) (ct_X12_find_r125_17 hD hQ  601 a1 0 0 h (by have := jk_0; omega) (jr_of rfl (by omega)) (jr_of jk_0 (by omega)) (jr_of jk_0 (by omega)) (jmo w3 rfl (jmw w2)) J Sm)
def fp_X12_about_r125 : jFp := [(125, 0, 1), (125, 28, 29), (125, 31, 32), (125, 32, 33), (125, 33, 34), (125, 34, 35), (125, 35, 36), (125, 57, 58), (137, 0, 80), (138, 0, 2), (139, 0, 600), (140, 0, 200), (162, 0, 40), (163, 0, 40), (164, 0, 40)]
set_option maxRecDepth 100000 in
set_option maxHeartbeats 4000000 in
theorem ct_X12_about_r125_5000054 {Dy : jH → Prop} {h0 : jH} {Q : Option Value → jH → Prop} (hD : jDk Dy) (hQ : ∀ (v : Int64) hx9, jJ jSgM Dy hx9 → jSm fp_X12_about_r125 h0 hx9 → Q (some (.long v)) hx9) : ∀ (h : jH), jJ jSgM Dy h → jSm fp_X12_about_r125 h0 h → jX m_X12_about 10 0 0 54 [] [.long (-1)] h 0 0 Q := by
  intro  h    J Sm
  refine x_lret rfl rfl ?_
  exact hQ _ _ J Sm
set_option maxRecDepth 100000 in
set_option maxHeartbeats 4000000 in
theorem ct_X12_about_r125_54 {Dy : jH → Prop} {h0 : jH} {Q : Option Value → jH → Prop} (hD : jDk Dy) (hQ : ∀ (v : Int64) hx9, jJ jSgM Dy hx9 → jSm fp_X12_about_r125 h0 hx9 → Q (some (.long v)) hx9) : ∀ (s0 : Int64) (h : jH), jJ jSgM Dy h → jSm fp_X12_about_r125 h0 h → jX m_X12_about 10 0 0 54 [] [.long s0] h 0 0 Q := by
  intro s0 h    J Sm
  have es0 := jfullL s0
  refine x_lret rfl rfl ?_
  exact hQ _ _ J Sm
set_option maxRecDepth 100000 in
set_option maxHeartbeats 4000000 in
theorem ct_X12_about_r125_39 {Dy : jH → Prop} {h0 : jH} {Q : Option Value → jH → Prop} (hD : jDk Dy) (hQ : ∀ (v : Int64) hx9, jJ jSgM Dy hx9 → jSm fp_X12_about_r125 h0 hx9 → Q (some (.long v)) hx9) : ∀ (h : jH), jJ jSgM Dy h → jSm fp_X12_about_r125 h0 h → jX m_X12_about 10 0 0 39 [] [] h 0 0 Q := by
  intro  h    J Sm
  refine x_ldc2 (v := (-1)) rfl z_12_242 ?_
  refine x_goto (tgt := 54) rfl rfl ?_
  exact jX.sub jsb_n (ct_X12_about_r125_5000054 hD hQ  h J Sm)
set_option maxRecDepth 100000 in
set_option maxHeartbeats 4000000 in
theorem sf_X12_about_r125 {Dy : jH → Prop} {h : jH} {Q : Option Value → jH → Prop} {a1 : Int32} {a2 : Int32} {a3 : Int32} {a4 : Int32} (hD : jDk Dy) (J : jJ jSgM Dy h) (hQ : ∀ (v : Int64) hx9, jJ jSgM Dy hx9 → jSm fp_X12_about_r125 h hx9 → Q (some (.long v)) hx9) : jC m_X12_about 10 0 0 [.ref 125, .int a1, .int a2, .int a3, .int a4] h Q := by
  refine jC.of rfl k_X12_about rfl ?_
  have Sm := jSm_rf fp_X12_about_r125 h
  have ea1 := jfull a1
  have ea2 := jfull a2
  have ea3 := jfull a3
  have ea4 := jfull a4
  show jX m_X12_about 10 0 0 0 [(0, .ref 125), (1, .int a1), (2, .int a2), (3, .int a3), (4, .int a4)] [] _ 0 0 _
  refine x_aloadn (x := 125) rfl rfl ?_
  refine x_iconst (v := 0) rfl ki_0 ?_
  refine z_putI (N := 92) (w := 0) 12 0 rfl f_12_180 rfl (jfin_no TX12 RX12 92 rfl rfl) hD J Sm rfl rfl jk_0 (pw_125_0 (by omega)) rfl (fun h w1 J Sm => ?_)
  refine x_aloadn (x := 125) rfl rfl ?_
  refine x_iloadn (x := a1) rfl rfl ?_
  refine x_iloadn (x := a3) rfl rfl ?_
  refine x_inv (N := m_X12_soulAt) (As := [.int a1, .int a3]) (b := 125) (st := []) (dx9 := 9) (mc := 0) (ms := 0) (host := "") 12 rfl t_X12_soulAt ⟨Or.inl q_12_399, i_X12_soulAt.1, i_X12_soulAt.2⟩ ⟨by decide, rfl⟩ (congrArg Prod.fst (J.1.1 125 (12, 92) rfl)) rfl (by decide) rfl rfl ⟨by decide, by decide⟩ (jC.of rfl k_X12_soulAt rfl ?_)
  show jX m_X12_soulAt 9 0 0 0 [(0, .ref 125), (1, .int a1), (2, .int a3)] [] _ 0 0 _
  refine x_aloadn (x := 125) rfl rfl ?_
  refine x_iloadn (x := a1) rfl rfl ?_
  refine x_inv (N := m_X12_isMention) (As := [.int a1]) (b := 125) (st := []) (dx9 := 8) (mc := 0) (ms := 0) (host := "") 12 rfl t_X12_isMention ⟨Or.inl q_12_322, i_X12_isMention.1, i_X12_isMention.2⟩ ⟨by decide, rfl⟩ (congrArg Prod.fst (J.1.1 125 (12, 92) rfl)) rfl (by decide) rfl rfl ⟨by decide, by decide⟩ (jC.of rfl k_X12_isMention rfl ?_)
  show jX m_X12_isMention 8 0 0 0 [(0, .ref 125), (1, .int a1)] [] _ 0 0 _
  refine x_iloadn (x := a1) rfl rfl ?_
  refine x_iflt (tgt := 34) rfl rfl (ti_lt rfl jk_0 ⟨fun c2 => ?_, fun c2 => ?_⟩)
  ·
    refine x_iconst (v := 0) rfl ki_0 ?_
    refine x_zret rfl rfl (by decide) ?_
    show jX m_X12_soulAt 9 0 0 5 [(0, .ref 125), (1, .int a1), (2, .int a3)] [.int 0] _ 0 0 _
    refine x_ifeq (tgt := 15) rfl rfl (ti_eq jk_0 jk_0 (br_t (by omega) ?_))
    refine x_iconst (v := (-1)) rfl ki_m1 ?_
    refine x_iret rfl rfl ?_
    show jX m_X12_about 10 0 0 11 [(0, .ref 125), (1, .int a1), (2, .int a2), (3, .int a3), (4, .int a4)] [.int (-1)] _ 0 0 _
    refine x_istore (lsx9 := [(5, .int (-1)), (0, .ref 125), (1, .int a1), (2, .int a2), (3, .int a3), (4, .int a4)]) rfl rfl rfl ?_
    refine x_iload (x := (-1)) rfl rfl ?_
    refine x_iconst (v := (-1)) rfl ki_m1 ?_
    refine x_iceq (tgt := 39) rfl rfl (ti_eq jk_m1 jk_m1 (br_t (by omega) ?_))
    exact jX.sub jsb_n (ct_X12_about_r125_39 hD hQ  h J Sm)
  ·
    refine x_aloadn (x := 125) rfl rfl ?_
    refine x_iloadn (x := a1) rfl rfl ?_
    refine x_iconst (v := 3) rfl ki_3 ?_
    refine z_idiv rfl rfl jk_3 (by omega) (by omega) (fun v3 ev3 => ?_)
    refine x_inv (N := m_X12_isLine) (As := [.int v3]) (b := 125) (st := []) (dx9 := 7) (mc := 0) (ms := 0) (host := "") 12 rfl t_X12_isLine ⟨Or.inl q_12_293, i_X12_isLine.1, i_X12_isLine.2⟩ ⟨by decide, rfl⟩ (congrArg Prod.fst (J.1.1 125 (12, 92) rfl)) rfl (by decide) rfl rfl ⟨by decide, by decide⟩ (jC.of rfl k_X12_isLine rfl ?_)
    show jX m_X12_isLine 7 0 0 0 [(0, .ref 125), (1, .int v3)] [] _ 0 0 _
    refine x_iloadn (x := v3) rfl rfl ?_
    refine z_i2l rfl rfl (fun v4 ev4 => ?_)
    refine x_lconst (v := 0) rfl kl_0 ?_
    refine x_aloadn (x := 125) rfl rfl ?_
    refine z_getR (N := 92) (b := 126) 12 2 rfl f_12_8 rfl J rfl 16002 ⟨rfl, rfl⟩ rfl ?_
    refine x_iconst (v := 0) rfl ki_0 ?_
    refine z_iald (N := 50660) rfl J rfl sg_126_0_1_1_0_1 jk_0 (by omega) (fun v5 qv5 ev5 => ?_)
    refine z_i2l rfl rfl (fun v6 ev6 => ?_)
    refine x_lconst (v := 1) rfl kl_1 ?_
    refine z_lsub rfl rfl jkl_1 (by omega) (fun v7 ev7 => ?_)
    refine x_inst (N := m_X12_in) (As := [.long v4, .long 0, .long v7]) (st := []) (dx9 := 1) (mc := 0) (ms := 0) (host := "") rfl t_X12_in ⟨Or.inl q_12_188, s_X12_in⟩ rfl (by decide) rfl rfl ⟨by decide, by decide⟩ (zc_X12_in rfl jkl_0 rfl (fun v8 ev8 => ?_))
    show jX m_X12_isLine 7 0 0 15 [(0, .ref 125), (1, .int v3)] [.int v8] _ 0 0 _
    refine x_zret rfl rfl (jz01 (by omega)) ?_
    show jX m_X12_isMention 8 0 0 11 [(0, .ref 125), (1, .int a1)] [.int v8] _ 0 0 _
    refine x_ifeq (tgt := 34) rfl rfl (ti_eq rfl jk_0 ⟨fun c9 => ?_, fun c9 => ?_⟩)
    ·
      refine x_iconst (v := 0) rfl ki_0 ?_
      refine x_zret rfl rfl (by decide) ?_
      show jX m_X12_soulAt 9 0 0 5 [(0, .ref 125), (1, .int a1), (2, .int a3)] [.int 0] _ 0 0 _
      refine x_ifeq (tgt := 15) rfl rfl (ti_eq jk_0 jk_0 (br_t (by omega) ?_))
      refine x_iconst (v := (-1)) rfl ki_m1 ?_
      refine x_iret rfl rfl ?_
      show jX m_X12_about 10 0 0 11 [(0, .ref 125), (1, .int a1), (2, .int a2), (3, .int a3), (4, .int a4)] [.int (-1)] _ 0 0 _
      refine x_istore (lsx9 := [(5, .int (-1)), (0, .ref 125), (1, .int a1), (2, .int a2), (3, .int a3), (4, .int a4)]) rfl rfl rfl ?_
      refine x_iload (x := (-1)) rfl rfl ?_
      refine x_iconst (v := (-1)) rfl ki_m1 ?_
      refine x_iceq (tgt := 39) rfl rfl (ti_eq jk_m1 jk_m1 (br_t (by omega) ?_))
      exact jX.sub jsb_n (ct_X12_about_r125_39 hD hQ  h J Sm)
    ·
      refine x_iloadn (x := a1) rfl rfl ?_
      refine x_iconst (v := 3) rfl ki_3 ?_
      refine z_irem rfl rfl jk_3 (by omega) (by omega) (fun v10 ev10 => ?_)
      refine x_aloadn (x := 125) rfl rfl ?_
      refine x_iloadn (x := a1) rfl rfl ?_
      refine x_iconst (v := 3) rfl ki_3 ?_
      refine z_idiv rfl rfl jk_3 (by omega) (by omega) (fun v11 ev11 => ?_)
      refine x_inv (N := m_X12_bookOf) (As := [.int v11]) (b := 125) (st := [.int v10]) (dx9 := 7) (mc := 0) (ms := 0) (host := "") 12 rfl t_X12_bookOf ⟨Or.inl q_12_299, i_X12_bookOf.1, i_X12_bookOf.2⟩ ⟨by decide, rfl⟩ (congrArg Prod.fst (J.1.1 125 (12, 92) rfl)) rfl (by decide) rfl rfl ⟨by decide, by decide⟩ (jC.of rfl k_X12_bookOf rfl ?_)
      show jX m_X12_bookOf 7 0 0 0 [(0, .ref 125), (1, .int v11)] [] _ 0 0 _
      refine x_aloadn (x := 125) rfl rfl ?_
      refine z_getR (N := 92) (b := 126) 12 2 rfl f_12_8 rfl J rfl 16002 ⟨rfl, rfl⟩ rfl ?_
      refine x_aloadn (x := 125) rfl rfl ?_
      refine x_iloadn (x := v11) rfl rfl ?_
      refine x_inv (N := m_X12_at) (As := [.int v11]) (b := 125) (st := [.ref 126]) (dx9 := 6) (mc := 0) (ms := 0) (host := "") 12 rfl t_X12_at ⟨Or.inl q_12_254, i_X12_at.1, i_X12_at.2⟩ ⟨by decide, rfl⟩ (congrArg Prod.fst (J.1.1 125 (12, 92) rfl)) rfl (by decide) rfl rfl ⟨by decide, by decide⟩ (jC.of rfl k_X12_at rfl ?_)
      show jX m_X12_at 6 0 0 0 [(0, .ref 125), (1, .int v11)] [] _ 0 0 _
      refine x_bipush (v := 20) rfl kb_20 ?_
      refine x_bipush (v := 90) rfl kb_90 ?_
      refine x_iloadn (x := v11) rfl rfl ?_
      refine z_imul rfl jk_90 rfl (by omega) (fun v12 ev12 => ?_)
      refine z_iadd rfl jk_20 rfl (by omega) (fun v13 ev13 => ?_)
      refine x_iret rfl rfl ?_
      show jX m_X12_bookOf 7 0 0 9 [(0, .ref 125), (1, .int v11)] [.int v13, .ref 126] _ 0 0 _
      refine z_iald (N := 50660) rfl J rfl sg_126_20_18020_90_0_1 rfl (by omega) (fun v14 qv14 ev14 => ?_)
      refine x_iret rfl rfl ?_
      show jX m_X12_isMention 8 0 0 24 [(0, .ref 125), (1, .int a1)] [.int v14, .int v10] _ 0 0 _
      refine x_inst (N := m_X12_rolesOf) (As := [.int v14]) (st := [.int v10]) (dx9 := 7) (mc := 0) (ms := 0) (host := "") rfl t_X12_rolesOf ⟨Or.inl q_12_286, s_X12_rolesOf⟩ rfl (by decide) rfl rfl ⟨by decide, by decide⟩ (jC.of rfl k_X12_rolesOf rfl ?_)
      show jX m_X12_rolesOf 7 0 0 0 [(0, .int v14)] [] _ 0 0 _
      refine x_iloadn (x := v14) rfl rfl ?_
      refine x_ifne (tgt := 8) rfl rfl (ti_ne rfl jk_0 ⟨fun c15 => ?_, fun c15 => ?_⟩)
      ·
        refine x_iloadn (x := v14) rfl rfl ?_
        refine x_iconst (v := 1) rfl ki_1 ?_
        refine x_icne (tgt := 17) rfl rfl (ti_ne rfl jk_1 ⟨fun c16 => ?_, fun c16 => ?_⟩)
        ·
          refine x_iconst (v := 1) rfl ki_1 ?_
          refine x_iret rfl rfl ?_
          show jX m_X12_isMention 8 0 0 27 [(0, .ref 125), (1, .int a1)] [.int 1, .int v10] _ 0 0 _
          refine x_icge (tgt := 34) rfl rfl (ti_ge rfl jk_1 ⟨fun c17 => ?_, fun c17 => ?_⟩)
          ·
            refine x_iconst (v := 0) rfl ki_0 ?_
            refine x_zret rfl rfl (by decide) ?_
            show jX m_X12_soulAt 9 0 0 5 [(0, .ref 125), (1, .int a1), (2, .int a3)] [.int 0] _ 0 0 _
            refine x_ifeq (tgt := 15) rfl rfl (ti_eq jk_0 jk_0 (br_t (by omega) ?_))
            refine x_iconst (v := (-1)) rfl ki_m1 ?_
            refine x_iret rfl rfl ?_
            show jX m_X12_about 10 0 0 11 [(0, .ref 125), (1, .int a1), (2, .int a2), (3, .int a3), (4, .int a4)] [.int (-1)] _ 0 0 _
            refine x_istore (lsx9 := [(5, .int (-1)), (0, .ref 125), (1, .int a1), (2, .int a2), (3, .int a3), (4, .int a4)]) rfl rfl rfl ?_
            refine x_iload (x := (-1)) rfl rfl ?_
            refine x_iconst (v := (-1)) rfl ki_m1 ?_
            refine x_iceq (tgt := 39) rfl rfl (ti_eq jk_m1 jk_m1 (br_t (by omega) ?_))
            exact jX.sub jsb_n (ct_X12_about_r125_39 hD hQ  h J Sm)
          ·
            refine x_iconst (v := 1) rfl ki_1 ?_
            refine x_goto (tgt := 35) rfl rfl ?_
            refine x_zret rfl rfl (by decide) ?_
            show jX m_X12_soulAt 9 0 0 5 [(0, .ref 125), (1, .int a1), (2, .int a3)] [.int 1] _ 0 0 _
            refine x_ifeq (tgt := 15) rfl rfl (ti_eq jk_1 jk_0 (br_f (by omega) ?_))
            refine x_iloadn (x := a3) rfl rfl ?_
            refine x_inst (N := m_X12_isDay) (As := [.int a3]) (st := []) (dx9 := 2) (mc := 0) (ms := 0) (host := "") rfl t_X12_isDay ⟨Or.inl q_12_273, s_X12_isDay⟩ rfl (by decide) rfl rfl ⟨by decide, by decide⟩ (zc_X12_isDay (d := 1) rfl (fun v18 ev18 => ?_))
            show jX m_X12_soulAt 9 0 0 12 [(0, .ref 125), (1, .int a1), (2, .int a3)] [.int v18] _ 0 0 _
            refine x_ifne (tgt := 17) rfl rfl (ti_ne rfl jk_0 ⟨fun c19 => ?_, fun c19 => ?_⟩)
            ·
              refine x_aloadn (x := 125) rfl rfl ?_
              refine x_iloadn (x := a3) rfl rfl ?_
              refine x_inv (N := m_X12_find) (As := [.int a3]) (b := 125) (st := []) (dx9 := 8) (mc := 0) (ms := 0) (host := "") 12 rfl t_X12_find ⟨Or.inl q_12_393, i_X12_find.1, i_X12_find.2⟩ ⟨by decide, rfl⟩ (congrArg Prod.fst (J.1.1 125 (12, 92) rfl)) rfl (by decide) rfl rfl ⟨by decide, by decide⟩ (sf_X12_find_r125 (jr_of rfl (by omega)) hD J  (fun h J S20 => ?_))
              have Sm := jSm_tr rfl Sm S20
              show jX m_X12_soulAt 9 0 0 22 [(0, .ref 125), (1, .int a1), (2, .int a3)] [] _ 0 0 _
              refine x_aloadn (x := 125) rfl rfl ?_
              refine z_getR (N := 92) (b := 139) 12 29 rfl f_12_72 rfl J rfl 16029 ⟨rfl, rfl⟩ rfl ?_
              refine x_iloadn (x := a1) rfl rfl ?_
              refine z_iald (N := 600) rfl J rfl sg_139_0_600_1_0_1 rfl (by omega) (fun v21 qv21 ev21 => ?_)
              refine x_iret rfl rfl ?_
              show jX m_X12_about 10 0 0 11 [(0, .ref 125), (1, .int a1), (2, .int a2), (3, .int a3), (4, .int a4)] [.int v21] _ 0 0 _
              refine x_istore (lsx9 := [(5, .int v21), (0, .ref 125), (1, .int a1), (2, .int a2), (3, .int a3), (4, .int a4)]) rfl rfl rfl ?_
              refine x_iload (x := v21) rfl rfl ?_
              refine x_iconst (v := (-1)) rfl ki_m1 ?_
              refine x_iceq (tgt := 39) rfl rfl (ti_eq rfl jk_m1 ⟨fun c22 => ?_, fun c22 => ?_⟩)
              ·
                exact jX.sub jsb_n (ct_X12_about_r125_39 hD hQ  h J Sm)
              ·
                refine x_iloadn (x := a2) rfl rfl ?_
                refine x_inst (N := m_X12_isDay) (As := [.int a2]) (st := []) (dx9 := 2) (mc := 0) (ms := 0) (host := "") rfl t_X12_isDay ⟨Or.inl q_12_273, s_X12_isDay⟩ rfl (by decide) rfl rfl ⟨by decide, by decide⟩ (zc_X12_isDay (d := 1) rfl (fun v23 ev23 => ?_))
                show jX m_X12_about 10 0 0 23 [(5, .int v21), (0, .ref 125), (1, .int a1), (2, .int a2), (3, .int a3), (4, .int a4)] [.int v23] _ 0 0 _
                refine x_ifeq (tgt := 39) rfl rfl (ti_eq rfl jk_0 ⟨fun c24 => ?_, fun c24 => ?_⟩)
                ·
                  exact jX.sub jsb_n (ct_X12_about_r125_39 hD hQ  h J Sm)
                ·
                  refine x_iload (x := a4) rfl rfl ?_
                  refine z_i2l rfl rfl (fun v25 ev25 => ?_)
                  refine x_lconst (v := 0) rfl kl_0 ?_
                  refine x_ldc2 (v := 9) rfl z_12_505 ?_
                  refine x_inst (N := m_X12_in) (As := [.long v25, .long 0, .long 9]) (st := []) (dx9 := 1) (mc := 0) (ms := 0) (host := "") rfl t_X12_in ⟨Or.inl q_12_188, s_X12_in⟩ rfl (by decide) rfl rfl ⟨by decide, by decide⟩ (zc_X12_in rfl jkl_0 jkl_9 (fun v26 ev26 => ?_))
                  show jX m_X12_about 10 0 0 36 [(5, .int v21), (0, .ref 125), (1, .int a1), (2, .int a2), (3, .int a3), (4, .int a4)] [.int v26] _ 0 0 _
                  refine x_ifne (tgt := 45) rfl rfl (ti_ne rfl jk_0 ⟨fun c27 => ?_, fun c27 => ?_⟩)
                  ·
                    refine x_aloadn (x := 125) rfl rfl ?_
                    refine x_iload (x := v21) rfl rfl ?_
                    refine x_iloadn (x := a2) rfl rfl ?_
                    refine x_iload (x := a4) rfl rfl ?_
                    refine x_inv (N := m_X12_fact2) (As := [.int v21, .int a2, .int a4]) (b := 125) (st := []) (dx9 := 8) (mc := 0) (ms := 0) (host := "") 12 rfl t_X12_fact2 ⟨Or.inl q_12_722, i_X12_fact2.1, i_X12_fact2.2⟩ ⟨by decide, rfl⟩ (congrArg Prod.fst (J.1.1 125 (12, 92) rfl)) rfl (by decide) rfl rfl ⟨by decide, by decide⟩ (sf_X12_fact2_r125 (jr_of rfl (by omega)) (jr_of rfl (by omega)) hD J  (fun v29 h J S28 => ?_))
                    have ev29 := jfullL v29
                    have Sm := jSm_tr rfl Sm S28
                    show jX m_X12_about 10 0 0 54 [(5, .int v21), (0, .ref 125), (1, .int a1), (2, .int a2), (3, .int a3), (4, .int a4)] [.long v29] _ 0 0 _
                    exact jX.sub jsb_n (ct_X12_about_r125_54 hD hQ  v29 h J Sm)
                  ·
                    exact jX.sub jsb_n (ct_X12_about_r125_39 hD hQ  h J Sm)
            ·
              refine x_iconst (v := (-1)) rfl ki_m1 ?_
              refine x_iret rfl rfl ?_
              show jX m_X12_about 10 0 0 11 [(0, .ref 125), (1, .int a1), (2, .int a2), (3, .int a3), (4, .int a4)] [.int (-1)] _ 0 0 _
              refine x_istore (lsx9 := [(5, .int (-1)), (0, .ref 125), (1, .int a1), (2, .int a2), (3, .int a3), (4, .int a4)]) rfl rfl rfl ?_
              refine x_iload (x := (-1)) rfl rfl ?_
              refine x_iconst (v := (-1)) rfl ki_m1 ?_
              refine x_iceq (tgt := 39) rfl rfl (ti_eq jk_m1 jk_m1 (br_t (by omega) ?_))
              exact jX.sub jsb_n (ct_X12_about_r125_39 hD hQ  h J Sm)
        ·
          refine x_iconst (v := 2) rfl ki_2 ?_
          refine x_goto (tgt := 18) rfl rfl ?_
          refine x_iret rfl rfl ?_
          show jX m_X12_isMention 8 0 0 27 [(0, .ref 125), (1, .int a1)] [.int 2, .int v10] _ 0 0 _
          refine x_icge (tgt := 34) rfl rfl (ti_ge rfl jk_2 ⟨fun c30 => ?_, fun c30 => ?_⟩)
          ·
            refine x_iconst (v := 0) rfl ki_0 ?_
            refine x_zret rfl rfl (by decide) ?_
            show jX m_X12_soulAt 9 0 0 5 [(0, .ref 125), (1, .int a1), (2, .int a3)] [.int 0] _ 0 0 _
            refine x_ifeq (tgt := 15) rfl rfl (ti_eq jk_0 jk_0 (br_t (by omega) ?_))
            refine x_iconst (v := (-1)) rfl ki_m1 ?_
            refine x_iret rfl rfl ?_
            show jX m_X12_about 10 0 0 11 [(0, .ref 125), (1, .int a1), (2, .int a2), (3, .int a3), (4, .int a4)] [.int (-1)] _ 0 0 _
            refine x_istore (lsx9 := [(5, .int (-1)), (0, .ref 125), (1, .int a1), (2, .int a2), (3, .int a3), (4, .int a4)]) rfl rfl rfl ?_
            refine x_iload (x := (-1)) rfl rfl ?_
            refine x_iconst (v := (-1)) rfl ki_m1 ?_
            refine x_iceq (tgt := 39) rfl rfl (ti_eq jk_m1 jk_m1 (br_t (by omega) ?_))
            exact jX.sub jsb_n (ct_X12_about_r125_39 hD hQ  h J Sm)
          ·
            refine x_iconst (v := 1) rfl ki_1 ?_
            refine x_goto (tgt := 35) rfl rfl ?_
            refine x_zret rfl rfl (by decide) ?_
            show jX m_X12_soulAt 9 0 0 5 [(0, .ref 125), (1, .int a1), (2, .int a3)] [.int 1] _ 0 0 _
            refine x_ifeq (tgt := 15) rfl rfl (ti_eq jk_1 jk_0 (br_f (by omega) ?_))
            refine x_iloadn (x := a3) rfl rfl ?_
            refine x_inst (N := m_X12_isDay) (As := [.int a3]) (st := []) (dx9 := 2) (mc := 0) (ms := 0) (host := "") rfl t_X12_isDay ⟨Or.inl q_12_273, s_X12_isDay⟩ rfl (by decide) rfl rfl ⟨by decide, by decide⟩ (zc_X12_isDay (d := 1) rfl (fun v31 ev31 => ?_))
            show jX m_X12_soulAt 9 0 0 12 [(0, .ref 125), (1, .int a1), (2, .int a3)] [.int v31] _ 0 0 _
            refine x_ifne (tgt := 17) rfl rfl (ti_ne rfl jk_0 ⟨fun c32 => ?_, fun c32 => ?_⟩)
            ·
              refine x_aloadn (x := 125) rfl rfl ?_
              refine x_iloadn (x := a3) rfl rfl ?_
              refine x_inv (N := m_X12_find) (As := [.int a3]) (b := 125) (st := []) (dx9 := 8) (mc := 0) (ms := 0) (host := "") 12 rfl t_X12_find ⟨Or.inl q_12_393, i_X12_find.1, i_X12_find.2⟩ ⟨by decide, rfl⟩ (congrArg Prod.fst (J.1.1 125 (12, 92) rfl)) rfl (by decide) rfl rfl ⟨by decide, by decide⟩ (sf_X12_find_r125 (jr_of rfl (by omega)) hD J  (fun h J S33 => ?_))
              have Sm := jSm_tr rfl Sm S33
              show jX m_X12_soulAt 9 0 0 22 [(0, .ref 125), (1, .int a1), (2, .int a3)] [] _ 0 0 _
              refine x_aloadn (x := 125) rfl rfl ?_
              refine z_getR (N := 92) (b := 139) 12 29 rfl f_12_72 rfl J rfl 16029 ⟨rfl, rfl⟩ rfl ?_
              refine x_iloadn (x := a1) rfl rfl ?_
              refine z_iald (N := 600) rfl J rfl sg_139_0_600_1_0_1 rfl (by omega) (fun v34 qv34 ev34 => ?_)
              refine x_iret rfl rfl ?_
              show jX m_X12_about 10 0 0 11 [(0, .ref 125), (1, .int a1), (2, .int a2), (3, .int a3), (4, .int a4)] [.int v34] _ 0 0 _
              refine x_istore (lsx9 := [(5, .int v34), (0, .ref 125), (1, .int a1), (2, .int a2), (3, .int a3), (4, .int a4)]) rfl rfl rfl ?_
              refine x_iload (x := v34) rfl rfl ?_
              refine x_iconst (v := (-1)) rfl ki_m1 ?_
              refine x_iceq (tgt := 39) rfl rfl (ti_eq rfl jk_m1 ⟨fun c35 => ?_, fun c35 => ?_⟩)
              ·
                exact jX.sub jsb_n (ct_X12_about_r125_39 hD hQ  h J Sm)
              ·
                refine x_iloadn (x := a2) rfl rfl ?_
                refine x_inst (N := m_X12_isDay) (As := [.int a2]) (st := []) (dx9 := 2) (mc := 0) (ms := 0) (host := "") rfl t_X12_isDay ⟨Or.inl q_12_273, s_X12_isDay⟩ rfl (by decide) rfl rfl ⟨by decide, by decide⟩ (zc_X12_isDay (d := 1) rfl (fun v36 ev36 => ?_))
                show jX m_X12_about 10 0 0 23 [(5, .int v34), (0, .ref 125), (1, .int a1), (2, .int a2), (3, .int a3), (4, .int a4)] [.int v36] _ 0 0 _
                refine x_ifeq (tgt := 39) rfl rfl (ti_eq rfl jk_0 ⟨fun c37 => ?_, fun c37 => ?_⟩)
                ·
                  exact jX.sub jsb_n (ct_X12_about_r125_39 hD hQ  h J Sm)
                ·
                  refine x_iload (x := a4) rfl rfl ?_
                  refine z_i2l rfl rfl (fun v38 ev38 => ?_)
                  refine x_lconst (v := 0) rfl kl_0 ?_
                  refine x_ldc2 (v := 9) rfl z_12_505 ?_
                  refine x_inst (N := m_X12_in) (As := [.long v38, .long 0, .long 9]) (st := []) (dx9 := 1) (mc := 0) (ms := 0) (host := "") rfl t_X12_in ⟨Or.inl q_12_188, s_X12_in⟩ rfl (by decide) rfl rfl ⟨by decide, by decide⟩ (zc_X12_in rfl jkl_0 jkl_9 (fun v39 ev39 => ?_))
                  show jX m_X12_about 10 0 0 36 [(5, .int v34), (0, .ref 125), (1, .int a1), (2, .int a2), (3, .int a3), (4, .int a4)] [.int v39] _ 0 0 _
                  refine x_ifne (tgt := 45) rfl rfl (ti_ne rfl jk_0 ⟨fun c40 => ?_, fun c40 => ?_⟩)
                  ·
                    refine x_aloadn (x := 125) rfl rfl ?_
                    refine x_iload (x := v34) rfl rfl ?_
                    refine x_iloadn (x := a2) rfl rfl ?_
                    refine x_iload (x := a4) rfl rfl ?_
                    refine x_inv (N := m_X12_fact2) (As := [.int v34, .int a2, .int a4]) (b := 125) (st := []) (dx9 := 8) (mc := 0) (ms := 0) (host := "") 12 rfl t_X12_fact2 ⟨Or.inl q_12_722, i_X12_fact2.1, i_X12_fact2.2⟩ ⟨by decide, rfl⟩ (congrArg Prod.fst (J.1.1 125 (12, 92) rfl)) rfl (by decide) rfl rfl ⟨by decide, by decide⟩ (sf_X12_fact2_r125 (jr_of rfl (by omega)) (jr_of rfl (by omega)) hD J  (fun v42 h J S41 => ?_))
                    have ev42 := jfullL v42
                    have Sm := jSm_tr rfl Sm S41
                    show jX m_X12_about 10 0 0 54 [(5, .int v34), (0, .ref 125), (1, .int a1), (2, .int a2), (3, .int a3), (4, .int a4)] [.long v42] _ 0 0 _
                    exact jX.sub jsb_n (ct_X12_about_r125_54 hD hQ  v42 h J Sm)
                  ·
                    exact jX.sub jsb_n (ct_X12_about_r125_39 hD hQ  h J Sm)
            ·
              refine x_iconst (v := (-1)) rfl ki_m1 ?_
              refine x_iret rfl rfl ?_
              show jX m_X12_about 10 0 0 11 [(0, .ref 125), (1, .int a1), (2, .int a2), (3, .int a3), (4, .int a4)] [.int (-1)] _ 0 0 _
              refine x_istore (lsx9 := [(5, .int (-1)), (0, .ref 125), (1, .int a1), (2, .int a2), (3, .int a3), (4, .int a4)]) rfl rfl rfl ?_
              refine x_iload (x := (-1)) rfl rfl ?_
              refine x_iconst (v := (-1)) rfl ki_m1 ?_
              refine x_iceq (tgt := 39) rfl rfl (ti_eq jk_m1 jk_m1 (br_t (by omega) ?_))
              exact jX.sub jsb_n (ct_X12_about_r125_39 hD hQ  h J Sm)
      ·
        refine x_iconst (v := 3) rfl ki_3 ?_
        refine x_goto (tgt := 18) rfl rfl ?_
        refine x_iret rfl rfl ?_
        show jX m_X12_isMention 8 0 0 27 [(0, .ref 125), (1, .int a1)] [.int 3, .int v10] _ 0 0 _
        refine x_icge (tgt := 34) rfl rfl (ti_ge rfl jk_3 (br_f (by omega) ?_))
        refine x_iconst (v := 1) rfl ki_1 ?_
        refine x_goto (tgt := 35) rfl rfl ?_
        refine x_zret rfl rfl (by decide) ?_
        show jX m_X12_soulAt 9 0 0 5 [(0, .ref 125), (1, .int a1), (2, .int a3)] [.int 1] _ 0 0 _
        refine x_ifeq (tgt := 15) rfl rfl (ti_eq jk_1 jk_0 (br_f (by omega) ?_))
        refine x_iloadn (x := a3) rfl rfl ?_
        refine x_inst (N := m_X12_isDay) (As := [.int a3]) (st := []) (dx9 := 2) (mc := 0) (ms := 0) (host := "") rfl t_X12_isDay ⟨Or.inl q_12_273, s_X12_isDay⟩ rfl (by decide) rfl rfl ⟨by decide, by decide⟩ (zc_X12_isDay (d := 1) rfl (fun v43 ev43 => ?_))
        show jX m_X12_soulAt 9 0 0 12 [(0, .ref 125), (1, .int a1), (2, .int a3)] [.int v43] _ 0 0 _
        refine x_ifne (tgt := 17) rfl rfl (ti_ne rfl jk_0 ⟨fun c44 => ?_, fun c44 => ?_⟩)
        ·
          refine x_aloadn (x := 125) rfl rfl ?_
          refine x_iloadn (x := a3) rfl rfl ?_
          refine x_inv (N := m_X12_find) (As := [.int a3]) (b := 125) (st := []) (dx9 := 8) (mc := 0) (ms := 0) (host := "") 12 rfl t_X12_find ⟨Or.inl q_12_393, i_X12_find.1, i_X12_find.2⟩ ⟨by decide, rfl⟩ (congrArg Prod.fst (J.1.1 125 (12, 92) rfl)) rfl (by decide) rfl rfl ⟨by decide, by decide⟩ (sf_X12_find_r125 (jr_of rfl (by omega)) hD J  (fun h J S45 => ?_))
          have Sm := jSm_tr rfl Sm S45
          show jX m_X12_soulAt 9 0 0 22 [(0, .ref 125), (1, .int a1), (2, .int a3)] [] _ 0 0 _
          refine x_aloadn (x := 125) rfl rfl ?_
          refine z_getR (N := 92) (b := 139) 12 29 rfl f_12_72 rfl J rfl 16029 ⟨rfl, rfl⟩ rfl ?_
          refine x_iloadn (x := a1) rfl rfl ?_
          refine z_iald (N := 600) rfl J rfl sg_139_0_600_1_0_1 rfl (by omega) (fun v46 qv46 ev46 => ?_)
          refine x_iret rfl rfl ?_
          show jX m_X12_about 10 0 0 11 [(0, .ref 125), (1, .int a1), (2, .int a2), (3, .int a3), (4, .int a4)] [.int v46] _ 0 0 _
          refine x_istore (lsx9 := [(5, .int v46), (0, .ref 125), (1, .int a1), (2, .int a2), (3, .int a3), (4, .int a4)]) rfl rfl rfl ?_
          refine x_iload (x := v46) rfl rfl ?_
          refine x_iconst (v := (-1)) rfl ki_m1 ?_
          refine x_iceq (tgt := 39) rfl rfl (ti_eq rfl jk_m1 ⟨fun c47 => ?_, fun c47 => ?_⟩)
          ·
            exact jX.sub jsb_n (ct_X12_about_r125_39 hD hQ  h J Sm)
          ·
            refine x_iloadn (x := a2) rfl rfl ?_
            refine x_inst (N := m_X12_isDay) (As := [.int a2]) (st := []) (dx9 := 2) (mc := 0) (ms := 0) (host := "") rfl t_X12_isDay ⟨Or.inl q_12_273, s_X12_isDay⟩ rfl (by decide) rfl rfl ⟨by decide, by decide⟩ (zc_X12_isDay (d := 1) rfl (fun v48 ev48 => ?_))
            show jX m_X12_about 10 0 0 23 [(5, .int v46), (0, .ref 125), (1, .int a1), (2, .int a2), (3, .int a3), (4, .int a4)] [.int v48] _ 0 0 _
            refine x_ifeq (tgt := 39) rfl rfl (ti_eq rfl jk_0 ⟨fun c49 => ?_, fun c49 => ?_⟩)
            ·
              exact jX.sub jsb_n (ct_X12_about_r125_39 hD hQ  h J Sm)
            ·
              refine x_iload (x := a4) rfl rfl ?_
              refine z_i2l rfl rfl (fun v50 ev50 => ?_)
              refine x_lconst (v := 0) rfl kl_0 ?_
              refine x_ldc2 (v := 9) rfl z_12_505 ?_
              refine x_inst (N := m_X12_in) (As := [.long v50, .long 0, .long 9]) (st := []) (dx9 := 1) (mc := 0) (ms := 0) (host := "") rfl t_X12_in ⟨Or.inl q_12_188, s_X12_in⟩ rfl (by decide) rfl rfl ⟨by decide, by decide⟩ (zc_X12_in rfl jkl_0 jkl_9 (fun v51 ev51 => ?_))
              show jX m_X12_about 10 0 0 36 [(5, .int v46), (0, .ref 125), (1, .int a1), (2, .int a2), (3, .int a3), (4, .int a4)] [.int v51] _ 0 0 _
              refine x_ifne (tgt := 45) rfl rfl (ti_ne rfl jk_0 ⟨fun c52 => ?_, fun c52 => ?_⟩)
              ·
                refine x_aloadn (x := 125) rfl rfl ?_
                refine x_iload (x := v46) rfl rfl ?_
                refine x_iloadn (x := a2) rfl rfl ?_
                refine x_iload (x := a4) rfl rfl ?_
                refine x_inv (N := m_X12_fact2) (As := [.int v46, .int a2, .int a4]) (b := 125) (st := []) (dx9 := 8) (mc := 0) (ms := 0) (host := "") 12 rfl t_X12_fact2 ⟨Or.inl q_12_722, i_X12_fact2.1, i_X12_fact2.2⟩ ⟨by decide, rfl⟩ (congrArg Prod.fst (J.1.1 125 (12, 92) rfl)) rfl (by decide) rfl rfl ⟨by decide, by decide⟩ (sf_X12_fact2_r125 (jr_of rfl (by omega)) (jr_of rfl (by omega)) hD J  (fun v54 h J S53 => ?_))
                have ev54 := jfullL v54
                have Sm := jSm_tr rfl Sm S53
                show jX m_X12_about 10 0 0 54 [(5, .int v46), (0, .ref 125), (1, .int a1), (2, .int a2), (3, .int a3), (4, .int a4)] [.long v54] _ 0 0 _
                exact jX.sub jsb_n (ct_X12_about_r125_54 hD hQ  v54 h J Sm)
              ·
                exact jX.sub jsb_n (ct_X12_about_r125_39 hD hQ  h J Sm)
        ·
          refine x_iconst (v := (-1)) rfl ki_m1 ?_
          refine x_iret rfl rfl ?_
          show jX m_X12_about 10 0 0 11 [(0, .ref 125), (1, .int a1), (2, .int a2), (3, .int a3), (4, .int a4)] [.int (-1)] _ 0 0 _
          refine x_istore (lsx9 := [(5, .int (-1)), (0, .ref 125), (1, .int a1), (2, .int a2), (3, .int a3), (4, .int a4)]) rfl rfl rfl ?_
          refine x_iload (x := (-1)) rfl rfl ?_
          refine x_iconst (v := (-1)) rfl ki_m1 ?_
          refine x_iceq (tgt := 39) rfl rfl (ti_eq jk_m1 jk_m1 (br_t (by omega) ?_))
          exact jX.sub jsb_n (ct_X12_about_r125_39 hD hQ  h J Sm)
def fp_X12_told_r125 : jFp := [(125, 1, 2)]
set_option maxRecDepth 100000 in
set_option maxHeartbeats 4000000 in
theorem ct_X12_told_r125_10 {Dy : jH → Prop} {h0 : jH} {Q : Option Value → jH → Prop} (hD : jDk Dy) (hQ : ∀ (v : Int32) hx9, jJ jSgM Dy hx9 → jSm fp_X12_told_r125 h0 hx9 → Q (some (.int v)) hx9) : ∀ (l1 : Int32) (s0 : Int32) (h : jH), (-2147483648) ≤ l1.toInt ∧ l1.toInt ≤ (-1) → (-2147483648) ≤ s0.toInt ∧ s0.toInt ≤ (-1) → jJ jSgM Dy h → jSm fp_X12_told_r125 h0 h → jX m_X12_told 1 0 0 10 [(1, .int l1)] [.int s0, .ref 125] h 0 0 Q := by
  intro l1 s0 h y0 y1   J Sm
  refine z_putI (N := 92) (w := s0.toInt) 12 1 rfl f_12_183 rfl (jfin_no TX12 RX12 92 rfl rfl) hD J Sm rfl rfl rfl (pw_125_1 (by omega)) rfl (fun h w1 J Sm => ?_)
  refine x_iloadn (x := l1) rfl rfl ?_
  refine x_iret rfl rfl ?_
  exact hQ _ _ J Sm
set_option maxRecDepth 100000 in
set_option maxHeartbeats 4000000 in
theorem ct_X12_told_r125_200010 {Dy : jH → Prop} {h0 : jH} {Q : Option Value → jH → Prop} (hD : jDk Dy) (hQ : ∀ (v : Int32) hx9, jJ jSgM Dy hx9 → jSm fp_X12_told_r125 h0 hx9 → Q (some (.int v)) hx9) : ∀ (l1 : Int32) (h : jH), 0 ≤ l1.toInt ∧ l1.toInt ≤ 2147483647 → jJ jSgM Dy h → jSm fp_X12_told_r125 h0 h → jX m_X12_told 1 0 0 10 [(1, .int l1)] [.int 0, .ref 125] h 0 0 Q := by
  intro l1 h y0   J Sm
  refine z_putI (N := 92) (w := 0) 12 1 rfl f_12_183 rfl (jfin_no TX12 RX12 92 rfl rfl) hD J Sm rfl rfl jk_0 (pw_125_1 (by omega)) rfl (fun h w1 J Sm => ?_)
  refine x_iloadn (x := l1) rfl rfl ?_
  refine x_iret rfl rfl ?_
  exact hQ _ _ J Sm
set_option maxRecDepth 100000 in
set_option maxHeartbeats 4000000 in
theorem sf_X12_told_r125 {Dy : jH → Prop} {h : jH} {Q : Option Value → jH → Prop} {a1 : Int32} (hD : jDk Dy) (J : jJ jSgM Dy h) (hQ : ∀ (v : Int32) hx9, jJ jSgM Dy hx9 → jSm fp_X12_told_r125 h hx9 → Q (some (.int v)) hx9) : jC m_X12_told 1 0 0 [.ref 125, .int a1] h Q := by
  refine jC.of rfl k_X12_told rfl ?_
  have Sm := jSm_rf fp_X12_told_r125 h
  have ea1 := jfull a1
  show jX m_X12_told 1 0 0 0 [(0, .ref 125), (1, .int a1)] [] _ 0 0 _
  refine x_aloadn (x := 125) rfl rfl ?_
  refine x_iloadn (x := a1) rfl rfl ?_
  refine x_ifge (tgt := 9) rfl rfl (ti_ge rfl jk_0 ⟨fun c1 => ?_, fun c1 => ?_⟩)
  ·
    refine x_iconst (v := 0) rfl ki_0 ?_
    exact jX.sub (jsb_c rfl jsb_n) (ct_X12_told_r125_200010 hD hQ  a1 h (jr_of rfl (by omega)) J Sm)
  ·
    refine x_iloadn (x := a1) rfl rfl ?_
    refine x_goto (tgt := 10) rfl rfl ?_
    exact jX.sub (jsb_c rfl jsb_n) (ct_X12_told_r125_10 hD hQ  a1 a1 h (jr_of rfl (by omega)) (jr_of rfl (by omega)) J Sm)
def fp_X12_acres_r125 : jFp := [(125, 0, 1), (125, 1, 2), (173, 0, 120)]
set_option maxRecDepth 100000 in
set_option maxHeartbeats 4000000 in
theorem ct_X12_acres_r125_29 {Dy : jH → Prop} {h0 : jH} {Q : Option Value → jH → Prop} (hD : jDk Dy) (hQ : ∀ (v : Int32) hx9, jJ jSgM Dy hx9 → jSm fp_X12_acres_r125 h0 hx9 → Q (some (.int v)) hx9) : ∀ (h : jH), jJ jSgM Dy h → jSm fp_X12_acres_r125 h0 h → jX m_X12_acres 3 0 0 29 [(0, .ref 125)] [] h 0 0 Q := by
  intro  h    J Sm
  refine x_aloadn (x := 125) rfl rfl ?_
  refine x_iconst (v := (-1)) rfl ki_m1 ?_
  refine x_inv (N := m_X12_told) (As := [.int (-1)]) (b := 125) (st := []) (dx9 := 1) (mc := 0) (ms := 0) (host := "") 12 rfl t_X12_told ⟨Or.inl q_12_197, i_X12_told.1, i_X12_told.2⟩ ⟨by decide, rfl⟩ (congrArg Prod.fst (J.1.1 125 (12, 92) rfl)) rfl (by decide) rfl rfl ⟨by decide, by decide⟩ (sf_X12_told_r125  hD J  (fun v2 h J S1 => ?_))
  have ev2 := jfull v2
  have Sm := jSm_tr rfl Sm S1
  show jX m_X12_acres 3 0 0 34 [(0, .ref 125)] [.int v2] _ 0 0 _
  refine x_iret rfl rfl ?_
  exact hQ _ _ J Sm
set_option maxRecDepth 100000 in
set_option maxHeartbeats 4000000 in
theorem sf_X12_acres_r125 {Dy : jH → Prop} {h : jH} {Q : Option Value → jH → Prop} {a1 : Int32} {a2 : Int32} {a3 : Int32} (hD : jDk Dy) (J : jJ jSgM Dy h) (hQ : ∀ (v : Int32) hx9, jJ jSgM Dy hx9 → jSm fp_X12_acres_r125 h hx9 → Q (some (.int v)) hx9) : jC m_X12_acres 3 0 0 [.ref 125, .int a1, .int a2, .int a3] h Q := by
  refine jC.of rfl k_X12_acres rfl ?_
  have Sm := jSm_rf fp_X12_acres_r125 h
  have ea1 := jfull a1
  have ea2 := jfull a2
  have ea3 := jfull a3
  show jX m_X12_acres 3 0 0 0 [(0, .ref 125), (1, .int a1), (2, .int a2), (3, .int a3)] [] _ 0 0 _
  refine x_aloadn (x := 125) rfl rfl ?_
  refine x_iconst (v := 0) rfl ki_0 ?_
  refine z_putI (N := 92) (w := 0) 12 0 rfl f_12_180 rfl (jfin_no TX12 RX12 92 rfl rfl) hD J Sm rfl rfl jk_0 (pw_125_0 (by omega)) rfl (fun h w1 J Sm => ?_)
  refine x_iloadn (x := a2) rfl rfl ?_
  refine z_i2l rfl rfl (fun v2 ev2 => ?_)
  refine x_lconst (v := 0) rfl kl_0 ?_
  refine x_ldc2 (v := 2) rfl z_12_482 ?_
  refine x_inst (N := m_X12_in) (As := [.long v2, .long 0, .long 2]) (st := []) (dx9 := 1) (mc := 0) (ms := 0) (host := "") rfl t_X12_in ⟨Or.inl q_12_188, s_X12_in⟩ rfl (by decide) rfl rfl ⟨by decide, by decide⟩ (zc_X12_in rfl jkl_0 jkl_2 (fun v3 ev3 => ?_))
  show jX m_X12_acres 3 0 0 14 [(0, .ref 125), (1, .int a1), (2, .int a2), (3, .int a3)] [.int v3] _ 0 0 _
  refine x_ifeq (tgt := 29) rfl rfl (ti_eq rfl jk_0 ⟨fun c4 => ?_, fun c4 => ?_⟩)
  ·
    exact jX.sub (jsb_c rfl jsb_n) (ct_X12_acres_r125_29 hD hQ  h J Sm)
  ·
    refine x_iloadn (x := a3) rfl rfl ?_
    refine z_i2l rfl rfl (fun v5 ev5 => ?_)
    refine x_lconst (v := 0) rfl kl_0 ?_
    refine x_ldc2 (v := 1000) rfl z_12_466 ?_
    refine x_inst (N := m_X12_in) (As := [.long v5, .long 0, .long 1000]) (st := []) (dx9 := 1) (mc := 0) (ms := 0) (host := "") rfl t_X12_in ⟨Or.inl q_12_188, s_X12_in⟩ rfl (by decide) rfl rfl ⟨by decide, by decide⟩ (zc_X12_in rfl jkl_0 jkl_1000 (fun v6 ev6 => ?_))
    show jX m_X12_acres 3 0 0 26 [(0, .ref 125), (1, .int a1), (2, .int a2), (3, .int a3)] [.int v6] _ 0 0 _
    refine x_ifne (tgt := 35) rfl rfl (ti_ne rfl jk_0 ⟨fun c7 => ?_, fun c7 => ?_⟩)
    ·
      refine x_aloadn (x := 125) rfl rfl ?_
      refine x_iloadn (x := a1) rfl rfl ?_
      refine x_inv (N := m_X12_isHolding) (As := [.int a1]) (b := 125) (st := []) (dx9 := 2) (mc := 0) (ms := 0) (host := "") 12 rfl t_X12_isHolding ⟨Or.inl q_12_811, i_X12_isHolding.1, i_X12_isHolding.2⟩ ⟨by decide, rfl⟩ (congrArg Prod.fst (J.1.1 125 (12, 92) rfl)) rfl (by decide) rfl rfl ⟨by decide, by decide⟩ (jC.of rfl k_X12_isHolding rfl ?_)
      show jX m_X12_isHolding 2 0 0 0 [(0, .ref 125), (1, .int a1)] [] _ 0 0 _
      refine x_iloadn (x := a1) rfl rfl ?_
      refine z_i2l rfl rfl (fun v8 ev8 => ?_)
      refine x_lconst (v := 0) rfl kl_0 ?_
      refine x_aloadn (x := 125) rfl rfl ?_
      refine z_getR (N := 92) (b := 126) 12 2 rfl f_12_8 rfl J rfl 16002 ⟨rfl, rfl⟩ rfl ?_
      refine x_bipush (v := 7) rfl kb_7 ?_
      refine z_iald (N := 50660) rfl J rfl sg_126_7_8_1_0_1 jk_7 (by omega) (fun v9 qv9 ev9 => ?_)
      refine z_i2l rfl rfl (fun v10 ev10 => ?_)
      refine x_lconst (v := 1) rfl kl_1 ?_
      refine z_lsub rfl rfl jkl_1 (by omega) (fun v11 ev11 => ?_)
      refine x_inst (N := m_X12_in) (As := [.long v8, .long 0, .long v11]) (st := []) (dx9 := 1) (mc := 0) (ms := 0) (host := "") rfl t_X12_in ⟨Or.inl q_12_188, s_X12_in⟩ rfl (by decide) rfl rfl ⟨by decide, by decide⟩ (zc_X12_in rfl jkl_0 rfl (fun v12 ev12 => ?_))
      show jX m_X12_isHolding 2 0 0 16 [(0, .ref 125), (1, .int a1)] [.int v12] _ 0 0 _
      refine x_zret rfl rfl (jz01 (by omega)) ?_
      show jX m_X12_acres 3 0 0 40 [(0, .ref 125), (1, .int a1), (2, .int a2), (3, .int a3)] [.int v12] _ 0 0 _
      refine x_ifne (tgt := 50) rfl rfl (ti_ne rfl jk_0 ⟨fun c13 => ?_, fun c13 => ?_⟩)
      ·
        refine x_aloadn (x := 125) rfl rfl ?_
        refine z_getR (N := 92) (b := 173) 12 88 rfl f_12_177 rfl J rfl 16088 ⟨rfl, rfl⟩ rfl ?_
        refine x_iconst (v := 3) rfl ki_3 ?_
        refine x_iloadn (x := a1) rfl rfl ?_
        refine z_imul rfl jk_3 rfl (by omega) (fun v14 ev14 => ?_)
        refine x_iloadn (x := a2) rfl rfl ?_
        refine z_iadd rfl rfl rfl (by omega) (fun v15 ev15 => ?_)
        refine x_iloadn (x := a3) rfl rfl ?_
        refine z_iast (N := 120) (l := 0) (u := 120) (w := a3.toInt) rfl hD J Sm rfl rfl rfl (by omega) rfl (wr_173 (fun q1 q2 q3 q4 => by omega)) rfl (fun h w16 J Sm => ?_)
        refine x_aloadn (x := 125) rfl rfl ?_
        refine x_iconst (v := 0) rfl ki_0 ?_
        refine x_inv (N := m_X12_told) (As := [.int 0]) (b := 125) (st := []) (dx9 := 1) (mc := 0) (ms := 0) (host := "") 12 rfl t_X12_told ⟨Or.inl q_12_197, i_X12_told.1, i_X12_told.2⟩ ⟨by decide, rfl⟩ (congrArg Prod.fst (J.1.1 125 (12, 92) rfl)) rfl (by decide) rfl rfl ⟨by decide, by decide⟩ (sf_X12_told_r125  hD J  (fun v18 h J S17 => ?_))
        have ev18 := jfull v18
        have Sm := jSm_tr rfl Sm S17
        show jX m_X12_acres 3 0 0 66 [(0, .ref 125), (1, .int a1), (2, .int a2), (3, .int a3)] [.int v18] _ 0 0 _
        refine x_iret rfl rfl ?_
        exact hQ _ _ J Sm
      ·
        refine x_aloadn (x := 125) rfl rfl ?_
        refine x_bipush (v := (-2)) rfl kb_m2 ?_
        refine x_inv (N := m_X12_told) (As := [.int (-2)]) (b := 125) (st := []) (dx9 := 1) (mc := 0) (ms := 0) (host := "") 12 rfl t_X12_told ⟨Or.inl q_12_197, i_X12_told.1, i_X12_told.2⟩ ⟨by decide, rfl⟩ (congrArg Prod.fst (J.1.1 125 (12, 92) rfl)) rfl (by decide) rfl rfl ⟨by decide, by decide⟩ (sf_X12_told_r125  hD J  (fun v20 h J S19 => ?_))
        have ev20 := jfull v20
        have Sm := jSm_tr rfl Sm S19
        show jX m_X12_acres 3 0 0 49 [(0, .ref 125), (1, .int a1), (2, .int a2), (3, .int a3)] [.int v20] _ 0 0 _
        refine x_iret rfl rfl ?_
        exact hQ _ _ J Sm
    ·
      exact jX.sub (jsb_c rfl jsb_n) (ct_X12_acres_r125_29 hD hQ  h J Sm)
def fp_X12_addYear_r125 : jFp := [(125, 89, 90), (125, 90, 91), (125, 91, 92)]
set_option maxRecDepth 100000 in
set_option maxHeartbeats 4000000 in
theorem ct_X12_addYear_r125_86 {Dy : jH → Prop} {h0 : jH} {Q : Option Value → jH → Prop} {R17 : Int} (hD : jDk Dy) (hQ : ∀ hx9, jJ jSgM Dy hx9 → jSm fp_X12_addYear_r125 h0 hx9 → Q none hx9) (k17 : ∀ (l1 : Int32) (l2 : Int32) (g0 : Int32) (h : jH), 200 - l2.toInt < R17 → 0 ≤ l1.toInt ∧ l1.toInt ≤ 399 → 0 ≤ l2.toInt ∧ l2.toInt ≤ 200 → jiv h 125 89 = g0 → jJ jSgM Dy h → jSm fp_X12_addYear_r125 h0 h → jX m_X12_addYear 3 0 0 17 [(0, .ref 125), (1, .int l1), (2, .int l2)] [] h 0 0 Q) : ∀ (l1 : Int32) (l2 : Int32) (g0 : Int32) (h : jH), 0 ≤ l1.toInt ∧ l1.toInt ≤ 399 → 0 ≤ l2.toInt ∧ l2.toInt ≤ 199 → jiv h 125 89 = g0 → 200 - l2.toInt ≤ R17 → jJ jSgM Dy h → jSm fp_X12_addYear_r125 h0 h → jX m_X12_addYear 3 0 0 86 [(0, .ref 125), (1, .int l1), (2, .int l2)] [] h 0 0 Q := by
  intro l1 l2 g0 h y0 y1 z0 m17 J Sm
  have eg0 := jfull g0
  refine z_iinc (x := l2) (lsx9 := fun v1 => [(2, .int v1), (0, .ref 125), (1, .int l1)]) rfl rfl rfl jko_1 (by omega) rfl (fun _ => rfl) (fun v1 ev1 => ?_)
  refine x_goto (tgt := 17) rfl rfl ?_
  exact jX.sub (jsb_c rfl (jsb_c rfl (jsb_c rfl jsb_n))) (k17 l1 v1 g0 h (by omega) (jr_of rfl (by omega)) (jr_of rfl (by omega)) z0 J Sm)
set_option maxRecDepth 100000 in
set_option maxHeartbeats 4000000 in
theorem ct_X12_addYear_r125_17 {Dy : jH → Prop} {h0 : jH} {Q : Option Value → jH → Prop} (hD : jDk Dy) (hQ : ∀ hx9, jJ jSgM Dy hx9 → jSm fp_X12_addYear_r125 h0 hx9 → Q none hx9) : ∀ r : Nat, ∀ (l1 : Int32) (l2 : Int32) (g0 : Int32) (h : jH), 200 - l2.toInt < (r : Int) → 0 ≤ l1.toInt ∧ l1.toInt ≤ 399 → 0 ≤ l2.toInt ∧ l2.toInt ≤ 200 → jiv h 125 89 = g0 → jJ jSgM Dy h → jSm fp_X12_addYear_r125 h0 h → jX m_X12_addYear 3 0 0 17 [(0, .ref 125), (1, .int l1), (2, .int l2)] [] h 0 0 Q := by
  intro r
  induction r with
  | zero =>
    intro l1 l2 g0 h hm y0 y1 z0  J Sm
    exfalso
    have eg0 := jfull g0
    omega
  | succ r ih =>
    intro l1 l2 g0 h hm y0 y1 z0  J Sm
    have eg0 := jfull g0
    refine x_iloadn (x := l2) rfl rfl ?_
    refine x_aloadn (x := 125) rfl rfl ?_
    refine z_getR (N := 92) (b := 126) 12 2 rfl f_12_8 rfl J rfl 16002 ⟨rfl, rfl⟩ rfl ?_
    refine x_iconst (v := 0) rfl ki_0 ?_
    refine z_iald (N := 50660) rfl J rfl sg_126_0_1_1_0_1 jk_0 (by omega) (fun v1 qv1 ev1 => ?_)
    refine x_icge (tgt := 92) rfl rfl (ti_ge rfl rfl ⟨fun c2 => ?_, fun c2 => ?_⟩)
    ·
      refine x_vret rfl rfl ?_
      exact hQ _ J Sm
    ·
      refine x_aloadn (x := 125) rfl rfl ?_
      refine x_iloadn (x := l2) rfl rfl ?_
      refine x_inv (N := m_X12_dayOf) (As := [.int l2]) (b := 125) (st := []) (dx9 := 2) (mc := 0) (ms := 0) (host := "") 12 rfl t_X12_dayOf ⟨Or.inl q_12_335, i_X12_dayOf.1, i_X12_dayOf.2⟩ ⟨by decide, rfl⟩ (congrArg Prod.fst (J.1.1 125 (12, 92) rfl)) rfl (by decide) rfl rfl ⟨by decide, by decide⟩ (jC.of rfl k_X12_dayOf rfl ?_)
      show jX m_X12_dayOf 2 0 0 0 [(0, .ref 125), (1, .int l2)] [] _ 0 0 _
      refine x_aloadn (x := 125) rfl rfl ?_
      refine z_getR (N := 92) (b := 126) 12 2 rfl f_12_8 rfl J rfl 16002 ⟨rfl, rfl⟩ rfl ?_
      refine x_aloadn (x := 125) rfl rfl ?_
      refine x_iloadn (x := l2) rfl rfl ?_
      refine x_inv (N := m_X12_at) (As := [.int l2]) (b := 125) (st := [.ref 126]) (dx9 := 1) (mc := 0) (ms := 0) (host := "") 12 rfl t_X12_at ⟨Or.inl q_12_254, i_X12_at.1, i_X12_at.2⟩ ⟨by decide, rfl⟩ (congrArg Prod.fst (J.1.1 125 (12, 92) rfl)) rfl (by decide) rfl rfl ⟨by decide, by decide⟩ (jC.of rfl k_X12_at rfl ?_)
      show jX m_X12_at 1 0 0 0 [(0, .ref 125), (1, .int l2)] [] _ 0 0 _
      refine x_bipush (v := 20) rfl kb_20 ?_
      refine x_bipush (v := 90) rfl kb_90 ?_
      refine x_iloadn (x := l2) rfl rfl ?_
      refine z_imul rfl jk_90 rfl (by omega) (fun v3 ev3 => ?_)
      refine z_iadd rfl jk_20 rfl (by omega) (fun v4 ev4 => ?_)
      refine x_iret rfl rfl ?_
      show jX m_X12_dayOf 2 0 0 9 [(0, .ref 125), (1, .int l2)] [.int v4, .ref 126] _ 0 0 _
      refine x_iconst (v := 2) rfl ki_2 ?_
      refine z_iadd rfl rfl jk_2 (by omega) (fun v5 ev5 => ?_)
      refine z_iald (N := 50660) rfl J rfl sg_126_20_18020_90_2_3 rfl (by omega) (fun v6 qv6 ev6 => ?_)
      refine x_iret rfl rfl ?_
      show jX m_X12_addYear 3 0 0 32 [(0, .ref 125), (1, .int l1), (2, .int l2)] [.int v6] _ 0 0 _
      refine x_sipush (v := 366) rfl ks_366 ?_
      refine z_idiv rfl rfl jk_366 (by omega) (by omega) (fun v7 ev7 => ?_)
      refine x_iloadn (x := l1) rfl rfl ?_
      refine x_icne (tgt := 86) rfl rfl (ti_ne rfl rfl ⟨fun c8 => ?_, fun c8 => ?_⟩)
      ·
        exact jX.sub (jsb_c rfl (jsb_c rfl (jsb_c rfl jsb_n))) (ct_X12_addYear_r125_86 hD hQ ih l1 l2 g0 h (jr_of rfl (by omega)) (jr_of rfl (by omega)) z0 (by omega) J Sm)
      ·
        refine x_aloadn (x := 125) rfl rfl ?_
        refine x_dup rfl rfl ?_
        refine z_getM (N := 92) (v := g0) 12 89 rfl f_12_863 rfl J rfl z0 ?_
        refine x_iconst (v := 1) rfl ki_1 ?_
        refine z_iadd0 rfl (fun v9 => ?_)
        have ev9 := jfull v9
        refine z_putI (N := 92) (w := v9.toInt) 12 89 rfl f_12_863 rfl (jfin_no TX12 RX12 92 rfl rfl) hD J Sm rfl rfl rfl (pw_125_89 trivial) rfl (fun h w10 J Sm => ?_)
        refine x_aloadn (x := 125) rfl rfl ?_
        refine x_dup rfl rfl ?_
        refine z_getL0 (N := 92) 12 90 rfl f_12_866 rfl J rfl (fun v11 => ?_)
        have ev11 := jfullL v11
        refine x_aloadn (x := 125) rfl rfl ?_
        refine x_iloadn (x := l2) rfl rfl ?_
        refine x_inv (N := m_X12_numberOf) (As := [.int l2]) (b := 125) (st := [.long v11, .ref 125]) (dx9 := 2) (mc := 0) (ms := 0) (host := "") 12 rfl t_X12_numberOf ⟨Or.inl q_12_296, i_X12_numberOf.1, i_X12_numberOf.2⟩ ⟨by decide, rfl⟩ (congrArg Prod.fst (J.1.1 125 (12, 92) rfl)) rfl (by decide) rfl rfl ⟨by decide, by decide⟩ (jC.of rfl k_X12_numberOf rfl ?_)
        show jX m_X12_numberOf 2 0 0 0 [(0, .ref 125), (1, .int l2)] [] _ 0 0 _
        refine x_aloadn (x := 125) rfl rfl ?_
        refine z_getR (N := 92) (b := 126) 12 2 rfl f_12_8 rfl J rfl 16002 ⟨rfl, rfl⟩ rfl ?_
        refine x_aloadn (x := 125) rfl rfl ?_
        refine x_iloadn (x := l2) rfl rfl ?_
        refine x_inv (N := m_X12_at) (As := [.int l2]) (b := 125) (st := [.ref 126]) (dx9 := 1) (mc := 0) (ms := 0) (host := "") 12 rfl t_X12_at ⟨Or.inl q_12_254, i_X12_at.1, i_X12_at.2⟩ ⟨by decide, rfl⟩ (congrArg Prod.fst (J.1.1 125 (12, 92) rfl)) rfl (by decide) rfl rfl ⟨by decide, by decide⟩ (jC.of rfl k_X12_at rfl ?_)
        show jX m_X12_at 1 0 0 0 [(0, .ref 125), (1, .int l2)] [] _ 0 0 _
        refine x_bipush (v := 20) rfl kb_20 ?_
        refine x_bipush (v := 90) rfl kb_90 ?_
        refine x_iloadn (x := l2) rfl rfl ?_
        refine z_imul rfl jk_90 rfl (by omega) (fun v12 ev12 => ?_)
        refine z_iadd rfl jk_20 rfl (by omega) (fun v13 ev13 => ?_)
        refine x_iret rfl rfl ?_
        show jX m_X12_numberOf 2 0 0 9 [(0, .ref 125), (1, .int l2)] [.int v13, .ref 126] _ 0 0 _
        refine x_iconst (v := 4) rfl ki_4 ?_
        refine z_iadd rfl rfl jk_4 (by omega) (fun v14 ev14 => ?_)
        refine z_iald0 (N := 50660) rfl J rfl rfl (by omega) (fun v15 qv15 => ?_)
        have ev15 := jfull v15
        refine x_iret rfl rfl ?_
        show jX m_X12_addYear 3 0 0 60 [(0, .ref 125), (1, .int l1), (2, .int l2)] [.int v15, .long v11, .ref 125] _ 0 0 _
        refine z_i2l rfl rfl (fun v16 ev16 => ?_)
        refine z_ladd0 rfl (fun v17 => ?_)
        have ev17 := jfullL v17
        refine z_putL (N := 92) 12 90 rfl f_12_866 rfl (jfin_no TX12 RX12 92 rfl rfl) hD J Sm rfl rfl rfl (fun h w18 J Sm => ?_)
        refine x_aloadn (x := 125) rfl rfl ?_
        refine x_dup rfl rfl ?_
        refine z_getL0 (N := 92) 12 91 rfl f_12_869 rfl J rfl (fun v19 => ?_)
        have ev19 := jfullL v19
        refine x_aloadn (x := 125) rfl rfl ?_
        refine x_iloadn (x := l2) rfl rfl ?_
        refine x_inv (N := m_X12_numberOf) (As := [.int l2]) (b := 125) (st := [.long v19, .ref 125]) (dx9 := 2) (mc := 0) (ms := 0) (host := "") 12 rfl t_X12_numberOf ⟨Or.inl q_12_296, i_X12_numberOf.1, i_X12_numberOf.2⟩ ⟨by decide, rfl⟩ (congrArg Prod.fst (J.1.1 125 (12, 92) rfl)) rfl (by decide) rfl rfl ⟨by decide, by decide⟩ (jC.of rfl k_X12_numberOf rfl ?_)
        show jX m_X12_numberOf 2 0 0 0 [(0, .ref 125), (1, .int l2)] [] _ 0 0 _
        refine x_aloadn (x := 125) rfl rfl ?_
        refine z_getR (N := 92) (b := 126) 12 2 rfl f_12_8 rfl J rfl 16002 ⟨rfl, rfl⟩ rfl ?_
        refine x_aloadn (x := 125) rfl rfl ?_
        refine x_iloadn (x := l2) rfl rfl ?_
        refine x_inv (N := m_X12_at) (As := [.int l2]) (b := 125) (st := [.ref 126]) (dx9 := 1) (mc := 0) (ms := 0) (host := "") 12 rfl t_X12_at ⟨Or.inl q_12_254, i_X12_at.1, i_X12_at.2⟩ ⟨by decide, rfl⟩ (congrArg Prod.fst (J.1.1 125 (12, 92) rfl)) rfl (by decide) rfl rfl ⟨by decide, by decide⟩ (jC.of rfl k_X12_at rfl ?_)
        show jX m_X12_at 1 0 0 0 [(0, .ref 125), (1, .int l2)] [] _ 0 0 _
        refine x_bipush (v := 20) rfl kb_20 ?_
        refine x_bipush (v := 90) rfl kb_90 ?_
        refine x_iloadn (x := l2) rfl rfl ?_
        refine z_imul rfl jk_90 rfl (by omega) (fun v20 ev20 => ?_)
        refine z_iadd rfl jk_20 rfl (by omega) (fun v21 ev21 => ?_)
        refine x_iret rfl rfl ?_
        show jX m_X12_numberOf 2 0 0 9 [(0, .ref 125), (1, .int l2)] [.int v21, .ref 126] _ 0 0 _
        refine x_iconst (v := 4) rfl ki_4 ?_
        refine z_iadd rfl rfl jk_4 (by omega) (fun v22 ev22 => ?_)
        refine z_iald0 (N := 50660) rfl J rfl rfl (by omega) (fun v23 qv23 => ?_)
        have ev23 := jfull v23
        refine x_iret rfl rfl ?_
        show jX m_X12_addYear 3 0 0 75 [(0, .ref 125), (1, .int l1), (2, .int l2)] [.int v23, .long v19, .ref 125] _ 0 0 _
        refine z_i2l rfl rfl (fun v24 ev24 => ?_)
        refine x_aloadn (x := 125) rfl rfl ?_
        refine z_getM (N := 92) (v := v9) 12 89 rfl f_12_863 rfl J rfl (jml w18 (jmw w10)) ?_
        refine z_i2l rfl rfl (fun v25 ev25 => ?_)
        refine z_lmul0 rfl (fun v26 => ?_)
        have ev26 := jfullL v26
        refine z_ladd0 rfl (fun v27 => ?_)
        have ev27 := jfullL v27
        refine z_putL (N := 92) 12 91 rfl f_12_869 rfl (jfin_no TX12 RX12 92 rfl rfl) hD J Sm rfl rfl rfl (fun h w28 J Sm => ?_)
        exact jX.sub (jsb_c rfl (jsb_c rfl (jsb_c rfl jsb_n))) (ct_X12_addYear_r125_86 hD hQ ih l1 l2 v9 h (jr_of rfl (by omega)) (jr_of rfl (by omega)) (jml w28 (jml w18 (jmw w10))) (by omega) J Sm)
set_option maxRecDepth 100000 in
set_option maxHeartbeats 4000000 in
theorem sf_X12_addYear_r125 {Dy : jH → Prop} {h : jH} {Q : Option Value → jH → Prop} {a1 : Int32} (y1 : 0 ≤ a1.toInt ∧ a1.toInt ≤ 399) (hD : jDk Dy) (J : jJ jSgM Dy h) (hQ : ∀ hx9, jJ jSgM Dy hx9 → jSm fp_X12_addYear_r125 h hx9 → Q none hx9) : jC m_X12_addYear 3 0 0 [.ref 125, .int a1] h Q := by
  refine jC.of rfl k_X12_addYear rfl ?_
  have Sm := jSm_rf fp_X12_addYear_r125 h
  show jX m_X12_addYear 3 0 0 0 [(0, .ref 125), (1, .int a1)] [] _ 0 0 _
  refine x_aloadn (x := 125) rfl rfl ?_
  refine x_iconst (v := 0) rfl ki_0 ?_
  refine z_putI (N := 92) (w := 0) 12 89 rfl f_12_863 rfl (jfin_no TX12 RX12 92 rfl rfl) hD J Sm rfl rfl jk_0 (pw_125_89 trivial) rfl (fun h w1 J Sm => ?_)
  refine x_aloadn (x := 125) rfl rfl ?_
  refine x_lconst (v := 0) rfl kl_0 ?_
  refine z_putL (N := 92) 12 90 rfl f_12_866 rfl (jfin_no TX12 RX12 92 rfl rfl) hD J Sm rfl rfl rfl (fun h w2 J Sm => ?_)
  refine x_aloadn (x := 125) rfl rfl ?_
  refine x_lconst (v := 0) rfl kl_0 ?_
  refine z_putL (N := 92) 12 91 rfl f_12_869 rfl (jfin_no TX12 RX12 92 rfl rfl) hD J Sm rfl rfl rfl (fun h w3 J Sm => ?_)
  refine x_iconst (v := 0) rfl ki_0 ?_
  refine x_istoren (lsx9 := [(2, .int 0), (0, .ref 125), (1, .int a1)]) rfl rfl rfl ?_
  exact jX.sub (jsb_c rfl (jsb_c rfl (jsb_c rfl jsb_n))) (ct_X12_addYear_r125_17 hD hQ  201 a1 0 0 h (by have := jk_0; omega) (jr_of rfl (by omega)) (jr_of jk_0 (by omega)) (jml w3 (jml w2 (jmw w1))) J Sm)
def fp_X12_aheadOf_r125 : jFp := []
set_option maxRecDepth 100000 in
set_option maxHeartbeats 4000000 in
theorem ct_X12_aheadOf_r125_29 {Dy : jH → Prop} {h0 : jH} {Q : Option Value → jH → Prop} {R4 : Int} {a1 : Int32} (yy_a1 : 0 ≤ a1.toInt ∧ a1.toInt ≤ 8) (hD : jDk Dy) (hQ : ∀ (v : Int32) hx9, (-1) ≤ v.toInt ∧ v.toInt ≤ 7 → jJ jSgM Dy hx9 → jSm fp_X12_aheadOf_r125 h0 hx9 → v.toInt = jah (jiv hx9 146) a1.toNatClampNeg a1.toNatClampNeg → Q (some (.int v)) hx9) (k4 : ∀ (l2 : Int32) (l3 : Int32) (h : jH), 8 - l3.toInt < R4 → (-1) ≤ l2.toInt ∧ l2.toInt ≤ 7 → 0 ≤ l3.toInt ∧ l3.toInt ≤ 8 → (l2.toInt = jah (jiv h 146) a1.toNatClampNeg l3.toNatClampNeg ∧ l3.toInt ≤ a1.toInt) → jJ jSgM Dy h → jSm fp_X12_aheadOf_r125 h0 h → jX m_X12_aheadOf 1 0 0 4 [(0, .ref 125), (1, .int a1), (2, .int l2), (3, .int l3)] [] h 0 0 Q) : ∀ (l3 : Int32) (s0 : Int32) (h : jH), 0 ≤ l3.toInt ∧ l3.toInt ≤ 7 → (-1) ≤ s0.toInt ∧ s0.toInt ≤ 7 → (s0.toInt = jah (jiv h 146) a1.toNatClampNeg (l3.toNatClampNeg + 1) ∧ l3.toInt < a1.toInt) → 8 - l3.toInt ≤ R4 → jJ jSgM Dy h → jSm fp_X12_aheadOf_r125 h0 h → jX m_X12_aheadOf 1 0 0 29 [(0, .ref 125), (1, .int a1), (3, .int l3)] [.int s0] h 0 0 Q := by
  intro l3 s0 h y0 y1 C0  m4 J Sm
  refine x_istoren (lsx9 := [(2, .int s0), (0, .ref 125), (1, .int a1), (3, .int l3)]) rfl rfl rfl ?_
  refine z_iinc (x := l3) (lsx9 := fun v1 => [(3, .int v1), (2, .int s0), (0, .ref 125), (1, .int a1)]) rfl rfl rfl jko_1 (by omega) rfl (fun _ => rfl) (fun v1 ev1 => ?_)
  refine x_goto (tgt := 4) rfl rfl ?_
  exact jX.sub (jsb_c rfl (jsb_c rfl (jsb_c rfl (jsb_c rfl jsb_n)))) (k4 s0 v1 h (by omega) (jr_of rfl (by omega)) (jr_of rfl (by omega)) ⟨(jah_n C0.1 (by omega)), (by have := C0.2; omega)⟩ J Sm)
set_option maxRecDepth 100000 in
set_option maxHeartbeats 4000000 in
theorem ct_X12_aheadOf_r125_4 {Dy : jH → Prop} {h0 : jH} {Q : Option Value → jH → Prop} {a1 : Int32} (yy_a1 : 0 ≤ a1.toInt ∧ a1.toInt ≤ 8) (hD : jDk Dy) (hQ : ∀ (v : Int32) hx9, (-1) ≤ v.toInt ∧ v.toInt ≤ 7 → jJ jSgM Dy hx9 → jSm fp_X12_aheadOf_r125 h0 hx9 → v.toInt = jah (jiv hx9 146) a1.toNatClampNeg a1.toNatClampNeg → Q (some (.int v)) hx9) : ∀ r : Nat, ∀ (l2 : Int32) (l3 : Int32) (h : jH), 8 - l3.toInt < (r : Int) → (-1) ≤ l2.toInt ∧ l2.toInt ≤ 7 → 0 ≤ l3.toInt ∧ l3.toInt ≤ 8 → (l2.toInt = jah (jiv h 146) a1.toNatClampNeg l3.toNatClampNeg ∧ l3.toInt ≤ a1.toInt) → jJ jSgM Dy h → jSm fp_X12_aheadOf_r125 h0 h → jX m_X12_aheadOf 1 0 0 4 [(0, .ref 125), (1, .int a1), (2, .int l2), (3, .int l3)] [] h 0 0 Q := by
  intro r
  induction r with
  | zero =>
    intro l2 l3 h hm y0 y1 C0   J Sm
    exfalso
    omega
  | succ r ih =>
    intro l2 l3 h hm y0 y1 C0   J Sm
    refine x_iloadn (x := l3) rfl rfl ?_
    refine x_iloadn (x := a1) rfl rfl ?_
    refine x_icge (tgt := 36) rfl rfl (ti_ge rfl rfl ⟨fun c1 => ?_, fun c1 => ?_⟩)
    ·
      refine x_iloadn (x := l2) rfl rfl ?_
      refine x_iret rfl rfl ?_
      exact hQ _ _ (jr_of rfl (by omega)) J Sm (jah_x C0.1 (show l3.toInt = a1.toInt from by have := C0.2; omega))
    ·
      refine x_aloadn (x := 125) rfl rfl ?_
      refine z_getR (N := 92) (b := 146) 12 42 rfl f_12_93 rfl J rfl 16042 ⟨rfl, rfl⟩ rfl ?_
      refine x_iloadn (x := l3) rfl rfl ?_
      refine z_iald (N := 9) rfl J rfl sg_146_0_9_1_0_1 rfl (by omega) (fun v2 qv2 ev2 => ?_)
      refine x_aloadn (x := 125) rfl rfl ?_
      refine z_getR (N := 92) (b := 146) 12 42 rfl f_12_93 rfl J rfl 16042 ⟨rfl, rfl⟩ rfl ?_
      refine x_iloadn (x := a1) rfl rfl ?_
      refine z_iald (N := 9) rfl J rfl sg_146_0_9_1_0_1 rfl (by omega) (fun v3 qv3 ev3 => ?_)
      refine x_icne (tgt := 28) rfl rfl (ti_ne rfl rfl ⟨fun c4 => ?_, fun c4 => ?_⟩)
      ·
        refine x_iloadn (x := l2) rfl rfl ?_
        exact jX.sub (jsb_c rfl (jsb_c rfl (jsb_c rfl jsb_n))) (ct_X12_aheadOf_r125_29 yy_a1 hD hQ ih l3 l2 h (jr_of rfl (by omega)) (jr_of rfl (by omega)) ⟨(jah_f qv2 qv3 (by omega) C0.1), (by omega)⟩ (by omega) J Sm)
      ·
        refine x_iloadn (x := l3) rfl rfl ?_
        refine x_goto (tgt := 29) rfl rfl ?_
        exact jX.sub (jsb_c rfl (jsb_c rfl (jsb_c rfl jsb_n))) (ct_X12_aheadOf_r125_29 yy_a1 hD hQ ih l3 l3 h (jr_of rfl (by omega)) (jr_of rfl (by omega)) ⟨(jah_t qv2 qv3 (by omega) (by omega)), (by omega)⟩ (by omega) J Sm)
set_option maxRecDepth 100000 in
set_option maxHeartbeats 4000000 in
theorem sf_X12_aheadOf_r125 {Dy : jH → Prop} {h : jH} {Q : Option Value → jH → Prop} {a1 : Int32} (y1 : 0 ≤ a1.toInt ∧ a1.toInt ≤ 8) (hD : jDk Dy) (J : jJ jSgM Dy h) (hQ : ∀ (v : Int32) hx9, (-1) ≤ v.toInt ∧ v.toInt ≤ 7 → jJ jSgM Dy hx9 → jSm fp_X12_aheadOf_r125 h hx9 → v.toInt = jah (jiv hx9 146) a1.toNatClampNeg a1.toNatClampNeg → Q (some (.int v)) hx9) : jC m_X12_aheadOf 1 0 0 [.ref 125, .int a1] h Q := by
  refine jC.of rfl k_X12_aheadOf rfl ?_
  have Sm := jSm_rf fp_X12_aheadOf_r125 h
  have yy_a1 := y1
  show jX m_X12_aheadOf 1 0 0 0 [(0, .ref 125), (1, .int a1)] [] _ 0 0 _
  refine x_iconst (v := (-1)) rfl ki_m1 ?_
  refine x_istoren (lsx9 := [(2, .int (-1)), (0, .ref 125), (1, .int a1)]) rfl rfl rfl ?_
  refine x_iconst (v := 0) rfl ki_0 ?_
  refine x_istoren (lsx9 := [(3, .int 0), (2, .int (-1)), (0, .ref 125), (1, .int a1)]) rfl rfl rfl ?_
  exact jX.sub (jsb_c rfl (jsb_c rfl (jsb_c rfl (jsb_c rfl jsb_n)))) (ct_X12_aheadOf_r125_4 yy_a1 hD hQ  9 (-1) 0 h (by have := jk_0; omega) (jr_of jk_m1 (by omega)) (jr_of jk_0 (by omega)) ⟨jah_0, (by have := jk_0; omega)⟩ J Sm)
def fp_X12_alter_r125 : jFp := [(125, 0, 1), (125, 1, 2), (126, 20, 18020)]
set_option maxRecDepth 100000 in
set_option maxHeartbeats 4000000 in
theorem sf_X12_alter_r125 {Dy : jH → Prop} {h : jH} {Q : Option Value → jH → Prop} {a1 : Int32} {a2 : Int32} (hD : jDk Dy) (J : jJ jSgM Dy h) (hQ : ∀ (v : Int32) hx9, jJ jSgM Dy hx9 → jSm fp_X12_alter_r125 h hx9 → Q (some (.int v)) hx9) : jC m_X12_alter 3 0 0 [.ref 125, .int a1, .int a2] h Q := by
  refine jC.of rfl k_X12_alter rfl ?_
  have Sm := jSm_rf fp_X12_alter_r125 h
  have ea1 := jfull a1
  have ea2 := jfull a2
  show jX m_X12_alter 3 0 0 0 [(0, .ref 125), (1, .int a1), (2, .int a2)] [] _ 0 0 _
  refine x_aloadn (x := 125) rfl rfl ?_
  refine x_iconst (v := 0) rfl ki_0 ?_
  refine z_putI (N := 92) (w := 0) 12 0 rfl f_12_180 rfl (jfin_no TX12 RX12 92 rfl rfl) hD J Sm rfl rfl jk_0 (pw_125_0 (by omega)) rfl (fun h w1 J Sm => ?_)
  refine x_iloadn (x := a2) rfl rfl ?_
  refine z_i2l rfl rfl (fun v2 ev2 => ?_)
  refine x_lconst (v := 1) rfl kl_1 ?_
  refine x_ldc2 (v := 255) rfl z_12_875 ?_
  refine x_inst (N := m_X12_in) (As := [.long v2, .long 1, .long 255]) (st := []) (dx9 := 1) (mc := 0) (ms := 0) (host := "") rfl t_X12_in ⟨Or.inl q_12_188, s_X12_in⟩ rfl (by decide) rfl rfl ⟨by decide, by decide⟩ (zc_X12_in rfl jkl_1 jkl_255 (fun v3 ev3 => ?_))
  show jX m_X12_alter 3 0 0 14 [(0, .ref 125), (1, .int a1), (2, .int a2)] [.int v3] _ 0 0 _
  refine x_ifne (tgt := 23) rfl rfl (ti_ne rfl jk_0 ⟨fun c4 => ?_, fun c4 => ?_⟩)
  ·
    refine x_aloadn (x := 125) rfl rfl ?_
    refine x_iloadn (x := a1) rfl rfl ?_
    refine x_inv (N := m_X12_isLine) (As := [.int a1]) (b := 125) (st := []) (dx9 := 2) (mc := 0) (ms := 0) (host := "") 12 rfl t_X12_isLine ⟨Or.inl q_12_293, i_X12_isLine.1, i_X12_isLine.2⟩ ⟨by decide, rfl⟩ (congrArg Prod.fst (J.1.1 125 (12, 92) rfl)) rfl (by decide) rfl rfl ⟨by decide, by decide⟩ (jC.of rfl k_X12_isLine rfl ?_)
    show jX m_X12_isLine 2 0 0 0 [(0, .ref 125), (1, .int a1)] [] _ 0 0 _
    refine x_iloadn (x := a1) rfl rfl ?_
    refine z_i2l rfl rfl (fun v5 ev5 => ?_)
    refine x_lconst (v := 0) rfl kl_0 ?_
    refine x_aloadn (x := 125) rfl rfl ?_
    refine z_getR (N := 92) (b := 126) 12 2 rfl f_12_8 rfl J rfl 16002 ⟨rfl, rfl⟩ rfl ?_
    refine x_iconst (v := 0) rfl ki_0 ?_
    refine z_iald (N := 50660) rfl J rfl sg_126_0_1_1_0_1 jk_0 (by omega) (fun v6 qv6 ev6 => ?_)
    refine z_i2l rfl rfl (fun v7 ev7 => ?_)
    refine x_lconst (v := 1) rfl kl_1 ?_
    refine z_lsub rfl rfl jkl_1 (by omega) (fun v8 ev8 => ?_)
    refine x_inst (N := m_X12_in) (As := [.long v5, .long 0, .long v8]) (st := []) (dx9 := 1) (mc := 0) (ms := 0) (host := "") rfl t_X12_in ⟨Or.inl q_12_188, s_X12_in⟩ rfl (by decide) rfl rfl ⟨by decide, by decide⟩ (zc_X12_in rfl jkl_0 rfl (fun v9 ev9 => ?_))
    show jX m_X12_isLine 2 0 0 15 [(0, .ref 125), (1, .int a1)] [.int v9] _ 0 0 _
    refine x_zret rfl rfl (jz01 (by omega)) ?_
    show jX m_X12_alter 3 0 0 28 [(0, .ref 125), (1, .int a1), (2, .int a2)] [.int v9] _ 0 0 _
    refine x_ifne (tgt := 38) rfl rfl (ti_ne rfl jk_0 ⟨fun c10 => ?_, fun c10 => ?_⟩)
    ·
      refine x_aloadn (x := 125) rfl rfl ?_
      refine z_getR (N := 92) (b := 126) 12 2 rfl f_12_8 rfl J rfl 16002 ⟨rfl, rfl⟩ rfl ?_
      refine x_aloadn (x := 125) rfl rfl ?_
      refine x_iloadn (x := a1) rfl rfl ?_
      refine x_inv (N := m_X12_at) (As := [.int a1]) (b := 125) (st := [.ref 126]) (dx9 := 2) (mc := 0) (ms := 0) (host := "") 12 rfl t_X12_at ⟨Or.inl q_12_254, i_X12_at.1, i_X12_at.2⟩ ⟨by decide, rfl⟩ (congrArg Prod.fst (J.1.1 125 (12, 92) rfl)) rfl (by decide) rfl rfl ⟨by decide, by decide⟩ (jC.of rfl k_X12_at rfl ?_)
      show jX m_X12_at 2 0 0 0 [(0, .ref 125), (1, .int a1)] [] _ 0 0 _
      refine x_bipush (v := 20) rfl kb_20 ?_
      refine x_bipush (v := 90) rfl kb_90 ?_
      refine x_iloadn (x := a1) rfl rfl ?_
      refine z_imul rfl jk_90 rfl (by omega) (fun v11 ev11 => ?_)
      refine z_iadd rfl jk_20 rfl (by omega) (fun v12 ev12 => ?_)
      refine x_iret rfl rfl ?_
      show jX m_X12_alter 3 0 0 47 [(0, .ref 125), (1, .int a1), (2, .int a2)] [.int v12, .ref 126] _ 0 0 _
      refine x_iconst (v := 4) rfl ki_4 ?_
      refine z_iadd rfl rfl jk_4 (by omega) (fun v13 ev13 => ?_)
      refine x_dup2 rfl rfl rfl ?_
      refine z_iald0 (N := 50660) rfl J rfl rfl (by omega) (fun v14 qv14 => ?_)
      have ev14 := jfull v14
      refine x_iloadn (x := a2) rfl rfl ?_
      refine z_ixor0 rfl (fun v15 => ?_)
      have ev15 := jfull v15
      refine z_iast (N := 50660) (l := 20) (u := 18020) (w := v15.toInt) rfl hD J Sm rfl rfl rfl (by omega) rfl (wr_126_20 (by omega) (fun q1 q2 q3 q4 => by omega) (fun q1 q2 q3 q4 => by omega) (fun q1 q2 q3 q4 => by omega) (fun q1 q2 q3 q4 => by omega) (fun q1 q2 q3 q4 => by omega) (fun q1 q2 q3 q4 => by omega) (fun q1 q2 q3 q4 => by omega) (fun q1 q2 q3 q4 => by omega) (fun q1 q2 q3 q4 => by omega) (fun q1 q2 q3 q4 => by omega) (fun q1 q2 q3 q4 => by omega) (fun q1 q2 q3 q4 => by omega) (fun q1 q2 q3 q4 => by omega) (fun q1 q2 q3 q4 => by omega) (fun q1 q2 q3 q4 => by omega) (fun q1 q2 q3 q4 => by omega) (fun q1 q2 q3 q4 => by omega) (fun q1 q2 q3 q4 => by omega) (fun q1 q2 q3 q4 => by omega) (fun q1 q2 q3 q4 => by omega) (fun q1 q2 q3 q4 => by omega) (fun q1 q2 q3 q4 => by omega) (fun q1 q2 q3 q4 => by omega)) rfl (fun h w16 J Sm => ?_)
      refine x_aloadn (x := 125) rfl rfl ?_
      refine x_iconst (v := 0) rfl ki_0 ?_
      refine z_putI (N := 92) (w := 0) 12 1 rfl f_12_183 rfl (jfin_no TX12 RX12 92 rfl rfl) hD J Sm rfl rfl jk_0 (pw_125_1 (by omega)) rfl (fun h w17 J Sm => ?_)
      refine x_aloadn (x := 125) rfl rfl ?_
      refine x_iloadn (x := a1) rfl rfl ?_
      refine x_inv (N := m_X12_numberOf) (As := [.int a1]) (b := 125) (st := []) (dx9 := 2) (mc := 0) (ms := 0) (host := "") 12 rfl t_X12_numberOf ⟨Or.inl q_12_296, i_X12_numberOf.1, i_X12_numberOf.2⟩ ⟨by decide, rfl⟩ (congrArg Prod.fst (J.1.1 125 (12, 92) rfl)) rfl (by decide) rfl rfl ⟨by decide, by decide⟩ (jC.of rfl k_X12_numberOf rfl ?_)
      show jX m_X12_numberOf 2 0 0 0 [(0, .ref 125), (1, .int a1)] [] _ 0 0 _
      refine x_aloadn (x := 125) rfl rfl ?_
      refine z_getR (N := 92) (b := 126) 12 2 rfl f_12_8 rfl J rfl 16002 ⟨rfl, rfl⟩ rfl ?_
      refine x_aloadn (x := 125) rfl rfl ?_
      refine x_iloadn (x := a1) rfl rfl ?_
      refine x_inv (N := m_X12_at) (As := [.int a1]) (b := 125) (st := [.ref 126]) (dx9 := 1) (mc := 0) (ms := 0) (host := "") 12 rfl t_X12_at ⟨Or.inl q_12_254, i_X12_at.1, i_X12_at.2⟩ ⟨by decide, rfl⟩ (congrArg Prod.fst (J.1.1 125 (12, 92) rfl)) rfl (by decide) rfl rfl ⟨by decide, by decide⟩ (jC.of rfl k_X12_at rfl ?_)
      show jX m_X12_at 1 0 0 0 [(0, .ref 125), (1, .int a1)] [] _ 0 0 _
      refine x_bipush (v := 20) rfl kb_20 ?_
      refine x_bipush (v := 90) rfl kb_90 ?_
      refine x_iloadn (x := a1) rfl rfl ?_
      refine z_imul rfl jk_90 rfl (by omega) (fun v18 ev18 => ?_)
      refine z_iadd rfl jk_20 rfl (by omega) (fun v19 ev19 => ?_)
      refine x_iret rfl rfl ?_
      show jX m_X12_numberOf 2 0 0 9 [(0, .ref 125), (1, .int a1)] [.int v19, .ref 126] _ 0 0 _
      refine x_iconst (v := 4) rfl ki_4 ?_
      refine z_iadd rfl rfl jk_4 (by omega) (fun v20 ev20 => ?_)
      refine z_iald0 (N := 50660) rfl J rfl rfl (by omega) (fun v21 qv21 => ?_)
      have ev21 := jfull v21
      refine x_iret rfl rfl ?_
      show jX m_X12_alter 3 0 0 64 [(0, .ref 125), (1, .int a1), (2, .int a2)] [.int v21] _ 0 0 _
      refine x_iret rfl rfl ?_
      exact hQ _ _ J Sm
    ·
      refine x_aloadn (x := 125) rfl rfl ?_
      refine x_bipush (v := (-2)) rfl kb_m2 ?_
      refine x_inv (N := m_X12_told) (As := [.int (-2)]) (b := 125) (st := []) (dx9 := 1) (mc := 0) (ms := 0) (host := "") 12 rfl t_X12_told ⟨Or.inl q_12_197, i_X12_told.1, i_X12_told.2⟩ ⟨by decide, rfl⟩ (congrArg Prod.fst (J.1.1 125 (12, 92) rfl)) rfl (by decide) rfl rfl ⟨by decide, by decide⟩ (sf_X12_told_r125  hD J  (fun v23 h J S22 => ?_))
      have ev23 := jfull v23
      have Sm := jSm_tr rfl Sm S22
      show jX m_X12_alter 3 0 0 37 [(0, .ref 125), (1, .int a1), (2, .int a2)] [.int v23] _ 0 0 _
      refine x_iret rfl rfl ?_
      exact hQ _ _ J Sm
  ·
    refine x_aloadn (x := 125) rfl rfl ?_
    refine x_iconst (v := (-1)) rfl ki_m1 ?_
    refine x_inv (N := m_X12_told) (As := [.int (-1)]) (b := 125) (st := []) (dx9 := 1) (mc := 0) (ms := 0) (host := "") 12 rfl t_X12_told ⟨Or.inl q_12_197, i_X12_told.1, i_X12_told.2⟩ ⟨by decide, rfl⟩ (congrArg Prod.fst (J.1.1 125 (12, 92) rfl)) rfl (by decide) rfl rfl ⟨by decide, by decide⟩ (sf_X12_told_r125  hD J  (fun v25 h J S24 => ?_))
    have ev25 := jfull v25
    have Sm := jSm_tr rfl Sm S24
    show jX m_X12_alter 3 0 0 22 [(0, .ref 125), (1, .int a1), (2, .int a2)] [.int v25] _ 0 0 _
    refine x_iret rfl rfl ?_
    exact hQ _ _ J Sm
