def fp_X12_officeAt_r125d : jFp := []
set_option maxRecDepth 100000 in
set_option maxHeartbeats 4000000 in
theorem ct_X12_officeAt_r125d_100057 {Dy : jH → Prop} {h0 : jH} {Q : Option Value → jH → Prop} {dr : Int} (hD : jDk Dy) (hQ : ∀ (v : Int32) hx9, (-1) ≤ v.toInt ∧ v.toInt ≤ 3 → jJ jSgM Dy hx9 → jSm fp_X12_officeAt_r125d h0 hx9 → dr = v.toInt → vw hx9 = vw h0 → Q (some (.int v)) hx9) : ∀ (h : jH), jJ jSgM Dy h → jSm fp_X12_officeAt_r125d h0 h → d_X12_officeAt_r125d_100057  (vw h) = dr → vw h = vw h0 → jX m_X12_officeAt 2 0 0 57 [] [.int (-1)] h 0 0 Q := by
  intro  h    J Sm D EV
  unfold d_X12_officeAt_r125d_100057 at D
  refine x_iret rfl rfl ?_
  exact hQ _ _ (jr_of jk_m1 (by omega)) J Sm (D.symm.trans (show (-1) = ((-1) : Int32).toInt from by have := jk_m1; omega)) EV
set_option maxRecDepth 100000 in
set_option maxHeartbeats 4000000 in
theorem ct_X12_officeAt_r125d_500057 {Dy : jH → Prop} {h0 : jH} {Q : Option Value → jH → Prop} {dr : Int} (hD : jDk Dy) (hQ : ∀ (v : Int32) hx9, (-1) ≤ v.toInt ∧ v.toInt ≤ 3 → jJ jSgM Dy hx9 → jSm fp_X12_officeAt_r125d h0 hx9 → dr = v.toInt → vw hx9 = vw h0 → Q (some (.int v)) hx9) : ∀ (h : jH), jJ jSgM Dy h → jSm fp_X12_officeAt_r125d h0 h → d_X12_officeAt_r125d_500057  (vw h) = dr → vw h = vw h0 → jX m_X12_officeAt 2 0 0 57 [] [.int 3] h 0 0 Q := by
  intro  h    J Sm D EV
  unfold d_X12_officeAt_r125d_500057 at D
  refine x_iret rfl rfl ?_
  exact hQ _ _ (jr_of jk_3 (by omega)) J Sm (D.symm.trans (show 3 = (3 : Int32).toInt from by have := jk_3; omega)) EV
set_option maxRecDepth 100000 in
set_option maxHeartbeats 4000000 in
theorem ct_X12_officeAt_r125d_400057 {Dy : jH → Prop} {h0 : jH} {Q : Option Value → jH → Prop} {dr : Int} (hD : jDk Dy) (hQ : ∀ (v : Int32) hx9, (-1) ≤ v.toInt ∧ v.toInt ≤ 3 → jJ jSgM Dy hx9 → jSm fp_X12_officeAt_r125d h0 hx9 → dr = v.toInt → vw hx9 = vw h0 → Q (some (.int v)) hx9) : ∀ (h : jH), jJ jSgM Dy h → jSm fp_X12_officeAt_r125d h0 h → d_X12_officeAt_r125d_400057  (vw h) = dr → vw h = vw h0 → jX m_X12_officeAt 2 0 0 57 [] [.int 2] h 0 0 Q := by
  intro  h    J Sm D EV
  unfold d_X12_officeAt_r125d_400057 at D
  refine x_iret rfl rfl ?_
  exact hQ _ _ (jr_of jk_2 (by omega)) J Sm (D.symm.trans (show 2 = (2 : Int32).toInt from by have := jk_2; omega)) EV
set_option maxRecDepth 100000 in
set_option maxHeartbeats 4000000 in
theorem ct_X12_officeAt_r125d_300057 {Dy : jH → Prop} {h0 : jH} {Q : Option Value → jH → Prop} {dr : Int} (hD : jDk Dy) (hQ : ∀ (v : Int32) hx9, (-1) ≤ v.toInt ∧ v.toInt ≤ 3 → jJ jSgM Dy hx9 → jSm fp_X12_officeAt_r125d h0 hx9 → dr = v.toInt → vw hx9 = vw h0 → Q (some (.int v)) hx9) : ∀ (h : jH), jJ jSgM Dy h → jSm fp_X12_officeAt_r125d h0 h → d_X12_officeAt_r125d_300057  (vw h) = dr → vw h = vw h0 → jX m_X12_officeAt 2 0 0 57 [] [.int 1] h 0 0 Q := by
  intro  h    J Sm D EV
  unfold d_X12_officeAt_r125d_300057 at D
  refine x_iret rfl rfl ?_
  exact hQ _ _ (jr_of jk_1 (by omega)) J Sm (D.symm.trans (show 1 = (1 : Int32).toInt from by have := jk_1; omega)) EV
set_option maxRecDepth 100000 in
set_option maxHeartbeats 4000000 in
theorem ct_X12_officeAt_r125d_200057 {Dy : jH → Prop} {h0 : jH} {Q : Option Value → jH → Prop} {dr : Int} (hD : jDk Dy) (hQ : ∀ (v : Int32) hx9, (-1) ≤ v.toInt ∧ v.toInt ≤ 3 → jJ jSgM Dy hx9 → jSm fp_X12_officeAt_r125d h0 hx9 → dr = v.toInt → vw hx9 = vw h0 → Q (some (.int v)) hx9) : ∀ (h : jH), jJ jSgM Dy h → jSm fp_X12_officeAt_r125d h0 h → d_X12_officeAt_r125d_200057  (vw h) = dr → vw h = vw h0 → jX m_X12_officeAt 2 0 0 57 [] [.int 0] h 0 0 Q := by
  intro  h    J Sm D EV
  unfold d_X12_officeAt_r125d_200057 at D
  refine x_iret rfl rfl ?_
  exact hQ _ _ (jr_of jk_0 (by omega)) J Sm (D.symm.trans (show 0 = (0 : Int32).toInt from by have := jk_0; omega)) EV
set_option maxRecDepth 100000 in
set_option maxHeartbeats 4000000 in
theorem sf_X12_officeAt_r125d {Dy : jH → Prop} {h : jH} {Q : Option Value → jH → Prop} {dr : Int} (hD : jDk Dy) (J : jJ jSgM Dy h) (D : d_X12_officeAt_r125d (vw h) = dr) (hQ : ∀ (v : Int32) hx9, (-1) ≤ v.toInt ∧ v.toInt ≤ 3 → jJ jSgM Dy hx9 → jSm fp_X12_officeAt_r125d h hx9 → dr = v.toInt → vw hx9 = vw h → Q (some (.int v)) hx9) : jC m_X12_officeAt 2 0 0 [.ref 125] h Q := by
  refine jC.of rfl k_X12_officeAt rfl ?_
  have Sm := jSm_rf fp_X12_officeAt_r125d h
  show jX m_X12_officeAt 2 0 0 0 [(0, .ref 125)] [] _ 0 0 _
  unfold d_X12_officeAt_r125d at D
  have EV : vw h = vw h := rfl
  refine x_aloadn (x := 125) rfl rfl ?_
  refine x_ldc2 (v := 3829621885317) rfl z_12_601 ?_
  refine x_inv (N := m_X12_isWord) (As := [.long 3829621885317]) (b := 125) (st := []) (dx9 := 1) (mc := 0) (ms := 0) (host := "") 12 rfl t_X12_isWord ⟨Or.inl q_12_511, i_X12_isWord.1, i_X12_isWord.2⟩ ⟨by decide, rfl⟩ (congrArg Prod.fst (J.1.1 125 (12, 92) rfl)) rfl (by decide) rfl rfl ⟨by decide, by decide⟩ (jC.of rfl k_X12_isWord rfl ?_)
  show jX m_X12_isWord 1 0 0 0 [(0, .ref 125), (1, .long 3829621885317)] [] _ 0 0 _
  refine x_aloadn (x := 125) rfl rfl ?_
  refine z_getI (N := 92) 12 11 rfl f_12_235 rfl J rfl sg_125_11_12_1_0_1 (fun v1 qv1 ev1 => ?_)
  try rw [vrf qv1] at D
  refine x_iconst (v := 1) rfl ki_1 ?_
  refine x_icne (tgt := 21) rfl rfl (ti_ne rfl jk_1 ⟨fun c2 => ?_, fun c2 => ?_⟩)
  ·
    rw [if_neg (by omega)] at D
    refine x_iconst (v := 0) rfl ki_0 ?_
    refine x_zret rfl rfl (by decide) ?_
    show jX m_X12_officeAt 2 0 0 7 [(0, .ref 125)] [.int 0] _ 0 0 _
    refine x_ifeq (tgt := 14) rfl rfl (ti_eq jk_0 jk_0 (br_t (by omega) ?_))
    refine x_aloadn (x := 125) rfl rfl ?_
    refine x_ldc2 (v := 676010845682) rfl z_12_603 ?_
    refine x_inv (N := m_X12_isWord) (As := [.long 676010845682]) (b := 125) (st := []) (dx9 := 1) (mc := 0) (ms := 0) (host := "") 12 rfl t_X12_isWord ⟨Or.inl q_12_511, i_X12_isWord.1, i_X12_isWord.2⟩ ⟨by decide, rfl⟩ (congrArg Prod.fst (J.1.1 125 (12, 92) rfl)) rfl (by decide) rfl rfl ⟨by decide, by decide⟩ (jC.of rfl k_X12_isWord rfl ?_)
    show jX m_X12_isWord 1 0 0 0 [(0, .ref 125), (1, .long 676010845682)] [] _ 0 0 _
    refine x_aloadn (x := 125) rfl rfl ?_
    refine z_getM (N := 92) (v := v1) 12 11 rfl f_12_235 rfl J rfl qv1 ?_
    refine x_iconst (v := 1) rfl ki_1 ?_
    refine x_icne (tgt := 21) rfl rfl (ti_ne rfl jk_1 ⟨fun c3 => ?_, fun c3 => ?_⟩)
    ·
      rw [if_neg (by omega)] at D
      refine x_iconst (v := 0) rfl ki_0 ?_
      refine x_zret rfl rfl (by decide) ?_
      show jX m_X12_officeAt 2 0 0 21 [(0, .ref 125)] [.int 0] _ 0 0 _
      refine x_ifeq (tgt := 28) rfl rfl (ti_eq jk_0 jk_0 (br_t (by omega) ?_))
      refine x_aloadn (x := 125) rfl rfl ?_
      refine x_ldc2 (v := 539205670066) rfl z_12_605 ?_
      refine x_inv (N := m_X12_isWord) (As := [.long 539205670066]) (b := 125) (st := []) (dx9 := 1) (mc := 0) (ms := 0) (host := "") 12 rfl t_X12_isWord ⟨Or.inl q_12_511, i_X12_isWord.1, i_X12_isWord.2⟩ ⟨by decide, rfl⟩ (congrArg Prod.fst (J.1.1 125 (12, 92) rfl)) rfl (by decide) rfl rfl ⟨by decide, by decide⟩ (jC.of rfl k_X12_isWord rfl ?_)
      show jX m_X12_isWord 1 0 0 0 [(0, .ref 125), (1, .long 539205670066)] [] _ 0 0 _
      refine x_aloadn (x := 125) rfl rfl ?_
      refine z_getM (N := 92) (v := v1) 12 11 rfl f_12_235 rfl J rfl qv1 ?_
      refine x_iconst (v := 1) rfl ki_1 ?_
      refine x_icne (tgt := 21) rfl rfl (ti_ne rfl jk_1 ⟨fun c4 => ?_, fun c4 => ?_⟩)
      ·
        rw [if_neg (by omega)] at D
        refine x_iconst (v := 0) rfl ki_0 ?_
        refine x_zret rfl rfl (by decide) ?_
        show jX m_X12_officeAt 2 0 0 35 [(0, .ref 125)] [.int 0] _ 0 0 _
        refine x_ifeq (tgt := 42) rfl rfl (ti_eq jk_0 jk_0 (br_t (by omega) ?_))
        refine x_aloadn (x := 125) rfl rfl ?_
        refine x_ldc2 (v := 773394606) rfl z_12_607 ?_
        refine x_inv (N := m_X12_isWord) (As := [.long 773394606]) (b := 125) (st := []) (dx9 := 1) (mc := 0) (ms := 0) (host := "") 12 rfl t_X12_isWord ⟨Or.inl q_12_511, i_X12_isWord.1, i_X12_isWord.2⟩ ⟨by decide, rfl⟩ (congrArg Prod.fst (J.1.1 125 (12, 92) rfl)) rfl (by decide) rfl rfl ⟨by decide, by decide⟩ (jC.of rfl k_X12_isWord rfl ?_)
        show jX m_X12_isWord 1 0 0 0 [(0, .ref 125), (1, .long 773394606)] [] _ 0 0 _
        refine x_aloadn (x := 125) rfl rfl ?_
        refine z_getM (N := 92) (v := v1) 12 11 rfl f_12_235 rfl J rfl qv1 ?_
        refine x_iconst (v := 1) rfl ki_1 ?_
        refine x_icne (tgt := 21) rfl rfl (ti_ne rfl jk_1 ⟨fun c5 => ?_, fun c5 => ?_⟩)
        ·
          rw [if_neg (by omega)] at D
          refine x_iconst (v := 0) rfl ki_0 ?_
          refine x_zret rfl rfl (by decide) ?_
          show jX m_X12_officeAt 2 0 0 49 [(0, .ref 125)] [.int 0] _ 0 0 _
          refine x_ifeq (tgt := 56) rfl rfl (ti_eq jk_0 jk_0 (br_t (by omega) ?_))
          refine x_iconst (v := (-1)) rfl ki_m1 ?_
          exact jX.sub jsb_n (ct_X12_officeAt_r125d_100057 hD hQ  h J Sm D EV)
        ·
          rw [if_pos (by omega)] at D
          refine x_aloadn (x := 125) rfl rfl ?_
          refine z_getLQ (N := 92) 12 12 rfl f_12_224 rfl J rfl (fun v6 qv6 => ?_)
          have ev6 := jfullL v6
          try rw [vrfL qv6] at D
          refine x_lloadn (x := 773394606) rfl rfl ?_
          refine z_lcmp rfl rfl jkl_773394606 (fun v7 ev7 => ?_)
          refine x_ifne (tgt := 21) rfl rfl (ti_ne rfl jk_0 ⟨fun c8 => ?_, fun c8 => ?_⟩)
          ·
            rw [if_neg (by omega)] at D
            refine x_iconst (v := 0) rfl ki_0 ?_
            refine x_zret rfl rfl (by decide) ?_
            show jX m_X12_officeAt 2 0 0 49 [(0, .ref 125)] [.int 0] _ 0 0 _
            refine x_ifeq (tgt := 56) rfl rfl (ti_eq jk_0 jk_0 (br_t (by omega) ?_))
            refine x_iconst (v := (-1)) rfl ki_m1 ?_
            exact jX.sub jsb_n (ct_X12_officeAt_r125d_100057 hD hQ  h J Sm D EV)
          ·
            rw [if_pos (by omega)] at D
            refine x_iconst (v := 1) rfl ki_1 ?_
            refine x_goto (tgt := 22) rfl rfl ?_
            refine x_zret rfl rfl (by decide) ?_
            show jX m_X12_officeAt 2 0 0 49 [(0, .ref 125)] [.int 1] _ 0 0 _
            refine x_ifeq (tgt := 56) rfl rfl (ti_eq jk_1 jk_0 (br_f (by omega) ?_))
            refine x_iconst (v := 3) rfl ki_3 ?_
            refine x_goto (tgt := 57) rfl rfl ?_
            exact jX.sub jsb_n (ct_X12_officeAt_r125d_500057 hD hQ  h J Sm D EV)
      ·
        rw [if_pos (by omega)] at D
        refine x_aloadn (x := 125) rfl rfl ?_
        refine z_getLQ (N := 92) 12 12 rfl f_12_224 rfl J rfl (fun v9 qv9 => ?_)
        have ev9 := jfullL v9
        try rw [vrfL qv9] at D
        refine x_lloadn (x := 539205670066) rfl rfl ?_
        refine z_lcmp rfl rfl jkl_539205670066 (fun v10 ev10 => ?_)
        refine x_ifne (tgt := 21) rfl rfl (ti_ne rfl jk_0 ⟨fun c11 => ?_, fun c11 => ?_⟩)
        ·
          rw [if_neg (by omega)] at D
          refine x_iconst (v := 0) rfl ki_0 ?_
          refine x_zret rfl rfl (by decide) ?_
          show jX m_X12_officeAt 2 0 0 35 [(0, .ref 125)] [.int 0] _ 0 0 _
          refine x_ifeq (tgt := 42) rfl rfl (ti_eq jk_0 jk_0 (br_t (by omega) ?_))
          refine x_aloadn (x := 125) rfl rfl ?_
          refine x_ldc2 (v := 773394606) rfl z_12_607 ?_
          refine x_inv (N := m_X12_isWord) (As := [.long 773394606]) (b := 125) (st := []) (dx9 := 1) (mc := 0) (ms := 0) (host := "") 12 rfl t_X12_isWord ⟨Or.inl q_12_511, i_X12_isWord.1, i_X12_isWord.2⟩ ⟨by decide, rfl⟩ (congrArg Prod.fst (J.1.1 125 (12, 92) rfl)) rfl (by decide) rfl rfl ⟨by decide, by decide⟩ (jC.of rfl k_X12_isWord rfl ?_)
          show jX m_X12_isWord 1 0 0 0 [(0, .ref 125), (1, .long 773394606)] [] _ 0 0 _
          refine x_aloadn (x := 125) rfl rfl ?_
          refine z_getM (N := 92) (v := v1) 12 11 rfl f_12_235 rfl J rfl qv1 ?_
          refine x_iconst (v := 1) rfl ki_1 ?_
          refine x_icne (tgt := 21) rfl rfl (ti_ne rfl jk_1 (bn_f (by omega) ?_))
          refine x_aloadn (x := 125) rfl rfl ?_
          refine z_getLQ (N := 92) 12 12 rfl f_12_224 rfl J rfl (fun v12 qv12 => ?_)
          have ev12 := jfullL v12
          try have kqv12 : v9.toInt = v12.toInt := ((vrfL qv9).symm.trans (vrfL qv12))
          try rw [kqv12] at D
          try rw [vrfL qv12] at D
          refine x_lloadn (x := 773394606) rfl rfl ?_
          refine z_lcmp rfl rfl jkl_773394606 (fun v13 ev13 => ?_)
          refine x_ifne (tgt := 21) rfl rfl (ti_ne rfl jk_0 ⟨fun c14 => ?_, fun c14 => ?_⟩)
          ·
            rw [if_neg (by omega)] at D
            refine x_iconst (v := 0) rfl ki_0 ?_
            refine x_zret rfl rfl (by decide) ?_
            show jX m_X12_officeAt 2 0 0 49 [(0, .ref 125)] [.int 0] _ 0 0 _
            refine x_ifeq (tgt := 56) rfl rfl (ti_eq jk_0 jk_0 (br_t (by omega) ?_))
            refine x_iconst (v := (-1)) rfl ki_m1 ?_
            exact jX.sub jsb_n (ct_X12_officeAt_r125d_100057 hD hQ  h J Sm D EV)
          ·
            rw [if_pos (by omega)] at D
            refine x_iconst (v := 1) rfl ki_1 ?_
            refine x_goto (tgt := 22) rfl rfl ?_
            refine x_zret rfl rfl (by decide) ?_
            show jX m_X12_officeAt 2 0 0 49 [(0, .ref 125)] [.int 1] _ 0 0 _
            refine x_ifeq (tgt := 56) rfl rfl (ti_eq jk_1 jk_0 (br_f (by omega) ?_))
            refine x_iconst (v := 3) rfl ki_3 ?_
            refine x_goto (tgt := 57) rfl rfl ?_
            exact jX.sub jsb_n (ct_X12_officeAt_r125d_500057 hD hQ  h J Sm D EV)
        ·
          rw [if_pos (by omega)] at D
          refine x_iconst (v := 1) rfl ki_1 ?_
          refine x_goto (tgt := 22) rfl rfl ?_
          refine x_zret rfl rfl (by decide) ?_
          show jX m_X12_officeAt 2 0 0 35 [(0, .ref 125)] [.int 1] _ 0 0 _
          refine x_ifeq (tgt := 42) rfl rfl (ti_eq jk_1 jk_0 (br_f (by omega) ?_))
          refine x_iconst (v := 2) rfl ki_2 ?_
          refine x_goto (tgt := 57) rfl rfl ?_
          exact jX.sub jsb_n (ct_X12_officeAt_r125d_400057 hD hQ  h J Sm D EV)
    ·
      rw [if_pos (by omega)] at D
      refine x_aloadn (x := 125) rfl rfl ?_
      refine z_getLQ (N := 92) 12 12 rfl f_12_224 rfl J rfl (fun v15 qv15 => ?_)
      have ev15 := jfullL v15
      try rw [vrfL qv15] at D
      refine x_lloadn (x := 676010845682) rfl rfl ?_
      refine z_lcmp rfl rfl jkl_676010845682 (fun v16 ev16 => ?_)
      refine x_ifne (tgt := 21) rfl rfl (ti_ne rfl jk_0 ⟨fun c17 => ?_, fun c17 => ?_⟩)
      ·
        rw [if_neg (by omega)] at D
        refine x_iconst (v := 0) rfl ki_0 ?_
        refine x_zret rfl rfl (by decide) ?_
        show jX m_X12_officeAt 2 0 0 21 [(0, .ref 125)] [.int 0] _ 0 0 _
        refine x_ifeq (tgt := 28) rfl rfl (ti_eq jk_0 jk_0 (br_t (by omega) ?_))
        refine x_aloadn (x := 125) rfl rfl ?_
        refine x_ldc2 (v := 539205670066) rfl z_12_605 ?_
        refine x_inv (N := m_X12_isWord) (As := [.long 539205670066]) (b := 125) (st := []) (dx9 := 1) (mc := 0) (ms := 0) (host := "") 12 rfl t_X12_isWord ⟨Or.inl q_12_511, i_X12_isWord.1, i_X12_isWord.2⟩ ⟨by decide, rfl⟩ (congrArg Prod.fst (J.1.1 125 (12, 92) rfl)) rfl (by decide) rfl rfl ⟨by decide, by decide⟩ (jC.of rfl k_X12_isWord rfl ?_)
        show jX m_X12_isWord 1 0 0 0 [(0, .ref 125), (1, .long 539205670066)] [] _ 0 0 _
        refine x_aloadn (x := 125) rfl rfl ?_
        refine z_getM (N := 92) (v := v1) 12 11 rfl f_12_235 rfl J rfl qv1 ?_
        refine x_iconst (v := 1) rfl ki_1 ?_
        refine x_icne (tgt := 21) rfl rfl (ti_ne rfl jk_1 (bn_f (by omega) ?_))
        refine x_aloadn (x := 125) rfl rfl ?_
        refine z_getLQ (N := 92) 12 12 rfl f_12_224 rfl J rfl (fun v18 qv18 => ?_)
        have ev18 := jfullL v18
        try have kqv18 : v15.toInt = v18.toInt := ((vrfL qv15).symm.trans (vrfL qv18))
        try rw [kqv18] at D
        try rw [vrfL qv18] at D
        refine x_lloadn (x := 539205670066) rfl rfl ?_
        refine z_lcmp rfl rfl jkl_539205670066 (fun v19 ev19 => ?_)
        refine x_ifne (tgt := 21) rfl rfl (ti_ne rfl jk_0 ⟨fun c20 => ?_, fun c20 => ?_⟩)
        ·
          rw [if_neg (by omega)] at D
          refine x_iconst (v := 0) rfl ki_0 ?_
          refine x_zret rfl rfl (by decide) ?_
          show jX m_X12_officeAt 2 0 0 35 [(0, .ref 125)] [.int 0] _ 0 0 _
          refine x_ifeq (tgt := 42) rfl rfl (ti_eq jk_0 jk_0 (br_t (by omega) ?_))
          refine x_aloadn (x := 125) rfl rfl ?_
          refine x_ldc2 (v := 773394606) rfl z_12_607 ?_
          refine x_inv (N := m_X12_isWord) (As := [.long 773394606]) (b := 125) (st := []) (dx9 := 1) (mc := 0) (ms := 0) (host := "") 12 rfl t_X12_isWord ⟨Or.inl q_12_511, i_X12_isWord.1, i_X12_isWord.2⟩ ⟨by decide, rfl⟩ (congrArg Prod.fst (J.1.1 125 (12, 92) rfl)) rfl (by decide) rfl rfl ⟨by decide, by decide⟩ (jC.of rfl k_X12_isWord rfl ?_)
          show jX m_X12_isWord 1 0 0 0 [(0, .ref 125), (1, .long 773394606)] [] _ 0 0 _
          refine x_aloadn (x := 125) rfl rfl ?_
          refine z_getM (N := 92) (v := v1) 12 11 rfl f_12_235 rfl J rfl qv1 ?_
          refine x_iconst (v := 1) rfl ki_1 ?_
          refine x_icne (tgt := 21) rfl rfl (ti_ne rfl jk_1 (bn_f (by omega) ?_))
          refine x_aloadn (x := 125) rfl rfl ?_
          refine z_getLQ (N := 92) 12 12 rfl f_12_224 rfl J rfl (fun v21 qv21 => ?_)
          have ev21 := jfullL v21
          try have kqv21 : v18.toInt = v21.toInt := ((vrfL qv18).symm.trans (vrfL qv21))
          try rw [kqv21] at D
          try rw [vrfL qv21] at D
          refine x_lloadn (x := 773394606) rfl rfl ?_
          refine z_lcmp rfl rfl jkl_773394606 (fun v22 ev22 => ?_)
          refine x_ifne (tgt := 21) rfl rfl (ti_ne rfl jk_0 ⟨fun c23 => ?_, fun c23 => ?_⟩)
          ·
            rw [if_neg (by omega)] at D
            refine x_iconst (v := 0) rfl ki_0 ?_
            refine x_zret rfl rfl (by decide) ?_
            show jX m_X12_officeAt 2 0 0 49 [(0, .ref 125)] [.int 0] _ 0 0 _
            refine x_ifeq (tgt := 56) rfl rfl (ti_eq jk_0 jk_0 (br_t (by omega) ?_))
            refine x_iconst (v := (-1)) rfl ki_m1 ?_
            exact jX.sub jsb_n (ct_X12_officeAt_r125d_100057 hD hQ  h J Sm D EV)
          ·
            rw [if_pos (by omega)] at D
            refine x_iconst (v := 1) rfl ki_1 ?_
            refine x_goto (tgt := 22) rfl rfl ?_
            refine x_zret rfl rfl (by decide) ?_
            show jX m_X12_officeAt 2 0 0 49 [(0, .ref 125)] [.int 1] _ 0 0 _
            refine x_ifeq (tgt := 56) rfl rfl (ti_eq jk_1 jk_0 (br_f (by omega) ?_))
            refine x_iconst (v := 3) rfl ki_3 ?_
            refine x_goto (tgt := 57) rfl rfl ?_
            exact jX.sub jsb_n (ct_X12_officeAt_r125d_500057 hD hQ  h J Sm D EV)
        ·
          rw [if_pos (by omega)] at D
          refine x_iconst (v := 1) rfl ki_1 ?_
          refine x_goto (tgt := 22) rfl rfl ?_
          refine x_zret rfl rfl (by decide) ?_
          show jX m_X12_officeAt 2 0 0 35 [(0, .ref 125)] [.int 1] _ 0 0 _
          refine x_ifeq (tgt := 42) rfl rfl (ti_eq jk_1 jk_0 (br_f (by omega) ?_))
          refine x_iconst (v := 2) rfl ki_2 ?_
          refine x_goto (tgt := 57) rfl rfl ?_
          exact jX.sub jsb_n (ct_X12_officeAt_r125d_400057 hD hQ  h J Sm D EV)
      ·
        rw [if_pos (by omega)] at D
        refine x_iconst (v := 1) rfl ki_1 ?_
        refine x_goto (tgt := 22) rfl rfl ?_
        refine x_zret rfl rfl (by decide) ?_
        show jX m_X12_officeAt 2 0 0 21 [(0, .ref 125)] [.int 1] _ 0 0 _
        refine x_ifeq (tgt := 28) rfl rfl (ti_eq jk_1 jk_0 (br_f (by omega) ?_))
        refine x_iconst (v := 1) rfl ki_1 ?_
        refine x_goto (tgt := 57) rfl rfl ?_
        exact jX.sub jsb_n (ct_X12_officeAt_r125d_300057 hD hQ  h J Sm D EV)
  ·
    rw [if_pos (by omega)] at D
    refine x_aloadn (x := 125) rfl rfl ?_
    refine z_getLQ (N := 92) 12 12 rfl f_12_224 rfl J rfl (fun v24 qv24 => ?_)
    have ev24 := jfullL v24
    try rw [vrfL qv24] at D
    refine x_lloadn (x := 3829621885317) rfl rfl ?_
    refine z_lcmp rfl rfl jkl_3829621885317 (fun v25 ev25 => ?_)
    refine x_ifne (tgt := 21) rfl rfl (ti_ne rfl jk_0 ⟨fun c26 => ?_, fun c26 => ?_⟩)
    ·
      rw [if_neg (by omega)] at D
      refine x_iconst (v := 0) rfl ki_0 ?_
      refine x_zret rfl rfl (by decide) ?_
      show jX m_X12_officeAt 2 0 0 7 [(0, .ref 125)] [.int 0] _ 0 0 _
      refine x_ifeq (tgt := 14) rfl rfl (ti_eq jk_0 jk_0 (br_t (by omega) ?_))
      refine x_aloadn (x := 125) rfl rfl ?_
      refine x_ldc2 (v := 676010845682) rfl z_12_603 ?_
      refine x_inv (N := m_X12_isWord) (As := [.long 676010845682]) (b := 125) (st := []) (dx9 := 1) (mc := 0) (ms := 0) (host := "") 12 rfl t_X12_isWord ⟨Or.inl q_12_511, i_X12_isWord.1, i_X12_isWord.2⟩ ⟨by decide, rfl⟩ (congrArg Prod.fst (J.1.1 125 (12, 92) rfl)) rfl (by decide) rfl rfl ⟨by decide, by decide⟩ (jC.of rfl k_X12_isWord rfl ?_)
      show jX m_X12_isWord 1 0 0 0 [(0, .ref 125), (1, .long 676010845682)] [] _ 0 0 _
      refine x_aloadn (x := 125) rfl rfl ?_
      refine z_getM (N := 92) (v := v1) 12 11 rfl f_12_235 rfl J rfl qv1 ?_
      refine x_iconst (v := 1) rfl ki_1 ?_
      refine x_icne (tgt := 21) rfl rfl (ti_ne rfl jk_1 (bn_f (by omega) ?_))
      refine x_aloadn (x := 125) rfl rfl ?_
      refine z_getLQ (N := 92) 12 12 rfl f_12_224 rfl J rfl (fun v27 qv27 => ?_)
      have ev27 := jfullL v27
      try have kqv27 : v24.toInt = v27.toInt := ((vrfL qv24).symm.trans (vrfL qv27))
      try rw [kqv27] at D
      try rw [vrfL qv27] at D
      refine x_lloadn (x := 676010845682) rfl rfl ?_
      refine z_lcmp rfl rfl jkl_676010845682 (fun v28 ev28 => ?_)
      refine x_ifne (tgt := 21) rfl rfl (ti_ne rfl jk_0 ⟨fun c29 => ?_, fun c29 => ?_⟩)
      ·
        rw [if_neg (by omega)] at D
        refine x_iconst (v := 0) rfl ki_0 ?_
        refine x_zret rfl rfl (by decide) ?_
        show jX m_X12_officeAt 2 0 0 21 [(0, .ref 125)] [.int 0] _ 0 0 _
        refine x_ifeq (tgt := 28) rfl rfl (ti_eq jk_0 jk_0 (br_t (by omega) ?_))
        refine x_aloadn (x := 125) rfl rfl ?_
        refine x_ldc2 (v := 539205670066) rfl z_12_605 ?_
        refine x_inv (N := m_X12_isWord) (As := [.long 539205670066]) (b := 125) (st := []) (dx9 := 1) (mc := 0) (ms := 0) (host := "") 12 rfl t_X12_isWord ⟨Or.inl q_12_511, i_X12_isWord.1, i_X12_isWord.2⟩ ⟨by decide, rfl⟩ (congrArg Prod.fst (J.1.1 125 (12, 92) rfl)) rfl (by decide) rfl rfl ⟨by decide, by decide⟩ (jC.of rfl k_X12_isWord rfl ?_)
        show jX m_X12_isWord 1 0 0 0 [(0, .ref 125), (1, .long 539205670066)] [] _ 0 0 _
        refine x_aloadn (x := 125) rfl rfl ?_
        refine z_getM (N := 92) (v := v1) 12 11 rfl f_12_235 rfl J rfl qv1 ?_
        refine x_iconst (v := 1) rfl ki_1 ?_
        refine x_icne (tgt := 21) rfl rfl (ti_ne rfl jk_1 (bn_f (by omega) ?_))
        refine x_aloadn (x := 125) rfl rfl ?_
        refine z_getLQ (N := 92) 12 12 rfl f_12_224 rfl J rfl (fun v30 qv30 => ?_)
        have ev30 := jfullL v30
        try have kqv30 : v27.toInt = v30.toInt := ((vrfL qv27).symm.trans (vrfL qv30))
        try rw [kqv30] at D
        try rw [vrfL qv30] at D
        refine x_lloadn (x := 539205670066) rfl rfl ?_
        refine z_lcmp rfl rfl jkl_539205670066 (fun v31 ev31 => ?_)
        refine x_ifne (tgt := 21) rfl rfl (ti_ne rfl jk_0 ⟨fun c32 => ?_, fun c32 => ?_⟩)
        ·
          rw [if_neg (by omega)] at D
          refine x_iconst (v := 0) rfl ki_0 ?_
          refine x_zret rfl rfl (by decide) ?_
          show jX m_X12_officeAt 2 0 0 35 [(0, .ref 125)] [.int 0] _ 0 0 _
          refine x_ifeq (tgt := 42) rfl rfl (ti_eq jk_0 jk_0 (br_t (by omega) ?_))
          refine x_aloadn (x := 125) rfl rfl ?_
          refine x_ldc2 (v := 773394606) rfl z_12_607 ?_
          refine x_inv (N := m_X12_isWord) (As := [.long 773394606]) (b := 125) (st := []) (dx9 := 1) (mc := 0) (ms := 0) (host := "") 12 rfl t_X12_isWord ⟨Or.inl q_12_511, i_X12_isWord.1, i_X12_isWord.2⟩ ⟨by decide, rfl⟩ (congrArg Prod.fst (J.1.1 125 (12, 92) rfl)) rfl (by decide) rfl rfl ⟨by decide, by decide⟩ (jC.of rfl k_X12_isWord rfl ?_)
          show jX m_X12_isWord 1 0 0 0 [(0, .ref 125), (1, .long 773394606)] [] _ 0 0 _
          refine x_aloadn (x := 125) rfl rfl ?_
          refine z_getM (N := 92) (v := v1) 12 11 rfl f_12_235 rfl J rfl qv1 ?_
          refine x_iconst (v := 1) rfl ki_1 ?_
          refine x_icne (tgt := 21) rfl rfl (ti_ne rfl jk_1 (bn_f (by omega) ?_))
          refine x_aloadn (x := 125) rfl rfl ?_
          refine z_getLQ (N := 92) 12 12 rfl f_12_224 rfl J rfl (fun v33 qv33 => ?_)
          have ev33 := jfullL v33
          try have kqv33 : v30.toInt = v33.toInt := ((vrfL qv30).symm.trans (vrfL qv33))
          try rw [kqv33] at D
          try rw [vrfL qv33] at D
          refine x_lloadn (x := 773394606) rfl rfl ?_
          refine z_lcmp rfl rfl jkl_773394606 (fun v34 ev34 => ?_)
          refine x_ifne (tgt := 21) rfl rfl (ti_ne rfl jk_0 ⟨fun c35 => ?_, fun c35 => ?_⟩)
          ·
            rw [if_neg (by omega)] at D
            refine x_iconst (v := 0) rfl ki_0 ?_
            refine x_zret rfl rfl (by decide) ?_
            show jX m_X12_officeAt 2 0 0 49 [(0, .ref 125)] [.int 0] _ 0 0 _
            refine x_ifeq (tgt := 56) rfl rfl (ti_eq jk_0 jk_0 (br_t (by omega) ?_))
            refine x_iconst (v := (-1)) rfl ki_m1 ?_
            exact jX.sub jsb_n (ct_X12_officeAt_r125d_100057 hD hQ  h J Sm D EV)
          ·
            rw [if_pos (by omega)] at D
            refine x_iconst (v := 1) rfl ki_1 ?_
            refine x_goto (tgt := 22) rfl rfl ?_
            refine x_zret rfl rfl (by decide) ?_
            show jX m_X12_officeAt 2 0 0 49 [(0, .ref 125)] [.int 1] _ 0 0 _
            refine x_ifeq (tgt := 56) rfl rfl (ti_eq jk_1 jk_0 (br_f (by omega) ?_))
            refine x_iconst (v := 3) rfl ki_3 ?_
            refine x_goto (tgt := 57) rfl rfl ?_
            exact jX.sub jsb_n (ct_X12_officeAt_r125d_500057 hD hQ  h J Sm D EV)
        ·
          rw [if_pos (by omega)] at D
          refine x_iconst (v := 1) rfl ki_1 ?_
          refine x_goto (tgt := 22) rfl rfl ?_
          refine x_zret rfl rfl (by decide) ?_
          show jX m_X12_officeAt 2 0 0 35 [(0, .ref 125)] [.int 1] _ 0 0 _
          refine x_ifeq (tgt := 42) rfl rfl (ti_eq jk_1 jk_0 (br_f (by omega) ?_))
          refine x_iconst (v := 2) rfl ki_2 ?_
          refine x_goto (tgt := 57) rfl rfl ?_
          exact jX.sub jsb_n (ct_X12_officeAt_r125d_400057 hD hQ  h J Sm D EV)
      ·
        rw [if_pos (by omega)] at D
        refine x_iconst (v := 1) rfl ki_1 ?_
        refine x_goto (tgt := 22) rfl rfl ?_
        refine x_zret rfl rfl (by decide) ?_
        show jX m_X12_officeAt 2 0 0 21 [(0, .ref 125)] [.int 1] _ 0 0 _
        refine x_ifeq (tgt := 28) rfl rfl (ti_eq jk_1 jk_0 (br_f (by omega) ?_))
        refine x_iconst (v := 1) rfl ki_1 ?_
        refine x_goto (tgt := 57) rfl rfl ?_
        exact jX.sub jsb_n (ct_X12_officeAt_r125d_300057 hD hQ  h J Sm D EV)
    ·
      rw [if_pos (by omega)] at D
      refine x_iconst (v := 1) rfl ki_1 ?_
      refine x_goto (tgt := 22) rfl rfl ?_
      refine x_zret rfl rfl (by decide) ?_
      show jX m_X12_officeAt 2 0 0 7 [(0, .ref 125)] [.int 1] _ 0 0 _
      refine x_ifeq (tgt := 14) rfl rfl (ti_eq jk_1 jk_0 (br_f (by omega) ?_))
      refine x_iconst (v := 0) rfl ki_0 ?_
      refine x_goto (tgt := 57) rfl rfl ?_
      exact jX.sub jsb_n (ct_X12_officeAt_r125d_200057 hD hQ  h J Sm D EV)
def fp_X12_readExpression_r125d : jFp := [(125, 9, 10), (125, 10, 11), (125, 11, 12), (125, 12, 13), (125, 13, 14), (125, 14, 15), (125, 49, 50), (125, 52, 53), (125, 55, 56), (125, 56, 57), (148, 0, 400), (149, 0, 400), (150, 0, 400), (151, 0, 400)]
set_option maxRecDepth 100000 in
set_option maxHeartbeats 4000000 in
theorem ct_X12_readExpression_r125d_76 {Dy : jH → Prop} {h0 : jH} {Q : Option Value → jH → Prop} {dr : jW} {A : Nat} (hA : A = jnC h0) (hC : (jiv h0 125 49).toInt ≤ (jiv h0 125 9).toInt) (hD : jDk Dy) (hQ : ∀ hx9, jJ jSgM Dy hx9 → jSm fp_X12_readExpression_r125d h0 hx9 → ∀ u0 u1 u2 : Int32, jiv hx9 125 10 = u0 → jiv hx9 125 8 = u1 → jiv hx9 125 9 = u2 → (u0.toInt ≤ u1.toInt ∧ u2.toInt ≤ u0.toInt) → ∀ u3 u4 u5 : Int32, jiv hx9 125 11 = u3 → jiv hx9 125 9 = u4 → jiv hx9 125 10 = u5 → (u3.toInt = 0 ∨ u4.toInt + 1 ≤ u5.toInt) → jRe A h0 hx9 → dr = vw hx9 → Q none hx9) : ∀ (g0 : Int32) (g1 : Int32) (g2 : Int32) (g3 : Int32) (h : jH), 0 ≤ g0.toInt ∧ g0.toInt ≤ 400 → 0 ≤ g1.toInt ∧ g1.toInt ≤ 3 → 0 ≤ g2.toInt ∧ g2.toInt ≤ 400 → 0 ≤ g3.toInt ∧ g3.toInt ≤ 400 → (jTu 0 h A 1 ∧ (jTn A 4 h ∨ (jiv h 125 14).toInt ≠ 0) ∧ jFm 0 A h0 h) → (g0.toInt ≤ g2.toInt ∧ g3.toInt ≤ g0.toInt) → (g1.toInt = 0 ∨ g3.toInt + 1 ≤ g0.toInt) → jiv h 125 10 = g0 → jiv h 125 11 = g1 → jiv h 125 8 = g2 → jiv h 125 9 = g3 → jJ jSgM Dy h → jSm fp_X12_readExpression_r125d h0 h → d_X12_readExpression_r125d_76  (vw h) = dr → jX m_X12_readExpression 7 0 0 76 [(0, .ref 125)] [] h 0 0 Q := by
  intro g0 g1 g2 g3 h y0 y1 y2 y3 C0 y5 y6 z0 z1 z2 z3  J Sm D
  unfold d_X12_readExpression_r125d_76 at D
  try rw [vrf z0] at D
  try rw [vrf z1] at D
  try rw [vrf z2] at D
  try rw [vrf z3] at D
  refine x_aloadn (x := 125) rfl rfl ?_
  refine x_iconst (v := 1) rfl ki_1 ?_
  refine x_inv (N := m_X12_settle) (As := [.int 1]) (b := 125) (st := []) (dx9 := 2) (mc := 0) (ms := 0) (host := "") 12 rfl t_X12_settle ⟨Or.inl q_12_548, i_X12_settle.1, i_X12_settle.2⟩ ⟨by decide, rfl⟩ (congrArg Prod.fst (J.1.1 125 (12, 92) rfl)) rfl (by decide) rfl rfl ⟨by decide, by decide⟩ (sf_X12_settle_r125d (jr_of jk_1 (by omega)) (K9 := 0) (by decide) C0.1 hD J rfl  (fun h J S1 P2 X3 => ?_))
  have Sm := jSm_tr rfl Sm S1
  try rw [jk_1] at X3
  rw [X3] at D
  show jX m_X12_readExpression 7 0 0 81 [(0, .ref 125)] [] _ 0 0 _
  refine x_vret rfl rfl ?_
  exact hQ _ J Sm _ _ _ (jmc S1 rfl z0) (jmc S1 rfl z2) (jmc S1 rfl z3) (by omega) _ _ _ (jmc S1 rfl z1) (jmc S1 rfl z3) (jmc S1 rfl z0) (by omega) (jre_of C0.2.2 C0.2.1 P2 C0.1.1 (jmc S1 rfl rfl) (jmc S1 rfl rfl) (by have := jrg_f J sg_125_9_10_1_0_1; omega)) D.symm
set_option maxRecDepth 100000 in
set_option maxHeartbeats 4000000 in
theorem ct_X12_readExpression_r125d_72 {Dy : jH → Prop} {h0 : jH} {Q : Option Value → jH → Prop} {dr : jW} {K20 : Int → Int → jW → jW} {R20 : Int} {A : Nat} (hA : A = jnC h0) (hC : (jiv h0 125 49).toInt ≤ (jiv h0 125 9).toInt) (hD : jDk Dy) (hQ : ∀ hx9, jJ jSgM Dy hx9 → jSm fp_X12_readExpression_r125d h0 hx9 → ∀ u0 u1 u2 : Int32, jiv hx9 125 10 = u0 → jiv hx9 125 8 = u1 → jiv hx9 125 9 = u2 → (u0.toInt ≤ u1.toInt ∧ u2.toInt ≤ u0.toInt) → ∀ u3 u4 u5 : Int32, jiv hx9 125 11 = u3 → jiv hx9 125 9 = u4 → jiv hx9 125 10 = u5 → (u3.toInt = 0 ∨ u4.toInt + 1 ≤ u5.toInt) → jRe A h0 hx9 → dr = vw hx9 → Q none hx9) (k20 : ∀ (l1 : Int32) (l2 : Int32) (g0 : Int32) (g1 : Int32) (g2 : Int32) (g3 : Int32) (h : jH), jrj l2.toInt h < R20 → 0 ≤ l1.toInt ∧ l1.toInt ≤ 1 → 0 ≤ l2.toInt ∧ l2.toInt ≤ 4 → 0 ≤ g0.toInt ∧ g0.toInt ≤ 400 → 0 ≤ g1.toInt ∧ g1.toInt ≤ 3 → 0 ≤ g2.toInt ∧ g2.toInt ≤ 400 → 0 ≤ g3.toInt ∧ g3.toInt ≤ 400 → (jTn A l2.toInt h ∧ jFm 0 A h0 h) → (g0.toInt ≤ g2.toInt ∧ g3.toInt ≤ g0.toInt) → (g1.toInt = 0 ∨ g3.toInt + 1 ≤ g0.toInt) → jiv h 125 10 = g0 → jiv h 125 11 = g1 → jiv h 125 8 = g2 → jiv h 125 9 = g3 → jJ jSgM Dy h → jSm fp_X12_readExpression_r125d h0 h → K20 l1.toInt l2.toInt (vw h) = dr → jX m_X12_readExpression 7 0 0 20 [(0, .ref 125), (1, .int l1), (2, .int l2)] [] h 0 0 Q) : ∀ (l1 : Int32) (s0 : Int32) (g0 : Int32) (g1 : Int32) (g2 : Int32) (g3 : Int32) (h : jH), 0 ≤ l1.toInt ∧ l1.toInt ≤ 1 → 0 ≤ s0.toInt ∧ s0.toInt ≤ 4 → 0 ≤ g0.toInt ∧ g0.toInt ≤ 400 → 0 ≤ g1.toInt ∧ g1.toInt ≤ 3 → 0 ≤ g2.toInt ∧ g2.toInt ≤ 400 → 0 ≤ g3.toInt ∧ g3.toInt ≤ 400 → (jTn A s0.toInt h ∧ jFm 0 A h0 h) → (g0.toInt ≤ g2.toInt ∧ g3.toInt ≤ g0.toInt) → (g1.toInt = 0 ∨ g3.toInt + 1 ≤ g0.toInt) → jiv h 125 10 = g0 → jiv h 125 11 = g1 → jiv h 125 8 = g2 → jiv h 125 9 = g3 → jrj s0.toInt h < R20 → jJ jSgM Dy h → jSm fp_X12_readExpression_r125d h0 h → d_X12_readExpression_r125d_72 K20  l1.toInt s0.toInt (vw h) = dr → jX m_X12_readExpression 7 0 0 72 [(0, .ref 125), (1, .int l1)] [.int s0] h 0 0 Q := by
  intro l1 s0 g0 g1 g2 g3 h y0 y1 y2 y3 y4 y5 C0 y7 y8 z0 z1 z2 z3 m20 J Sm D
  unfold d_X12_readExpression_r125d_72 at D
  try rw [vrf z0] at D
  try rw [vrf z1] at D
  try rw [vrf z2] at D
  try rw [vrf z3] at D
  refine x_istoren (lsx9 := [(2, .int s0), (0, .ref 125), (1, .int l1)]) rfl rfl rfl ?_
  refine x_goto (tgt := 20) rfl rfl ?_
  exact jX.sub (jsb_c rfl (jsb_c rfl (jsb_c rfl jsb_n))) (k20 l1 s0 g0 g1 g2 g3 h m20 (jr_of rfl (by omega)) (jr_of rfl (by omega)) (jr_of rfl (by omega)) (jr_of rfl (by omega)) (jr_of rfl (by omega)) (jr_of rfl (by omega)) C0 (by omega) (by omega) z0 z1 z2 z3 J Sm D)
set_option maxRecDepth 100000 in
set_option maxHeartbeats 4000000 in
theorem ct_X12_readExpression_r125d_20 {Dy : jH → Prop} {h0 : jH} {Q : Option Value → jH → Prop} {dr : jW} {A : Nat} (hA : A = jnC h0) (hC : (jiv h0 125 49).toInt ≤ (jiv h0 125 9).toInt) (hD : jDk Dy) (hQ : ∀ hx9, jJ jSgM Dy hx9 → jSm fp_X12_readExpression_r125d h0 hx9 → ∀ u0 u1 u2 : Int32, jiv hx9 125 10 = u0 → jiv hx9 125 8 = u1 → jiv hx9 125 9 = u2 → (u0.toInt ≤ u1.toInt ∧ u2.toInt ≤ u0.toInt) → ∀ u3 u4 u5 : Int32, jiv hx9 125 11 = u3 → jiv hx9 125 9 = u4 → jiv hx9 125 10 = u5 → (u3.toInt = 0 ∨ u4.toInt + 1 ≤ u5.toInt) → jRe A h0 hx9 → dr = vw hx9 → Q none hx9) : ∀ r : Nat, ∀ (l1 : Int32) (l2 : Int32) (g0 : Int32) (g1 : Int32) (g2 : Int32) (g3 : Int32) (h : jH), jrj l2.toInt h < (r : Int) → 0 ≤ l1.toInt ∧ l1.toInt ≤ 1 → 0 ≤ l2.toInt ∧ l2.toInt ≤ 4 → 0 ≤ g0.toInt ∧ g0.toInt ≤ 400 → 0 ≤ g1.toInt ∧ g1.toInt ≤ 3 → 0 ≤ g2.toInt ∧ g2.toInt ≤ 400 → 0 ≤ g3.toInt ∧ g3.toInt ≤ 400 → (jTn A l2.toInt h ∧ jFm 0 A h0 h) → (g0.toInt ≤ g2.toInt ∧ g3.toInt ≤ g0.toInt) → (g1.toInt = 0 ∨ g3.toInt + 1 ≤ g0.toInt) → jiv h 125 10 = g0 → jiv h 125 11 = g1 → jiv h 125 8 = g2 → jiv h 125 9 = g3 → jJ jSgM Dy h → jSm fp_X12_readExpression_r125d h0 h → d_X12_readExpression_r125d_20 r l1.toInt l2.toInt (vw h) = dr → jX m_X12_readExpression 7 0 0 20 [(0, .ref 125), (1, .int l1), (2, .int l2)] [] h 0 0 Q := by
  intro r
  induction r with
  | zero =>
    intro l1 l2 g0 g1 g2 g3 h hm y0 y1 y2 y3 y4 y5 C0 y7 y8 z0 z1 z2 z3  J Sm D
    exfalso
    have := (jrj_b (t := l2.toInt) (jrg_f J sg_125_9_10_1_0_1)).1; omega
  | succ r ih =>
    intro l1 l2 g0 g1 g2 g3 h hm y0 y1 y2 y3 y4 y5 C0 y7 y8 z0 z1 z2 z3  J Sm D
    rw [d_X12_readExpression_r125d_20.eq_2] at D
    try rw [vrf z0] at D
    try rw [vrf z1] at D
    try rw [vrf z2] at D
    try rw [vrf z3] at D
    refine x_aloadn (x := 125) rfl rfl ?_
    refine z_getI (N := 92) 12 14 rfl f_12_214 rfl J rfl sg_125_14_15_1_0_1 (fun v1 qv1 ev1 => ?_)
    try rw [vrf qv1] at D
    refine x_ifne (tgt := 76) rfl rfl (ti_ne rfl jk_0 ⟨fun c2 => ?_, fun c2 => ?_⟩)
    ·
      rw [if_neg (by omega)] at D
      exact jX.sub (jsb_c rfl jsb_n) (ct_X12_readExpression_r125d_76 hA hC hD hQ  g0 g1 g2 g3 h (jr_of rfl (by omega)) (jr_of rfl (by omega)) (jr_of rfl (by omega)) (jr_of rfl (by omega)) ⟨⟨C0.1.1.1, Or.inl (by rw [qv1]; omega)⟩, Or.inr (by rw [qv1]; omega), C0.2⟩ (by omega) (by omega) z0 z1 z2 z3 J Sm D)
    ·
      rw [if_pos (by omega)] at D
      have J8 := J
      refine x_iloadn (x := l2) rfl rfl ?_
      refine x_iconst (v := 4) rfl ki_4 ?_
      refine x_iceq (tgt := 76) rfl rfl (ti_eq rfl jk_4 ⟨fun c3 => ?_, fun c3 => ?_⟩)
      ·
        rw [if_pos (by omega)] at D
        exact jX.sub (jsb_c rfl jsb_n) (ct_X12_readExpression_r125d_76 hA hC hD hQ  g0 g1 g2 g3 h (jr_of rfl (by omega)) (jr_of rfl (by omega)) (jr_of rfl (by omega)) (jr_of rfl (by omega)) ⟨jtn_u1 C0.1 (by omega), Or.inl ((show l2.toInt = 4 by omega) ▸ C0.1), C0.2⟩ (by omega) (by omega) z0 z1 z2 z3 J Sm D)
      ·
        rw [if_neg (by omega)] at D
        refine x_iloadn (x := l2) rfl rfl ?_
        refine x_ifne (tgt := 43) rfl rfl (ti_ne rfl jk_0 ⟨fun c4 => ?_, fun c4 => ?_⟩)
        ·
          rw [if_neg (by omega)] at D
          refine x_iloadn (x := l2) rfl rfl ?_
          refine x_iconst (v := 1) rfl ki_1 ?_
          refine x_icne (tgt := 55) rfl rfl (ti_ne rfl jk_1 ⟨fun c5 => ?_, fun c5 => ?_⟩)
          ·
            rw [if_neg (by omega)] at D
            refine x_iloadn (x := l2) rfl rfl ?_
            refine x_iconst (v := 3) rfl ki_3 ?_
            refine x_icne (tgt := 68) rfl rfl (ti_ne rfl jk_3 ⟨fun c6 => ?_, fun c6 => ?_⟩)
            ·
              rw [if_neg (by omega)] at D
              refine x_aloadn (x := 125) rfl rfl ?_
              refine x_inv (N := m_X12_behindTest) (As := []) (b := 125) (st := []) (dx9 := 4) (mc := 0) (ms := 0) (host := "") 12 rfl t_X12_behindTest ⟨Or.inl q_12_582, i_X12_behindTest.1, i_X12_behindTest.2⟩ ⟨by decide, rfl⟩ (congrArg Prod.fst (J.1.1 125 (12, 92) rfl)) rfl (by decide) rfl rfl ⟨by decide, by decide⟩ (sf_X12_behindTest_r125d  (jtn_u1 C0.1 (by omega)) (jtn_n C0.1 (by omega)) hD J z0 z2 z3 (by omega) z1 z3 z0 (by omega) rfl  (fun v17 h ev17 J S7 u8 u9 u10 qu8 qu9 qu10 ru8 u11 u12 u13 qu11 qu12 qu13 ru11 P14 X15 X16 => ?_))
              have Sm := jSm_tr rfl Sm S7
              try rw [X15] at D
              try rw [X16] at D
              have eu8 := (show 0 ≤ u8.toInt ∧ u8.toInt ≤ 400 from qu8 ▸ jrg_f J sg_125_10_11_1_0_1)
              try rw [vrf qu8] at D
              have eu9 := (show 0 ≤ u9.toInt ∧ u9.toInt ≤ 400 from qu9 ▸ jrg_f J sg_125_8_9_1_0_1)
              try rw [vrf (jmb_c S7 qu9 rfl)] at D
              have eu10 := (show 0 ≤ u10.toInt ∧ u10.toInt ≤ 400 from qu10 ▸ jrg_f J sg_125_9_10_1_0_1)
              try rw [vrf qu10] at D
              have eu11 := (show 0 ≤ u11.toInt ∧ u11.toInt ≤ 3 from qu11 ▸ jrg_f J sg_125_11_12_1_0_1)
              try rw [vrf qu11] at D
              obtain rfl : u10 = u12 := qu10.symm.trans qu12
              obtain rfl : u8 = u13 := qu8.symm.trans qu13
              show jX m_X12_readExpression 7 0 0 72 [(0, .ref 125), (1, .int l1), (2, .int l2)] [.int v17] _ 0 0 _
              exact jX.sub (jsb_c rfl (jsb_c rfl jsb_n)) (ct_X12_readExpression_r125d_72 hA hC hD hQ ih l1 v17 u8 u11 u9 u10 h (jr_of rfl (by omega)) (jr_of rfl (by omega)) (jr_of rfl (by omega)) (jr_of rfl (by omega)) (jr_of rfl (by omega)) (jr_of rfl (by omega)) (re_bp (t := l2.toInt) C0.2 P14 (by rw [qv1]; omega) (by omega) (by have := jrg_f J8 sg_125_9_10_1_0_1; omega)).1 (by omega) (by omega) qu8 qu11 qu9 qu10 (by have m_ := (re_bp (t := l2.toInt) C0.2 P14 (by rw [qv1]; omega) (by omega) (by have := jrg_f J8 sg_125_9_10_1_0_1; omega)).2; omega) J Sm D)
            ·
              rw [if_pos (by omega)] at D
              refine x_aloadn (x := 125) rfl rfl ?_
              refine x_iloadn (x := l1) rfl rfl ?_
              refine x_inv (N := m_X12_behindSum) (As := [.int l1]) (b := 125) (st := []) (dx9 := 4) (mc := 0) (ms := 0) (host := "") 12 rfl t_X12_behindSum ⟨Or.inl q_12_578, i_X12_behindSum.1, i_X12_behindSum.2⟩ ⟨by decide, rfl⟩ (congrArg Prod.fst (J.1.1 125 (12, 92) rfl)) rfl (by decide) rfl rfl ⟨by decide, by decide⟩ (sf_X12_behindSum_r125d (jr_of rfl (by omega)) (jtn_u1 C0.1 (by omega)) hD J z0 z2 z3 (by omega) z1 z3 z0 (by omega) rfl  (fun v28 h ev28 J S18 u19 u20 u21 qu19 qu20 qu21 ru19 u22 u23 u24 qu22 qu23 qu24 ru22 P25 X26 X27 => ?_))
              have Sm := jSm_tr rfl Sm S18
              try rw [X26] at D
              try rw [X27] at D
              have eu19 := (show 0 ≤ u19.toInt ∧ u19.toInt ≤ 400 from qu19 ▸ jrg_f J sg_125_10_11_1_0_1)
              try rw [vrf qu19] at D
              have eu20 := (show 0 ≤ u20.toInt ∧ u20.toInt ≤ 400 from qu20 ▸ jrg_f J sg_125_8_9_1_0_1)
              try rw [vrf (jmb_c S18 qu20 rfl)] at D
              have eu21 := (show 0 ≤ u21.toInt ∧ u21.toInt ≤ 400 from qu21 ▸ jrg_f J sg_125_9_10_1_0_1)
              try rw [vrf qu21] at D
              have eu22 := (show 0 ≤ u22.toInt ∧ u22.toInt ≤ 3 from qu22 ▸ jrg_f J sg_125_11_12_1_0_1)
              try rw [vrf qu22] at D
              obtain rfl : u21 = u23 := qu21.symm.trans qu23
              obtain rfl : u19 = u24 := qu19.symm.trans qu24
              show jX m_X12_readExpression 7 0 0 65 [(0, .ref 125), (1, .int l1), (2, .int l2)] [.int v28] _ 0 0 _
              refine x_goto (tgt := 72) rfl rfl ?_
              exact jX.sub (jsb_c rfl (jsb_c rfl jsb_n)) (ct_X12_readExpression_r125d_72 hA hC hD hQ ih l1 v28 u19 u22 u20 u21 h (jr_of rfl (by omega)) (jr_of rfl (by omega)) (jr_of rfl (by omega)) (jr_of rfl (by omega)) (jr_of rfl (by omega)) (jr_of rfl (by omega)) (re_bp (t := l2.toInt) C0.2 P25 (by rw [qv1]; omega) (by omega) (by have := jrg_f J8 sg_125_9_10_1_0_1; omega)).1 (by omega) (by omega) qu19 qu22 qu20 qu21 (by have m_ := (re_bp (t := l2.toInt) C0.2 P25 (by rw [qv1]; omega) (by omega) (by have := jrg_f J8 sg_125_9_10_1_0_1; omega)).2; omega) J Sm D)
          ·
            rw [if_pos (by omega)] at D
            refine x_aloadn (x := 125) rfl rfl ?_
            refine x_inv (N := m_X12_readSum) (As := []) (b := 125) (st := []) (dx9 := 5) (mc := 0) (ms := 0) (host := "") 12 rfl t_X12_readSum ⟨Or.inl q_12_569, i_X12_readSum.1, i_X12_readSum.2⟩ ⟨by decide, rfl⟩ (congrArg Prod.fst (J.1.1 125 (12, 92) rfl)) rfl (by decide) rfl rfl ⟨by decide, by decide⟩ (sf_X12_readSum_r125d  (jtn_u0 C0.1 (by omega)) hD J z0 z2 z3 (by omega) z1 z3 z0 (by omega) rfl  (fun v39 h ev39 J S29 u30 u31 u32 qu30 qu31 qu32 ru30 u33 u34 u35 qu33 qu34 qu35 ru33 P36 X37 X38 => ?_))
            have Sm := jSm_tr rfl Sm S29
            try rw [X37] at D
            try rw [X38] at D
            have eu30 := (show 0 ≤ u30.toInt ∧ u30.toInt ≤ 400 from qu30 ▸ jrg_f J sg_125_10_11_1_0_1)
            try rw [vrf qu30] at D
            have eu31 := (show 0 ≤ u31.toInt ∧ u31.toInt ≤ 400 from qu31 ▸ jrg_f J sg_125_8_9_1_0_1)
            try rw [vrf (jmb_c S29 qu31 rfl)] at D
            have eu32 := (show 0 ≤ u32.toInt ∧ u32.toInt ≤ 400 from qu32 ▸ jrg_f J sg_125_9_10_1_0_1)
            try rw [vrf qu32] at D
            have eu33 := (show 0 ≤ u33.toInt ∧ u33.toInt ≤ 3 from qu33 ▸ jrg_f J sg_125_11_12_1_0_1)
            try rw [vrf qu33] at D
            obtain rfl : u32 = u34 := qu32.symm.trans qu34
            obtain rfl : u30 = u35 := qu30.symm.trans qu35
            show jX m_X12_readExpression 7 0 0 52 [(0, .ref 125), (1, .int l1), (2, .int l2)] [.int v39] _ 0 0 _
            refine x_goto (tgt := 72) rfl rfl ?_
            exact jX.sub (jsb_c rfl (jsb_c rfl jsb_n)) (ct_X12_readExpression_r125d_72 hA hC hD hQ ih l1 v39 u30 u33 u31 u32 h (jr_of rfl (by omega)) (jr_of rfl (by omega)) (jr_of rfl (by omega)) (jr_of rfl (by omega)) (jr_of rfl (by omega)) (jr_of rfl (by omega)) (re_rd (t := l2.toInt) C0.2 P36 (by rw [qv1]; omega) (by omega) (by have := jrg_f J8 sg_125_9_10_1_0_1; omega)).1 (by omega) (by omega) qu30 qu33 qu31 qu32 (by have m_ := (re_rd (t := l2.toInt) C0.2 P36 (by rw [qv1]; omega) (by omega) (by have := jrg_f J8 sg_125_9_10_1_0_1; omega)).2; omega) J Sm D)
        ·
          rw [if_pos (by omega)] at D
          refine x_aloadn (x := 125) rfl rfl ?_
          refine x_inv (N := m_X12_readPlain) (As := []) (b := 125) (st := []) (dx9 := 6) (mc := 0) (ms := 0) (host := "") 12 rfl t_X12_readPlain ⟨Or.inl q_12_575, i_X12_readPlain.1, i_X12_readPlain.2⟩ ⟨by decide, rfl⟩ (congrArg Prod.fst (J.1.1 125 (12, 92) rfl)) rfl (by decide) rfl rfl ⟨by decide, by decide⟩ (sf_X12_readPlain_r125d  (jtn_u0 C0.1 (by omega)) (jtn_n C0.1 (by omega)) hD J z0 z2 z3 (by omega) z1 z3 z0 (by omega) rfl  (fun v50 h ev50 J S40 u41 u42 u43 qu41 qu42 qu43 ru41 u44 u45 u46 qu44 qu45 qu46 ru44 P47 X48 X49 => ?_))
          have Sm := jSm_tr rfl Sm S40
          try rw [X48] at D
          try rw [X49] at D
          have eu41 := (show 0 ≤ u41.toInt ∧ u41.toInt ≤ 400 from qu41 ▸ jrg_f J sg_125_10_11_1_0_1)
          try rw [vrf qu41] at D
          have eu42 := (show 0 ≤ u42.toInt ∧ u42.toInt ≤ 400 from qu42 ▸ jrg_f J sg_125_8_9_1_0_1)
          try rw [vrf (jmb_c S40 qu42 rfl)] at D
          have eu43 := (show 0 ≤ u43.toInt ∧ u43.toInt ≤ 400 from qu43 ▸ jrg_f J sg_125_9_10_1_0_1)
          try rw [vrf qu43] at D
          have eu44 := (show 0 ≤ u44.toInt ∧ u44.toInt ≤ 3 from qu44 ▸ jrg_f J sg_125_11_12_1_0_1)
          try rw [vrf qu44] at D
          obtain rfl : u43 = u45 := qu43.symm.trans qu45
          obtain rfl : u41 = u46 := qu41.symm.trans qu46
          show jX m_X12_readExpression 7 0 0 40 [(0, .ref 125), (1, .int l1), (2, .int l2)] [.int v50] _ 0 0 _
          refine x_goto (tgt := 72) rfl rfl ?_
          exact jX.sub (jsb_c rfl (jsb_c rfl jsb_n)) (ct_X12_readExpression_r125d_72 hA hC hD hQ ih l1 v50 u41 u44 u42 u43 h (jr_of rfl (by omega)) (jr_of rfl (by omega)) (jr_of rfl (by omega)) (jr_of rfl (by omega)) (jr_of rfl (by omega)) (jr_of rfl (by omega)) (re_rd (t := l2.toInt) C0.2 P47 (by rw [qv1]; omega) (by omega) (by have := jrg_f J8 sg_125_9_10_1_0_1; omega)).1 (by omega) (by omega) qu41 qu44 qu42 qu43 (by have m_ := (re_rd (t := l2.toInt) C0.2 P47 (by rw [qv1]; omega) (by omega) (by have := jrg_f J8 sg_125_9_10_1_0_1; omega)).2; omega) J Sm D)
set_option maxRecDepth 100000 in
set_option maxHeartbeats 4000000 in
theorem ct_X12_readExpression_r125d_300019 {Dy : jH → Prop} {h0 : jH} {Q : Option Value → jH → Prop} {dr : jW} {A : Nat} (hA : A = jnC h0) (hC : (jiv h0 125 49).toInt ≤ (jiv h0 125 9).toInt) (hD : jDk Dy) (hQ : ∀ hx9, jJ jSgM Dy hx9 → jSm fp_X12_readExpression_r125d h0 hx9 → ∀ u0 u1 u2 : Int32, jiv hx9 125 10 = u0 → jiv hx9 125 8 = u1 → jiv hx9 125 9 = u2 → (u0.toInt ≤ u1.toInt ∧ u2.toInt ≤ u0.toInt) → ∀ u3 u4 u5 : Int32, jiv hx9 125 11 = u3 → jiv hx9 125 9 = u4 → jiv hx9 125 10 = u5 → (u3.toInt = 0 ∨ u4.toInt + 1 ≤ u5.toInt) → jRe A h0 hx9 → dr = vw hx9 → Q none hx9) : ∀ (l1 : Int32) (g0 : Int32) (g1 : Int32) (g2 : Int32) (g3 : Int32) (h : jH), 0 ≤ l1.toInt ∧ l1.toInt ≤ 0 → 0 ≤ g0.toInt ∧ g0.toInt ≤ 400 → 0 ≤ g1.toInt ∧ g1.toInt ≤ 3 → 0 ≤ g2.toInt ∧ g2.toInt ≤ 400 → 0 ≤ g3.toInt ∧ g3.toInt ≤ 400 → (jTn A 1 h ∧ jFm 0 A h0 h) → (g0.toInt ≤ g2.toInt ∧ g3.toInt ≤ g0.toInt) → (g1.toInt = 0 ∨ g3.toInt + 1 ≤ g0.toInt) → jiv h 125 10 = g0 → jiv h 125 11 = g1 → jiv h 125 8 = g2 → jiv h 125 9 = g3 → jJ jSgM Dy h → jSm fp_X12_readExpression_r125d h0 h → d_X12_readExpression_r125d_300019  l1.toInt (vw h) = dr → jX m_X12_readExpression 7 0 0 19 [(0, .ref 125), (1, .int l1)] [.int 1] h 0 0 Q := by
  intro l1 g0 g1 g2 g3 h y0 y1 y2 y3 y4 C0 y6 y7 z0 z1 z2 z3  J Sm D
  unfold d_X12_readExpression_r125d_300019 at D
  try rw [vrf z0] at D
  try rw [vrf z1] at D
  try rw [vrf z2] at D
  try rw [vrf z3] at D
  refine x_istoren (lsx9 := [(2, .int 1), (0, .ref 125), (1, .int l1)]) rfl rfl rfl ?_
  exact jX.sub (jsb_c rfl (jsb_c rfl (jsb_c rfl jsb_n))) (ct_X12_readExpression_r125d_20 hA hC hD hQ  1612 l1 1 g0 g1 g2 g3 h (by have := (jrj_b (t := Int32.toInt 1) (jrg_f J sg_125_9_10_1_0_1)).2; omega) (jr_of rfl (by omega)) (jr_of jk_1 (by omega)) (jr_of rfl (by omega)) (jr_of rfl (by omega)) (jr_of rfl (by omega)) (jr_of rfl (by omega)) (by rw [jk_1]; exact C0) (by omega) (by omega) z0 z1 z2 z3 J Sm (by rw [jk_1]; exact D))
set_option maxRecDepth 100000 in
set_option maxHeartbeats 4000000 in
theorem ct_X12_readExpression_r125d_200019 {Dy : jH → Prop} {h0 : jH} {Q : Option Value → jH → Prop} {dr : jW} {A : Nat} (hA : A = jnC h0) (hC : (jiv h0 125 49).toInt ≤ (jiv h0 125 9).toInt) (hD : jDk Dy) (hQ : ∀ hx9, jJ jSgM Dy hx9 → jSm fp_X12_readExpression_r125d h0 hx9 → ∀ u0 u1 u2 : Int32, jiv hx9 125 10 = u0 → jiv hx9 125 8 = u1 → jiv hx9 125 9 = u2 → (u0.toInt ≤ u1.toInt ∧ u2.toInt ≤ u0.toInt) → ∀ u3 u4 u5 : Int32, jiv hx9 125 11 = u3 → jiv hx9 125 9 = u4 → jiv hx9 125 10 = u5 → (u3.toInt = 0 ∨ u4.toInt + 1 ≤ u5.toInt) → jRe A h0 hx9 → dr = vw hx9 → Q none hx9) : ∀ (l1 : Int32) (g0 : Int32) (g1 : Int32) (g2 : Int32) (g3 : Int32) (h : jH), 1 ≤ l1.toInt ∧ l1.toInt ≤ 1 → 0 ≤ g0.toInt ∧ g0.toInt ≤ 400 → 0 ≤ g1.toInt ∧ g1.toInt ≤ 3 → 0 ≤ g2.toInt ∧ g2.toInt ≤ 400 → 0 ≤ g3.toInt ∧ g3.toInt ≤ 400 → l1.toInt ≠ 0 → (jTn A 0 h ∧ jFm 0 A h0 h) → (g0.toInt ≤ g2.toInt ∧ g3.toInt ≤ g0.toInt) → (g1.toInt = 0 ∨ g3.toInt + 1 ≤ g0.toInt) → jiv h 125 10 = g0 → jiv h 125 11 = g1 → jiv h 125 8 = g2 → jiv h 125 9 = g3 → jJ jSgM Dy h → jSm fp_X12_readExpression_r125d h0 h → d_X12_readExpression_r125d_200019  l1.toInt (vw h) = dr → jX m_X12_readExpression 7 0 0 19 [(0, .ref 125), (1, .int l1)] [.int 0] h 0 0 Q := by
  intro l1 g0 g1 g2 g3 h y0 y1 y2 y3 y4 y5 C0 y7 y8 z0 z1 z2 z3  J Sm D
  unfold d_X12_readExpression_r125d_200019 at D
  try rw [vrf z0] at D
  try rw [vrf z1] at D
  try rw [vrf z2] at D
  try rw [vrf z3] at D
  refine x_istoren (lsx9 := [(2, .int 0), (0, .ref 125), (1, .int l1)]) rfl rfl rfl ?_
  exact jX.sub (jsb_c rfl (jsb_c rfl (jsb_c rfl jsb_n))) (ct_X12_readExpression_r125d_20 hA hC hD hQ  1612 l1 0 g0 g1 g2 g3 h (by have := (jrj_b (t := Int32.toInt 0) (jrg_f J sg_125_9_10_1_0_1)).2; omega) (jr_of rfl (by omega)) (jr_of jk_0 (by omega)) (jr_of rfl (by omega)) (jr_of rfl (by omega)) (jr_of rfl (by omega)) (jr_of rfl (by omega)) (by rw [jk_0]; exact C0) (by omega) (by omega) z0 z1 z2 z3 J Sm (by rw [jk_0]; exact D))
set_option maxRecDepth 100000 in
set_option maxHeartbeats 4000000 in
theorem sf_X12_readExpression_r125d {Dy : jH → Prop} {h : jH} {Q : Option Value → jH → Prop} {dr : jW} {a1 : Int32} (y1 : 0 ≤ a1.toInt ∧ a1.toInt ≤ 1) {A : Nat} (hA : A = jnC h) (hC : (jiv h 125 49).toInt ≤ (jiv h 125 9).toInt) (hD : jDk Dy) (J : jJ jSgM Dy h) {p0 p1 p2 : Int32} {p3 p4 p5 : Int32} (zp0 : jiv h 125 10 = p0) (zp1 : jiv h 125 8 = p1) (zp2 : jiv h 125 9 = p2) (rl_p0 : (p0.toInt ≤ p1.toInt ∧ p2.toInt ≤ p0.toInt)) (zp3 : jiv h 125 11 = p3) (zp4 : jiv h 125 9 = p4) (zp5 : jiv h 125 10 = p5) (rl_p3 : (p3.toInt = 0 ∨ p4.toInt + 1 ≤ p5.toInt)) (D : d_X12_readExpression_r125d a1.toInt (vw h) = dr) (hQ : ∀ hx9, jJ jSgM Dy hx9 → jSm fp_X12_readExpression_r125d h hx9 → ∀ u0 u1 u2 : Int32, jiv hx9 125 10 = u0 → jiv hx9 125 8 = u1 → jiv hx9 125 9 = u2 → (u0.toInt ≤ u1.toInt ∧ u2.toInt ≤ u0.toInt) → ∀ u3 u4 u5 : Int32, jiv hx9 125 11 = u3 → jiv hx9 125 9 = u4 → jiv hx9 125 10 = u5 → (u3.toInt = 0 ∨ u4.toInt + 1 ≤ u5.toInt) → jRe A h hx9 → dr = vw hx9 → Q none hx9) : jC m_X12_readExpression 7 0 0 [.ref 125, .int a1] h Q := by
  refine jC.of rfl k_X12_readExpression rfl ?_
  have Sm := jSm_rf fp_X12_readExpression_r125d h
  have ep0 := (show 0 ≤ p0.toInt ∧ p0.toInt ≤ 400 from zp0 ▸ jrg_f J sg_125_10_11_1_0_1)
  have ep1 := (show 0 ≤ p1.toInt ∧ p1.toInt ≤ 400 from zp1 ▸ jrg_f J sg_125_8_9_1_0_1)
  have ep2 := (show 0 ≤ p2.toInt ∧ p2.toInt ≤ 400 from zp2 ▸ jrg_f J sg_125_9_10_1_0_1)
  have ep3 := (show 0 ≤ p3.toInt ∧ p3.toInt ≤ 3 from zp3 ▸ jrg_f J sg_125_11_12_1_0_1)
  have ep4 := (show 0 ≤ p4.toInt ∧ p4.toInt ≤ 400 from zp4 ▸ jrg_f J sg_125_9_10_1_0_1)
  have ep5 := (show 0 ≤ p5.toInt ∧ p5.toInt ≤ 400 from zp5 ▸ jrg_f J sg_125_10_11_1_0_1)
  obtain rfl : p2 = p4 := zp2.symm.trans zp4
  obtain rfl : p0 = p5 := zp0.symm.trans zp5
  have J7 := J
  show jX m_X12_readExpression 7 0 0 0 [(0, .ref 125), (1, .int a1)] [] _ 0 0 _
  unfold d_X12_readExpression_r125d at D
  try rw [vrf zp0] at D
  try rw [vrf zp1] at D
  try rw [vrf zp2] at D
  try rw [vrf zp3] at D
  try rw [vrf zp4] at D
  try rw [vrf zp5] at D
  refine x_aloadn (x := 125) rfl rfl ?_
  refine x_iconst (v := 0) rfl ki_0 ?_
  refine z_putI (N := 92) (w := 0) 12 55 rfl f_12_496 rfl (jfin_no TX12 RX12 92 rfl rfl) hD J Sm rfl rfl jk_0 (pw_125_55 (by omega)) rfl (fun h w1 J Sm => ?_)
  rw [vwf w1 (show 0 = (0 : Int32).toInt from by have := jk_0; omega)] at D
  refine x_aloadn (x := 125) rfl rfl ?_
  refine x_iconst (v := 0) rfl ki_0 ?_
  refine z_putI (N := 92) (w := 0) 12 56 rfl f_12_533 rfl (jfin_no TX12 RX12 92 rfl rfl) hD J Sm rfl rfl jk_0 (pw_125_56 trivial) rfl (fun h w2 J Sm => ?_)
  rw [vwf w2 (show 0 = (0 : Int32).toInt from by have := jk_0; omega)] at D
  refine x_iloadn (x := a1) rfl rfl ?_
  refine x_ifeq (tgt := 18) rfl rfl (ti_eq rfl jk_0 ⟨fun c3 => ?_, fun c3 => ?_⟩)
  ·
    rw [if_pos (by omega)] at D
    refine x_iconst (v := 1) rfl ki_1 ?_
    exact jX.sub (jsb_c rfl (jsb_c rfl jsb_n)) (ct_X12_readExpression_r125d_300019 hA hC hD hQ  a1 p0 p3 p1 p2 h (jr_of rfl (by omega)) (jr_of rfl (by omega)) (jr_of rfl (by omega)) (jr_of rfl (by omega)) (jr_of rfl (by omega)) (re_0 (by omega) hA hC (jrg_f J7 sg_125_49_50_1_0_1).1 w1 w2) (by omega) (by omega) (jmo w2 rfl (jmo w1 rfl zp0)) (jmo w2 rfl (jmo w1 rfl zp3)) (jmo w2 rfl (jmo w1 rfl zp1)) (jmo w2 rfl (jmo w1 rfl zp2)) J Sm D)
  ·
    rw [if_neg (by omega)] at D
    refine x_iconst (v := 0) rfl ki_0 ?_
    refine x_goto (tgt := 19) rfl rfl ?_
    exact jX.sub (jsb_c rfl (jsb_c rfl jsb_n)) (ct_X12_readExpression_r125d_200019 hA hC hD hQ  a1 p0 p3 p1 p2 h (jr_of rfl (by omega)) (jr_of rfl (by omega)) (jr_of rfl (by omega)) (jr_of rfl (by omega)) (jr_of rfl (by omega)) (by omega) (re_0 (by omega) hA hC (jrg_f J7 sg_125_49_50_1_0_1).1 w1 w2) (by omega) (by omega) (jmo w2 rfl (jmo w1 rfl zp0)) (jmo w2 rfl (jmo w1 rfl zp3)) (jmo w2 rfl (jmo w1 rfl zp1)) (jmo w2 rfl (jmo w1 rfl zp2)) J Sm D)
def fp_X12_readPieces_r125d : jFp := [(125, 9, 10), (125, 10, 11), (125, 11, 12), (125, 12, 13), (125, 13, 14), (125, 14, 15), (125, 49, 50), (125, 52, 53), (125, 55, 56), (125, 56, 57), (147, 0, 120), (148, 0, 400), (149, 0, 400), (150, 0, 400), (151, 0, 400)]
set_option maxRecDepth 100000 in
set_option maxHeartbeats 4000000 in
theorem ct_X12_readPieces_r125d_26 {Dy : jH → Prop} {h0 : jH} {Q : Option Value → jH → Prop} {dr : jW} {a1 : Int32} (yy_a1 : 4 ≤ a1.toInt ∧ a1.toInt ≤ 118) {A : Nat} (hA : A = jnC h0) (hD : jDk Dy) (hQ : ∀ hx9, jJ jSgM Dy hx9 → jSm fp_X12_readPieces_r125d h0 hx9 → ∀ u0 u1 u2 : Int32, jiv hx9 125 10 = u0 → jiv hx9 125 8 = u1 → jiv hx9 125 9 = u2 → (u0.toInt ≤ u1.toInt ∧ u2.toInt ≤ u0.toInt) → ∀ u3 u4 u5 : Int32, jiv hx9 125 11 = u3 → jiv hx9 125 9 = u4 → jiv hx9 125 10 = u5 → (u3.toInt = 0 ∨ u4.toInt + 1 ≤ u5.toInt) → jPs a1 A h0 hx9 → dr = vw hx9 → Q none hx9) : ∀ (g0 : Int32) (g1 : Int32) (g2 : Int32) (g3 : Int32) (h : jH), 0 ≤ g0.toInt ∧ g0.toInt ≤ 400 → 0 ≤ g1.toInt ∧ g1.toInt ≤ 3 → 0 ≤ g2.toInt ∧ g2.toInt ≤ 400 → 0 ≤ g3.toInt ∧ g3.toInt ≤ 400 → jP26 a1 A h0 h → (g0.toInt ≤ g2.toInt ∧ g3.toInt ≤ g0.toInt) → (g1.toInt = 0 ∨ g3.toInt + 1 ≤ g0.toInt) → jiv h 125 10 = g0 → jiv h 125 11 = g1 → jiv h 125 8 = g2 → jiv h 125 9 = g3 → jJ jSgM Dy h → jSm fp_X12_readPieces_r125d h0 h → d_X12_readPieces_r125d_26  a1.toInt (vw h) = dr → jX m_X12_readPieces 8 0 0 26 [(0, .ref 125), (1, .int a1)] [] h 0 0 Q := by
  intro g0 g1 g2 g3 h y0 y1 y2 y3 C0 y5 y6 z0 z1 z2 z3  J Sm D
  unfold d_X12_readPieces_r125d_26 at D
  try rw [vrf z0] at D
  try rw [vrf z1] at D
  try rw [vrf z2] at D
  try rw [vrf z3] at D
  refine x_aloadn (x := 125) rfl rfl ?_
  refine z_getR (N := 92) (b := 147) 12 48 rfl f_12_96 rfl J rfl 16048 ⟨rfl, rfl⟩ rfl ?_
  refine x_iloadn (x := a1) rfl rfl ?_
  refine x_iconst (v := 1) rfl ki_1 ?_
  refine z_iadd rfl rfl jk_1 (by omega) (fun v1 ev1 => ?_)
  refine x_aloadn (x := 125) rfl rfl ?_
  refine z_getI (N := 92) 12 49 rfl f_12_493 rfl J rfl sg_125_49_50_1_0_1 (fun v2 qv2 ev2 => ?_)
  try rw [vrf qv2] at D
  refine z_iast (N := 120) (l := 0) (u := 120) (w := v2.toInt) rfl hD J Sm rfl rfl rfl (by omega) rfl (wr_147) rfl (fun h w3 J Sm => ?_)
  rw [vww w3 (show (a1.toInt + 1) = v1.toInt from by omega) (show v2.toInt = v2.toInt from by omega)] at D
  refine x_vret rfl rfl ?_
  exact hQ _ J Sm _ _ _ (jmo w3 rfl z0) (jmo w3 rfl z2) (jmo w3 rfl z3) (by omega) _ _ _ (jmo w3 rfl z1) (jmo w3 rfl z3) (jmo w3 rfl z0) (by omega) (ps_2 hA C0 (by omega) (by omega) qv2 (by omega) w3) D.symm
set_option maxRecDepth 100000 in
set_option maxHeartbeats 4000000 in
theorem sf_X12_readPieces_r125d {Dy : jH → Prop} {h : jH} {Q : Option Value → jH → Prop} {dr : jW} {a1 : Int32} {a2 : Int32} {a3 : Int32} (y1 : 4 ≤ a1.toInt ∧ a1.toInt ≤ 118) (ym1 : a1.toInt % 2 = 0) (y2 : 0 ≤ a2.toInt ∧ a2.toInt ≤ 1) (y3 : 0 ≤ a3.toInt ∧ a3.toInt ≤ 1) {A : Nat} (hA : A = jnC h) (hC : (jiv h 125 49).toInt ≤ (jiv h 125 9).toInt) (hD : jDk Dy) (J : jJ jSgM Dy h) {p0 p1 p2 : Int32} {p3 p4 p5 : Int32} (zp0 : jiv h 125 10 = p0) (zp1 : jiv h 125 8 = p1) (zp2 : jiv h 125 9 = p2) (rl_p0 : (p0.toInt ≤ p1.toInt ∧ p2.toInt ≤ p0.toInt)) (zp3 : jiv h 125 11 = p3) (zp4 : jiv h 125 9 = p4) (zp5 : jiv h 125 10 = p5) (rl_p3 : (p3.toInt = 0 ∨ p4.toInt + 1 ≤ p5.toInt)) (D : d_X12_readPieces_r125d a1.toInt a2.toInt a3.toInt (vw h) = dr) (hQ : ∀ hx9, jJ jSgM Dy hx9 → jSm fp_X12_readPieces_r125d h hx9 → ∀ u0 u1 u2 : Int32, jiv hx9 125 10 = u0 → jiv hx9 125 8 = u1 → jiv hx9 125 9 = u2 → (u0.toInt ≤ u1.toInt ∧ u2.toInt ≤ u0.toInt) → ∀ u3 u4 u5 : Int32, jiv hx9 125 11 = u3 → jiv hx9 125 9 = u4 → jiv hx9 125 10 = u5 → (u3.toInt = 0 ∨ u4.toInt + 1 ≤ u5.toInt) → jPs a1 A h hx9 → dr = vw hx9 → Q none hx9) : jC m_X12_readPieces 8 0 0 [.ref 125, .int a1, .int a2, .int a3] h Q := by
  refine jC.of rfl k_X12_readPieces rfl ?_
  have Sm := jSm_rf fp_X12_readPieces_r125d h
  have ep0 := (show 0 ≤ p0.toInt ∧ p0.toInt ≤ 400 from zp0 ▸ jrg_f J sg_125_10_11_1_0_1)
  have ep1 := (show 0 ≤ p1.toInt ∧ p1.toInt ≤ 400 from zp1 ▸ jrg_f J sg_125_8_9_1_0_1)
  have ep2 := (show 0 ≤ p2.toInt ∧ p2.toInt ≤ 400 from zp2 ▸ jrg_f J sg_125_9_10_1_0_1)
  have ep3 := (show 0 ≤ p3.toInt ∧ p3.toInt ≤ 3 from zp3 ▸ jrg_f J sg_125_11_12_1_0_1)
  have ep4 := (show 0 ≤ p4.toInt ∧ p4.toInt ≤ 400 from zp4 ▸ jrg_f J sg_125_9_10_1_0_1)
  have ep5 := (show 0 ≤ p5.toInt ∧ p5.toInt ≤ 400 from zp5 ▸ jrg_f J sg_125_10_11_1_0_1)
  obtain rfl : p2 = p4 := zp2.symm.trans zp4
  obtain rfl : p0 = p5 := zp0.symm.trans zp5
  have J7 := J
  have yy_a1 := y1
  show jX m_X12_readPieces 8 0 0 0 [(0, .ref 125), (1, .int a1), (2, .int a2), (3, .int a3)] [] _ 0 0 _
  unfold d_X12_readPieces_r125d at D
  try rw [vrf zp0] at D
  try rw [vrf zp1] at D
  try rw [vrf zp2] at D
  try rw [vrf zp3] at D
  try rw [vrf zp4] at D
  try rw [vrf zp5] at D
  refine x_aloadn (x := 125) rfl rfl ?_
  refine z_getR (N := 92) (b := 147) 12 48 rfl f_12_96 rfl J rfl 16048 ⟨rfl, rfl⟩ rfl ?_
  refine x_iloadn (x := a1) rfl rfl ?_
  refine x_aloadn (x := 125) rfl rfl ?_
  refine z_getI (N := 92) 12 49 rfl f_12_493 rfl J rfl sg_125_49_50_1_0_1 (fun v1 qv1 ev1 => ?_)
  try rw [vrf qv1] at D
  refine z_iast (N := 120) (l := 0) (u := 120) (w := v1.toInt) rfl hD J Sm rfl rfl rfl (by omega) rfl (wr_147) rfl (fun h w2 J Sm => ?_)
  rw [vww w2 (show a1.toInt = a1.toInt from by omega) (show v1.toInt = v1.toInt from by omega)] at D
  refine x_iloadn (x := a2) rfl rfl ?_
  refine x_ifeq (tgt := 26) rfl rfl (ti_eq rfl jk_0 ⟨fun c3 => ?_, fun c3 => ?_⟩)
  ·
    rw [if_pos (by omega)] at D
    exact jX.sub (jsb_c rfl (jsb_c rfl jsb_n)) (ct_X12_readPieces_r125d_26 yy_a1 hA hD hQ  p0 p3 p1 p2 h (jr_of rfl (by omega)) (jr_of rfl (by omega)) (jr_of rfl (by omega)) (jr_of rfl (by omega)) (ps_0 hA hC (jrg_f J7 sg_125_49_50_1_0_1) qv1 w2) (by omega) (by omega) (jmo w2 rfl zp0) (jmo w2 rfl zp3) (jmo w2 rfl zp1) (jmo w2 rfl zp2) J Sm D)
  ·
    rw [if_neg (by omega)] at D
    refine x_aloadn (x := 125) rfl rfl ?_
    refine z_getI (N := 92) 12 14 rfl f_12_214 rfl J rfl sg_125_14_15_1_0_1 (fun v4 qv4 ev4 => ?_)
    try rw [vrf (jmb_w w2 qv4 rfl)] at D
    refine x_ifne (tgt := 26) rfl rfl (ti_ne rfl jk_0 ⟨fun c5 => ?_, fun c5 => ?_⟩)
    ·
      rw [if_neg (by omega)] at D
      exact jX.sub (jsb_c rfl (jsb_c rfl jsb_n)) (ct_X12_readPieces_r125d_26 yy_a1 hA hD hQ  p0 p3 p1 p2 h (jr_of rfl (by omega)) (jr_of rfl (by omega)) (jr_of rfl (by omega)) (jr_of rfl (by omega)) (ps_0 hA hC (jrg_f J7 sg_125_49_50_1_0_1) qv1 w2) (by omega) (by omega) (jmo w2 rfl zp0) (jmo w2 rfl zp3) (jmo w2 rfl zp1) (jmo w2 rfl zp2) J Sm D)
    ·
      rw [if_pos (by omega)] at D
      refine x_aloadn (x := 125) rfl rfl ?_
      refine x_iloadn (x := a3) rfl rfl ?_
      refine x_inv (N := m_X12_readExpression) (As := [.int a3]) (b := 125) (st := []) (dx9 := 7) (mc := 0) (ms := 0) (host := "") 12 rfl t_X12_readExpression ⟨Or.inl q_12_670, i_X12_readExpression.1, i_X12_readExpression.2⟩ ⟨by decide, rfl⟩ (congrArg Prod.fst (J.1.1 125 (12, 92) rfl)) rfl (by decide) rfl rfl ⟨by decide, by decide⟩ (sf_X12_readExpression_r125d (jr_of rfl (by omega)) (ps_a hA w2) (ps_c hC w2) hD J (jmo w2 rfl zp0) (jmo w2 rfl zp1) (jmo w2 rfl zp2) (by omega) (jmo w2 rfl zp3) (jmo w2 rfl zp2) (jmo w2 rfl zp0) (by omega) rfl  (fun h J S6 u7 u8 u9 qu7 qu8 qu9 ru7 u10 u11 u12 qu10 qu11 qu12 ru10 P13 X14 => ?_))
      have Sm := jSm_tr rfl Sm S6
      rw [X14] at D
      have eu7 := (show 0 ≤ u7.toInt ∧ u7.toInt ≤ 400 from qu7 ▸ jrg_f J sg_125_10_11_1_0_1)
      try rw [vrf qu7] at D
      have eu8 := (show 0 ≤ u8.toInt ∧ u8.toInt ≤ 400 from qu8 ▸ jrg_f J sg_125_8_9_1_0_1)
      try rw [vrf (jmb_w w2 (jmb_c S6 qu8 rfl) rfl)] at D
      have eu9 := (show 0 ≤ u9.toInt ∧ u9.toInt ≤ 400 from qu9 ▸ jrg_f J sg_125_9_10_1_0_1)
      try rw [vrf qu9] at D
      have eu10 := (show 0 ≤ u10.toInt ∧ u10.toInt ≤ 3 from qu10 ▸ jrg_f J sg_125_11_12_1_0_1)
      try rw [vrf qu10] at D
      obtain rfl : u9 = u11 := qu9.symm.trans qu11
      obtain rfl : u7 = u12 := qu7.symm.trans qu12
      show jX m_X12_readPieces 8 0 0 26 [(0, .ref 125), (1, .int a1), (2, .int a2), (3, .int a3)] [] _ 0 0 _
      exact jX.sub (jsb_c rfl (jsb_c rfl jsb_n)) (ct_X12_readPieces_r125d_26 yy_a1 hA hD hQ  u7 u10 u8 u9 h (jr_of rfl (by omega)) (jr_of rfl (by omega)) (jr_of rfl (by omega)) (jr_of rfl (by omega)) (ps_1 (ps_0 hA hC (jrg_f J7 sg_125_49_50_1_0_1) qv1 w2) P13 (jeq_c S6 rfl jeq_0)) (by omega) (by omega) qu7 qu10 qu8 qu9 J Sm D)
def fp_X12_whatAt_r125d : jFp := []
set_option maxRecDepth 100000 in
set_option maxHeartbeats 4000000 in
theorem ct_X12_whatAt_r125d_100043 {Dy : jH → Prop} {h0 : jH} {Q : Option Value → jH → Prop} {dr : Int} (hD : jDk Dy) (hQ : ∀ (v : Int32) hx9, (-1) ≤ v.toInt ∧ v.toInt ≤ 2 → jJ jSgM Dy hx9 → jSm fp_X12_whatAt_r125d h0 hx9 → dr = v.toInt → vw hx9 = vw h0 → Q (some (.int v)) hx9) : ∀ (h : jH), jJ jSgM Dy h → jSm fp_X12_whatAt_r125d h0 h → d_X12_whatAt_r125d_100043  (vw h) = dr → vw h = vw h0 → jX m_X12_whatAt 2 0 0 43 [] [.int (-1)] h 0 0 Q := by
  intro  h    J Sm D EV
  unfold d_X12_whatAt_r125d_100043 at D
  refine x_iret rfl rfl ?_
  exact hQ _ _ (jr_of jk_m1 (by omega)) J Sm (D.symm.trans (show (-1) = ((-1) : Int32).toInt from by have := jk_m1; omega)) EV
set_option maxRecDepth 100000 in
set_option maxHeartbeats 4000000 in
theorem ct_X12_whatAt_r125d_400043 {Dy : jH → Prop} {h0 : jH} {Q : Option Value → jH → Prop} {dr : Int} (hD : jDk Dy) (hQ : ∀ (v : Int32) hx9, (-1) ≤ v.toInt ∧ v.toInt ≤ 2 → jJ jSgM Dy hx9 → jSm fp_X12_whatAt_r125d h0 hx9 → dr = v.toInt → vw hx9 = vw h0 → Q (some (.int v)) hx9) : ∀ (h : jH), jJ jSgM Dy h → jSm fp_X12_whatAt_r125d h0 h → d_X12_whatAt_r125d_400043  (vw h) = dr → vw h = vw h0 → jX m_X12_whatAt 2 0 0 43 [] [.int 2] h 0 0 Q := by
  intro  h    J Sm D EV
  unfold d_X12_whatAt_r125d_400043 at D
  refine x_iret rfl rfl ?_
  exact hQ _ _ (jr_of jk_2 (by omega)) J Sm (D.symm.trans (show 2 = (2 : Int32).toInt from by have := jk_2; omega)) EV
set_option maxRecDepth 100000 in
set_option maxHeartbeats 4000000 in
theorem ct_X12_whatAt_r125d_300043 {Dy : jH → Prop} {h0 : jH} {Q : Option Value → jH → Prop} {dr : Int} (hD : jDk Dy) (hQ : ∀ (v : Int32) hx9, (-1) ≤ v.toInt ∧ v.toInt ≤ 2 → jJ jSgM Dy hx9 → jSm fp_X12_whatAt_r125d h0 hx9 → dr = v.toInt → vw hx9 = vw h0 → Q (some (.int v)) hx9) : ∀ (h : jH), jJ jSgM Dy h → jSm fp_X12_whatAt_r125d h0 h → d_X12_whatAt_r125d_300043  (vw h) = dr → vw h = vw h0 → jX m_X12_whatAt 2 0 0 43 [] [.int 1] h 0 0 Q := by
  intro  h    J Sm D EV
  unfold d_X12_whatAt_r125d_300043 at D
  refine x_iret rfl rfl ?_
  exact hQ _ _ (jr_of jk_1 (by omega)) J Sm (D.symm.trans (show 1 = (1 : Int32).toInt from by have := jk_1; omega)) EV
set_option maxRecDepth 100000 in
set_option maxHeartbeats 4000000 in
theorem ct_X12_whatAt_r125d_200043 {Dy : jH → Prop} {h0 : jH} {Q : Option Value → jH → Prop} {dr : Int} (hD : jDk Dy) (hQ : ∀ (v : Int32) hx9, (-1) ≤ v.toInt ∧ v.toInt ≤ 2 → jJ jSgM Dy hx9 → jSm fp_X12_whatAt_r125d h0 hx9 → dr = v.toInt → vw hx9 = vw h0 → Q (some (.int v)) hx9) : ∀ (h : jH), jJ jSgM Dy h → jSm fp_X12_whatAt_r125d h0 h → d_X12_whatAt_r125d_200043  (vw h) = dr → vw h = vw h0 → jX m_X12_whatAt 2 0 0 43 [] [.int 0] h 0 0 Q := by
  intro  h    J Sm D EV
  unfold d_X12_whatAt_r125d_200043 at D
  refine x_iret rfl rfl ?_
  exact hQ _ _ (jr_of jk_0 (by omega)) J Sm (D.symm.trans (show 0 = (0 : Int32).toInt from by have := jk_0; omega)) EV
set_option maxRecDepth 100000 in
set_option maxHeartbeats 4000000 in
theorem sf_X12_whatAt_r125d {Dy : jH → Prop} {h : jH} {Q : Option Value → jH → Prop} {dr : Int} (hD : jDk Dy) (J : jJ jSgM Dy h) (D : d_X12_whatAt_r125d (vw h) = dr) (hQ : ∀ (v : Int32) hx9, (-1) ≤ v.toInt ∧ v.toInt ≤ 2 → jJ jSgM Dy hx9 → jSm fp_X12_whatAt_r125d h hx9 → dr = v.toInt → vw hx9 = vw h → Q (some (.int v)) hx9) : jC m_X12_whatAt 2 0 0 [.ref 125] h Q := by
  refine jC.of rfl k_X12_whatAt rfl ?_
  have Sm := jSm_rf fp_X12_whatAt_r125d h
  show jX m_X12_whatAt 2 0 0 0 [(0, .ref 125)] [] _ 0 0 _
  unfold d_X12_whatAt_r125d at D
  have EV : vw h = vw h := rfl
  refine x_aloadn (x := 125) rfl rfl ?_
  refine x_ldc2 (v := 109758568) rfl z_12_597 ?_
  refine x_inv (N := m_X12_isWord) (As := [.long 109758568]) (b := 125) (st := []) (dx9 := 1) (mc := 0) (ms := 0) (host := "") 12 rfl t_X12_isWord ⟨Or.inl q_12_511, i_X12_isWord.1, i_X12_isWord.2⟩ ⟨by decide, rfl⟩ (congrArg Prod.fst (J.1.1 125 (12, 92) rfl)) rfl (by decide) rfl rfl ⟨by decide, by decide⟩ (jC.of rfl k_X12_isWord rfl ?_)
  show jX m_X12_isWord 1 0 0 0 [(0, .ref 125), (1, .long 109758568)] [] _ 0 0 _
  refine x_aloadn (x := 125) rfl rfl ?_
  refine z_getI (N := 92) 12 11 rfl f_12_235 rfl J rfl sg_125_11_12_1_0_1 (fun v1 qv1 ev1 => ?_)
  try rw [vrf qv1] at D
  refine x_iconst (v := 1) rfl ki_1 ?_
  refine x_icne (tgt := 21) rfl rfl (ti_ne rfl jk_1 ⟨fun c2 => ?_, fun c2 => ?_⟩)
  ·
    rw [if_neg (by omega)] at D
    refine x_iconst (v := 0) rfl ki_0 ?_
    refine x_zret rfl rfl (by decide) ?_
    show jX m_X12_whatAt 2 0 0 7 [(0, .ref 125)] [.int 0] _ 0 0 _
    refine x_ifeq (tgt := 14) rfl rfl (ti_eq jk_0 jk_0 (br_t (by omega) ?_))
    refine x_aloadn (x := 125) rfl rfl ?_
    refine x_ldc2 (v := 23609) rfl z_12_599 ?_
    refine x_inv (N := m_X12_isWord) (As := [.long 23609]) (b := 125) (st := []) (dx9 := 1) (mc := 0) (ms := 0) (host := "") 12 rfl t_X12_isWord ⟨Or.inl q_12_511, i_X12_isWord.1, i_X12_isWord.2⟩ ⟨by decide, rfl⟩ (congrArg Prod.fst (J.1.1 125 (12, 92) rfl)) rfl (by decide) rfl rfl ⟨by decide, by decide⟩ (jC.of rfl k_X12_isWord rfl ?_)
    show jX m_X12_isWord 1 0 0 0 [(0, .ref 125), (1, .long 23609)] [] _ 0 0 _
    refine x_aloadn (x := 125) rfl rfl ?_
    refine z_getM (N := 92) (v := v1) 12 11 rfl f_12_235 rfl J rfl qv1 ?_
    refine x_iconst (v := 1) rfl ki_1 ?_
    refine x_icne (tgt := 21) rfl rfl (ti_ne rfl jk_1 ⟨fun c3 => ?_, fun c3 => ?_⟩)
    ·
      rw [if_neg (by omega)] at D
      refine x_iconst (v := 0) rfl ki_0 ?_
      refine x_zret rfl rfl (by decide) ?_
      show jX m_X12_whatAt 2 0 0 21 [(0, .ref 125)] [.int 0] _ 0 0 _
      refine x_ifeq (tgt := 28) rfl rfl (ti_eq jk_0 jk_0 (br_t (by omega) ?_))
      refine x_aloadn (x := 125) rfl rfl ?_
      refine x_ldc2 (v := 540146) rfl z_12_527 ?_
      refine x_inv (N := m_X12_isWord) (As := [.long 540146]) (b := 125) (st := []) (dx9 := 1) (mc := 0) (ms := 0) (host := "") 12 rfl t_X12_isWord ⟨Or.inl q_12_511, i_X12_isWord.1, i_X12_isWord.2⟩ ⟨by decide, rfl⟩ (congrArg Prod.fst (J.1.1 125 (12, 92) rfl)) rfl (by decide) rfl rfl ⟨by decide, by decide⟩ (jC.of rfl k_X12_isWord rfl ?_)
      show jX m_X12_isWord 1 0 0 0 [(0, .ref 125), (1, .long 540146)] [] _ 0 0 _
      refine x_aloadn (x := 125) rfl rfl ?_
      refine z_getM (N := 92) (v := v1) 12 11 rfl f_12_235 rfl J rfl qv1 ?_
      refine x_iconst (v := 1) rfl ki_1 ?_
      refine x_icne (tgt := 21) rfl rfl (ti_ne rfl jk_1 ⟨fun c4 => ?_, fun c4 => ?_⟩)
      ·
        rw [if_neg (by omega)] at D
        refine x_iconst (v := 0) rfl ki_0 ?_
        refine x_zret rfl rfl (by decide) ?_
        show jX m_X12_whatAt 2 0 0 35 [(0, .ref 125)] [.int 0] _ 0 0 _
        refine x_ifeq (tgt := 42) rfl rfl (ti_eq jk_0 jk_0 (br_t (by omega) ?_))
        refine x_iconst (v := (-1)) rfl ki_m1 ?_
        exact jX.sub jsb_n (ct_X12_whatAt_r125d_100043 hD hQ  h J Sm D EV)
      ·
        rw [if_pos (by omega)] at D
        refine x_aloadn (x := 125) rfl rfl ?_
        refine z_getLQ (N := 92) 12 12 rfl f_12_224 rfl J rfl (fun v5 qv5 => ?_)
        have ev5 := jfullL v5
        try rw [vrfL qv5] at D
        refine x_lloadn (x := 540146) rfl rfl ?_
        refine z_lcmp rfl rfl jkl_540146 (fun v6 ev6 => ?_)
        refine x_ifne (tgt := 21) rfl rfl (ti_ne rfl jk_0 ⟨fun c7 => ?_, fun c7 => ?_⟩)
        ·
          rw [if_neg (by omega)] at D
          refine x_iconst (v := 0) rfl ki_0 ?_
          refine x_zret rfl rfl (by decide) ?_
          show jX m_X12_whatAt 2 0 0 35 [(0, .ref 125)] [.int 0] _ 0 0 _
          refine x_ifeq (tgt := 42) rfl rfl (ti_eq jk_0 jk_0 (br_t (by omega) ?_))
          refine x_iconst (v := (-1)) rfl ki_m1 ?_
          exact jX.sub jsb_n (ct_X12_whatAt_r125d_100043 hD hQ  h J Sm D EV)
        ·
          rw [if_pos (by omega)] at D
          refine x_iconst (v := 1) rfl ki_1 ?_
          refine x_goto (tgt := 22) rfl rfl ?_
          refine x_zret rfl rfl (by decide) ?_
          show jX m_X12_whatAt 2 0 0 35 [(0, .ref 125)] [.int 1] _ 0 0 _
          refine x_ifeq (tgt := 42) rfl rfl (ti_eq jk_1 jk_0 (br_f (by omega) ?_))
          refine x_iconst (v := 2) rfl ki_2 ?_
          refine x_goto (tgt := 43) rfl rfl ?_
          exact jX.sub jsb_n (ct_X12_whatAt_r125d_400043 hD hQ  h J Sm D EV)
    ·
      rw [if_pos (by omega)] at D
      refine x_aloadn (x := 125) rfl rfl ?_
      refine z_getLQ (N := 92) 12 12 rfl f_12_224 rfl J rfl (fun v8 qv8 => ?_)
      have ev8 := jfullL v8
      try rw [vrfL qv8] at D
      refine x_lloadn (x := 23609) rfl rfl ?_
      refine z_lcmp rfl rfl jkl_23609 (fun v9 ev9 => ?_)
      refine x_ifne (tgt := 21) rfl rfl (ti_ne rfl jk_0 ⟨fun c10 => ?_, fun c10 => ?_⟩)
      ·
        rw [if_neg (by omega)] at D
        refine x_iconst (v := 0) rfl ki_0 ?_
        refine x_zret rfl rfl (by decide) ?_
        show jX m_X12_whatAt 2 0 0 21 [(0, .ref 125)] [.int 0] _ 0 0 _
        refine x_ifeq (tgt := 28) rfl rfl (ti_eq jk_0 jk_0 (br_t (by omega) ?_))
        refine x_aloadn (x := 125) rfl rfl ?_
        refine x_ldc2 (v := 540146) rfl z_12_527 ?_
        refine x_inv (N := m_X12_isWord) (As := [.long 540146]) (b := 125) (st := []) (dx9 := 1) (mc := 0) (ms := 0) (host := "") 12 rfl t_X12_isWord ⟨Or.inl q_12_511, i_X12_isWord.1, i_X12_isWord.2⟩ ⟨by decide, rfl⟩ (congrArg Prod.fst (J.1.1 125 (12, 92) rfl)) rfl (by decide) rfl rfl ⟨by decide, by decide⟩ (jC.of rfl k_X12_isWord rfl ?_)
        show jX m_X12_isWord 1 0 0 0 [(0, .ref 125), (1, .long 540146)] [] _ 0 0 _
        refine x_aloadn (x := 125) rfl rfl ?_
        refine z_getM (N := 92) (v := v1) 12 11 rfl f_12_235 rfl J rfl qv1 ?_
        refine x_iconst (v := 1) rfl ki_1 ?_
        refine x_icne (tgt := 21) rfl rfl (ti_ne rfl jk_1 (bn_f (by omega) ?_))
        refine x_aloadn (x := 125) rfl rfl ?_
        refine z_getLQ (N := 92) 12 12 rfl f_12_224 rfl J rfl (fun v11 qv11 => ?_)
        have ev11 := jfullL v11
        try have kqv11 : v8.toInt = v11.toInt := ((vrfL qv8).symm.trans (vrfL qv11))
        try rw [kqv11] at D
        try rw [vrfL qv11] at D
        refine x_lloadn (x := 540146) rfl rfl ?_
        refine z_lcmp rfl rfl jkl_540146 (fun v12 ev12 => ?_)
        refine x_ifne (tgt := 21) rfl rfl (ti_ne rfl jk_0 ⟨fun c13 => ?_, fun c13 => ?_⟩)
        ·
          rw [if_neg (by omega)] at D
          refine x_iconst (v := 0) rfl ki_0 ?_
          refine x_zret rfl rfl (by decide) ?_
          show jX m_X12_whatAt 2 0 0 35 [(0, .ref 125)] [.int 0] _ 0 0 _
          refine x_ifeq (tgt := 42) rfl rfl (ti_eq jk_0 jk_0 (br_t (by omega) ?_))
          refine x_iconst (v := (-1)) rfl ki_m1 ?_
          exact jX.sub jsb_n (ct_X12_whatAt_r125d_100043 hD hQ  h J Sm D EV)
        ·
          rw [if_pos (by omega)] at D
          refine x_iconst (v := 1) rfl ki_1 ?_
          refine x_goto (tgt := 22) rfl rfl ?_
          refine x_zret rfl rfl (by decide) ?_
          show jX m_X12_whatAt 2 0 0 35 [(0, .ref 125)] [.int 1] _ 0 0 _
          refine x_ifeq (tgt := 42) rfl rfl (ti_eq jk_1 jk_0 (br_f (by omega) ?_))
          refine x_iconst (v := 2) rfl ki_2 ?_
          refine x_goto (tgt := 43) rfl rfl ?_
          exact jX.sub jsb_n (ct_X12_whatAt_r125d_400043 hD hQ  h J Sm D EV)
      ·
        rw [if_pos (by omega)] at D
        refine x_iconst (v := 1) rfl ki_1 ?_
        refine x_goto (tgt := 22) rfl rfl ?_
        refine x_zret rfl rfl (by decide) ?_
        show jX m_X12_whatAt 2 0 0 21 [(0, .ref 125)] [.int 1] _ 0 0 _
        refine x_ifeq (tgt := 28) rfl rfl (ti_eq jk_1 jk_0 (br_f (by omega) ?_))
        refine x_iconst (v := 1) rfl ki_1 ?_
        refine x_goto (tgt := 43) rfl rfl ?_
        exact jX.sub jsb_n (ct_X12_whatAt_r125d_300043 hD hQ  h J Sm D EV)
  ·
    rw [if_pos (by omega)] at D
    refine x_aloadn (x := 125) rfl rfl ?_
    refine z_getLQ (N := 92) 12 12 rfl f_12_224 rfl J rfl (fun v14 qv14 => ?_)
    have ev14 := jfullL v14
    try rw [vrfL qv14] at D
    refine x_lloadn (x := 109758568) rfl rfl ?_
    refine z_lcmp rfl rfl jkl_109758568 (fun v15 ev15 => ?_)
    refine x_ifne (tgt := 21) rfl rfl (ti_ne rfl jk_0 ⟨fun c16 => ?_, fun c16 => ?_⟩)
    ·
      rw [if_neg (by omega)] at D
      refine x_iconst (v := 0) rfl ki_0 ?_
      refine x_zret rfl rfl (by decide) ?_
      show jX m_X12_whatAt 2 0 0 7 [(0, .ref 125)] [.int 0] _ 0 0 _
      refine x_ifeq (tgt := 14) rfl rfl (ti_eq jk_0 jk_0 (br_t (by omega) ?_))
      refine x_aloadn (x := 125) rfl rfl ?_
      refine x_ldc2 (v := 23609) rfl z_12_599 ?_
      refine x_inv (N := m_X12_isWord) (As := [.long 23609]) (b := 125) (st := []) (dx9 := 1) (mc := 0) (ms := 0) (host := "") 12 rfl t_X12_isWord ⟨Or.inl q_12_511, i_X12_isWord.1, i_X12_isWord.2⟩ ⟨by decide, rfl⟩ (congrArg Prod.fst (J.1.1 125 (12, 92) rfl)) rfl (by decide) rfl rfl ⟨by decide, by decide⟩ (jC.of rfl k_X12_isWord rfl ?_)
      show jX m_X12_isWord 1 0 0 0 [(0, .ref 125), (1, .long 23609)] [] _ 0 0 _
      refine x_aloadn (x := 125) rfl rfl ?_
      refine z_getM (N := 92) (v := v1) 12 11 rfl f_12_235 rfl J rfl qv1 ?_
      refine x_iconst (v := 1) rfl ki_1 ?_
      refine x_icne (tgt := 21) rfl rfl (ti_ne rfl jk_1 (bn_f (by omega) ?_))
      refine x_aloadn (x := 125) rfl rfl ?_
      refine z_getLQ (N := 92) 12 12 rfl f_12_224 rfl J rfl (fun v17 qv17 => ?_)
      have ev17 := jfullL v17
      try have kqv17 : v14.toInt = v17.toInt := ((vrfL qv14).symm.trans (vrfL qv17))
      try rw [kqv17] at D
      try rw [vrfL qv17] at D
      refine x_lloadn (x := 23609) rfl rfl ?_
      refine z_lcmp rfl rfl jkl_23609 (fun v18 ev18 => ?_)
      refine x_ifne (tgt := 21) rfl rfl (ti_ne rfl jk_0 ⟨fun c19 => ?_, fun c19 => ?_⟩)
      ·
        rw [if_neg (by omega)] at D
        refine x_iconst (v := 0) rfl ki_0 ?_
        refine x_zret rfl rfl (by decide) ?_
        show jX m_X12_whatAt 2 0 0 21 [(0, .ref 125)] [.int 0] _ 0 0 _
        refine x_ifeq (tgt := 28) rfl rfl (ti_eq jk_0 jk_0 (br_t (by omega) ?_))
        refine x_aloadn (x := 125) rfl rfl ?_
        refine x_ldc2 (v := 540146) rfl z_12_527 ?_
        refine x_inv (N := m_X12_isWord) (As := [.long 540146]) (b := 125) (st := []) (dx9 := 1) (mc := 0) (ms := 0) (host := "") 12 rfl t_X12_isWord ⟨Or.inl q_12_511, i_X12_isWord.1, i_X12_isWord.2⟩ ⟨by decide, rfl⟩ (congrArg Prod.fst (J.1.1 125 (12, 92) rfl)) rfl (by decide) rfl rfl ⟨by decide, by decide⟩ (jC.of rfl k_X12_isWord rfl ?_)
        show jX m_X12_isWord 1 0 0 0 [(0, .ref 125), (1, .long 540146)] [] _ 0 0 _
        refine x_aloadn (x := 125) rfl rfl ?_
        refine z_getM (N := 92) (v := v1) 12 11 rfl f_12_235 rfl J rfl qv1 ?_
        refine x_iconst (v := 1) rfl ki_1 ?_
        refine x_icne (tgt := 21) rfl rfl (ti_ne rfl jk_1 (bn_f (by omega) ?_))
        refine x_aloadn (x := 125) rfl rfl ?_
        refine z_getLQ (N := 92) 12 12 rfl f_12_224 rfl J rfl (fun v20 qv20 => ?_)
        have ev20 := jfullL v20
        try have kqv20 : v17.toInt = v20.toInt := ((vrfL qv17).symm.trans (vrfL qv20))
        try rw [kqv20] at D
        try rw [vrfL qv20] at D
        refine x_lloadn (x := 540146) rfl rfl ?_
        refine z_lcmp rfl rfl jkl_540146 (fun v21 ev21 => ?_)
        refine x_ifne (tgt := 21) rfl rfl (ti_ne rfl jk_0 ⟨fun c22 => ?_, fun c22 => ?_⟩)
        ·
          rw [if_neg (by omega)] at D
          refine x_iconst (v := 0) rfl ki_0 ?_
          refine x_zret rfl rfl (by decide) ?_
          show jX m_X12_whatAt 2 0 0 35 [(0, .ref 125)] [.int 0] _ 0 0 _
          refine x_ifeq (tgt := 42) rfl rfl (ti_eq jk_0 jk_0 (br_t (by omega) ?_))
          refine x_iconst (v := (-1)) rfl ki_m1 ?_
          exact jX.sub jsb_n (ct_X12_whatAt_r125d_100043 hD hQ  h J Sm D EV)
        ·
          rw [if_pos (by omega)] at D
          refine x_iconst (v := 1) rfl ki_1 ?_
          refine x_goto (tgt := 22) rfl rfl ?_
          refine x_zret rfl rfl (by decide) ?_
          show jX m_X12_whatAt 2 0 0 35 [(0, .ref 125)] [.int 1] _ 0 0 _
          refine x_ifeq (tgt := 42) rfl rfl (ti_eq jk_1 jk_0 (br_f (by omega) ?_))
          refine x_iconst (v := 2) rfl ki_2 ?_
          refine x_goto (tgt := 43) rfl rfl ?_
          exact jX.sub jsb_n (ct_X12_whatAt_r125d_400043 hD hQ  h J Sm D EV)
      ·
        rw [if_pos (by omega)] at D
        refine x_iconst (v := 1) rfl ki_1 ?_
        refine x_goto (tgt := 22) rfl rfl ?_
        refine x_zret rfl rfl (by decide) ?_
        show jX m_X12_whatAt 2 0 0 21 [(0, .ref 125)] [.int 1] _ 0 0 _
        refine x_ifeq (tgt := 28) rfl rfl (ti_eq jk_1 jk_0 (br_f (by omega) ?_))
        refine x_iconst (v := 1) rfl ki_1 ?_
        refine x_goto (tgt := 43) rfl rfl ?_
        exact jX.sub jsb_n (ct_X12_whatAt_r125d_300043 hD hQ  h J Sm D EV)
    ·
      rw [if_pos (by omega)] at D
      refine x_iconst (v := 1) rfl ki_1 ?_
      refine x_goto (tgt := 22) rfl rfl ?_
      refine x_zret rfl rfl (by decide) ?_
      show jX m_X12_whatAt 2 0 0 7 [(0, .ref 125)] [.int 1] _ 0 0 _
      refine x_ifeq (tgt := 14) rfl rfl (ti_eq jk_1 jk_0 (br_f (by omega) ?_))
      refine x_iconst (v := 0) rfl ki_0 ?_
      refine x_goto (tgt := 43) rfl rfl ?_
      exact jX.sub jsb_n (ct_X12_whatAt_r125d_200043 hD hQ  h J Sm D EV)
def fp_X12_readClause_r125d : jFp := [(125, 9, 10), (125, 10, 11), (125, 11, 12), (125, 12, 13), (125, 13, 14), (125, 14, 15), (125, 47, 48), (125, 49, 50), (125, 52, 53), (125, 55, 56), (125, 56, 57), (147, 0, 120), (148, 0, 400), (149, 0, 400), (150, 0, 400), (151, 0, 400)]
set_option maxRecDepth 100000 in
set_option maxHeartbeats 4000000 in
theorem ct_X12_readClause_r125d_349 {Dy : jH → Prop} {h0 : jH} {Q : Option Value → jH → Prop} {dr : jW} (hD : jDk Dy) (hQ : ∀ hx9, jJ jSgM Dy hx9 → jSm fp_X12_readClause_r125d h0 hx9 → ∀ u0 u1 u2 : Int32, jiv hx9 125 10 = u0 → jiv hx9 125 8 = u1 → jiv hx9 125 9 = u2 → (u0.toInt ≤ u1.toInt ∧ u2.toInt ≤ u0.toInt) → ∀ u3 u4 u5 : Int32, jiv hx9 125 11 = u3 → jiv hx9 125 9 = u4 → jiv hx9 125 10 = u5 → (u3.toInt = 0 ∨ u4.toInt + 1 ≤ u5.toInt) → jRk (jnK hx9) h0 hx9 → dr = vw hx9 → Q none hx9) : ∀ (l2 : Int32) (l4 : Int32) (g0 : Int32) (g1 : Int32) (g2 : Int32) (g3 : Int32) (g4 : Int32) (h : jH), 0 ≤ l2.toInt ∧ l2.toInt ≤ 110 → l2.toInt % 10 = 0 → 0 ≤ l4.toInt ∧ l4.toInt ≤ 1 → 0 ≤ g0.toInt ∧ g0.toInt ≤ 400 → 0 ≤ g1.toInt ∧ g1.toInt ≤ 3 → 0 ≤ g2.toInt ∧ g2.toInt ≤ 11 → 0 ≤ g3.toInt ∧ g3.toInt ≤ 400 → 0 ≤ g4.toInt ∧ g4.toInt ≤ 400 → jZl h0 l2 h → (g0.toInt ≤ g3.toInt ∧ g4.toInt ≤ g0.toInt) → (g1.toInt = 0 ∨ g4.toInt + 1 ≤ g0.toInt) → jiv h 125 10 = g0 → jiv h 125 11 = g1 → jiv h 125 47 = g2 → jiv h 125 8 = g3 → jiv h 125 9 = g4 → jJ jSgM Dy h → jSm fp_X12_readClause_r125d h0 h → d_X12_readClause_r125d_349  l2.toInt l4.toInt (vw h) = dr → jX m_X12_readClause 9 0 0 349 [(0, .ref 125), (2, .int l2), (4, .int l4)] [] h 0 0 Q := by
  intro l2 l4 g0 g1 g2 g3 g4 h y0 y1 y2 y3 y4 y5 y6 y7 C0 y9 y10 z0 z1 z2 z3 z4  J Sm D
  unfold d_X12_readClause_r125d_349 at D
  try rw [vrf z0] at D
  try rw [vrf z1] at D
  try rw [vrf z2] at D
  try rw [vrf z3] at D
  try rw [vrf z4] at D
  refine x_aloadn (x := 125) rfl rfl ?_
  refine x_iloadn (x := l2) rfl rfl ?_
  refine x_bipush (v := 8) rfl kb_8 ?_
  refine z_iadd rfl rfl jk_8 (by omega) (fun v1 ev1 => ?_)
  refine x_iload (x := l4) rfl rfl ?_
  refine x_iconst (v := 1) rfl ki_1 ?_
  try rw [show (l2.toInt + 8) = v1.toInt from by omega] at D
  refine x_inv (N := m_X12_readPieces) (As := [.int v1, .int l4, .int 1]) (b := 125) (st := []) (dx9 := 8) (mc := 0) (ms := 0) (host := "") 12 rfl t_X12_readPieces ⟨Or.inl q_12_662, i_X12_readPieces.1, i_X12_readPieces.2⟩ ⟨by decide, rfl⟩ (congrArg Prod.fst (J.1.1 125 (12, 92) rfl)) rfl (by decide) rfl rfl ⟨by decide, by decide⟩ (sf_X12_readPieces_r125d (jr_of rfl (by omega)) (jr_mod rfl (by omega)) (jr_of rfl (by omega)) (jr_of jk_1 (by omega)) (A := jnC h) rfl C0.1.2.1 hD J z0 z3 z4 (by omega) z1 z4 z0 (by omega) rfl  (fun h J S2 u3 u4 u5 qu3 qu4 qu5 ru3 u6 u7 u8 qu6 qu7 qu8 ru6 P9 X10 => ?_))
  have Sm := jSm_tr rfl Sm S2
  try rw [jk_1] at X10
  rw [X10] at D
  have eu3 := (show 0 ≤ u3.toInt ∧ u3.toInt ≤ 400 from qu3 ▸ jrg_f J sg_125_10_11_1_0_1)
  try rw [vrf qu3] at D
  have eu4 := (show 0 ≤ u4.toInt ∧ u4.toInt ≤ 400 from qu4 ▸ jrg_f J sg_125_8_9_1_0_1)
  try rw [vrf (jmb_c S2 qu4 rfl)] at D
  have eu5 := (show 0 ≤ u5.toInt ∧ u5.toInt ≤ 400 from qu5 ▸ jrg_f J sg_125_9_10_1_0_1)
  try rw [vrf qu5] at D
  have eu6 := (show 0 ≤ u6.toInt ∧ u6.toInt ≤ 3 from qu6 ▸ jrg_f J sg_125_11_12_1_0_1)
  try rw [vrf qu6] at D
  obtain rfl : u5 = u7 := qu5.symm.trans qu7
  obtain rfl : u3 = u8 := qu3.symm.trans qu8
  show jX m_X12_readClause 9 0 0 360 [(0, .ref 125), (2, .int l2), (4, .int l4)] [] _ 0 0 _
  refine x_aloadn (x := 125) rfl rfl ?_
  refine x_dup rfl rfl ?_
  refine z_getM (N := 92) (v := g2) 12 47 rfl f_12_636 rfl J rfl (jmc S2 rfl z2) ?_
  refine x_iconst (v := 1) rfl ki_1 ?_
  refine z_iadd rfl rfl jk_1 (by omega) (fun v11 ev11 => ?_)
  refine z_putI (N := 92) (w := v11.toInt) 12 47 rfl f_12_636 rfl (jfin_no TX12 RX12 92 rfl rfl) hD J Sm rfl rfl rfl (pw_125_47 (by omega)) rfl (fun h w12 J Sm => ?_)
  rw [vwf w12 (show (g2.toInt + 1) = v11.toInt from by omega)] at D
  refine x_vret rfl rfl ?_
  exact hQ _ J Sm _ _ _ (jmo w12 rfl qu3) (jmo w12 rfl qu4) (jmo w12 rfl qu5) (by omega) _ _ _ (jmo w12 rfl qu6) (jmo w12 rfl qu5) (jmo w12 rfl qu3) (by omega) (rk_e (zl_p C0 P9 (jmc S2 rfl rfl) (by omega)) (jmc S2 rfl z2) w12 (by omega)) D.symm
set_option maxRecDepth 100000 in
set_option maxHeartbeats 4000000 in
theorem ct_X12_readClause_r125d_300338 {Dy : jH → Prop} {h0 : jH} {Q : Option Value → jH → Prop} {dr : jW} (hD : jDk Dy) (hQ : ∀ hx9, jJ jSgM Dy hx9 → jSm fp_X12_readClause_r125d h0 hx9 → ∀ u0 u1 u2 : Int32, jiv hx9 125 10 = u0 → jiv hx9 125 8 = u1 → jiv hx9 125 9 = u2 → (u0.toInt ≤ u1.toInt ∧ u2.toInt ≤ u0.toInt) → ∀ u3 u4 u5 : Int32, jiv hx9 125 11 = u3 → jiv hx9 125 9 = u4 → jiv hx9 125 10 = u5 → (u3.toInt = 0 ∨ u4.toInt + 1 ≤ u5.toInt) → jRk (jnK hx9) h0 hx9 → dr = vw hx9 → Q none hx9) : ∀ (l2 : Int32) (g0 : Int32) (g1 : Int32) (g2 : Int32) (g3 : Int32) (g4 : Int32) (h : jH), 0 ≤ l2.toInt ∧ l2.toInt ≤ 110 → l2.toInt % 10 = 0 → 0 ≤ g0.toInt ∧ g0.toInt ≤ 400 → 1 ≤ g1.toInt ∧ g1.toInt ≤ 1 → 0 ≤ g2.toInt ∧ g2.toInt ≤ 11 → 0 ≤ g3.toInt ∧ g3.toInt ≤ 400 → 0 ≤ g4.toInt ∧ g4.toInt ≤ 400 → jZl h0 l2 h → (g0.toInt ≤ g3.toInt ∧ g4.toInt ≤ g0.toInt) → (g1.toInt = 0 ∨ g4.toInt + 1 ≤ g0.toInt) → jiv h 125 10 = g0 → jiv h 125 11 = g1 → jiv h 125 47 = g2 → jiv h 125 8 = g3 → jiv h 125 9 = g4 → jJ jSgM Dy h → jSm fp_X12_readClause_r125d h0 h → d_X12_readClause_r125d_300338  l2.toInt (vw h) = dr → jX m_X12_readClause 9 0 0 338 [(0, .ref 125), (2, .int l2)] [.int 1] h 0 0 Q := by
  intro l2 g0 g1 g2 g3 g4 h y0 y1 y2 y3 y4 y5 y6 C0 y8 y9 z0 z1 z2 z3 z4  J Sm D
  unfold d_X12_readClause_r125d_300338 at D
  try rw [vrf z0] at D
  try rw [vrf z1] at D
  try rw [vrf z2] at D
  try rw [vrf z3] at D
  try rw [vrf z4] at D
  refine x_istore (lsx9 := [(4, .int 1), (0, .ref 125), (2, .int l2)]) rfl rfl rfl ?_
  refine x_iload (x := 1) rfl rfl ?_
  refine x_ifeq (tgt := 349) rfl rfl (ti_eq jk_1 jk_0 (br_f (by omega) ?_))
  refine x_aloadn (x := 125) rfl rfl ?_
  refine x_inv (N := m_X12_next) (As := []) (b := 125) (st := []) (dx9 := 2) (mc := 0) (ms := 0) (host := "") 12 rfl t_X12_next ⟨Or.inl q_12_218, i_X12_next.1, i_X12_next.2⟩ ⟨by decide, rfl⟩ (congrArg Prod.fst (J.1.1 125 (12, 92) rfl)) rfl (by decide) rfl rfl ⟨by decide, by decide⟩ (sf_X12_next_r125d  hD J z0 z3 (by omega) rfl  (fun h J S1 u2 u3 u4 qu2 qu3 qu4 ru2 u5 u6 u7 qu5 qu6 qu7 ru5 P8 X9 => ?_))
  have Sm := jSm_tr rfl Sm S1
  rw [X9] at D
  have eu2 := (show 0 ≤ u2.toInt ∧ u2.toInt ≤ 400 from qu2 ▸ jrg_f J sg_125_10_11_1_0_1)
  try rw [vrf qu2] at D
  have eu3 := (show 0 ≤ u3.toInt ∧ u3.toInt ≤ 400 from qu3 ▸ jrg_f J sg_125_8_9_1_0_1)
  try rw [vrf (jmb_c S1 qu3 rfl)] at D
  have eu4 := (show 0 ≤ u4.toInt ∧ u4.toInt ≤ 400 from qu4 ▸ jrg_f J sg_125_9_10_1_0_1)
  try rw [vrf qu4] at D
  have eu5 := (show 0 ≤ u5.toInt ∧ u5.toInt ≤ 3 from qu5 ▸ jrg_f J sg_125_11_12_1_0_1)
  try rw [vrf qu5] at D
  obtain rfl : u4 = u6 := qu4.symm.trans qu6
  obtain rfl : u2 = u7 := qu2.symm.trans qu7
  have nfP8 := jnf P8.1 z0 qu4
  show jX m_X12_readClause 9 0 0 349 [(4, .int 1), (0, .ref 125), (2, .int l2)] [] _ 0 0 _
  exact jX.sub (jsb_c rfl (jsb_c rfl (jsb_c rfl jsb_n))) (ct_X12_readClause_r125d_349 hD hQ  l2 1 u2 u5 g2 u3 u4 h (jr_of rfl (by omega)) (jr_mod rfl (by omega)) (jr_of jk_1 (by omega)) (jr_of rfl (by omega)) (jr_of rfl (by omega)) (jr_of rfl (by omega)) (jr_of rfl (by omega)) (jr_of rfl (by omega)) (zl_m C0 (ke_f S1 rfl rfl rfl rfl rfl rfl z4 qu4 (by omega))) (by omega) (by omega) qu2 qu5 (jmc S1 rfl z2) qu3 qu4 J Sm (by rw [jk_1]; exact D))
set_option maxRecDepth 100000 in
set_option maxHeartbeats 4000000 in
theorem ct_X12_readClause_r125d_200338 {Dy : jH → Prop} {h0 : jH} {Q : Option Value → jH → Prop} {dr : jW} (hD : jDk Dy) (hQ : ∀ hx9, jJ jSgM Dy hx9 → jSm fp_X12_readClause_r125d h0 hx9 → ∀ u0 u1 u2 : Int32, jiv hx9 125 10 = u0 → jiv hx9 125 8 = u1 → jiv hx9 125 9 = u2 → (u0.toInt ≤ u1.toInt ∧ u2.toInt ≤ u0.toInt) → ∀ u3 u4 u5 : Int32, jiv hx9 125 11 = u3 → jiv hx9 125 9 = u4 → jiv hx9 125 10 = u5 → (u3.toInt = 0 ∨ u4.toInt + 1 ≤ u5.toInt) → jRk (jnK hx9) h0 hx9 → dr = vw hx9 → Q none hx9) : ∀ (l2 : Int32) (g0 : Int32) (g1 : Int32) (g2 : Int32) (g3 : Int32) (g4 : Int32) (h : jH), 0 ≤ l2.toInt ∧ l2.toInt ≤ 110 → l2.toInt % 10 = 0 → 0 ≤ g0.toInt ∧ g0.toInt ≤ 400 → 0 ≤ g1.toInt ∧ g1.toInt ≤ 3 → 0 ≤ g2.toInt ∧ g2.toInt ≤ 11 → 0 ≤ g3.toInt ∧ g3.toInt ≤ 400 → 0 ≤ g4.toInt ∧ g4.toInt ≤ 400 → jZl h0 l2 h → (g0.toInt ≤ g3.toInt ∧ g4.toInt ≤ g0.toInt) → (g1.toInt = 0 ∨ g4.toInt + 1 ≤ g0.toInt) → jiv h 125 10 = g0 → jiv h 125 11 = g1 → jiv h 125 47 = g2 → jiv h 125 8 = g3 → jiv h 125 9 = g4 → jJ jSgM Dy h → jSm fp_X12_readClause_r125d h0 h → d_X12_readClause_r125d_200338  l2.toInt (vw h) = dr → jX m_X12_readClause 9 0 0 338 [(0, .ref 125), (2, .int l2)] [.int 0] h 0 0 Q := by
  intro l2 g0 g1 g2 g3 g4 h y0 y1 y2 y3 y4 y5 y6 C0 y8 y9 z0 z1 z2 z3 z4  J Sm D
  unfold d_X12_readClause_r125d_200338 at D
  try rw [vrf z0] at D
  try rw [vrf z1] at D
  try rw [vrf z2] at D
  try rw [vrf z3] at D
  try rw [vrf z4] at D
  refine x_istore (lsx9 := [(4, .int 0), (0, .ref 125), (2, .int l2)]) rfl rfl rfl ?_
  refine x_iload (x := 0) rfl rfl ?_
  refine x_ifeq (tgt := 349) rfl rfl (ti_eq jk_0 jk_0 (br_t (by omega) ?_))
  exact jX.sub (jsb_c rfl (jsb_c rfl (jsb_c rfl jsb_n))) (ct_X12_readClause_r125d_349 hD hQ  l2 0 g0 g1 g2 g3 g4 h (jr_of rfl (by omega)) (jr_mod rfl (by omega)) (jr_of jk_0 (by omega)) (jr_of rfl (by omega)) (jr_of rfl (by omega)) (jr_of rfl (by omega)) (jr_of rfl (by omega)) (jr_of rfl (by omega)) C0 (by omega) (by omega) z0 z1 z2 z3 z4 J Sm (by rw [jk_0]; exact D))
set_option maxRecDepth 100000 in
set_option maxHeartbeats 4000000 in
theorem ct_X12_readClause_r125d_337 {Dy : jH → Prop} {h0 : jH} {Q : Option Value → jH → Prop} {dr : jW} (hD : jDk Dy) (hQ : ∀ hx9, jJ jSgM Dy hx9 → jSm fp_X12_readClause_r125d h0 hx9 → ∀ u0 u1 u2 : Int32, jiv hx9 125 10 = u0 → jiv hx9 125 8 = u1 → jiv hx9 125 9 = u2 → (u0.toInt ≤ u1.toInt ∧ u2.toInt ≤ u0.toInt) → ∀ u3 u4 u5 : Int32, jiv hx9 125 11 = u3 → jiv hx9 125 9 = u4 → jiv hx9 125 10 = u5 → (u3.toInt = 0 ∨ u4.toInt + 1 ≤ u5.toInt) → jRk (jnK hx9) h0 hx9 → dr = vw hx9 → Q none hx9) : ∀ (l2 : Int32) (g0 : Int32) (g1 : Int32) (g2 : Int32) (g3 : Int32) (g4 : Int32) (h : jH), 0 ≤ l2.toInt ∧ l2.toInt ≤ 110 → l2.toInt % 10 = 0 → 0 ≤ g0.toInt ∧ g0.toInt ≤ 400 → 0 ≤ g1.toInt ∧ g1.toInt ≤ 3 → 0 ≤ g2.toInt ∧ g2.toInt ≤ 11 → 0 ≤ g3.toInt ∧ g3.toInt ≤ 400 → 0 ≤ g4.toInt ∧ g4.toInt ≤ 400 → jZl h0 l2 h → (g0.toInt ≤ g3.toInt ∧ g4.toInt ≤ g0.toInt) → (g1.toInt = 0 ∨ g4.toInt + 1 ≤ g0.toInt) → jiv h 125 10 = g0 → jiv h 125 11 = g1 → jiv h 125 47 = g2 → jiv h 125 8 = g3 → jiv h 125 9 = g4 → jJ jSgM Dy h → jSm fp_X12_readClause_r125d h0 h → d_X12_readClause_r125d_337  l2.toInt (vw h) = dr → jX m_X12_readClause 9 0 0 337 [(0, .ref 125), (2, .int l2)] [] h 0 0 Q := by
  intro l2 g0 g1 g2 g3 g4 h y0 y1 y2 y3 y4 y5 y6 C0 y8 y9 z0 z1 z2 z3 z4  J Sm D
  unfold d_X12_readClause_r125d_337 at D
  try rw [vrf z0] at D
  try rw [vrf z1] at D
  try rw [vrf z2] at D
  try rw [vrf z3] at D
  try rw [vrf z4] at D
  refine x_iconst (v := 0) rfl ki_0 ?_
  exact jX.sub (jsb_c rfl (jsb_c rfl jsb_n)) (ct_X12_readClause_r125d_200338 hD hQ  l2 g0 g1 g2 g3 g4 h (jr_of rfl (by omega)) (jr_mod rfl (by omega)) (jr_of rfl (by omega)) (jr_of rfl (by omega)) (jr_of rfl (by omega)) (jr_of rfl (by omega)) (jr_of rfl (by omega)) C0 (by omega) (by omega) z0 z1 z2 z3 z4 J Sm D)
set_option maxRecDepth 100000 in
set_option maxHeartbeats 4000000 in
theorem ct_X12_readClause_r125d_305 {Dy : jH → Prop} {h0 : jH} {Q : Option Value → jH → Prop} {dr : jW} (hD : jDk Dy) (hQ : ∀ hx9, jJ jSgM Dy hx9 → jSm fp_X12_readClause_r125d h0 hx9 → ∀ u0 u1 u2 : Int32, jiv hx9 125 10 = u0 → jiv hx9 125 8 = u1 → jiv hx9 125 9 = u2 → (u0.toInt ≤ u1.toInt ∧ u2.toInt ≤ u0.toInt) → ∀ u3 u4 u5 : Int32, jiv hx9 125 11 = u3 → jiv hx9 125 9 = u4 → jiv hx9 125 10 = u5 → (u3.toInt = 0 ∨ u4.toInt + 1 ≤ u5.toInt) → jRk (jnK hx9) h0 hx9 → dr = vw hx9 → Q none hx9) : ∀ (l2 : Int32) (l4 : Int32) (g0 : Int32) (g1 : Int32) (g2 : Int32) (g3 : Int32) (g4 : Int32) (h : jH), 0 ≤ l2.toInt ∧ l2.toInt ≤ 110 → l2.toInt % 10 = 0 → 0 ≤ l4.toInt ∧ l4.toInt ≤ 1 → 0 ≤ g0.toInt ∧ g0.toInt ≤ 400 → 0 ≤ g1.toInt ∧ g1.toInt ≤ 3 → 0 ≤ g2.toInt ∧ g2.toInt ≤ 11 → 0 ≤ g3.toInt ∧ g3.toInt ≤ 400 → 0 ≤ g4.toInt ∧ g4.toInt ≤ 400 → jZl h0 l2 h → (g0.toInt ≤ g3.toInt ∧ g4.toInt ≤ g0.toInt) → (g1.toInt = 0 ∨ g4.toInt + 1 ≤ g0.toInt) → jiv h 125 10 = g0 → jiv h 125 11 = g1 → jiv h 125 47 = g2 → jiv h 125 8 = g3 → jiv h 125 9 = g4 → jJ jSgM Dy h → jSm fp_X12_readClause_r125d h0 h → d_X12_readClause_r125d_305  l2.toInt l4.toInt (vw h) = dr → jX m_X12_readClause 9 0 0 305 [(0, .ref 125), (2, .int l2), (4, .int l4)] [] h 0 0 Q := by
  intro l2 l4 g0 g1 g2 g3 g4 h y0 y1 y2 y3 y4 y5 y6 y7 C0 y9 y10 z0 z1 z2 z3 z4  J Sm D
  unfold d_X12_readClause_r125d_305 at D
  try rw [vrf z0] at D
  try rw [vrf z1] at D
  try rw [vrf z2] at D
  try rw [vrf z3] at D
  try rw [vrf z4] at D
  refine x_aloadn (x := 125) rfl rfl ?_
  refine x_iloadn (x := l2) rfl rfl ?_
  refine x_bipush (v := 6) rfl kb_6 ?_
  refine z_iadd rfl rfl jk_6 (by omega) (fun v1 ev1 => ?_)
  refine x_iload (x := l4) rfl rfl ?_
  refine x_iconst (v := 1) rfl ki_1 ?_
  try rw [show (l2.toInt + 6) = v1.toInt from by omega] at D
  refine x_inv (N := m_X12_readPieces) (As := [.int v1, .int l4, .int 1]) (b := 125) (st := []) (dx9 := 8) (mc := 0) (ms := 0) (host := "") 12 rfl t_X12_readPieces ⟨Or.inl q_12_662, i_X12_readPieces.1, i_X12_readPieces.2⟩ ⟨by decide, rfl⟩ (congrArg Prod.fst (J.1.1 125 (12, 92) rfl)) rfl (by decide) rfl rfl ⟨by decide, by decide⟩ (sf_X12_readPieces_r125d (jr_of rfl (by omega)) (jr_mod rfl (by omega)) (jr_of rfl (by omega)) (jr_of jk_1 (by omega)) (A := jnC h) rfl C0.1.2.1 hD J z0 z3 z4 (by omega) z1 z4 z0 (by omega) rfl  (fun h J S2 u3 u4 u5 qu3 qu4 qu5 ru3 u6 u7 u8 qu6 qu7 qu8 ru6 P9 X10 => ?_))
  have Sm := jSm_tr rfl Sm S2
  try rw [jk_1] at X10
  rw [X10] at D
  have eu3 := (show 0 ≤ u3.toInt ∧ u3.toInt ≤ 400 from qu3 ▸ jrg_f J sg_125_10_11_1_0_1)
  try rw [vrf qu3] at D
  have eu4 := (show 0 ≤ u4.toInt ∧ u4.toInt ≤ 400 from qu4 ▸ jrg_f J sg_125_8_9_1_0_1)
  try rw [vrf (jmb_c S2 qu4 rfl)] at D
  have eu5 := (show 0 ≤ u5.toInt ∧ u5.toInt ≤ 400 from qu5 ▸ jrg_f J sg_125_9_10_1_0_1)
  try rw [vrf qu5] at D
  have eu6 := (show 0 ≤ u6.toInt ∧ u6.toInt ≤ 3 from qu6 ▸ jrg_f J sg_125_11_12_1_0_1)
  try rw [vrf qu6] at D
  obtain rfl : u5 = u7 := qu5.symm.trans qu7
  obtain rfl : u3 = u8 := qu3.symm.trans qu8
  show jX m_X12_readClause 9 0 0 316 [(0, .ref 125), (2, .int l2), (4, .int l4)] [] _ 0 0 _
  refine x_aloadn (x := 125) rfl rfl ?_
  refine z_getI (N := 92) 12 14 rfl f_12_214 rfl J rfl sg_125_14_15_1_0_1 (fun v11 qv11 ev11 => ?_)
  try rw [vrf qv11] at D
  refine x_ifne (tgt := 337) rfl rfl (ti_ne rfl jk_0 ⟨fun c12 => ?_, fun c12 => ?_⟩)
  ·
    rw [if_neg (by omega)] at D
    exact jX.sub (jsb_c rfl (jsb_c rfl jsb_n)) (ct_X12_readClause_r125d_337 hD hQ  l2 u3 u6 g2 u4 u5 h (jr_of rfl (by omega)) (jr_mod rfl (by omega)) (jr_of rfl (by omega)) (jr_of rfl (by omega)) (jr_of rfl (by omega)) (jr_of rfl (by omega)) (jr_of rfl (by omega)) (zl_p C0 P9 (jmc S2 rfl rfl) (by omega)) (by omega) (by omega) qu3 qu6 (jmc S2 rfl z2) qu4 qu5 J Sm D)
  ·
    rw [if_pos (by omega)] at D
    refine x_aloadn (x := 125) rfl rfl ?_
    refine x_ldc2 (v := 719722099) rfl z_12_668 ?_
    refine x_inv (N := m_X12_isWord) (As := [.long 719722099]) (b := 125) (st := []) (dx9 := 8) (mc := 0) (ms := 0) (host := "") 12 rfl t_X12_isWord ⟨Or.inl q_12_511, i_X12_isWord.1, i_X12_isWord.2⟩ ⟨by decide, rfl⟩ (congrArg Prod.fst (J.1.1 125 (12, 92) rfl)) rfl (by decide) rfl rfl ⟨by decide, by decide⟩ (jC.of rfl k_X12_isWord rfl ?_)
    show jX m_X12_isWord 8 0 0 0 [(0, .ref 125), (1, .long 719722099)] [] _ 0 0 _
    refine x_aloadn (x := 125) rfl rfl ?_
    refine z_getM (N := 92) (v := u6) 12 11 rfl f_12_235 rfl J rfl qu6 ?_
    refine x_iconst (v := 1) rfl ki_1 ?_
    refine x_icne (tgt := 21) rfl rfl (ti_ne rfl jk_1 ⟨fun c13 => ?_, fun c13 => ?_⟩)
    ·
      rw [if_neg (by omega)] at D
      refine x_iconst (v := 0) rfl ki_0 ?_
      refine x_zret rfl rfl (by decide) ?_
      show jX m_X12_readClause 9 0 0 330 [(0, .ref 125), (2, .int l2), (4, .int l4)] [.int 0] _ 0 0 _
      refine x_ifeq (tgt := 337) rfl rfl (ti_eq jk_0 jk_0 (br_t (by omega) ?_))
      exact jX.sub (jsb_c rfl (jsb_c rfl jsb_n)) (ct_X12_readClause_r125d_337 hD hQ  l2 u3 u6 g2 u4 u5 h (jr_of rfl (by omega)) (jr_mod rfl (by omega)) (jr_of rfl (by omega)) (jr_of rfl (by omega)) (jr_of rfl (by omega)) (jr_of rfl (by omega)) (jr_of rfl (by omega)) (zl_p C0 P9 (jmc S2 rfl rfl) (by omega)) (by omega) (by omega) qu3 qu6 (jmc S2 rfl z2) qu4 qu5 J Sm D)
    ·
      rw [if_pos (by omega)] at D
      refine x_aloadn (x := 125) rfl rfl ?_
      refine z_getLQ (N := 92) 12 12 rfl f_12_224 rfl J rfl (fun v14 qv14 => ?_)
      have ev14 := jfullL v14
      try rw [vrfL qv14] at D
      refine x_lloadn (x := 719722099) rfl rfl ?_
      refine z_lcmp rfl rfl jkl_719722099 (fun v15 ev15 => ?_)
      refine x_ifne (tgt := 21) rfl rfl (ti_ne rfl jk_0 ⟨fun c16 => ?_, fun c16 => ?_⟩)
      ·
        rw [if_neg (by omega)] at D
        refine x_iconst (v := 0) rfl ki_0 ?_
        refine x_zret rfl rfl (by decide) ?_
        show jX m_X12_readClause 9 0 0 330 [(0, .ref 125), (2, .int l2), (4, .int l4)] [.int 0] _ 0 0 _
        refine x_ifeq (tgt := 337) rfl rfl (ti_eq jk_0 jk_0 (br_t (by omega) ?_))
        exact jX.sub (jsb_c rfl (jsb_c rfl jsb_n)) (ct_X12_readClause_r125d_337 hD hQ  l2 u3 u6 g2 u4 u5 h (jr_of rfl (by omega)) (jr_mod rfl (by omega)) (jr_of rfl (by omega)) (jr_of rfl (by omega)) (jr_of rfl (by omega)) (jr_of rfl (by omega)) (jr_of rfl (by omega)) (zl_p C0 P9 (jmc S2 rfl rfl) (by omega)) (by omega) (by omega) qu3 qu6 (jmc S2 rfl z2) qu4 qu5 J Sm D)
      ·
        rw [if_pos (by omega)] at D
        refine x_iconst (v := 1) rfl ki_1 ?_
        refine x_goto (tgt := 22) rfl rfl ?_
        refine x_zret rfl rfl (by decide) ?_
        show jX m_X12_readClause 9 0 0 330 [(0, .ref 125), (2, .int l2), (4, .int l4)] [.int 1] _ 0 0 _
        refine x_ifeq (tgt := 337) rfl rfl (ti_eq jk_1 jk_0 (br_f (by omega) ?_))
        refine x_iconst (v := 1) rfl ki_1 ?_
        refine x_goto (tgt := 338) rfl rfl ?_
        exact jX.sub (jsb_c rfl (jsb_c rfl jsb_n)) (ct_X12_readClause_r125d_300338 hD hQ  l2 u3 u6 g2 u4 u5 h (jr_of rfl (by omega)) (jr_mod rfl (by omega)) (jr_of rfl (by omega)) (jr_of rfl (by omega)) (jr_of rfl (by omega)) (jr_of rfl (by omega)) (jr_of rfl (by omega)) (zl_p C0 P9 (jmc S2 rfl rfl) (by omega)) (by omega) (by omega) qu3 qu6 (jmc S2 rfl z2) qu4 qu5 J Sm D)
set_option maxRecDepth 100000 in
set_option maxHeartbeats 4000000 in
theorem ct_X12_readClause_r125d_300294 {Dy : jH → Prop} {h0 : jH} {Q : Option Value → jH → Prop} {dr : jW} (hD : jDk Dy) (hQ : ∀ hx9, jJ jSgM Dy hx9 → jSm fp_X12_readClause_r125d h0 hx9 → ∀ u0 u1 u2 : Int32, jiv hx9 125 10 = u0 → jiv hx9 125 8 = u1 → jiv hx9 125 9 = u2 → (u0.toInt ≤ u1.toInt ∧ u2.toInt ≤ u0.toInt) → ∀ u3 u4 u5 : Int32, jiv hx9 125 11 = u3 → jiv hx9 125 9 = u4 → jiv hx9 125 10 = u5 → (u3.toInt = 0 ∨ u4.toInt + 1 ≤ u5.toInt) → jRk (jnK hx9) h0 hx9 → dr = vw hx9 → Q none hx9) : ∀ (l2 : Int32) (g0 : Int32) (g1 : Int32) (g2 : Int32) (g3 : Int32) (g4 : Int32) (h : jH), 0 ≤ l2.toInt ∧ l2.toInt ≤ 110 → l2.toInt % 10 = 0 → 0 ≤ g0.toInt ∧ g0.toInt ≤ 400 → 1 ≤ g1.toInt ∧ g1.toInt ≤ 1 → 0 ≤ g2.toInt ∧ g2.toInt ≤ 11 → 0 ≤ g3.toInt ∧ g3.toInt ≤ 400 → 0 ≤ g4.toInt ∧ g4.toInt ≤ 400 → jZl h0 l2 h → (g0.toInt ≤ g3.toInt ∧ g4.toInt ≤ g0.toInt) → (g1.toInt = 0 ∨ g4.toInt + 1 ≤ g0.toInt) → jiv h 125 10 = g0 → jiv h 125 11 = g1 → jiv h 125 47 = g2 → jiv h 125 8 = g3 → jiv h 125 9 = g4 → jJ jSgM Dy h → jSm fp_X12_readClause_r125d h0 h → d_X12_readClause_r125d_300294  l2.toInt (vw h) = dr → jX m_X12_readClause 9 0 0 294 [(0, .ref 125), (2, .int l2)] [.int 1] h 0 0 Q := by
  intro l2 g0 g1 g2 g3 g4 h y0 y1 y2 y3 y4 y5 y6 C0 y8 y9 z0 z1 z2 z3 z4  J Sm D
  unfold d_X12_readClause_r125d_300294 at D
  try rw [vrf z0] at D
  try rw [vrf z1] at D
  try rw [vrf z2] at D
  try rw [vrf z3] at D
  try rw [vrf z4] at D
  refine x_istore (lsx9 := [(4, .int 1), (0, .ref 125), (2, .int l2)]) rfl rfl rfl ?_
  refine x_iload (x := 1) rfl rfl ?_
  refine x_ifeq (tgt := 305) rfl rfl (ti_eq jk_1 jk_0 (br_f (by omega) ?_))
  refine x_aloadn (x := 125) rfl rfl ?_
  refine x_inv (N := m_X12_next) (As := []) (b := 125) (st := []) (dx9 := 2) (mc := 0) (ms := 0) (host := "") 12 rfl t_X12_next ⟨Or.inl q_12_218, i_X12_next.1, i_X12_next.2⟩ ⟨by decide, rfl⟩ (congrArg Prod.fst (J.1.1 125 (12, 92) rfl)) rfl (by decide) rfl rfl ⟨by decide, by decide⟩ (sf_X12_next_r125d  hD J z0 z3 (by omega) rfl  (fun h J S1 u2 u3 u4 qu2 qu3 qu4 ru2 u5 u6 u7 qu5 qu6 qu7 ru5 P8 X9 => ?_))
  have Sm := jSm_tr rfl Sm S1
  rw [X9] at D
  have eu2 := (show 0 ≤ u2.toInt ∧ u2.toInt ≤ 400 from qu2 ▸ jrg_f J sg_125_10_11_1_0_1)
  try rw [vrf qu2] at D
  have eu3 := (show 0 ≤ u3.toInt ∧ u3.toInt ≤ 400 from qu3 ▸ jrg_f J sg_125_8_9_1_0_1)
  try rw [vrf (jmb_c S1 qu3 rfl)] at D
  have eu4 := (show 0 ≤ u4.toInt ∧ u4.toInt ≤ 400 from qu4 ▸ jrg_f J sg_125_9_10_1_0_1)
  try rw [vrf qu4] at D
  have eu5 := (show 0 ≤ u5.toInt ∧ u5.toInt ≤ 3 from qu5 ▸ jrg_f J sg_125_11_12_1_0_1)
  try rw [vrf qu5] at D
  obtain rfl : u4 = u6 := qu4.symm.trans qu6
  obtain rfl : u2 = u7 := qu2.symm.trans qu7
  have nfP8 := jnf P8.1 z0 qu4
  show jX m_X12_readClause 9 0 0 305 [(4, .int 1), (0, .ref 125), (2, .int l2)] [] _ 0 0 _
  exact jX.sub (jsb_c rfl (jsb_c rfl (jsb_c rfl jsb_n))) (ct_X12_readClause_r125d_305 hD hQ  l2 1 u2 u5 g2 u3 u4 h (jr_of rfl (by omega)) (jr_mod rfl (by omega)) (jr_of jk_1 (by omega)) (jr_of rfl (by omega)) (jr_of rfl (by omega)) (jr_of rfl (by omega)) (jr_of rfl (by omega)) (jr_of rfl (by omega)) (zl_m C0 (ke_f S1 rfl rfl rfl rfl rfl rfl z4 qu4 (by omega))) (by omega) (by omega) qu2 qu5 (jmc S1 rfl z2) qu3 qu4 J Sm (by rw [jk_1]; exact D))
set_option maxRecDepth 100000 in
set_option maxHeartbeats 4000000 in
theorem ct_X12_readClause_r125d_200294 {Dy : jH → Prop} {h0 : jH} {Q : Option Value → jH → Prop} {dr : jW} (hD : jDk Dy) (hQ : ∀ hx9, jJ jSgM Dy hx9 → jSm fp_X12_readClause_r125d h0 hx9 → ∀ u0 u1 u2 : Int32, jiv hx9 125 10 = u0 → jiv hx9 125 8 = u1 → jiv hx9 125 9 = u2 → (u0.toInt ≤ u1.toInt ∧ u2.toInt ≤ u0.toInt) → ∀ u3 u4 u5 : Int32, jiv hx9 125 11 = u3 → jiv hx9 125 9 = u4 → jiv hx9 125 10 = u5 → (u3.toInt = 0 ∨ u4.toInt + 1 ≤ u5.toInt) → jRk (jnK hx9) h0 hx9 → dr = vw hx9 → Q none hx9) : ∀ (l2 : Int32) (g0 : Int32) (g1 : Int32) (g2 : Int32) (g3 : Int32) (g4 : Int32) (h : jH), 0 ≤ l2.toInt ∧ l2.toInt ≤ 110 → l2.toInt % 10 = 0 → 0 ≤ g0.toInt ∧ g0.toInt ≤ 400 → 0 ≤ g1.toInt ∧ g1.toInt ≤ 3 → 0 ≤ g2.toInt ∧ g2.toInt ≤ 11 → 0 ≤ g3.toInt ∧ g3.toInt ≤ 400 → 0 ≤ g4.toInt ∧ g4.toInt ≤ 400 → jZl h0 l2 h → (g0.toInt ≤ g3.toInt ∧ g4.toInt ≤ g0.toInt) → (g1.toInt = 0 ∨ g4.toInt + 1 ≤ g0.toInt) → jiv h 125 10 = g0 → jiv h 125 11 = g1 → jiv h 125 47 = g2 → jiv h 125 8 = g3 → jiv h 125 9 = g4 → jJ jSgM Dy h → jSm fp_X12_readClause_r125d h0 h → d_X12_readClause_r125d_200294  l2.toInt (vw h) = dr → jX m_X12_readClause 9 0 0 294 [(0, .ref 125), (2, .int l2)] [.int 0] h 0 0 Q := by
  intro l2 g0 g1 g2 g3 g4 h y0 y1 y2 y3 y4 y5 y6 C0 y8 y9 z0 z1 z2 z3 z4  J Sm D
  unfold d_X12_readClause_r125d_200294 at D
  try rw [vrf z0] at D
  try rw [vrf z1] at D
  try rw [vrf z2] at D
  try rw [vrf z3] at D
  try rw [vrf z4] at D
  refine x_istore (lsx9 := [(4, .int 0), (0, .ref 125), (2, .int l2)]) rfl rfl rfl ?_
  refine x_iload (x := 0) rfl rfl ?_
  refine x_ifeq (tgt := 305) rfl rfl (ti_eq jk_0 jk_0 (br_t (by omega) ?_))
  exact jX.sub (jsb_c rfl (jsb_c rfl (jsb_c rfl jsb_n))) (ct_X12_readClause_r125d_305 hD hQ  l2 0 g0 g1 g2 g3 g4 h (jr_of rfl (by omega)) (jr_mod rfl (by omega)) (jr_of jk_0 (by omega)) (jr_of rfl (by omega)) (jr_of rfl (by omega)) (jr_of rfl (by omega)) (jr_of rfl (by omega)) (jr_of rfl (by omega)) C0 (by omega) (by omega) z0 z1 z2 z3 z4 J Sm (by rw [jk_0]; exact D))
set_option maxRecDepth 100000 in
set_option maxHeartbeats 4000000 in
theorem ct_X12_readClause_r125d_293 {Dy : jH → Prop} {h0 : jH} {Q : Option Value → jH → Prop} {dr : jW} (hD : jDk Dy) (hQ : ∀ hx9, jJ jSgM Dy hx9 → jSm fp_X12_readClause_r125d h0 hx9 → ∀ u0 u1 u2 : Int32, jiv hx9 125 10 = u0 → jiv hx9 125 8 = u1 → jiv hx9 125 9 = u2 → (u0.toInt ≤ u1.toInt ∧ u2.toInt ≤ u0.toInt) → ∀ u3 u4 u5 : Int32, jiv hx9 125 11 = u3 → jiv hx9 125 9 = u4 → jiv hx9 125 10 = u5 → (u3.toInt = 0 ∨ u4.toInt + 1 ≤ u5.toInt) → jRk (jnK hx9) h0 hx9 → dr = vw hx9 → Q none hx9) : ∀ (l2 : Int32) (g0 : Int32) (g1 : Int32) (g2 : Int32) (g3 : Int32) (g4 : Int32) (h : jH), 0 ≤ l2.toInt ∧ l2.toInt ≤ 110 → l2.toInt % 10 = 0 → 0 ≤ g0.toInt ∧ g0.toInt ≤ 400 → 0 ≤ g1.toInt ∧ g1.toInt ≤ 3 → 0 ≤ g2.toInt ∧ g2.toInt ≤ 11 → 0 ≤ g3.toInt ∧ g3.toInt ≤ 400 → 0 ≤ g4.toInt ∧ g4.toInt ≤ 400 → jZl h0 l2 h → (g0.toInt ≤ g3.toInt ∧ g4.toInt ≤ g0.toInt) → (g1.toInt = 0 ∨ g4.toInt + 1 ≤ g0.toInt) → jiv h 125 10 = g0 → jiv h 125 11 = g1 → jiv h 125 47 = g2 → jiv h 125 8 = g3 → jiv h 125 9 = g4 → jJ jSgM Dy h → jSm fp_X12_readClause_r125d h0 h → d_X12_readClause_r125d_293  l2.toInt (vw h) = dr → jX m_X12_readClause 9 0 0 293 [(0, .ref 125), (2, .int l2)] [] h 0 0 Q := by
  intro l2 g0 g1 g2 g3 g4 h y0 y1 y2 y3 y4 y5 y6 C0 y8 y9 z0 z1 z2 z3 z4  J Sm D
  unfold d_X12_readClause_r125d_293 at D
  try rw [vrf z0] at D
  try rw [vrf z1] at D
  try rw [vrf z2] at D
  try rw [vrf z3] at D
  try rw [vrf z4] at D
  refine x_iconst (v := 0) rfl ki_0 ?_
  exact jX.sub (jsb_c rfl (jsb_c rfl jsb_n)) (ct_X12_readClause_r125d_200294 hD hQ  l2 g0 g1 g2 g3 g4 h (jr_of rfl (by omega)) (jr_mod rfl (by omega)) (jr_of rfl (by omega)) (jr_of rfl (by omega)) (jr_of rfl (by omega)) (jr_of rfl (by omega)) (jr_of rfl (by omega)) C0 (by omega) (by omega) z0 z1 z2 z3 z4 J Sm D)
set_option maxRecDepth 100000 in
set_option maxHeartbeats 4000000 in
theorem ct_X12_readClause_r125d_200262 {Dy : jH → Prop} {h0 : jH} {Q : Option Value → jH → Prop} {dr : jW} (hD : jDk Dy) (hQ : ∀ hx9, jJ jSgM Dy hx9 → jSm fp_X12_readClause_r125d h0 hx9 → ∀ u0 u1 u2 : Int32, jiv hx9 125 10 = u0 → jiv hx9 125 8 = u1 → jiv hx9 125 9 = u2 → (u0.toInt ≤ u1.toInt ∧ u2.toInt ≤ u0.toInt) → ∀ u3 u4 u5 : Int32, jiv hx9 125 11 = u3 → jiv hx9 125 9 = u4 → jiv hx9 125 10 = u5 → (u3.toInt = 0 ∨ u4.toInt + 1 ≤ u5.toInt) → jRk (jnK hx9) h0 hx9 → dr = vw hx9 → Q none hx9) : ∀ (l2 : Int32) (g0 : Int32) (g1 : Int32) (g2 : Int32) (g3 : Int32) (g4 : Int32) (h : jH), 0 ≤ l2.toInt ∧ l2.toInt ≤ 110 → l2.toInt % 10 = 0 → 0 ≤ g0.toInt ∧ g0.toInt ≤ 400 → 0 ≤ g1.toInt ∧ g1.toInt ≤ 3 → 0 ≤ g2.toInt ∧ g2.toInt ≤ 11 → 0 ≤ g3.toInt ∧ g3.toInt ≤ 400 → 0 ≤ g4.toInt ∧ g4.toInt ≤ 400 → jZl h0 l2 h → (g0.toInt ≤ g3.toInt ∧ g4.toInt ≤ g0.toInt) → (g1.toInt = 0 ∨ g4.toInt + 1 ≤ g0.toInt) → jiv h 125 10 = g0 → jiv h 125 11 = g1 → jiv h 125 47 = g2 → jiv h 125 8 = g3 → jiv h 125 9 = g4 → jJ jSgM Dy h → jSm fp_X12_readClause_r125d h0 h → d_X12_readClause_r125d_200262  l2.toInt (vw h) = dr → jX m_X12_readClause 9 0 0 262 [(0, .ref 125), (2, .int l2)] [.int 0] h 0 0 Q := by
  intro l2 g0 g1 g2 g3 g4 h y0 y1 y2 y3 y4 y5 y6 C0 y8 y9 z0 z1 z2 z3 z4  J Sm D
  unfold d_X12_readClause_r125d_200262 at D
  try rw [vrf z0] at D
  try rw [vrf z1] at D
  try rw [vrf z2] at D
  try rw [vrf z3] at D
  try rw [vrf z4] at D
  refine x_istoren (lsx9 := [(3, .int 0), (0, .ref 125), (2, .int l2)]) rfl rfl rfl ?_
  refine x_aloadn (x := 125) rfl rfl ?_
  refine x_iloadn (x := l2) rfl rfl ?_
  refine x_iconst (v := 4) rfl ki_4 ?_
  refine z_iadd rfl rfl jk_4 (by omega) (fun v1 ev1 => ?_)
  refine x_iloadn (x := 0) rfl rfl ?_
  refine x_iconst (v := 0) rfl ki_0 ?_
  try rw [show (l2.toInt + 4) = v1.toInt from by omega] at D
  refine x_inv (N := m_X12_readPieces) (As := [.int v1, .int 0, .int 0]) (b := 125) (st := []) (dx9 := 8) (mc := 0) (ms := 0) (host := "") 12 rfl t_X12_readPieces ⟨Or.inl q_12_662, i_X12_readPieces.1, i_X12_readPieces.2⟩ ⟨by decide, rfl⟩ (congrArg Prod.fst (J.1.1 125 (12, 92) rfl)) rfl (by decide) rfl rfl ⟨by decide, by decide⟩ (sf_X12_readPieces_r125d (jr_of rfl (by omega)) (jr_mod rfl (by omega)) (jr_of jk_0 (by omega)) (jr_of jk_0 (by omega)) (A := jnC h) rfl C0.1.2.1 hD J z0 z3 z4 (by omega) z1 z4 z0 (by omega) rfl  (fun h J S2 u3 u4 u5 qu3 qu4 qu5 ru3 u6 u7 u8 qu6 qu7 qu8 ru6 P9 X10 => ?_))
  have Sm := jSm_tr rfl Sm S2
  try rw [jk_0] at X10
  rw [X10] at D
  have eu3 := (show 0 ≤ u3.toInt ∧ u3.toInt ≤ 400 from qu3 ▸ jrg_f J sg_125_10_11_1_0_1)
  try rw [vrf qu3] at D
  have eu4 := (show 0 ≤ u4.toInt ∧ u4.toInt ≤ 400 from qu4 ▸ jrg_f J sg_125_8_9_1_0_1)
  try rw [vrf (jmb_c S2 qu4 rfl)] at D
  have eu5 := (show 0 ≤ u5.toInt ∧ u5.toInt ≤ 400 from qu5 ▸ jrg_f J sg_125_9_10_1_0_1)
  try rw [vrf qu5] at D
  have eu6 := (show 0 ≤ u6.toInt ∧ u6.toInt ≤ 3 from qu6 ▸ jrg_f J sg_125_11_12_1_0_1)
  try rw [vrf qu6] at D
  obtain rfl : u5 = u7 := qu5.symm.trans qu7
  obtain rfl : u3 = u8 := qu3.symm.trans qu8
  show jX m_X12_readClause 9 0 0 272 [(3, .int 0), (0, .ref 125), (2, .int l2)] [] _ 0 0 _
  refine x_aloadn (x := 125) rfl rfl ?_
  refine z_getI (N := 92) 12 14 rfl f_12_214 rfl J rfl sg_125_14_15_1_0_1 (fun v11 qv11 ev11 => ?_)
  try rw [vrf qv11] at D
  refine x_ifne (tgt := 293) rfl rfl (ti_ne rfl jk_0 ⟨fun c12 => ?_, fun c12 => ?_⟩)
  ·
    rw [if_neg (by omega)] at D
    exact jX.sub (jsb_c rfl (jsb_c rfl jsb_n)) (ct_X12_readClause_r125d_293 hD hQ  l2 u3 u6 g2 u4 u5 h (jr_of rfl (by omega)) (jr_mod rfl (by omega)) (jr_of rfl (by omega)) (jr_of rfl (by omega)) (jr_of rfl (by omega)) (jr_of rfl (by omega)) (jr_of rfl (by omega)) (zl_p C0 P9 (jmc S2 rfl rfl) (by omega)) (by omega) (by omega) qu3 qu6 (jmc S2 rfl z2) qu4 qu5 J Sm D)
  ·
    rw [if_pos (by omega)] at D
    refine x_aloadn (x := 125) rfl rfl ?_
    refine x_ldc2 (v := 294) rfl z_12_666 ?_
    refine x_inv (N := m_X12_isWord) (As := [.long 294]) (b := 125) (st := []) (dx9 := 8) (mc := 0) (ms := 0) (host := "") 12 rfl t_X12_isWord ⟨Or.inl q_12_511, i_X12_isWord.1, i_X12_isWord.2⟩ ⟨by decide, rfl⟩ (congrArg Prod.fst (J.1.1 125 (12, 92) rfl)) rfl (by decide) rfl rfl ⟨by decide, by decide⟩ (jC.of rfl k_X12_isWord rfl ?_)
    show jX m_X12_isWord 8 0 0 0 [(0, .ref 125), (1, .long 294)] [] _ 0 0 _
    refine x_aloadn (x := 125) rfl rfl ?_
    refine z_getM (N := 92) (v := u6) 12 11 rfl f_12_235 rfl J rfl qu6 ?_
    refine x_iconst (v := 1) rfl ki_1 ?_
    refine x_icne (tgt := 21) rfl rfl (ti_ne rfl jk_1 ⟨fun c13 => ?_, fun c13 => ?_⟩)
    ·
      rw [if_neg (by omega)] at D
      refine x_iconst (v := 0) rfl ki_0 ?_
      refine x_zret rfl rfl (by decide) ?_
      show jX m_X12_readClause 9 0 0 286 [(3, .int 0), (0, .ref 125), (2, .int l2)] [.int 0] _ 0 0 _
      refine x_ifeq (tgt := 293) rfl rfl (ti_eq jk_0 jk_0 (br_t (by omega) ?_))
      exact jX.sub (jsb_c rfl (jsb_c rfl jsb_n)) (ct_X12_readClause_r125d_293 hD hQ  l2 u3 u6 g2 u4 u5 h (jr_of rfl (by omega)) (jr_mod rfl (by omega)) (jr_of rfl (by omega)) (jr_of rfl (by omega)) (jr_of rfl (by omega)) (jr_of rfl (by omega)) (jr_of rfl (by omega)) (zl_p C0 P9 (jmc S2 rfl rfl) (by omega)) (by omega) (by omega) qu3 qu6 (jmc S2 rfl z2) qu4 qu5 J Sm D)
    ·
      rw [if_pos (by omega)] at D
      refine x_aloadn (x := 125) rfl rfl ?_
      refine z_getLQ (N := 92) 12 12 rfl f_12_224 rfl J rfl (fun v14 qv14 => ?_)
      have ev14 := jfullL v14
      try rw [vrfL qv14] at D
      refine x_lloadn (x := 294) rfl rfl ?_
      refine z_lcmp rfl rfl jkl_294 (fun v15 ev15 => ?_)
      refine x_ifne (tgt := 21) rfl rfl (ti_ne rfl jk_0 ⟨fun c16 => ?_, fun c16 => ?_⟩)
      ·
        rw [if_neg (by omega)] at D
        refine x_iconst (v := 0) rfl ki_0 ?_
        refine x_zret rfl rfl (by decide) ?_
        show jX m_X12_readClause 9 0 0 286 [(3, .int 0), (0, .ref 125), (2, .int l2)] [.int 0] _ 0 0 _
        refine x_ifeq (tgt := 293) rfl rfl (ti_eq jk_0 jk_0 (br_t (by omega) ?_))
        exact jX.sub (jsb_c rfl (jsb_c rfl jsb_n)) (ct_X12_readClause_r125d_293 hD hQ  l2 u3 u6 g2 u4 u5 h (jr_of rfl (by omega)) (jr_mod rfl (by omega)) (jr_of rfl (by omega)) (jr_of rfl (by omega)) (jr_of rfl (by omega)) (jr_of rfl (by omega)) (jr_of rfl (by omega)) (zl_p C0 P9 (jmc S2 rfl rfl) (by omega)) (by omega) (by omega) qu3 qu6 (jmc S2 rfl z2) qu4 qu5 J Sm D)
      ·
        rw [if_pos (by omega)] at D
        refine x_iconst (v := 1) rfl ki_1 ?_
        refine x_goto (tgt := 22) rfl rfl ?_
        refine x_zret rfl rfl (by decide) ?_
        show jX m_X12_readClause 9 0 0 286 [(3, .int 0), (0, .ref 125), (2, .int l2)] [.int 1] _ 0 0 _
        refine x_ifeq (tgt := 293) rfl rfl (ti_eq jk_1 jk_0 (br_f (by omega) ?_))
        refine x_iconst (v := 1) rfl ki_1 ?_
        refine x_goto (tgt := 294) rfl rfl ?_
        exact jX.sub (jsb_c rfl (jsb_c rfl jsb_n)) (ct_X12_readClause_r125d_300294 hD hQ  l2 u3 u6 g2 u4 u5 h (jr_of rfl (by omega)) (jr_mod rfl (by omega)) (jr_of rfl (by omega)) (jr_of rfl (by omega)) (jr_of rfl (by omega)) (jr_of rfl (by omega)) (jr_of rfl (by omega)) (zl_p C0 P9 (jmc S2 rfl rfl) (by omega)) (by omega) (by omega) qu3 qu6 (jmc S2 rfl z2) qu4 qu5 J Sm D)
set_option maxRecDepth 100000 in
set_option maxHeartbeats 4000000 in
theorem ct_X12_readClause_r125d_300262 {Dy : jH → Prop} {h0 : jH} {Q : Option Value → jH → Prop} {dr : jW} (hD : jDk Dy) (hQ : ∀ hx9, jJ jSgM Dy hx9 → jSm fp_X12_readClause_r125d h0 hx9 → ∀ u0 u1 u2 : Int32, jiv hx9 125 10 = u0 → jiv hx9 125 8 = u1 → jiv hx9 125 9 = u2 → (u0.toInt ≤ u1.toInt ∧ u2.toInt ≤ u0.toInt) → ∀ u3 u4 u5 : Int32, jiv hx9 125 11 = u3 → jiv hx9 125 9 = u4 → jiv hx9 125 10 = u5 → (u3.toInt = 0 ∨ u4.toInt + 1 ≤ u5.toInt) → jRk (jnK hx9) h0 hx9 → dr = vw hx9 → Q none hx9) : ∀ (l2 : Int32) (g0 : Int32) (g1 : Int32) (g2 : Int32) (g3 : Int32) (g4 : Int32) (h : jH), 0 ≤ l2.toInt ∧ l2.toInt ≤ 110 → l2.toInt % 10 = 0 → 0 ≤ g0.toInt ∧ g0.toInt ≤ 400 → 0 ≤ g1.toInt ∧ g1.toInt ≤ 3 → 0 ≤ g2.toInt ∧ g2.toInt ≤ 11 → 0 ≤ g3.toInt ∧ g3.toInt ≤ 400 → 0 ≤ g4.toInt ∧ g4.toInt ≤ 400 → jZl h0 l2 h → (g0.toInt ≤ g3.toInt ∧ g4.toInt ≤ g0.toInt) → (g1.toInt = 0 ∨ g4.toInt + 1 ≤ g0.toInt) → jiv h 125 10 = g0 → jiv h 125 11 = g1 → jiv h 125 47 = g2 → jiv h 125 8 = g3 → jiv h 125 9 = g4 → jJ jSgM Dy h → jSm fp_X12_readClause_r125d h0 h → d_X12_readClause_r125d_300262  l2.toInt (vw h) = dr → jX m_X12_readClause 9 0 0 262 [(0, .ref 125), (2, .int l2)] [.int 1] h 0 0 Q := by
  intro l2 g0 g1 g2 g3 g4 h y0 y1 y2 y3 y4 y5 y6 C0 y8 y9 z0 z1 z2 z3 z4  J Sm D
  unfold d_X12_readClause_r125d_300262 at D
  try rw [vrf z0] at D
  try rw [vrf z1] at D
  try rw [vrf z2] at D
  try rw [vrf z3] at D
  try rw [vrf z4] at D
  refine x_istoren (lsx9 := [(3, .int 1), (0, .ref 125), (2, .int l2)]) rfl rfl rfl ?_
  refine x_aloadn (x := 125) rfl rfl ?_
  refine x_iloadn (x := l2) rfl rfl ?_
  refine x_iconst (v := 4) rfl ki_4 ?_
  refine z_iadd rfl rfl jk_4 (by omega) (fun v1 ev1 => ?_)
  refine x_iloadn (x := 1) rfl rfl ?_
  refine x_iconst (v := 0) rfl ki_0 ?_
  try rw [show (l2.toInt + 4) = v1.toInt from by omega] at D
  refine x_inv (N := m_X12_readPieces) (As := [.int v1, .int 1, .int 0]) (b := 125) (st := []) (dx9 := 8) (mc := 0) (ms := 0) (host := "") 12 rfl t_X12_readPieces ⟨Or.inl q_12_662, i_X12_readPieces.1, i_X12_readPieces.2⟩ ⟨by decide, rfl⟩ (congrArg Prod.fst (J.1.1 125 (12, 92) rfl)) rfl (by decide) rfl rfl ⟨by decide, by decide⟩ (sf_X12_readPieces_r125d (jr_of rfl (by omega)) (jr_mod rfl (by omega)) (jr_of jk_1 (by omega)) (jr_of jk_0 (by omega)) (A := jnC h) rfl C0.1.2.1 hD J z0 z3 z4 (by omega) z1 z4 z0 (by omega) rfl  (fun h J S2 u3 u4 u5 qu3 qu4 qu5 ru3 u6 u7 u8 qu6 qu7 qu8 ru6 P9 X10 => ?_))
  have Sm := jSm_tr rfl Sm S2
  try rw [jk_1] at X10
  try rw [jk_0] at X10
  rw [X10] at D
  have eu3 := (show 0 ≤ u3.toInt ∧ u3.toInt ≤ 400 from qu3 ▸ jrg_f J sg_125_10_11_1_0_1)
  try rw [vrf qu3] at D
  have eu4 := (show 0 ≤ u4.toInt ∧ u4.toInt ≤ 400 from qu4 ▸ jrg_f J sg_125_8_9_1_0_1)
  try rw [vrf (jmb_c S2 qu4 rfl)] at D
  have eu5 := (show 0 ≤ u5.toInt ∧ u5.toInt ≤ 400 from qu5 ▸ jrg_f J sg_125_9_10_1_0_1)
  try rw [vrf qu5] at D
  have eu6 := (show 0 ≤ u6.toInt ∧ u6.toInt ≤ 3 from qu6 ▸ jrg_f J sg_125_11_12_1_0_1)
  try rw [vrf qu6] at D
  obtain rfl : u5 = u7 := qu5.symm.trans qu7
  obtain rfl : u3 = u8 := qu3.symm.trans qu8
  show jX m_X12_readClause 9 0 0 272 [(3, .int 1), (0, .ref 125), (2, .int l2)] [] _ 0 0 _
  refine x_aloadn (x := 125) rfl rfl ?_
  refine z_getI (N := 92) 12 14 rfl f_12_214 rfl J rfl sg_125_14_15_1_0_1 (fun v11 qv11 ev11 => ?_)
  try rw [vrf qv11] at D
  refine x_ifne (tgt := 293) rfl rfl (ti_ne rfl jk_0 ⟨fun c12 => ?_, fun c12 => ?_⟩)
  ·
    rw [if_neg (by omega)] at D
    exact jX.sub (jsb_c rfl (jsb_c rfl jsb_n)) (ct_X12_readClause_r125d_293 hD hQ  l2 u3 u6 g2 u4 u5 h (jr_of rfl (by omega)) (jr_mod rfl (by omega)) (jr_of rfl (by omega)) (jr_of rfl (by omega)) (jr_of rfl (by omega)) (jr_of rfl (by omega)) (jr_of rfl (by omega)) (zl_p C0 P9 (jmc S2 rfl rfl) (by omega)) (by omega) (by omega) qu3 qu6 (jmc S2 rfl z2) qu4 qu5 J Sm D)
  ·
    rw [if_pos (by omega)] at D
    refine x_aloadn (x := 125) rfl rfl ?_
    refine x_ldc2 (v := 294) rfl z_12_666 ?_
    refine x_inv (N := m_X12_isWord) (As := [.long 294]) (b := 125) (st := []) (dx9 := 8) (mc := 0) (ms := 0) (host := "") 12 rfl t_X12_isWord ⟨Or.inl q_12_511, i_X12_isWord.1, i_X12_isWord.2⟩ ⟨by decide, rfl⟩ (congrArg Prod.fst (J.1.1 125 (12, 92) rfl)) rfl (by decide) rfl rfl ⟨by decide, by decide⟩ (jC.of rfl k_X12_isWord rfl ?_)
    show jX m_X12_isWord 8 0 0 0 [(0, .ref 125), (1, .long 294)] [] _ 0 0 _
    refine x_aloadn (x := 125) rfl rfl ?_
    refine z_getM (N := 92) (v := u6) 12 11 rfl f_12_235 rfl J rfl qu6 ?_
    refine x_iconst (v := 1) rfl ki_1 ?_
    refine x_icne (tgt := 21) rfl rfl (ti_ne rfl jk_1 ⟨fun c13 => ?_, fun c13 => ?_⟩)
    ·
      rw [if_neg (by omega)] at D
      refine x_iconst (v := 0) rfl ki_0 ?_
      refine x_zret rfl rfl (by decide) ?_
      show jX m_X12_readClause 9 0 0 286 [(3, .int 1), (0, .ref 125), (2, .int l2)] [.int 0] _ 0 0 _
      refine x_ifeq (tgt := 293) rfl rfl (ti_eq jk_0 jk_0 (br_t (by omega) ?_))
      exact jX.sub (jsb_c rfl (jsb_c rfl jsb_n)) (ct_X12_readClause_r125d_293 hD hQ  l2 u3 u6 g2 u4 u5 h (jr_of rfl (by omega)) (jr_mod rfl (by omega)) (jr_of rfl (by omega)) (jr_of rfl (by omega)) (jr_of rfl (by omega)) (jr_of rfl (by omega)) (jr_of rfl (by omega)) (zl_p C0 P9 (jmc S2 rfl rfl) (by omega)) (by omega) (by omega) qu3 qu6 (jmc S2 rfl z2) qu4 qu5 J Sm D)
    ·
      rw [if_pos (by omega)] at D
      refine x_aloadn (x := 125) rfl rfl ?_
      refine z_getLQ (N := 92) 12 12 rfl f_12_224 rfl J rfl (fun v14 qv14 => ?_)
      have ev14 := jfullL v14
      try rw [vrfL qv14] at D
      refine x_lloadn (x := 294) rfl rfl ?_
      refine z_lcmp rfl rfl jkl_294 (fun v15 ev15 => ?_)
      refine x_ifne (tgt := 21) rfl rfl (ti_ne rfl jk_0 ⟨fun c16 => ?_, fun c16 => ?_⟩)
      ·
        rw [if_neg (by omega)] at D
        refine x_iconst (v := 0) rfl ki_0 ?_
        refine x_zret rfl rfl (by decide) ?_
        show jX m_X12_readClause 9 0 0 286 [(3, .int 1), (0, .ref 125), (2, .int l2)] [.int 0] _ 0 0 _
        refine x_ifeq (tgt := 293) rfl rfl (ti_eq jk_0 jk_0 (br_t (by omega) ?_))
        exact jX.sub (jsb_c rfl (jsb_c rfl jsb_n)) (ct_X12_readClause_r125d_293 hD hQ  l2 u3 u6 g2 u4 u5 h (jr_of rfl (by omega)) (jr_mod rfl (by omega)) (jr_of rfl (by omega)) (jr_of rfl (by omega)) (jr_of rfl (by omega)) (jr_of rfl (by omega)) (jr_of rfl (by omega)) (zl_p C0 P9 (jmc S2 rfl rfl) (by omega)) (by omega) (by omega) qu3 qu6 (jmc S2 rfl z2) qu4 qu5 J Sm D)
      ·
        rw [if_pos (by omega)] at D
        refine x_iconst (v := 1) rfl ki_1 ?_
        refine x_goto (tgt := 22) rfl rfl ?_
        refine x_zret rfl rfl (by decide) ?_
        show jX m_X12_readClause 9 0 0 286 [(3, .int 1), (0, .ref 125), (2, .int l2)] [.int 1] _ 0 0 _
        refine x_ifeq (tgt := 293) rfl rfl (ti_eq jk_1 jk_0 (br_f (by omega) ?_))
        refine x_iconst (v := 1) rfl ki_1 ?_
        refine x_goto (tgt := 294) rfl rfl ?_
        exact jX.sub (jsb_c rfl (jsb_c rfl jsb_n)) (ct_X12_readClause_r125d_300294 hD hQ  l2 u3 u6 g2 u4 u5 h (jr_of rfl (by omega)) (jr_mod rfl (by omega)) (jr_of rfl (by omega)) (jr_of rfl (by omega)) (jr_of rfl (by omega)) (jr_of rfl (by omega)) (jr_of rfl (by omega)) (zl_p C0 P9 (jmc S2 rfl rfl) (by omega)) (by omega) (by omega) qu3 qu6 (jmc S2 rfl z2) qu4 qu5 J Sm D)
set_option maxRecDepth 100000 in
set_option maxHeartbeats 4000000 in
theorem ct_X12_readClause_r125d_257 {Dy : jH → Prop} {h0 : jH} {Q : Option Value → jH → Prop} {dr : jW} (hD : jDk Dy) (hQ : ∀ hx9, jJ jSgM Dy hx9 → jSm fp_X12_readClause_r125d h0 hx9 → ∀ u0 u1 u2 : Int32, jiv hx9 125 10 = u0 → jiv hx9 125 8 = u1 → jiv hx9 125 9 = u2 → (u0.toInt ≤ u1.toInt ∧ u2.toInt ≤ u0.toInt) → ∀ u3 u4 u5 : Int32, jiv hx9 125 11 = u3 → jiv hx9 125 9 = u4 → jiv hx9 125 10 = u5 → (u3.toInt = 0 ∨ u4.toInt + 1 ≤ u5.toInt) → jRk (jnK hx9) h0 hx9 → dr = vw hx9 → Q none hx9) : ∀ (l2 : Int32) (g0 : Int32) (g1 : Int32) (g2 : Int32) (g3 : Int32) (g4 : Int32) (h : jH), 0 ≤ l2.toInt ∧ l2.toInt ≤ 110 → l2.toInt % 10 = 0 → 0 ≤ g0.toInt ∧ g0.toInt ≤ 400 → 0 ≤ g1.toInt ∧ g1.toInt ≤ 3 → 0 ≤ g2.toInt ∧ g2.toInt ≤ 11 → 0 ≤ g3.toInt ∧ g3.toInt ≤ 400 → 0 ≤ g4.toInt ∧ g4.toInt ≤ 400 → jZl h0 l2 h → (g0.toInt ≤ g3.toInt ∧ g4.toInt ≤ g0.toInt) → (g1.toInt = 0 ∨ g4.toInt + 1 ≤ g0.toInt) → jiv h 125 10 = g0 → jiv h 125 11 = g1 → jiv h 125 47 = g2 → jiv h 125 8 = g3 → jiv h 125 9 = g4 → jJ jSgM Dy h → jSm fp_X12_readClause_r125d h0 h → d_X12_readClause_r125d_257  l2.toInt (vw h) = dr → jX m_X12_readClause 9 0 0 257 [(0, .ref 125), (2, .int l2)] [] h 0 0 Q := by
  intro l2 g0 g1 g2 g3 g4 h y0 y1 y2 y3 y4 y5 y6 C0 y8 y9 z0 z1 z2 z3 z4  J Sm D
  unfold d_X12_readClause_r125d_257 at D
  try rw [vrf z0] at D
  try rw [vrf z1] at D
  try rw [vrf z2] at D
  try rw [vrf z3] at D
  try rw [vrf z4] at D
  refine x_iconst (v := 1) rfl ki_1 ?_
  refine x_goto (tgt := 262) rfl rfl ?_
  exact jX.sub (jsb_c rfl (jsb_c rfl jsb_n)) (ct_X12_readClause_r125d_300262 hD hQ  l2 g0 g1 g2 g3 g4 h (jr_of rfl (by omega)) (jr_mod rfl (by omega)) (jr_of rfl (by omega)) (jr_of rfl (by omega)) (jr_of rfl (by omega)) (jr_of rfl (by omega)) (jr_of rfl (by omega)) C0 (by omega) (by omega) z0 z1 z2 z3 z4 J Sm D)
set_option maxRecDepth 100000 in
set_option maxHeartbeats 4000000 in
theorem ct_X12_readClause_r125d_200234 {Dy : jH → Prop} {h0 : jH} {Q : Option Value → jH → Prop} {dr : jW} (hD : jDk Dy) (hQ : ∀ hx9, jJ jSgM Dy hx9 → jSm fp_X12_readClause_r125d h0 hx9 → ∀ u0 u1 u2 : Int32, jiv hx9 125 10 = u0 → jiv hx9 125 8 = u1 → jiv hx9 125 9 = u2 → (u0.toInt ≤ u1.toInt ∧ u2.toInt ≤ u0.toInt) → ∀ u3 u4 u5 : Int32, jiv hx9 125 11 = u3 → jiv hx9 125 9 = u4 → jiv hx9 125 10 = u5 → (u3.toInt = 0 ∨ u4.toInt + 1 ≤ u5.toInt) → jRk (jnK hx9) h0 hx9 → dr = vw hx9 → Q none hx9) : ∀ (l1 : Int32) (l2 : Int32) (s1 : Int32) (g0 : Int32) (g1 : Int32) (g2 : Int32) (g3 : Int32) (g4 : Int32) (h : jH), 1 ≤ l1.toInt ∧ l1.toInt ≤ 8 → 0 ≤ l2.toInt ∧ l2.toInt ≤ 110 → l2.toInt % 10 = 0 → 2 ≤ s1.toInt ∧ s1.toInt ≤ 112 → s1.toInt % 10 = 2 → 0 ≤ g0.toInt ∧ g0.toInt ≤ 400 → 0 ≤ g1.toInt ∧ g1.toInt ≤ 3 → 0 ≤ g2.toInt ∧ g2.toInt ≤ 11 → 0 ≤ g3.toInt ∧ g3.toInt ≤ 400 → 0 ≤ g4.toInt ∧ g4.toInt ≤ 400 → l1.toInt ≠ 0 → jZy h0 l2 h → s1.toInt = l2.toInt + 2 → (g0.toInt ≤ g3.toInt ∧ g4.toInt ≤ g0.toInt) → (g1.toInt = 0 ∨ g4.toInt + 1 ≤ g0.toInt) → jiv h 125 10 = g0 → jiv h 125 11 = g1 → jiv h 125 47 = g2 → jiv h 125 8 = g3 → jiv h 125 9 = g4 → jJ jSgM Dy h → jSm fp_X12_readClause_r125d h0 h → d_X12_readClause_r125d_200234  l1.toInt l2.toInt s1.toInt (vw h) = dr → jX m_X12_readClause 9 0 0 234 [(0, .ref 125), (1, .int l1), (2, .int l2)] [.int 0, .int s1, .ref 147] h 0 0 Q := by
  intro l1 l2 s1 g0 g1 g2 g3 g4 h y0 y1 y2 y3 y4 y5 y6 y7 y8 y9 y10 C0 y12 y13 y14 z0 z1 z2 z3 z4  J Sm D
  unfold d_X12_readClause_r125d_200234 at D
  try rw [vrf z0] at D
  try rw [vrf z1] at D
  try rw [vrf z2] at D
  try rw [vrf z3] at D
  try rw [vrf z4] at D
  refine z_iast (N := 120) (l := 0) (u := 120) (w := 0) rfl hD J Sm rfl rfl rfl (by omega) jk_0 (wr_147) rfl (fun h w1 J Sm => ?_)
  rw [vww w1 (show s1.toInt = s1.toInt from by omega) (show 0 = (0 : Int32).toInt from by have := jk_0; omega)] at D
  refine x_iloadn (x := l1) rfl rfl ?_
  refine x_iconst (v := 3) rfl ki_3 ?_
  refine x_iceq (tgt := 257) rfl rfl (ti_eq rfl jk_3 ⟨fun c2 => ?_, fun c2 => ?_⟩)
  ·
    rw [if_pos (by omega)] at D
    exact jX.sub (jsb_c rfl (jsb_c rfl jsb_n)) (ct_X12_readClause_r125d_257 hD hQ  l2 g0 g1 g2 g3 g4 h (jr_of rfl (by omega)) (jr_mod rfl (by omega)) (jr_of rfl (by omega)) (jr_of rfl (by omega)) (jr_of rfl (by omega)) (jr_of rfl (by omega)) (jr_of rfl (by omega)) (zl_0 C0 (by omega) w1 (Or.inr (by decide))) (by omega) (by omega) (jmo w1 rfl z0) (jmo w1 rfl z1) (jmo w1 rfl z2) (jmo w1 rfl z3) (jmo w1 rfl z4) J Sm D)
  ·
    rw [if_neg (by omega)] at D
    refine x_iloadn (x := l1) rfl rfl ?_
    refine x_iconst (v := 4) rfl ki_4 ?_
    refine x_iceq (tgt := 257) rfl rfl (ti_eq rfl jk_4 ⟨fun c3 => ?_, fun c3 => ?_⟩)
    ·
      rw [if_pos (by omega)] at D
      exact jX.sub (jsb_c rfl (jsb_c rfl jsb_n)) (ct_X12_readClause_r125d_257 hD hQ  l2 g0 g1 g2 g3 g4 h (jr_of rfl (by omega)) (jr_mod rfl (by omega)) (jr_of rfl (by omega)) (jr_of rfl (by omega)) (jr_of rfl (by omega)) (jr_of rfl (by omega)) (jr_of rfl (by omega)) (zl_0 C0 (by omega) w1 (Or.inr (by decide))) (by omega) (by omega) (jmo w1 rfl z0) (jmo w1 rfl z1) (jmo w1 rfl z2) (jmo w1 rfl z3) (jmo w1 rfl z4) J Sm D)
    ·
      rw [if_neg (by omega)] at D
      refine x_iloadn (x := l1) rfl rfl ?_
      refine x_bipush (v := 7) rfl kb_7 ?_
      refine x_iceq (tgt := 257) rfl rfl (ti_eq rfl jk_7 ⟨fun c4 => ?_, fun c4 => ?_⟩)
      ·
        rw [if_pos (by omega)] at D
        exact jX.sub (jsb_c rfl (jsb_c rfl jsb_n)) (ct_X12_readClause_r125d_257 hD hQ  l2 g0 g1 g2 g3 g4 h (jr_of rfl (by omega)) (jr_mod rfl (by omega)) (jr_of rfl (by omega)) (jr_of rfl (by omega)) (jr_of rfl (by omega)) (jr_of rfl (by omega)) (jr_of rfl (by omega)) (zl_0 C0 (by omega) w1 (Or.inr (by decide))) (by omega) (by omega) (jmo w1 rfl z0) (jmo w1 rfl z1) (jmo w1 rfl z2) (jmo w1 rfl z3) (jmo w1 rfl z4) J Sm D)
      ·
        rw [if_neg (by omega)] at D
        refine x_iloadn (x := l1) rfl rfl ?_
        refine x_bipush (v := 8) rfl kb_8 ?_
        refine x_icne (tgt := 261) rfl rfl (ti_ne rfl jk_8 ⟨fun c5 => ?_, fun c5 => ?_⟩)
        ·
          rw [if_neg (by omega)] at D
          refine x_iconst (v := 0) rfl ki_0 ?_
          exact jX.sub (jsb_c rfl (jsb_c rfl jsb_n)) (ct_X12_readClause_r125d_200262 hD hQ  l2 g0 g1 g2 g3 g4 h (jr_of rfl (by omega)) (jr_mod rfl (by omega)) (jr_of rfl (by omega)) (jr_of rfl (by omega)) (jr_of rfl (by omega)) (jr_of rfl (by omega)) (jr_of rfl (by omega)) (zl_0 C0 (by omega) w1 (Or.inr (by decide))) (by omega) (by omega) (jmo w1 rfl z0) (jmo w1 rfl z1) (jmo w1 rfl z2) (jmo w1 rfl z3) (jmo w1 rfl z4) J Sm D)
        ·
          rw [if_pos (by omega)] at D
          exact jX.sub (jsb_c rfl (jsb_c rfl jsb_n)) (ct_X12_readClause_r125d_257 hD hQ  l2 g0 g1 g2 g3 g4 h (jr_of rfl (by omega)) (jr_mod rfl (by omega)) (jr_of rfl (by omega)) (jr_of rfl (by omega)) (jr_of rfl (by omega)) (jr_of rfl (by omega)) (jr_of rfl (by omega)) (zl_0 C0 (by omega) w1 (Or.inr (by decide))) (by omega) (by omega) (jmo w1 rfl z0) (jmo w1 rfl z1) (jmo w1 rfl z2) (jmo w1 rfl z3) (jmo w1 rfl z4) J Sm D)
set_option maxRecDepth 100000 in
set_option maxHeartbeats 4000000 in
theorem ct_X12_readClause_r125d_234 {Dy : jH → Prop} {h0 : jH} {Q : Option Value → jH → Prop} {dr : jW} (hD : jDk Dy) (hQ : ∀ hx9, jJ jSgM Dy hx9 → jSm fp_X12_readClause_r125d h0 hx9 → ∀ u0 u1 u2 : Int32, jiv hx9 125 10 = u0 → jiv hx9 125 8 = u1 → jiv hx9 125 9 = u2 → (u0.toInt ≤ u1.toInt ∧ u2.toInt ≤ u0.toInt) → ∀ u3 u4 u5 : Int32, jiv hx9 125 11 = u3 → jiv hx9 125 9 = u4 → jiv hx9 125 10 = u5 → (u3.toInt = 0 ∨ u4.toInt + 1 ≤ u5.toInt) → jRk (jnK hx9) h0 hx9 → dr = vw hx9 → Q none hx9) : ∀ (l1 : Int32) (l2 : Int32) (s0 : Int32) (s1 : Int32) (g0 : Int32) (g1 : Int32) (g2 : Int32) (g3 : Int32) (g4 : Int32) (h : jH), 6 ≤ l1.toInt ∧ l1.toInt ≤ 6 → 0 ≤ l2.toInt ∧ l2.toInt ≤ 110 → l2.toInt % 10 = 0 → 2 ≤ s1.toInt ∧ s1.toInt ≤ 112 → s1.toInt % 10 = 2 → 0 ≤ g0.toInt ∧ g0.toInt ≤ 400 → 0 ≤ g1.toInt ∧ g1.toInt ≤ 3 → 0 ≤ g2.toInt ∧ g2.toInt ≤ 11 → 0 ≤ g3.toInt ∧ g3.toInt ≤ 400 → 0 ≤ g4.toInt ∧ g4.toInt ≤ 400 → l1.toInt ≠ 0 → jZy h0 l2 h → ((jiv h 125 14).toInt ≠ 0 ∨ (0 ≤ s0.toInt ∧ s0.toInt ≤ 399)) → s1.toInt = l2.toInt + 2 → (g0.toInt ≤ g3.toInt ∧ g4.toInt ≤ g0.toInt) → (g1.toInt = 0 ∨ g4.toInt + 1 ≤ g0.toInt) → jiv h 125 10 = g0 → jiv h 125 11 = g1 → jiv h 125 47 = g2 → jiv h 125 8 = g3 → jiv h 125 9 = g4 → jJ jSgM Dy h → jSm fp_X12_readClause_r125d h0 h → d_X12_readClause_r125d_234  l1.toInt l2.toInt s0.toInt s1.toInt (vw h) = dr → jX m_X12_readClause 9 0 0 234 [(0, .ref 125), (1, .int l1), (2, .int l2)] [.int s0, .int s1, .ref 147] h 0 0 Q := by
  intro l1 l2 s0 s1 g0 g1 g2 g3 g4 h y0 y1 y2 y3 y4 y5 y6 y7 y8 y9 y10 C0 C1 y13 y14 y15 z0 z1 z2 z3 z4  J Sm D
  have es0 := jfull s0
  unfold d_X12_readClause_r125d_234 at D
  try rw [vrf z0] at D
  try rw [vrf z1] at D
  try rw [vrf z2] at D
  try rw [vrf z3] at D
  try rw [vrf z4] at D
  refine z_iast (N := 120) (l := 0) (u := 120) (w := s0.toInt) rfl hD J Sm rfl rfl rfl (by omega) rfl (wr_147) rfl (fun h w1 J Sm => ?_)
  rw [vww w1 (show s1.toInt = s1.toInt from by omega) (show s0.toInt = s0.toInt from by omega)] at D
  refine x_iloadn (x := l1) rfl rfl ?_
  refine x_iconst (v := 3) rfl ki_3 ?_
  refine x_iceq (tgt := 257) rfl rfl (ti_eq rfl jk_3 (br_f (by omega) ?_))
  refine x_iloadn (x := l1) rfl rfl ?_
  refine x_iconst (v := 4) rfl ki_4 ?_
  refine x_iceq (tgt := 257) rfl rfl (ti_eq rfl jk_4 (br_f (by omega) ?_))
  refine x_iloadn (x := l1) rfl rfl ?_
  refine x_bipush (v := 7) rfl kb_7 ?_
  refine x_iceq (tgt := 257) rfl rfl (ti_eq rfl jk_7 (br_f (by omega) ?_))
  refine x_iloadn (x := l1) rfl rfl ?_
  refine x_bipush (v := 8) rfl kb_8 ?_
  refine x_icne (tgt := 261) rfl rfl (ti_ne rfl jk_8 (bn_t (by omega) ?_))
  refine x_iconst (v := 0) rfl ki_0 ?_
  exact jX.sub (jsb_c rfl (jsb_c rfl jsb_n)) (ct_X12_readClause_r125d_200262 hD hQ  l2 g0 g1 g2 g3 g4 h (jr_of rfl (by omega)) (jr_mod rfl (by omega)) (jr_of rfl (by omega)) (jr_of rfl (by omega)) (jr_of rfl (by omega)) (jr_of rfl (by omega)) (jr_of rfl (by omega)) (zl_0 C0 (by omega) w1 C1) (by omega) (by omega) (jmo w1 rfl z0) (jmo w1 rfl z1) (jmo w1 rfl z2) (jmo w1 rfl z3) (jmo w1 rfl z4) J Sm D)
set_option maxRecDepth 100000 in
set_option maxHeartbeats 4000000 in
theorem ct_X12_readClause_r125d_200209 {Dy : jH → Prop} {h0 : jH} {Q : Option Value → jH → Prop} {dr : jW} (hD : jDk Dy) (hQ : ∀ hx9, jJ jSgM Dy hx9 → jSm fp_X12_readClause_r125d h0 hx9 → ∀ u0 u1 u2 : Int32, jiv hx9 125 10 = u0 → jiv hx9 125 8 = u1 → jiv hx9 125 9 = u2 → (u0.toInt ≤ u1.toInt ∧ u2.toInt ≤ u0.toInt) → ∀ u3 u4 u5 : Int32, jiv hx9 125 11 = u3 → jiv hx9 125 9 = u4 → jiv hx9 125 10 = u5 → (u3.toInt = 0 ∨ u4.toInt + 1 ≤ u5.toInt) → jRk (jnK hx9) h0 hx9 → dr = vw hx9 → Q none hx9) : ∀ (l1 : Int32) (l2 : Int32) (s1 : Int32) (g0 : Int32) (g1 : Int32) (g2 : Int32) (g3 : Int32) (g4 : Int32) (h : jH), 4 ≤ l1.toInt ∧ l1.toInt ≤ 8 → 0 ≤ l2.toInt ∧ l2.toInt ≤ 110 → l2.toInt % 10 = 0 → 1 ≤ s1.toInt ∧ s1.toInt ≤ 111 → s1.toInt % 10 = 1 → 0 ≤ g0.toInt ∧ g0.toInt ≤ 400 → 0 ≤ g1.toInt ∧ g1.toInt ≤ 3 → 0 ≤ g2.toInt ∧ g2.toInt ≤ 11 → 0 ≤ g3.toInt ∧ g3.toInt ≤ 400 → 0 ≤ g4.toInt ∧ g4.toInt ≤ 400 → l1.toInt ≠ 0 → jZy h0 l2 h → s1.toInt = l2.toInt + 1 → (g0.toInt ≤ g3.toInt ∧ g4.toInt ≤ g0.toInt) → (g1.toInt = 0 ∨ g4.toInt + 1 ≤ g0.toInt) → jiv h 125 10 = g0 → jiv h 125 11 = g1 → jiv h 125 47 = g2 → jiv h 125 8 = g3 → jiv h 125 9 = g4 → jJ jSgM Dy h → jSm fp_X12_readClause_r125d h0 h → d_X12_readClause_r125d_200209  l1.toInt l2.toInt s1.toInt (vw h) = dr → jX m_X12_readClause 9 0 0 209 [(0, .ref 125), (1, .int l1), (2, .int l2)] [.int 0, .int s1, .ref 147] h 0 0 Q := by
  intro l1 l2 s1 g0 g1 g2 g3 g4 h y0 y1 y2 y3 y4 y5 y6 y7 y8 y9 y10 C0 y12 y13 y14 z0 z1 z2 z3 z4  J Sm D
  unfold d_X12_readClause_r125d_200209 at D
  try rw [vrf z0] at D
  try rw [vrf z1] at D
  try rw [vrf z2] at D
  try rw [vrf z3] at D
  try rw [vrf z4] at D
  refine z_iast (N := 120) (l := 0) (u := 120) (w := 0) rfl hD J Sm rfl rfl rfl (by omega) jk_0 (wr_147) rfl (fun h w1 J Sm => ?_)
  rw [vww w1 (show s1.toInt = s1.toInt from by omega) (show 0 = (0 : Int32).toInt from by have := jk_0; omega)] at D
  refine x_aloadn (x := 125) rfl rfl ?_
  refine z_getR (N := 92) (b := 147) 12 48 rfl f_12_96 rfl J rfl 16048 ⟨rfl, rfl⟩ rfl ?_
  refine x_iloadn (x := l2) rfl rfl ?_
  refine x_iconst (v := 2) rfl ki_2 ?_
  refine z_iadd rfl rfl jk_2 (by omega) (fun v2 ev2 => ?_)
  refine x_iloadn (x := l1) rfl rfl ?_
  refine x_bipush (v := 6) rfl kb_6 ?_
  refine x_icne (tgt := 233) rfl rfl (ti_ne rfl jk_6 ⟨fun c3 => ?_, fun c3 => ?_⟩)
  ·
    rw [if_neg (by omega)] at D
    refine x_iconst (v := 0) rfl ki_0 ?_
    try rw [show (l2.toInt + 2) = v2.toInt from by omega] at D
    exact jX.sub (jsb_c rfl (jsb_c rfl (jsb_c rfl jsb_n))) (ct_X12_readClause_r125d_200234 hD hQ  l1 l2 v2 g0 g1 g2 g3 g4 h (jr_of rfl (by omega)) (jr_of rfl (by omega)) (jr_mod rfl (by omega)) (jr_of rfl (by omega)) (jr_mod rfl (by omega)) (jr_of rfl (by omega)) (jr_of rfl (by omega)) (jr_of rfl (by omega)) (jr_of rfl (by omega)) (jr_of rfl (by omega)) (by omega) (zy_w C0 (by omega) w1) (by omega) (by omega) (by omega) (jmo w1 rfl z0) (jmo w1 rfl z1) (jmo w1 rfl z2) (jmo w1 rfl z3) (jmo w1 rfl z4) J Sm D)
  ·
    rw [if_pos (by omega)] at D
    refine x_aloadn (x := 125) rfl rfl ?_
    refine x_ldc2 (v := 399) rfl z_12_192 ?_
    refine x_inv (N := m_X12_number) (As := [.long 399]) (b := 125) (st := [.int v2, .ref 147]) (dx9 := 4) (mc := 0) (ms := 0) (host := "") 12 rfl t_X12_number ⟨Or.inl q_12_641, i_X12_number.1, i_X12_number.2⟩ ⟨by decide, rfl⟩ (congrArg Prod.fst (J.1.1 125 (12, 92) rfl)) rfl (by decide) rfl rfl ⟨by decide, by decide⟩ (sf_X12_number_r125d (jr_ofl jkl_399 (by omega)) (wd_w w1 C0.2.2.1) hD J (jmo w1 rfl z0) (jmo w1 rfl z3) (jmo w1 rfl z4) (by omega) (jmo w1 rfl z1) (jmo w1 rfl z4) (jmo w1 rfl z0) (by omega) rfl  (fun v14 h J S4 u5 u6 u7 qu5 qu6 qu7 ru5 u8 u9 u10 qu8 qu9 qu10 ru8 P11 X12 X13 => ?_))
    have ev14 := jfull v14
    have Sm := jSm_tr rfl Sm S4
    try rw [jkl_399] at X12
    try rw [jkl_399] at X13
    try rw [X12] at D
    try rw [X13] at D
    have eu5 := (show 0 ≤ u5.toInt ∧ u5.toInt ≤ 400 from qu5 ▸ jrg_f J sg_125_10_11_1_0_1)
    try rw [vrf qu5] at D
    have eu6 := (show 0 ≤ u6.toInt ∧ u6.toInt ≤ 400 from qu6 ▸ jrg_f J sg_125_8_9_1_0_1)
    try rw [vrf (jmb_w w1 (jmb_c S4 qu6 rfl) rfl)] at D
    have eu7 := (show 0 ≤ u7.toInt ∧ u7.toInt ≤ 400 from qu7 ▸ jrg_f J sg_125_9_10_1_0_1)
    try rw [vrf qu7] at D
    have eu8 := (show 0 ≤ u8.toInt ∧ u8.toInt ≤ 3 from qu8 ▸ jrg_f J sg_125_11_12_1_0_1)
    try rw [vrf qu8] at D
    obtain rfl : u7 = u9 := qu7.symm.trans qu9
    obtain rfl : u5 = u10 := qu5.symm.trans qu10
    show jX m_X12_readClause 9 0 0 230 [(0, .ref 125), (1, .int l1), (2, .int l2)] [.int v14, .int v2, .ref 147] _ 0 0 _
    refine x_goto (tgt := 234) rfl rfl ?_
    try rw [show (l2.toInt + 2) = v2.toInt from by omega] at D
    exact jX.sub (jsb_c rfl (jsb_c rfl (jsb_c rfl jsb_n))) (ct_X12_readClause_r125d_234 hD hQ  l1 l2 v14 v2 u5 u8 g2 u6 u7 h (jr_of rfl (by omega)) (jr_of rfl (by omega)) (jr_mod rfl (by omega)) (jr_of rfl (by omega)) (jr_mod rfl (by omega)) (jr_of rfl (by omega)) (jr_of rfl (by omega)) (jr_of rfl (by omega)) (jr_of rfl (by omega)) (jr_of rfl (by omega)) (by omega) (zy_m (zy_w C0 (by omega) w1) (ke_c S4 rfl rfl rfl rfl rfl P11.1) P11.1.2.2) (nm_4 P11.2 jkl_399) (by omega) (by omega) (by omega) qu5 qu8 (jmc S4 rfl (jmo w1 rfl z2)) qu6 qu7 J Sm D)
set_option maxRecDepth 100000 in
set_option maxHeartbeats 4000000 in
theorem ct_X12_readClause_r125d_209 {Dy : jH → Prop} {h0 : jH} {Q : Option Value → jH → Prop} {dr : jW} (hD : jDk Dy) (hQ : ∀ hx9, jJ jSgM Dy hx9 → jSm fp_X12_readClause_r125d h0 hx9 → ∀ u0 u1 u2 : Int32, jiv hx9 125 10 = u0 → jiv hx9 125 8 = u1 → jiv hx9 125 9 = u2 → (u0.toInt ≤ u1.toInt ∧ u2.toInt ≤ u0.toInt) → ∀ u3 u4 u5 : Int32, jiv hx9 125 11 = u3 → jiv hx9 125 9 = u4 → jiv hx9 125 10 = u5 → (u3.toInt = 0 ∨ u4.toInt + 1 ≤ u5.toInt) → jRk (jnK hx9) h0 hx9 → dr = vw hx9 → Q none hx9) : ∀ (l1 : Int32) (l2 : Int32) (s0 : Int32) (s1 : Int32) (g0 : Int32) (g1 : Int32) (g2 : Int32) (g3 : Int32) (g4 : Int32) (h : jH), 1 ≤ l1.toInt ∧ l1.toInt ≤ 7 → 0 ≤ l2.toInt ∧ l2.toInt ≤ 110 → l2.toInt % 10 = 0 → (-1) ≤ s0.toInt ∧ s0.toInt ≤ 5 → 1 ≤ s1.toInt ∧ s1.toInt ≤ 111 → s1.toInt % 10 = 1 → 0 ≤ g0.toInt ∧ g0.toInt ≤ 400 → 0 ≤ g1.toInt ∧ g1.toInt ≤ 3 → 0 ≤ g2.toInt ∧ g2.toInt ≤ 11 → 0 ≤ g3.toInt ∧ g3.toInt ≤ 400 → 0 ≤ g4.toInt ∧ g4.toInt ≤ 400 → l1.toInt ≠ 0 → jZy h0 l2 h → s1.toInt = l2.toInt + 1 → (g0.toInt ≤ g3.toInt ∧ g4.toInt ≤ g0.toInt) → (g1.toInt = 0 ∨ g4.toInt + 1 ≤ g0.toInt) → jiv h 125 10 = g0 → jiv h 125 11 = g1 → jiv h 125 47 = g2 → jiv h 125 8 = g3 → jiv h 125 9 = g4 → jJ jSgM Dy h → jSm fp_X12_readClause_r125d h0 h → d_X12_readClause_r125d_209  l1.toInt l2.toInt s0.toInt s1.toInt (vw h) = dr → jX m_X12_readClause 9 0 0 209 [(0, .ref 125), (1, .int l1), (2, .int l2)] [.int s0, .int s1, .ref 147] h 0 0 Q := by
  intro l1 l2 s0 s1 g0 g1 g2 g3 g4 h y0 y1 y2 y3 y4 y5 y6 y7 y8 y9 y10 y11 C0 y13 y14 y15 z0 z1 z2 z3 z4  J Sm D
  unfold d_X12_readClause_r125d_209 at D
  try rw [vrf z0] at D
  try rw [vrf z1] at D
  try rw [vrf z2] at D
  try rw [vrf z3] at D
  try rw [vrf z4] at D
  refine z_iast (N := 120) (l := 0) (u := 120) (w := s0.toInt) rfl hD J Sm rfl rfl rfl (by omega) rfl (wr_147) rfl (fun h w1 J Sm => ?_)
  rw [vww w1 (show s1.toInt = s1.toInt from by omega) (show s0.toInt = s0.toInt from by omega)] at D
  refine x_aloadn (x := 125) rfl rfl ?_
  refine z_getR (N := 92) (b := 147) 12 48 rfl f_12_96 rfl J rfl 16048 ⟨rfl, rfl⟩ rfl ?_
  refine x_iloadn (x := l2) rfl rfl ?_
  refine x_iconst (v := 2) rfl ki_2 ?_
  refine z_iadd rfl rfl jk_2 (by omega) (fun v2 ev2 => ?_)
  refine x_iloadn (x := l1) rfl rfl ?_
  refine x_bipush (v := 6) rfl kb_6 ?_
  refine x_icne (tgt := 233) rfl rfl (ti_ne rfl jk_6 ⟨fun c3 => ?_, fun c3 => ?_⟩)
  ·
    rw [if_neg (by omega)] at D
    refine x_iconst (v := 0) rfl ki_0 ?_
    try rw [show (l2.toInt + 2) = v2.toInt from by omega] at D
    exact jX.sub (jsb_c rfl (jsb_c rfl (jsb_c rfl jsb_n))) (ct_X12_readClause_r125d_200234 hD hQ  l1 l2 v2 g0 g1 g2 g3 g4 h (jr_of rfl (by omega)) (jr_of rfl (by omega)) (jr_mod rfl (by omega)) (jr_of rfl (by omega)) (jr_mod rfl (by omega)) (jr_of rfl (by omega)) (jr_of rfl (by omega)) (jr_of rfl (by omega)) (jr_of rfl (by omega)) (jr_of rfl (by omega)) (by omega) (zy_w C0 (by omega) w1) (by omega) (by omega) (by omega) (jmo w1 rfl z0) (jmo w1 rfl z1) (jmo w1 rfl z2) (jmo w1 rfl z3) (jmo w1 rfl z4) J Sm D)
  ·
    rw [if_pos (by omega)] at D
    refine x_aloadn (x := 125) rfl rfl ?_
    refine x_ldc2 (v := 399) rfl z_12_192 ?_
    refine x_inv (N := m_X12_number) (As := [.long 399]) (b := 125) (st := [.int v2, .ref 147]) (dx9 := 4) (mc := 0) (ms := 0) (host := "") 12 rfl t_X12_number ⟨Or.inl q_12_641, i_X12_number.1, i_X12_number.2⟩ ⟨by decide, rfl⟩ (congrArg Prod.fst (J.1.1 125 (12, 92) rfl)) rfl (by decide) rfl rfl ⟨by decide, by decide⟩ (sf_X12_number_r125d (jr_ofl jkl_399 (by omega)) (wd_w w1 C0.2.2.1) hD J (jmo w1 rfl z0) (jmo w1 rfl z3) (jmo w1 rfl z4) (by omega) (jmo w1 rfl z1) (jmo w1 rfl z4) (jmo w1 rfl z0) (by omega) rfl  (fun v14 h J S4 u5 u6 u7 qu5 qu6 qu7 ru5 u8 u9 u10 qu8 qu9 qu10 ru8 P11 X12 X13 => ?_))
    have ev14 := jfull v14
    have Sm := jSm_tr rfl Sm S4
    try rw [jkl_399] at X12
    try rw [jkl_399] at X13
    try rw [X12] at D
    try rw [X13] at D
    have eu5 := (show 0 ≤ u5.toInt ∧ u5.toInt ≤ 400 from qu5 ▸ jrg_f J sg_125_10_11_1_0_1)
    try rw [vrf qu5] at D
    have eu6 := (show 0 ≤ u6.toInt ∧ u6.toInt ≤ 400 from qu6 ▸ jrg_f J sg_125_8_9_1_0_1)
    try rw [vrf (jmb_w w1 (jmb_c S4 qu6 rfl) rfl)] at D
    have eu7 := (show 0 ≤ u7.toInt ∧ u7.toInt ≤ 400 from qu7 ▸ jrg_f J sg_125_9_10_1_0_1)
    try rw [vrf qu7] at D
    have eu8 := (show 0 ≤ u8.toInt ∧ u8.toInt ≤ 3 from qu8 ▸ jrg_f J sg_125_11_12_1_0_1)
    try rw [vrf qu8] at D
    obtain rfl : u7 = u9 := qu7.symm.trans qu9
    obtain rfl : u5 = u10 := qu5.symm.trans qu10
    show jX m_X12_readClause 9 0 0 230 [(0, .ref 125), (1, .int l1), (2, .int l2)] [.int v14, .int v2, .ref 147] _ 0 0 _
    refine x_goto (tgt := 234) rfl rfl ?_
    try rw [show (l2.toInt + 2) = v2.toInt from by omega] at D
    exact jX.sub (jsb_c rfl (jsb_c rfl (jsb_c rfl jsb_n))) (ct_X12_readClause_r125d_234 hD hQ  l1 l2 v14 v2 u5 u8 g2 u6 u7 h (jr_of rfl (by omega)) (jr_of rfl (by omega)) (jr_mod rfl (by omega)) (jr_of rfl (by omega)) (jr_mod rfl (by omega)) (jr_of rfl (by omega)) (jr_of rfl (by omega)) (jr_of rfl (by omega)) (jr_of rfl (by omega)) (jr_of rfl (by omega)) (by omega) (zy_m (zy_w C0 (by omega) w1) (ke_c S4 rfl rfl rfl rfl rfl P11.1) P11.1.2.2) (nm_4 P11.2 jkl_399) (by omega) (by omega) (by omega) qu5 qu8 (jmc S4 rfl (jmo w1 rfl z2)) qu6 qu7 J Sm D)
set_option maxRecDepth 100000 in
set_option maxHeartbeats 4000000 in
theorem ct_X12_readClause_r125d_163 {Dy : jH → Prop} {h0 : jH} {Q : Option Value → jH → Prop} {dr : jW} (hD : jDk Dy) (hQ : ∀ hx9, jJ jSgM Dy hx9 → jSm fp_X12_readClause_r125d h0 hx9 → ∀ u0 u1 u2 : Int32, jiv hx9 125 10 = u0 → jiv hx9 125 8 = u1 → jiv hx9 125 9 = u2 → (u0.toInt ≤ u1.toInt ∧ u2.toInt ≤ u0.toInt) → ∀ u3 u4 u5 : Int32, jiv hx9 125 11 = u3 → jiv hx9 125 9 = u4 → jiv hx9 125 10 = u5 → (u3.toInt = 0 ∨ u4.toInt + 1 ≤ u5.toInt) → jRk (jnK hx9) h0 hx9 → dr = vw hx9 → Q none hx9) : ∀ (l1 : Int32) (l2 : Int32) (s0 : Int32) (g0 : Int32) (g1 : Int32) (g2 : Int32) (g3 : Int32) (g4 : Int32) (h : jH), 2 ≤ l1.toInt ∧ l1.toInt ≤ 3 → 0 ≤ l2.toInt ∧ l2.toInt ≤ 110 → l2.toInt % 10 = 0 → 1 ≤ s0.toInt ∧ s0.toInt ≤ 111 → s0.toInt % 10 = 1 → 0 ≤ g0.toInt ∧ g0.toInt ≤ 400 → 0 ≤ g1.toInt ∧ g1.toInt ≤ 3 → 0 ≤ g2.toInt ∧ g2.toInt ≤ 11 → 0 ≤ g3.toInt ∧ g3.toInt ≤ 400 → 0 ≤ g4.toInt ∧ g4.toInt ≤ 400 → l1.toInt ≠ 0 → jZy h0 l2 h → s0.toInt = l2.toInt + 1 → (g0.toInt ≤ g3.toInt ∧ g4.toInt ≤ g0.toInt) → (g1.toInt = 0 ∨ g4.toInt + 1 ≤ g0.toInt) → jiv h 125 10 = g0 → jiv h 125 11 = g1 → jiv h 125 47 = g2 → jiv h 125 8 = g3 → jiv h 125 9 = g4 → jJ jSgM Dy h → jSm fp_X12_readClause_r125d h0 h → d_X12_readClause_r125d_163  l1.toInt l2.toInt s0.toInt (vw h) = dr → jX m_X12_readClause 9 0 0 163 [(0, .ref 125), (1, .int l1), (2, .int l2)] [.int s0, .ref 147] h 0 0 Q := by
  intro l1 l2 s0 g0 g1 g2 g3 g4 h y0 y1 y2 y3 y4 y5 y6 y7 y8 y9 y10 C0 y12 y13 y14 z0 z1 z2 z3 z4  J Sm D
  unfold d_X12_readClause_r125d_163 at D
  try rw [vrf z0] at D
  try rw [vrf z1] at D
  try rw [vrf z2] at D
  try rw [vrf z3] at D
  try rw [vrf z4] at D
  refine x_aloadn (x := 125) rfl rfl ?_
  refine x_aloadn (x := 125) rfl rfl ?_
  refine x_inv (N := m_X12_whatAt) (As := []) (b := 125) (st := [.ref 125, .int s0, .ref 147]) (dx9 := 2) (mc := 0) (ms := 0) (host := "") 12 rfl t_X12_whatAt ⟨Or.inl q_12_653, i_X12_whatAt.1, i_X12_whatAt.2⟩ ⟨by decide, rfl⟩ (congrArg Prod.fst (J.1.1 125 (12, 92) rfl)) rfl (by decide) rfl rfl ⟨by decide, by decide⟩ (sf_X12_whatAt_r125d  hD J rfl  (fun v4 h ev4 J S1 X2 X3 => ?_))
  have Sm := jSm_tr rfl Sm S1
  try rw [X2] at D
  try rw [← X3] at D
  show jX m_X12_readClause 9 0 0 168 [(0, .ref 125), (1, .int l1), (2, .int l2)] [.int v4, .ref 125, .int s0, .ref 147] _ 0 0 _
  refine x_inv (N := m_X12_choice) (As := [.int v4]) (b := 125) (st := [.int s0, .ref 147]) (dx9 := 4) (mc := 0) (ms := 0) (host := "") 12 rfl t_X12_choice ⟨Or.inl q_12_650, i_X12_choice.1, i_X12_choice.2⟩ ⟨by decide, rfl⟩ (congrArg Prod.fst (J.1.1 125 (12, 92) rfl)) rfl (by decide) rfl rfl ⟨by decide, by decide⟩ (sf_X12_choice_r125d (jr_of rfl (by omega)) hD J (jmc S1 rfl z0) (jmc S1 rfl z3) (jmc S1 rfl z4) (by omega) (jmc S1 rfl z1) (jmc S1 rfl z4) (jmc S1 rfl z0) (by omega) rfl  (fun v15 h ev15 J S5 u6 u7 u8 qu6 qu7 qu8 ru6 u9 u10 u11 qu9 qu10 qu11 ru9 P12 X13 X14 => ?_))
  have Sm := jSm_tr rfl Sm S5
  try rw [X13] at D
  try rw [X14] at D
  have eu6 := (show 0 ≤ u6.toInt ∧ u6.toInt ≤ 400 from qu6 ▸ jrg_f J sg_125_10_11_1_0_1)
  try rw [vrf qu6] at D
  have eu7 := (show 0 ≤ u7.toInt ∧ u7.toInt ≤ 400 from qu7 ▸ jrg_f J sg_125_8_9_1_0_1)
  try rw [vrf (jmb_c S5 qu7 rfl)] at D
  have eu8 := (show 0 ≤ u8.toInt ∧ u8.toInt ≤ 400 from qu8 ▸ jrg_f J sg_125_9_10_1_0_1)
  try rw [vrf qu8] at D
  have eu9 := (show 0 ≤ u9.toInt ∧ u9.toInt ≤ 3 from qu9 ▸ jrg_f J sg_125_11_12_1_0_1)
  try rw [vrf qu9] at D
  obtain rfl : u8 = u10 := qu8.symm.trans qu10
  obtain rfl : u6 = u11 := qu6.symm.trans qu11
  show jX m_X12_readClause 9 0 0 171 [(0, .ref 125), (1, .int l1), (2, .int l2)] [.int v15, .int s0, .ref 147] _ 0 0 _
  refine x_goto (tgt := 209) rfl rfl ?_
  exact jX.sub (jsb_c rfl (jsb_c rfl (jsb_c rfl jsb_n))) (ct_X12_readClause_r125d_209 hD hQ  l1 l2 v15 s0 u6 u9 g2 u7 u8 h (jr_of rfl (by omega)) (jr_of rfl (by omega)) (jr_mod rfl (by omega)) (jr_of rfl (by omega)) (jr_of rfl (by omega)) (jr_mod rfl (by omega)) (jr_of rfl (by omega)) (jr_of rfl (by omega)) (jr_of rfl (by omega)) (jr_of rfl (by omega)) (jr_of rfl (by omega)) (by omega) (zy_m C0 (ke_t (ke_z S1 rfl rfl rfl rfl rfl rfl rfl) (ke_c S5 rfl rfl rfl rfl rfl P12)) P12.2.2) (by omega) (by omega) (by omega) qu6 qu9 (jmc S5 rfl (jmc S1 rfl z2)) qu7 qu8 J Sm D)
set_option maxRecDepth 100000 in
set_option maxHeartbeats 4000000 in
theorem ct_X12_readClause_r125d_46 {Dy : jH → Prop} {h0 : jH} {Q : Option Value → jH → Prop} {dr : jW} (hD : jDk Dy) (hQ : ∀ hx9, jJ jSgM Dy hx9 → jSm fp_X12_readClause_r125d h0 hx9 → ∀ u0 u1 u2 : Int32, jiv hx9 125 10 = u0 → jiv hx9 125 8 = u1 → jiv hx9 125 9 = u2 → (u0.toInt ≤ u1.toInt ∧ u2.toInt ≤ u0.toInt) → ∀ u3 u4 u5 : Int32, jiv hx9 125 11 = u3 → jiv hx9 125 9 = u4 → jiv hx9 125 10 = u5 → (u3.toInt = 0 ∨ u4.toInt + 1 ≤ u5.toInt) → jRk (jnK hx9) h0 hx9 → dr = vw hx9 → Q none hx9) : ∀ r : Nat, ∀ (l1 : Int32) (l2 : Int32) (l3 : Int32) (g0 : Int32) (g1 : Int32) (g2 : Int32) (g3 : Int32) (g4 : Int32) (h : jH), 10 - l3.toInt < (r : Int) → 0 ≤ l1.toInt ∧ l1.toInt ≤ 8 → 0 ≤ l2.toInt ∧ l2.toInt ≤ 110 → l2.toInt % 10 = 0 → 0 ≤ l3.toInt ∧ l3.toInt ≤ 10 → 0 ≤ g0.toInt ∧ g0.toInt ≤ 400 → 0 ≤ g1.toInt ∧ g1.toInt ≤ 3 → 0 ≤ g2.toInt ∧ g2.toInt ≤ 11 → 0 ≤ g3.toInt ∧ g3.toInt ≤ 400 → 0 ≤ g4.toInt ∧ g4.toInt ≤ 400 → jZz h0 l2 l3 h → (g0.toInt ≤ g3.toInt ∧ g4.toInt ≤ g0.toInt) → (g1.toInt = 0 ∨ g4.toInt + 1 ≤ g0.toInt) → jiv h 125 10 = g0 → jiv h 125 11 = g1 → jiv h 125 47 = g2 → jiv h 125 8 = g3 → jiv h 125 9 = g4 → jJ jSgM Dy h → jSm fp_X12_readClause_r125d h0 h → d_X12_readClause_r125d_46 r l1.toInt l2.toInt l3.toInt (vw h) = dr → jX m_X12_readClause 9 0 0 46 [(0, .ref 125), (1, .int l1), (2, .int l2), (3, .int l3)] [] h 0 0 Q := by
  intro r
  induction r with
  | zero =>
    intro l1 l2 l3 g0 g1 g2 g3 g4 h hm y0 y1 y2 y3 y4 y5 y6 y7 y8 C0 y10 y11 z0 z1 z2 z3 z4  J Sm D
    exfalso
    omega
  | succ r ih =>
    intro l1 l2 l3 g0 g1 g2 g3 g4 h hm y0 y1 y2 y3 y4 y5 y6 y7 y8 C0 y10 y11 z0 z1 z2 z3 z4  J Sm D
    rw [d_X12_readClause_r125d_46.eq_2] at D
    try rw [vrf z0] at D
    try rw [vrf z1] at D
    try rw [vrf z2] at D
    try rw [vrf z3] at D
    try rw [vrf z4] at D
    refine x_iloadn (x := l3) rfl rfl ?_
    refine x_bipush (v := 10) rfl kb_10 ?_
    refine x_icge (tgt := 67) rfl rfl (ti_ge rfl jk_10 ⟨fun c1 => ?_, fun c1 => ?_⟩)
    ·
      rw [if_pos (by omega)] at D
      refine x_aloadn (x := 125) rfl rfl ?_
      refine z_getR (N := 92) (b := 147) 12 48 rfl f_12_96 rfl J rfl 16048 ⟨rfl, rfl⟩ rfl ?_
      refine x_iloadn (x := l2) rfl rfl ?_
      refine x_iloadn (x := l1) rfl rfl ?_
      refine z_iast (N := 120) (l := 0) (u := 120) (w := l1.toInt) rfl hD J Sm rfl rfl rfl (by omega) rfl (wr_147) rfl (fun h w2 J Sm => ?_)
      rw [vww w2 (show l2.toInt = l2.toInt from by omega) (show l1.toInt = l1.toInt from by omega)] at D
      refine x_iloadn (x := l1) rfl rfl ?_
      refine x_ifne (tgt := 130) rfl rfl (ti_ne rfl jk_0 ⟨fun c3 => ?_, fun c3 => ?_⟩)
      ·
        rw [if_neg (by omega)] at D
        refine x_aloadn (x := 125) rfl rfl ?_
        refine z_getR (N := 92) (b := 147) 12 48 rfl f_12_96 rfl J rfl 16048 ⟨rfl, rfl⟩ rfl ?_
        refine x_iloadn (x := l2) rfl rfl ?_
        refine x_iconst (v := 1) rfl ki_1 ?_
        refine z_iadd rfl rfl jk_1 (by omega) (fun v4 ev4 => ?_)
        refine x_iloadn (x := l1) rfl rfl ?_
        refine x_iconst (v := 1) rfl ki_1 ?_
        refine x_icne (tgt := 153) rfl rfl (ti_ne rfl jk_1 ⟨fun c5 => ?_, fun c5 => ?_⟩)
        ·
          rw [if_neg (by omega)] at D
          refine x_iloadn (x := l1) rfl rfl ?_
          refine x_iconst (v := 2) rfl ki_2 ?_
          refine x_iceq (tgt := 163) rfl rfl (ti_eq rfl jk_2 ⟨fun c6 => ?_, fun c6 => ?_⟩)
          ·
            rw [if_pos (by omega)] at D
            try rw [show (l2.toInt + 1) = v4.toInt from by omega] at D
            exact jX.sub (jsb_c rfl (jsb_c rfl (jsb_c rfl jsb_n))) (ct_X12_readClause_r125d_163 hD hQ  l1 l2 v4 g0 g1 g2 g3 g4 h (jr_of rfl (by omega)) (jr_of rfl (by omega)) (jr_mod rfl (by omega)) (jr_of rfl (by omega)) (jr_mod rfl (by omega)) (jr_of rfl (by omega)) (jr_of rfl (by omega)) (jr_of rfl (by omega)) (jr_of rfl (by omega)) (jr_of rfl (by omega)) (by omega) (zy_0 C0 (by omega) w2 (by omega)) (by omega) (by omega) (by omega) (jmo w2 rfl z0) (jmo w2 rfl z1) (jmo w2 rfl z2) (jmo w2 rfl z3) (jmo w2 rfl z4) J Sm D)
          ·
            rw [if_neg (by omega)] at D
            refine x_iloadn (x := l1) rfl rfl ?_
            refine x_iconst (v := 3) rfl ki_3 ?_
            refine x_icne (tgt := 174) rfl rfl (ti_ne rfl jk_3 ⟨fun c7 => ?_, fun c7 => ?_⟩)
            ·
              rw [if_neg (by omega)] at D
              refine x_iloadn (x := l1) rfl rfl ?_
              refine x_bipush (v := 6) rfl kb_6 ?_
              refine x_icne (tgt := 191) rfl rfl (ti_ne rfl jk_6 ⟨fun c8 => ?_, fun c8 => ?_⟩)
              ·
                rw [if_neg (by omega)] at D
                refine x_iloadn (x := l1) rfl rfl ?_
                refine x_bipush (v := 7) rfl kb_7 ?_
                refine x_icne (tgt := 208) rfl rfl (ti_ne rfl jk_7 ⟨fun c9 => ?_, fun c9 => ?_⟩)
                ·
                  rw [if_neg (by omega)] at D
                  refine x_iconst (v := 0) rfl ki_0 ?_
                  try rw [show (l2.toInt + 1) = v4.toInt from by omega] at D
                  exact jX.sub (jsb_c rfl (jsb_c rfl (jsb_c rfl jsb_n))) (ct_X12_readClause_r125d_200209 hD hQ  l1 l2 v4 g0 g1 g2 g3 g4 h (jr_of rfl (by omega)) (jr_of rfl (by omega)) (jr_mod rfl (by omega)) (jr_of rfl (by omega)) (jr_mod rfl (by omega)) (jr_of rfl (by omega)) (jr_of rfl (by omega)) (jr_of rfl (by omega)) (jr_of rfl (by omega)) (jr_of rfl (by omega)) (by omega) (zy_0 C0 (by omega) w2 (by omega)) (by omega) (by omega) (by omega) (jmo w2 rfl z0) (jmo w2 rfl z1) (jmo w2 rfl z2) (jmo w2 rfl z3) (jmo w2 rfl z4) J Sm D)
                ·
                  rw [if_pos (by omega)] at D
                  refine x_aloadn (x := 125) rfl rfl ?_
                  refine x_aloadn (x := 125) rfl rfl ?_
                  refine x_inv (N := m_X12_feeAt) (As := []) (b := 125) (st := [.ref 125, .int v4, .ref 147]) (dx9 := 2) (mc := 0) (ms := 0) (host := "") 12 rfl t_X12_feeAt ⟨Or.inl q_12_659, i_X12_feeAt.1, i_X12_feeAt.2⟩ ⟨by decide, rfl⟩ (congrArg Prod.fst (J.1.1 125 (12, 92) rfl)) rfl (by decide) rfl rfl ⟨by decide, by decide⟩ (sf_X12_feeAt_r125d  hD J rfl  (fun v13 h ev13 J S10 X11 X12 => ?_))
                  have Sm := jSm_tr rfl Sm S10
                  try rw [X11] at D
                  try rw [← X12] at D
                  show jX m_X12_readClause 9 0 0 202 [(0, .ref 125), (1, .int l1), (2, .int l2), (3, .int l3)] [.int v13, .ref 125, .int v4, .ref 147] _ 0 0 _
                  refine x_inv (N := m_X12_choice) (As := [.int v13]) (b := 125) (st := [.int v4, .ref 147]) (dx9 := 4) (mc := 0) (ms := 0) (host := "") 12 rfl t_X12_choice ⟨Or.inl q_12_650, i_X12_choice.1, i_X12_choice.2⟩ ⟨by decide, rfl⟩ (congrArg Prod.fst (J.1.1 125 (12, 92) rfl)) rfl (by decide) rfl rfl ⟨by decide, by decide⟩ (sf_X12_choice_r125d (jr_of rfl (by omega)) hD J (jmc S10 rfl (jmo w2 rfl z0)) (jmc S10 rfl (jmo w2 rfl z3)) (jmc S10 rfl (jmo w2 rfl z4)) (by omega) (jmc S10 rfl (jmo w2 rfl z1)) (jmc S10 rfl (jmo w2 rfl z4)) (jmc S10 rfl (jmo w2 rfl z0)) (by omega) rfl  (fun v24 h ev24 J S14 u15 u16 u17 qu15 qu16 qu17 ru15 u18 u19 u20 qu18 qu19 qu20 ru18 P21 X22 X23 => ?_))
                  have Sm := jSm_tr rfl Sm S14
                  try rw [X22] at D
                  try rw [X23] at D
                  have eu15 := (show 0 ≤ u15.toInt ∧ u15.toInt ≤ 400 from qu15 ▸ jrg_f J sg_125_10_11_1_0_1)
                  try rw [vrf qu15] at D
                  have eu16 := (show 0 ≤ u16.toInt ∧ u16.toInt ≤ 400 from qu16 ▸ jrg_f J sg_125_8_9_1_0_1)
                  try rw [vrf (jmb_w w2 (jmb_c S10 (jmb_c S14 qu16 rfl) rfl) rfl)] at D
                  have eu17 := (show 0 ≤ u17.toInt ∧ u17.toInt ≤ 400 from qu17 ▸ jrg_f J sg_125_9_10_1_0_1)
                  try rw [vrf qu17] at D
                  have eu18 := (show 0 ≤ u18.toInt ∧ u18.toInt ≤ 3 from qu18 ▸ jrg_f J sg_125_11_12_1_0_1)
                  try rw [vrf qu18] at D
                  obtain rfl : u17 = u19 := qu17.symm.trans qu19
                  obtain rfl : u15 = u20 := qu15.symm.trans qu20
                  show jX m_X12_readClause 9 0 0 205 [(0, .ref 125), (1, .int l1), (2, .int l2), (3, .int l3)] [.int v24, .int v4, .ref 147] _ 0 0 _
                  refine x_goto (tgt := 209) rfl rfl ?_
                  try rw [show (l2.toInt + 1) = v4.toInt from by omega] at D
                  exact jX.sub (jsb_c rfl (jsb_c rfl (jsb_c rfl jsb_n))) (ct_X12_readClause_r125d_209 hD hQ  l1 l2 v24 v4 u15 u18 g2 u16 u17 h (jr_of rfl (by omega)) (jr_of rfl (by omega)) (jr_mod rfl (by omega)) (jr_of rfl (by omega)) (jr_of rfl (by omega)) (jr_mod rfl (by omega)) (jr_of rfl (by omega)) (jr_of rfl (by omega)) (jr_of rfl (by omega)) (jr_of rfl (by omega)) (jr_of rfl (by omega)) (by omega) (zy_m (zy_0 C0 (by omega) w2 (by omega)) (ke_t (ke_z S10 rfl rfl rfl rfl rfl rfl rfl) (ke_c S14 rfl rfl rfl rfl rfl P21)) P21.2.2) (by omega) (by omega) (by omega) qu15 qu18 (jmc S14 rfl (jmc S10 rfl (jmo w2 rfl z2))) qu16 qu17 J Sm D)
              ·
                rw [if_pos (by omega)] at D
                refine x_aloadn (x := 125) rfl rfl ?_
                refine x_aloadn (x := 125) rfl rfl ?_
                refine x_inv (N := m_X12_officeAt) (As := []) (b := 125) (st := [.ref 125, .int v4, .ref 147]) (dx9 := 2) (mc := 0) (ms := 0) (host := "") 12 rfl t_X12_officeAt ⟨Or.inl q_12_656, i_X12_officeAt.1, i_X12_officeAt.2⟩ ⟨by decide, rfl⟩ (congrArg Prod.fst (J.1.1 125 (12, 92) rfl)) rfl (by decide) rfl rfl ⟨by decide, by decide⟩ (sf_X12_officeAt_r125d  hD J rfl  (fun v28 h ev28 J S25 X26 X27 => ?_))
                have Sm := jSm_tr rfl Sm S25
                try rw [X26] at D
                try rw [← X27] at D
                show jX m_X12_readClause 9 0 0 185 [(0, .ref 125), (1, .int l1), (2, .int l2), (3, .int l3)] [.int v28, .ref 125, .int v4, .ref 147] _ 0 0 _
                refine x_inv (N := m_X12_choice) (As := [.int v28]) (b := 125) (st := [.int v4, .ref 147]) (dx9 := 4) (mc := 0) (ms := 0) (host := "") 12 rfl t_X12_choice ⟨Or.inl q_12_650, i_X12_choice.1, i_X12_choice.2⟩ ⟨by decide, rfl⟩ (congrArg Prod.fst (J.1.1 125 (12, 92) rfl)) rfl (by decide) rfl rfl ⟨by decide, by decide⟩ (sf_X12_choice_r125d (jr_of rfl (by omega)) hD J (jmc S25 rfl (jmo w2 rfl z0)) (jmc S25 rfl (jmo w2 rfl z3)) (jmc S25 rfl (jmo w2 rfl z4)) (by omega) (jmc S25 rfl (jmo w2 rfl z1)) (jmc S25 rfl (jmo w2 rfl z4)) (jmc S25 rfl (jmo w2 rfl z0)) (by omega) rfl  (fun v39 h ev39 J S29 u30 u31 u32 qu30 qu31 qu32 ru30 u33 u34 u35 qu33 qu34 qu35 ru33 P36 X37 X38 => ?_))
                have Sm := jSm_tr rfl Sm S29
                try rw [X37] at D
                try rw [X38] at D
                have eu30 := (show 0 ≤ u30.toInt ∧ u30.toInt ≤ 400 from qu30 ▸ jrg_f J sg_125_10_11_1_0_1)
                try rw [vrf qu30] at D
                have eu31 := (show 0 ≤ u31.toInt ∧ u31.toInt ≤ 400 from qu31 ▸ jrg_f J sg_125_8_9_1_0_1)
                try rw [vrf (jmb_w w2 (jmb_c S25 (jmb_c S29 qu31 rfl) rfl) rfl)] at D
                have eu32 := (show 0 ≤ u32.toInt ∧ u32.toInt ≤ 400 from qu32 ▸ jrg_f J sg_125_9_10_1_0_1)
                try rw [vrf qu32] at D
                have eu33 := (show 0 ≤ u33.toInt ∧ u33.toInt ≤ 3 from qu33 ▸ jrg_f J sg_125_11_12_1_0_1)
                try rw [vrf qu33] at D
                obtain rfl : u32 = u34 := qu32.symm.trans qu34
                obtain rfl : u30 = u35 := qu30.symm.trans qu35
                show jX m_X12_readClause 9 0 0 188 [(0, .ref 125), (1, .int l1), (2, .int l2), (3, .int l3)] [.int v39, .int v4, .ref 147] _ 0 0 _
                refine x_goto (tgt := 209) rfl rfl ?_
                try rw [show (l2.toInt + 1) = v4.toInt from by omega] at D
                exact jX.sub (jsb_c rfl (jsb_c rfl (jsb_c rfl jsb_n))) (ct_X12_readClause_r125d_209 hD hQ  l1 l2 v39 v4 u30 u33 g2 u31 u32 h (jr_of rfl (by omega)) (jr_of rfl (by omega)) (jr_mod rfl (by omega)) (jr_of rfl (by omega)) (jr_of rfl (by omega)) (jr_mod rfl (by omega)) (jr_of rfl (by omega)) (jr_of rfl (by omega)) (jr_of rfl (by omega)) (jr_of rfl (by omega)) (jr_of rfl (by omega)) (by omega) (zy_m (zy_0 C0 (by omega) w2 (by omega)) (ke_t (ke_z S25 rfl rfl rfl rfl rfl rfl rfl) (ke_c S29 rfl rfl rfl rfl rfl P36)) P36.2.2) (by omega) (by omega) (by omega) qu30 qu33 (jmc S29 rfl (jmc S25 rfl (jmo w2 rfl z2))) qu31 qu32 J Sm D)
            ·
              rw [if_pos (by omega)] at D
              try rw [show (l2.toInt + 1) = v4.toInt from by omega] at D
              exact jX.sub (jsb_c rfl (jsb_c rfl (jsb_c rfl jsb_n))) (ct_X12_readClause_r125d_163 hD hQ  l1 l2 v4 g0 g1 g2 g3 g4 h (jr_of rfl (by omega)) (jr_of rfl (by omega)) (jr_mod rfl (by omega)) (jr_of rfl (by omega)) (jr_mod rfl (by omega)) (jr_of rfl (by omega)) (jr_of rfl (by omega)) (jr_of rfl (by omega)) (jr_of rfl (by omega)) (jr_of rfl (by omega)) (by omega) (zy_0 C0 (by omega) w2 (by omega)) (by omega) (by omega) (by omega) (jmo w2 rfl z0) (jmo w2 rfl z1) (jmo w2 rfl z2) (jmo w2 rfl z3) (jmo w2 rfl z4) J Sm D)
        ·
          rw [if_pos (by omega)] at D
          refine x_aloadn (x := 125) rfl rfl ?_
          refine x_aloadn (x := 125) rfl rfl ?_
          refine x_inv (N := m_X12_groundAt) (As := []) (b := 125) (st := [.ref 125, .int v4, .ref 147]) (dx9 := 2) (mc := 0) (ms := 0) (host := "") 12 rfl t_X12_groundAt ⟨Or.inl q_12_647, i_X12_groundAt.1, i_X12_groundAt.2⟩ ⟨by decide, rfl⟩ (congrArg Prod.fst (J.1.1 125 (12, 92) rfl)) rfl (by decide) rfl rfl ⟨by decide, by decide⟩ (sf_X12_groundAt_r125d  hD J rfl  (fun v43 h ev43 J S40 X41 X42 => ?_))
          have Sm := jSm_tr rfl Sm S40
          try rw [X41] at D
          try rw [← X42] at D
          show jX m_X12_readClause 9 0 0 147 [(0, .ref 125), (1, .int l1), (2, .int l2), (3, .int l3)] [.int v43, .ref 125, .int v4, .ref 147] _ 0 0 _
          refine x_inv (N := m_X12_choice) (As := [.int v43]) (b := 125) (st := [.int v4, .ref 147]) (dx9 := 4) (mc := 0) (ms := 0) (host := "") 12 rfl t_X12_choice ⟨Or.inl q_12_650, i_X12_choice.1, i_X12_choice.2⟩ ⟨by decide, rfl⟩ (congrArg Prod.fst (J.1.1 125 (12, 92) rfl)) rfl (by decide) rfl rfl ⟨by decide, by decide⟩ (sf_X12_choice_r125d (jr_of rfl (by omega)) hD J (jmc S40 rfl (jmo w2 rfl z0)) (jmc S40 rfl (jmo w2 rfl z3)) (jmc S40 rfl (jmo w2 rfl z4)) (by omega) (jmc S40 rfl (jmo w2 rfl z1)) (jmc S40 rfl (jmo w2 rfl z4)) (jmc S40 rfl (jmo w2 rfl z0)) (by omega) rfl  (fun v54 h ev54 J S44 u45 u46 u47 qu45 qu46 qu47 ru45 u48 u49 u50 qu48 qu49 qu50 ru48 P51 X52 X53 => ?_))
          have Sm := jSm_tr rfl Sm S44
          try rw [X52] at D
          try rw [X53] at D
          have eu45 := (show 0 ≤ u45.toInt ∧ u45.toInt ≤ 400 from qu45 ▸ jrg_f J sg_125_10_11_1_0_1)
          try rw [vrf qu45] at D
          have eu46 := (show 0 ≤ u46.toInt ∧ u46.toInt ≤ 400 from qu46 ▸ jrg_f J sg_125_8_9_1_0_1)
          try rw [vrf (jmb_w w2 (jmb_c S40 (jmb_c S44 qu46 rfl) rfl) rfl)] at D
          have eu47 := (show 0 ≤ u47.toInt ∧ u47.toInt ≤ 400 from qu47 ▸ jrg_f J sg_125_9_10_1_0_1)
          try rw [vrf qu47] at D
          have eu48 := (show 0 ≤ u48.toInt ∧ u48.toInt ≤ 3 from qu48 ▸ jrg_f J sg_125_11_12_1_0_1)
          try rw [vrf qu48] at D
          obtain rfl : u47 = u49 := qu47.symm.trans qu49
          obtain rfl : u45 = u50 := qu45.symm.trans qu50
          show jX m_X12_readClause 9 0 0 150 [(0, .ref 125), (1, .int l1), (2, .int l2), (3, .int l3)] [.int v54, .int v4, .ref 147] _ 0 0 _
          refine x_goto (tgt := 209) rfl rfl ?_
          try rw [show (l2.toInt + 1) = v4.toInt from by omega] at D
          exact jX.sub (jsb_c rfl (jsb_c rfl (jsb_c rfl jsb_n))) (ct_X12_readClause_r125d_209 hD hQ  l1 l2 v54 v4 u45 u48 g2 u46 u47 h (jr_of rfl (by omega)) (jr_of rfl (by omega)) (jr_mod rfl (by omega)) (jr_of rfl (by omega)) (jr_of rfl (by omega)) (jr_mod rfl (by omega)) (jr_of rfl (by omega)) (jr_of rfl (by omega)) (jr_of rfl (by omega)) (jr_of rfl (by omega)) (jr_of rfl (by omega)) (by omega) (zy_m (zy_0 C0 (by omega) w2 (by omega)) (ke_t (ke_z S40 rfl rfl rfl rfl rfl rfl rfl) (ke_c S44 rfl rfl rfl rfl rfl P51)) P51.2.2) (by omega) (by omega) (by omega) qu45 qu48 (jmc S44 rfl (jmc S40 rfl (jmo w2 rfl z2))) qu46 qu47 J Sm D)
      ·
        rw [if_pos (by omega)] at D
        refine x_aloadn (x := 125) rfl rfl ?_
        refine z_getR (N := 92) (b := 147) 12 48 rfl f_12_96 rfl J rfl 16048 ⟨rfl, rfl⟩ rfl ?_
        refine x_iloadn (x := l2) rfl rfl ?_
        refine x_iconst (v := 2) rfl ki_2 ?_
        refine z_iadd rfl rfl jk_2 (by omega) (fun v55 ev55 => ?_)
        refine x_aloadn (x := 125) rfl rfl ?_
        refine x_ldc2 (v := 29) rfl z_12_639 ?_
        refine x_inv (N := m_X12_number) (As := [.long 29]) (b := 125) (st := [.int v55, .ref 147]) (dx9 := 4) (mc := 0) (ms := 0) (host := "") 12 rfl t_X12_number ⟨Or.inl q_12_641, i_X12_number.1, i_X12_number.2⟩ ⟨by decide, rfl⟩ (congrArg Prod.fst (J.1.1 125 (12, 92) rfl)) rfl (by decide) rfl rfl ⟨by decide, by decide⟩ (sf_X12_number_r125d (jr_ofl jkl_29 (by omega)) (wd_w w2 C0.2.2.1) hD J (jmo w2 rfl z0) (jmo w2 rfl z3) (jmo w2 rfl z4) (by omega) (jmo w2 rfl z1) (jmo w2 rfl z4) (jmo w2 rfl z0) (by omega) rfl  (fun v66 h J S56 u57 u58 u59 qu57 qu58 qu59 ru57 u60 u61 u62 qu60 qu61 qu62 ru60 P63 X64 X65 => ?_))
        have ev66 := jfull v66
        have Sm := jSm_tr rfl Sm S56
        try rw [jkl_29] at X64
        try rw [jkl_29] at X65
        try rw [X64] at D
        try rw [X65] at D
        have eu57 := (show 0 ≤ u57.toInt ∧ u57.toInt ≤ 400 from qu57 ▸ jrg_f J sg_125_10_11_1_0_1)
        try rw [vrf qu57] at D
        have eu58 := (show 0 ≤ u58.toInt ∧ u58.toInt ≤ 400 from qu58 ▸ jrg_f J sg_125_8_9_1_0_1)
        try rw [vrf (jmb_w w2 (jmb_c S56 qu58 rfl) rfl)] at D
        have eu59 := (show 0 ≤ u59.toInt ∧ u59.toInt ≤ 400 from qu59 ▸ jrg_f J sg_125_9_10_1_0_1)
        try rw [vrf qu59] at D
        have eu60 := (show 0 ≤ u60.toInt ∧ u60.toInt ≤ 3 from qu60 ▸ jrg_f J sg_125_11_12_1_0_1)
        try rw [vrf qu60] at D
        obtain rfl : u59 = u61 := qu59.symm.trans qu61
        obtain rfl : u57 = u62 := qu57.symm.trans qu62
        show jX m_X12_readClause 9 0 0 92 [(0, .ref 125), (1, .int l1), (2, .int l2), (3, .int l3)] [.int v66, .int v55, .ref 147] _ 0 0 _
        refine z_iast (N := 120) (l := 0) (u := 120) (w := v66.toInt) rfl hD J Sm rfl rfl rfl (by omega) rfl (wr_147) rfl (fun h w67 J Sm => ?_)
        rw [vww w67 (show (l2.toInt + 2) = v55.toInt from by omega) (show v66.toInt = v66.toInt from by omega)] at D
        refine x_aloadn (x := 125) rfl rfl ?_
        refine x_aloadn (x := 125) rfl rfl ?_
        refine x_ldc2 (v := 113301093) rfl z_12_645 ?_
        refine x_inv (N := m_X12_isWord) (As := [.long 113301093]) (b := 125) (st := [.ref 125]) (dx9 := 8) (mc := 0) (ms := 0) (host := "") 12 rfl t_X12_isWord ⟨Or.inl q_12_511, i_X12_isWord.1, i_X12_isWord.2⟩ ⟨by decide, rfl⟩ (congrArg Prod.fst (J.1.1 125 (12, 92) rfl)) rfl (by decide) rfl rfl ⟨by decide, by decide⟩ (jC.of rfl k_X12_isWord rfl ?_)
        show jX m_X12_isWord 8 0 0 0 [(0, .ref 125), (1, .long 113301093)] [] _ 0 0 _
        refine x_aloadn (x := 125) rfl rfl ?_
        refine z_getM (N := 92) (v := u60) 12 11 rfl f_12_235 rfl J rfl (jmo w67 rfl qu60) ?_
        refine x_iconst (v := 1) rfl ki_1 ?_
        refine x_icne (tgt := 21) rfl rfl (ti_ne rfl jk_1 ⟨fun c68 => ?_, fun c68 => ?_⟩)
        ·
          rw [if_neg (by omega)] at D
          refine x_iconst (v := 0) rfl ki_0 ?_
          refine x_zret rfl rfl (by decide) ?_
          show jX m_X12_readClause 9 0 0 101 [(0, .ref 125), (1, .int l1), (2, .int l2), (3, .int l3)] [.int 0, .ref 125] _ 0 0 _
          refine x_inv (N := m_X12_must) (As := [.int 0]) (b := 125) (st := []) (dx9 := 3) (mc := 0) (ms := 0) (host := "") 12 rfl t_X12_must ⟨Or.inl q_12_250, i_X12_must.1, i_X12_must.2⟩ ⟨by decide, rfl⟩ (congrArg Prod.fst (J.1.1 125 (12, 92) rfl)) rfl (by decide) rfl rfl ⟨by decide, by decide⟩ (sf_X12_must_r125d (jr_of jk_0 (by omega)) hD J (jmo w67 rfl qu57) (jmo w67 rfl qu58) (jmo w67 rfl qu59) (by omega) (jmo w67 rfl qu60) (jmo w67 rfl qu59) (jmo w67 rfl qu57) (by omega) rfl  (fun h J S69 u70 u71 u72 qu70 qu71 qu72 ru70 u73 u74 u75 qu73 qu74 qu75 ru73 P76 X77 => ?_))
          have Sm := jSm_tr rfl Sm S69
          try rw [jk_0] at X77
          rw [X77] at D
          have eu70 := (show 0 ≤ u70.toInt ∧ u70.toInt ≤ 400 from qu70 ▸ jrg_f J sg_125_10_11_1_0_1)
          try rw [vrf qu70] at D
          have eu71 := (show 0 ≤ u71.toInt ∧ u71.toInt ≤ 400 from qu71 ▸ jrg_f J sg_125_8_9_1_0_1)
          try have kqu71 : u58.toInt = u71.toInt := ((vrf (jmb_w w2 (jmb_c S56 qu58 rfl) rfl)).symm.trans (vrf (jmb_w w2 (jmb_c S56 (jmb_w w67 (jmb_c S69 qu71 rfl) rfl) rfl) rfl)))
          try rw [kqu71] at D
          try rw [vrf (jmb_w w2 (jmb_c S56 (jmb_w w67 (jmb_c S69 qu71 rfl) rfl) rfl) rfl)] at D
          have eu72 := (show 0 ≤ u72.toInt ∧ u72.toInt ≤ 400 from qu72 ▸ jrg_f J sg_125_9_10_1_0_1)
          try rw [vrf qu72] at D
          have eu73 := (show 0 ≤ u73.toInt ∧ u73.toInt ≤ 3 from qu73 ▸ jrg_f J sg_125_11_12_1_0_1)
          try rw [vrf qu73] at D
          obtain rfl : u72 = u74 := qu72.symm.trans qu74
          obtain rfl : u70 = u75 := qu70.symm.trans qu75
          show jX m_X12_readClause 9 0 0 104 [(0, .ref 125), (1, .int l1), (2, .int l2), (3, .int l3)] [] _ 0 0 _
          refine x_aloadn (x := 125) rfl rfl ?_
          refine z_getR (N := 92) (b := 147) 12 48 rfl f_12_96 rfl J rfl 16048 ⟨rfl, rfl⟩ rfl ?_
          refine x_iloadn (x := l2) rfl rfl ?_
          refine x_iconst (v := 3) rfl ki_3 ?_
          refine z_iadd rfl rfl jk_3 (by omega) (fun v78 ev78 => ?_)
          refine x_aloadn (x := 125) rfl rfl ?_
          refine x_ldc2 (v := 11) rfl z_12_267 ?_
          refine x_inv (N := m_X12_number) (As := [.long 11]) (b := 125) (st := [.int v78, .ref 147]) (dx9 := 4) (mc := 0) (ms := 0) (host := "") 12 rfl t_X12_number ⟨Or.inl q_12_641, i_X12_number.1, i_X12_number.2⟩ ⟨by decide, rfl⟩ (congrArg Prod.fst (J.1.1 125 (12, 92) rfl)) rfl (by decide) rfl rfl ⟨by decide, by decide⟩ (sf_X12_number_r125d (jr_ofl jkl_11 (by omega)) P76.1.2.2 hD J qu70 qu71 qu72 (by omega) qu73 qu72 qu70 (by omega) rfl  (fun v89 h J S79 u80 u81 u82 qu80 qu81 qu82 ru80 u83 u84 u85 qu83 qu84 qu85 ru83 P86 X87 X88 => ?_))
          have ev89 := jfull v89
          have Sm := jSm_tr rfl Sm S79
          try rw [jkl_11] at X87
          try rw [jkl_11] at X88
          try rw [X87] at D
          try rw [X88] at D
          have eu80 := (show 0 ≤ u80.toInt ∧ u80.toInt ≤ 400 from qu80 ▸ jrg_f J sg_125_10_11_1_0_1)
          try rw [vrf qu80] at D
          have eu81 := (show 0 ≤ u81.toInt ∧ u81.toInt ≤ 400 from qu81 ▸ jrg_f J sg_125_8_9_1_0_1)
          try have kqu81 : u71.toInt = u81.toInt := ((vrf (jmb_w w2 (jmb_c S56 (jmb_w w67 (jmb_c S69 qu71 rfl) rfl) rfl) rfl)).symm.trans (vrf (jmb_w w2 (jmb_c S56 (jmb_w w67 (jmb_c S69 (jmb_c S79 qu81 rfl) rfl) rfl) rfl) rfl)))
          try rw [kqu81] at D
          try rw [vrf (jmb_w w2 (jmb_c S56 (jmb_w w67 (jmb_c S69 (jmb_c S79 qu81 rfl) rfl) rfl) rfl) rfl)] at D
          have eu82 := (show 0 ≤ u82.toInt ∧ u82.toInt ≤ 400 from qu82 ▸ jrg_f J sg_125_9_10_1_0_1)
          try rw [vrf qu82] at D
          have eu83 := (show 0 ≤ u83.toInt ∧ u83.toInt ≤ 3 from qu83 ▸ jrg_f J sg_125_11_12_1_0_1)
          try rw [vrf qu83] at D
          obtain rfl : u82 = u84 := qu82.symm.trans qu84
          obtain rfl : u80 = u85 := qu80.symm.trans qu85
          show jX m_X12_readClause 9 0 0 118 [(0, .ref 125), (1, .int l1), (2, .int l2), (3, .int l3)] [.int v89, .int v78, .ref 147] _ 0 0 _
          refine z_iast (N := 120) (l := 0) (u := 120) (w := v89.toInt) rfl hD J Sm rfl rfl rfl (by omega) rfl (wr_147) rfl (fun h w90 J Sm => ?_)
          rw [vww w90 (show (l2.toInt + 3) = v78.toInt from by omega) (show v89.toInt = v89.toInt from by omega)] at D
          refine x_aloadn (x := 125) rfl rfl ?_
          refine x_dup rfl rfl ?_
          refine z_getM (N := 92) (v := g2) 12 47 rfl f_12_636 rfl J rfl (jmo w90 rfl (jmc S79 rfl (jmc S69 rfl (jmo w67 rfl (jmc S56 rfl (jmo w2 rfl z2)))))) ?_
          refine x_iconst (v := 1) rfl ki_1 ?_
          refine z_iadd rfl rfl jk_1 (by omega) (fun v91 ev91 => ?_)
          refine z_putI (N := 92) (w := v91.toInt) 12 47 rfl f_12_636 rfl (jfin_no TX12 RX12 92 rfl rfl) hD J Sm rfl rfl rfl (pw_125_47 (by omega)) rfl (fun h w92 J Sm => ?_)
          rw [vwf w92 (show (g2.toInt + 1) = v91.toInt from by omega)] at D
          refine x_vret rfl rfl ?_
          exact hQ _ J Sm _ _ _ (jmo w92 rfl (jmo w90 rfl qu80)) (jmo w92 rfl (jmo w90 rfl qu81)) (jmo w92 rfl (jmo w90 rfl qu82)) (by omega) _ _ _ (jmo w92 rfl (jmo w90 rfl qu83)) (jmo w92 rfl (jmo w90 rfl qu82)) (jmo w92 rfl (jmo w90 rfl qu80)) (by omega) (rk_e (zs_l (zs_m (zs_0 (zz_m (zz_k C0 w2 (jcl_e (by rw [jk_0]; omega))) (ke_c S56 rfl rfl rfl rfl rfl P63.1) P63.1.2.2) (by omega) (by omega) w67 (nm_4 P63.2 jkl_29)) (ke_t (ke_c S69 rfl rfl rfl rfl rfl P76.1) (ke_c S79 rfl rfl rfl rfl rfl P86.1))) (by omega) w90 (nm_4 P86.2 jkl_11)) (jmo w90 rfl (jmc S79 rfl (jmc S69 rfl (jmo w67 rfl (jmc S56 rfl (jmo w2 rfl z2)))))) w92 (by omega)) D.symm
        ·
          rw [if_pos (by omega)] at D
          refine x_aloadn (x := 125) rfl rfl ?_
          refine z_getLQ (N := 92) 12 12 rfl f_12_224 rfl J rfl (fun v93 qv93 => ?_)
          have ev93 := jfullL v93
          try rw [vrfL qv93] at D
          refine x_lloadn (x := 113301093) rfl rfl ?_
          refine z_lcmp rfl rfl jkl_113301093 (fun v94 ev94 => ?_)
          refine x_ifne (tgt := 21) rfl rfl (ti_ne rfl jk_0 ⟨fun c95 => ?_, fun c95 => ?_⟩)
          ·
            rw [if_neg (by omega)] at D
            refine x_iconst (v := 0) rfl ki_0 ?_
            refine x_zret rfl rfl (by decide) ?_
            show jX m_X12_readClause 9 0 0 101 [(0, .ref 125), (1, .int l1), (2, .int l2), (3, .int l3)] [.int 0, .ref 125] _ 0 0 _
            refine x_inv (N := m_X12_must) (As := [.int 0]) (b := 125) (st := []) (dx9 := 3) (mc := 0) (ms := 0) (host := "") 12 rfl t_X12_must ⟨Or.inl q_12_250, i_X12_must.1, i_X12_must.2⟩ ⟨by decide, rfl⟩ (congrArg Prod.fst (J.1.1 125 (12, 92) rfl)) rfl (by decide) rfl rfl ⟨by decide, by decide⟩ (sf_X12_must_r125d (jr_of jk_0 (by omega)) hD J (jmo w67 rfl qu57) (jmo w67 rfl qu58) (jmo w67 rfl qu59) (by omega) (jmo w67 rfl qu60) (jmo w67 rfl qu59) (jmo w67 rfl qu57) (by omega) rfl  (fun h J S96 u97 u98 u99 qu97 qu98 qu99 ru97 u100 u101 u102 qu100 qu101 qu102 ru100 P103 X104 => ?_))
            have Sm := jSm_tr rfl Sm S96
            try rw [jk_0] at X104
            rw [X104] at D
            have eu97 := (show 0 ≤ u97.toInt ∧ u97.toInt ≤ 400 from qu97 ▸ jrg_f J sg_125_10_11_1_0_1)
            try rw [vrf qu97] at D
            have eu98 := (show 0 ≤ u98.toInt ∧ u98.toInt ≤ 400 from qu98 ▸ jrg_f J sg_125_8_9_1_0_1)
            try have kqu98 : u58.toInt = u98.toInt := ((vrf (jmb_w w2 (jmb_c S56 qu58 rfl) rfl)).symm.trans (vrf (jmb_w w2 (jmb_c S56 (jmb_w w67 (jmb_c S96 qu98 rfl) rfl) rfl) rfl)))
            try rw [kqu98] at D
            try rw [vrf (jmb_w w2 (jmb_c S56 (jmb_w w67 (jmb_c S96 qu98 rfl) rfl) rfl) rfl)] at D
            have eu99 := (show 0 ≤ u99.toInt ∧ u99.toInt ≤ 400 from qu99 ▸ jrg_f J sg_125_9_10_1_0_1)
            try rw [vrf qu99] at D
            have eu100 := (show 0 ≤ u100.toInt ∧ u100.toInt ≤ 3 from qu100 ▸ jrg_f J sg_125_11_12_1_0_1)
            try rw [vrf qu100] at D
            obtain rfl : u99 = u101 := qu99.symm.trans qu101
            obtain rfl : u97 = u102 := qu97.symm.trans qu102
            show jX m_X12_readClause 9 0 0 104 [(0, .ref 125), (1, .int l1), (2, .int l2), (3, .int l3)] [] _ 0 0 _
            refine x_aloadn (x := 125) rfl rfl ?_
            refine z_getR (N := 92) (b := 147) 12 48 rfl f_12_96 rfl J rfl 16048 ⟨rfl, rfl⟩ rfl ?_
            refine x_iloadn (x := l2) rfl rfl ?_
            refine x_iconst (v := 3) rfl ki_3 ?_
            refine z_iadd rfl rfl jk_3 (by omega) (fun v105 ev105 => ?_)
            refine x_aloadn (x := 125) rfl rfl ?_
            refine x_ldc2 (v := 11) rfl z_12_267 ?_
            refine x_inv (N := m_X12_number) (As := [.long 11]) (b := 125) (st := [.int v105, .ref 147]) (dx9 := 4) (mc := 0) (ms := 0) (host := "") 12 rfl t_X12_number ⟨Or.inl q_12_641, i_X12_number.1, i_X12_number.2⟩ ⟨by decide, rfl⟩ (congrArg Prod.fst (J.1.1 125 (12, 92) rfl)) rfl (by decide) rfl rfl ⟨by decide, by decide⟩ (sf_X12_number_r125d (jr_ofl jkl_11 (by omega)) P103.1.2.2 hD J qu97 qu98 qu99 (by omega) qu100 qu99 qu97 (by omega) rfl  (fun v116 h J S106 u107 u108 u109 qu107 qu108 qu109 ru107 u110 u111 u112 qu110 qu111 qu112 ru110 P113 X114 X115 => ?_))
            have ev116 := jfull v116
            have Sm := jSm_tr rfl Sm S106
            try rw [jkl_11] at X114
            try rw [jkl_11] at X115
            try rw [X114] at D
            try rw [X115] at D
            have eu107 := (show 0 ≤ u107.toInt ∧ u107.toInt ≤ 400 from qu107 ▸ jrg_f J sg_125_10_11_1_0_1)
            try rw [vrf qu107] at D
            have eu108 := (show 0 ≤ u108.toInt ∧ u108.toInt ≤ 400 from qu108 ▸ jrg_f J sg_125_8_9_1_0_1)
            try have kqu108 : u98.toInt = u108.toInt := ((vrf (jmb_w w2 (jmb_c S56 (jmb_w w67 (jmb_c S96 qu98 rfl) rfl) rfl) rfl)).symm.trans (vrf (jmb_w w2 (jmb_c S56 (jmb_w w67 (jmb_c S96 (jmb_c S106 qu108 rfl) rfl) rfl) rfl) rfl)))
            try rw [kqu108] at D
            try rw [vrf (jmb_w w2 (jmb_c S56 (jmb_w w67 (jmb_c S96 (jmb_c S106 qu108 rfl) rfl) rfl) rfl) rfl)] at D
            have eu109 := (show 0 ≤ u109.toInt ∧ u109.toInt ≤ 400 from qu109 ▸ jrg_f J sg_125_9_10_1_0_1)
            try rw [vrf qu109] at D
            have eu110 := (show 0 ≤ u110.toInt ∧ u110.toInt ≤ 3 from qu110 ▸ jrg_f J sg_125_11_12_1_0_1)
            try rw [vrf qu110] at D
            obtain rfl : u109 = u111 := qu109.symm.trans qu111
            obtain rfl : u107 = u112 := qu107.symm.trans qu112
            show jX m_X12_readClause 9 0 0 118 [(0, .ref 125), (1, .int l1), (2, .int l2), (3, .int l3)] [.int v116, .int v105, .ref 147] _ 0 0 _
            refine z_iast (N := 120) (l := 0) (u := 120) (w := v116.toInt) rfl hD J Sm rfl rfl rfl (by omega) rfl (wr_147) rfl (fun h w117 J Sm => ?_)
            rw [vww w117 (show (l2.toInt + 3) = v105.toInt from by omega) (show v116.toInt = v116.toInt from by omega)] at D
            refine x_aloadn (x := 125) rfl rfl ?_
            refine x_dup rfl rfl ?_
            refine z_getM (N := 92) (v := g2) 12 47 rfl f_12_636 rfl J rfl (jmo w117 rfl (jmc S106 rfl (jmc S96 rfl (jmo w67 rfl (jmc S56 rfl (jmo w2 rfl z2)))))) ?_
            refine x_iconst (v := 1) rfl ki_1 ?_
            refine z_iadd rfl rfl jk_1 (by omega) (fun v118 ev118 => ?_)
            refine z_putI (N := 92) (w := v118.toInt) 12 47 rfl f_12_636 rfl (jfin_no TX12 RX12 92 rfl rfl) hD J Sm rfl rfl rfl (pw_125_47 (by omega)) rfl (fun h w119 J Sm => ?_)
            rw [vwf w119 (show (g2.toInt + 1) = v118.toInt from by omega)] at D
            refine x_vret rfl rfl ?_
            exact hQ _ J Sm _ _ _ (jmo w119 rfl (jmo w117 rfl qu107)) (jmo w119 rfl (jmo w117 rfl qu108)) (jmo w119 rfl (jmo w117 rfl qu109)) (by omega) _ _ _ (jmo w119 rfl (jmo w117 rfl qu110)) (jmo w119 rfl (jmo w117 rfl qu109)) (jmo w119 rfl (jmo w117 rfl qu107)) (by omega) (rk_e (zs_l (zs_m (zs_0 (zz_m (zz_k C0 w2 (jcl_e (by rw [jk_0]; omega))) (ke_c S56 rfl rfl rfl rfl rfl P63.1) P63.1.2.2) (by omega) (by omega) w67 (nm_4 P63.2 jkl_29)) (ke_t (ke_c S96 rfl rfl rfl rfl rfl P103.1) (ke_c S106 rfl rfl rfl rfl rfl P113.1))) (by omega) w117 (nm_4 P113.2 jkl_11)) (jmo w117 rfl (jmc S106 rfl (jmc S96 rfl (jmo w67 rfl (jmc S56 rfl (jmo w2 rfl z2)))))) w119 (by omega)) D.symm
          ·
            rw [if_pos (by omega)] at D
            refine x_iconst (v := 1) rfl ki_1 ?_
            refine x_goto (tgt := 22) rfl rfl ?_
            refine x_zret rfl rfl (by decide) ?_
            show jX m_X12_readClause 9 0 0 101 [(0, .ref 125), (1, .int l1), (2, .int l2), (3, .int l3)] [.int 1, .ref 125] _ 0 0 _
            refine x_inv (N := m_X12_must) (As := [.int 1]) (b := 125) (st := []) (dx9 := 3) (mc := 0) (ms := 0) (host := "") 12 rfl t_X12_must ⟨Or.inl q_12_250, i_X12_must.1, i_X12_must.2⟩ ⟨by decide, rfl⟩ (congrArg Prod.fst (J.1.1 125 (12, 92) rfl)) rfl (by decide) rfl rfl ⟨by decide, by decide⟩ (sf_X12_must_r125d (jr_of jk_1 (by omega)) hD J (jmo w67 rfl qu57) (jmo w67 rfl qu58) (jmo w67 rfl qu59) (by omega) (jmo w67 rfl qu60) (jmo w67 rfl qu59) (jmo w67 rfl qu57) (by omega) rfl  (fun h J S120 u121 u122 u123 qu121 qu122 qu123 ru121 u124 u125 u126 qu124 qu125 qu126 ru124 P127 X128 => ?_))
            have Sm := jSm_tr rfl Sm S120
            try rw [jk_1] at X128
            rw [X128] at D
            have eu121 := (show 0 ≤ u121.toInt ∧ u121.toInt ≤ 400 from qu121 ▸ jrg_f J sg_125_10_11_1_0_1)
            try rw [vrf qu121] at D
            have eu122 := (show 0 ≤ u122.toInt ∧ u122.toInt ≤ 400 from qu122 ▸ jrg_f J sg_125_8_9_1_0_1)
            try have kqu122 : u58.toInt = u122.toInt := ((vrf (jmb_w w2 (jmb_c S56 qu58 rfl) rfl)).symm.trans (vrf (jmb_w w2 (jmb_c S56 (jmb_w w67 (jmb_c S120 qu122 rfl) rfl) rfl) rfl)))
            try rw [kqu122] at D
            try rw [vrf (jmb_w w2 (jmb_c S56 (jmb_w w67 (jmb_c S120 qu122 rfl) rfl) rfl) rfl)] at D
            have eu123 := (show 0 ≤ u123.toInt ∧ u123.toInt ≤ 400 from qu123 ▸ jrg_f J sg_125_9_10_1_0_1)
            try rw [vrf qu123] at D
            have eu124 := (show 0 ≤ u124.toInt ∧ u124.toInt ≤ 3 from qu124 ▸ jrg_f J sg_125_11_12_1_0_1)
            try rw [vrf qu124] at D
            obtain rfl : u123 = u125 := qu123.symm.trans qu125
            obtain rfl : u121 = u126 := qu121.symm.trans qu126
            show jX m_X12_readClause 9 0 0 104 [(0, .ref 125), (1, .int l1), (2, .int l2), (3, .int l3)] [] _ 0 0 _
            refine x_aloadn (x := 125) rfl rfl ?_
            refine z_getR (N := 92) (b := 147) 12 48 rfl f_12_96 rfl J rfl 16048 ⟨rfl, rfl⟩ rfl ?_
            refine x_iloadn (x := l2) rfl rfl ?_
            refine x_iconst (v := 3) rfl ki_3 ?_
            refine z_iadd rfl rfl jk_3 (by omega) (fun v129 ev129 => ?_)
            refine x_aloadn (x := 125) rfl rfl ?_
            refine x_ldc2 (v := 11) rfl z_12_267 ?_
            refine x_inv (N := m_X12_number) (As := [.long 11]) (b := 125) (st := [.int v129, .ref 147]) (dx9 := 4) (mc := 0) (ms := 0) (host := "") 12 rfl t_X12_number ⟨Or.inl q_12_641, i_X12_number.1, i_X12_number.2⟩ ⟨by decide, rfl⟩ (congrArg Prod.fst (J.1.1 125 (12, 92) rfl)) rfl (by decide) rfl rfl ⟨by decide, by decide⟩ (sf_X12_number_r125d (jr_ofl jkl_11 (by omega)) P127.1.2.2 hD J qu121 qu122 qu123 (by omega) qu124 qu123 qu121 (by omega) rfl  (fun v140 h J S130 u131 u132 u133 qu131 qu132 qu133 ru131 u134 u135 u136 qu134 qu135 qu136 ru134 P137 X138 X139 => ?_))
            have ev140 := jfull v140
            have Sm := jSm_tr rfl Sm S130
            try rw [jkl_11] at X138
            try rw [jkl_11] at X139
            try rw [X138] at D
            try rw [X139] at D
            have eu131 := (show 0 ≤ u131.toInt ∧ u131.toInt ≤ 400 from qu131 ▸ jrg_f J sg_125_10_11_1_0_1)
            try rw [vrf qu131] at D
            have eu132 := (show 0 ≤ u132.toInt ∧ u132.toInt ≤ 400 from qu132 ▸ jrg_f J sg_125_8_9_1_0_1)
            try have kqu132 : u122.toInt = u132.toInt := ((vrf (jmb_w w2 (jmb_c S56 (jmb_w w67 (jmb_c S120 qu122 rfl) rfl) rfl) rfl)).symm.trans (vrf (jmb_w w2 (jmb_c S56 (jmb_w w67 (jmb_c S120 (jmb_c S130 qu132 rfl) rfl) rfl) rfl) rfl)))
            try rw [kqu132] at D
            try rw [vrf (jmb_w w2 (jmb_c S56 (jmb_w w67 (jmb_c S120 (jmb_c S130 qu132 rfl) rfl) rfl) rfl) rfl)] at D
            have eu133 := (show 0 ≤ u133.toInt ∧ u133.toInt ≤ 400 from qu133 ▸ jrg_f J sg_125_9_10_1_0_1)
            try rw [vrf qu133] at D
            have eu134 := (show 0 ≤ u134.toInt ∧ u134.toInt ≤ 3 from qu134 ▸ jrg_f J sg_125_11_12_1_0_1)
            try rw [vrf qu134] at D
            obtain rfl : u133 = u135 := qu133.symm.trans qu135
            obtain rfl : u131 = u136 := qu131.symm.trans qu136
            show jX m_X12_readClause 9 0 0 118 [(0, .ref 125), (1, .int l1), (2, .int l2), (3, .int l3)] [.int v140, .int v129, .ref 147] _ 0 0 _
            refine z_iast (N := 120) (l := 0) (u := 120) (w := v140.toInt) rfl hD J Sm rfl rfl rfl (by omega) rfl (wr_147) rfl (fun h w141 J Sm => ?_)
            rw [vww w141 (show (l2.toInt + 3) = v129.toInt from by omega) (show v140.toInt = v140.toInt from by omega)] at D
            refine x_aloadn (x := 125) rfl rfl ?_
            refine x_dup rfl rfl ?_
            refine z_getM (N := 92) (v := g2) 12 47 rfl f_12_636 rfl J rfl (jmo w141 rfl (jmc S130 rfl (jmc S120 rfl (jmo w67 rfl (jmc S56 rfl (jmo w2 rfl z2)))))) ?_
            refine x_iconst (v := 1) rfl ki_1 ?_
            refine z_iadd rfl rfl jk_1 (by omega) (fun v142 ev142 => ?_)
            refine z_putI (N := 92) (w := v142.toInt) 12 47 rfl f_12_636 rfl (jfin_no TX12 RX12 92 rfl rfl) hD J Sm rfl rfl rfl (pw_125_47 (by omega)) rfl (fun h w143 J Sm => ?_)
            rw [vwf w143 (show (g2.toInt + 1) = v142.toInt from by omega)] at D
            refine x_vret rfl rfl ?_
            exact hQ _ J Sm _ _ _ (jmo w143 rfl (jmo w141 rfl qu131)) (jmo w143 rfl (jmo w141 rfl qu132)) (jmo w143 rfl (jmo w141 rfl qu133)) (by omega) _ _ _ (jmo w143 rfl (jmo w141 rfl qu134)) (jmo w143 rfl (jmo w141 rfl qu133)) (jmo w143 rfl (jmo w141 rfl qu131)) (by omega) (rk_e (zs_l (zs_m (zs_0 (zz_m (zz_k C0 w2 (jcl_e (by rw [jk_0]; omega))) (ke_c S56 rfl rfl rfl rfl rfl P63.1) P63.1.2.2) (by omega) (by omega) w67 (nm_4 P63.2 jkl_29)) (ke_t (ke_c S120 rfl rfl rfl rfl rfl P127.1) (ke_c S130 rfl rfl rfl rfl rfl P137.1))) (by omega) w141 (nm_4 P137.2 jkl_11)) (jmo w141 rfl (jmc S130 rfl (jmc S120 rfl (jmo w67 rfl (jmc S56 rfl (jmo w2 rfl z2)))))) w143 (by omega)) D.symm
    ·
      rw [if_neg (by omega)] at D
      refine x_aloadn (x := 125) rfl rfl ?_
      refine z_getR (N := 92) (b := 147) 12 48 rfl f_12_96 rfl J rfl 16048 ⟨rfl, rfl⟩ rfl ?_
      refine x_iloadn (x := l2) rfl rfl ?_
      refine x_iloadn (x := l3) rfl rfl ?_
      refine z_iadd rfl rfl rfl (by omega) (fun v144 ev144 => ?_)
      refine x_iconst (v := 0) rfl ki_0 ?_
      refine z_iast (N := 120) (l := 0) (u := 120) (w := 0) rfl hD J Sm rfl rfl rfl (by omega) jk_0 (wr_147) rfl (fun h w145 J Sm => ?_)
      rw [vww w145 (show (l2.toInt + l3.toInt) = v144.toInt from by omega) (show 0 = (0 : Int32).toInt from by have := jk_0; omega)] at D
      refine z_iinc (x := l3) (lsx9 := fun v146 => [(3, .int v146), (0, .ref 125), (1, .int l1), (2, .int l2)]) rfl rfl rfl jko_1 (by omega) rfl (fun _ => rfl) (fun v146 ev146 => ?_)
      refine x_goto (tgt := 46) rfl rfl ?_
      try rw [show (l3.toInt + 1) = v146.toInt from by omega] at D
      exact jX.sub (jsb_c rfl (jsb_c rfl (jsb_c rfl (jsb_c rfl jsb_n)))) (ih l1 l2 v146 g0 g1 g2 g3 g4 h (by omega) (jr_of rfl (by omega)) (jr_of rfl (by omega)) (jr_mod rfl (by omega)) (jr_of rfl (by omega)) (jr_of rfl (by omega)) (jr_of rfl (by omega)) (jr_of rfl (by omega)) (jr_of rfl (by omega)) (jr_of rfl (by omega)) (zz_s C0 (by omega) (by omega) w145 (by omega)) (by omega) (by omega) (jmo w145 rfl z0) (jmo w145 rfl z1) (jmo w145 rfl z2) (jmo w145 rfl z3) (jmo w145 rfl z4) J Sm D)
set_option maxRecDepth 100000 in
set_option maxHeartbeats 4000000 in
theorem ct_X12_readClause_r125d_300025 {Dy : jH → Prop} {h0 : jH} {Q : Option Value → jH → Prop} {dr : jW} (hD : jDk Dy) (hQ : ∀ hx9, jJ jSgM Dy hx9 → jSm fp_X12_readClause_r125d h0 hx9 → ∀ u0 u1 u2 : Int32, jiv hx9 125 10 = u0 → jiv hx9 125 8 = u1 → jiv hx9 125 9 = u2 → (u0.toInt ≤ u1.toInt ∧ u2.toInt ≤ u0.toInt) → ∀ u3 u4 u5 : Int32, jiv hx9 125 11 = u3 → jiv hx9 125 9 = u4 → jiv hx9 125 10 = u5 → (u3.toInt = 0 ∨ u4.toInt + 1 ≤ u5.toInt) → jRk (jnK hx9) h0 hx9 → dr = vw hx9 → Q none hx9) : ∀ (l1 : Int32) (g0 : Int32) (g1 : Int32) (g2 : Int32) (g3 : Int32) (g4 : Int32) (h : jH), 0 ≤ l1.toInt ∧ l1.toInt ≤ 8 → 0 ≤ g0.toInt ∧ g0.toInt ≤ 400 → 0 ≤ g1.toInt ∧ g1.toInt ≤ 3 → 0 ≤ g2.toInt ∧ g2.toInt ≤ 11 → 0 ≤ g3.toInt ∧ g3.toInt ≤ 400 → 0 ≤ g4.toInt ∧ g4.toInt ≤ 400 → jRk (jnK h) h0 h → (g0.toInt ≤ g3.toInt ∧ g4.toInt ≤ g0.toInt) → (g1.toInt = 0 ∨ g4.toInt + 1 ≤ g0.toInt) → jiv h 125 10 = g0 → jiv h 125 11 = g1 → jiv h 125 47 = g2 → jiv h 125 8 = g3 → jiv h 125 9 = g4 → jJ jSgM Dy h → jSm fp_X12_readClause_r125d h0 h → d_X12_readClause_r125d_300025  l1.toInt (vw h) = dr → jX m_X12_readClause 9 0 0 25 [(0, .ref 125), (1, .int l1)] [.int 1, .ref 125] h 0 0 Q := by
  intro l1 g0 g1 g2 g3 g4 h y0 y1 y2 y3 y4 y5 C0 y7 y8 z0 z1 z2 z3 z4  J Sm D
  unfold d_X12_readClause_r125d_300025 at D
  try rw [vrf z0] at D
  try rw [vrf z1] at D
  try rw [vrf z2] at D
  try rw [vrf z3] at D
  try rw [vrf z4] at D
  refine x_inv (N := m_X12_must) (As := [.int 1]) (b := 125) (st := []) (dx9 := 3) (mc := 0) (ms := 0) (host := "") 12 rfl t_X12_must ⟨Or.inl q_12_250, i_X12_must.1, i_X12_must.2⟩ ⟨by decide, rfl⟩ (congrArg Prod.fst (J.1.1 125 (12, 92) rfl)) rfl (by decide) rfl rfl ⟨by decide, by decide⟩ (sf_X12_must_r125d (jr_of jk_1 (by omega)) hD J z0 z3 z4 (by omega) z1 z4 z0 (by omega) rfl  (fun h J S1 u2 u3 u4 qu2 qu3 qu4 ru2 u5 u6 u7 qu5 qu6 qu7 ru5 P8 X9 => ?_))
  have Sm := jSm_tr rfl Sm S1
  try rw [jk_1] at X9
  rw [X9] at D
  have eu2 := (show 0 ≤ u2.toInt ∧ u2.toInt ≤ 400 from qu2 ▸ jrg_f J sg_125_10_11_1_0_1)
  try rw [vrf qu2] at D
  have eu3 := (show 0 ≤ u3.toInt ∧ u3.toInt ≤ 400 from qu3 ▸ jrg_f J sg_125_8_9_1_0_1)
  try rw [vrf (jmb_c S1 qu3 rfl)] at D
  have eu4 := (show 0 ≤ u4.toInt ∧ u4.toInt ≤ 400 from qu4 ▸ jrg_f J sg_125_9_10_1_0_1)
  try rw [vrf qu4] at D
  have eu5 := (show 0 ≤ u5.toInt ∧ u5.toInt ≤ 3 from qu5 ▸ jrg_f J sg_125_11_12_1_0_1)
  try rw [vrf qu5] at D
  obtain rfl : u4 = u6 := qu4.symm.trans qu6
  obtain rfl : u2 = u7 := qu2.symm.trans qu7
  show jX m_X12_readClause 9 0 0 28 [(0, .ref 125), (1, .int l1)] [] _ 0 0 _
  obtain ⟨u10, qu10⟩ : ∃ v : Int32, jiv h 125 14 = v := ⟨_, rfl⟩
  have eu10 := (show 0 ≤ u10.toInt ∧ u10.toInt ≤ 1 from qu10 ▸ jrg_f J sg_125_14_15_1_0_1)
  try rw [vrf qu10] at D
  have bk := ms_k P8 qu10
  have k0 := jk_0
  refine x_aloadn (x := 125) rfl rfl ?_
  refine z_getM (N := 92) (v := u10) 12 14 rfl f_12_214 rfl J rfl qu10 ?_
  refine x_ifeq (tgt := 36) rfl rfl (ti_eq rfl jk_0 ⟨fun c11 => ?_, fun c11 => ?_⟩)
  ·
    rw [if_pos (by omega)] at D
    refine x_bipush (v := 10) rfl kb_10 ?_
    refine x_aloadn (x := 125) rfl rfl ?_
    refine z_getM (N := 92) (v := g2) 12 47 rfl f_12_636 rfl J rfl (jmc S1 rfl z2) ?_
    refine z_imul rfl jk_10 rfl (by omega) (fun v12 ev12 => ?_)
    refine x_istoren (lsx9 := [(2, .int v12), (0, .ref 125), (1, .int l1)]) rfl rfl rfl ?_
    refine x_iconst (v := 0) rfl ki_0 ?_
    refine x_istoren (lsx9 := [(3, .int 0), (2, .int v12), (0, .ref 125), (1, .int l1)]) rfl rfl rfl ?_
    try rw [show (10 * g2.toInt) = v12.toInt from by omega] at D
    exact jX.sub (jsb_c rfl (jsb_c rfl (jsb_c rfl (jsb_c rfl jsb_n)))) (ct_X12_readClause_r125d_46 hD hQ  11 l1 v12 0 u2 u5 g2 u3 u4 h (by have := jk_0; omega) (jr_of rfl (by omega)) (jr_of rfl (by omega)) (jr_mod rfl (by omega)) (jr_of jk_0 (by omega)) (jr_of rfl (by omega)) (jr_of rfl (by omega)) (jr_of rfl (by omega)) (jr_of rfl (by omega)) (jr_of rfl (by omega)) (zz_0 C0 (ke_c S1 rfl rfl rfl rfl rfl P8.1) P8.1.2.2 (jmc S1 rfl z2) (by omega) (by omega)) (by omega) (by omega) qu2 qu5 (jmc S1 rfl z2) qu3 qu4 J Sm (by rw [jk_0]; exact D))
  ·
    rw [if_neg (by omega)] at D
    refine x_vret rfl rfl ?_
    exact hQ _ J Sm _ _ _ qu2 qu3 qu4 (by omega) _ _ _ qu5 qu4 qu2 (by omega) (rk_z C0 (ke_c S1 rfl rfl rfl rfl rfl P8.1)) D.symm
set_option maxRecDepth 100000 in
set_option maxHeartbeats 4000000 in
theorem ct_X12_readClause_r125d_200025 {Dy : jH → Prop} {h0 : jH} {Q : Option Value → jH → Prop} {dr : jW} (hD : jDk Dy) (hQ : ∀ hx9, jJ jSgM Dy hx9 → jSm fp_X12_readClause_r125d h0 hx9 → ∀ u0 u1 u2 : Int32, jiv hx9 125 10 = u0 → jiv hx9 125 8 = u1 → jiv hx9 125 9 = u2 → (u0.toInt ≤ u1.toInt ∧ u2.toInt ≤ u0.toInt) → ∀ u3 u4 u5 : Int32, jiv hx9 125 11 = u3 → jiv hx9 125 9 = u4 → jiv hx9 125 10 = u5 → (u3.toInt = 0 ∨ u4.toInt + 1 ≤ u5.toInt) → jRk (jnK hx9) h0 hx9 → dr = vw hx9 → Q none hx9) : ∀ (l1 : Int32) (g0 : Int32) (g1 : Int32) (g2 : Int32) (g3 : Int32) (h : jH), (-1) ≤ l1.toInt ∧ l1.toInt ≤ 8 → 0 ≤ g0.toInt ∧ g0.toInt ≤ 400 → 0 ≤ g1.toInt ∧ g1.toInt ≤ 3 → 0 ≤ g2.toInt ∧ g2.toInt ≤ 400 → 0 ≤ g3.toInt ∧ g3.toInt ≤ 400 → jRk (jnK h) h0 h → (g0.toInt ≤ g2.toInt ∧ g3.toInt ≤ g0.toInt) → (g1.toInt = 0 ∨ g3.toInt + 1 ≤ g0.toInt) → jiv h 125 10 = g0 → jiv h 125 11 = g1 → jiv h 125 8 = g2 → jiv h 125 9 = g3 → jJ jSgM Dy h → jSm fp_X12_readClause_r125d h0 h → d_X12_readClause_r125d_200025  l1.toInt (vw h) = dr → jX m_X12_readClause 9 0 0 25 [(0, .ref 125), (1, .int l1)] [.int 0, .ref 125] h 0 0 Q := by
  intro l1 g0 g1 g2 g3 h y0 y1 y2 y3 y4 C0 y6 y7 z0 z1 z2 z3  J Sm D
  unfold d_X12_readClause_r125d_200025 at D
  try rw [vrf z0] at D
  try rw [vrf z1] at D
  try rw [vrf z2] at D
  try rw [vrf z3] at D
  refine x_inv (N := m_X12_must) (As := [.int 0]) (b := 125) (st := []) (dx9 := 3) (mc := 0) (ms := 0) (host := "") 12 rfl t_X12_must ⟨Or.inl q_12_250, i_X12_must.1, i_X12_must.2⟩ ⟨by decide, rfl⟩ (congrArg Prod.fst (J.1.1 125 (12, 92) rfl)) rfl (by decide) rfl rfl ⟨by decide, by decide⟩ (sf_X12_must_r125d (jr_of jk_0 (by omega)) hD J z0 z2 z3 (by omega) z1 z3 z0 (by omega) rfl  (fun h J S1 u2 u3 u4 qu2 qu3 qu4 ru2 u5 u6 u7 qu5 qu6 qu7 ru5 P8 X9 => ?_))
  have Sm := jSm_tr rfl Sm S1
  try rw [jk_0] at X9
  rw [X9] at D
  have eu2 := (show 0 ≤ u2.toInt ∧ u2.toInt ≤ 400 from qu2 ▸ jrg_f J sg_125_10_11_1_0_1)
  try rw [vrf qu2] at D
  have eu3 := (show 0 ≤ u3.toInt ∧ u3.toInt ≤ 400 from qu3 ▸ jrg_f J sg_125_8_9_1_0_1)
  try rw [vrf (jmb_c S1 qu3 rfl)] at D
  have eu4 := (show 0 ≤ u4.toInt ∧ u4.toInt ≤ 400 from qu4 ▸ jrg_f J sg_125_9_10_1_0_1)
  try rw [vrf qu4] at D
  have eu5 := (show 0 ≤ u5.toInt ∧ u5.toInt ≤ 3 from qu5 ▸ jrg_f J sg_125_11_12_1_0_1)
  try rw [vrf qu5] at D
  obtain rfl : u4 = u6 := qu4.symm.trans qu6
  obtain rfl : u2 = u7 := qu2.symm.trans qu7
  show jX m_X12_readClause 9 0 0 28 [(0, .ref 125), (1, .int l1)] [] _ 0 0 _
  obtain ⟨u10, qu10⟩ : ∃ v : Int32, jiv h 125 14 = v := ⟨_, rfl⟩
  have eu10 := (show 0 ≤ u10.toInt ∧ u10.toInt ≤ 1 from qu10 ▸ jrg_f J sg_125_14_15_1_0_1)
  try rw [vrf qu10] at D
  have bk := ms_k P8 qu10
  have k0 := jk_0
  refine x_aloadn (x := 125) rfl rfl ?_
  refine z_getM (N := 92) (v := u10) 12 14 rfl f_12_214 rfl J rfl qu10 ?_
  refine x_ifeq (tgt := 36) rfl rfl (ti_eq rfl jk_0 (br_f (by omega) ?_))
  refine x_vret rfl rfl ?_
  exact hQ _ J Sm _ _ _ qu2 qu3 qu4 (by omega) _ _ _ qu5 qu4 qu2 (by omega) (rk_z C0 (ke_c S1 rfl rfl rfl rfl rfl P8.1)) D.symm
set_option maxRecDepth 100000 in
set_option maxHeartbeats 4000000 in
theorem ct_X12_readClause_r125d_24 {Dy : jH → Prop} {h0 : jH} {Q : Option Value → jH → Prop} {dr : jW} (hD : jDk Dy) (hQ : ∀ hx9, jJ jSgM Dy hx9 → jSm fp_X12_readClause_r125d h0 hx9 → ∀ u0 u1 u2 : Int32, jiv hx9 125 10 = u0 → jiv hx9 125 8 = u1 → jiv hx9 125 9 = u2 → (u0.toInt ≤ u1.toInt ∧ u2.toInt ≤ u0.toInt) → ∀ u3 u4 u5 : Int32, jiv hx9 125 11 = u3 → jiv hx9 125 9 = u4 → jiv hx9 125 10 = u5 → (u3.toInt = 0 ∨ u4.toInt + 1 ≤ u5.toInt) → jRk (jnK hx9) h0 hx9 → dr = vw hx9 → Q none hx9) : ∀ (l1 : Int32) (g0 : Int32) (g1 : Int32) (g2 : Int32) (g3 : Int32) (h : jH), (-1) ≤ l1.toInt ∧ l1.toInt ≤ 8 → 0 ≤ g0.toInt ∧ g0.toInt ≤ 400 → 0 ≤ g1.toInt ∧ g1.toInt ≤ 3 → 0 ≤ g2.toInt ∧ g2.toInt ≤ 400 → 0 ≤ g3.toInt ∧ g3.toInt ≤ 400 → jRk (jnK h) h0 h → (g0.toInt ≤ g2.toInt ∧ g3.toInt ≤ g0.toInt) → (g1.toInt = 0 ∨ g3.toInt + 1 ≤ g0.toInt) → jiv h 125 10 = g0 → jiv h 125 11 = g1 → jiv h 125 8 = g2 → jiv h 125 9 = g3 → jJ jSgM Dy h → jSm fp_X12_readClause_r125d h0 h → d_X12_readClause_r125d_24  l1.toInt (vw h) = dr → jX m_X12_readClause 9 0 0 24 [(0, .ref 125), (1, .int l1)] [.ref 125] h 0 0 Q := by
  intro l1 g0 g1 g2 g3 h y0 y1 y2 y3 y4 C0 y6 y7 z0 z1 z2 z3  J Sm D
  unfold d_X12_readClause_r125d_24 at D
  try rw [vrf z0] at D
  try rw [vrf z1] at D
  try rw [vrf z2] at D
  try rw [vrf z3] at D
  refine x_iconst (v := 0) rfl ki_0 ?_
  exact jX.sub (jsb_c rfl (jsb_c rfl jsb_n)) (ct_X12_readClause_r125d_200025 hD hQ  l1 g0 g1 g2 g3 h (jr_of rfl (by omega)) (jr_of rfl (by omega)) (jr_of rfl (by omega)) (jr_of rfl (by omega)) (jr_of rfl (by omega)) C0 (by omega) (by omega) z0 z1 z2 z3 J Sm D)
set_option maxRecDepth 100000 in
set_option maxHeartbeats 4000000 in
theorem sf_X12_readClause_r125d {Dy : jH → Prop} {h : jH} {Q : Option Value → jH → Prop} {dr : jW} (hK : jRk (jnK h) h h) (hD : jDk Dy) (J : jJ jSgM Dy h) {p0 p1 p2 : Int32} {p3 p4 p5 : Int32} (zp0 : jiv h 125 10 = p0) (zp1 : jiv h 125 8 = p1) (zp2 : jiv h 125 9 = p2) (rl_p0 : (p0.toInt ≤ p1.toInt ∧ p2.toInt ≤ p0.toInt)) (zp3 : jiv h 125 11 = p3) (zp4 : jiv h 125 9 = p4) (zp5 : jiv h 125 10 = p5) (rl_p3 : (p3.toInt = 0 ∨ p4.toInt + 1 ≤ p5.toInt)) (D : d_X12_readClause_r125d (vw h) = dr) (hQ : ∀ hx9, jJ jSgM Dy hx9 → jSm fp_X12_readClause_r125d h hx9 → ∀ u0 u1 u2 : Int32, jiv hx9 125 10 = u0 → jiv hx9 125 8 = u1 → jiv hx9 125 9 = u2 → (u0.toInt ≤ u1.toInt ∧ u2.toInt ≤ u0.toInt) → ∀ u3 u4 u5 : Int32, jiv hx9 125 11 = u3 → jiv hx9 125 9 = u4 → jiv hx9 125 10 = u5 → (u3.toInt = 0 ∨ u4.toInt + 1 ≤ u5.toInt) → jRk (jnK hx9) h hx9 → dr = vw hx9 → Q none hx9) : jC m_X12_readClause 9 0 0 [.ref 125] h Q := by
  refine jC.of rfl k_X12_readClause rfl ?_
  have Sm := jSm_rf fp_X12_readClause_r125d h
  have ep0 := (show 0 ≤ p0.toInt ∧ p0.toInt ≤ 400 from zp0 ▸ jrg_f J sg_125_10_11_1_0_1)
  have ep1 := (show 0 ≤ p1.toInt ∧ p1.toInt ≤ 400 from zp1 ▸ jrg_f J sg_125_8_9_1_0_1)
  have ep2 := (show 0 ≤ p2.toInt ∧ p2.toInt ≤ 400 from zp2 ▸ jrg_f J sg_125_9_10_1_0_1)
  have ep3 := (show 0 ≤ p3.toInt ∧ p3.toInt ≤ 3 from zp3 ▸ jrg_f J sg_125_11_12_1_0_1)
  have ep4 := (show 0 ≤ p4.toInt ∧ p4.toInt ≤ 400 from zp4 ▸ jrg_f J sg_125_9_10_1_0_1)
  have ep5 := (show 0 ≤ p5.toInt ∧ p5.toInt ≤ 400 from zp5 ▸ jrg_f J sg_125_10_11_1_0_1)
  obtain rfl : p2 = p4 := zp2.symm.trans zp4
  obtain rfl : p0 = p5 := zp0.symm.trans zp5
  skip
  show jX m_X12_readClause 9 0 0 0 [(0, .ref 125)] [] _ 0 0 _
  unfold d_X12_readClause_r125d at D
  try rw [vrf zp0] at D
  try rw [vrf zp1] at D
  try rw [vrf zp2] at D
  try rw [vrf zp3] at D
  try rw [vrf zp4] at D
  try rw [vrf zp5] at D
  refine x_aloadn (x := 125) rfl rfl ?_
  refine x_inv (N := m_X12_kindAt) (As := []) (b := 125) (st := []) (dx9 := 2) (mc := 0) (ms := 0) (host := "") 12 rfl t_X12_kindAt ⟨Or.inl q_12_633, i_X12_kindAt.1, i_X12_kindAt.2⟩ ⟨by decide, rfl⟩ (congrArg Prod.fst (J.1.1 125 (12, 92) rfl)) rfl (by decide) rfl rfl ⟨by decide, by decide⟩ (sf_X12_kindAt_r125d  hD J rfl  (fun v4 h ev4 J S1 X2 X3 => ?_))
  have Sm := jSm_tr rfl Sm S1
  try rw [X2] at D
  try rw [← X3] at D
  show jX m_X12_readClause 9 0 0 4 [(0, .ref 125)] [.int v4] _ 0 0 _
  refine x_istoren (lsx9 := [(1, .int v4), (0, .ref 125)]) rfl rfl rfl ?_
  refine x_aloadn (x := 125) rfl rfl ?_
  refine x_iloadn (x := v4) rfl rfl ?_
  refine x_iconst (v := (-1)) rfl ki_m1 ?_
  refine x_iceq (tgt := 24) rfl rfl (ti_eq rfl jk_m1 ⟨fun c5 => ?_, fun c5 => ?_⟩)
  ·
    rw [if_pos (by omega)] at D
    exact jX.sub (jsb_c rfl (jsb_c rfl jsb_n)) (ct_X12_readClause_r125d_24 hD hQ  v4 p0 p3 p1 p2 h (jr_of rfl (by omega)) (jr_of rfl (by omega)) (jr_of rfl (by omega)) (jr_of rfl (by omega)) (jr_of rfl (by omega)) (rk_z hK (ke_z S1 rfl rfl rfl rfl rfl rfl rfl)) (by omega) (by omega) (jmc S1 rfl zp0) (jmc S1 rfl zp3) (jmc S1 rfl zp1) (jmc S1 rfl zp2) J Sm D)
  ·
    rw [if_neg (by omega)] at D
    refine x_aloadn (x := 125) rfl rfl ?_
    refine z_getI (N := 92) 12 47 rfl f_12_636 rfl J rfl sg_125_47_48_1_0_1 (fun v6 qv6 ev6 => ?_)
    try rw [vrf qv6] at D
    refine x_bipush (v := 12) rfl kb_12 ?_
    refine x_icge (tgt := 24) rfl rfl (ti_ge rfl jk_12 ⟨fun c7 => ?_, fun c7 => ?_⟩)
    ·
      rw [if_pos (by omega)] at D
      exact jX.sub (jsb_c rfl (jsb_c rfl jsb_n)) (ct_X12_readClause_r125d_24 hD hQ  v4 p0 p3 p1 p2 h (jr_of rfl (by omega)) (jr_of rfl (by omega)) (jr_of rfl (by omega)) (jr_of rfl (by omega)) (jr_of rfl (by omega)) (rk_z hK (ke_z S1 rfl rfl rfl rfl rfl rfl rfl)) (by omega) (by omega) (jmc S1 rfl zp0) (jmc S1 rfl zp3) (jmc S1 rfl zp1) (jmc S1 rfl zp2) J Sm D)
    ·
      rw [if_neg (by omega)] at D
      refine x_iconst (v := 1) rfl ki_1 ?_
      refine x_goto (tgt := 25) rfl rfl ?_
      exact jX.sub (jsb_c rfl (jsb_c rfl jsb_n)) (ct_X12_readClause_r125d_300025 hD hQ  v4 p0 p3 v6 p1 p2 h (jr_of rfl (by omega)) (jr_of rfl (by omega)) (jr_of rfl (by omega)) (jr_of rfl (by omega)) (jr_of rfl (by omega)) (jr_of rfl (by omega)) (rk_z hK (ke_z S1 rfl rfl rfl rfl rfl rfl rfl)) (by omega) (by omega) (jmc S1 rfl zp0) (jmc S1 rfl zp3) qv6 (jmc S1 rfl zp1) (jmc S1 rfl zp2) J Sm D)
