def fp_X11_best_r31 : jFp := [(78, 13, 14), (82, 0, 600), (83, 0, 600), (84, 0, 200), (86, 0, 3), (87, 10, 11), (87, 11, 12), (87, 12, 13), (87, 13, 14), (89, 0, 81), (90, 0, 9), (91, 0, 9), (92, 0, 9), (93, 0, 90), (94, 0, 14401)]
set_option maxRecDepth 100000 in
set_option maxHeartbeats 4000000 in
theorem ct_X11_best_r31_25 {Dy : jH → Prop} {h0 : jH} {Q : Option Value → jH → Prop} (hD : jDk Dy) (hQ : ∀ (v : Int32) h', jJ jSgX Dy h' → jSm fp_X11_best_r31 h0 h' → Q (some (.int v)) h') : ∀ (h : jH), jJ jSgX Dy h → jSm fp_X11_best_r31 h0 h → jX m_X11_best 14 0 0 25 [] [] h 0 0 Q := by
  intro  h    J Sm
  refine x_iconst (v := (-1)) rfl ki_m1 ?_
  refine x_iret rfl rfl ?_
  exact hQ _ _ J Sm
set_option maxRecDepth 100000 in
set_option maxHeartbeats 4000000 in
theorem ct_X11_best_r31_27 {Dy : jH → Prop} {h0 : jH} {Q : Option Value → jH → Prop} (hD : jDk Dy) (hQ : ∀ (v : Int32) h', jJ jSgX Dy h' → jSm fp_X11_best_r31 h0 h' → Q (some (.int v)) h') : ∀ (l1 : Int32) (l2 : Int32) (h : jH), 0 ≤ l1.toInt ∧ l1.toInt ≤ 3 → jJ jSgX Dy h → jSm fp_X11_best_r31 h0 h → jX m_X11_best 14 0 0 27 [(0, .ref 31), (1, .int l1), (2, .int l2)] [] h 0 0 Q := by
  intro l1 l2 h y0   J Sm
  have el2 := jfull l2
  refine x_aloadn (x := 31) rfl rfl ?_
  refine z_getR (N := 13) (b := 78) 11 4 rfl f_11_41 rfl J rfl 3972 ⟨rfl, rfl⟩ rfl ?_
  refine x_ldc (v := 146399) rfl z_11_233 ?_
  refine x_inv (N := m_X7_asKnown) (As := [.int 146399]) (b := 78) (st := []) (d' := 6) (mc := 0) (ms := 0) (host := "") 7 rfl t_X7_asKnown ⟨Or.inl q_11_240, i_X7_asKnown.1, i_X7_asKnown.2⟩ ⟨by decide, rfl⟩ (congrArg Prod.fst (J.1.1 78 (7, 16) rfl)) rfl (by decide) rfl rfl ⟨by decide, by decide⟩ (sf_X7_asKnown_r78 (jr_of jk_146399 (by omega)) hD J  (fun h J S1 => ?_))
  have Sm := jSm_tr rfl Sm S1
  show jX m_X11_best 14 0 0 36 [(0, .ref 31), (1, .int l1), (2, .int l2)] [] _ 0 0 _
  refine x_aloadn (x := 31) rfl rfl ?_
  refine z_getR (N := 13) (b := 87) 11 5 rfl f_11_50 rfl J rfl 3973 ⟨rfl, rfl⟩ rfl ?_
  refine x_inv (N := m_X3_settle) (As := []) (b := 87) (st := []) (d' := 13) (mc := 0) (ms := 0) (host := "") 3 rfl t_X3_settle ⟨Or.inl q_11_282, i_X3_settle.1, i_X3_settle.2⟩ ⟨by decide, rfl⟩ (congrArg Prod.fst (J.1.1 87 (3, 14) rfl)) rfl (by decide) rfl rfl ⟨by decide, by decide⟩ (sf_X3_settle_r87  hD J  (fun h J S2 => ?_))
  have Sm := jSm_tr rfl Sm S2
  show jX m_X11_best 14 0 0 43 [(0, .ref 31), (1, .int l1), (2, .int l2)] [] _ 0 0 _
  refine x_iloadn (x := l1) rfl rfl ?_
  by_cases c3 : l1.toInt = 0
  ·
    refine x_tableIn (tgt := 72) 0 rfl c3 (by decide) (by decide) rfl rfl ?_
    refine x_aloadn (x := 31) rfl rfl ?_
    refine z_getR (N := 13) (b := 87) 11 5 rfl f_11_50 rfl J rfl 3973 ⟨rfl, rfl⟩ rfl ?_
    refine z_getI (N := 14) 3 10 rfl f_11_285 rfl J rfl sg_87_10_11_1_0_1 (fun v4 qv4 ev4 => ?_)
    refine x_iret rfl rfl ?_
    exact hQ _ _ J Sm
  by_cases c5 : l1.toInt = 1
  ·
    refine x_tableIn (tgt := 80) 1 rfl c5 (by decide) (by decide) rfl rfl ?_
    refine x_aloadn (x := 31) rfl rfl ?_
    refine z_getR (N := 13) (b := 87) 11 5 rfl f_11_50 rfl J rfl 3973 ⟨rfl, rfl⟩ rfl ?_
    refine z_getI (N := 14) 3 11 rfl f_11_288 rfl J rfl sg_87_11_12_1_0_1 (fun v6 qv6 ev6 => ?_)
    refine x_iret rfl rfl ?_
    exact hQ _ _ J Sm
  by_cases c7 : l1.toInt = 2
  ·
    refine x_tableIn (tgt := 88) 2 rfl c7 (by decide) (by decide) rfl rfl ?_
    refine x_aloadn (x := 31) rfl rfl ?_
    refine z_getR (N := 13) (b := 87) 11 5 rfl f_11_50 rfl J rfl 3973 ⟨rfl, rfl⟩ rfl ?_
    refine z_getI0 (N := 14) 3 12 rfl f_11_291 rfl J rfl (fun v8 qv8 => ?_)
    have ev8 := jfull v8
    refine x_iret rfl rfl ?_
    exact hQ _ _ J Sm
  refine x_tableOut (tgt := 96) rfl (by omega) rfl ?_
  refine x_aloadn (x := 31) rfl rfl ?_
  refine z_getR (N := 13) (b := 87) 11 5 rfl f_11_50 rfl J rfl 3973 ⟨rfl, rfl⟩ rfl ?_
  refine x_iloadn (x := l2) rfl rfl ?_
  refine x_inv (N := m_X3_rivalsWithin) (As := [.int l2]) (b := 87) (st := []) (d' := 1) (mc := 0) (ms := 0) (host := "") 3 rfl t_X3_rivalsWithin ⟨Or.inl q_11_294, i_X3_rivalsWithin.1, i_X3_rivalsWithin.2⟩ ⟨by decide, rfl⟩ (congrArg Prod.fst (J.1.1 87 (3, 14) rfl)) rfl (by decide) rfl rfl ⟨by decide, by decide⟩ (sf_X3_rivalsWithin_r87  hD J  (fun v10 h J S9 => ?_))
  have ev10 := jfull v10
  have Sm := jSm_tr rfl Sm S9
  show jX m_X11_best 14 0 0 104 [(0, .ref 31), (1, .int l1), (2, .int l2)] [.int v10] _ 0 0 _
  refine x_iret rfl rfl ?_
  exact hQ _ _ J Sm
set_option maxRecDepth 100000 in
set_option maxHeartbeats 4000000 in
theorem sf_X11_best_r31 {Dy : jH → Prop} {h : jH} {Q : Option Value → jH → Prop} {a1 : Int32} {a2 : Int32} (hD : jDk Dy) (J : jJ jSgX Dy h) (hQ : ∀ (v : Int32) h', jJ jSgX Dy h' → jSm fp_X11_best_r31 h h' → Q (some (.int v)) h') : jC m_X11_best 14 0 0 [.ref 31, .int a1, .int a2] h Q := by
  refine jC.of rfl k_X11_best rfl ?_
  have Sm := jSm_rf fp_X11_best_r31 h
  have ea1 := jfull a1
  have ea2 := jfull a2
  show jX m_X11_best 14 0 0 0 [(0, .ref 31), (1, .int a1), (2, .int a2)] [] _ 0 0 _
  refine x_iloadn (x := a1) rfl rfl ?_
  refine x_iflt (tgt := 25) rfl rfl (ti_lt rfl jk_0 ⟨fun c1 => ?_, fun c1 => ?_⟩)
  ·
    exact jX.sub jsb_n (ct_X11_best_r31_25 hD hQ  h J Sm)
  ·
    refine x_iloadn (x := a1) rfl rfl ?_
    refine x_iconst (v := 3) rfl ki_3 ?_
    refine x_icgt (tgt := 25) rfl rfl (ti_gt rfl jk_3 ⟨fun c2 => ?_, fun c2 => ?_⟩)
    ·
      exact jX.sub jsb_n (ct_X11_best_r31_25 hD hQ  h J Sm)
    ·
      refine x_iloadn (x := a1) rfl rfl ?_
      refine x_iconst (v := 3) rfl ki_3 ?_
      refine x_icne (tgt := 27) rfl rfl (ti_ne rfl jk_3 ⟨fun c3 => ?_, fun c3 => ?_⟩)
      ·
        exact jX.sub (jsb_c rfl (jsb_c rfl (jsb_c rfl jsb_n))) (ct_X11_best_r31_27 hD hQ  a1 a2 h (jr_of rfl (by omega)) J Sm)
      ·
        refine x_iloadn (x := a2) rfl rfl ?_
        refine x_iflt (tgt := 25) rfl rfl (ti_lt rfl jk_0 ⟨fun c4 => ?_, fun c4 => ?_⟩)
        ·
          exact jX.sub jsb_n (ct_X11_best_r31_25 hD hQ  h J Sm)
        ·
          refine x_iloadn (x := a2) rfl rfl ?_
          refine x_sipush (v := 1000) rfl ks_1000 ?_
          refine x_icle (tgt := 27) rfl rfl (ti_le rfl jk_1000 ⟨fun c5 => ?_, fun c5 => ?_⟩)
          ·
            exact jX.sub (jsb_c rfl (jsb_c rfl (jsb_c rfl jsb_n))) (ct_X11_best_r31_27 hD hQ  a1 a2 h (jr_of rfl (by omega)) J Sm)
          ·
            exact jX.sub jsb_n (ct_X11_best_r31_25 hD hQ  h J Sm)
def fp_X11_beyond_r31 : jFp := [(78, 13, 14), (82, 0, 600), (83, 0, 600), (84, 0, 200), (86, 0, 3), (98, 10, 11), (98, 11, 12), (98, 13, 14), (98, 14, 15), (98, 15, 16), (101, 0, 3), (102, 0, 40), (103, 0, 40), (104, 0, 40), (105, 0, 3)]
set_option maxRecDepth 100000 in
set_option maxHeartbeats 4000000 in
theorem ct_X11_beyond_r31_25 {Dy : jH → Prop} {h0 : jH} {Q : Option Value → jH → Prop} (hD : jDk Dy) (hQ : ∀ (v : Int32) h', jJ jSgX Dy h' → jSm fp_X11_beyond_r31 h0 h' → Q (some (.int v)) h') : ∀ (h : jH), jJ jSgX Dy h → jSm fp_X11_beyond_r31 h0 h → jX m_X11_beyond 8 0 0 25 [] [] h 0 0 Q := by
  intro  h    J Sm
  refine x_iconst (v := (-1)) rfl ki_m1 ?_
  refine x_iret rfl rfl ?_
  exact hQ _ _ J Sm
set_option maxRecDepth 100000 in
set_option maxHeartbeats 4000000 in
theorem sf_X11_beyond_r31 {Dy : jH → Prop} {h : jH} {Q : Option Value → jH → Prop} {a1 : Int32} {a2 : Int32} (hD : jDk Dy) (J : jJ jSgX Dy h) (hQ : ∀ (v : Int32) h', jJ jSgX Dy h' → jSm fp_X11_beyond_r31 h h' → Q (some (.int v)) h') : jC m_X11_beyond 8 0 0 [.ref 31, .int a1, .int a2] h Q := by
  refine jC.of rfl k_X11_beyond rfl ?_
  have Sm := jSm_rf fp_X11_beyond_r31 h
  have ea1 := jfull a1
  have ea2 := jfull a2
  show jX m_X11_beyond 8 0 0 0 [(0, .ref 31), (1, .int a1), (2, .int a2)] [] _ 0 0 _
  refine x_aloadn (x := 31) rfl rfl ?_
  refine x_iloadn (x := a1) rfl rfl ?_
  refine x_iloadn (x := a2) rfl rfl ?_
  refine x_inv (N := m_X11_isKnownLine) (As := [.int a1, .int a2]) (b := 31) (st := []) (d' := 7) (mc := 0) (ms := 0) (host := "") 11 rfl t_X11_isKnownLine ⟨Or.inl q_11_393, i_X11_isKnownLine.1, i_X11_isKnownLine.2⟩ ⟨by decide, rfl⟩ (congrArg Prod.fst (J.1.1 31 (11, 13) rfl)) rfl (by decide) rfl rfl ⟨by decide, by decide⟩ (jC.of rfl k_X11_isKnownLine rfl ?_)
  show jX m_X11_isKnownLine 7 0 0 0 [(0, .ref 31), (1, .int a1), (2, .int a2)] [] _ 0 0 _
  refine x_iloadn (x := a2) rfl rfl ?_
  refine x_inst (N := m_X11_isDay) (As := [.int a2]) (st := []) (d' := 1) (mc := 0) (ms := 0) (host := "") rfl t_X11_isDay ⟨Or.inl q_11_115, s_X11_isDay⟩ rfl (by decide) rfl rfl ⟨by decide, by decide⟩ (zc_X11_isDay rfl (fun v1 ev1 => ?_))
  show jX m_X11_isKnownLine 7 0 0 4 [(0, .ref 31), (1, .int a1), (2, .int a2)] [.int v1] _ 0 0 _
  refine x_ifeq (tgt := 26) rfl rfl (ti_eq rfl jk_0 ⟨fun c2 => ?_, fun c2 => ?_⟩)
  ·
    refine x_iconst (v := 0) rfl ki_0 ?_
    refine x_zret rfl rfl (by decide) ?_
    show jX m_X11_beyond 8 0 0 6 [(0, .ref 31), (1, .int a1), (2, .int a2)] [.int 0] _ 0 0 _
    refine x_ifeq (tgt := 25) rfl rfl (ti_eq jk_0 jk_0 (br_t (by omega) ?_))
    exact jX.sub jsb_n (ct_X11_beyond_r31_25 hD hQ  h J Sm)
  ·
    refine x_aloadn (x := 31) rfl rfl ?_
    refine z_getR (N := 13) (b := 32) 11 0 rfl f_11_10 rfl J rfl 3968 ⟨rfl, rfl⟩ rfl ?_
    refine z_getR (N := 20) (b := 33) 1 0 rfl f_11_126 rfl J rfl 4096 ⟨rfl, rfl⟩ rfl ?_
    refine x_iloadn (x := a1) rfl rfl ?_
    refine x_iloadn (x := a2) rfl rfl ?_
    refine x_inv (N := m_X8_isKnown) (As := [.int a1, .int a2]) (b := 33) (st := []) (d' := 1) (mc := 0) (ms := 0) (host := "") 8 rfl t_X8_isKnown ⟨Or.inl q_11_440, i_X8_isKnown.1, i_X8_isKnown.2⟩ ⟨by decide, rfl⟩ (congrArg Prod.fst (J.1.1 33 (8, 4) rfl)) rfl (by decide) rfl rfl ⟨by decide, by decide⟩ (sf_X8_isKnown_r33 (jr_of rfl (by omega)) hD J  (fun v4 h ev4 J S3 => ?_))
    have Sm := jSm_tr rfl Sm S3
    show jX m_X11_isKnownLine 7 0 0 19 [(0, .ref 31), (1, .int a1), (2, .int a2)] [.int v4] _ 0 0 _
    refine x_ifeq (tgt := 26) rfl rfl (ti_eq rfl jk_0 ⟨fun c5 => ?_, fun c5 => ?_⟩)
    ·
      refine x_iconst (v := 0) rfl ki_0 ?_
      refine x_zret rfl rfl (by decide) ?_
      show jX m_X11_beyond 8 0 0 6 [(0, .ref 31), (1, .int a1), (2, .int a2)] [.int 0] _ 0 0 _
      refine x_ifeq (tgt := 25) rfl rfl (ti_eq jk_0 jk_0 (br_t (by omega) ?_))
      exact jX.sub jsb_n (ct_X11_beyond_r31_25 hD hQ  h J Sm)
    ·
      refine x_iconst (v := 1) rfl ki_1 ?_
      refine x_goto (tgt := 27) rfl rfl ?_
      refine x_zret rfl rfl (by decide) ?_
      show jX m_X11_beyond 8 0 0 6 [(0, .ref 31), (1, .int a1), (2, .int a2)] [.int 1] _ 0 0 _
      refine x_ifeq (tgt := 25) rfl rfl (ti_eq jk_1 jk_0 (br_f (by omega) ?_))
      refine x_aloadn (x := 31) rfl rfl ?_
      refine z_getR (N := 13) (b := 32) 11 0 rfl f_11_10 rfl J rfl 3968 ⟨rfl, rfl⟩ rfl ?_
      refine z_getR (N := 20) (b := 33) 1 0 rfl f_11_126 rfl J rfl 4096 ⟨rfl, rfl⟩ rfl ?_
      refine x_iloadn (x := a1) rfl rfl ?_
      refine x_iconst (v := 2) rfl ki_2 ?_
      refine x_inv (N := m_X8_at) (As := [.int a1, .int 2]) (b := 33) (st := []) (d' := 1) (mc := 0) (ms := 0) (host := "") 8 rfl t_X8_at ⟨Or.inl q_11_171, i_X8_at.1, i_X8_at.2⟩ ⟨by decide, rfl⟩ (congrArg Prod.fst (J.1.1 33 (8, 4) rfl)) rfl (by decide) rfl rfl ⟨by decide, by decide⟩ (sf_X8_at_r33_c2  hD J  (fun v7 h ev7 J S6 => ?_))
      have Sm := jSm_tr rfl Sm S6
      show jX m_X11_beyond 8 0 0 21 [(0, .ref 31), (1, .int a1), (2, .int a2)] [.int v7] _ 0 0 _
      refine x_iconst (v := 4) rfl ki_4 ?_
      refine x_iceq (tgt := 27) rfl rfl (ti_eq rfl jk_4 ⟨fun c8 => ?_, fun c8 => ?_⟩)
      ·
        refine x_aloadn (x := 31) rfl rfl ?_
        refine x_iloadn (x := a1) rfl rfl ?_
        refine x_iconst (v := 3) rfl ki_3 ?_
        refine z_imul0 rfl (fun v9 => ?_)
        have ev9 := jfull v9
        refine x_iloadn (x := a2) rfl rfl ?_
        refine x_inv (N := m_X11_soulOn) (As := [.int v9, .int a2]) (b := 31) (st := []) (d' := 7) (mc := 0) (ms := 0) (host := "") 11 rfl t_X11_soulOn ⟨Or.inl q_11_234, i_X11_soulOn.1, i_X11_soulOn.2⟩ ⟨by decide, rfl⟩ (congrArg Prod.fst (J.1.1 31 (11, 13) rfl)) rfl (by decide) rfl rfl ⟨by decide, by decide⟩ (jC.of rfl k_X11_soulOn rfl ?_)
        show jX m_X11_soulOn 7 0 0 0 [(0, .ref 31), (1, .int v9), (2, .int a2)] [] _ 0 0 _
        refine x_iloadn (x := a2) rfl rfl ?_
        refine x_inst (N := m_X11_isDay) (As := [.int a2]) (st := []) (d' := 1) (mc := 0) (ms := 0) (host := "") rfl t_X11_isDay ⟨Or.inl q_11_115, s_X11_isDay⟩ rfl (by decide) rfl rfl ⟨by decide, by decide⟩ (zc_X11_isDay rfl (fun v10 ev10 => ?_))
        show jX m_X11_soulOn 7 0 0 4 [(0, .ref 31), (1, .int v9), (2, .int a2)] [.int v10] _ 0 0 _
        refine x_ifeq (tgt := 18) rfl rfl (ti_eq rfl jk_0 ⟨fun c11 => ?_, fun c11 => ?_⟩)
        ·
          refine x_iconst (v := (-1)) rfl ki_m1 ?_
          refine x_iret rfl rfl ?_
          show jX m_X11_beyond 8 0 0 35 [(0, .ref 31), (1, .int a1), (2, .int a2)] [.int (-1)] _ 0 0 _
          refine x_istoren (ls' := [(3, .int (-1)), (0, .ref 31), (1, .int a1), (2, .int a2)]) rfl rfl rfl ?_
          refine x_aloadn (x := 31) rfl rfl ?_
          refine z_getR (N := 13) (b := 98) 11 7 rfl f_11_66 rfl J rfl 3975 ⟨rfl, rfl⟩ rfl ?_
          refine x_aloadn (x := 31) rfl rfl ?_
          refine z_getR (N := 13) (b := 32) 11 0 rfl f_11_10 rfl J rfl 3968 ⟨rfl, rfl⟩ rfl ?_
          refine z_getR (N := 20) (b := 33) 1 0 rfl f_11_126 rfl J rfl 4096 ⟨rfl, rfl⟩ rfl ?_
          refine x_iloadn (x := a1) rfl rfl ?_
          refine x_iconst (v := 1) rfl ki_1 ?_
          refine x_inv (N := m_X8_at) (As := [.int a1, .int 1]) (b := 33) (st := [.ref 98]) (d' := 1) (mc := 0) (ms := 0) (host := "") 8 rfl t_X8_at ⟨Or.inl q_11_171, i_X8_at.1, i_X8_at.2⟩ ⟨by decide, rfl⟩ (congrArg Prod.fst (J.1.1 33 (8, 4) rfl)) rfl (by decide) rfl rfl ⟨by decide, by decide⟩ (sf_X8_at_r33_c1  hD J  (fun v13 h ev13 J S12 => ?_))
          have Sm := jSm_tr rfl Sm S12
          show jX m_X11_beyond 8 0 0 52 [(3, .int (-1)), (0, .ref 31), (1, .int a1), (2, .int a2)] [.int v13, .ref 98] _ 0 0 _
          refine x_iloadn (x := a2) rfl rfl ?_
          refine x_inv (N := m_X0_turnTo) (As := [.int v13, .int a2]) (b := 98) (st := []) (d' := 7) (mc := 0) (ms := 0) (host := "") 0 rfl t_X0_turnTo ⟨Or.inl q_11_345, i_X0_turnTo.1, i_X0_turnTo.2⟩ ⟨by decide, rfl⟩ (congrArg Prod.fst (J.1.1 98 (0, 16) rfl)) rfl (by decide) rfl rfl ⟨by decide, by decide⟩ (jC.of rfl k_X0_turnTo rfl ?_)
          show jX m_X0_turnTo 7 0 0 0 [(0, .ref 98), (1, .int v13), (2, .int a2)] [] _ 0 0 _
          refine x_aloadn (x := 98) rfl rfl ?_
          refine x_iloadn (x := v13) rfl rfl ?_
          refine x_iloadn (x := a2) rfl rfl ?_
          refine x_inv (N := m_X0_readLaws) (As := [.int v13, .int a2]) (b := 98) (st := []) (d' := 2) (mc := 0) (ms := 0) (host := "") 0 rfl t_X0_readLaws ⟨Or.inl q_0_65, i_X0_readLaws.1, i_X0_readLaws.2⟩ ⟨by decide, rfl⟩ (congrArg Prod.fst (J.1.1 98 (0, 16) rfl)) rfl (by decide) rfl rfl ⟨by decide, by decide⟩ (sf_X0_readLaws_r98 (jr_of rfl (by omega)) (jr_of rfl (by omega)) hD J  (fun h J S14 => ?_))
          have Sm := jSm_tr rfl Sm S14
          show jX m_X0_turnTo 7 0 0 6 [(0, .ref 98), (1, .int v13), (2, .int a2)] [] _ 0 0 _
          refine x_aloadn (x := 98) rfl rfl ?_
          refine x_iloadn (x := v13) rfl rfl ?_
          refine x_iloadn (x := a2) rfl rfl ?_
          refine x_inv (N := m_X0_readHouses) (As := [.int v13, .int a2]) (b := 98) (st := []) (d' := 3) (mc := 0) (ms := 0) (host := "") 0 rfl t_X0_readHouses ⟨Or.inl q_0_69, i_X0_readHouses.1, i_X0_readHouses.2⟩ ⟨by decide, rfl⟩ (congrArg Prod.fst (J.1.1 98 (0, 16) rfl)) rfl (by decide) rfl rfl ⟨by decide, by decide⟩ (sf_X0_readHouses_r98 (jr_of rfl (by omega)) (jr_of rfl (by omega)) hD J  (fun h J S15 => ?_))
          have Sm := jSm_tr rfl Sm S15
          show jX m_X0_turnTo 7 0 0 12 [(0, .ref 98), (1, .int v13), (2, .int a2)] [] _ 0 0 _
          refine x_vret rfl rfl ?_
          show jX m_X11_beyond 8 0 0 56 [(3, .int (-1)), (0, .ref 31), (1, .int a1), (2, .int a2)] [] _ 0 0 _
          refine x_aloadn (x := 31) rfl rfl ?_
          refine z_getR (N := 13) (b := 98) 11 7 rfl f_11_66 rfl J rfl 3975 ⟨rfl, rfl⟩ rfl ?_
          refine x_iconst (v := 3) rfl ki_3 ?_
          refine x_iconst (v := 0) rfl ki_0 ?_
          refine x_iloadn (x := (-1)) rfl rfl ?_
          refine x_inv (N := m_X0_weigh) (As := [.int 3, .int 0, .int (-1)]) (b := 98) (st := []) (d' := 1) (mc := 0) (ms := 0) (host := "") 0 rfl t_X0_weigh ⟨Or.inl q_11_359, i_X0_weigh.1, i_X0_weigh.2⟩ ⟨by decide, rfl⟩ (congrArg Prod.fst (J.1.1 98 (0, 16) rfl)) rfl (by decide) rfl rfl ⟨by decide, by decide⟩ (sf_X0_weigh_r98 (jr_of jk_3 (by omega)) (jr_of jk_0 (by omega)) (jr_of jk_m1 (by omega)) hD J  (fun v17 h ev17 J S16 => ?_))
          have Sm := jSm_tr rfl Sm S16
          show jX m_X11_beyond 8 0 0 66 [(3, .int (-1)), (0, .ref 31), (1, .int a1), (2, .int a2)] [.int v17] _ 0 0 _
          refine x_pop rfl rfl ?_
          refine x_aloadn (x := 31) rfl rfl ?_
          refine z_getR (N := 13) (b := 32) 11 0 rfl f_11_10 rfl J rfl 3968 ⟨rfl, rfl⟩ rfl ?_
          refine z_getR (N := 20) (b := 33) 1 0 rfl f_11_126 rfl J rfl 4096 ⟨rfl, rfl⟩ rfl ?_
          refine x_iloadn (x := a1) rfl rfl ?_
          refine x_iconst (v := 4) rfl ki_4 ?_
          refine x_inv (N := m_X8_at) (As := [.int a1, .int 4]) (b := 33) (st := []) (d' := 1) (mc := 0) (ms := 0) (host := "") 8 rfl t_X8_at ⟨Or.inl q_11_171, i_X8_at.1, i_X8_at.2⟩ ⟨by decide, rfl⟩ (congrArg Prod.fst (J.1.1 33 (8, 4) rfl)) rfl (by decide) rfl rfl ⟨by decide, by decide⟩ (sf_X8_at_r33_c4  hD J  (fun v19 h J S18 => ?_))
          have ev19 := jfull v19
          have Sm := jSm_tr rfl Sm S18
          show jX m_X11_beyond 8 0 0 79 [(3, .int (-1)), (0, .ref 31), (1, .int a1), (2, .int a2)] [.int v19] _ 0 0 _
          refine z_i2l rfl rfl (fun v20 ev20 => ?_)
          refine x_lconst (v := 0) rfl kl_0 ?_
          refine x_aloadn (x := 31) rfl rfl ?_
          refine z_getR (N := 13) (b := 98) 11 7 rfl f_11_66 rfl J rfl 3975 ⟨rfl, rfl⟩ rfl ?_
          refine z_getL0 (N := 16) 0 14 rfl f_11_362 rfl J rfl (fun v21 => ?_)
          have ev21 := jfullL v21
          refine z_lmax rfl q_11_485 (by decide) rfl jkl_0 rfl (fun v22 ev22 => ?_)
          refine z_lsub0 rfl (fun v23 => ?_)
          have ev23 := jfullL v23
          refine x_lstore (ls' := [(4, .long v23), (3, .int (-1)), (0, .ref 31), (1, .int a1), (2, .int a2)]) rfl rfl rfl ?_
          refine x_lconst (v := 0) rfl kl_0 ?_
          refine x_lload (x := v23) rfl rfl ?_
          refine z_lmax rfl q_11_485 (by decide) rfl jkl_0 rfl (fun v24 ev24 => ?_)
          refine z_l2i0 rfl (fun v25 => ?_)
          refine x_iret rfl rfl ?_
          exact hQ _ _ J Sm
        ·
          refine x_aloadn (x := 31) rfl rfl ?_
          refine z_getR (N := 13) (b := 78) 11 4 rfl f_11_41 rfl J rfl 3972 ⟨rfl, rfl⟩ rfl ?_
          refine x_iloadn (x := v9) rfl rfl ?_
          refine x_inv (N := m_X7_isMention) (As := [.int v9]) (b := 78) (st := []) (d' := 6) (mc := 0) (ms := 0) (host := "") 7 rfl t_X7_isMention ⟨Or.inl q_11_187, i_X7_isMention.1, i_X7_isMention.2⟩ ⟨by decide, rfl⟩ (congrArg Prod.fst (J.1.1 78 (7, 16) rfl)) rfl (by decide) rfl rfl ⟨by decide, by decide⟩ (jC.of rfl k_X7_isMention rfl ?_)
          show jX m_X7_isMention 6 0 0 0 [(0, .ref 78), (1, .int v9)] [] _ 0 0 _
          refine x_iloadn (x := v9) rfl rfl ?_
          refine x_iflt (tgt := 41) rfl rfl (ti_lt rfl jk_0 ⟨fun c26 => ?_, fun c26 => ?_⟩)
          ·
            refine x_iconst (v := 0) rfl ki_0 ?_
            refine x_zret rfl rfl (by decide) ?_
            show jX m_X11_soulOn 7 0 0 15 [(0, .ref 31), (1, .int v9), (2, .int a2)] [.int 0] _ 0 0 _
            refine x_ifne (tgt := 20) rfl rfl (ti_ne jk_0 jk_0 (bn_f (by omega) ?_))
            refine x_iconst (v := (-1)) rfl ki_m1 ?_
            refine x_iret rfl rfl ?_
            show jX m_X11_beyond 8 0 0 35 [(0, .ref 31), (1, .int a1), (2, .int a2)] [.int (-1)] _ 0 0 _
            refine x_istoren (ls' := [(3, .int (-1)), (0, .ref 31), (1, .int a1), (2, .int a2)]) rfl rfl rfl ?_
            refine x_aloadn (x := 31) rfl rfl ?_
            refine z_getR (N := 13) (b := 98) 11 7 rfl f_11_66 rfl J rfl 3975 ⟨rfl, rfl⟩ rfl ?_
            refine x_aloadn (x := 31) rfl rfl ?_
            refine z_getR (N := 13) (b := 32) 11 0 rfl f_11_10 rfl J rfl 3968 ⟨rfl, rfl⟩ rfl ?_
            refine z_getR (N := 20) (b := 33) 1 0 rfl f_11_126 rfl J rfl 4096 ⟨rfl, rfl⟩ rfl ?_
            refine x_iloadn (x := a1) rfl rfl ?_
            refine x_iconst (v := 1) rfl ki_1 ?_
            refine x_inv (N := m_X8_at) (As := [.int a1, .int 1]) (b := 33) (st := [.ref 98]) (d' := 1) (mc := 0) (ms := 0) (host := "") 8 rfl t_X8_at ⟨Or.inl q_11_171, i_X8_at.1, i_X8_at.2⟩ ⟨by decide, rfl⟩ (congrArg Prod.fst (J.1.1 33 (8, 4) rfl)) rfl (by decide) rfl rfl ⟨by decide, by decide⟩ (sf_X8_at_r33_c1  hD J  (fun v28 h ev28 J S27 => ?_))
            have Sm := jSm_tr rfl Sm S27
            show jX m_X11_beyond 8 0 0 52 [(3, .int (-1)), (0, .ref 31), (1, .int a1), (2, .int a2)] [.int v28, .ref 98] _ 0 0 _
            refine x_iloadn (x := a2) rfl rfl ?_
            refine x_inv (N := m_X0_turnTo) (As := [.int v28, .int a2]) (b := 98) (st := []) (d' := 7) (mc := 0) (ms := 0) (host := "") 0 rfl t_X0_turnTo ⟨Or.inl q_11_345, i_X0_turnTo.1, i_X0_turnTo.2⟩ ⟨by decide, rfl⟩ (congrArg Prod.fst (J.1.1 98 (0, 16) rfl)) rfl (by decide) rfl rfl ⟨by decide, by decide⟩ (jC.of rfl k_X0_turnTo rfl ?_)
            show jX m_X0_turnTo 7 0 0 0 [(0, .ref 98), (1, .int v28), (2, .int a2)] [] _ 0 0 _
            refine x_aloadn (x := 98) rfl rfl ?_
            refine x_iloadn (x := v28) rfl rfl ?_
            refine x_iloadn (x := a2) rfl rfl ?_
            refine x_inv (N := m_X0_readLaws) (As := [.int v28, .int a2]) (b := 98) (st := []) (d' := 2) (mc := 0) (ms := 0) (host := "") 0 rfl t_X0_readLaws ⟨Or.inl q_0_65, i_X0_readLaws.1, i_X0_readLaws.2⟩ ⟨by decide, rfl⟩ (congrArg Prod.fst (J.1.1 98 (0, 16) rfl)) rfl (by decide) rfl rfl ⟨by decide, by decide⟩ (sf_X0_readLaws_r98 (jr_of rfl (by omega)) (jr_of rfl (by omega)) hD J  (fun h J S29 => ?_))
            have Sm := jSm_tr rfl Sm S29
            show jX m_X0_turnTo 7 0 0 6 [(0, .ref 98), (1, .int v28), (2, .int a2)] [] _ 0 0 _
            refine x_aloadn (x := 98) rfl rfl ?_
            refine x_iloadn (x := v28) rfl rfl ?_
            refine x_iloadn (x := a2) rfl rfl ?_
            refine x_inv (N := m_X0_readHouses) (As := [.int v28, .int a2]) (b := 98) (st := []) (d' := 3) (mc := 0) (ms := 0) (host := "") 0 rfl t_X0_readHouses ⟨Or.inl q_0_69, i_X0_readHouses.1, i_X0_readHouses.2⟩ ⟨by decide, rfl⟩ (congrArg Prod.fst (J.1.1 98 (0, 16) rfl)) rfl (by decide) rfl rfl ⟨by decide, by decide⟩ (sf_X0_readHouses_r98 (jr_of rfl (by omega)) (jr_of rfl (by omega)) hD J  (fun h J S30 => ?_))
            have Sm := jSm_tr rfl Sm S30
            show jX m_X0_turnTo 7 0 0 12 [(0, .ref 98), (1, .int v28), (2, .int a2)] [] _ 0 0 _
            refine x_vret rfl rfl ?_
            show jX m_X11_beyond 8 0 0 56 [(3, .int (-1)), (0, .ref 31), (1, .int a1), (2, .int a2)] [] _ 0 0 _
            refine x_aloadn (x := 31) rfl rfl ?_
            refine z_getR (N := 13) (b := 98) 11 7 rfl f_11_66 rfl J rfl 3975 ⟨rfl, rfl⟩ rfl ?_
            refine x_iconst (v := 3) rfl ki_3 ?_
            refine x_iconst (v := 0) rfl ki_0 ?_
            refine x_iloadn (x := (-1)) rfl rfl ?_
            refine x_inv (N := m_X0_weigh) (As := [.int 3, .int 0, .int (-1)]) (b := 98) (st := []) (d' := 1) (mc := 0) (ms := 0) (host := "") 0 rfl t_X0_weigh ⟨Or.inl q_11_359, i_X0_weigh.1, i_X0_weigh.2⟩ ⟨by decide, rfl⟩ (congrArg Prod.fst (J.1.1 98 (0, 16) rfl)) rfl (by decide) rfl rfl ⟨by decide, by decide⟩ (sf_X0_weigh_r98 (jr_of jk_3 (by omega)) (jr_of jk_0 (by omega)) (jr_of jk_m1 (by omega)) hD J  (fun v32 h ev32 J S31 => ?_))
            have Sm := jSm_tr rfl Sm S31
            show jX m_X11_beyond 8 0 0 66 [(3, .int (-1)), (0, .ref 31), (1, .int a1), (2, .int a2)] [.int v32] _ 0 0 _
            refine x_pop rfl rfl ?_
            refine x_aloadn (x := 31) rfl rfl ?_
            refine z_getR (N := 13) (b := 32) 11 0 rfl f_11_10 rfl J rfl 3968 ⟨rfl, rfl⟩ rfl ?_
            refine z_getR (N := 20) (b := 33) 1 0 rfl f_11_126 rfl J rfl 4096 ⟨rfl, rfl⟩ rfl ?_
            refine x_iloadn (x := a1) rfl rfl ?_
            refine x_iconst (v := 4) rfl ki_4 ?_
            refine x_inv (N := m_X8_at) (As := [.int a1, .int 4]) (b := 33) (st := []) (d' := 1) (mc := 0) (ms := 0) (host := "") 8 rfl t_X8_at ⟨Or.inl q_11_171, i_X8_at.1, i_X8_at.2⟩ ⟨by decide, rfl⟩ (congrArg Prod.fst (J.1.1 33 (8, 4) rfl)) rfl (by decide) rfl rfl ⟨by decide, by decide⟩ (sf_X8_at_r33_c4  hD J  (fun v34 h J S33 => ?_))
            have ev34 := jfull v34
            have Sm := jSm_tr rfl Sm S33
            show jX m_X11_beyond 8 0 0 79 [(3, .int (-1)), (0, .ref 31), (1, .int a1), (2, .int a2)] [.int v34] _ 0 0 _
            refine z_i2l rfl rfl (fun v35 ev35 => ?_)
            refine x_lconst (v := 0) rfl kl_0 ?_
            refine x_aloadn (x := 31) rfl rfl ?_
            refine z_getR (N := 13) (b := 98) 11 7 rfl f_11_66 rfl J rfl 3975 ⟨rfl, rfl⟩ rfl ?_
            refine z_getL0 (N := 16) 0 14 rfl f_11_362 rfl J rfl (fun v36 => ?_)
            have ev36 := jfullL v36
            refine z_lmax rfl q_11_485 (by decide) rfl jkl_0 rfl (fun v37 ev37 => ?_)
            refine z_lsub0 rfl (fun v38 => ?_)
            have ev38 := jfullL v38
            refine x_lstore (ls' := [(4, .long v38), (3, .int (-1)), (0, .ref 31), (1, .int a1), (2, .int a2)]) rfl rfl rfl ?_
            refine x_lconst (v := 0) rfl kl_0 ?_
            refine x_lload (x := v38) rfl rfl ?_
            refine z_lmax rfl q_11_485 (by decide) rfl jkl_0 rfl (fun v39 ev39 => ?_)
            refine z_l2i0 rfl (fun v40 => ?_)
            refine x_iret rfl rfl ?_
            exact hQ _ _ J Sm
          ·
            refine x_iloadn (x := v9) rfl rfl ?_
            refine x_sipush (v := 600) rfl ks_600 ?_
            refine x_icge (tgt := 41) rfl rfl (ti_ge rfl jk_600 ⟨fun c41 => ?_, fun c41 => ?_⟩)
            ·
              refine x_iconst (v := 0) rfl ki_0 ?_
              refine x_zret rfl rfl (by decide) ?_
              show jX m_X11_soulOn 7 0 0 15 [(0, .ref 31), (1, .int v9), (2, .int a2)] [.int 0] _ 0 0 _
              refine x_ifne (tgt := 20) rfl rfl (ti_ne jk_0 jk_0 (bn_f (by omega) ?_))
              refine x_iconst (v := (-1)) rfl ki_m1 ?_
              refine x_iret rfl rfl ?_
              show jX m_X11_beyond 8 0 0 35 [(0, .ref 31), (1, .int a1), (2, .int a2)] [.int (-1)] _ 0 0 _
              refine x_istoren (ls' := [(3, .int (-1)), (0, .ref 31), (1, .int a1), (2, .int a2)]) rfl rfl rfl ?_
              refine x_aloadn (x := 31) rfl rfl ?_
              refine z_getR (N := 13) (b := 98) 11 7 rfl f_11_66 rfl J rfl 3975 ⟨rfl, rfl⟩ rfl ?_
              refine x_aloadn (x := 31) rfl rfl ?_
              refine z_getR (N := 13) (b := 32) 11 0 rfl f_11_10 rfl J rfl 3968 ⟨rfl, rfl⟩ rfl ?_
              refine z_getR (N := 20) (b := 33) 1 0 rfl f_11_126 rfl J rfl 4096 ⟨rfl, rfl⟩ rfl ?_
              refine x_iloadn (x := a1) rfl rfl ?_
              refine x_iconst (v := 1) rfl ki_1 ?_
              refine x_inv (N := m_X8_at) (As := [.int a1, .int 1]) (b := 33) (st := [.ref 98]) (d' := 1) (mc := 0) (ms := 0) (host := "") 8 rfl t_X8_at ⟨Or.inl q_11_171, i_X8_at.1, i_X8_at.2⟩ ⟨by decide, rfl⟩ (congrArg Prod.fst (J.1.1 33 (8, 4) rfl)) rfl (by decide) rfl rfl ⟨by decide, by decide⟩ (sf_X8_at_r33_c1  hD J  (fun v43 h ev43 J S42 => ?_))
              have Sm := jSm_tr rfl Sm S42
              show jX m_X11_beyond 8 0 0 52 [(3, .int (-1)), (0, .ref 31), (1, .int a1), (2, .int a2)] [.int v43, .ref 98] _ 0 0 _
              refine x_iloadn (x := a2) rfl rfl ?_
              refine x_inv (N := m_X0_turnTo) (As := [.int v43, .int a2]) (b := 98) (st := []) (d' := 7) (mc := 0) (ms := 0) (host := "") 0 rfl t_X0_turnTo ⟨Or.inl q_11_345, i_X0_turnTo.1, i_X0_turnTo.2⟩ ⟨by decide, rfl⟩ (congrArg Prod.fst (J.1.1 98 (0, 16) rfl)) rfl (by decide) rfl rfl ⟨by decide, by decide⟩ (jC.of rfl k_X0_turnTo rfl ?_)
              show jX m_X0_turnTo 7 0 0 0 [(0, .ref 98), (1, .int v43), (2, .int a2)] [] _ 0 0 _
              refine x_aloadn (x := 98) rfl rfl ?_
              refine x_iloadn (x := v43) rfl rfl ?_
              refine x_iloadn (x := a2) rfl rfl ?_
              refine x_inv (N := m_X0_readLaws) (As := [.int v43, .int a2]) (b := 98) (st := []) (d' := 2) (mc := 0) (ms := 0) (host := "") 0 rfl t_X0_readLaws ⟨Or.inl q_0_65, i_X0_readLaws.1, i_X0_readLaws.2⟩ ⟨by decide, rfl⟩ (congrArg Prod.fst (J.1.1 98 (0, 16) rfl)) rfl (by decide) rfl rfl ⟨by decide, by decide⟩ (sf_X0_readLaws_r98 (jr_of rfl (by omega)) (jr_of rfl (by omega)) hD J  (fun h J S44 => ?_))
              have Sm := jSm_tr rfl Sm S44
              show jX m_X0_turnTo 7 0 0 6 [(0, .ref 98), (1, .int v43), (2, .int a2)] [] _ 0 0 _
              refine x_aloadn (x := 98) rfl rfl ?_
              refine x_iloadn (x := v43) rfl rfl ?_
              refine x_iloadn (x := a2) rfl rfl ?_
              refine x_inv (N := m_X0_readHouses) (As := [.int v43, .int a2]) (b := 98) (st := []) (d' := 3) (mc := 0) (ms := 0) (host := "") 0 rfl t_X0_readHouses ⟨Or.inl q_0_69, i_X0_readHouses.1, i_X0_readHouses.2⟩ ⟨by decide, rfl⟩ (congrArg Prod.fst (J.1.1 98 (0, 16) rfl)) rfl (by decide) rfl rfl ⟨by decide, by decide⟩ (sf_X0_readHouses_r98 (jr_of rfl (by omega)) (jr_of rfl (by omega)) hD J  (fun h J S45 => ?_))
              have Sm := jSm_tr rfl Sm S45
              show jX m_X0_turnTo 7 0 0 12 [(0, .ref 98), (1, .int v43), (2, .int a2)] [] _ 0 0 _
              refine x_vret rfl rfl ?_
              show jX m_X11_beyond 8 0 0 56 [(3, .int (-1)), (0, .ref 31), (1, .int a1), (2, .int a2)] [] _ 0 0 _
              refine x_aloadn (x := 31) rfl rfl ?_
              refine z_getR (N := 13) (b := 98) 11 7 rfl f_11_66 rfl J rfl 3975 ⟨rfl, rfl⟩ rfl ?_
              refine x_iconst (v := 3) rfl ki_3 ?_
              refine x_iconst (v := 0) rfl ki_0 ?_
              refine x_iloadn (x := (-1)) rfl rfl ?_
              refine x_inv (N := m_X0_weigh) (As := [.int 3, .int 0, .int (-1)]) (b := 98) (st := []) (d' := 1) (mc := 0) (ms := 0) (host := "") 0 rfl t_X0_weigh ⟨Or.inl q_11_359, i_X0_weigh.1, i_X0_weigh.2⟩ ⟨by decide, rfl⟩ (congrArg Prod.fst (J.1.1 98 (0, 16) rfl)) rfl (by decide) rfl rfl ⟨by decide, by decide⟩ (sf_X0_weigh_r98 (jr_of jk_3 (by omega)) (jr_of jk_0 (by omega)) (jr_of jk_m1 (by omega)) hD J  (fun v47 h ev47 J S46 => ?_))
              have Sm := jSm_tr rfl Sm S46
              show jX m_X11_beyond 8 0 0 66 [(3, .int (-1)), (0, .ref 31), (1, .int a1), (2, .int a2)] [.int v47] _ 0 0 _
              refine x_pop rfl rfl ?_
              refine x_aloadn (x := 31) rfl rfl ?_
              refine z_getR (N := 13) (b := 32) 11 0 rfl f_11_10 rfl J rfl 3968 ⟨rfl, rfl⟩ rfl ?_
              refine z_getR (N := 20) (b := 33) 1 0 rfl f_11_126 rfl J rfl 4096 ⟨rfl, rfl⟩ rfl ?_
              refine x_iloadn (x := a1) rfl rfl ?_
              refine x_iconst (v := 4) rfl ki_4 ?_
              refine x_inv (N := m_X8_at) (As := [.int a1, .int 4]) (b := 33) (st := []) (d' := 1) (mc := 0) (ms := 0) (host := "") 8 rfl t_X8_at ⟨Or.inl q_11_171, i_X8_at.1, i_X8_at.2⟩ ⟨by decide, rfl⟩ (congrArg Prod.fst (J.1.1 33 (8, 4) rfl)) rfl (by decide) rfl rfl ⟨by decide, by decide⟩ (sf_X8_at_r33_c4  hD J  (fun v49 h J S48 => ?_))
              have ev49 := jfull v49
              have Sm := jSm_tr rfl Sm S48
              show jX m_X11_beyond 8 0 0 79 [(3, .int (-1)), (0, .ref 31), (1, .int a1), (2, .int a2)] [.int v49] _ 0 0 _
              refine z_i2l rfl rfl (fun v50 ev50 => ?_)
              refine x_lconst (v := 0) rfl kl_0 ?_
              refine x_aloadn (x := 31) rfl rfl ?_
              refine z_getR (N := 13) (b := 98) 11 7 rfl f_11_66 rfl J rfl 3975 ⟨rfl, rfl⟩ rfl ?_
              refine z_getL0 (N := 16) 0 14 rfl f_11_362 rfl J rfl (fun v51 => ?_)
              have ev51 := jfullL v51
              refine z_lmax rfl q_11_485 (by decide) rfl jkl_0 rfl (fun v52 ev52 => ?_)
              refine z_lsub0 rfl (fun v53 => ?_)
              have ev53 := jfullL v53
              refine x_lstore (ls' := [(4, .long v53), (3, .int (-1)), (0, .ref 31), (1, .int a1), (2, .int a2)]) rfl rfl rfl ?_
              refine x_lconst (v := 0) rfl kl_0 ?_
              refine x_lload (x := v53) rfl rfl ?_
              refine z_lmax rfl q_11_485 (by decide) rfl jkl_0 rfl (fun v54 ev54 => ?_)
              refine z_l2i0 rfl (fun v55 => ?_)
              refine x_iret rfl rfl ?_
              exact hQ _ _ J Sm
            ·
              refine x_iloadn (x := v9) rfl rfl ?_
              refine x_iconst (v := 3) rfl ki_3 ?_
              refine z_idiv rfl rfl jk_3 (by omega) (by omega) (fun v56 ev56 => ?_)
              refine x_aloadn (x := 78) rfl rfl ?_
              refine z_getR (N := 16) (b := 32) 7 0 rfl f_7_55 rfl J rfl 9984 ⟨rfl, rfl⟩ rfl ?_
              refine z_getR (N := 20) (b := 33) 1 0 rfl f_7_63 rfl J rfl 4096 ⟨rfl, rfl⟩ rfl ?_
              refine z_getI (N := 4) 8 3 rfl f_7_85 rfl J rfl sg_33_3_4_1_0_1 (fun v57 qv57 ev57 => ?_)
              refine x_icge (tgt := 41) rfl rfl (ti_ge rfl rfl ⟨fun c58 => ?_, fun c58 => ?_⟩)
              ·
                refine x_iconst (v := 0) rfl ki_0 ?_
                refine x_zret rfl rfl (by decide) ?_
                show jX m_X11_soulOn 7 0 0 15 [(0, .ref 31), (1, .int v9), (2, .int a2)] [.int 0] _ 0 0 _
                refine x_ifne (tgt := 20) rfl rfl (ti_ne jk_0 jk_0 (bn_f (by omega) ?_))
                refine x_iconst (v := (-1)) rfl ki_m1 ?_
                refine x_iret rfl rfl ?_
                show jX m_X11_beyond 8 0 0 35 [(0, .ref 31), (1, .int a1), (2, .int a2)] [.int (-1)] _ 0 0 _
                refine x_istoren (ls' := [(3, .int (-1)), (0, .ref 31), (1, .int a1), (2, .int a2)]) rfl rfl rfl ?_
                refine x_aloadn (x := 31) rfl rfl ?_
                refine z_getR (N := 13) (b := 98) 11 7 rfl f_11_66 rfl J rfl 3975 ⟨rfl, rfl⟩ rfl ?_
                refine x_aloadn (x := 31) rfl rfl ?_
                refine z_getR (N := 13) (b := 32) 11 0 rfl f_11_10 rfl J rfl 3968 ⟨rfl, rfl⟩ rfl ?_
                refine z_getR (N := 20) (b := 33) 1 0 rfl f_11_126 rfl J rfl 4096 ⟨rfl, rfl⟩ rfl ?_
                refine x_iloadn (x := a1) rfl rfl ?_
                refine x_iconst (v := 1) rfl ki_1 ?_
                refine x_inv (N := m_X8_at) (As := [.int a1, .int 1]) (b := 33) (st := [.ref 98]) (d' := 1) (mc := 0) (ms := 0) (host := "") 8 rfl t_X8_at ⟨Or.inl q_11_171, i_X8_at.1, i_X8_at.2⟩ ⟨by decide, rfl⟩ (congrArg Prod.fst (J.1.1 33 (8, 4) rfl)) rfl (by decide) rfl rfl ⟨by decide, by decide⟩ (sf_X8_at_r33_c1  hD J  (fun v60 h ev60 J S59 => ?_))
                have Sm := jSm_tr rfl Sm S59
                show jX m_X11_beyond 8 0 0 52 [(3, .int (-1)), (0, .ref 31), (1, .int a1), (2, .int a2)] [.int v60, .ref 98] _ 0 0 _
                refine x_iloadn (x := a2) rfl rfl ?_
                refine x_inv (N := m_X0_turnTo) (As := [.int v60, .int a2]) (b := 98) (st := []) (d' := 7) (mc := 0) (ms := 0) (host := "") 0 rfl t_X0_turnTo ⟨Or.inl q_11_345, i_X0_turnTo.1, i_X0_turnTo.2⟩ ⟨by decide, rfl⟩ (congrArg Prod.fst (J.1.1 98 (0, 16) rfl)) rfl (by decide) rfl rfl ⟨by decide, by decide⟩ (jC.of rfl k_X0_turnTo rfl ?_)
                show jX m_X0_turnTo 7 0 0 0 [(0, .ref 98), (1, .int v60), (2, .int a2)] [] _ 0 0 _
                refine x_aloadn (x := 98) rfl rfl ?_
                refine x_iloadn (x := v60) rfl rfl ?_
                refine x_iloadn (x := a2) rfl rfl ?_
                refine x_inv (N := m_X0_readLaws) (As := [.int v60, .int a2]) (b := 98) (st := []) (d' := 2) (mc := 0) (ms := 0) (host := "") 0 rfl t_X0_readLaws ⟨Or.inl q_0_65, i_X0_readLaws.1, i_X0_readLaws.2⟩ ⟨by decide, rfl⟩ (congrArg Prod.fst (J.1.1 98 (0, 16) rfl)) rfl (by decide) rfl rfl ⟨by decide, by decide⟩ (sf_X0_readLaws_r98 (jr_of rfl (by omega)) (jr_of rfl (by omega)) hD J  (fun h J S61 => ?_))
                have Sm := jSm_tr rfl Sm S61
                show jX m_X0_turnTo 7 0 0 6 [(0, .ref 98), (1, .int v60), (2, .int a2)] [] _ 0 0 _
                refine x_aloadn (x := 98) rfl rfl ?_
                refine x_iloadn (x := v60) rfl rfl ?_
                refine x_iloadn (x := a2) rfl rfl ?_
                refine x_inv (N := m_X0_readHouses) (As := [.int v60, .int a2]) (b := 98) (st := []) (d' := 3) (mc := 0) (ms := 0) (host := "") 0 rfl t_X0_readHouses ⟨Or.inl q_0_69, i_X0_readHouses.1, i_X0_readHouses.2⟩ ⟨by decide, rfl⟩ (congrArg Prod.fst (J.1.1 98 (0, 16) rfl)) rfl (by decide) rfl rfl ⟨by decide, by decide⟩ (sf_X0_readHouses_r98 (jr_of rfl (by omega)) (jr_of rfl (by omega)) hD J  (fun h J S62 => ?_))
                have Sm := jSm_tr rfl Sm S62
                show jX m_X0_turnTo 7 0 0 12 [(0, .ref 98), (1, .int v60), (2, .int a2)] [] _ 0 0 _
                refine x_vret rfl rfl ?_
                show jX m_X11_beyond 8 0 0 56 [(3, .int (-1)), (0, .ref 31), (1, .int a1), (2, .int a2)] [] _ 0 0 _
                refine x_aloadn (x := 31) rfl rfl ?_
                refine z_getR (N := 13) (b := 98) 11 7 rfl f_11_66 rfl J rfl 3975 ⟨rfl, rfl⟩ rfl ?_
                refine x_iconst (v := 3) rfl ki_3 ?_
                refine x_iconst (v := 0) rfl ki_0 ?_
                refine x_iloadn (x := (-1)) rfl rfl ?_
                refine x_inv (N := m_X0_weigh) (As := [.int 3, .int 0, .int (-1)]) (b := 98) (st := []) (d' := 1) (mc := 0) (ms := 0) (host := "") 0 rfl t_X0_weigh ⟨Or.inl q_11_359, i_X0_weigh.1, i_X0_weigh.2⟩ ⟨by decide, rfl⟩ (congrArg Prod.fst (J.1.1 98 (0, 16) rfl)) rfl (by decide) rfl rfl ⟨by decide, by decide⟩ (sf_X0_weigh_r98 (jr_of jk_3 (by omega)) (jr_of jk_0 (by omega)) (jr_of jk_m1 (by omega)) hD J  (fun v64 h ev64 J S63 => ?_))
                have Sm := jSm_tr rfl Sm S63
                show jX m_X11_beyond 8 0 0 66 [(3, .int (-1)), (0, .ref 31), (1, .int a1), (2, .int a2)] [.int v64] _ 0 0 _
                refine x_pop rfl rfl ?_
                refine x_aloadn (x := 31) rfl rfl ?_
                refine z_getR (N := 13) (b := 32) 11 0 rfl f_11_10 rfl J rfl 3968 ⟨rfl, rfl⟩ rfl ?_
                refine z_getR (N := 20) (b := 33) 1 0 rfl f_11_126 rfl J rfl 4096 ⟨rfl, rfl⟩ rfl ?_
                refine x_iloadn (x := a1) rfl rfl ?_
                refine x_iconst (v := 4) rfl ki_4 ?_
                refine x_inv (N := m_X8_at) (As := [.int a1, .int 4]) (b := 33) (st := []) (d' := 1) (mc := 0) (ms := 0) (host := "") 8 rfl t_X8_at ⟨Or.inl q_11_171, i_X8_at.1, i_X8_at.2⟩ ⟨by decide, rfl⟩ (congrArg Prod.fst (J.1.1 33 (8, 4) rfl)) rfl (by decide) rfl rfl ⟨by decide, by decide⟩ (sf_X8_at_r33_c4  hD J  (fun v66 h J S65 => ?_))
                have ev66 := jfull v66
                have Sm := jSm_tr rfl Sm S65
                show jX m_X11_beyond 8 0 0 79 [(3, .int (-1)), (0, .ref 31), (1, .int a1), (2, .int a2)] [.int v66] _ 0 0 _
                refine z_i2l rfl rfl (fun v67 ev67 => ?_)
                refine x_lconst (v := 0) rfl kl_0 ?_
                refine x_aloadn (x := 31) rfl rfl ?_
                refine z_getR (N := 13) (b := 98) 11 7 rfl f_11_66 rfl J rfl 3975 ⟨rfl, rfl⟩ rfl ?_
                refine z_getL0 (N := 16) 0 14 rfl f_11_362 rfl J rfl (fun v68 => ?_)
                have ev68 := jfullL v68
                refine z_lmax rfl q_11_485 (by decide) rfl jkl_0 rfl (fun v69 ev69 => ?_)
                refine z_lsub0 rfl (fun v70 => ?_)
                have ev70 := jfullL v70
                refine x_lstore (ls' := [(4, .long v70), (3, .int (-1)), (0, .ref 31), (1, .int a1), (2, .int a2)]) rfl rfl rfl ?_
                refine x_lconst (v := 0) rfl kl_0 ?_
                refine x_lload (x := v70) rfl rfl ?_
                refine z_lmax rfl q_11_485 (by decide) rfl jkl_0 rfl (fun v71 ev71 => ?_)
                refine z_l2i0 rfl (fun v72 => ?_)
                refine x_iret rfl rfl ?_
                exact hQ _ _ J Sm
              ·
                refine x_aloadn (x := 78) rfl rfl ?_
                refine z_getR (N := 16) (b := 79) 7 7 rfl f_7_27 rfl J rfl 9991 ⟨rfl, rfl⟩ rfl ?_
                refine x_iloadn (x := v9) rfl rfl ?_
                refine z_iald (N := 600) rfl J rfl sg_79_0_600_1_0_1 rfl (by omega) (fun v73 qv73 ev73 => ?_)
                refine x_iconst (v := (-1)) rfl ki_m1 ?_
                refine x_iceq (tgt := 41) rfl rfl (ti_eq rfl jk_m1 ⟨fun c74 => ?_, fun c74 => ?_⟩)
                ·
                  refine x_iconst (v := 0) rfl ki_0 ?_
                  refine x_zret rfl rfl (by decide) ?_
                  show jX m_X11_soulOn 7 0 0 15 [(0, .ref 31), (1, .int v9), (2, .int a2)] [.int 0] _ 0 0 _
                  refine x_ifne (tgt := 20) rfl rfl (ti_ne jk_0 jk_0 (bn_f (by omega) ?_))
                  refine x_iconst (v := (-1)) rfl ki_m1 ?_
                  refine x_iret rfl rfl ?_
                  show jX m_X11_beyond 8 0 0 35 [(0, .ref 31), (1, .int a1), (2, .int a2)] [.int (-1)] _ 0 0 _
                  refine x_istoren (ls' := [(3, .int (-1)), (0, .ref 31), (1, .int a1), (2, .int a2)]) rfl rfl rfl ?_
                  refine x_aloadn (x := 31) rfl rfl ?_
                  refine z_getR (N := 13) (b := 98) 11 7 rfl f_11_66 rfl J rfl 3975 ⟨rfl, rfl⟩ rfl ?_
                  refine x_aloadn (x := 31) rfl rfl ?_
                  refine z_getR (N := 13) (b := 32) 11 0 rfl f_11_10 rfl J rfl 3968 ⟨rfl, rfl⟩ rfl ?_
                  refine z_getR (N := 20) (b := 33) 1 0 rfl f_11_126 rfl J rfl 4096 ⟨rfl, rfl⟩ rfl ?_
                  refine x_iloadn (x := a1) rfl rfl ?_
                  refine x_iconst (v := 1) rfl ki_1 ?_
                  refine x_inv (N := m_X8_at) (As := [.int a1, .int 1]) (b := 33) (st := [.ref 98]) (d' := 1) (mc := 0) (ms := 0) (host := "") 8 rfl t_X8_at ⟨Or.inl q_11_171, i_X8_at.1, i_X8_at.2⟩ ⟨by decide, rfl⟩ (congrArg Prod.fst (J.1.1 33 (8, 4) rfl)) rfl (by decide) rfl rfl ⟨by decide, by decide⟩ (sf_X8_at_r33_c1  hD J  (fun v76 h ev76 J S75 => ?_))
                  have Sm := jSm_tr rfl Sm S75
                  show jX m_X11_beyond 8 0 0 52 [(3, .int (-1)), (0, .ref 31), (1, .int a1), (2, .int a2)] [.int v76, .ref 98] _ 0 0 _
                  refine x_iloadn (x := a2) rfl rfl ?_
                  refine x_inv (N := m_X0_turnTo) (As := [.int v76, .int a2]) (b := 98) (st := []) (d' := 7) (mc := 0) (ms := 0) (host := "") 0 rfl t_X0_turnTo ⟨Or.inl q_11_345, i_X0_turnTo.1, i_X0_turnTo.2⟩ ⟨by decide, rfl⟩ (congrArg Prod.fst (J.1.1 98 (0, 16) rfl)) rfl (by decide) rfl rfl ⟨by decide, by decide⟩ (jC.of rfl k_X0_turnTo rfl ?_)
                  show jX m_X0_turnTo 7 0 0 0 [(0, .ref 98), (1, .int v76), (2, .int a2)] [] _ 0 0 _
                  refine x_aloadn (x := 98) rfl rfl ?_
                  refine x_iloadn (x := v76) rfl rfl ?_
                  refine x_iloadn (x := a2) rfl rfl ?_
                  refine x_inv (N := m_X0_readLaws) (As := [.int v76, .int a2]) (b := 98) (st := []) (d' := 2) (mc := 0) (ms := 0) (host := "") 0 rfl t_X0_readLaws ⟨Or.inl q_0_65, i_X0_readLaws.1, i_X0_readLaws.2⟩ ⟨by decide, rfl⟩ (congrArg Prod.fst (J.1.1 98 (0, 16) rfl)) rfl (by decide) rfl rfl ⟨by decide, by decide⟩ (sf_X0_readLaws_r98 (jr_of rfl (by omega)) (jr_of rfl (by omega)) hD J  (fun h J S77 => ?_))
                  have Sm := jSm_tr rfl Sm S77
                  show jX m_X0_turnTo 7 0 0 6 [(0, .ref 98), (1, .int v76), (2, .int a2)] [] _ 0 0 _
                  refine x_aloadn (x := 98) rfl rfl ?_
                  refine x_iloadn (x := v76) rfl rfl ?_
                  refine x_iloadn (x := a2) rfl rfl ?_
                  refine x_inv (N := m_X0_readHouses) (As := [.int v76, .int a2]) (b := 98) (st := []) (d' := 3) (mc := 0) (ms := 0) (host := "") 0 rfl t_X0_readHouses ⟨Or.inl q_0_69, i_X0_readHouses.1, i_X0_readHouses.2⟩ ⟨by decide, rfl⟩ (congrArg Prod.fst (J.1.1 98 (0, 16) rfl)) rfl (by decide) rfl rfl ⟨by decide, by decide⟩ (sf_X0_readHouses_r98 (jr_of rfl (by omega)) (jr_of rfl (by omega)) hD J  (fun h J S78 => ?_))
                  have Sm := jSm_tr rfl Sm S78
                  show jX m_X0_turnTo 7 0 0 12 [(0, .ref 98), (1, .int v76), (2, .int a2)] [] _ 0 0 _
                  refine x_vret rfl rfl ?_
                  show jX m_X11_beyond 8 0 0 56 [(3, .int (-1)), (0, .ref 31), (1, .int a1), (2, .int a2)] [] _ 0 0 _
                  refine x_aloadn (x := 31) rfl rfl ?_
                  refine z_getR (N := 13) (b := 98) 11 7 rfl f_11_66 rfl J rfl 3975 ⟨rfl, rfl⟩ rfl ?_
                  refine x_iconst (v := 3) rfl ki_3 ?_
                  refine x_iconst (v := 0) rfl ki_0 ?_
                  refine x_iloadn (x := (-1)) rfl rfl ?_
                  refine x_inv (N := m_X0_weigh) (As := [.int 3, .int 0, .int (-1)]) (b := 98) (st := []) (d' := 1) (mc := 0) (ms := 0) (host := "") 0 rfl t_X0_weigh ⟨Or.inl q_11_359, i_X0_weigh.1, i_X0_weigh.2⟩ ⟨by decide, rfl⟩ (congrArg Prod.fst (J.1.1 98 (0, 16) rfl)) rfl (by decide) rfl rfl ⟨by decide, by decide⟩ (sf_X0_weigh_r98 (jr_of jk_3 (by omega)) (jr_of jk_0 (by omega)) (jr_of jk_m1 (by omega)) hD J  (fun v80 h ev80 J S79 => ?_))
                  have Sm := jSm_tr rfl Sm S79
                  show jX m_X11_beyond 8 0 0 66 [(3, .int (-1)), (0, .ref 31), (1, .int a1), (2, .int a2)] [.int v80] _ 0 0 _
                  refine x_pop rfl rfl ?_
                  refine x_aloadn (x := 31) rfl rfl ?_
                  refine z_getR (N := 13) (b := 32) 11 0 rfl f_11_10 rfl J rfl 3968 ⟨rfl, rfl⟩ rfl ?_
                  refine z_getR (N := 20) (b := 33) 1 0 rfl f_11_126 rfl J rfl 4096 ⟨rfl, rfl⟩ rfl ?_
                  refine x_iloadn (x := a1) rfl rfl ?_
                  refine x_iconst (v := 4) rfl ki_4 ?_
                  refine x_inv (N := m_X8_at) (As := [.int a1, .int 4]) (b := 33) (st := []) (d' := 1) (mc := 0) (ms := 0) (host := "") 8 rfl t_X8_at ⟨Or.inl q_11_171, i_X8_at.1, i_X8_at.2⟩ ⟨by decide, rfl⟩ (congrArg Prod.fst (J.1.1 33 (8, 4) rfl)) rfl (by decide) rfl rfl ⟨by decide, by decide⟩ (sf_X8_at_r33_c4  hD J  (fun v82 h J S81 => ?_))
                  have ev82 := jfull v82
                  have Sm := jSm_tr rfl Sm S81
                  show jX m_X11_beyond 8 0 0 79 [(3, .int (-1)), (0, .ref 31), (1, .int a1), (2, .int a2)] [.int v82] _ 0 0 _
                  refine z_i2l rfl rfl (fun v83 ev83 => ?_)
                  refine x_lconst (v := 0) rfl kl_0 ?_
                  refine x_aloadn (x := 31) rfl rfl ?_
                  refine z_getR (N := 13) (b := 98) 11 7 rfl f_11_66 rfl J rfl 3975 ⟨rfl, rfl⟩ rfl ?_
                  refine z_getL0 (N := 16) 0 14 rfl f_11_362 rfl J rfl (fun v84 => ?_)
                  have ev84 := jfullL v84
                  refine z_lmax rfl q_11_485 (by decide) rfl jkl_0 rfl (fun v85 ev85 => ?_)
                  refine z_lsub0 rfl (fun v86 => ?_)
                  have ev86 := jfullL v86
                  refine x_lstore (ls' := [(4, .long v86), (3, .int (-1)), (0, .ref 31), (1, .int a1), (2, .int a2)]) rfl rfl rfl ?_
                  refine x_lconst (v := 0) rfl kl_0 ?_
                  refine x_lload (x := v86) rfl rfl ?_
                  refine z_lmax rfl q_11_485 (by decide) rfl jkl_0 rfl (fun v87 ev87 => ?_)
                  refine z_l2i0 rfl (fun v88 => ?_)
                  refine x_iret rfl rfl ?_
                  exact hQ _ _ J Sm
                ·
                  refine x_iconst (v := 1) rfl ki_1 ?_
                  refine x_goto (tgt := 42) rfl rfl ?_
                  refine x_zret rfl rfl (by decide) ?_
                  show jX m_X11_soulOn 7 0 0 15 [(0, .ref 31), (1, .int v9), (2, .int a2)] [.int 1] _ 0 0 _
                  refine x_ifne (tgt := 20) rfl rfl (ti_ne jk_1 jk_0 (bn_t (by omega) ?_))
                  refine x_aloadn (x := 31) rfl rfl ?_
                  refine z_getR (N := 13) (b := 78) 11 4 rfl f_11_41 rfl J rfl 3972 ⟨rfl, rfl⟩ rfl ?_
                  refine x_iloadn (x := a2) rfl rfl ?_
                  refine x_inv (N := m_X7_asKnown) (As := [.int a2]) (b := 78) (st := []) (d' := 6) (mc := 0) (ms := 0) (host := "") 7 rfl t_X7_asKnown ⟨Or.inl q_11_240, i_X7_asKnown.1, i_X7_asKnown.2⟩ ⟨by decide, rfl⟩ (congrArg Prod.fst (J.1.1 78 (7, 16) rfl)) rfl (by decide) rfl rfl ⟨by decide, by decide⟩ (sf_X7_asKnown_r78 (jr_of rfl (by omega)) hD J  (fun h J S89 => ?_))
                  have Sm := jSm_tr rfl Sm S89
                  show jX m_X11_soulOn 7 0 0 28 [(0, .ref 31), (1, .int v9), (2, .int a2)] [] _ 0 0 _
                  refine x_aloadn (x := 31) rfl rfl ?_
                  refine z_getR (N := 13) (b := 78) 11 4 rfl f_11_41 rfl J rfl 3972 ⟨rfl, rfl⟩ rfl ?_
                  refine z_getR (N := 16) (b := 82) 7 10 rfl f_11_537 rfl J rfl 9994 ⟨rfl, rfl⟩ rfl ?_
                  refine x_iloadn (x := v9) rfl rfl ?_
                  refine z_iald (N := 600) rfl J rfl sg_82_0_600_1_0_1 rfl (by omega) (fun v90 qv90 ev90 => ?_)
                  refine x_iret rfl rfl ?_
                  show jX m_X11_beyond 8 0 0 35 [(0, .ref 31), (1, .int a1), (2, .int a2)] [.int v90] _ 0 0 _
                  refine x_istoren (ls' := [(3, .int v90), (0, .ref 31), (1, .int a1), (2, .int a2)]) rfl rfl rfl ?_
                  refine x_aloadn (x := 31) rfl rfl ?_
                  refine z_getR (N := 13) (b := 98) 11 7 rfl f_11_66 rfl J rfl 3975 ⟨rfl, rfl⟩ rfl ?_
                  refine x_aloadn (x := 31) rfl rfl ?_
                  refine z_getR (N := 13) (b := 32) 11 0 rfl f_11_10 rfl J rfl 3968 ⟨rfl, rfl⟩ rfl ?_
                  refine z_getR (N := 20) (b := 33) 1 0 rfl f_11_126 rfl J rfl 4096 ⟨rfl, rfl⟩ rfl ?_
                  refine x_iloadn (x := a1) rfl rfl ?_
                  refine x_iconst (v := 1) rfl ki_1 ?_
                  refine x_inv (N := m_X8_at) (As := [.int a1, .int 1]) (b := 33) (st := [.ref 98]) (d' := 1) (mc := 0) (ms := 0) (host := "") 8 rfl t_X8_at ⟨Or.inl q_11_171, i_X8_at.1, i_X8_at.2⟩ ⟨by decide, rfl⟩ (congrArg Prod.fst (J.1.1 33 (8, 4) rfl)) rfl (by decide) rfl rfl ⟨by decide, by decide⟩ (sf_X8_at_r33_c1  hD J  (fun v92 h ev92 J S91 => ?_))
                  have Sm := jSm_tr rfl Sm S91
                  show jX m_X11_beyond 8 0 0 52 [(3, .int v90), (0, .ref 31), (1, .int a1), (2, .int a2)] [.int v92, .ref 98] _ 0 0 _
                  refine x_iloadn (x := a2) rfl rfl ?_
                  refine x_inv (N := m_X0_turnTo) (As := [.int v92, .int a2]) (b := 98) (st := []) (d' := 7) (mc := 0) (ms := 0) (host := "") 0 rfl t_X0_turnTo ⟨Or.inl q_11_345, i_X0_turnTo.1, i_X0_turnTo.2⟩ ⟨by decide, rfl⟩ (congrArg Prod.fst (J.1.1 98 (0, 16) rfl)) rfl (by decide) rfl rfl ⟨by decide, by decide⟩ (jC.of rfl k_X0_turnTo rfl ?_)
                  show jX m_X0_turnTo 7 0 0 0 [(0, .ref 98), (1, .int v92), (2, .int a2)] [] _ 0 0 _
                  refine x_aloadn (x := 98) rfl rfl ?_
                  refine x_iloadn (x := v92) rfl rfl ?_
                  refine x_iloadn (x := a2) rfl rfl ?_
                  refine x_inv (N := m_X0_readLaws) (As := [.int v92, .int a2]) (b := 98) (st := []) (d' := 2) (mc := 0) (ms := 0) (host := "") 0 rfl t_X0_readLaws ⟨Or.inl q_0_65, i_X0_readLaws.1, i_X0_readLaws.2⟩ ⟨by decide, rfl⟩ (congrArg Prod.fst (J.1.1 98 (0, 16) rfl)) rfl (by decide) rfl rfl ⟨by decide, by decide⟩ (sf_X0_readLaws_r98 (jr_of rfl (by omega)) (jr_of rfl (by omega)) hD J  (fun h J S93 => ?_))
                  have Sm := jSm_tr rfl Sm S93
                  show jX m_X0_turnTo 7 0 0 6 [(0, .ref 98), (1, .int v92), (2, .int a2)] [] _ 0 0 _
                  refine x_aloadn (x := 98) rfl rfl ?_
                  refine x_iloadn (x := v92) rfl rfl ?_
                  refine x_iloadn (x := a2) rfl rfl ?_
                  refine x_inv (N := m_X0_readHouses) (As := [.int v92, .int a2]) (b := 98) (st := []) (d' := 3) (mc := 0) (ms := 0) (host := "") 0 rfl t_X0_readHouses ⟨Or.inl q_0_69, i_X0_readHouses.1, i_X0_readHouses.2⟩ ⟨by decide, rfl⟩ (congrArg Prod.fst (J.1.1 98 (0, 16) rfl)) rfl (by decide) rfl rfl ⟨by decide, by decide⟩ (sf_X0_readHouses_r98 (jr_of rfl (by omega)) (jr_of rfl (by omega)) hD J  (fun h J S94 => ?_))
                  have Sm := jSm_tr rfl Sm S94
                  show jX m_X0_turnTo 7 0 0 12 [(0, .ref 98), (1, .int v92), (2, .int a2)] [] _ 0 0 _
                  refine x_vret rfl rfl ?_
                  show jX m_X11_beyond 8 0 0 56 [(3, .int v90), (0, .ref 31), (1, .int a1), (2, .int a2)] [] _ 0 0 _
                  refine x_aloadn (x := 31) rfl rfl ?_
                  refine z_getR (N := 13) (b := 98) 11 7 rfl f_11_66 rfl J rfl 3975 ⟨rfl, rfl⟩ rfl ?_
                  refine x_iconst (v := 3) rfl ki_3 ?_
                  refine x_iconst (v := 0) rfl ki_0 ?_
                  refine x_iloadn (x := v90) rfl rfl ?_
                  refine x_inv (N := m_X0_weigh) (As := [.int 3, .int 0, .int v90]) (b := 98) (st := []) (d' := 1) (mc := 0) (ms := 0) (host := "") 0 rfl t_X0_weigh ⟨Or.inl q_11_359, i_X0_weigh.1, i_X0_weigh.2⟩ ⟨by decide, rfl⟩ (congrArg Prod.fst (J.1.1 98 (0, 16) rfl)) rfl (by decide) rfl rfl ⟨by decide, by decide⟩ (sf_X0_weigh_r98 (jr_of jk_3 (by omega)) (jr_of jk_0 (by omega)) (jr_of rfl (by omega)) hD J  (fun v96 h ev96 J S95 => ?_))
                  have Sm := jSm_tr rfl Sm S95
                  show jX m_X11_beyond 8 0 0 66 [(3, .int v90), (0, .ref 31), (1, .int a1), (2, .int a2)] [.int v96] _ 0 0 _
                  refine x_pop rfl rfl ?_
                  refine x_aloadn (x := 31) rfl rfl ?_
                  refine z_getR (N := 13) (b := 32) 11 0 rfl f_11_10 rfl J rfl 3968 ⟨rfl, rfl⟩ rfl ?_
                  refine z_getR (N := 20) (b := 33) 1 0 rfl f_11_126 rfl J rfl 4096 ⟨rfl, rfl⟩ rfl ?_
                  refine x_iloadn (x := a1) rfl rfl ?_
                  refine x_iconst (v := 4) rfl ki_4 ?_
                  refine x_inv (N := m_X8_at) (As := [.int a1, .int 4]) (b := 33) (st := []) (d' := 1) (mc := 0) (ms := 0) (host := "") 8 rfl t_X8_at ⟨Or.inl q_11_171, i_X8_at.1, i_X8_at.2⟩ ⟨by decide, rfl⟩ (congrArg Prod.fst (J.1.1 33 (8, 4) rfl)) rfl (by decide) rfl rfl ⟨by decide, by decide⟩ (sf_X8_at_r33_c4  hD J  (fun v98 h J S97 => ?_))
                  have ev98 := jfull v98
                  have Sm := jSm_tr rfl Sm S97
                  show jX m_X11_beyond 8 0 0 79 [(3, .int v90), (0, .ref 31), (1, .int a1), (2, .int a2)] [.int v98] _ 0 0 _
                  refine z_i2l rfl rfl (fun v99 ev99 => ?_)
                  refine x_lconst (v := 0) rfl kl_0 ?_
                  refine x_aloadn (x := 31) rfl rfl ?_
                  refine z_getR (N := 13) (b := 98) 11 7 rfl f_11_66 rfl J rfl 3975 ⟨rfl, rfl⟩ rfl ?_
                  refine z_getL0 (N := 16) 0 14 rfl f_11_362 rfl J rfl (fun v100 => ?_)
                  have ev100 := jfullL v100
                  refine z_lmax rfl q_11_485 (by decide) rfl jkl_0 rfl (fun v101 ev101 => ?_)
                  refine z_lsub0 rfl (fun v102 => ?_)
                  have ev102 := jfullL v102
                  refine x_lstore (ls' := [(4, .long v102), (3, .int v90), (0, .ref 31), (1, .int a1), (2, .int a2)]) rfl rfl rfl ?_
                  refine x_lconst (v := 0) rfl kl_0 ?_
                  refine x_lload (x := v102) rfl rfl ?_
                  refine z_lmax rfl q_11_485 (by decide) rfl jkl_0 rfl (fun v103 ev103 => ?_)
                  refine z_l2i0 rfl (fun v104 => ?_)
                  refine x_iret rfl rfl ?_
                  exact hQ _ _ J Sm
      ·
        exact jX.sub jsb_n (ct_X11_beyond_r31_25 hD hQ  h J Sm)
def fp_X11_clear_r31 : jFp := [(87, 3, 4), (87, 13, 14)]
set_option maxRecDepth 100000 in
set_option maxHeartbeats 4000000 in
theorem sf_X11_clear_r31 {Dy : jH → Prop} {h : jH} {Q : Option Value → jH → Prop} (hD : jDk Dy) (J : jJ jSgX Dy h) (hQ : ∀ (v : Int32) h', 0 ≤ v.toInt ∧ v.toInt ≤ 9 → jJ jSgX Dy h' → jSm fp_X11_clear_r31 h h' → Q (some (.int v)) h') : jC m_X11_clear 2 0 0 [.ref 31] h Q := by
  refine jC.of rfl k_X11_clear rfl ?_
  have Sm := jSm_rf fp_X11_clear_r31 h
  show jX m_X11_clear 2 0 0 0 [(0, .ref 31)] [] _ 0 0 _
  refine x_aloadn (x := 31) rfl rfl ?_
  refine z_getR (N := 13) (b := 87) 11 5 rfl f_11_50 rfl J rfl 3973 ⟨rfl, rfl⟩ rfl ?_
  refine z_getI (N := 14) 3 3 rfl f_11_273 rfl J rfl sg_87_3_4_1_0_1 (fun v1 qv1 ev1 => ?_)
  refine x_istoren (ls' := [(1, .int v1), (0, .ref 31)]) rfl rfl rfl ?_
  refine x_aloadn (x := 31) rfl rfl ?_
  refine z_getR (N := 13) (b := 87) 11 5 rfl f_11_50 rfl J rfl 3973 ⟨rfl, rfl⟩ rfl ?_
  refine x_inv (N := m_X3_empty) (As := []) (b := 87) (st := []) (d' := 1) (mc := 0) (ms := 0) (host := "") 3 rfl t_X3_empty ⟨Or.inl q_11_279, i_X3_empty.1, i_X3_empty.2⟩ ⟨by decide, rfl⟩ (congrArg Prod.fst (J.1.1 87 (3, 14) rfl)) rfl (by decide) rfl rfl ⟨by decide, by decide⟩ (jC.of rfl k_X3_empty rfl ?_)
  show jX m_X3_empty 1 0 0 0 [(0, .ref 87)] [] _ 0 0 _
  refine x_aloadn (x := 87) rfl rfl ?_
  refine x_iconst (v := 0) rfl ki_0 ?_
  refine z_putI (N := 14) (w := 0) 3 3 rfl f_3_15 rfl (jfin_no TX3 RX3 14 rfl rfl) hD J Sm rfl rfl jk_0 (pw_87_3 (by omega)) rfl (fun h w2 J Sm => ?_)
  refine x_aloadn (x := 87) rfl rfl ?_
  refine x_iconst (v := 0) rfl ki_0 ?_
  refine z_putI (N := 14) (w := 0) 3 13 rfl f_3_46 rfl (jfin_no TX3 RX3 14 rfl rfl) hD J Sm rfl rfl jk_0 (pw_87_13 trivial) rfl (fun h w3 J Sm => ?_)
  refine x_vret rfl rfl ?_
  show jX m_X11_clear 2 0 0 15 [(1, .int v1), (0, .ref 31)] [] _ 0 0 _
  refine x_iloadn (x := v1) rfl rfl ?_
  refine x_iret rfl rfl ?_
  exact hQ _ _ (jr_of rfl (by omega)) J Sm
def fp_X11_lastClosed_r31 : jFp := []
set_option maxRecDepth 100000 in
set_option maxHeartbeats 4000000 in
theorem ct_X11_lastClosed_r31_13 {Dy : jH → Prop} {h0 : jH} {Q : Option Value → jH → Prop} (hD : jDk Dy) (hQ : ∀ (v : Int32) h', (-1) ≤ v.toInt ∧ v.toInt ≤ 399 → jJ jSgX Dy h' → jSm fp_X11_lastClosed_r31 h0 h' → Q (some (.int v)) h') : ∀ r : Nat, ∀ (l1 : Int32) (l2 : Int32) (h : jH), l2.toInt - (-1) < (r : Int) → 0 ≤ l1.toInt ∧ l1.toInt ≤ 3 → (-1) ≤ l2.toInt ∧ l2.toInt ≤ 39 → jJ jSgX Dy h → jSm fp_X11_lastClosed_r31 h0 h → jX m_X11_lastClosed 2 0 0 13 [(0, .ref 31), (1, .int l1), (2, .int l2)] [] h 0 0 Q := by
  intro r
  induction r with
  | zero =>
    intro l1 l2 h hm y0 y1   J Sm
    exfalso
    omega
  | succ r ih =>
    intro l1 l2 h hm y0 y1   J Sm
    refine x_iloadn (x := l2) rfl rfl ?_
    refine x_iflt (tgt := 52) rfl rfl (ti_lt rfl jk_0 ⟨fun c1 => ?_, fun c1 => ?_⟩)
    ·
      refine x_iconst (v := (-1)) rfl ki_m1 ?_
      refine x_iret rfl rfl ?_
      exact hQ _ _ (jr_of jk_m1 (by omega)) J Sm
    ·
      refine x_aloadn (x := 31) rfl rfl ?_
      refine z_getR (N := 13) (b := 32) 11 0 rfl f_11_10 rfl J rfl 3968 ⟨rfl, rfl⟩ rfl ?_
      refine z_getR (N := 20) (b := 59) 1 13 rfl f_11_482 rfl J rfl 4109 ⟨rfl, rfl⟩ rfl ?_
      refine x_iloadn (x := l2) rfl rfl ?_
      refine x_iconst (v := 2) rfl ki_2 ?_
      refine x_inv (N := m_X8_at) (As := [.int l2, .int 2]) (b := 59) (st := []) (d' := 1) (mc := 0) (ms := 0) (host := "") 8 rfl t_X8_at ⟨Or.inl q_11_171, i_X8_at.1, i_X8_at.2⟩ ⟨by decide, rfl⟩ (congrArg Prod.fst (J.1.1 59 (8, 4) rfl)) rfl (by decide) rfl rfl ⟨by decide, by decide⟩ (sf_X8_at_r59_c2 (jr_of rfl (by omega)) hD J  (fun v3 h ev3 J S2 => ?_))
      have Sm := jSm_tr rfl Sm S2
      show jX m_X11_lastClosed 2 0 0 29 [(0, .ref 31), (1, .int l1), (2, .int l2)] [.int v3] _ 0 0 _
      refine x_iloadn (x := l1) rfl rfl ?_
      refine x_icne (tgt := 46) rfl rfl (ti_ne rfl rfl ⟨fun c4 => ?_, fun c4 => ?_⟩)
      ·
        refine z_iinc (x := l2) (ls' := fun v5 => [(2, .int v5), (0, .ref 31), (1, .int l1)]) rfl rfl rfl jko_m1 (by omega) rfl (fun _ => rfl) (fun v5 ev5 => ?_)
        refine x_goto (tgt := 13) rfl rfl ?_
        exact jX.sub (jsb_c rfl (jsb_c rfl (jsb_c rfl jsb_n))) (ih l1 v5 h (by omega) (jr_of rfl (by omega)) (jr_of rfl (by omega)) J Sm)
      ·
        refine x_aloadn (x := 31) rfl rfl ?_
        refine z_getR (N := 13) (b := 32) 11 0 rfl f_11_10 rfl J rfl 3968 ⟨rfl, rfl⟩ rfl ?_
        refine z_getR (N := 20) (b := 59) 1 13 rfl f_11_482 rfl J rfl 4109 ⟨rfl, rfl⟩ rfl ?_
        refine x_iloadn (x := l2) rfl rfl ?_
        refine x_iconst (v := 1) rfl ki_1 ?_
        refine x_inv (N := m_X8_at) (As := [.int l2, .int 1]) (b := 59) (st := []) (d' := 1) (mc := 0) (ms := 0) (host := "") 8 rfl t_X8_at ⟨Or.inl q_11_171, i_X8_at.1, i_X8_at.2⟩ ⟨by decide, rfl⟩ (congrArg Prod.fst (J.1.1 59 (8, 4) rfl)) rfl (by decide) rfl rfl ⟨by decide, by decide⟩ (sf_X8_at_r59_c1 (jr_of rfl (by omega)) hD J  (fun v7 h ev7 J S6 => ?_))
        have Sm := jSm_tr rfl Sm S6
        show jX m_X11_lastClosed 2 0 0 45 [(0, .ref 31), (1, .int l1), (2, .int l2)] [.int v7] _ 0 0 _
        refine x_iret rfl rfl ?_
        exact hQ _ _ (jr_of rfl (by omega)) J Sm
set_option maxRecDepth 100000 in
set_option maxHeartbeats 4000000 in
theorem sf_X11_lastClosed_r31 {Dy : jH → Prop} {h : jH} {Q : Option Value → jH → Prop} {a1 : Int32} (y1 : 0 ≤ a1.toInt ∧ a1.toInt ≤ 3) (hD : jDk Dy) (J : jJ jSgX Dy h) (hQ : ∀ (v : Int32) h', (-1) ≤ v.toInt ∧ v.toInt ≤ 399 → jJ jSgX Dy h' → jSm fp_X11_lastClosed_r31 h h' → Q (some (.int v)) h') : jC m_X11_lastClosed 2 0 0 [.ref 31, .int a1] h Q := by
  refine jC.of rfl k_X11_lastClosed rfl ?_
  have Sm := jSm_rf fp_X11_lastClosed_r31 h
  show jX m_X11_lastClosed 2 0 0 0 [(0, .ref 31), (1, .int a1)] [] _ 0 0 _
  refine x_aloadn (x := 31) rfl rfl ?_
  refine z_getR (N := 13) (b := 32) 11 0 rfl f_11_10 rfl J rfl 3968 ⟨rfl, rfl⟩ rfl ?_
  refine z_getR (N := 20) (b := 59) 1 13 rfl f_11_482 rfl J rfl 4109 ⟨rfl, rfl⟩ rfl ?_
  refine z_getI (N := 4) 8 3 rfl f_11_142 rfl J rfl sg_59_3_4_1_0_1 (fun v1 qv1 ev1 => ?_)
  refine x_iconst (v := 1) rfl ki_1 ?_
  refine z_isub rfl rfl jk_1 (by omega) (fun v2 ev2 => ?_)
  refine x_istoren (ls' := [(2, .int v2), (0, .ref 31), (1, .int a1)]) rfl rfl rfl ?_
  exact jX.sub (jsb_c rfl (jsb_c rfl (jsb_c rfl jsb_n))) (ct_X11_lastClosed_r31_13 hD hQ  41 a1 v2 h (by omega) (jr_of rfl (by omega)) (jr_of rfl (by omega)) J Sm)
def fp_X8_put_r59_c0 : jFp := [(60, 0, 160)]
set_option maxRecDepth 100000 in
set_option maxHeartbeats 4000000 in
theorem ct_X8_put_r59_c0_38 {Dy : jH → Prop} {h0 : jH} {Q : Option Value → jH → Prop} (hD : jDk Dy) (hQ : ∀ h', jJ jSgX Dy h' → jSm fp_X8_put_r59_c0 h0 h' → Q none h') : ∀ (h : jH), jJ jSgX Dy h → jSm fp_X8_put_r59_c0 h0 h → jX m_X8_put 1 0 0 38 [] [] h 0 0 Q := by
  intro  h    J Sm
  refine x_vret rfl rfl ?_
  exact hQ _ J Sm
set_option maxRecDepth 100000 in
set_option maxHeartbeats 4000000 in
theorem sf_X8_put_r59_c0 {Dy : jH → Prop} {h : jH} {Q : Option Value → jH → Prop} {a1 : Int32} {a3 : Int32} (y1 : 0 ≤ a1.toInt ∧ a1.toInt ≤ 39) (y3 : 0 ≤ a3.toInt ∧ a3.toInt ≤ 146399) (hD : jDk Dy) (J : jJ jSgX Dy h) (hQ : ∀ h', jJ jSgX Dy h' → jSm fp_X8_put_r59_c0 h h' → Q none h') : jC m_X8_put 1 0 0 [.ref 59, .int a1, .int 0, .int a3] h Q := by
  refine jC.of rfl k_X8_put rfl ?_
  have Sm := jSm_rf fp_X8_put_r59_c0 h
  show jX m_X8_put 1 0 0 0 [(0, .ref 59), (1, .int a1), (2, .int 0), (3, .int a3)] [] _ 0 0 _
  refine x_iloadn (x := a1) rfl rfl ?_
  refine x_iflt (tgt := 38) rfl rfl (ti_lt rfl jk_0 (br_f (by omega) ?_))
  refine x_iloadn (x := a1) rfl rfl ?_
  refine x_aloadn (x := 59) rfl rfl ?_
  refine z_getI (N := 4) 8 3 rfl f_8_7 rfl J rfl sg_59_3_4_1_0_1 (fun v1 qv1 ev1 => ?_)
  refine x_icge (tgt := 38) rfl rfl (ti_ge rfl rfl ⟨fun c2 => ?_, fun c2 => ?_⟩)
  ·
    exact jX.sub jsb_n (ct_X8_put_r59_c0_38 hD hQ  h J Sm)
  ·
    refine x_iloadn (x := 0) rfl rfl ?_
    refine x_iflt (tgt := 38) rfl rfl (ti_lt jk_0 jk_0 (br_f (by omega) ?_))
    refine x_iloadn (x := 0) rfl rfl ?_
    refine x_aloadn (x := 59) rfl rfl ?_
    refine z_getC (N := 4) (v := 4) 8 0 rfl f_8_19 rfl J rfl sg_59_0_1_1_0_1 jk_4 ?_
    refine x_icge (tgt := 38) rfl rfl (ti_ge jk_0 jk_4 (br_f (by omega) ?_))
    refine x_aloadn (x := 59) rfl rfl ?_
    refine z_getR (N := 4) (b := 60) 8 2 rfl f_8_25 rfl J rfl 7554 ⟨rfl, rfl⟩ rfl ?_
    refine x_iloadn (x := a1) rfl rfl ?_
    refine x_aloadn (x := 59) rfl rfl ?_
    refine z_getC (N := 4) (v := 4) 8 0 rfl f_8_19 rfl J rfl sg_59_0_1_1_0_1 jk_4 ?_
    refine z_imul rfl rfl jk_4 (by omega) (fun v3 ev3 => ?_)
    refine x_iloadn (x := 0) rfl rfl ?_
    refine z_iadd rfl rfl jk_0 (by omega) (fun v4 ev4 => ?_)
    refine x_iloadn (x := a3) rfl rfl ?_
    refine z_iast (N := 160) (l := 0) (u := 160) (w := a3.toInt) rfl hD J Sm rfl rfl rfl (by omega) rfl (wr_60 (fun q1 q2 q3 q4 => by omega) (fun q1 q2 q3 q4 => by omega) (fun q1 q2 q3 q4 => by omega)) rfl (fun h w5 J Sm => ?_)
    exact jX.sub jsb_n (ct_X8_put_r59_c0_38 hD hQ  h J Sm)
def fp_X8_put_r59_c1 : jFp := [(60, 0, 160)]
set_option maxRecDepth 100000 in
set_option maxHeartbeats 4000000 in
theorem ct_X8_put_r59_c1_38 {Dy : jH → Prop} {h0 : jH} {Q : Option Value → jH → Prop} (hD : jDk Dy) (hQ : ∀ h', jJ jSgX Dy h' → jSm fp_X8_put_r59_c1 h0 h' → Q none h') : ∀ (h : jH), jJ jSgX Dy h → jSm fp_X8_put_r59_c1 h0 h → jX m_X8_put 1 0 0 38 [] [] h 0 0 Q := by
  intro  h    J Sm
  refine x_vret rfl rfl ?_
  exact hQ _ J Sm
set_option maxRecDepth 100000 in
set_option maxHeartbeats 4000000 in
theorem sf_X8_put_r59_c1 {Dy : jH → Prop} {h : jH} {Q : Option Value → jH → Prop} {a1 : Int32} {a3 : Int32} (y1 : 0 ≤ a1.toInt ∧ a1.toInt ≤ 39) (y3 : 0 ≤ a3.toInt ∧ a3.toInt ≤ 399) (hD : jDk Dy) (J : jJ jSgX Dy h) (hQ : ∀ h', jJ jSgX Dy h' → jSm fp_X8_put_r59_c1 h h' → Q none h') : jC m_X8_put 1 0 0 [.ref 59, .int a1, .int 1, .int a3] h Q := by
  refine jC.of rfl k_X8_put rfl ?_
  have Sm := jSm_rf fp_X8_put_r59_c1 h
  show jX m_X8_put 1 0 0 0 [(0, .ref 59), (1, .int a1), (2, .int 1), (3, .int a3)] [] _ 0 0 _
  refine x_iloadn (x := a1) rfl rfl ?_
  refine x_iflt (tgt := 38) rfl rfl (ti_lt rfl jk_0 (br_f (by omega) ?_))
  refine x_iloadn (x := a1) rfl rfl ?_
  refine x_aloadn (x := 59) rfl rfl ?_
  refine z_getI (N := 4) 8 3 rfl f_8_7 rfl J rfl sg_59_3_4_1_0_1 (fun v1 qv1 ev1 => ?_)
  refine x_icge (tgt := 38) rfl rfl (ti_ge rfl rfl ⟨fun c2 => ?_, fun c2 => ?_⟩)
  ·
    exact jX.sub jsb_n (ct_X8_put_r59_c1_38 hD hQ  h J Sm)
  ·
    refine x_iloadn (x := 1) rfl rfl ?_
    refine x_iflt (tgt := 38) rfl rfl (ti_lt jk_1 jk_0 (br_f (by omega) ?_))
    refine x_iloadn (x := 1) rfl rfl ?_
    refine x_aloadn (x := 59) rfl rfl ?_
    refine z_getC (N := 4) (v := 4) 8 0 rfl f_8_19 rfl J rfl sg_59_0_1_1_0_1 jk_4 ?_
    refine x_icge (tgt := 38) rfl rfl (ti_ge jk_1 jk_4 (br_f (by omega) ?_))
    refine x_aloadn (x := 59) rfl rfl ?_
    refine z_getR (N := 4) (b := 60) 8 2 rfl f_8_25 rfl J rfl 7554 ⟨rfl, rfl⟩ rfl ?_
    refine x_iloadn (x := a1) rfl rfl ?_
    refine x_aloadn (x := 59) rfl rfl ?_
    refine z_getC (N := 4) (v := 4) 8 0 rfl f_8_19 rfl J rfl sg_59_0_1_1_0_1 jk_4 ?_
    refine z_imul rfl rfl jk_4 (by omega) (fun v3 ev3 => ?_)
    refine x_iloadn (x := 1) rfl rfl ?_
    refine z_iadd rfl rfl jk_1 (by omega) (fun v4 ev4 => ?_)
    refine x_iloadn (x := a3) rfl rfl ?_
    refine z_iast (N := 160) (l := 0) (u := 160) (w := a3.toInt) rfl hD J Sm rfl rfl rfl (by omega) rfl (wr_60 (fun q1 q2 q3 q4 => by omega) (fun q1 q2 q3 q4 => by omega) (fun q1 q2 q3 q4 => by omega)) rfl (fun h w5 J Sm => ?_)
    exact jX.sub jsb_n (ct_X8_put_r59_c1_38 hD hQ  h J Sm)
def fp_X8_put_r59_c2 : jFp := [(60, 0, 160)]
set_option maxRecDepth 100000 in
set_option maxHeartbeats 4000000 in
theorem ct_X8_put_r59_c2_38 {Dy : jH → Prop} {h0 : jH} {Q : Option Value → jH → Prop} (hD : jDk Dy) (hQ : ∀ h', jJ jSgX Dy h' → jSm fp_X8_put_r59_c2 h0 h' → Q none h') : ∀ (h : jH), jJ jSgX Dy h → jSm fp_X8_put_r59_c2 h0 h → jX m_X8_put 1 0 0 38 [] [] h 0 0 Q := by
  intro  h    J Sm
  refine x_vret rfl rfl ?_
  exact hQ _ J Sm
set_option maxRecDepth 100000 in
set_option maxHeartbeats 4000000 in
theorem sf_X8_put_r59_c2 {Dy : jH → Prop} {h : jH} {Q : Option Value → jH → Prop} {a1 : Int32} {a3 : Int32} (y1 : 0 ≤ a1.toInt ∧ a1.toInt ≤ 39) (y3 : 0 ≤ a3.toInt ∧ a3.toInt ≤ 3) (hD : jDk Dy) (J : jJ jSgX Dy h) (hQ : ∀ h', jJ jSgX Dy h' → jSm fp_X8_put_r59_c2 h h' → Q none h') : jC m_X8_put 1 0 0 [.ref 59, .int a1, .int 2, .int a3] h Q := by
  refine jC.of rfl k_X8_put rfl ?_
  have Sm := jSm_rf fp_X8_put_r59_c2 h
  show jX m_X8_put 1 0 0 0 [(0, .ref 59), (1, .int a1), (2, .int 2), (3, .int a3)] [] _ 0 0 _
  refine x_iloadn (x := a1) rfl rfl ?_
  refine x_iflt (tgt := 38) rfl rfl (ti_lt rfl jk_0 (br_f (by omega) ?_))
  refine x_iloadn (x := a1) rfl rfl ?_
  refine x_aloadn (x := 59) rfl rfl ?_
  refine z_getI (N := 4) 8 3 rfl f_8_7 rfl J rfl sg_59_3_4_1_0_1 (fun v1 qv1 ev1 => ?_)
  refine x_icge (tgt := 38) rfl rfl (ti_ge rfl rfl ⟨fun c2 => ?_, fun c2 => ?_⟩)
  ·
    exact jX.sub jsb_n (ct_X8_put_r59_c2_38 hD hQ  h J Sm)
  ·
    refine x_iloadn (x := 2) rfl rfl ?_
    refine x_iflt (tgt := 38) rfl rfl (ti_lt jk_2 jk_0 (br_f (by omega) ?_))
    refine x_iloadn (x := 2) rfl rfl ?_
    refine x_aloadn (x := 59) rfl rfl ?_
    refine z_getC (N := 4) (v := 4) 8 0 rfl f_8_19 rfl J rfl sg_59_0_1_1_0_1 jk_4 ?_
    refine x_icge (tgt := 38) rfl rfl (ti_ge jk_2 jk_4 (br_f (by omega) ?_))
    refine x_aloadn (x := 59) rfl rfl ?_
    refine z_getR (N := 4) (b := 60) 8 2 rfl f_8_25 rfl J rfl 7554 ⟨rfl, rfl⟩ rfl ?_
    refine x_iloadn (x := a1) rfl rfl ?_
    refine x_aloadn (x := 59) rfl rfl ?_
    refine z_getC (N := 4) (v := 4) 8 0 rfl f_8_19 rfl J rfl sg_59_0_1_1_0_1 jk_4 ?_
    refine z_imul rfl rfl jk_4 (by omega) (fun v3 ev3 => ?_)
    refine x_iloadn (x := 2) rfl rfl ?_
    refine z_iadd rfl rfl jk_2 (by omega) (fun v4 ev4 => ?_)
    refine x_iloadn (x := a3) rfl rfl ?_
    refine z_iast (N := 160) (l := 0) (u := 160) (w := a3.toInt) rfl hD J Sm rfl rfl rfl (by omega) rfl (wr_60 (fun q1 q2 q3 q4 => by omega) (fun q1 q2 q3 q4 => by omega) (fun q1 q2 q3 q4 => by omega)) rfl (fun h w5 J Sm => ?_)
    exact jX.sub jsb_n (ct_X8_put_r59_c2_38 hD hQ  h J Sm)
def fp_X8_put_r59_c3 : jFp := [(60, 0, 160)]
set_option maxRecDepth 100000 in
set_option maxHeartbeats 4000000 in
theorem ct_X8_put_r59_c3_38 {Dy : jH → Prop} {h0 : jH} {Q : Option Value → jH → Prop} (hD : jDk Dy) (hQ : ∀ h', jJ jSgX Dy h' → jSm fp_X8_put_r59_c3 h0 h' → Q none h') : ∀ (h : jH), jJ jSgX Dy h → jSm fp_X8_put_r59_c3 h0 h → jX m_X8_put 1 0 0 38 [] [] h 0 0 Q := by
  intro  h    J Sm
  refine x_vret rfl rfl ?_
  exact hQ _ J Sm
set_option maxRecDepth 100000 in
set_option maxHeartbeats 4000000 in
theorem sf_X8_put_r59_c3 {Dy : jH → Prop} {h : jH} {Q : Option Value → jH → Prop} {a1 : Int32} {a3 : Int32} (y1 : 0 ≤ a1.toInt ∧ a1.toInt ≤ 39) (hD : jDk Dy) (J : jJ jSgX Dy h) (hQ : ∀ h', jJ jSgX Dy h' → jSm fp_X8_put_r59_c3 h h' → Q none h') : jC m_X8_put 1 0 0 [.ref 59, .int a1, .int 3, .int a3] h Q := by
  refine jC.of rfl k_X8_put rfl ?_
  have Sm := jSm_rf fp_X8_put_r59_c3 h
  have ea3 := jfull a3
  show jX m_X8_put 1 0 0 0 [(0, .ref 59), (1, .int a1), (2, .int 3), (3, .int a3)] [] _ 0 0 _
  refine x_iloadn (x := a1) rfl rfl ?_
  refine x_iflt (tgt := 38) rfl rfl (ti_lt rfl jk_0 (br_f (by omega) ?_))
  refine x_iloadn (x := a1) rfl rfl ?_
  refine x_aloadn (x := 59) rfl rfl ?_
  refine z_getI (N := 4) 8 3 rfl f_8_7 rfl J rfl sg_59_3_4_1_0_1 (fun v1 qv1 ev1 => ?_)
  refine x_icge (tgt := 38) rfl rfl (ti_ge rfl rfl ⟨fun c2 => ?_, fun c2 => ?_⟩)
  ·
    exact jX.sub jsb_n (ct_X8_put_r59_c3_38 hD hQ  h J Sm)
  ·
    refine x_iloadn (x := 3) rfl rfl ?_
    refine x_iflt (tgt := 38) rfl rfl (ti_lt jk_3 jk_0 (br_f (by omega) ?_))
    refine x_iloadn (x := 3) rfl rfl ?_
    refine x_aloadn (x := 59) rfl rfl ?_
    refine z_getC (N := 4) (v := 4) 8 0 rfl f_8_19 rfl J rfl sg_59_0_1_1_0_1 jk_4 ?_
    refine x_icge (tgt := 38) rfl rfl (ti_ge jk_3 jk_4 (br_f (by omega) ?_))
    refine x_aloadn (x := 59) rfl rfl ?_
    refine z_getR (N := 4) (b := 60) 8 2 rfl f_8_25 rfl J rfl 7554 ⟨rfl, rfl⟩ rfl ?_
    refine x_iloadn (x := a1) rfl rfl ?_
    refine x_aloadn (x := 59) rfl rfl ?_
    refine z_getC (N := 4) (v := 4) 8 0 rfl f_8_19 rfl J rfl sg_59_0_1_1_0_1 jk_4 ?_
    refine z_imul rfl rfl jk_4 (by omega) (fun v3 ev3 => ?_)
    refine x_iloadn (x := 3) rfl rfl ?_
    refine z_iadd rfl rfl jk_3 (by omega) (fun v4 ev4 => ?_)
    refine x_iloadn (x := a3) rfl rfl ?_
    refine z_iast (N := 160) (l := 0) (u := 160) (w := a3.toInt) rfl hD J Sm rfl rfl rfl (by omega) rfl (wr_60 (fun q1 q2 q3 q4 => by omega) (fun q1 q2 q3 q4 => by omega) (fun q1 q2 q3 q4 => by omega)) rfl (fun h w5 J Sm => ?_)
    exact jX.sub jsb_n (ct_X8_put_r59_c3_38 hD hQ  h J Sm)
def fp_X8_put_r59_c4 : jFp := []
set_option maxRecDepth 100000 in
set_option maxHeartbeats 4000000 in
theorem ct_X8_put_r59_c4_38 {Dy : jH → Prop} {h0 : jH} {Q : Option Value → jH → Prop} (hD : jDk Dy) (hQ : ∀ h', jJ jSgX Dy h' → jSm fp_X8_put_r59_c4 h0 h' → Q none h') : ∀ (h : jH), jJ jSgX Dy h → jSm fp_X8_put_r59_c4 h0 h → jX m_X8_put 1 0 0 38 [] [] h 0 0 Q := by
  intro  h    J Sm
  refine x_vret rfl rfl ?_
  exact hQ _ J Sm
set_option maxRecDepth 100000 in
set_option maxHeartbeats 4000000 in
theorem sf_X8_put_r59_c4 {Dy : jH → Prop} {h : jH} {Q : Option Value → jH → Prop} {a1 : Int32} {a3 : Int32} (y1 : 0 ≤ a1.toInt ∧ a1.toInt ≤ 39) (y3 : 0 ≤ a3.toInt ∧ a3.toInt ≤ 0) (hD : jDk Dy) (J : jJ jSgX Dy h) (hQ : ∀ h', jJ jSgX Dy h' → jSm fp_X8_put_r59_c4 h h' → Q none h') : jC m_X8_put 1 0 0 [.ref 59, .int a1, .int 4, .int a3] h Q := by
  refine jC.of rfl k_X8_put rfl ?_
  have Sm := jSm_rf fp_X8_put_r59_c4 h
  show jX m_X8_put 1 0 0 0 [(0, .ref 59), (1, .int a1), (2, .int 4), (3, .int a3)] [] _ 0 0 _
  refine x_iloadn (x := a1) rfl rfl ?_
  refine x_iflt (tgt := 38) rfl rfl (ti_lt rfl jk_0 (br_f (by omega) ?_))
  refine x_iloadn (x := a1) rfl rfl ?_
  refine x_aloadn (x := 59) rfl rfl ?_
  refine z_getI (N := 4) 8 3 rfl f_8_7 rfl J rfl sg_59_3_4_1_0_1 (fun v1 qv1 ev1 => ?_)
  refine x_icge (tgt := 38) rfl rfl (ti_ge rfl rfl ⟨fun c2 => ?_, fun c2 => ?_⟩)
  ·
    exact jX.sub jsb_n (ct_X8_put_r59_c4_38 hD hQ  h J Sm)
  ·
    refine x_iloadn (x := 4) rfl rfl ?_
    refine x_iflt (tgt := 38) rfl rfl (ti_lt jk_4 jk_0 (br_f (by omega) ?_))
    refine x_iloadn (x := 4) rfl rfl ?_
    refine x_aloadn (x := 59) rfl rfl ?_
    refine z_getC (N := 4) (v := 4) 8 0 rfl f_8_19 rfl J rfl sg_59_0_1_1_0_1 jk_4 ?_
    refine x_icge (tgt := 38) rfl rfl (ti_ge jk_4 jk_4 (br_t (by omega) ?_))
    exact jX.sub jsb_n (ct_X8_put_r59_c4_38 hD hQ  h J Sm)
def fp_X8_put_r59_c5 : jFp := []
set_option maxRecDepth 100000 in
set_option maxHeartbeats 4000000 in
theorem ct_X8_put_r59_c5_38 {Dy : jH → Prop} {h0 : jH} {Q : Option Value → jH → Prop} (hD : jDk Dy) (hQ : ∀ h', jJ jSgX Dy h' → jSm fp_X8_put_r59_c5 h0 h' → Q none h') : ∀ (h : jH), jJ jSgX Dy h → jSm fp_X8_put_r59_c5 h0 h → jX m_X8_put 1 0 0 38 [] [] h 0 0 Q := by
  intro  h    J Sm
  refine x_vret rfl rfl ?_
  exact hQ _ J Sm
set_option maxRecDepth 100000 in
set_option maxHeartbeats 4000000 in
theorem sf_X8_put_r59_c5 {Dy : jH → Prop} {h : jH} {Q : Option Value → jH → Prop} {a1 : Int32} {a3 : Int32} (y1 : 0 ≤ a1.toInt ∧ a1.toInt ≤ 39) (y3 : 0 ≤ a3.toInt ∧ a3.toInt ≤ 0) (hD : jDk Dy) (J : jJ jSgX Dy h) (hQ : ∀ h', jJ jSgX Dy h' → jSm fp_X8_put_r59_c5 h h' → Q none h') : jC m_X8_put 1 0 0 [.ref 59, .int a1, .int 5, .int a3] h Q := by
  refine jC.of rfl k_X8_put rfl ?_
  have Sm := jSm_rf fp_X8_put_r59_c5 h
  show jX m_X8_put 1 0 0 0 [(0, .ref 59), (1, .int a1), (2, .int 5), (3, .int a3)] [] _ 0 0 _
  refine x_iloadn (x := a1) rfl rfl ?_
  refine x_iflt (tgt := 38) rfl rfl (ti_lt rfl jk_0 (br_f (by omega) ?_))
  refine x_iloadn (x := a1) rfl rfl ?_
  refine x_aloadn (x := 59) rfl rfl ?_
  refine z_getI (N := 4) 8 3 rfl f_8_7 rfl J rfl sg_59_3_4_1_0_1 (fun v1 qv1 ev1 => ?_)
  refine x_icge (tgt := 38) rfl rfl (ti_ge rfl rfl ⟨fun c2 => ?_, fun c2 => ?_⟩)
  ·
    exact jX.sub jsb_n (ct_X8_put_r59_c5_38 hD hQ  h J Sm)
  ·
    refine x_iloadn (x := 5) rfl rfl ?_
    refine x_iflt (tgt := 38) rfl rfl (ti_lt jk_5 jk_0 (br_f (by omega) ?_))
    refine x_iloadn (x := 5) rfl rfl ?_
    refine x_aloadn (x := 59) rfl rfl ?_
    refine z_getC (N := 4) (v := 4) 8 0 rfl f_8_19 rfl J rfl sg_59_0_1_1_0_1 jk_4 ?_
    refine x_icge (tgt := 38) rfl rfl (ti_ge jk_5 jk_4 (br_t (by omega) ?_))
    exact jX.sub jsb_n (ct_X8_put_r59_c5_38 hD hQ  h J Sm)
def fp_X8_add_r59 : jFp := [(59, 3, 4), (60, 0, 160)]
set_option maxRecDepth 100000 in
set_option maxHeartbeats 4000000 in
theorem sf_X8_add_r59 {Dy : jH → Prop} {h : jH} {Q : Option Value → jH → Prop} {a1 : Int32} {a2 : Int32} {a3 : Int32} {a4 : Int32} {a5 : Int32} {a6 : Int32} (y1 : 0 ≤ a1.toInt ∧ a1.toInt ≤ 146399) (y2 : 0 ≤ a2.toInt ∧ a2.toInt ≤ 399) (y3 : 0 ≤ a3.toInt ∧ a3.toInt ≤ 3) (y5 : 0 ≤ a5.toInt ∧ a5.toInt ≤ 0) (y6 : 0 ≤ a6.toInt ∧ a6.toInt ≤ 0) (hD : jDk Dy) (J : jJ jSgX Dy h) (hQ : ∀ h', jJ jSgX Dy h' → jSm fp_X8_add_r59 h h' → Q none h') : jC m_X8_add 2 0 0 [.ref 59, .int a1, .int a2, .int a3, .int a4, .int a5, .int a6] h Q := by
  refine jC.of rfl k_X8_add rfl ?_
  have Sm := jSm_rf fp_X8_add_r59 h
  have ea4 := jfull a4
  show jX m_X8_add 2 0 0 0 [(0, .ref 59), (1, .int a1), (2, .int a2), (3, .int a3), (4, .int a4), (5, .int a5), (6, .int a6)] [] _ 0 0 _
  refine x_aloadn (x := 59) rfl rfl ?_
  refine z_getI (N := 4) 8 3 rfl f_8_7 rfl J rfl sg_59_3_4_1_0_1 (fun v1 qv1 ev1 => ?_)
  refine x_aloadn (x := 59) rfl rfl ?_
  refine z_getC (N := 4) (v := 40) 8 1 rfl f_8_22 rfl J rfl sg_59_1_2_1_0_1 jk_40 ?_
  refine x_iclt (tgt := 12) rfl rfl (ti_lt rfl jk_40 ⟨fun c2 => ?_, fun c2 => ?_⟩)
  ·
    refine x_aloadn (x := 59) rfl rfl ?_
    refine z_getM (N := 4) (v := v1) 8 3 rfl f_8_7 rfl J rfl qv1 ?_
    refine x_istore (ls' := [(7, .int v1), (0, .ref 59), (1, .int a1), (2, .int a2), (3, .int a3), (4, .int a4), (5, .int a5), (6, .int a6)]) rfl rfl rfl ?_
    refine x_aloadn (x := 59) rfl rfl ?_
    refine x_iload (x := v1) rfl rfl ?_
    refine x_iconst (v := 1) rfl ki_1 ?_
    refine z_iadd rfl rfl jk_1 (by omega) (fun v3 ev3 => ?_)
    refine z_putI (N := 4) (w := v3.toInt) 8 3 rfl f_8_7 rfl (jfin_no TX8 RX8 4 rfl rfl) hD J Sm rfl rfl rfl (pw_59_3 (by omega)) rfl (fun h w4 J Sm => ?_)
    refine x_aloadn (x := 59) rfl rfl ?_
    refine x_iload (x := v1) rfl rfl ?_
    refine x_iconst (v := 0) rfl ki_0 ?_
    refine x_iloadn (x := a1) rfl rfl ?_
    refine x_inv (N := m_X8_put) (As := [.int v1, .int 0, .int a1]) (b := 59) (st := []) (d' := 1) (mc := 0) (ms := 0) (host := "") 8 rfl t_X8_put ⟨Or.inl q_8_29, i_X8_put.1, i_X8_put.2⟩ ⟨by decide, rfl⟩ (congrArg Prod.fst (J.1.1 59 (8, 4) rfl)) rfl (by decide) rfl rfl ⟨by decide, by decide⟩ (sf_X8_put_r59_c0 (jr_of rfl (by omega)) (jr_of rfl (by omega)) hD J  (fun h J S5 => ?_))
    have Sm := jSm_tr rfl Sm S5
    show jX m_X8_add 2 0 0 34 [(7, .int v1), (0, .ref 59), (1, .int a1), (2, .int a2), (3, .int a3), (4, .int a4), (5, .int a5), (6, .int a6)] [] _ 0 0 _
    refine x_aloadn (x := 59) rfl rfl ?_
    refine x_iload (x := v1) rfl rfl ?_
    refine x_iconst (v := 1) rfl ki_1 ?_
    refine x_iloadn (x := a2) rfl rfl ?_
    refine x_inv (N := m_X8_put) (As := [.int v1, .int 1, .int a2]) (b := 59) (st := []) (d' := 1) (mc := 0) (ms := 0) (host := "") 8 rfl t_X8_put ⟨Or.inl q_8_29, i_X8_put.1, i_X8_put.2⟩ ⟨by decide, rfl⟩ (congrArg Prod.fst (J.1.1 59 (8, 4) rfl)) rfl (by decide) rfl rfl ⟨by decide, by decide⟩ (sf_X8_put_r59_c1 (jr_of rfl (by omega)) (jr_of rfl (by omega)) hD J  (fun h J S6 => ?_))
    have Sm := jSm_tr rfl Sm S6
    show jX m_X8_add 2 0 0 42 [(7, .int v1), (0, .ref 59), (1, .int a1), (2, .int a2), (3, .int a3), (4, .int a4), (5, .int a5), (6, .int a6)] [] _ 0 0 _
    refine x_aloadn (x := 59) rfl rfl ?_
    refine x_iload (x := v1) rfl rfl ?_
    refine x_iconst (v := 2) rfl ki_2 ?_
    refine x_iloadn (x := a3) rfl rfl ?_
    refine x_inv (N := m_X8_put) (As := [.int v1, .int 2, .int a3]) (b := 59) (st := []) (d' := 1) (mc := 0) (ms := 0) (host := "") 8 rfl t_X8_put ⟨Or.inl q_8_29, i_X8_put.1, i_X8_put.2⟩ ⟨by decide, rfl⟩ (congrArg Prod.fst (J.1.1 59 (8, 4) rfl)) rfl (by decide) rfl rfl ⟨by decide, by decide⟩ (sf_X8_put_r59_c2 (jr_of rfl (by omega)) (jr_of rfl (by omega)) hD J  (fun h J S7 => ?_))
    have Sm := jSm_tr rfl Sm S7
    show jX m_X8_add 2 0 0 50 [(7, .int v1), (0, .ref 59), (1, .int a1), (2, .int a2), (3, .int a3), (4, .int a4), (5, .int a5), (6, .int a6)] [] _ 0 0 _
    refine x_aloadn (x := 59) rfl rfl ?_
    refine x_iload (x := v1) rfl rfl ?_
    refine x_iconst (v := 3) rfl ki_3 ?_
    refine x_iload (x := a4) rfl rfl ?_
    refine x_inv (N := m_X8_put) (As := [.int v1, .int 3, .int a4]) (b := 59) (st := []) (d' := 1) (mc := 0) (ms := 0) (host := "") 8 rfl t_X8_put ⟨Or.inl q_8_29, i_X8_put.1, i_X8_put.2⟩ ⟨by decide, rfl⟩ (congrArg Prod.fst (J.1.1 59 (8, 4) rfl)) rfl (by decide) rfl rfl ⟨by decide, by decide⟩ (sf_X8_put_r59_c3 (jr_of rfl (by omega)) hD J  (fun h J S8 => ?_))
    have Sm := jSm_tr rfl Sm S8
    show jX m_X8_add 2 0 0 59 [(7, .int v1), (0, .ref 59), (1, .int a1), (2, .int a2), (3, .int a3), (4, .int a4), (5, .int a5), (6, .int a6)] [] _ 0 0 _
    refine x_aloadn (x := 59) rfl rfl ?_
    refine x_iload (x := v1) rfl rfl ?_
    refine x_iconst (v := 4) rfl ki_4 ?_
    refine x_iload (x := a5) rfl rfl ?_
    refine x_inv (N := m_X8_put) (As := [.int v1, .int 4, .int a5]) (b := 59) (st := []) (d' := 1) (mc := 0) (ms := 0) (host := "") 8 rfl t_X8_put ⟨Or.inl q_8_29, i_X8_put.1, i_X8_put.2⟩ ⟨by decide, rfl⟩ (congrArg Prod.fst (J.1.1 59 (8, 4) rfl)) rfl (by decide) rfl rfl ⟨by decide, by decide⟩ (sf_X8_put_r59_c4 (jr_of rfl (by omega)) (jr_of rfl (by omega)) hD J  (fun h J S9 => ?_))
    have Sm := jSm_tr rfl Sm S9
    show jX m_X8_add 2 0 0 68 [(7, .int v1), (0, .ref 59), (1, .int a1), (2, .int a2), (3, .int a3), (4, .int a4), (5, .int a5), (6, .int a6)] [] _ 0 0 _
    refine x_aloadn (x := 59) rfl rfl ?_
    refine x_iload (x := v1) rfl rfl ?_
    refine x_iconst (v := 5) rfl ki_5 ?_
    refine x_iload (x := a6) rfl rfl ?_
    refine x_inv (N := m_X8_put) (As := [.int v1, .int 5, .int a6]) (b := 59) (st := []) (d' := 1) (mc := 0) (ms := 0) (host := "") 8 rfl t_X8_put ⟨Or.inl q_8_29, i_X8_put.1, i_X8_put.2⟩ ⟨by decide, rfl⟩ (congrArg Prod.fst (J.1.1 59 (8, 4) rfl)) rfl (by decide) rfl rfl ⟨by decide, by decide⟩ (sf_X8_put_r59_c5 (jr_of rfl (by omega)) (jr_of rfl (by omega)) hD J  (fun h J S10 => ?_))
    have Sm := jSm_tr rfl Sm S10
    show jX m_X8_add 2 0 0 77 [(7, .int v1), (0, .ref 59), (1, .int a1), (2, .int a2), (3, .int a3), (4, .int a4), (5, .int a5), (6, .int a6)] [] _ 0 0 _
    refine x_vret rfl rfl ?_
    exact hQ _ J Sm
  ·
    refine x_vret rfl rfl ?_
    exact hQ _ J Sm
def fp_X8_isFull_r59 : jFp := []
set_option maxRecDepth 100000 in
set_option maxHeartbeats 4000000 in
theorem ct_X8_isFull_r59_200016 {Dy : jH → Prop} {h0 : jH} {Q : Option Value → jH → Prop} (hD : jDk Dy) (hQ : ∀ (v : Int32) h', 0 ≤ v.toInt ∧ v.toInt ≤ 1 → jJ jSgX Dy h' → jSm fp_X8_isFull_r59 h0 h' → Q (some (.int v)) h') : ∀ (h : jH), jJ jSgX Dy h → jSm fp_X8_isFull_r59 h0 h → jX m_X8_isFull 1 0 0 16 [] [.int 0] h 0 0 Q := by
  intro  h    J Sm
  refine x_zret rfl rfl (by decide) ?_
  exact hQ _ _ (jr_of jk_0 (by omega)) J Sm
set_option maxRecDepth 100000 in
set_option maxHeartbeats 4000000 in
theorem ct_X8_isFull_r59_300016 {Dy : jH → Prop} {h0 : jH} {Q : Option Value → jH → Prop} (hD : jDk Dy) (hQ : ∀ (v : Int32) h', 0 ≤ v.toInt ∧ v.toInt ≤ 1 → jJ jSgX Dy h' → jSm fp_X8_isFull_r59 h0 h' → Q (some (.int v)) h') : ∀ (h : jH), jJ jSgX Dy h → jSm fp_X8_isFull_r59 h0 h → jX m_X8_isFull 1 0 0 16 [] [.int 1] h 0 0 Q := by
  intro  h    J Sm
  refine x_zret rfl rfl (by decide) ?_
  exact hQ _ _ (jr_of jk_1 (by omega)) J Sm
set_option maxRecDepth 100000 in
set_option maxHeartbeats 4000000 in
theorem sf_X8_isFull_r59 {Dy : jH → Prop} {h : jH} {Q : Option Value → jH → Prop} (hD : jDk Dy) (J : jJ jSgX Dy h) (hQ : ∀ (v : Int32) h', 0 ≤ v.toInt ∧ v.toInt ≤ 1 → jJ jSgX Dy h' → jSm fp_X8_isFull_r59 h h' → Q (some (.int v)) h') : jC m_X8_isFull 1 0 0 [.ref 59] h Q := by
  refine jC.of rfl k_X8_isFull rfl ?_
  have Sm := jSm_rf fp_X8_isFull_r59 h
  show jX m_X8_isFull 1 0 0 0 [(0, .ref 59)] [] _ 0 0 _
  refine x_aloadn (x := 59) rfl rfl ?_
  refine z_getI (N := 4) 8 3 rfl f_8_7 rfl J rfl sg_59_3_4_1_0_1 (fun v1 qv1 ev1 => ?_)
  refine x_aloadn (x := 59) rfl rfl ?_
  refine z_getC (N := 4) (v := 40) 8 1 rfl f_8_22 rfl J rfl sg_59_1_2_1_0_1 jk_40 ?_
  refine x_iclt (tgt := 15) rfl rfl (ti_lt rfl jk_40 ⟨fun c2 => ?_, fun c2 => ?_⟩)
  ·
    refine x_iconst (v := 0) rfl ki_0 ?_
    exact jX.sub jsb_n (ct_X8_isFull_r59_200016 hD hQ  h J Sm)
  ·
    refine x_iconst (v := 1) rfl ki_1 ?_
    refine x_goto (tgt := 16) rfl rfl ?_
    exact jX.sub jsb_n (ct_X8_isFull_r59_300016 hD hQ  h J Sm)
def fp_X11_close_r31 : jFp := [(31, 12, 13), (32, 19, 20), (59, 3, 4), (60, 0, 160)]
set_option maxRecDepth 100000 in
set_option maxHeartbeats 4000000 in
theorem ct_X11_close_r31_22 {Dy : jH → Prop} {h0 : jH} {Q : Option Value → jH → Prop} (hD : jDk Dy) (hQ : ∀ (v : Int32) h', (-5) ≤ v.toInt ∧ v.toInt ≤ 0 → jJ jSgX Dy h' → jSm fp_X11_close_r31 h0 h' → Q (some (.int v)) h') : ∀ (h : jH), jJ jSgX Dy h → jSm fp_X11_close_r31 h0 h → jX m_X11_close 5 0 0 22 [(0, .ref 31)] [] h 0 0 Q := by
  intro  h    J Sm
  refine x_aloadn (x := 31) rfl rfl ?_
  refine x_iconst (v := (-1)) rfl ki_m1 ?_
  refine x_inv (N := m_X11_refuse) (As := [.int (-1)]) (b := 31) (st := []) (d' := 4) (mc := 0) (ms := 0) (host := "") 11 rfl t_X11_refuse ⟨Or.inl q_11_206, i_X11_refuse.1, i_X11_refuse.2⟩ ⟨by decide, rfl⟩ (congrArg Prod.fst (J.1.1 31 (11, 13) rfl)) rfl (by decide) rfl rfl ⟨by decide, by decide⟩ (jC.of rfl k_X11_refuse rfl ?_)
  show jX m_X11_refuse 4 0 0 0 [(0, .ref 31), (1, .int (-1))] [] _ 0 0 _
  refine x_aloadn (x := 31) rfl rfl ?_
  refine x_iloadn (x := (-1)) rfl rfl ?_
  refine z_putI (N := 13) (w := (-1)) 11 12 rfl f_11_94 rfl (jfin_no TX11 RX11 13 rfl rfl) hD J Sm rfl rfl jk_m1 (pw_31_12 (by omega)) rfl (fun h w1 J Sm => ?_)
  refine x_iloadn (x := (-1)) rfl rfl ?_
  refine x_iret rfl rfl ?_
  show jX m_X11_close 5 0 0 27 [(0, .ref 31)] [.int (-1)] _ 0 0 _
  refine x_iret rfl rfl ?_
  exact hQ _ _ (jr_of jk_m1 (by omega)) J Sm
set_option maxRecDepth 100000 in
set_option maxHeartbeats 4000000 in
theorem ct_X11_close_r31_61 {Dy : jH → Prop} {h0 : jH} {Q : Option Value → jH → Prop} (hD : jDk Dy) (hQ : ∀ (v : Int32) h', (-5) ≤ v.toInt ∧ v.toInt ≤ 0 → jJ jSgX Dy h' → jSm fp_X11_close_r31 h0 h' → Q (some (.int v)) h') : ∀ (h : jH), jJ jSgX Dy h → jSm fp_X11_close_r31 h0 h → jX m_X11_close 5 0 0 61 [(0, .ref 31)] [] h 0 0 Q := by
  intro  h    J Sm
  refine x_aloadn (x := 31) rfl rfl ?_
  refine x_bipush (v := (-3)) rfl kb_m3 ?_
  refine x_inv (N := m_X11_refuse) (As := [.int (-3)]) (b := 31) (st := []) (d' := 4) (mc := 0) (ms := 0) (host := "") 11 rfl t_X11_refuse ⟨Or.inl q_11_206, i_X11_refuse.1, i_X11_refuse.2⟩ ⟨by decide, rfl⟩ (congrArg Prod.fst (J.1.1 31 (11, 13) rfl)) rfl (by decide) rfl rfl ⟨by decide, by decide⟩ (jC.of rfl k_X11_refuse rfl ?_)
  show jX m_X11_refuse 4 0 0 0 [(0, .ref 31), (1, .int (-3))] [] _ 0 0 _
  refine x_aloadn (x := 31) rfl rfl ?_
  refine x_iloadn (x := (-3)) rfl rfl ?_
  refine z_putI (N := 13) (w := (-3)) 11 12 rfl f_11_94 rfl (jfin_no TX11 RX11 13 rfl rfl) hD J Sm rfl rfl jk_m3 (pw_31_12 (by omega)) rfl (fun h w1 J Sm => ?_)
  refine x_iloadn (x := (-3)) rfl rfl ?_
  refine x_iret rfl rfl ?_
  show jX m_X11_close 5 0 0 67 [(0, .ref 31)] [.int (-3)] _ 0 0 _
  refine x_iret rfl rfl ?_
  exact hQ _ _ (jr_of jk_m3 (by omega)) J Sm
set_option maxRecDepth 100000 in
set_option maxHeartbeats 4000000 in
theorem ct_X11_close_r31_49 {Dy : jH → Prop} {h0 : jH} {Q : Option Value → jH → Prop} (hD : jDk Dy) (hQ : ∀ (v : Int32) h', (-5) ≤ v.toInt ∧ v.toInt ≤ 0 → jJ jSgX Dy h' → jSm fp_X11_close_r31 h0 h' → Q (some (.int v)) h') : ∀ (l1 : Int32) (l2 : Int32) (l3 : Int32) (l4 : Int32) (h : jH), 0 ≤ l1.toInt ∧ l1.toInt ≤ 3 → 0 ≤ l2.toInt ∧ l2.toInt ≤ 399 → 0 ≤ l4.toInt ∧ l4.toInt ≤ 146399 → jJ jSgX Dy h → jSm fp_X11_close_r31 h0 h → jX m_X11_close 5 0 0 49 [(0, .ref 31), (1, .int l1), (2, .int l2), (3, .int l3), (4, .int l4)] [] h 0 0 Q := by
  intro l1 l2 l3 l4 h y0 y1 y2   J Sm
  have el3 := jfull l3
  refine x_iloadn (x := l3) rfl rfl ?_
  refine x_aloadn (x := 31) rfl rfl ?_
  refine x_iloadn (x := l1) rfl rfl ?_
  refine x_iloadn (x := l2) rfl rfl ?_
  refine x_iload (x := l4) rfl rfl ?_
  refine x_inv (N := m_X11_balanceOf) (As := [.int l1, .int l2, .int l4]) (b := 31) (st := [.int l3]) (d' := 4) (mc := 0) (ms := 0) (host := "") 11 rfl t_X11_balanceOf ⟨Or.inl q_11_479, i_X11_balanceOf.1, i_X11_balanceOf.2⟩ ⟨by decide, rfl⟩ (congrArg Prod.fst (J.1.1 31 (11, 13) rfl)) rfl (by decide) rfl rfl ⟨by decide, by decide⟩ (sf_X11_balanceOf_r31 (jr_of rfl (by omega)) (jr_of rfl (by omega)) (jr_of rfl (by omega)) hD J  (fun v2 h J S1 => ?_))
  have ev2 := jfull v2
  have Sm := jSm_tr rfl Sm S1
  show jX m_X11_close 5 0 0 58 [(0, .ref 31), (1, .int l1), (2, .int l2), (3, .int l3), (4, .int l4)] [.int v2, .int l3] _ 0 0 _
  refine x_iceq (tgt := 68) rfl rfl (ti_eq rfl rfl ⟨fun c3 => ?_, fun c3 => ?_⟩)
  ·
    refine x_aloadn (x := 31) rfl rfl ?_
    refine z_getR (N := 13) (b := 32) 11 0 rfl f_11_10 rfl J rfl 3968 ⟨rfl, rfl⟩ rfl ?_
    refine z_getR (N := 20) (b := 59) 1 13 rfl f_11_482 rfl J rfl 4109 ⟨rfl, rfl⟩ rfl ?_
    refine x_inv (N := m_X8_isFull) (As := []) (b := 59) (st := []) (d' := 1) (mc := 0) (ms := 0) (host := "") 8 rfl t_X8_isFull ⟨Or.inl q_11_130, i_X8_isFull.1, i_X8_isFull.2⟩ ⟨by decide, rfl⟩ (congrArg Prod.fst (J.1.1 59 (8, 4) rfl)) rfl (by decide) rfl rfl ⟨by decide, by decide⟩ (sf_X8_isFull_r59  hD J  (fun v5 h ev5 J S4 => ?_))
    have Sm := jSm_tr rfl Sm S4
    show jX m_X11_close 5 0 0 78 [(0, .ref 31), (1, .int l1), (2, .int l2), (3, .int l3), (4, .int l4)] [.int v5] _ 0 0 _
    refine x_ifeq (tgt := 88) rfl rfl (ti_eq rfl jk_0 ⟨fun c6 => ?_, fun c6 => ?_⟩)
    ·
      refine x_aloadn (x := 31) rfl rfl ?_
      refine z_getR (N := 13) (b := 32) 11 0 rfl f_11_10 rfl J rfl 3968 ⟨rfl, rfl⟩ rfl ?_
      refine z_getR (N := 20) (b := 59) 1 13 rfl f_11_482 rfl J rfl 4109 ⟨rfl, rfl⟩ rfl ?_
      refine x_iload (x := l4) rfl rfl ?_
      refine x_iloadn (x := l2) rfl rfl ?_
      refine x_iloadn (x := l1) rfl rfl ?_
      refine x_iloadn (x := l3) rfl rfl ?_
      refine x_iconst (v := 0) rfl ki_0 ?_
      refine x_iconst (v := 0) rfl ki_0 ?_
      refine x_inv (N := m_X8_add) (As := [.int l4, .int l2, .int l1, .int l3, .int 0, .int 0]) (b := 59) (st := []) (d' := 2) (mc := 0) (ms := 0) (host := "") 8 rfl t_X8_add ⟨Or.inl q_11_145, i_X8_add.1, i_X8_add.2⟩ ⟨by decide, rfl⟩ (congrArg Prod.fst (J.1.1 59 (8, 4) rfl)) rfl (by decide) rfl rfl ⟨by decide, by decide⟩ (sf_X8_add_r59 (jr_of rfl (by omega)) (jr_of rfl (by omega)) (jr_of rfl (by omega)) (jr_of jk_0 (by omega)) (jr_of jk_0 (by omega)) hD J  (fun h J S7 => ?_))
      have Sm := jSm_tr rfl Sm S7
      show jX m_X11_close 5 0 0 105 [(0, .ref 31), (1, .int l1), (2, .int l2), (3, .int l3), (4, .int l4)] [] _ 0 0 _
      refine x_aloadn (x := 31) rfl rfl ?_
      refine x_iconst (v := 0) rfl ki_0 ?_
      refine x_inv (N := m_X11_accept) (As := [.int 0]) (b := 31) (st := []) (d' := 4) (mc := 0) (ms := 0) (host := "") 11 rfl t_X11_accept ⟨Or.inl q_11_165, i_X11_accept.1, i_X11_accept.2⟩ ⟨by decide, rfl⟩ (congrArg Prod.fst (J.1.1 31 (11, 13) rfl)) rfl (by decide) rfl rfl ⟨by decide, by decide⟩ (jC.of rfl k_X11_accept rfl ?_)
      show jX m_X11_accept 4 0 0 0 [(0, .ref 31), (1, .int 0)] [] _ 0 0 _
      refine x_aloadn (x := 31) rfl rfl ?_
      refine x_iconst (v := 0) rfl ki_0 ?_
      refine z_putI (N := 13) (w := 0) 11 12 rfl f_11_94 rfl (jfin_no TX11 RX11 13 rfl rfl) hD J Sm rfl rfl jk_0 (pw_31_12 (by omega)) rfl (fun h w8 J Sm => ?_)
      refine x_aloadn (x := 31) rfl rfl ?_
      refine z_getR (N := 13) (b := 32) 11 0 rfl f_11_10 rfl J rfl 3968 ⟨rfl, rfl⟩ rfl ?_
      refine x_dup rfl rfl ?_
      refine z_getI0 (N := 20) 1 19 rfl f_11_528 rfl J rfl (fun v9 qv9 => ?_)
      have ev9 := jfull v9
      refine x_iconst (v := 1) rfl ki_1 ?_
      refine z_iadd0 rfl (fun v10 => ?_)
      have ev10 := jfull v10
      refine z_putI (N := 20) (w := v10.toInt) 1 19 rfl f_11_528 rfl (jfin_no TX1 RX1 20 rfl rfl) hD J Sm rfl rfl rfl (pw_32_19 trivial) rfl (fun h w11 J Sm => ?_)
      refine x_iloadn (x := 0) rfl rfl ?_
      refine x_iret rfl rfl ?_
      show jX m_X11_close 5 0 0 110 [(0, .ref 31), (1, .int l1), (2, .int l2), (3, .int l3), (4, .int l4)] [.int 0] _ 0 0 _
      refine x_iret rfl rfl ?_
      exact hQ _ _ (jr_of jk_0 (by omega)) J Sm
    ·
      refine x_aloadn (x := 31) rfl rfl ?_
      refine x_bipush (v := (-5)) rfl kb_m5 ?_
      refine x_inv (N := m_X11_refuse) (As := [.int (-5)]) (b := 31) (st := []) (d' := 4) (mc := 0) (ms := 0) (host := "") 11 rfl t_X11_refuse ⟨Or.inl q_11_206, i_X11_refuse.1, i_X11_refuse.2⟩ ⟨by decide, rfl⟩ (congrArg Prod.fst (J.1.1 31 (11, 13) rfl)) rfl (by decide) rfl rfl ⟨by decide, by decide⟩ (jC.of rfl k_X11_refuse rfl ?_)
      show jX m_X11_refuse 4 0 0 0 [(0, .ref 31), (1, .int (-5))] [] _ 0 0 _
      refine x_aloadn (x := 31) rfl rfl ?_
      refine x_iloadn (x := (-5)) rfl rfl ?_
      refine z_putI (N := 13) (w := (-5)) 11 12 rfl f_11_94 rfl (jfin_no TX11 RX11 13 rfl rfl) hD J Sm rfl rfl jk_m5 (pw_31_12 (by omega)) rfl (fun h w12 J Sm => ?_)
      refine x_iloadn (x := (-5)) rfl rfl ?_
      refine x_iret rfl rfl ?_
      show jX m_X11_close 5 0 0 87 [(0, .ref 31), (1, .int l1), (2, .int l2), (3, .int l3), (4, .int l4)] [.int (-5)] _ 0 0 _
      refine x_iret rfl rfl ?_
      exact hQ _ _ (jr_of jk_m5 (by omega)) J Sm
  ·
    exact jX.sub (jsb_c rfl jsb_n) (ct_X11_close_r31_61 hD hQ  h J Sm)
set_option maxRecDepth 100000 in
set_option maxHeartbeats 4000000 in
theorem sf_X11_close_r31 {Dy : jH → Prop} {h : jH} {Q : Option Value → jH → Prop} {a1 : Int32} {a2 : Int32} {a3 : Int32} {a4 : Int32} (hD : jDk Dy) (J : jJ jSgX Dy h) (hQ : ∀ (v : Int32) h', (-5) ≤ v.toInt ∧ v.toInt ≤ 0 → jJ jSgX Dy h' → jSm fp_X11_close_r31 h h' → Q (some (.int v)) h') : jC m_X11_close 5 0 0 [.ref 31, .int a1, .int a2, .int a3, .int a4] h Q := by
  refine jC.of rfl k_X11_close rfl ?_
  have Sm := jSm_rf fp_X11_close_r31 h
  have ea1 := jfull a1
  have ea2 := jfull a2
  have ea3 := jfull a3
  have ea4 := jfull a4
  show jX m_X11_close 5 0 0 0 [(0, .ref 31), (1, .int a1), (2, .int a2), (3, .int a3), (4, .int a4)] [] _ 0 0 _
  refine x_iloadn (x := a1) rfl rfl ?_
  refine x_inst (N := m_X11_isOffice) (As := [.int a1]) (st := []) (d' := 1) (mc := 0) (ms := 0) (host := "") rfl t_X11_isOffice ⟨Or.inl q_11_456, s_X11_isOffice⟩ rfl (by decide) rfl rfl ⟨by decide, by decide⟩ (zc_X11_isOffice rfl (fun v1 ev1 => ?_))
  show jX m_X11_close 5 0 0 4 [(0, .ref 31), (1, .int a1), (2, .int a2), (3, .int a3), (4, .int a4)] [.int v1] _ 0 0 _
  refine x_ifeq (tgt := 22) rfl rfl (ti_eq rfl jk_0 ⟨fun c2 => ?_, fun c2 => ?_⟩)
  ·
    exact jX.sub (jsb_c rfl jsb_n) (ct_X11_close_r31_22 hD hQ  h J Sm)
  ·
    refine x_iloadn (x := a2) rfl rfl ?_
    refine x_inst (N := m_X11_isYear) (As := [.int a2]) (st := []) (d' := 1) (mc := 0) (ms := 0) (host := "") rfl t_X11_isYear ⟨Or.inl q_11_433, s_X11_isYear⟩ rfl (by decide) rfl rfl ⟨by decide, by decide⟩ (zc_X11_isYear rfl (fun v3 ev3 => ?_))
    show jX m_X11_close 5 0 0 11 [(0, .ref 31), (1, .int a1), (2, .int a2), (3, .int a3), (4, .int a4)] [.int v3] _ 0 0 _
    refine x_ifeq (tgt := 22) rfl rfl (ti_eq rfl jk_0 ⟨fun c4 => ?_, fun c4 => ?_⟩)
    ·
      exact jX.sub (jsb_c rfl jsb_n) (ct_X11_close_r31_22 hD hQ  h J Sm)
    ·
      refine x_iload (x := a4) rfl rfl ?_
      refine x_inst (N := m_X11_isDay) (As := [.int a4]) (st := []) (d' := 1) (mc := 0) (ms := 0) (host := "") rfl t_X11_isDay ⟨Or.inl q_11_115, s_X11_isDay⟩ rfl (by decide) rfl rfl ⟨by decide, by decide⟩ (zc_X11_isDay rfl (fun v5 ev5 => ?_))
      show jX m_X11_close 5 0 0 19 [(0, .ref 31), (1, .int a1), (2, .int a2), (3, .int a3), (4, .int a4)] [.int v5] _ 0 0 _
      refine x_ifne (tgt := 28) rfl rfl (ti_ne rfl jk_0 ⟨fun c6 => ?_, fun c6 => ?_⟩)
      ·
        refine x_aloadn (x := 31) rfl rfl ?_
        refine x_iloadn (x := a1) rfl rfl ?_
        refine x_inv (N := m_X11_lastClosed) (As := [.int a1]) (b := 31) (st := []) (d' := 2) (mc := 0) (ms := 0) (host := "") 11 rfl t_X11_lastClosed ⟨Or.inl q_11_476, i_X11_lastClosed.1, i_X11_lastClosed.2⟩ ⟨by decide, rfl⟩ (congrArg Prod.fst (J.1.1 31 (11, 13) rfl)) rfl (by decide) rfl rfl ⟨by decide, by decide⟩ (sf_X11_lastClosed_r31 (jr_of rfl (by omega)) hD J  (fun v8 h ev8 J S7 => ?_))
        have Sm := jSm_tr rfl Sm S7
        show jX m_X11_close 5 0 0 33 [(0, .ref 31), (1, .int a1), (2, .int a2), (3, .int a3), (4, .int a4)] [.int v8] _ 0 0 _
        refine x_istore (ls' := [(5, .int v8), (0, .ref 31), (1, .int a1), (2, .int a2), (3, .int a3), (4, .int a4)]) rfl rfl rfl ?_
        refine x_iload (x := v8) rfl rfl ?_
        refine x_iconst (v := (-1)) rfl ki_m1 ?_
        refine x_iceq (tgt := 49) rfl rfl (ti_eq rfl jk_m1 ⟨fun c9 => ?_, fun c9 => ?_⟩)
        ·
          exact jX.sub (jsb_c rfl (jsb_c rfl (jsb_c rfl (jsb_c rfl (jsb_c rfl jsb_n))))) (ct_X11_close_r31_49 hD hQ  a1 a2 a3 a4 h (jr_of rfl (by omega)) (jr_of rfl (by omega)) (jr_of rfl (by omega)) J Sm)
        ·
          refine x_iloadn (x := a2) rfl rfl ?_
          refine x_iload (x := v8) rfl rfl ?_
          refine x_iconst (v := 1) rfl ki_1 ?_
          refine z_iadd rfl rfl jk_1 (by omega) (fun v10 ev10 => ?_)
          refine x_icne (tgt := 61) rfl rfl (ti_ne rfl rfl ⟨fun c11 => ?_, fun c11 => ?_⟩)
          ·
            exact jX.sub (jsb_c rfl jsb_n) (ct_X11_close_r31_61 hD hQ  h J Sm)
          ·
            exact jX.sub (jsb_c rfl (jsb_c rfl (jsb_c rfl (jsb_c rfl (jsb_c rfl jsb_n))))) (ct_X11_close_r31_49 hD hQ  a1 a2 a3 a4 h (jr_of rfl (by omega)) (jr_of rfl (by omega)) (jr_of rfl (by omega)) J Sm)
      ·
        exact jX.sub (jsb_c rfl jsb_n) (ct_X11_close_r31_22 hD hQ  h J Sm)
def fp_X8_at_r61_c1 : jFp := []
set_option maxRecDepth 100000 in
set_option maxHeartbeats 4000000 in
theorem ct_X8_at_r61_c1_24 {Dy : jH → Prop} {h0 : jH} {Q : Option Value → jH → Prop} (hD : jDk Dy) (hQ : ∀ (v : Int32) h', 0 ≤ v.toInt ∧ v.toInt ≤ 399 → jJ jSgX Dy h' → jSm fp_X8_at_r61_c1 h0 h' → Q (some (.int v)) h') : ∀ (h : jH), jJ jSgX Dy h → jSm fp_X8_at_r61_c1 h0 h → jX m_X8_at 1 0 0 24 [] [] h 0 0 Q := by
  intro  h    J Sm
  refine x_iconst (v := 0) rfl ki_0 ?_
  refine x_iret rfl rfl ?_
  exact hQ _ _ (jr_of jk_0 (by omega)) J Sm
set_option maxRecDepth 100000 in
set_option maxHeartbeats 4000000 in
theorem sf_X8_at_r61_c1 {Dy : jH → Prop} {h : jH} {Q : Option Value → jH → Prop} {a1 : Int32} (y1 : 0 ≤ a1.toInt ∧ a1.toInt ≤ 99) (hD : jDk Dy) (J : jJ jSgX Dy h) (hQ : ∀ (v : Int32) h', 0 ≤ v.toInt ∧ v.toInt ≤ 399 → jJ jSgX Dy h' → jSm fp_X8_at_r61_c1 h h' → Q (some (.int v)) h') : jC m_X8_at 1 0 0 [.ref 61, .int a1, .int 1] h Q := by
  refine jC.of rfl k_X8_at rfl ?_
  have Sm := jSm_rf fp_X8_at_r61_c1 h
  show jX m_X8_at 1 0 0 0 [(0, .ref 61), (1, .int a1), (2, .int 1)] [] _ 0 0 _
  refine x_iloadn (x := a1) rfl rfl ?_
  refine x_iflt (tgt := 24) rfl rfl (ti_lt rfl jk_0 (br_f (by omega) ?_))
  refine x_iloadn (x := a1) rfl rfl ?_
  refine x_aloadn (x := 61) rfl rfl ?_
  refine z_getI (N := 4) 8 3 rfl f_8_7 rfl J rfl sg_61_3_4_1_0_1 (fun v1 qv1 ev1 => ?_)
  refine x_icge (tgt := 24) rfl rfl (ti_ge rfl rfl ⟨fun c2 => ?_, fun c2 => ?_⟩)
  ·
    exact jX.sub jsb_n (ct_X8_at_r61_c1_24 hD hQ  h J Sm)
  ·
    refine x_iloadn (x := 1) rfl rfl ?_
    refine x_iflt (tgt := 24) rfl rfl (ti_lt jk_1 jk_0 (br_f (by omega) ?_))
    refine x_iloadn (x := 1) rfl rfl ?_
    refine x_aloadn (x := 61) rfl rfl ?_
    refine z_getC (N := 4) (v := 4) 8 0 rfl f_8_19 rfl J rfl sg_61_0_1_1_0_1 jk_4 ?_
    refine x_iclt (tgt := 26) rfl rfl (ti_lt jk_1 jk_4 (br_t (by omega) ?_))
    refine x_aloadn (x := 61) rfl rfl ?_
    refine z_getR (N := 4) (b := 62) 8 2 rfl f_8_25 rfl J rfl 7810 ⟨rfl, rfl⟩ rfl ?_
    refine x_iloadn (x := a1) rfl rfl ?_
    refine x_aloadn (x := 61) rfl rfl ?_
    refine z_getC (N := 4) (v := 4) 8 0 rfl f_8_19 rfl J rfl sg_61_0_1_1_0_1 jk_4 ?_
    refine z_imul rfl rfl jk_4 (by omega) (fun v3 ev3 => ?_)
    refine x_iloadn (x := 1) rfl rfl ?_
    refine z_iadd rfl rfl jk_1 (by omega) (fun v4 ev4 => ?_)
    refine z_iald (N := 400) rfl J rfl sg_62_0_400_4_1_2 rfl (by omega) (fun v5 qv5 ev5 => ?_)
    refine x_iret rfl rfl ?_
    exact hQ _ _ (jr_of rfl (by omega)) J Sm
def fp_X8_at_r61_c2 : jFp := []
set_option maxRecDepth 100000 in
set_option maxHeartbeats 4000000 in
theorem ct_X8_at_r61_c2_24 {Dy : jH → Prop} {h0 : jH} {Q : Option Value → jH → Prop} (hD : jDk Dy) (hQ : ∀ (v : Int32) h', 0 ≤ v.toInt ∧ v.toInt ≤ 2 → jJ jSgX Dy h' → jSm fp_X8_at_r61_c2 h0 h' → Q (some (.int v)) h') : ∀ (h : jH), jJ jSgX Dy h → jSm fp_X8_at_r61_c2 h0 h → jX m_X8_at 1 0 0 24 [] [] h 0 0 Q := by
  intro  h    J Sm
  refine x_iconst (v := 0) rfl ki_0 ?_
  refine x_iret rfl rfl ?_
  exact hQ _ _ (jr_of jk_0 (by omega)) J Sm
set_option maxRecDepth 100000 in
set_option maxHeartbeats 4000000 in
theorem sf_X8_at_r61_c2 {Dy : jH → Prop} {h : jH} {Q : Option Value → jH → Prop} {a1 : Int32} (y1 : 0 ≤ a1.toInt ∧ a1.toInt ≤ 99) (hD : jDk Dy) (J : jJ jSgX Dy h) (hQ : ∀ (v : Int32) h', 0 ≤ v.toInt ∧ v.toInt ≤ 2 → jJ jSgX Dy h' → jSm fp_X8_at_r61_c2 h h' → Q (some (.int v)) h') : jC m_X8_at 1 0 0 [.ref 61, .int a1, .int 2] h Q := by
  refine jC.of rfl k_X8_at rfl ?_
  have Sm := jSm_rf fp_X8_at_r61_c2 h
  show jX m_X8_at 1 0 0 0 [(0, .ref 61), (1, .int a1), (2, .int 2)] [] _ 0 0 _
  refine x_iloadn (x := a1) rfl rfl ?_
  refine x_iflt (tgt := 24) rfl rfl (ti_lt rfl jk_0 (br_f (by omega) ?_))
  refine x_iloadn (x := a1) rfl rfl ?_
  refine x_aloadn (x := 61) rfl rfl ?_
  refine z_getI (N := 4) 8 3 rfl f_8_7 rfl J rfl sg_61_3_4_1_0_1 (fun v1 qv1 ev1 => ?_)
  refine x_icge (tgt := 24) rfl rfl (ti_ge rfl rfl ⟨fun c2 => ?_, fun c2 => ?_⟩)
  ·
    exact jX.sub jsb_n (ct_X8_at_r61_c2_24 hD hQ  h J Sm)
  ·
    refine x_iloadn (x := 2) rfl rfl ?_
    refine x_iflt (tgt := 24) rfl rfl (ti_lt jk_2 jk_0 (br_f (by omega) ?_))
    refine x_iloadn (x := 2) rfl rfl ?_
    refine x_aloadn (x := 61) rfl rfl ?_
    refine z_getC (N := 4) (v := 4) 8 0 rfl f_8_19 rfl J rfl sg_61_0_1_1_0_1 jk_4 ?_
    refine x_iclt (tgt := 26) rfl rfl (ti_lt jk_2 jk_4 (br_t (by omega) ?_))
    refine x_aloadn (x := 61) rfl rfl ?_
    refine z_getR (N := 4) (b := 62) 8 2 rfl f_8_25 rfl J rfl 7810 ⟨rfl, rfl⟩ rfl ?_
    refine x_iloadn (x := a1) rfl rfl ?_
    refine x_aloadn (x := 61) rfl rfl ?_
    refine z_getC (N := 4) (v := 4) 8 0 rfl f_8_19 rfl J rfl sg_61_0_1_1_0_1 jk_4 ?_
    refine z_imul rfl rfl jk_4 (by omega) (fun v3 ev3 => ?_)
    refine x_iloadn (x := 2) rfl rfl ?_
    refine z_iadd rfl rfl jk_2 (by omega) (fun v4 ev4 => ?_)
    refine z_iald (N := 400) rfl J rfl sg_62_0_400_4_2_3 rfl (by omega) (fun v5 qv5 ev5 => ?_)
    refine x_iret rfl rfl ?_
    exact hQ _ _ (jr_of rfl (by omega)) J Sm
def fp_X8_at_r61_c3 : jFp := []
set_option maxRecDepth 100000 in
set_option maxHeartbeats 4000000 in
theorem ct_X8_at_r61_c3_24 {Dy : jH → Prop} {h0 : jH} {Q : Option Value → jH → Prop} (hD : jDk Dy) (hQ : ∀ (v : Int32) h', 0 ≤ v.toInt ∧ v.toInt ≤ 10000 → jJ jSgX Dy h' → jSm fp_X8_at_r61_c3 h0 h' → Q (some (.int v)) h') : ∀ (h : jH), jJ jSgX Dy h → jSm fp_X8_at_r61_c3 h0 h → jX m_X8_at 1 0 0 24 [] [] h 0 0 Q := by
  intro  h    J Sm
  refine x_iconst (v := 0) rfl ki_0 ?_
  refine x_iret rfl rfl ?_
  exact hQ _ _ (jr_of jk_0 (by omega)) J Sm
set_option maxRecDepth 100000 in
set_option maxHeartbeats 4000000 in
theorem sf_X8_at_r61_c3 {Dy : jH → Prop} {h : jH} {Q : Option Value → jH → Prop} {a1 : Int32} (y1 : 0 ≤ a1.toInt ∧ a1.toInt ≤ 99) (hD : jDk Dy) (J : jJ jSgX Dy h) (hQ : ∀ (v : Int32) h', 0 ≤ v.toInt ∧ v.toInt ≤ 10000 → jJ jSgX Dy h' → jSm fp_X8_at_r61_c3 h h' → Q (some (.int v)) h') : jC m_X8_at 1 0 0 [.ref 61, .int a1, .int 3] h Q := by
  refine jC.of rfl k_X8_at rfl ?_
  have Sm := jSm_rf fp_X8_at_r61_c3 h
  show jX m_X8_at 1 0 0 0 [(0, .ref 61), (1, .int a1), (2, .int 3)] [] _ 0 0 _
  refine x_iloadn (x := a1) rfl rfl ?_
  refine x_iflt (tgt := 24) rfl rfl (ti_lt rfl jk_0 (br_f (by omega) ?_))
  refine x_iloadn (x := a1) rfl rfl ?_
  refine x_aloadn (x := 61) rfl rfl ?_
  refine z_getI (N := 4) 8 3 rfl f_8_7 rfl J rfl sg_61_3_4_1_0_1 (fun v1 qv1 ev1 => ?_)
  refine x_icge (tgt := 24) rfl rfl (ti_ge rfl rfl ⟨fun c2 => ?_, fun c2 => ?_⟩)
  ·
    exact jX.sub jsb_n (ct_X8_at_r61_c3_24 hD hQ  h J Sm)
  ·
    refine x_iloadn (x := 3) rfl rfl ?_
    refine x_iflt (tgt := 24) rfl rfl (ti_lt jk_3 jk_0 (br_f (by omega) ?_))
    refine x_iloadn (x := 3) rfl rfl ?_
    refine x_aloadn (x := 61) rfl rfl ?_
    refine z_getC (N := 4) (v := 4) 8 0 rfl f_8_19 rfl J rfl sg_61_0_1_1_0_1 jk_4 ?_
    refine x_iclt (tgt := 26) rfl rfl (ti_lt jk_3 jk_4 (br_t (by omega) ?_))
    refine x_aloadn (x := 61) rfl rfl ?_
    refine z_getR (N := 4) (b := 62) 8 2 rfl f_8_25 rfl J rfl 7810 ⟨rfl, rfl⟩ rfl ?_
    refine x_iloadn (x := a1) rfl rfl ?_
    refine x_aloadn (x := 61) rfl rfl ?_
    refine z_getC (N := 4) (v := 4) 8 0 rfl f_8_19 rfl J rfl sg_61_0_1_1_0_1 jk_4 ?_
    refine z_imul rfl rfl jk_4 (by omega) (fun v3 ev3 => ?_)
    refine x_iloadn (x := 3) rfl rfl ?_
    refine z_iadd rfl rfl jk_3 (by omega) (fun v4 ev4 => ?_)
    refine z_iald (N := 400) rfl J rfl sg_62_0_400_4_3_4 rfl (by omega) (fun v5 qv5 ev5 => ?_)
    refine x_iret rfl rfl ?_
    exact hQ _ _ (jr_of rfl (by omega)) J Sm
def fp_X8_isKnown_r61 : jFp := []
set_option maxRecDepth 100000 in
set_option maxHeartbeats 4000000 in
theorem ct_X8_isKnown_r61_300032 {Dy : jH → Prop} {h0 : jH} {Q : Option Value → jH → Prop} (hD : jDk Dy) (hQ : ∀ (v : Int32) h', 0 ≤ v.toInt ∧ v.toInt ≤ 1 → jJ jSgX Dy h' → jSm fp_X8_isKnown_r61 h0 h' → Q (some (.int v)) h') : ∀ (h : jH), jJ jSgX Dy h → jSm fp_X8_isKnown_r61 h0 h → jX m_X8_isKnown 1 0 0 32 [] [.int 1] h 0 0 Q := by
  intro  h    J Sm
  refine x_zret rfl rfl (by decide) ?_
  exact hQ _ _ (jr_of jk_1 (by omega)) J Sm
set_option maxRecDepth 100000 in
set_option maxHeartbeats 4000000 in
theorem ct_X8_isKnown_r61_200032 {Dy : jH → Prop} {h0 : jH} {Q : Option Value → jH → Prop} (hD : jDk Dy) (hQ : ∀ (v : Int32) h', 0 ≤ v.toInt ∧ v.toInt ≤ 1 → jJ jSgX Dy h' → jSm fp_X8_isKnown_r61 h0 h' → Q (some (.int v)) h') : ∀ (h : jH), jJ jSgX Dy h → jSm fp_X8_isKnown_r61 h0 h → jX m_X8_isKnown 1 0 0 32 [] [.int 0] h 0 0 Q := by
  intro  h    J Sm
  refine x_zret rfl rfl (by decide) ?_
  exact hQ _ _ (jr_of jk_0 (by omega)) J Sm
set_option maxRecDepth 100000 in
set_option maxHeartbeats 4000000 in
theorem ct_X8_isKnown_r61_31 {Dy : jH → Prop} {h0 : jH} {Q : Option Value → jH → Prop} (hD : jDk Dy) (hQ : ∀ (v : Int32) h', 0 ≤ v.toInt ∧ v.toInt ≤ 1 → jJ jSgX Dy h' → jSm fp_X8_isKnown_r61 h0 h' → Q (some (.int v)) h') : ∀ (h : jH), jJ jSgX Dy h → jSm fp_X8_isKnown_r61 h0 h → jX m_X8_isKnown 1 0 0 31 [] [] h 0 0 Q := by
  intro  h    J Sm
  refine x_iconst (v := 0) rfl ki_0 ?_
  exact jX.sub jsb_n (ct_X8_isKnown_r61_200032 hD hQ  h J Sm)
set_option maxRecDepth 100000 in
set_option maxHeartbeats 4000000 in
theorem sf_X8_isKnown_r61 {Dy : jH → Prop} {h : jH} {Q : Option Value → jH → Prop} {a1 : Int32} {a2 : Int32} (y1 : 0 ≤ a1.toInt ∧ a1.toInt ≤ 99) (y2 : 0 ≤ a2.toInt ∧ a2.toInt ≤ 146399) (hD : jDk Dy) (J : jJ jSgX Dy h) (hQ : ∀ (v : Int32) h', 0 ≤ v.toInt ∧ v.toInt ≤ 1 → jJ jSgX Dy h' → jSm fp_X8_isKnown_r61 h h' → Q (some (.int v)) h') : jC m_X8_isKnown 1 0 0 [.ref 61, .int a1, .int a2] h Q := by
  refine jC.of rfl k_X8_isKnown rfl ?_
  have Sm := jSm_rf fp_X8_isKnown_r61 h
  show jX m_X8_isKnown 1 0 0 0 [(0, .ref 61), (1, .int a1), (2, .int a2)] [] _ 0 0 _
  refine x_iloadn (x := a1) rfl rfl ?_
  refine x_iflt (tgt := 31) rfl rfl (ti_lt rfl jk_0 (br_f (by omega) ?_))
  refine x_iloadn (x := a1) rfl rfl ?_
  refine x_aloadn (x := 61) rfl rfl ?_
  refine z_getI (N := 4) 8 3 rfl f_8_7 rfl J rfl sg_61_3_4_1_0_1 (fun v1 qv1 ev1 => ?_)
  refine x_icge (tgt := 31) rfl rfl (ti_ge rfl rfl ⟨fun c2 => ?_, fun c2 => ?_⟩)
  ·
    exact jX.sub jsb_n (ct_X8_isKnown_r61_31 hD hQ  h J Sm)
  ·
    refine x_aloadn (x := 61) rfl rfl ?_
    refine z_getR (N := 4) (b := 62) 8 2 rfl f_8_25 rfl J rfl 7810 ⟨rfl, rfl⟩ rfl ?_
    refine x_iloadn (x := a1) rfl rfl ?_
    refine x_aloadn (x := 61) rfl rfl ?_
    refine z_getC (N := 4) (v := 4) 8 0 rfl f_8_19 rfl J rfl sg_61_0_1_1_0_1 jk_4 ?_
    refine z_imul rfl rfl jk_4 (by omega) (fun v3 ev3 => ?_)
    refine z_iald (N := 400) rfl J rfl sg_62_0_400_4_0_1 rfl (by omega) (fun v4 qv4 ev4 => ?_)
    refine x_iloadn (x := a2) rfl rfl ?_
    refine x_icgt (tgt := 31) rfl rfl (ti_gt rfl rfl ⟨fun c5 => ?_, fun c5 => ?_⟩)
    ·
      exact jX.sub jsb_n (ct_X8_isKnown_r61_31 hD hQ  h J Sm)
    ·
      refine x_iconst (v := 1) rfl ki_1 ?_
      refine x_goto (tgt := 32) rfl rfl ?_
      exact jX.sub jsb_n (ct_X8_isKnown_r61_300032 hD hQ  h J Sm)
def fp_X11_priceOf_r31 : jFp := []
set_option maxRecDepth 100000 in
set_option maxHeartbeats 4000000 in
theorem ct_X11_priceOf_r31_83 {Dy : jH → Prop} {h0 : jH} {Q : Option Value → jH → Prop} {R14 : Int} (hD : jDk Dy) (hQ : ∀ (v : Int32) h', (-1) ≤ v.toInt ∧ v.toInt ≤ 10000 → jJ jSgX Dy h' → jSm fp_X11_priceOf_r31 h0 h' → Q (some (.int v)) h') (k14 : ∀ (l1 : Int32) (l2 : Int32) (l3 : Int32) (l4 : Int32) (h : jH), l4.toInt - (-1) < R14 → 0 ≤ l1.toInt ∧ l1.toInt ≤ 2 → 0 ≤ l2.toInt ∧ l2.toInt ≤ 398 → 0 ≤ l3.toInt ∧ l3.toInt ≤ 146399 → (-1) ≤ l4.toInt ∧ l4.toInt ≤ 99 → jJ jSgX Dy h → jSm fp_X11_priceOf_r31 h0 h → jX m_X11_priceOf 2 0 0 14 [(0, .ref 31), (1, .int l1), (2, .int l2), (3, .int l3), (4, .int l4)] [] h 0 0 Q) : ∀ (l1 : Int32) (l2 : Int32) (l3 : Int32) (l4 : Int32) (h : jH), 0 ≤ l1.toInt ∧ l1.toInt ≤ 2 → 0 ≤ l2.toInt ∧ l2.toInt ≤ 398 → 0 ≤ l3.toInt ∧ l3.toInt ≤ 146399 → 0 ≤ l4.toInt ∧ l4.toInt ≤ 99 → l4.toInt - (-1) ≤ R14 → jJ jSgX Dy h → jSm fp_X11_priceOf_r31 h0 h → jX m_X11_priceOf 2 0 0 83 [(0, .ref 31), (1, .int l1), (2, .int l2), (3, .int l3), (4, .int l4)] [] h 0 0 Q := by
  intro l1 l2 l3 l4 h y0 y1 y2 y3  m14 J Sm
  refine z_iinc (x := l4) (ls' := fun v1 => [(4, .int v1), (0, .ref 31), (1, .int l1), (2, .int l2), (3, .int l3)]) rfl rfl rfl jko_m1 (by omega) rfl (fun _ => rfl) (fun v1 ev1 => ?_)
  refine x_goto (tgt := 14) rfl rfl ?_
  exact jX.sub (jsb_c rfl (jsb_c rfl (jsb_c rfl (jsb_c rfl (jsb_c rfl jsb_n))))) (k14 l1 l2 l3 v1 h (by omega) (jr_of rfl (by omega)) (jr_of rfl (by omega)) (jr_of rfl (by omega)) (jr_of rfl (by omega)) J Sm)
set_option maxRecDepth 100000 in
set_option maxHeartbeats 4000000 in
theorem ct_X11_priceOf_r31_14 {Dy : jH → Prop} {h0 : jH} {Q : Option Value → jH → Prop} (hD : jDk Dy) (hQ : ∀ (v : Int32) h', (-1) ≤ v.toInt ∧ v.toInt ≤ 10000 → jJ jSgX Dy h' → jSm fp_X11_priceOf_r31 h0 h' → Q (some (.int v)) h') : ∀ r : Nat, ∀ (l1 : Int32) (l2 : Int32) (l3 : Int32) (l4 : Int32) (h : jH), l4.toInt - (-1) < (r : Int) → 0 ≤ l1.toInt ∧ l1.toInt ≤ 2 → 0 ≤ l2.toInt ∧ l2.toInt ≤ 398 → 0 ≤ l3.toInt ∧ l3.toInt ≤ 146399 → (-1) ≤ l4.toInt ∧ l4.toInt ≤ 99 → jJ jSgX Dy h → jSm fp_X11_priceOf_r31 h0 h → jX m_X11_priceOf 2 0 0 14 [(0, .ref 31), (1, .int l1), (2, .int l2), (3, .int l3), (4, .int l4)] [] h 0 0 Q := by
  intro r
  induction r with
  | zero =>
    intro l1 l2 l3 l4 h hm y0 y1 y2 y3   J Sm
    exfalso
    omega
  | succ r ih =>
    intro l1 l2 l3 l4 h hm y0 y1 y2 y3   J Sm
    refine x_iload (x := l4) rfl rfl ?_
    refine x_iflt (tgt := 89) rfl rfl (ti_lt rfl jk_0 ⟨fun c1 => ?_, fun c1 => ?_⟩)
    ·
      refine x_iconst (v := (-1)) rfl ki_m1 ?_
      refine x_iret rfl rfl ?_
      exact hQ _ _ (jr_of jk_m1 (by omega)) J Sm
    ·
      refine x_aloadn (x := 31) rfl rfl ?_
      refine z_getR (N := 13) (b := 32) 11 0 rfl f_11_10 rfl J rfl 3968 ⟨rfl, rfl⟩ rfl ?_
      refine z_getR (N := 20) (b := 61) 1 14 rfl f_11_503 rfl J rfl 4110 ⟨rfl, rfl⟩ rfl ?_
      refine x_iload (x := l4) rfl rfl ?_
      refine x_iconst (v := 1) rfl ki_1 ?_
      refine x_inv (N := m_X8_at) (As := [.int l4, .int 1]) (b := 61) (st := []) (d' := 1) (mc := 0) (ms := 0) (host := "") 8 rfl t_X8_at ⟨Or.inl q_11_171, i_X8_at.1, i_X8_at.2⟩ ⟨by decide, rfl⟩ (congrArg Prod.fst (J.1.1 61 (8, 4) rfl)) rfl (by decide) rfl rfl ⟨by decide, by decide⟩ (sf_X8_at_r61_c1 (jr_of rfl (by omega)) hD J  (fun v3 h ev3 J S2 => ?_))
      have Sm := jSm_tr rfl Sm S2
      show jX m_X11_priceOf 2 0 0 32 [(0, .ref 31), (1, .int l1), (2, .int l2), (3, .int l3), (4, .int l4)] [.int v3] _ 0 0 _
      refine x_iloadn (x := l2) rfl rfl ?_
      refine x_icne (tgt := 83) rfl rfl (ti_ne rfl rfl ⟨fun c4 => ?_, fun c4 => ?_⟩)
      ·
        exact jX.sub (jsb_c rfl (jsb_c rfl (jsb_c rfl (jsb_c rfl (jsb_c rfl jsb_n))))) (ct_X11_priceOf_r31_83 hD hQ ih l1 l2 l3 l4 h (jr_of rfl (by omega)) (jr_of rfl (by omega)) (jr_of rfl (by omega)) (jr_of rfl (by omega)) (by omega) J Sm)
      ·
        refine x_aloadn (x := 31) rfl rfl ?_
        refine z_getR (N := 13) (b := 32) 11 0 rfl f_11_10 rfl J rfl 3968 ⟨rfl, rfl⟩ rfl ?_
        refine z_getR (N := 20) (b := 61) 1 14 rfl f_11_503 rfl J rfl 4110 ⟨rfl, rfl⟩ rfl ?_
        refine x_iload (x := l4) rfl rfl ?_
        refine x_iconst (v := 2) rfl ki_2 ?_
        refine x_inv (N := m_X8_at) (As := [.int l4, .int 2]) (b := 61) (st := []) (d' := 1) (mc := 0) (ms := 0) (host := "") 8 rfl t_X8_at ⟨Or.inl q_11_171, i_X8_at.1, i_X8_at.2⟩ ⟨by decide, rfl⟩ (congrArg Prod.fst (J.1.1 61 (8, 4) rfl)) rfl (by decide) rfl rfl ⟨by decide, by decide⟩ (sf_X8_at_r61_c2 (jr_of rfl (by omega)) hD J  (fun v6 h ev6 J S5 => ?_))
        have Sm := jSm_tr rfl Sm S5
        show jX m_X11_priceOf 2 0 0 49 [(0, .ref 31), (1, .int l1), (2, .int l2), (3, .int l3), (4, .int l4)] [.int v6] _ 0 0 _
        refine x_iloadn (x := l1) rfl rfl ?_
        refine x_icne (tgt := 83) rfl rfl (ti_ne rfl rfl ⟨fun c7 => ?_, fun c7 => ?_⟩)
        ·
          exact jX.sub (jsb_c rfl (jsb_c rfl (jsb_c rfl (jsb_c rfl (jsb_c rfl jsb_n))))) (ct_X11_priceOf_r31_83 hD hQ ih l1 l2 l3 l4 h (jr_of rfl (by omega)) (jr_of rfl (by omega)) (jr_of rfl (by omega)) (jr_of rfl (by omega)) (by omega) J Sm)
        ·
          refine x_aloadn (x := 31) rfl rfl ?_
          refine z_getR (N := 13) (b := 32) 11 0 rfl f_11_10 rfl J rfl 3968 ⟨rfl, rfl⟩ rfl ?_
          refine z_getR (N := 20) (b := 61) 1 14 rfl f_11_503 rfl J rfl 4110 ⟨rfl, rfl⟩ rfl ?_
          refine x_iload (x := l4) rfl rfl ?_
          refine x_iloadn (x := l3) rfl rfl ?_
          refine x_inv (N := m_X8_isKnown) (As := [.int l4, .int l3]) (b := 61) (st := []) (d' := 1) (mc := 0) (ms := 0) (host := "") 8 rfl t_X8_isKnown ⟨Or.inl q_11_440, i_X8_isKnown.1, i_X8_isKnown.2⟩ ⟨by decide, rfl⟩ (congrArg Prod.fst (J.1.1 61 (8, 4) rfl)) rfl (by decide) rfl rfl ⟨by decide, by decide⟩ (sf_X8_isKnown_r61 (jr_of rfl (by omega)) (jr_of rfl (by omega)) hD J  (fun v9 h ev9 J S8 => ?_))
          have Sm := jSm_tr rfl Sm S8
          show jX m_X11_priceOf 2 0 0 66 [(0, .ref 31), (1, .int l1), (2, .int l2), (3, .int l3), (4, .int l4)] [.int v9] _ 0 0 _
          refine x_ifeq (tgt := 83) rfl rfl (ti_eq rfl jk_0 ⟨fun c10 => ?_, fun c10 => ?_⟩)
          ·
            exact jX.sub (jsb_c rfl (jsb_c rfl (jsb_c rfl (jsb_c rfl (jsb_c rfl jsb_n))))) (ct_X11_priceOf_r31_83 hD hQ ih l1 l2 l3 l4 h (jr_of rfl (by omega)) (jr_of rfl (by omega)) (jr_of rfl (by omega)) (jr_of rfl (by omega)) (by omega) J Sm)
          ·
            refine x_aloadn (x := 31) rfl rfl ?_
            refine z_getR (N := 13) (b := 32) 11 0 rfl f_11_10 rfl J rfl 3968 ⟨rfl, rfl⟩ rfl ?_
            refine z_getR (N := 20) (b := 61) 1 14 rfl f_11_503 rfl J rfl 4110 ⟨rfl, rfl⟩ rfl ?_
            refine x_iload (x := l4) rfl rfl ?_
            refine x_iconst (v := 3) rfl ki_3 ?_
            refine x_inv (N := m_X8_at) (As := [.int l4, .int 3]) (b := 61) (st := []) (d' := 1) (mc := 0) (ms := 0) (host := "") 8 rfl t_X8_at ⟨Or.inl q_11_171, i_X8_at.1, i_X8_at.2⟩ ⟨by decide, rfl⟩ (congrArg Prod.fst (J.1.1 61 (8, 4) rfl)) rfl (by decide) rfl rfl ⟨by decide, by decide⟩ (sf_X8_at_r61_c3 (jr_of rfl (by omega)) hD J  (fun v12 h ev12 J S11 => ?_))
            have Sm := jSm_tr rfl Sm S11
            show jX m_X11_priceOf 2 0 0 82 [(0, .ref 31), (1, .int l1), (2, .int l2), (3, .int l3), (4, .int l4)] [.int v12] _ 0 0 _
            refine x_iret rfl rfl ?_
            exact hQ _ _ (jr_of rfl (by omega)) J Sm
set_option maxRecDepth 100000 in
set_option maxHeartbeats 4000000 in
theorem sf_X11_priceOf_r31 {Dy : jH → Prop} {h : jH} {Q : Option Value → jH → Prop} {a1 : Int32} {a2 : Int32} {a3 : Int32} (y1 : 0 ≤ a1.toInt ∧ a1.toInt ≤ 2) (y2 : 0 ≤ a2.toInt ∧ a2.toInt ≤ 398) (y3 : 0 ≤ a3.toInt ∧ a3.toInt ≤ 146399) (hD : jDk Dy) (J : jJ jSgX Dy h) (hQ : ∀ (v : Int32) h', (-1) ≤ v.toInt ∧ v.toInt ≤ 10000 → jJ jSgX Dy h' → jSm fp_X11_priceOf_r31 h h' → Q (some (.int v)) h') : jC m_X11_priceOf 2 0 0 [.ref 31, .int a1, .int a2, .int a3] h Q := by
  refine jC.of rfl k_X11_priceOf rfl ?_
  have Sm := jSm_rf fp_X11_priceOf_r31 h
  show jX m_X11_priceOf 2 0 0 0 [(0, .ref 31), (1, .int a1), (2, .int a2), (3, .int a3)] [] _ 0 0 _
  refine x_aloadn (x := 31) rfl rfl ?_
  refine z_getR (N := 13) (b := 32) 11 0 rfl f_11_10 rfl J rfl 3968 ⟨rfl, rfl⟩ rfl ?_
  refine z_getR (N := 20) (b := 61) 1 14 rfl f_11_503 rfl J rfl 4110 ⟨rfl, rfl⟩ rfl ?_
  refine z_getI (N := 4) 8 3 rfl f_11_142 rfl J rfl sg_61_3_4_1_0_1 (fun v1 qv1 ev1 => ?_)
  refine x_iconst (v := 1) rfl ki_1 ?_
  refine z_isub rfl rfl jk_1 (by omega) (fun v2 ev2 => ?_)
  refine x_istore (ls' := [(4, .int v2), (0, .ref 31), (1, .int a1), (2, .int a2), (3, .int a3)]) rfl rfl rfl ?_
  exact jX.sub (jsb_c rfl (jsb_c rfl (jsb_c rfl (jsb_c rfl (jsb_c rfl jsb_n))))) (ct_X11_priceOf_r31_14 hD hQ  101 a1 a2 a3 v2 h (by omega) (jr_of rfl (by omega)) (jr_of rfl (by omega)) (jr_of rfl (by omega)) (jr_of rfl (by omega)) J Sm)
def fp_X11_coin_r31 : jFp := []
set_option maxRecDepth 100000 in
set_option maxHeartbeats 4000000 in
theorem ct_X11_coin_r31_22 {Dy : jH → Prop} {h0 : jH} {Q : Option Value → jH → Prop} (hD : jDk Dy) (hQ : ∀ (v : Int32) h', jJ jSgX Dy h' → jSm fp_X11_coin_r31 h0 h' → Q (some (.int v)) h') : ∀ (h : jH), jJ jSgX Dy h → jSm fp_X11_coin_r31 h0 h → jX m_X11_coin 3 0 0 22 [] [] h 0 0 Q := by
  intro  h    J Sm
  refine x_iconst (v := (-1)) rfl ki_m1 ?_
  refine x_iret rfl rfl ?_
  exact hQ _ _ J Sm
set_option maxRecDepth 100000 in
set_option maxHeartbeats 4000000 in
theorem ct_X11_coin_r31_125 {Dy : jH → Prop} {h0 : jH} {Q : Option Value → jH → Prop} {R30 : Int} (hD : jDk Dy) (hQ : ∀ (v : Int32) h', jJ jSgX Dy h' → jSm fp_X11_coin_r31 h0 h' → Q (some (.int v)) h') (k30 : ∀ (l1 : Int32) (l2 : Int32) (l3 : Int32) (l4 : Int64) (l6 : Int32) (h : jH), 3 - l6.toInt < R30 → 0 ≤ l1.toInt ∧ l1.toInt ≤ 39 → 0 ≤ l2.toInt ∧ l2.toInt ≤ 399 → 0 ≤ l3.toInt ∧ l3.toInt ≤ 146399 → 0 ≤ l6.toInt ∧ l6.toInt ≤ 3 → jJ jSgX Dy h → jSm fp_X11_coin_r31 h0 h → jX m_X11_coin 3 0 0 30 [(0, .ref 31), (1, .int l1), (2, .int l2), (3, .int l3), (4, .long l4), (6, .int l6)] [] h 0 0 Q) : ∀ (l1 : Int32) (l2 : Int32) (l3 : Int32) (l4 : Int64) (l6 : Int32) (h : jH), 0 ≤ l1.toInt ∧ l1.toInt ≤ 39 → 0 ≤ l2.toInt ∧ l2.toInt ≤ 399 → 0 ≤ l3.toInt ∧ l3.toInt ≤ 146399 → 0 ≤ l6.toInt ∧ l6.toInt ≤ 2 → 3 - l6.toInt ≤ R30 → jJ jSgX Dy h → jSm fp_X11_coin_r31 h0 h → jX m_X11_coin 3 0 0 125 [(0, .ref 31), (1, .int l1), (2, .int l2), (3, .int l3), (4, .long l4), (6, .int l6)] [] h 0 0 Q := by
  intro l1 l2 l3 l4 l6 h y0 y1 y2 y3  m30 J Sm
  have el4 := jfullL l4
  refine z_iinc (x := l6) (ls' := fun v1 => [(6, .int v1), (0, .ref 31), (1, .int l1), (2, .int l2), (3, .int l3), (4, .long l4)]) rfl rfl rfl jko_1 (by omega) rfl (fun _ => rfl) (fun v1 ev1 => ?_)
  refine x_goto (tgt := 30) rfl rfl ?_
  exact jX.sub (jsb_c rfl (jsb_c rfl (jsb_c rfl (jsb_c rfl (jsb_c rfl (jsb_c rfl jsb_n)))))) (k30 l1 l2 l3 l4 v1 h (by omega) (jr_of rfl (by omega)) (jr_of rfl (by omega)) (jr_of rfl (by omega)) (jr_of rfl (by omega)) J Sm)
set_option maxRecDepth 100000 in
set_option maxHeartbeats 4000000 in
theorem ct_X11_coin_r31_86 {Dy : jH → Prop} {h0 : jH} {Q : Option Value → jH → Prop} {R30 : Int} {R52 : Int} (hD : jDk Dy) (hQ : ∀ (v : Int32) h', jJ jSgX Dy h' → jSm fp_X11_coin_r31 h0 h' → Q (some (.int v)) h') (k30 : ∀ (l1 : Int32) (l2 : Int32) (l3 : Int32) (l4 : Int64) (l6 : Int32) (h : jH), 3 - l6.toInt < R30 → 0 ≤ l1.toInt ∧ l1.toInt ≤ 39 → 0 ≤ l2.toInt ∧ l2.toInt ≤ 399 → 0 ≤ l3.toInt ∧ l3.toInt ≤ 146399 → 0 ≤ l6.toInt ∧ l6.toInt ≤ 3 → jJ jSgX Dy h → jSm fp_X11_coin_r31 h0 h → jX m_X11_coin 3 0 0 30 [(0, .ref 31), (1, .int l1), (2, .int l2), (3, .int l3), (4, .long l4), (6, .int l6)] [] h 0 0 Q) (k52 : ∀ (l1 : Int32) (l2 : Int32) (l3 : Int32) (l4 : Int64) (l6 : Int32) (l7 : Int64) (l9 : Int32) (l10 : Int32) (h : jH), 399 - l10.toInt < R52 → 0 ≤ l1.toInt ∧ l1.toInt ≤ 39 → 0 ≤ l2.toInt ∧ l2.toInt ≤ 399 → 0 ≤ l3.toInt ∧ l3.toInt ≤ 146399 → 0 ≤ l6.toInt ∧ l6.toInt ≤ 2 → 0 ≤ l10.toInt ∧ l10.toInt ≤ 399 → 3 - l6.toInt ≤ R30 → jJ jSgX Dy h → jSm fp_X11_coin_r31 h0 h → jX m_X11_coin 3 0 0 52 [(0, .ref 31), (1, .int l1), (2, .int l2), (3, .int l3), (4, .long l4), (6, .int l6), (7, .long l7), (9, .int l9), (10, .int l10)] [] h 0 0 Q) : ∀ (l1 : Int32) (l2 : Int32) (l3 : Int32) (l4 : Int64) (l6 : Int32) (l7 : Int64) (l9 : Int32) (l10 : Int32) (h : jH), 0 ≤ l1.toInt ∧ l1.toInt ≤ 39 → 1 ≤ l2.toInt ∧ l2.toInt ≤ 399 → 0 ≤ l3.toInt ∧ l3.toInt ≤ 146399 → 0 ≤ l6.toInt ∧ l6.toInt ≤ 2 → 0 ≤ l10.toInt ∧ l10.toInt ≤ 398 → 3 - l6.toInt ≤ R30 → 399 - l10.toInt ≤ R52 → jJ jSgX Dy h → jSm fp_X11_coin_r31 h0 h → jX m_X11_coin 3 0 0 86 [(0, .ref 31), (1, .int l1), (2, .int l2), (3, .int l3), (4, .long l4), (6, .int l6), (7, .long l7), (9, .int l9), (10, .int l10)] [] h 0 0 Q := by
  intro l1 l2 l3 l4 l6 l7 l9 l10 h y0 y1 y2 y3 y4  m30 m52 J Sm
  have el4 := jfullL l4
  have el7 := jfullL l7
  have el9 := jfull l9
  refine z_iinc (x := l10) (ls' := fun v1 => [(10, .int v1), (0, .ref 31), (1, .int l1), (2, .int l2), (3, .int l3), (4, .long l4), (6, .int l6), (7, .long l7), (9, .int l9)]) rfl rfl rfl jko_1 (by omega) rfl (fun _ => rfl) (fun v1 ev1 => ?_)
  refine x_goto (tgt := 52) rfl rfl ?_
  exact jX.sub (jsb_c rfl (jsb_c rfl (jsb_c rfl (jsb_c rfl (jsb_c rfl (jsb_c rfl (jsb_c rfl (jsb_c rfl (jsb_c rfl jsb_n))))))))) (k52 l1 l2 l3 l4 l6 l7 l9 v1 h (by omega) (jr_of rfl (by omega)) (jr_of rfl (by omega)) (jr_of rfl (by omega)) (jr_of rfl (by omega)) (jr_of rfl (by omega)) (by omega) J Sm)
set_option maxRecDepth 100000 in
set_option maxHeartbeats 4000000 in
theorem ct_X11_coin_r31_52 {Dy : jH → Prop} {h0 : jH} {Q : Option Value → jH → Prop} {R30 : Int} (hD : jDk Dy) (hQ : ∀ (v : Int32) h', jJ jSgX Dy h' → jSm fp_X11_coin_r31 h0 h' → Q (some (.int v)) h') (k30 : ∀ (l1 : Int32) (l2 : Int32) (l3 : Int32) (l4 : Int64) (l6 : Int32) (h : jH), 3 - l6.toInt < R30 → 0 ≤ l1.toInt ∧ l1.toInt ≤ 39 → 0 ≤ l2.toInt ∧ l2.toInt ≤ 399 → 0 ≤ l3.toInt ∧ l3.toInt ≤ 146399 → 0 ≤ l6.toInt ∧ l6.toInt ≤ 3 → jJ jSgX Dy h → jSm fp_X11_coin_r31 h0 h → jX m_X11_coin 3 0 0 30 [(0, .ref 31), (1, .int l1), (2, .int l2), (3, .int l3), (4, .long l4), (6, .int l6)] [] h 0 0 Q) : ∀ r : Nat, ∀ (l1 : Int32) (l2 : Int32) (l3 : Int32) (l4 : Int64) (l6 : Int32) (l7 : Int64) (l9 : Int32) (l10 : Int32) (h : jH), 399 - l10.toInt < (r : Int) → 0 ≤ l1.toInt ∧ l1.toInt ≤ 39 → 0 ≤ l2.toInt ∧ l2.toInt ≤ 399 → 0 ≤ l3.toInt ∧ l3.toInt ≤ 146399 → 0 ≤ l6.toInt ∧ l6.toInt ≤ 2 → 0 ≤ l10.toInt ∧ l10.toInt ≤ 399 → 3 - l6.toInt ≤ R30 → jJ jSgX Dy h → jSm fp_X11_coin_r31 h0 h → jX m_X11_coin 3 0 0 52 [(0, .ref 31), (1, .int l1), (2, .int l2), (3, .int l3), (4, .long l4), (6, .int l6), (7, .long l7), (9, .int l9), (10, .int l10)] [] h 0 0 Q := by
  intro r
  induction r with
  | zero =>
    intro l1 l2 l3 l4 l6 l7 l9 l10 h hm y0 y1 y2 y3 y4  m30 J Sm
    exfalso
    omega
  | succ r ih =>
    intro l1 l2 l3 l4 l6 l7 l9 l10 h hm y0 y1 y2 y3 y4  m30 J Sm
    have el4 := jfullL l4
    have el7 := jfullL l7
    have el9 := jfull l9
    refine x_iload (x := l10) rfl rfl ?_
    refine x_iloadn (x := l2) rfl rfl ?_
    refine x_icge (tgt := 92) rfl rfl (ti_ge rfl rfl ⟨fun c1 => ?_, fun c1 => ?_⟩)
    ·
      refine x_iload (x := l9) rfl rfl ?_
      refine x_ifle (tgt := 125) rfl rfl (ti_le rfl jk_0 ⟨fun c2 => ?_, fun c2 => ?_⟩)
      ·
        exact jX.sub (jsb_c rfl (jsb_c rfl (jsb_c rfl (jsb_c rfl (jsb_c rfl (jsb_c rfl jsb_n)))))) (ct_X11_coin_r31_125 hD hQ k30 l1 l2 l3 l4 l6 h (jr_of rfl (by omega)) (jr_of rfl (by omega)) (jr_of rfl (by omega)) (jr_of rfl (by omega)) (by omega) J Sm)
      ·
        refine x_lload (x := l4) rfl rfl ?_
        refine x_aloadn (x := 31) rfl rfl ?_
        refine z_getR (N := 13) (b := 123) 11 10 rfl f_11_86 rfl J rfl 3978 ⟨rfl, rfl⟩ rfl ?_
        refine x_iloadn (x := l1) rfl rfl ?_
        refine x_iconst (v := 3) rfl ki_3 ?_
        refine z_imul rfl rfl jk_3 (by omega) (fun v3 ev3 => ?_)
        refine x_iload (x := l6) rfl rfl ?_
        refine z_iadd rfl rfl rfl (by omega) (fun v4 ev4 => ?_)
        refine z_iald (N := 120) rfl J rfl sg_123_0_120_1_0_1 rfl (by omega) (fun v5 qv5 ev5 => ?_)
        refine z_i2l rfl rfl (fun v6 ev6 => ?_)
        refine x_lload (x := l7) rfl rfl ?_
        refine z_lmul0 rfl (fun v7 => ?_)
        have ev7 := jfullL v7
        refine x_sipush (v := 420) rfl ks_420 ?_
        refine x_iload (x := l9) rfl rfl ?_
        refine z_idivb rfl jk_420 rfl (by omega) (by omega) (fun v8 ev8 => ?_)
        refine z_i2l rfl rfl (fun v9 ev9 => ?_)
        refine z_lmul0 rfl (fun v10 => ?_)
        have ev10 := jfullL v10
        refine z_ladd0 rfl (fun v11 => ?_)
        have ev11 := jfullL v11
        refine x_lstore (ls' := [(4, .long v11), (0, .ref 31), (1, .int l1), (2, .int l2), (3, .int l3), (6, .int l6), (7, .long l7), (9, .int l9), (10, .int l10)]) rfl rfl rfl ?_
        exact jX.sub (jsb_c rfl (jsb_c rfl (jsb_c rfl (jsb_c rfl (jsb_c rfl (jsb_c rfl jsb_n)))))) (ct_X11_coin_r31_125 hD hQ k30 l1 l2 l3 v11 l6 h (jr_of rfl (by omega)) (jr_of rfl (by omega)) (jr_of rfl (by omega)) (jr_of rfl (by omega)) (by omega) J Sm)
    ·
      refine x_aloadn (x := 31) rfl rfl ?_
      refine x_iload (x := l6) rfl rfl ?_
      refine x_iload (x := l10) rfl rfl ?_
      refine x_iloadn (x := l3) rfl rfl ?_
      refine x_inv (N := m_X11_priceOf) (As := [.int l6, .int l10, .int l3]) (b := 31) (st := []) (d' := 2) (mc := 0) (ms := 0) (host := "") 11 rfl t_X11_priceOf ⟨Or.inl q_11_506, i_X11_priceOf.1, i_X11_priceOf.2⟩ ⟨by decide, rfl⟩ (congrArg Prod.fst (J.1.1 31 (11, 13) rfl)) rfl (by decide) rfl rfl ⟨by decide, by decide⟩ (sf_X11_priceOf_r31 (jr_of rfl (by omega)) (jr_of rfl (by omega)) (jr_of rfl (by omega)) hD J  (fun v13 h ev13 J S12 => ?_))
      have Sm := jSm_tr rfl Sm S12
      show jX m_X11_coin 3 0 0 67 [(0, .ref 31), (1, .int l1), (2, .int l2), (3, .int l3), (4, .long l4), (6, .int l6), (7, .long l7), (9, .int l9), (10, .int l10)] [.int v13] _ 0 0 _
      refine x_istore (ls' := [(11, .int v13), (0, .ref 31), (1, .int l1), (2, .int l2), (3, .int l3), (4, .long l4), (6, .int l6), (7, .long l7), (9, .int l9), (10, .int l10)]) rfl rfl rfl ?_
      refine x_iload (x := v13) rfl rfl ?_
      refine x_iconst (v := (-1)) rfl ki_m1 ?_
      refine x_iceq (tgt := 86) rfl rfl (ti_eq rfl jk_m1 ⟨fun c14 => ?_, fun c14 => ?_⟩)
      ·
        exact jX.sub (jsb_c rfl (jsb_c rfl (jsb_c rfl (jsb_c rfl (jsb_c rfl (jsb_c rfl (jsb_c rfl (jsb_c rfl (jsb_c rfl jsb_n))))))))) (ct_X11_coin_r31_86 hD hQ k30 ih l1 l2 l3 l4 l6 l7 l9 l10 h (jr_of rfl (by omega)) (jr_of rfl (by omega)) (jr_of rfl (by omega)) (jr_of rfl (by omega)) (jr_of rfl (by omega)) (by omega) (by omega) J Sm)
      ·
        refine x_lload (x := l7) rfl rfl ?_
        refine x_iload (x := v13) rfl rfl ?_
        refine z_i2l rfl rfl (fun v15 ev15 => ?_)
        refine z_ladd0 rfl (fun v16 => ?_)
        have ev16 := jfullL v16
        refine x_lstore (ls' := [(7, .long v16), (11, .int v13), (0, .ref 31), (1, .int l1), (2, .int l2), (3, .int l3), (4, .long l4), (6, .int l6), (9, .int l9), (10, .int l10)]) rfl rfl rfl ?_
        refine z_iinc0 (x := l9) (ls' := fun v17 => [(9, .int v17), (7, .long v16), (11, .int v13), (0, .ref 31), (1, .int l1), (2, .int l2), (3, .int l3), (4, .long l4), (6, .int l6), (10, .int l10)]) rfl rfl rfl (fun _ => rfl) (fun v17 => ?_)
        have ev17 := jfull v17
        exact jX.sub (jsb_c rfl (jsb_c rfl (jsb_c rfl (jsb_c rfl (jsb_c rfl (jsb_c rfl (jsb_c rfl (jsb_c rfl (jsb_c rfl jsb_n))))))))) (ct_X11_coin_r31_86 hD hQ k30 ih l1 l2 l3 l4 l6 v16 v17 l10 h (jr_of rfl (by omega)) (jr_of rfl (by omega)) (jr_of rfl (by omega)) (jr_of rfl (by omega)) (jr_of rfl (by omega)) (by omega) (by omega) J Sm)
set_option maxRecDepth 100000 in
set_option maxHeartbeats 4000000 in
theorem ct_X11_coin_r31_30 {Dy : jH → Prop} {h0 : jH} {Q : Option Value → jH → Prop} (hD : jDk Dy) (hQ : ∀ (v : Int32) h', jJ jSgX Dy h' → jSm fp_X11_coin_r31 h0 h' → Q (some (.int v)) h') : ∀ r : Nat, ∀ (l1 : Int32) (l2 : Int32) (l3 : Int32) (l4 : Int64) (l6 : Int32) (h : jH), 3 - l6.toInt < (r : Int) → 0 ≤ l1.toInt ∧ l1.toInt ≤ 39 → 0 ≤ l2.toInt ∧ l2.toInt ≤ 399 → 0 ≤ l3.toInt ∧ l3.toInt ≤ 146399 → 0 ≤ l6.toInt ∧ l6.toInt ≤ 3 → jJ jSgX Dy h → jSm fp_X11_coin_r31 h0 h → jX m_X11_coin 3 0 0 30 [(0, .ref 31), (1, .int l1), (2, .int l2), (3, .int l3), (4, .long l4), (6, .int l6)] [] h 0 0 Q := by
  intro r
  induction r with
  | zero =>
    intro l1 l2 l3 l4 l6 h hm y0 y1 y2 y3   J Sm
    exfalso
    omega
  | succ r ih =>
    intro l1 l2 l3 l4 l6 h hm y0 y1 y2 y3   J Sm
    have el4 := jfullL l4
    refine x_iload (x := l6) rfl rfl ?_
    refine x_iconst (v := 3) rfl ki_3 ?_
    refine x_icge (tgt := 131) rfl rfl (ti_ge rfl jk_3 ⟨fun c1 => ?_, fun c1 => ?_⟩)
    ·
      refine x_lload (x := l4) rfl rfl ?_
      refine x_ldc2 (v := 4200) rfl z_11_509 ?_
      refine z_ldiv0 rfl jkl_4200 (by omega) (fun v2 => ?_)
      have ev2 := jfullL v2
      refine z_l2i0 rfl (fun v3 => ?_)
      refine x_iret rfl rfl ?_
      exact hQ _ _ J Sm
    ·
      refine x_lconst (v := 0) rfl kl_0 ?_
      refine x_lstore (ls' := [(7, .long 0), (0, .ref 31), (1, .int l1), (2, .int l2), (3, .int l3), (4, .long l4), (6, .int l6)]) rfl rfl rfl ?_
      refine x_iconst (v := 0) rfl ki_0 ?_
      refine x_istore (ls' := [(9, .int 0), (7, .long 0), (0, .ref 31), (1, .int l1), (2, .int l2), (3, .int l3), (4, .long l4), (6, .int l6)]) rfl rfl rfl ?_
      refine x_iconst (v := 0) rfl ki_0 ?_
      refine x_iloadn (x := l2) rfl rfl ?_
      refine x_bipush (v := 7) rfl kb_7 ?_
      refine z_isub rfl rfl jk_7 (by omega) (fun v4 ev4 => ?_)
      refine z_mmax rfl q_11_193 (by decide) rfl jk_0 rfl (fun v5 ev5 => ?_)
      refine x_istore (ls' := [(10, .int v5), (9, .int 0), (7, .long 0), (0, .ref 31), (1, .int l1), (2, .int l2), (3, .int l3), (4, .long l4), (6, .int l6)]) rfl rfl rfl ?_
      exact jX.sub (jsb_c rfl (jsb_c rfl (jsb_c rfl (jsb_c rfl (jsb_c rfl (jsb_c rfl (jsb_c rfl (jsb_c rfl (jsb_c rfl jsb_n))))))))) (ct_X11_coin_r31_52 hD hQ ih 400 l1 l2 l3 l4 l6 0 0 v5 h (by omega) (jr_of rfl (by omega)) (jr_of rfl (by omega)) (jr_of rfl (by omega)) (jr_of rfl (by omega)) (jr_of rfl (by omega)) (by omega) J Sm)
set_option maxRecDepth 100000 in
set_option maxHeartbeats 4000000 in
theorem sf_X11_coin_r31 {Dy : jH → Prop} {h : jH} {Q : Option Value → jH → Prop} {a1 : Int32} {a2 : Int32} {a3 : Int32} (hD : jDk Dy) (J : jJ jSgX Dy h) (hQ : ∀ (v : Int32) h', jJ jSgX Dy h' → jSm fp_X11_coin_r31 h h' → Q (some (.int v)) h') : jC m_X11_coin 3 0 0 [.ref 31, .int a1, .int a2, .int a3] h Q := by
  refine jC.of rfl k_X11_coin rfl ?_
  have Sm := jSm_rf fp_X11_coin_r31 h
  have ea1 := jfull a1
  have ea2 := jfull a2
  have ea3 := jfull a3
  show jX m_X11_coin 3 0 0 0 [(0, .ref 31), (1, .int a1), (2, .int a2), (3, .int a3)] [] _ 0 0 _
  refine x_aloadn (x := 31) rfl rfl ?_
  refine x_iloadn (x := a1) rfl rfl ?_
  refine x_inv (N := m_X11_isHolding) (As := [.int a1]) (b := 31) (st := []) (d' := 2) (mc := 0) (ms := 0) (host := "") 11 rfl t_X11_isHolding ⟨Or.inl q_11_415, i_X11_isHolding.1, i_X11_isHolding.2⟩ ⟨by decide, rfl⟩ (congrArg Prod.fst (J.1.1 31 (11, 13) rfl)) rfl (by decide) rfl rfl ⟨by decide, by decide⟩ (jC.of rfl k_X11_isHolding rfl ?_)
  show jX m_X11_isHolding 2 0 0 0 [(0, .ref 31), (1, .int a1)] [] _ 0 0 _
  refine x_iloadn (x := a1) rfl rfl ?_
  refine x_iflt (tgt := 28) rfl rfl (ti_lt rfl jk_0 ⟨fun c1 => ?_, fun c1 => ?_⟩)
  ·
    refine x_iconst (v := 0) rfl ki_0 ?_
    refine x_zret rfl rfl (by decide) ?_
    show jX m_X11_coin 3 0 0 5 [(0, .ref 31), (1, .int a1), (2, .int a2), (3, .int a3)] [.int 0] _ 0 0 _
    refine x_ifeq (tgt := 22) rfl rfl (ti_eq jk_0 jk_0 (br_t (by omega) ?_))
    exact jX.sub jsb_n (ct_X11_coin_r31_22 hD hQ  h J Sm)
  ·
    refine x_iloadn (x := a1) rfl rfl ?_
    refine x_aloadn (x := 31) rfl rfl ?_
    refine z_getR (N := 13) (b := 32) 11 0 rfl f_11_10 rfl J rfl 3968 ⟨rfl, rfl⟩ rfl ?_
    refine z_getR (N := 20) (b := 49) 1 8 rfl f_11_408 rfl J rfl 4104 ⟨rfl, rfl⟩ rfl ?_
    refine z_getI (N := 4) 8 3 rfl f_11_142 rfl J rfl sg_49_3_4_1_0_1 (fun v2 qv2 ev2 => ?_)
    refine x_icge (tgt := 28) rfl rfl (ti_ge rfl rfl ⟨fun c3 => ?_, fun c3 => ?_⟩)
    ·
      refine x_iconst (v := 0) rfl ki_0 ?_
      refine x_zret rfl rfl (by decide) ?_
      show jX m_X11_coin 3 0 0 5 [(0, .ref 31), (1, .int a1), (2, .int a2), (3, .int a3)] [.int 0] _ 0 0 _
      refine x_ifeq (tgt := 22) rfl rfl (ti_eq jk_0 jk_0 (br_t (by omega) ?_))
      exact jX.sub jsb_n (ct_X11_coin_r31_22 hD hQ  h J Sm)
    ·
      refine x_iloadn (x := a1) rfl rfl ?_
      refine x_bipush (v := 40) rfl kb_40 ?_
      refine x_icge (tgt := 28) rfl rfl (ti_ge rfl jk_40 (br_f (by omega) ?_))
      refine x_iconst (v := 1) rfl ki_1 ?_
      refine x_goto (tgt := 29) rfl rfl ?_
      refine x_zret rfl rfl (by decide) ?_
      show jX m_X11_coin 3 0 0 5 [(0, .ref 31), (1, .int a1), (2, .int a2), (3, .int a3)] [.int 1] _ 0 0 _
      refine x_ifeq (tgt := 22) rfl rfl (ti_eq jk_1 jk_0 (br_f (by omega) ?_))
      refine x_iloadn (x := a2) rfl rfl ?_
      refine x_inst (N := m_X11_isYear) (As := [.int a2]) (st := []) (d' := 1) (mc := 0) (ms := 0) (host := "") rfl t_X11_isYear ⟨Or.inl q_11_433, s_X11_isYear⟩ rfl (by decide) rfl rfl ⟨by decide, by decide⟩ (zc_X11_isYear rfl (fun v4 ev4 => ?_))
      show jX m_X11_coin 3 0 0 12 [(0, .ref 31), (1, .int a1), (2, .int a2), (3, .int a3)] [.int v4] _ 0 0 _
      refine x_ifeq (tgt := 22) rfl rfl (ti_eq rfl jk_0 ⟨fun c5 => ?_, fun c5 => ?_⟩)
      ·
        exact jX.sub jsb_n (ct_X11_coin_r31_22 hD hQ  h J Sm)
      ·
        refine x_iloadn (x := a3) rfl rfl ?_
        refine x_inst (N := m_X11_isDay) (As := [.int a3]) (st := []) (d' := 1) (mc := 0) (ms := 0) (host := "") rfl t_X11_isDay ⟨Or.inl q_11_115, s_X11_isDay⟩ rfl (by decide) rfl rfl ⟨by decide, by decide⟩ (zc_X11_isDay rfl (fun v6 ev6 => ?_))
        show jX m_X11_coin 3 0 0 19 [(0, .ref 31), (1, .int a1), (2, .int a2), (3, .int a3)] [.int v6] _ 0 0 _
        refine x_ifne (tgt := 24) rfl rfl (ti_ne rfl jk_0 ⟨fun c7 => ?_, fun c7 => ?_⟩)
        ·
          refine x_lconst (v := 0) rfl kl_0 ?_
          refine x_lstore (ls' := [(4, .long 0), (0, .ref 31), (1, .int a1), (2, .int a2), (3, .int a3)]) rfl rfl rfl ?_
          refine x_iconst (v := 0) rfl ki_0 ?_
          refine x_istore (ls' := [(6, .int 0), (4, .long 0), (0, .ref 31), (1, .int a1), (2, .int a2), (3, .int a3)]) rfl rfl rfl ?_
          exact jX.sub (jsb_c rfl (jsb_c rfl (jsb_c rfl (jsb_c rfl (jsb_c rfl (jsb_c rfl jsb_n)))))) (ct_X11_coin_r31_30 hD hQ  4 a1 a2 a3 0 0 h (by have := jk_0; omega) (jr_of rfl (by omega)) (jr_of rfl (by omega)) (jr_of rfl (by omega)) (jr_of jk_0 (by omega)) J Sm)
        ·
          exact jX.sub jsb_n (ct_X11_coin_r31_22 hD hQ  h J Sm)
def fp_X11_count_r31 : jFp := []
set_option maxRecDepth 100000 in
set_option maxHeartbeats 4000000 in
theorem sf_X11_count_r31 {Dy : jH → Prop} {h : jH} {Q : Option Value → jH → Prop} {a1 : Int32} (hD : jDk Dy) (J : jJ jSgX Dy h) (hQ : ∀ (v : Int32) h', (-1) ≤ v.toInt ∧ v.toInt ≤ 400 → jJ jSgX Dy h' → jSm fp_X11_count_r31 h h' → Q (some (.int v)) h') : jC m_X11_count 1 0 0 [.ref 31, .int a1] h Q := by
  refine jC.of rfl k_X11_count rfl ?_
  have Sm := jSm_rf fp_X11_count_r31 h
  have ea1 := jfull a1
  show jX m_X11_count 1 0 0 0 [(0, .ref 31), (1, .int a1)] [] _ 0 0 _
  refine x_iloadn (x := a1) rfl rfl ?_
  by_cases c1 : a1.toInt = 0
  ·
    refine x_tableIn (tgt := 64) 0 rfl c1 (by decide) (by decide) rfl rfl ?_
    refine x_aloadn (x := 31) rfl rfl ?_
    refine z_getR (N := 13) (b := 32) 11 0 rfl f_11_10 rfl J rfl 3968 ⟨rfl, rfl⟩ rfl ?_
    refine z_getR (N := 20) (b := 33) 1 0 rfl f_11_126 rfl J rfl 4096 ⟨rfl, rfl⟩ rfl ?_
    refine z_getI (N := 4) 8 3 rfl f_11_142 rfl J rfl sg_33_3_4_1_0_1 (fun v2 qv2 ev2 => ?_)
    refine x_iret rfl rfl ?_
    exact hQ _ _ (jr_of rfl (by omega)) J Sm
  by_cases c3 : a1.toInt = 1
  ·
    refine x_tableIn (tgt := 75) 1 rfl c3 (by decide) (by decide) rfl rfl ?_
    refine x_aloadn (x := 31) rfl rfl ?_
    refine z_getR (N := 13) (b := 32) 11 0 rfl f_11_10 rfl J rfl 3968 ⟨rfl, rfl⟩ rfl ?_
    refine z_getI (N := 20) 1 18 rfl f_11_325 rfl J rfl sg_32_18_19_1_0_1 (fun v4 qv4 ev4 => ?_)
    refine x_iret rfl rfl ?_
    exact hQ _ _ (jr_of rfl (by omega)) J Sm
  by_cases c5 : a1.toInt = 2
  ·
    refine x_tableIn (tgt := 83) 2 rfl c5 (by decide) (by decide) rfl rfl ?_
    refine x_aloadn (x := 31) rfl rfl ?_
    refine z_getR (N := 13) (b := 32) 11 0 rfl f_11_10 rfl J rfl 3968 ⟨rfl, rfl⟩ rfl ?_
    refine z_getR (N := 20) (b := 43) 1 5 rfl f_11_378 rfl J rfl 4101 ⟨rfl, rfl⟩ rfl ?_
    refine z_getI (N := 4) 8 3 rfl f_11_142 rfl J rfl sg_43_3_4_1_0_1 (fun v6 qv6 ev6 => ?_)
    refine x_iret rfl rfl ?_
    exact hQ _ _ (jr_of rfl (by omega)) J Sm
  by_cases c7 : a1.toInt = 3
  ·
    refine x_tableIn (tgt := 94) 3 rfl c7 (by decide) (by decide) rfl rfl ?_
    refine x_aloadn (x := 31) rfl rfl ?_
    refine z_getR (N := 13) (b := 32) 11 0 rfl f_11_10 rfl J rfl 3968 ⟨rfl, rfl⟩ rfl ?_
    refine z_getR (N := 20) (b := 49) 1 8 rfl f_11_408 rfl J rfl 4104 ⟨rfl, rfl⟩ rfl ?_
    refine z_getI (N := 4) 8 3 rfl f_11_142 rfl J rfl sg_49_3_4_1_0_1 (fun v8 qv8 ev8 => ?_)
    refine x_iret rfl rfl ?_
    exact hQ _ _ (jr_of rfl (by omega)) J Sm
  by_cases c9 : a1.toInt = 4
  ·
    refine x_tableIn (tgt := 105) 4 rfl c9 (by decide) (by decide) rfl rfl ?_
    refine x_aloadn (x := 31) rfl rfl ?_
    refine z_getR (N := 13) (b := 32) 11 0 rfl f_11_10 rfl J rfl 3968 ⟨rfl, rfl⟩ rfl ?_
    refine z_getR (N := 20) (b := 63) 1 15 rfl f_11_159 rfl J rfl 4111 ⟨rfl, rfl⟩ rfl ?_
    refine z_getI (N := 4) 8 3 rfl f_11_142 rfl J rfl sg_63_3_4_1_0_1 (fun v10 qv10 ev10 => ?_)
    refine x_iret rfl rfl ?_
    exact hQ _ _ (jr_of rfl (by omega)) J Sm
  by_cases c11 : a1.toInt = 5
  ·
    refine x_tableIn (tgt := 116) 5 rfl c11 (by decide) (by decide) rfl rfl ?_
    refine x_aloadn (x := 31) rfl rfl ?_
    refine z_getR (N := 13) (b := 32) 11 0 rfl f_11_10 rfl J rfl 3968 ⟨rfl, rfl⟩ rfl ?_
    refine z_getR (N := 20) (b := 53) 1 10 rfl f_11_437 rfl J rfl 4106 ⟨rfl, rfl⟩ rfl ?_
    refine z_getI (N := 4) 8 3 rfl f_11_142 rfl J rfl sg_53_3_4_1_0_1 (fun v12 qv12 ev12 => ?_)
    refine x_iret rfl rfl ?_
    exact hQ _ _ (jr_of rfl (by omega)) J Sm
  by_cases c13 : a1.toInt = 6
  ·
    refine x_tableIn (tgt := 127) 6 rfl c13 (by decide) (by decide) rfl rfl ?_
    refine x_aloadn (x := 31) rfl rfl ?_
    refine z_getR (N := 13) (b := 32) 11 0 rfl f_11_10 rfl J rfl 3968 ⟨rfl, rfl⟩ rfl ?_
    refine z_getR (N := 20) (b := 39) 1 3 rfl f_11_237 rfl J rfl 4099 ⟨rfl, rfl⟩ rfl ?_
    refine z_getI (N := 4) 8 3 rfl f_11_142 rfl J rfl sg_39_3_4_1_0_1 (fun v14 qv14 ev14 => ?_)
    refine x_iret rfl rfl ?_
    exact hQ _ _ (jr_of rfl (by omega)) J Sm
  by_cases c15 : a1.toInt = 7
  ·
    refine x_tableIn (tgt := 138) 7 rfl c15 (by decide) (by decide) rfl rfl ?_
    refine x_aloadn (x := 31) rfl rfl ?_
    refine z_getR (N := 13) (b := 87) 11 5 rfl f_11_50 rfl J rfl 3973 ⟨rfl, rfl⟩ rfl ?_
    refine z_getI (N := 14) 3 3 rfl f_11_273 rfl J rfl sg_87_3_4_1_0_1 (fun v16 qv16 ev16 => ?_)
    refine x_iret rfl rfl ?_
    exact hQ _ _ (jr_of rfl (by omega)) J Sm
  by_cases c17 : a1.toInt = 8
  ·
    refine x_tableIn (tgt := 146) 8 rfl c17 (by decide) (by decide) rfl rfl ?_
    refine x_aloadn (x := 31) rfl rfl ?_
    refine z_getR (N := 13) (b := 68) 11 2 rfl f_11_23 rfl J rfl 3970 ⟨rfl, rfl⟩ rfl ?_
    refine z_getI (N := 6) 9 1 rfl f_11_106 rfl J rfl sg_68_1_2_1_0_1 (fun v18 qv18 ev18 => ?_)
    refine x_iret rfl rfl ?_
    exact hQ _ _ (jr_of rfl (by omega)) J Sm
  by_cases c19 : a1.toInt = 9
  ·
    refine x_tableIn (tgt := 154) 9 rfl c19 (by decide) (by decide) rfl rfl ?_
    refine x_aloadn (x := 31) rfl rfl ?_
    refine z_getR (N := 13) (b := 32) 11 0 rfl f_11_10 rfl J rfl 3968 ⟨rfl, rfl⟩ rfl ?_
    refine z_getR (N := 20) (b := 45) 1 6 rfl f_11_402 rfl J rfl 4102 ⟨rfl, rfl⟩ rfl ?_
    refine z_getI (N := 4) 8 3 rfl f_11_142 rfl J rfl sg_45_3_4_1_0_1 (fun v20 qv20 ev20 => ?_)
    refine x_iret rfl rfl ?_
    exact hQ _ _ (jr_of rfl (by omega)) J Sm
  by_cases c21 : a1.toInt = 10
  ·
    refine x_tableIn (tgt := 165) 10 rfl c21 (by decide) (by decide) rfl rfl ?_
    refine x_aloadn (x := 31) rfl rfl ?_
    refine z_getR (N := 13) (b := 32) 11 0 rfl f_11_10 rfl J rfl 3968 ⟨rfl, rfl⟩ rfl ?_
    refine z_getR (N := 20) (b := 55) 1 11 rfl f_11_452 rfl J rfl 4107 ⟨rfl, rfl⟩ rfl ?_
    refine z_getI (N := 4) 8 3 rfl f_11_142 rfl J rfl sg_55_3_4_1_0_1 (fun v22 qv22 ev22 => ?_)
    refine x_iret rfl rfl ?_
    exact hQ _ _ (jr_of rfl (by omega)) J Sm
  by_cases c23 : a1.toInt = 11
  ·
    refine x_tableIn (tgt := 176) 11 rfl c23 (by decide) (by decide) rfl rfl ?_
    refine x_aloadn (x := 31) rfl rfl ?_
    refine z_getR (N := 13) (b := 32) 11 0 rfl f_11_10 rfl J rfl 3968 ⟨rfl, rfl⟩ rfl ?_
    refine z_getR (N := 20) (b := 57) 1 12 rfl f_11_473 rfl J rfl 4108 ⟨rfl, rfl⟩ rfl ?_
    refine z_getI (N := 4) 8 3 rfl f_11_142 rfl J rfl sg_57_3_4_1_0_1 (fun v24 qv24 ev24 => ?_)
    refine x_iret rfl rfl ?_
    exact hQ _ _ (jr_of rfl (by omega)) J Sm
  refine x_tableOut (tgt := 187) rfl (by omega) rfl ?_
  refine x_iconst (v := (-1)) rfl ki_m1 ?_
  refine x_iret rfl rfl ?_
  exact hQ _ _ (jr_of jk_m1 (by omega)) J Sm
def fp_X11_counts_r31 : jFp := [(78, 13, 14), (82, 0, 600), (83, 0, 600), (84, 0, 200), (86, 0, 3), (98, 10, 11), (98, 11, 12), (98, 13, 14), (98, 14, 15), (98, 15, 16), (101, 0, 3), (102, 0, 40), (103, 0, 40), (104, 0, 40), (105, 0, 3)]
set_option maxRecDepth 100000 in
set_option maxHeartbeats 4000000 in
theorem ct_X11_counts_r31_28 {Dy : jH → Prop} {h0 : jH} {Q : Option Value → jH → Prop} (hD : jDk Dy) (hQ : ∀ (v : Int64) h', jJ jSgX Dy h' → jSm fp_X11_counts_r31 h0 h' → Q (some (.long v)) h') : ∀ (h : jH), jJ jSgX Dy h → jSm fp_X11_counts_r31 h0 h → jX m_X11_counts 8 0 0 28 [] [] h 0 0 Q := by
  intro  h    J Sm
  refine x_ldc2 (v := (-2000000000000)) rfl z_11_351 ?_
  refine x_lret rfl rfl ?_
  exact hQ _ _ J Sm
set_option maxRecDepth 100000 in
set_option maxHeartbeats 4000000 in
theorem sf_X11_counts_r31 {Dy : jH → Prop} {h : jH} {Q : Option Value → jH → Prop} {a1 : Int32} {a2 : Int32} {a3 : Int32} {a4 : Int32} {a5 : Int32} (hD : jDk Dy) (J : jJ jSgX Dy h) (hQ : ∀ (v : Int64) h', jJ jSgX Dy h' → jSm fp_X11_counts_r31 h h' → Q (some (.long v)) h') : jC m_X11_counts 8 0 0 [.ref 31, .int a1, .int a2, .int a3, .int a4, .int a5] h Q := by
  refine jC.of rfl k_X11_counts rfl ?_
  have Sm := jSm_rf fp_X11_counts_r31 h
  have ea1 := jfull a1
  have ea2 := jfull a2
  have ea3 := jfull a3
  have ea4 := jfull a4
  have ea5 := jfull a5
  show jX m_X11_counts 8 0 0 0 [(0, .ref 31), (1, .int a1), (2, .int a2), (3, .int a3), (4, .int a4), (5, .int a5)] [] _ 0 0 _
  refine x_iloadn (x := a1) rfl rfl ?_
  refine x_iflt (tgt := 28) rfl rfl (ti_lt rfl jk_0 ⟨fun c1 => ?_, fun c1 => ?_⟩)
  ·
    exact jX.sub jsb_n (ct_X11_counts_r31_28 hD hQ  h J Sm)
  ·
    refine x_iloadn (x := a1) rfl rfl ?_
    refine x_bipush (v := 7) rfl kb_7 ?_
    refine x_icgt (tgt := 28) rfl rfl (ti_gt rfl jk_7 ⟨fun c2 => ?_, fun c2 => ?_⟩)
    ·
      exact jX.sub jsb_n (ct_X11_counts_r31_28 hD hQ  h J Sm)
    ·
      refine x_iload (x := a5) rfl rfl ?_
      refine x_iflt (tgt := 28) rfl rfl (ti_lt rfl jk_0 ⟨fun c3 => ?_, fun c3 => ?_⟩)
      ·
        exact jX.sub jsb_n (ct_X11_counts_r31_28 hD hQ  h J Sm)
      ·
        refine x_iload (x := a5) rfl rfl ?_
        refine x_iconst (v := 2) rfl ki_2 ?_
        refine x_icgt (tgt := 28) rfl rfl (ti_gt rfl jk_2 ⟨fun c4 => ?_, fun c4 => ?_⟩)
        ·
          exact jX.sub jsb_n (ct_X11_counts_r31_28 hD hQ  h J Sm)
        ·
          refine x_iloadn (x := a3) rfl rfl ?_
          refine x_inst (N := m_X11_isDay) (As := [.int a3]) (st := []) (d' := 1) (mc := 0) (ms := 0) (host := "") rfl t_X11_isDay ⟨Or.inl q_11_115, s_X11_isDay⟩ rfl (by decide) rfl rfl ⟨by decide, by decide⟩ (zc_X11_isDay rfl (fun v5 ev5 => ?_))
          show jX m_X11_counts 8 0 0 25 [(0, .ref 31), (1, .int a1), (2, .int a2), (3, .int a3), (4, .int a4), (5, .int a5)] [.int v5] _ 0 0 _
          refine x_ifne (tgt := 32) rfl rfl (ti_ne rfl jk_0 ⟨fun c6 => ?_, fun c6 => ?_⟩)
          ·
            refine x_aloadn (x := 31) rfl rfl ?_
            refine x_iloadn (x := a2) rfl rfl ?_
            refine x_iload (x := a4) rfl rfl ?_
            refine x_inv (N := m_X11_soulOn) (As := [.int a2, .int a4]) (b := 31) (st := []) (d' := 7) (mc := 0) (ms := 0) (host := "") 11 rfl t_X11_soulOn ⟨Or.inl q_11_234, i_X11_soulOn.1, i_X11_soulOn.2⟩ ⟨by decide, rfl⟩ (congrArg Prod.fst (J.1.1 31 (11, 13) rfl)) rfl (by decide) rfl rfl ⟨by decide, by decide⟩ (jC.of rfl k_X11_soulOn rfl ?_)
            show jX m_X11_soulOn 7 0 0 0 [(0, .ref 31), (1, .int a2), (2, .int a4)] [] _ 0 0 _
            refine x_iloadn (x := a4) rfl rfl ?_
            refine x_inst (N := m_X11_isDay) (As := [.int a4]) (st := []) (d' := 1) (mc := 0) (ms := 0) (host := "") rfl t_X11_isDay ⟨Or.inl q_11_115, s_X11_isDay⟩ rfl (by decide) rfl rfl ⟨by decide, by decide⟩ (zc_X11_isDay rfl (fun v7 ev7 => ?_))
            show jX m_X11_soulOn 7 0 0 4 [(0, .ref 31), (1, .int a2), (2, .int a4)] [.int v7] _ 0 0 _
            refine x_ifeq (tgt := 18) rfl rfl (ti_eq rfl jk_0 ⟨fun c8 => ?_, fun c8 => ?_⟩)
            ·
              refine x_iconst (v := (-1)) rfl ki_m1 ?_
              refine x_iret rfl rfl ?_
              show jX m_X11_counts 8 0 0 39 [(0, .ref 31), (1, .int a1), (2, .int a2), (3, .int a3), (4, .int a4), (5, .int a5)] [.int (-1)] _ 0 0 _
              refine x_istore (ls' := [(6, .int (-1)), (0, .ref 31), (1, .int a1), (2, .int a2), (3, .int a3), (4, .int a4), (5, .int a5)]) rfl rfl rfl ?_
              refine x_iload (x := (-1)) rfl rfl ?_
              refine x_iconst (v := (-1)) rfl ki_m1 ?_
              refine x_icne (tgt := 51) rfl rfl (ti_ne jk_m1 jk_m1 (bn_f (by omega) ?_))
              refine x_ldc2 (v := (-2000000000000)) rfl z_11_351 ?_
              refine x_lret rfl rfl ?_
              exact hQ _ _ J Sm
            ·
              refine x_aloadn (x := 31) rfl rfl ?_
              refine z_getR (N := 13) (b := 78) 11 4 rfl f_11_41 rfl J rfl 3972 ⟨rfl, rfl⟩ rfl ?_
              refine x_iloadn (x := a2) rfl rfl ?_
              refine x_inv (N := m_X7_isMention) (As := [.int a2]) (b := 78) (st := []) (d' := 6) (mc := 0) (ms := 0) (host := "") 7 rfl t_X7_isMention ⟨Or.inl q_11_187, i_X7_isMention.1, i_X7_isMention.2⟩ ⟨by decide, rfl⟩ (congrArg Prod.fst (J.1.1 78 (7, 16) rfl)) rfl (by decide) rfl rfl ⟨by decide, by decide⟩ (jC.of rfl k_X7_isMention rfl ?_)
              show jX m_X7_isMention 6 0 0 0 [(0, .ref 78), (1, .int a2)] [] _ 0 0 _
              refine x_iloadn (x := a2) rfl rfl ?_
              refine x_iflt (tgt := 41) rfl rfl (ti_lt rfl jk_0 ⟨fun c9 => ?_, fun c9 => ?_⟩)
              ·
                refine x_iconst (v := 0) rfl ki_0 ?_
                refine x_zret rfl rfl (by decide) ?_
                show jX m_X11_soulOn 7 0 0 15 [(0, .ref 31), (1, .int a2), (2, .int a4)] [.int 0] _ 0 0 _
                refine x_ifne (tgt := 20) rfl rfl (ti_ne jk_0 jk_0 (bn_f (by omega) ?_))
                refine x_iconst (v := (-1)) rfl ki_m1 ?_
                refine x_iret rfl rfl ?_
                show jX m_X11_counts 8 0 0 39 [(0, .ref 31), (1, .int a1), (2, .int a2), (3, .int a3), (4, .int a4), (5, .int a5)] [.int (-1)] _ 0 0 _
                refine x_istore (ls' := [(6, .int (-1)), (0, .ref 31), (1, .int a1), (2, .int a2), (3, .int a3), (4, .int a4), (5, .int a5)]) rfl rfl rfl ?_
                refine x_iload (x := (-1)) rfl rfl ?_
                refine x_iconst (v := (-1)) rfl ki_m1 ?_
                refine x_icne (tgt := 51) rfl rfl (ti_ne jk_m1 jk_m1 (bn_f (by omega) ?_))
                refine x_ldc2 (v := (-2000000000000)) rfl z_11_351 ?_
                refine x_lret rfl rfl ?_
                exact hQ _ _ J Sm
              ·
                refine x_iloadn (x := a2) rfl rfl ?_
                refine x_sipush (v := 600) rfl ks_600 ?_
                refine x_icge (tgt := 41) rfl rfl (ti_ge rfl jk_600 ⟨fun c10 => ?_, fun c10 => ?_⟩)
                ·
                  refine x_iconst (v := 0) rfl ki_0 ?_
                  refine x_zret rfl rfl (by decide) ?_
                  show jX m_X11_soulOn 7 0 0 15 [(0, .ref 31), (1, .int a2), (2, .int a4)] [.int 0] _ 0 0 _
                  refine x_ifne (tgt := 20) rfl rfl (ti_ne jk_0 jk_0 (bn_f (by omega) ?_))
                  refine x_iconst (v := (-1)) rfl ki_m1 ?_
                  refine x_iret rfl rfl ?_
                  show jX m_X11_counts 8 0 0 39 [(0, .ref 31), (1, .int a1), (2, .int a2), (3, .int a3), (4, .int a4), (5, .int a5)] [.int (-1)] _ 0 0 _
                  refine x_istore (ls' := [(6, .int (-1)), (0, .ref 31), (1, .int a1), (2, .int a2), (3, .int a3), (4, .int a4), (5, .int a5)]) rfl rfl rfl ?_
                  refine x_iload (x := (-1)) rfl rfl ?_
                  refine x_iconst (v := (-1)) rfl ki_m1 ?_
                  refine x_icne (tgt := 51) rfl rfl (ti_ne jk_m1 jk_m1 (bn_f (by omega) ?_))
                  refine x_ldc2 (v := (-2000000000000)) rfl z_11_351 ?_
                  refine x_lret rfl rfl ?_
                  exact hQ _ _ J Sm
                ·
                  refine x_iloadn (x := a2) rfl rfl ?_
                  refine x_iconst (v := 3) rfl ki_3 ?_
                  refine z_idiv rfl rfl jk_3 (by omega) (by omega) (fun v11 ev11 => ?_)
                  refine x_aloadn (x := 78) rfl rfl ?_
                  refine z_getR (N := 16) (b := 32) 7 0 rfl f_7_55 rfl J rfl 9984 ⟨rfl, rfl⟩ rfl ?_
                  refine z_getR (N := 20) (b := 33) 1 0 rfl f_7_63 rfl J rfl 4096 ⟨rfl, rfl⟩ rfl ?_
                  refine z_getI (N := 4) 8 3 rfl f_7_85 rfl J rfl sg_33_3_4_1_0_1 (fun v12 qv12 ev12 => ?_)
                  refine x_icge (tgt := 41) rfl rfl (ti_ge rfl rfl ⟨fun c13 => ?_, fun c13 => ?_⟩)
                  ·
                    refine x_iconst (v := 0) rfl ki_0 ?_
                    refine x_zret rfl rfl (by decide) ?_
                    show jX m_X11_soulOn 7 0 0 15 [(0, .ref 31), (1, .int a2), (2, .int a4)] [.int 0] _ 0 0 _
                    refine x_ifne (tgt := 20) rfl rfl (ti_ne jk_0 jk_0 (bn_f (by omega) ?_))
                    refine x_iconst (v := (-1)) rfl ki_m1 ?_
                    refine x_iret rfl rfl ?_
                    show jX m_X11_counts 8 0 0 39 [(0, .ref 31), (1, .int a1), (2, .int a2), (3, .int a3), (4, .int a4), (5, .int a5)] [.int (-1)] _ 0 0 _
                    refine x_istore (ls' := [(6, .int (-1)), (0, .ref 31), (1, .int a1), (2, .int a2), (3, .int a3), (4, .int a4), (5, .int a5)]) rfl rfl rfl ?_
                    refine x_iload (x := (-1)) rfl rfl ?_
                    refine x_iconst (v := (-1)) rfl ki_m1 ?_
                    refine x_icne (tgt := 51) rfl rfl (ti_ne jk_m1 jk_m1 (bn_f (by omega) ?_))
                    refine x_ldc2 (v := (-2000000000000)) rfl z_11_351 ?_
                    refine x_lret rfl rfl ?_
                    exact hQ _ _ J Sm
                  ·
                    refine x_aloadn (x := 78) rfl rfl ?_
                    refine z_getR (N := 16) (b := 79) 7 7 rfl f_7_27 rfl J rfl 9991 ⟨rfl, rfl⟩ rfl ?_
                    refine x_iloadn (x := a2) rfl rfl ?_
                    refine z_iald (N := 600) rfl J rfl sg_79_0_600_1_0_1 rfl (by omega) (fun v14 qv14 ev14 => ?_)
                    refine x_iconst (v := (-1)) rfl ki_m1 ?_
                    refine x_iceq (tgt := 41) rfl rfl (ti_eq rfl jk_m1 ⟨fun c15 => ?_, fun c15 => ?_⟩)
                    ·
                      refine x_iconst (v := 0) rfl ki_0 ?_
                      refine x_zret rfl rfl (by decide) ?_
                      show jX m_X11_soulOn 7 0 0 15 [(0, .ref 31), (1, .int a2), (2, .int a4)] [.int 0] _ 0 0 _
                      refine x_ifne (tgt := 20) rfl rfl (ti_ne jk_0 jk_0 (bn_f (by omega) ?_))
                      refine x_iconst (v := (-1)) rfl ki_m1 ?_
                      refine x_iret rfl rfl ?_
                      show jX m_X11_counts 8 0 0 39 [(0, .ref 31), (1, .int a1), (2, .int a2), (3, .int a3), (4, .int a4), (5, .int a5)] [.int (-1)] _ 0 0 _
                      refine x_istore (ls' := [(6, .int (-1)), (0, .ref 31), (1, .int a1), (2, .int a2), (3, .int a3), (4, .int a4), (5, .int a5)]) rfl rfl rfl ?_
                      refine x_iload (x := (-1)) rfl rfl ?_
                      refine x_iconst (v := (-1)) rfl ki_m1 ?_
                      refine x_icne (tgt := 51) rfl rfl (ti_ne jk_m1 jk_m1 (bn_f (by omega) ?_))
                      refine x_ldc2 (v := (-2000000000000)) rfl z_11_351 ?_
                      refine x_lret rfl rfl ?_
                      exact hQ _ _ J Sm
                    ·
                      refine x_iconst (v := 1) rfl ki_1 ?_
                      refine x_goto (tgt := 42) rfl rfl ?_
                      refine x_zret rfl rfl (by decide) ?_
                      show jX m_X11_soulOn 7 0 0 15 [(0, .ref 31), (1, .int a2), (2, .int a4)] [.int 1] _ 0 0 _
                      refine x_ifne (tgt := 20) rfl rfl (ti_ne jk_1 jk_0 (bn_t (by omega) ?_))
                      refine x_aloadn (x := 31) rfl rfl ?_
                      refine z_getR (N := 13) (b := 78) 11 4 rfl f_11_41 rfl J rfl 3972 ⟨rfl, rfl⟩ rfl ?_
                      refine x_iloadn (x := a4) rfl rfl ?_
                      refine x_inv (N := m_X7_asKnown) (As := [.int a4]) (b := 78) (st := []) (d' := 6) (mc := 0) (ms := 0) (host := "") 7 rfl t_X7_asKnown ⟨Or.inl q_11_240, i_X7_asKnown.1, i_X7_asKnown.2⟩ ⟨by decide, rfl⟩ (congrArg Prod.fst (J.1.1 78 (7, 16) rfl)) rfl (by decide) rfl rfl ⟨by decide, by decide⟩ (sf_X7_asKnown_r78 (jr_of rfl (by omega)) hD J  (fun h J S16 => ?_))
                      have Sm := jSm_tr rfl Sm S16
                      show jX m_X11_soulOn 7 0 0 28 [(0, .ref 31), (1, .int a2), (2, .int a4)] [] _ 0 0 _
                      refine x_aloadn (x := 31) rfl rfl ?_
                      refine z_getR (N := 13) (b := 78) 11 4 rfl f_11_41 rfl J rfl 3972 ⟨rfl, rfl⟩ rfl ?_
                      refine z_getR (N := 16) (b := 82) 7 10 rfl f_11_537 rfl J rfl 9994 ⟨rfl, rfl⟩ rfl ?_
                      refine x_iloadn (x := a2) rfl rfl ?_
                      refine z_iald (N := 600) rfl J rfl sg_82_0_600_1_0_1 rfl (by omega) (fun v17 qv17 ev17 => ?_)
                      refine x_iret rfl rfl ?_
                      show jX m_X11_counts 8 0 0 39 [(0, .ref 31), (1, .int a1), (2, .int a2), (3, .int a3), (4, .int a4), (5, .int a5)] [.int v17] _ 0 0 _
                      refine x_istore (ls' := [(6, .int v17), (0, .ref 31), (1, .int a1), (2, .int a2), (3, .int a3), (4, .int a4), (5, .int a5)]) rfl rfl rfl ?_
                      refine x_iload (x := v17) rfl rfl ?_
                      refine x_iconst (v := (-1)) rfl ki_m1 ?_
                      refine x_icne (tgt := 51) rfl rfl (ti_ne rfl jk_m1 ⟨fun c18 => ?_, fun c18 => ?_⟩)
                      ·
                        refine x_aloadn (x := 31) rfl rfl ?_
                        refine z_getR (N := 13) (b := 98) 11 7 rfl f_11_66 rfl J rfl 3975 ⟨rfl, rfl⟩ rfl ?_
                        refine x_iloadn (x := a3) rfl rfl ?_
                        refine x_iload (x := a4) rfl rfl ?_
                        refine x_inv (N := m_X0_turnTo) (As := [.int a3, .int a4]) (b := 98) (st := []) (d' := 7) (mc := 0) (ms := 0) (host := "") 0 rfl t_X0_turnTo ⟨Or.inl q_11_345, i_X0_turnTo.1, i_X0_turnTo.2⟩ ⟨by decide, rfl⟩ (congrArg Prod.fst (J.1.1 98 (0, 16) rfl)) rfl (by decide) rfl rfl ⟨by decide, by decide⟩ (jC.of rfl k_X0_turnTo rfl ?_)
                        show jX m_X0_turnTo 7 0 0 0 [(0, .ref 98), (1, .int a3), (2, .int a4)] [] _ 0 0 _
                        refine x_aloadn (x := 98) rfl rfl ?_
                        refine x_iloadn (x := a3) rfl rfl ?_
                        refine x_iloadn (x := a4) rfl rfl ?_
                        refine x_inv (N := m_X0_readLaws) (As := [.int a3, .int a4]) (b := 98) (st := []) (d' := 2) (mc := 0) (ms := 0) (host := "") 0 rfl t_X0_readLaws ⟨Or.inl q_0_65, i_X0_readLaws.1, i_X0_readLaws.2⟩ ⟨by decide, rfl⟩ (congrArg Prod.fst (J.1.1 98 (0, 16) rfl)) rfl (by decide) rfl rfl ⟨by decide, by decide⟩ (sf_X0_readLaws_r98 (jr_of rfl (by omega)) (jr_of rfl (by omega)) hD J  (fun h J S19 => ?_))
                        have Sm := jSm_tr rfl Sm S19
                        show jX m_X0_turnTo 7 0 0 6 [(0, .ref 98), (1, .int a3), (2, .int a4)] [] _ 0 0 _
                        refine x_aloadn (x := 98) rfl rfl ?_
                        refine x_iloadn (x := a3) rfl rfl ?_
                        refine x_iloadn (x := a4) rfl rfl ?_
                        refine x_inv (N := m_X0_readHouses) (As := [.int a3, .int a4]) (b := 98) (st := []) (d' := 3) (mc := 0) (ms := 0) (host := "") 0 rfl t_X0_readHouses ⟨Or.inl q_0_69, i_X0_readHouses.1, i_X0_readHouses.2⟩ ⟨by decide, rfl⟩ (congrArg Prod.fst (J.1.1 98 (0, 16) rfl)) rfl (by decide) rfl rfl ⟨by decide, by decide⟩ (sf_X0_readHouses_r98 (jr_of rfl (by omega)) (jr_of rfl (by omega)) hD J  (fun h J S20 => ?_))
                        have Sm := jSm_tr rfl Sm S20
                        show jX m_X0_turnTo 7 0 0 12 [(0, .ref 98), (1, .int a3), (2, .int a4)] [] _ 0 0 _
                        refine x_vret rfl rfl ?_
                        show jX m_X11_counts 8 0 0 61 [(6, .int v17), (0, .ref 31), (1, .int a1), (2, .int a2), (3, .int a3), (4, .int a4), (5, .int a5)] [] _ 0 0 _
                        refine x_aloadn (x := 31) rfl rfl ?_
                        refine z_getR (N := 13) (b := 98) 11 7 rfl f_11_66 rfl J rfl 3975 ⟨rfl, rfl⟩ rfl ?_
                        refine x_gets jst_3 rfl (by decide +kernel) u_11_353 ?_
                        show jX m_X11_counts 8 0 0 68 [(6, .int v17), (0, .ref 31), (1, .int a1), (2, .int a2), (3, .int a3), (4, .int a4), (5, .int a5)] [.ref 3, .ref 98] _ 0 0 _
                        refine x_iloadn (x := a1) rfl rfl ?_
                        refine z_iald (N := 8) rfl J rfl sg_3_0_8_1_0_1 rfl (by omega) (fun v21 qv21 ev21 => ?_)
                        refine x_gets jst_4 rfl (by decide +kernel) u_11_356 ?_
                        show jX m_X11_counts 8 0 0 73 [(6, .int v17), (0, .ref 31), (1, .int a1), (2, .int a2), (3, .int a3), (4, .int a4), (5, .int a5)] [.ref 4, .int v21, .ref 98] _ 0 0 _
                        refine x_iloadn (x := a1) rfl rfl ?_
                        refine z_iald (N := 8) rfl J rfl sg_4_0_8_1_0_1 rfl (by omega) (fun v22 qv22 ev22 => ?_)
                        refine x_iload (x := v17) rfl rfl ?_
                        refine x_inv (N := m_X0_weigh) (As := [.int v21, .int v22, .int v17]) (b := 98) (st := []) (d' := 1) (mc := 0) (ms := 0) (host := "") 0 rfl t_X0_weigh ⟨Or.inl q_11_359, i_X0_weigh.1, i_X0_weigh.2⟩ ⟨by decide, rfl⟩ (congrArg Prod.fst (J.1.1 98 (0, 16) rfl)) rfl (by decide) rfl rfl ⟨by decide, by decide⟩ (sf_X0_weigh_r98 (jr_of rfl (by omega)) (jr_of rfl (by omega)) (jr_of rfl (by omega)) hD J  (fun v24 h ev24 J S23 => ?_))
                        have Sm := jSm_tr rfl Sm S23
                        show jX m_X11_counts 8 0 0 80 [(6, .int v17), (0, .ref 31), (1, .int a1), (2, .int a2), (3, .int a3), (4, .int a4), (5, .int a5)] [.int v24] _ 0 0 _
                        refine x_ifne (tgt := 87) rfl rfl (ti_ne rfl jk_0 (bn_f (by omega) ?_))
                        refine x_ldc2 (v := (-2000000000000)) rfl z_11_351 ?_
                        refine x_lret rfl rfl ?_
                        exact hQ _ _ J Sm
                      ·
                        refine x_ldc2 (v := (-2000000000000)) rfl z_11_351 ?_
                        refine x_lret rfl rfl ?_
                        exact hQ _ _ J Sm
          ·
            exact jX.sub jsb_n (ct_X11_counts_r31_28 hD hQ  h J Sm)
def fp_X11_end_r31 : jFp := [(68, 1, 2)]
set_option maxRecDepth 100000 in
set_option maxHeartbeats 4000000 in
theorem ct_X11_end_r31_15 {Dy : jH → Prop} {h0 : jH} {Q : Option Value → jH → Prop} (hD : jDk Dy) (hQ : ∀ (v : Int32) h', (-1) ≤ v.toInt ∧ v.toInt ≤ 400 → jJ jSgX Dy h' → jSm fp_X11_end_r31 h0 h' → Q (some (.int v)) h') : ∀ (h : jH), jJ jSgX Dy h → jSm fp_X11_end_r31 h0 h → jX m_X11_end 1 0 0 15 [] [] h 0 0 Q := by
  intro  h    J Sm
  refine x_iconst (v := (-1)) rfl ki_m1 ?_
  refine x_iret rfl rfl ?_
  exact hQ _ _ (jr_of jk_m1 (by omega)) J Sm
set_option maxRecDepth 100000 in
set_option maxHeartbeats 4000000 in
theorem sf_X11_end_r31 {Dy : jH → Prop} {h : jH} {Q : Option Value → jH → Prop} {a1 : Int32} (hD : jDk Dy) (J : jJ jSgX Dy h) (hQ : ∀ (v : Int32) h', (-1) ≤ v.toInt ∧ v.toInt ≤ 400 → jJ jSgX Dy h' → jSm fp_X11_end_r31 h h' → Q (some (.int v)) h') : jC m_X11_end 1 0 0 [.ref 31, .int a1] h Q := by
  refine jC.of rfl k_X11_end rfl ?_
  have Sm := jSm_rf fp_X11_end_r31 h
  have ea1 := jfull a1
  show jX m_X11_end 1 0 0 0 [(0, .ref 31), (1, .int a1)] [] _ 0 0 _
  refine x_iloadn (x := a1) rfl rfl ?_
  refine x_iflt (tgt := 15) rfl rfl (ti_lt rfl jk_0 ⟨fun c1 => ?_, fun c1 => ?_⟩)
  ·
    exact jX.sub jsb_n (ct_X11_end_r31_15 hD hQ  h J Sm)
  ·
    refine x_iloadn (x := a1) rfl rfl ?_
    refine x_aloadn (x := 31) rfl rfl ?_
    refine z_getR (N := 13) (b := 68) 11 2 rfl f_11_23 rfl J rfl 3970 ⟨rfl, rfl⟩ rfl ?_
    refine z_getI (N := 6) 9 1 rfl f_11_106 rfl J rfl sg_68_1_2_1_0_1 (fun v2 qv2 ev2 => ?_)
    refine x_icle (tgt := 17) rfl rfl (ti_le rfl rfl ⟨fun c3 => ?_, fun c3 => ?_⟩)
    ·
      refine x_aloadn (x := 31) rfl rfl ?_
      refine z_getR (N := 13) (b := 68) 11 2 rfl f_11_23 rfl J rfl 3970 ⟨rfl, rfl⟩ rfl ?_
      refine x_iloadn (x := a1) rfl rfl ?_
      refine z_putI (N := 6) (w := a1.toInt) 9 1 rfl f_11_106 rfl (jfin_no TX9 RX9 6 rfl rfl) hD J Sm rfl rfl rfl (pw_68_1 (by omega)) rfl (fun h w4 J Sm => ?_)
      refine x_iloadn (x := a1) rfl rfl ?_
      refine x_iret rfl rfl ?_
      exact hQ _ _ (jr_of rfl (by omega)) J Sm
    ·
      exact jX.sub jsb_n (ct_X11_end_r31_15 hD hQ  h J Sm)
def fp_X8_put_r57_c0 : jFp := [(58, 0, 400)]
set_option maxRecDepth 100000 in
set_option maxHeartbeats 4000000 in
theorem ct_X8_put_r57_c0_38 {Dy : jH → Prop} {h0 : jH} {Q : Option Value → jH → Prop} (hD : jDk Dy) (hQ : ∀ h', jJ jSgX Dy h' → jSm fp_X8_put_r57_c0 h0 h' → Q none h') : ∀ (h : jH), jJ jSgX Dy h → jSm fp_X8_put_r57_c0 h0 h → jX m_X8_put 1 0 0 38 [] [] h 0 0 Q := by
  intro  h    J Sm
  refine x_vret rfl rfl ?_
  exact hQ _ J Sm
set_option maxRecDepth 100000 in
set_option maxHeartbeats 4000000 in
theorem sf_X8_put_r57_c0 {Dy : jH → Prop} {h : jH} {Q : Option Value → jH → Prop} {a1 : Int32} {a3 : Int32} (y1 : 0 ≤ a1.toInt ∧ a1.toInt ≤ 99) (y3 : 0 ≤ a3.toInt ∧ a3.toInt ≤ 146399) (hD : jDk Dy) (J : jJ jSgX Dy h) (hQ : ∀ h', jJ jSgX Dy h' → jSm fp_X8_put_r57_c0 h h' → Q none h') : jC m_X8_put 1 0 0 [.ref 57, .int a1, .int 0, .int a3] h Q := by
  refine jC.of rfl k_X8_put rfl ?_
  have Sm := jSm_rf fp_X8_put_r57_c0 h
  show jX m_X8_put 1 0 0 0 [(0, .ref 57), (1, .int a1), (2, .int 0), (3, .int a3)] [] _ 0 0 _
  refine x_iloadn (x := a1) rfl rfl ?_
  refine x_iflt (tgt := 38) rfl rfl (ti_lt rfl jk_0 (br_f (by omega) ?_))
  refine x_iloadn (x := a1) rfl rfl ?_
  refine x_aloadn (x := 57) rfl rfl ?_
  refine z_getI (N := 4) 8 3 rfl f_8_7 rfl J rfl sg_57_3_4_1_0_1 (fun v1 qv1 ev1 => ?_)
  refine x_icge (tgt := 38) rfl rfl (ti_ge rfl rfl ⟨fun c2 => ?_, fun c2 => ?_⟩)
  ·
    exact jX.sub jsb_n (ct_X8_put_r57_c0_38 hD hQ  h J Sm)
  ·
    refine x_iloadn (x := 0) rfl rfl ?_
    refine x_iflt (tgt := 38) rfl rfl (ti_lt jk_0 jk_0 (br_f (by omega) ?_))
    refine x_iloadn (x := 0) rfl rfl ?_
    refine x_aloadn (x := 57) rfl rfl ?_
    refine z_getC (N := 4) (v := 4) 8 0 rfl f_8_19 rfl J rfl sg_57_0_1_1_0_1 jk_4 ?_
    refine x_icge (tgt := 38) rfl rfl (ti_ge jk_0 jk_4 (br_f (by omega) ?_))
    refine x_aloadn (x := 57) rfl rfl ?_
    refine z_getR (N := 4) (b := 58) 8 2 rfl f_8_25 rfl J rfl 7298 ⟨rfl, rfl⟩ rfl ?_
    refine x_iloadn (x := a1) rfl rfl ?_
    refine x_aloadn (x := 57) rfl rfl ?_
    refine z_getC (N := 4) (v := 4) 8 0 rfl f_8_19 rfl J rfl sg_57_0_1_1_0_1 jk_4 ?_
    refine z_imul rfl rfl jk_4 (by omega) (fun v3 ev3 => ?_)
    refine x_iloadn (x := 0) rfl rfl ?_
    refine z_iadd rfl rfl jk_0 (by omega) (fun v4 ev4 => ?_)
    refine x_iloadn (x := a3) rfl rfl ?_
    refine z_iast (N := 400) (l := 0) (u := 400) (w := a3.toInt) rfl hD J Sm rfl rfl rfl (by omega) rfl (wr_58 (fun q1 q2 q3 q4 => by omega) (fun q1 q2 q3 q4 => by omega) (fun q1 q2 q3 q4 => by omega) (fun q1 q2 q3 q4 => by omega)) rfl (fun h w5 J Sm => ?_)
    exact jX.sub jsb_n (ct_X8_put_r57_c0_38 hD hQ  h J Sm)
def fp_X8_put_r57_c1 : jFp := [(58, 0, 400)]
set_option maxRecDepth 100000 in
set_option maxHeartbeats 4000000 in
theorem ct_X8_put_r57_c1_38 {Dy : jH → Prop} {h0 : jH} {Q : Option Value → jH → Prop} (hD : jDk Dy) (hQ : ∀ h', jJ jSgX Dy h' → jSm fp_X8_put_r57_c1 h0 h' → Q none h') : ∀ (h : jH), jJ jSgX Dy h → jSm fp_X8_put_r57_c1 h0 h → jX m_X8_put 1 0 0 38 [] [] h 0 0 Q := by
  intro  h    J Sm
  refine x_vret rfl rfl ?_
  exact hQ _ J Sm
set_option maxRecDepth 100000 in
set_option maxHeartbeats 4000000 in
theorem sf_X8_put_r57_c1 {Dy : jH → Prop} {h : jH} {Q : Option Value → jH → Prop} {a1 : Int32} {a3 : Int32} (y1 : 0 ≤ a1.toInt ∧ a1.toInt ≤ 99) (y3 : 0 ≤ a3.toInt ∧ a3.toInt ≤ 399) (hD : jDk Dy) (J : jJ jSgX Dy h) (hQ : ∀ h', jJ jSgX Dy h' → jSm fp_X8_put_r57_c1 h h' → Q none h') : jC m_X8_put 1 0 0 [.ref 57, .int a1, .int 1, .int a3] h Q := by
  refine jC.of rfl k_X8_put rfl ?_
  have Sm := jSm_rf fp_X8_put_r57_c1 h
  show jX m_X8_put 1 0 0 0 [(0, .ref 57), (1, .int a1), (2, .int 1), (3, .int a3)] [] _ 0 0 _
  refine x_iloadn (x := a1) rfl rfl ?_
  refine x_iflt (tgt := 38) rfl rfl (ti_lt rfl jk_0 (br_f (by omega) ?_))
  refine x_iloadn (x := a1) rfl rfl ?_
  refine x_aloadn (x := 57) rfl rfl ?_
  refine z_getI (N := 4) 8 3 rfl f_8_7 rfl J rfl sg_57_3_4_1_0_1 (fun v1 qv1 ev1 => ?_)
  refine x_icge (tgt := 38) rfl rfl (ti_ge rfl rfl ⟨fun c2 => ?_, fun c2 => ?_⟩)
  ·
    exact jX.sub jsb_n (ct_X8_put_r57_c1_38 hD hQ  h J Sm)
  ·
    refine x_iloadn (x := 1) rfl rfl ?_
    refine x_iflt (tgt := 38) rfl rfl (ti_lt jk_1 jk_0 (br_f (by omega) ?_))
    refine x_iloadn (x := 1) rfl rfl ?_
    refine x_aloadn (x := 57) rfl rfl ?_
    refine z_getC (N := 4) (v := 4) 8 0 rfl f_8_19 rfl J rfl sg_57_0_1_1_0_1 jk_4 ?_
    refine x_icge (tgt := 38) rfl rfl (ti_ge jk_1 jk_4 (br_f (by omega) ?_))
    refine x_aloadn (x := 57) rfl rfl ?_
    refine z_getR (N := 4) (b := 58) 8 2 rfl f_8_25 rfl J rfl 7298 ⟨rfl, rfl⟩ rfl ?_
    refine x_iloadn (x := a1) rfl rfl ?_
    refine x_aloadn (x := 57) rfl rfl ?_
    refine z_getC (N := 4) (v := 4) 8 0 rfl f_8_19 rfl J rfl sg_57_0_1_1_0_1 jk_4 ?_
    refine z_imul rfl rfl jk_4 (by omega) (fun v3 ev3 => ?_)
    refine x_iloadn (x := 1) rfl rfl ?_
    refine z_iadd rfl rfl jk_1 (by omega) (fun v4 ev4 => ?_)
    refine x_iloadn (x := a3) rfl rfl ?_
    refine z_iast (N := 400) (l := 0) (u := 400) (w := a3.toInt) rfl hD J Sm rfl rfl rfl (by omega) rfl (wr_58 (fun q1 q2 q3 q4 => by omega) (fun q1 q2 q3 q4 => by omega) (fun q1 q2 q3 q4 => by omega) (fun q1 q2 q3 q4 => by omega)) rfl (fun h w5 J Sm => ?_)
    exact jX.sub jsb_n (ct_X8_put_r57_c1_38 hD hQ  h J Sm)
def fp_X8_put_r57_c2 : jFp := [(58, 0, 400)]
set_option maxRecDepth 100000 in
set_option maxHeartbeats 4000000 in
theorem ct_X8_put_r57_c2_38 {Dy : jH → Prop} {h0 : jH} {Q : Option Value → jH → Prop} (hD : jDk Dy) (hQ : ∀ h', jJ jSgX Dy h' → jSm fp_X8_put_r57_c2 h0 h' → Q none h') : ∀ (h : jH), jJ jSgX Dy h → jSm fp_X8_put_r57_c2 h0 h → jX m_X8_put 1 0 0 38 [] [] h 0 0 Q := by
  intro  h    J Sm
  refine x_vret rfl rfl ?_
  exact hQ _ J Sm
set_option maxRecDepth 100000 in
set_option maxHeartbeats 4000000 in
theorem sf_X8_put_r57_c2 {Dy : jH → Prop} {h : jH} {Q : Option Value → jH → Prop} {a1 : Int32} {a3 : Int32} (y1 : 0 ≤ a1.toInt ∧ a1.toInt ≤ 99) (y3 : 0 ≤ a3.toInt ∧ a3.toInt ≤ 3) (hD : jDk Dy) (J : jJ jSgX Dy h) (hQ : ∀ h', jJ jSgX Dy h' → jSm fp_X8_put_r57_c2 h h' → Q none h') : jC m_X8_put 1 0 0 [.ref 57, .int a1, .int 2, .int a3] h Q := by
  refine jC.of rfl k_X8_put rfl ?_
  have Sm := jSm_rf fp_X8_put_r57_c2 h
  show jX m_X8_put 1 0 0 0 [(0, .ref 57), (1, .int a1), (2, .int 2), (3, .int a3)] [] _ 0 0 _
  refine x_iloadn (x := a1) rfl rfl ?_
  refine x_iflt (tgt := 38) rfl rfl (ti_lt rfl jk_0 (br_f (by omega) ?_))
  refine x_iloadn (x := a1) rfl rfl ?_
  refine x_aloadn (x := 57) rfl rfl ?_
  refine z_getI (N := 4) 8 3 rfl f_8_7 rfl J rfl sg_57_3_4_1_0_1 (fun v1 qv1 ev1 => ?_)
  refine x_icge (tgt := 38) rfl rfl (ti_ge rfl rfl ⟨fun c2 => ?_, fun c2 => ?_⟩)
  ·
    exact jX.sub jsb_n (ct_X8_put_r57_c2_38 hD hQ  h J Sm)
  ·
    refine x_iloadn (x := 2) rfl rfl ?_
    refine x_iflt (tgt := 38) rfl rfl (ti_lt jk_2 jk_0 (br_f (by omega) ?_))
    refine x_iloadn (x := 2) rfl rfl ?_
    refine x_aloadn (x := 57) rfl rfl ?_
    refine z_getC (N := 4) (v := 4) 8 0 rfl f_8_19 rfl J rfl sg_57_0_1_1_0_1 jk_4 ?_
    refine x_icge (tgt := 38) rfl rfl (ti_ge jk_2 jk_4 (br_f (by omega) ?_))
    refine x_aloadn (x := 57) rfl rfl ?_
    refine z_getR (N := 4) (b := 58) 8 2 rfl f_8_25 rfl J rfl 7298 ⟨rfl, rfl⟩ rfl ?_
    refine x_iloadn (x := a1) rfl rfl ?_
    refine x_aloadn (x := 57) rfl rfl ?_
    refine z_getC (N := 4) (v := 4) 8 0 rfl f_8_19 rfl J rfl sg_57_0_1_1_0_1 jk_4 ?_
    refine z_imul rfl rfl jk_4 (by omega) (fun v3 ev3 => ?_)
    refine x_iloadn (x := 2) rfl rfl ?_
    refine z_iadd rfl rfl jk_2 (by omega) (fun v4 ev4 => ?_)
    refine x_iloadn (x := a3) rfl rfl ?_
    refine z_iast (N := 400) (l := 0) (u := 400) (w := a3.toInt) rfl hD J Sm rfl rfl rfl (by omega) rfl (wr_58 (fun q1 q2 q3 q4 => by omega) (fun q1 q2 q3 q4 => by omega) (fun q1 q2 q3 q4 => by omega) (fun q1 q2 q3 q4 => by omega)) rfl (fun h w5 J Sm => ?_)
    exact jX.sub jsb_n (ct_X8_put_r57_c2_38 hD hQ  h J Sm)
def fp_X8_put_r57_c3 : jFp := [(58, 0, 400)]
set_option maxRecDepth 100000 in
set_option maxHeartbeats 4000000 in
theorem ct_X8_put_r57_c3_38 {Dy : jH → Prop} {h0 : jH} {Q : Option Value → jH → Prop} (hD : jDk Dy) (hQ : ∀ h', jJ jSgX Dy h' → jSm fp_X8_put_r57_c3 h0 h' → Q none h') : ∀ (h : jH), jJ jSgX Dy h → jSm fp_X8_put_r57_c3 h0 h → jX m_X8_put 1 0 0 38 [] [] h 0 0 Q := by
  intro  h    J Sm
  refine x_vret rfl rfl ?_
  exact hQ _ J Sm
set_option maxRecDepth 100000 in
set_option maxHeartbeats 4000000 in
theorem sf_X8_put_r57_c3 {Dy : jH → Prop} {h : jH} {Q : Option Value → jH → Prop} {a1 : Int32} {a3 : Int32} (y1 : 0 ≤ a1.toInt ∧ a1.toInt ≤ 99) (y3 : (-1000000) ≤ a3.toInt ∧ a3.toInt ≤ 1000000) (hD : jDk Dy) (J : jJ jSgX Dy h) (hQ : ∀ h', jJ jSgX Dy h' → jSm fp_X8_put_r57_c3 h h' → Q none h') : jC m_X8_put 1 0 0 [.ref 57, .int a1, .int 3, .int a3] h Q := by
  refine jC.of rfl k_X8_put rfl ?_
  have Sm := jSm_rf fp_X8_put_r57_c3 h
  show jX m_X8_put 1 0 0 0 [(0, .ref 57), (1, .int a1), (2, .int 3), (3, .int a3)] [] _ 0 0 _
  refine x_iloadn (x := a1) rfl rfl ?_
  refine x_iflt (tgt := 38) rfl rfl (ti_lt rfl jk_0 (br_f (by omega) ?_))
  refine x_iloadn (x := a1) rfl rfl ?_
  refine x_aloadn (x := 57) rfl rfl ?_
  refine z_getI (N := 4) 8 3 rfl f_8_7 rfl J rfl sg_57_3_4_1_0_1 (fun v1 qv1 ev1 => ?_)
  refine x_icge (tgt := 38) rfl rfl (ti_ge rfl rfl ⟨fun c2 => ?_, fun c2 => ?_⟩)
  ·
    exact jX.sub jsb_n (ct_X8_put_r57_c3_38 hD hQ  h J Sm)
  ·
    refine x_iloadn (x := 3) rfl rfl ?_
    refine x_iflt (tgt := 38) rfl rfl (ti_lt jk_3 jk_0 (br_f (by omega) ?_))
    refine x_iloadn (x := 3) rfl rfl ?_
    refine x_aloadn (x := 57) rfl rfl ?_
    refine z_getC (N := 4) (v := 4) 8 0 rfl f_8_19 rfl J rfl sg_57_0_1_1_0_1 jk_4 ?_
    refine x_icge (tgt := 38) rfl rfl (ti_ge jk_3 jk_4 (br_f (by omega) ?_))
    refine x_aloadn (x := 57) rfl rfl ?_
    refine z_getR (N := 4) (b := 58) 8 2 rfl f_8_25 rfl J rfl 7298 ⟨rfl, rfl⟩ rfl ?_
    refine x_iloadn (x := a1) rfl rfl ?_
    refine x_aloadn (x := 57) rfl rfl ?_
    refine z_getC (N := 4) (v := 4) 8 0 rfl f_8_19 rfl J rfl sg_57_0_1_1_0_1 jk_4 ?_
    refine z_imul rfl rfl jk_4 (by omega) (fun v3 ev3 => ?_)
    refine x_iloadn (x := 3) rfl rfl ?_
    refine z_iadd rfl rfl jk_3 (by omega) (fun v4 ev4 => ?_)
    refine x_iloadn (x := a3) rfl rfl ?_
    refine z_iast (N := 400) (l := 0) (u := 400) (w := a3.toInt) rfl hD J Sm rfl rfl rfl (by omega) rfl (wr_58 (fun q1 q2 q3 q4 => by omega) (fun q1 q2 q3 q4 => by omega) (fun q1 q2 q3 q4 => by omega) (fun q1 q2 q3 q4 => by omega)) rfl (fun h w5 J Sm => ?_)
    exact jX.sub jsb_n (ct_X8_put_r57_c3_38 hD hQ  h J Sm)
def fp_X8_put_r57_c4 : jFp := []
set_option maxRecDepth 100000 in
set_option maxHeartbeats 4000000 in
theorem ct_X8_put_r57_c4_38 {Dy : jH → Prop} {h0 : jH} {Q : Option Value → jH → Prop} (hD : jDk Dy) (hQ : ∀ h', jJ jSgX Dy h' → jSm fp_X8_put_r57_c4 h0 h' → Q none h') : ∀ (h : jH), jJ jSgX Dy h → jSm fp_X8_put_r57_c4 h0 h → jX m_X8_put 1 0 0 38 [] [] h 0 0 Q := by
  intro  h    J Sm
  refine x_vret rfl rfl ?_
  exact hQ _ J Sm
set_option maxRecDepth 100000 in
set_option maxHeartbeats 4000000 in
theorem sf_X8_put_r57_c4 {Dy : jH → Prop} {h : jH} {Q : Option Value → jH → Prop} {a1 : Int32} {a3 : Int32} (y1 : 0 ≤ a1.toInt ∧ a1.toInt ≤ 99) (y3 : 0 ≤ a3.toInt ∧ a3.toInt ≤ 0) (hD : jDk Dy) (J : jJ jSgX Dy h) (hQ : ∀ h', jJ jSgX Dy h' → jSm fp_X8_put_r57_c4 h h' → Q none h') : jC m_X8_put 1 0 0 [.ref 57, .int a1, .int 4, .int a3] h Q := by
  refine jC.of rfl k_X8_put rfl ?_
  have Sm := jSm_rf fp_X8_put_r57_c4 h
  show jX m_X8_put 1 0 0 0 [(0, .ref 57), (1, .int a1), (2, .int 4), (3, .int a3)] [] _ 0 0 _
  refine x_iloadn (x := a1) rfl rfl ?_
  refine x_iflt (tgt := 38) rfl rfl (ti_lt rfl jk_0 (br_f (by omega) ?_))
  refine x_iloadn (x := a1) rfl rfl ?_
  refine x_aloadn (x := 57) rfl rfl ?_
  refine z_getI (N := 4) 8 3 rfl f_8_7 rfl J rfl sg_57_3_4_1_0_1 (fun v1 qv1 ev1 => ?_)
  refine x_icge (tgt := 38) rfl rfl (ti_ge rfl rfl ⟨fun c2 => ?_, fun c2 => ?_⟩)
  ·
    exact jX.sub jsb_n (ct_X8_put_r57_c4_38 hD hQ  h J Sm)
  ·
    refine x_iloadn (x := 4) rfl rfl ?_
    refine x_iflt (tgt := 38) rfl rfl (ti_lt jk_4 jk_0 (br_f (by omega) ?_))
    refine x_iloadn (x := 4) rfl rfl ?_
    refine x_aloadn (x := 57) rfl rfl ?_
    refine z_getC (N := 4) (v := 4) 8 0 rfl f_8_19 rfl J rfl sg_57_0_1_1_0_1 jk_4 ?_
    refine x_icge (tgt := 38) rfl rfl (ti_ge jk_4 jk_4 (br_t (by omega) ?_))
    exact jX.sub jsb_n (ct_X8_put_r57_c4_38 hD hQ  h J Sm)
def fp_X8_put_r57_c5 : jFp := []
set_option maxRecDepth 100000 in
set_option maxHeartbeats 4000000 in
theorem ct_X8_put_r57_c5_38 {Dy : jH → Prop} {h0 : jH} {Q : Option Value → jH → Prop} (hD : jDk Dy) (hQ : ∀ h', jJ jSgX Dy h' → jSm fp_X8_put_r57_c5 h0 h' → Q none h') : ∀ (h : jH), jJ jSgX Dy h → jSm fp_X8_put_r57_c5 h0 h → jX m_X8_put 1 0 0 38 [] [] h 0 0 Q := by
  intro  h    J Sm
  refine x_vret rfl rfl ?_
  exact hQ _ J Sm
set_option maxRecDepth 100000 in
set_option maxHeartbeats 4000000 in
theorem sf_X8_put_r57_c5 {Dy : jH → Prop} {h : jH} {Q : Option Value → jH → Prop} {a1 : Int32} {a3 : Int32} (y1 : 0 ≤ a1.toInt ∧ a1.toInt ≤ 99) (y3 : 0 ≤ a3.toInt ∧ a3.toInt ≤ 0) (hD : jDk Dy) (J : jJ jSgX Dy h) (hQ : ∀ h', jJ jSgX Dy h' → jSm fp_X8_put_r57_c5 h h' → Q none h') : jC m_X8_put 1 0 0 [.ref 57, .int a1, .int 5, .int a3] h Q := by
  refine jC.of rfl k_X8_put rfl ?_
  have Sm := jSm_rf fp_X8_put_r57_c5 h
  show jX m_X8_put 1 0 0 0 [(0, .ref 57), (1, .int a1), (2, .int 5), (3, .int a3)] [] _ 0 0 _
  refine x_iloadn (x := a1) rfl rfl ?_
  refine x_iflt (tgt := 38) rfl rfl (ti_lt rfl jk_0 (br_f (by omega) ?_))
  refine x_iloadn (x := a1) rfl rfl ?_
  refine x_aloadn (x := 57) rfl rfl ?_
  refine z_getI (N := 4) 8 3 rfl f_8_7 rfl J rfl sg_57_3_4_1_0_1 (fun v1 qv1 ev1 => ?_)
  refine x_icge (tgt := 38) rfl rfl (ti_ge rfl rfl ⟨fun c2 => ?_, fun c2 => ?_⟩)
  ·
    exact jX.sub jsb_n (ct_X8_put_r57_c5_38 hD hQ  h J Sm)
  ·
    refine x_iloadn (x := 5) rfl rfl ?_
    refine x_iflt (tgt := 38) rfl rfl (ti_lt jk_5 jk_0 (br_f (by omega) ?_))
    refine x_iloadn (x := 5) rfl rfl ?_
    refine x_aloadn (x := 57) rfl rfl ?_
    refine z_getC (N := 4) (v := 4) 8 0 rfl f_8_19 rfl J rfl sg_57_0_1_1_0_1 jk_4 ?_
    refine x_icge (tgt := 38) rfl rfl (ti_ge jk_5 jk_4 (br_t (by omega) ?_))
    exact jX.sub jsb_n (ct_X8_put_r57_c5_38 hD hQ  h J Sm)
def fp_X8_add_r57 : jFp := [(57, 3, 4), (58, 0, 400)]
set_option maxRecDepth 100000 in
set_option maxHeartbeats 4000000 in
theorem sf_X8_add_r57 {Dy : jH → Prop} {h : jH} {Q : Option Value → jH → Prop} {a1 : Int32} {a2 : Int32} {a3 : Int32} {a4 : Int32} {a5 : Int32} {a6 : Int32} (y1 : 0 ≤ a1.toInt ∧ a1.toInt ≤ 146399) (y2 : 0 ≤ a2.toInt ∧ a2.toInt ≤ 399) (y3 : 0 ≤ a3.toInt ∧ a3.toInt ≤ 3) (y4 : (-1000000) ≤ a4.toInt ∧ a4.toInt ≤ 1000000) (y5 : 0 ≤ a5.toInt ∧ a5.toInt ≤ 0) (y6 : 0 ≤ a6.toInt ∧ a6.toInt ≤ 0) (hD : jDk Dy) (J : jJ jSgX Dy h) (hQ : ∀ h', jJ jSgX Dy h' → jSm fp_X8_add_r57 h h' → Q none h') : jC m_X8_add 2 0 0 [.ref 57, .int a1, .int a2, .int a3, .int a4, .int a5, .int a6] h Q := by
  refine jC.of rfl k_X8_add rfl ?_
  have Sm := jSm_rf fp_X8_add_r57 h
  show jX m_X8_add 2 0 0 0 [(0, .ref 57), (1, .int a1), (2, .int a2), (3, .int a3), (4, .int a4), (5, .int a5), (6, .int a6)] [] _ 0 0 _
  refine x_aloadn (x := 57) rfl rfl ?_
  refine z_getI (N := 4) 8 3 rfl f_8_7 rfl J rfl sg_57_3_4_1_0_1 (fun v1 qv1 ev1 => ?_)
  refine x_aloadn (x := 57) rfl rfl ?_
  refine z_getC (N := 4) (v := 100) 8 1 rfl f_8_22 rfl J rfl sg_57_1_2_1_0_1 jk_100 ?_
  refine x_iclt (tgt := 12) rfl rfl (ti_lt rfl jk_100 ⟨fun c2 => ?_, fun c2 => ?_⟩)
  ·
    refine x_aloadn (x := 57) rfl rfl ?_
    refine z_getM (N := 4) (v := v1) 8 3 rfl f_8_7 rfl J rfl qv1 ?_
    refine x_istore (ls' := [(7, .int v1), (0, .ref 57), (1, .int a1), (2, .int a2), (3, .int a3), (4, .int a4), (5, .int a5), (6, .int a6)]) rfl rfl rfl ?_
    refine x_aloadn (x := 57) rfl rfl ?_
    refine x_iload (x := v1) rfl rfl ?_
    refine x_iconst (v := 1) rfl ki_1 ?_
    refine z_iadd rfl rfl jk_1 (by omega) (fun v3 ev3 => ?_)
    refine z_putI (N := 4) (w := v3.toInt) 8 3 rfl f_8_7 rfl (jfin_no TX8 RX8 4 rfl rfl) hD J Sm rfl rfl rfl (pw_57_3 (by omega)) rfl (fun h w4 J Sm => ?_)
    refine x_aloadn (x := 57) rfl rfl ?_
    refine x_iload (x := v1) rfl rfl ?_
    refine x_iconst (v := 0) rfl ki_0 ?_
    refine x_iloadn (x := a1) rfl rfl ?_
    refine x_inv (N := m_X8_put) (As := [.int v1, .int 0, .int a1]) (b := 57) (st := []) (d' := 1) (mc := 0) (ms := 0) (host := "") 8 rfl t_X8_put ⟨Or.inl q_8_29, i_X8_put.1, i_X8_put.2⟩ ⟨by decide, rfl⟩ (congrArg Prod.fst (J.1.1 57 (8, 4) rfl)) rfl (by decide) rfl rfl ⟨by decide, by decide⟩ (sf_X8_put_r57_c0 (jr_of rfl (by omega)) (jr_of rfl (by omega)) hD J  (fun h J S5 => ?_))
    have Sm := jSm_tr rfl Sm S5
    show jX m_X8_add 2 0 0 34 [(7, .int v1), (0, .ref 57), (1, .int a1), (2, .int a2), (3, .int a3), (4, .int a4), (5, .int a5), (6, .int a6)] [] _ 0 0 _
    refine x_aloadn (x := 57) rfl rfl ?_
    refine x_iload (x := v1) rfl rfl ?_
    refine x_iconst (v := 1) rfl ki_1 ?_
    refine x_iloadn (x := a2) rfl rfl ?_
    refine x_inv (N := m_X8_put) (As := [.int v1, .int 1, .int a2]) (b := 57) (st := []) (d' := 1) (mc := 0) (ms := 0) (host := "") 8 rfl t_X8_put ⟨Or.inl q_8_29, i_X8_put.1, i_X8_put.2⟩ ⟨by decide, rfl⟩ (congrArg Prod.fst (J.1.1 57 (8, 4) rfl)) rfl (by decide) rfl rfl ⟨by decide, by decide⟩ (sf_X8_put_r57_c1 (jr_of rfl (by omega)) (jr_of rfl (by omega)) hD J  (fun h J S6 => ?_))
    have Sm := jSm_tr rfl Sm S6
    show jX m_X8_add 2 0 0 42 [(7, .int v1), (0, .ref 57), (1, .int a1), (2, .int a2), (3, .int a3), (4, .int a4), (5, .int a5), (6, .int a6)] [] _ 0 0 _
    refine x_aloadn (x := 57) rfl rfl ?_
    refine x_iload (x := v1) rfl rfl ?_
    refine x_iconst (v := 2) rfl ki_2 ?_
    refine x_iloadn (x := a3) rfl rfl ?_
    refine x_inv (N := m_X8_put) (As := [.int v1, .int 2, .int a3]) (b := 57) (st := []) (d' := 1) (mc := 0) (ms := 0) (host := "") 8 rfl t_X8_put ⟨Or.inl q_8_29, i_X8_put.1, i_X8_put.2⟩ ⟨by decide, rfl⟩ (congrArg Prod.fst (J.1.1 57 (8, 4) rfl)) rfl (by decide) rfl rfl ⟨by decide, by decide⟩ (sf_X8_put_r57_c2 (jr_of rfl (by omega)) (jr_of rfl (by omega)) hD J  (fun h J S7 => ?_))
    have Sm := jSm_tr rfl Sm S7
    show jX m_X8_add 2 0 0 50 [(7, .int v1), (0, .ref 57), (1, .int a1), (2, .int a2), (3, .int a3), (4, .int a4), (5, .int a5), (6, .int a6)] [] _ 0 0 _
    refine x_aloadn (x := 57) rfl rfl ?_
    refine x_iload (x := v1) rfl rfl ?_
    refine x_iconst (v := 3) rfl ki_3 ?_
    refine x_iload (x := a4) rfl rfl ?_
    refine x_inv (N := m_X8_put) (As := [.int v1, .int 3, .int a4]) (b := 57) (st := []) (d' := 1) (mc := 0) (ms := 0) (host := "") 8 rfl t_X8_put ⟨Or.inl q_8_29, i_X8_put.1, i_X8_put.2⟩ ⟨by decide, rfl⟩ (congrArg Prod.fst (J.1.1 57 (8, 4) rfl)) rfl (by decide) rfl rfl ⟨by decide, by decide⟩ (sf_X8_put_r57_c3 (jr_of rfl (by omega)) (jr_of rfl (by omega)) hD J  (fun h J S8 => ?_))
    have Sm := jSm_tr rfl Sm S8
    show jX m_X8_add 2 0 0 59 [(7, .int v1), (0, .ref 57), (1, .int a1), (2, .int a2), (3, .int a3), (4, .int a4), (5, .int a5), (6, .int a6)] [] _ 0 0 _
    refine x_aloadn (x := 57) rfl rfl ?_
    refine x_iload (x := v1) rfl rfl ?_
    refine x_iconst (v := 4) rfl ki_4 ?_
    refine x_iload (x := a5) rfl rfl ?_
    refine x_inv (N := m_X8_put) (As := [.int v1, .int 4, .int a5]) (b := 57) (st := []) (d' := 1) (mc := 0) (ms := 0) (host := "") 8 rfl t_X8_put ⟨Or.inl q_8_29, i_X8_put.1, i_X8_put.2⟩ ⟨by decide, rfl⟩ (congrArg Prod.fst (J.1.1 57 (8, 4) rfl)) rfl (by decide) rfl rfl ⟨by decide, by decide⟩ (sf_X8_put_r57_c4 (jr_of rfl (by omega)) (jr_of rfl (by omega)) hD J  (fun h J S9 => ?_))
    have Sm := jSm_tr rfl Sm S9
    show jX m_X8_add 2 0 0 68 [(7, .int v1), (0, .ref 57), (1, .int a1), (2, .int a2), (3, .int a3), (4, .int a4), (5, .int a5), (6, .int a6)] [] _ 0 0 _
    refine x_aloadn (x := 57) rfl rfl ?_
    refine x_iload (x := v1) rfl rfl ?_
    refine x_iconst (v := 5) rfl ki_5 ?_
    refine x_iload (x := a6) rfl rfl ?_
    refine x_inv (N := m_X8_put) (As := [.int v1, .int 5, .int a6]) (b := 57) (st := []) (d' := 1) (mc := 0) (ms := 0) (host := "") 8 rfl t_X8_put ⟨Or.inl q_8_29, i_X8_put.1, i_X8_put.2⟩ ⟨by decide, rfl⟩ (congrArg Prod.fst (J.1.1 57 (8, 4) rfl)) rfl (by decide) rfl rfl ⟨by decide, by decide⟩ (sf_X8_put_r57_c5 (jr_of rfl (by omega)) (jr_of rfl (by omega)) hD J  (fun h J S10 => ?_))
    have Sm := jSm_tr rfl Sm S10
    show jX m_X8_add 2 0 0 77 [(7, .int v1), (0, .ref 57), (1, .int a1), (2, .int a2), (3, .int a3), (4, .int a4), (5, .int a5), (6, .int a6)] [] _ 0 0 _
    refine x_vret rfl rfl ?_
    exact hQ _ J Sm
  ·
    refine x_vret rfl rfl ?_
    exact hQ _ J Sm
def fp_X8_isFull_r57 : jFp := []
set_option maxRecDepth 100000 in
set_option maxHeartbeats 4000000 in
theorem ct_X8_isFull_r57_200016 {Dy : jH → Prop} {h0 : jH} {Q : Option Value → jH → Prop} (hD : jDk Dy) (hQ : ∀ (v : Int32) h', 0 ≤ v.toInt ∧ v.toInt ≤ 1 → jJ jSgX Dy h' → jSm fp_X8_isFull_r57 h0 h' → Q (some (.int v)) h') : ∀ (h : jH), jJ jSgX Dy h → jSm fp_X8_isFull_r57 h0 h → jX m_X8_isFull 1 0 0 16 [] [.int 0] h 0 0 Q := by
  intro  h    J Sm
  refine x_zret rfl rfl (by decide) ?_
  exact hQ _ _ (jr_of jk_0 (by omega)) J Sm
set_option maxRecDepth 100000 in
set_option maxHeartbeats 4000000 in
theorem ct_X8_isFull_r57_300016 {Dy : jH → Prop} {h0 : jH} {Q : Option Value → jH → Prop} (hD : jDk Dy) (hQ : ∀ (v : Int32) h', 0 ≤ v.toInt ∧ v.toInt ≤ 1 → jJ jSgX Dy h' → jSm fp_X8_isFull_r57 h0 h' → Q (some (.int v)) h') : ∀ (h : jH), jJ jSgX Dy h → jSm fp_X8_isFull_r57 h0 h → jX m_X8_isFull 1 0 0 16 [] [.int 1] h 0 0 Q := by
  intro  h    J Sm
  refine x_zret rfl rfl (by decide) ?_
  exact hQ _ _ (jr_of jk_1 (by omega)) J Sm
set_option maxRecDepth 100000 in
set_option maxHeartbeats 4000000 in
theorem sf_X8_isFull_r57 {Dy : jH → Prop} {h : jH} {Q : Option Value → jH → Prop} (hD : jDk Dy) (J : jJ jSgX Dy h) (hQ : ∀ (v : Int32) h', 0 ≤ v.toInt ∧ v.toInt ≤ 1 → jJ jSgX Dy h' → jSm fp_X8_isFull_r57 h h' → Q (some (.int v)) h') : jC m_X8_isFull 1 0 0 [.ref 57] h Q := by
  refine jC.of rfl k_X8_isFull rfl ?_
  have Sm := jSm_rf fp_X8_isFull_r57 h
  show jX m_X8_isFull 1 0 0 0 [(0, .ref 57)] [] _ 0 0 _
  refine x_aloadn (x := 57) rfl rfl ?_
  refine z_getI (N := 4) 8 3 rfl f_8_7 rfl J rfl sg_57_3_4_1_0_1 (fun v1 qv1 ev1 => ?_)
  refine x_aloadn (x := 57) rfl rfl ?_
  refine z_getC (N := 4) (v := 100) 8 1 rfl f_8_22 rfl J rfl sg_57_1_2_1_0_1 jk_100 ?_
  refine x_iclt (tgt := 15) rfl rfl (ti_lt rfl jk_100 ⟨fun c2 => ?_, fun c2 => ?_⟩)
  ·
    refine x_iconst (v := 0) rfl ki_0 ?_
    exact jX.sub jsb_n (ct_X8_isFull_r57_200016 hD hQ  h J Sm)
  ·
    refine x_iconst (v := 1) rfl ki_1 ?_
    refine x_goto (tgt := 16) rfl rfl ?_
    exact jX.sub jsb_n (ct_X8_isFull_r57_300016 hD hQ  h J Sm)
def fp_X11_entry_r31 : jFp := [(31, 12, 13), (32, 19, 20), (57, 3, 4), (58, 0, 400)]
set_option maxRecDepth 100000 in
set_option maxHeartbeats 4000000 in
theorem ct_X11_entry_r31_35 {Dy : jH → Prop} {h0 : jH} {Q : Option Value → jH → Prop} (hD : jDk Dy) (hQ : ∀ (v : Int32) h', (-366) ≤ v.toInt ∧ v.toInt ≤ 100 → jJ jSgX Dy h' → jSm fp_X11_entry_r31 h0 h' → Q (some (.int v)) h') : ∀ (h : jH), jJ jSgX Dy h → jSm fp_X11_entry_r31 h0 h → jX m_X11_entry 3 0 0 35 [(0, .ref 31)] [] h 0 0 Q := by
  intro  h    J Sm
  refine x_aloadn (x := 31) rfl rfl ?_
  refine x_iconst (v := (-1)) rfl ki_m1 ?_
  refine x_inv (N := m_X11_refuse) (As := [.int (-1)]) (b := 31) (st := []) (d' := 2) (mc := 0) (ms := 0) (host := "") 11 rfl t_X11_refuse ⟨Or.inl q_11_206, i_X11_refuse.1, i_X11_refuse.2⟩ ⟨by decide, rfl⟩ (congrArg Prod.fst (J.1.1 31 (11, 13) rfl)) rfl (by decide) rfl rfl ⟨by decide, by decide⟩ (jC.of rfl k_X11_refuse rfl ?_)
  show jX m_X11_refuse 2 0 0 0 [(0, .ref 31), (1, .int (-1))] [] _ 0 0 _
  refine x_aloadn (x := 31) rfl rfl ?_
  refine x_iloadn (x := (-1)) rfl rfl ?_
  refine z_putI (N := 13) (w := (-1)) 11 12 rfl f_11_94 rfl (jfin_no TX11 RX11 13 rfl rfl) hD J Sm rfl rfl jk_m1 (pw_31_12 (by omega)) rfl (fun h w1 J Sm => ?_)
  refine x_iloadn (x := (-1)) rfl rfl ?_
  refine x_iret rfl rfl ?_
  show jX m_X11_entry 3 0 0 40 [(0, .ref 31)] [.int (-1)] _ 0 0 _
  refine x_iret rfl rfl ?_
  exact hQ _ _ (jr_of jk_m1 (by omega)) J Sm
set_option maxRecDepth 100000 in
set_option maxHeartbeats 4000000 in
theorem sf_X11_entry_r31 {Dy : jH → Prop} {h : jH} {Q : Option Value → jH → Prop} {a1 : Int32} {a2 : Int32} {a3 : Int32} {a4 : Int32} (hD : jDk Dy) (J : jJ jSgX Dy h) (hQ : ∀ (v : Int32) h', (-366) ≤ v.toInt ∧ v.toInt ≤ 100 → jJ jSgX Dy h' → jSm fp_X11_entry_r31 h h' → Q (some (.int v)) h') : jC m_X11_entry 3 0 0 [.ref 31, .int a1, .int a2, .int a3, .int a4] h Q := by
  refine jC.of rfl k_X11_entry rfl ?_
  have Sm := jSm_rf fp_X11_entry_r31 h
  have ea1 := jfull a1
  have ea2 := jfull a2
  have ea3 := jfull a3
  have ea4 := jfull a4
  show jX m_X11_entry 3 0 0 0 [(0, .ref 31), (1, .int a1), (2, .int a2), (3, .int a3), (4, .int a4)] [] _ 0 0 _
  refine x_iloadn (x := a1) rfl rfl ?_
  refine x_inst (N := m_X11_isOffice) (As := [.int a1]) (st := []) (d' := 1) (mc := 0) (ms := 0) (host := "") rfl t_X11_isOffice ⟨Or.inl q_11_456, s_X11_isOffice⟩ rfl (by decide) rfl rfl ⟨by decide, by decide⟩ (zc_X11_isOffice rfl (fun v1 ev1 => ?_))
  show jX m_X11_entry 3 0 0 4 [(0, .ref 31), (1, .int a1), (2, .int a2), (3, .int a3), (4, .int a4)] [.int v1] _ 0 0 _
  refine x_ifeq (tgt := 35) rfl rfl (ti_eq rfl jk_0 ⟨fun c2 => ?_, fun c2 => ?_⟩)
  ·
    exact jX.sub (jsb_c rfl jsb_n) (ct_X11_entry_r31_35 hD hQ  h J Sm)
  ·
    refine x_iloadn (x := a2) rfl rfl ?_
    refine x_inst (N := m_X11_isYear) (As := [.int a2]) (st := []) (d' := 1) (mc := 0) (ms := 0) (host := "") rfl t_X11_isYear ⟨Or.inl q_11_433, s_X11_isYear⟩ rfl (by decide) rfl rfl ⟨by decide, by decide⟩ (zc_X11_isYear rfl (fun v3 ev3 => ?_))
    show jX m_X11_entry 3 0 0 11 [(0, .ref 31), (1, .int a1), (2, .int a2), (3, .int a3), (4, .int a4)] [.int v3] _ 0 0 _
    refine x_ifeq (tgt := 35) rfl rfl (ti_eq rfl jk_0 ⟨fun c4 => ?_, fun c4 => ?_⟩)
    ·
      exact jX.sub (jsb_c rfl jsb_n) (ct_X11_entry_r31_35 hD hQ  h J Sm)
    ·
      refine x_iloadn (x := a3) rfl rfl ?_
      refine x_ldcw (v := (-1000000)) rfl z_11_472 ?_
      refine x_ldcw (v := 1000000) rfl z_11_436 ?_
      refine x_inst (N := m_X11_isWithin) (As := [.int a3, .int (-1000000), .int 1000000]) (st := []) (d' := 1) (mc := 0) (ms := 0) (host := "") rfl t_X11_isWithin ⟨Or.inl q_11_202, s_X11_isWithin⟩ rfl (by decide) rfl rfl ⟨by decide, by decide⟩ (zc_X11_isWithin rfl jk_m1000000 jk_1000000 (fun v5 ev5 => ?_))
      show jX m_X11_entry 3 0 0 24 [(0, .ref 31), (1, .int a1), (2, .int a2), (3, .int a3), (4, .int a4)] [.int v5] _ 0 0 _
      refine x_ifeq (tgt := 35) rfl rfl (ti_eq rfl jk_0 ⟨fun c6 => ?_, fun c6 => ?_⟩)
      ·
        exact jX.sub (jsb_c rfl jsb_n) (ct_X11_entry_r31_35 hD hQ  h J Sm)
      ·
        refine x_iload (x := a4) rfl rfl ?_
        refine x_inst (N := m_X11_isDay) (As := [.int a4]) (st := []) (d' := 1) (mc := 0) (ms := 0) (host := "") rfl t_X11_isDay ⟨Or.inl q_11_115, s_X11_isDay⟩ rfl (by decide) rfl rfl ⟨by decide, by decide⟩ (zc_X11_isDay rfl (fun v7 ev7 => ?_))
        show jX m_X11_entry 3 0 0 32 [(0, .ref 31), (1, .int a1), (2, .int a2), (3, .int a3), (4, .int a4)] [.int v7] _ 0 0 _
        refine x_ifne (tgt := 41) rfl rfl (ti_ne rfl jk_0 ⟨fun c8 => ?_, fun c8 => ?_⟩)
        ·
          refine x_aloadn (x := 31) rfl rfl ?_
          refine z_getR (N := 13) (b := 32) 11 0 rfl f_11_10 rfl J rfl 3968 ⟨rfl, rfl⟩ rfl ?_
          refine z_getR (N := 20) (b := 57) 1 12 rfl f_11_473 rfl J rfl 4108 ⟨rfl, rfl⟩ rfl ?_
          refine x_inv (N := m_X8_isFull) (As := []) (b := 57) (st := []) (d' := 1) (mc := 0) (ms := 0) (host := "") 8 rfl t_X8_isFull ⟨Or.inl q_11_130, i_X8_isFull.1, i_X8_isFull.2⟩ ⟨by decide, rfl⟩ (congrArg Prod.fst (J.1.1 57 (8, 4) rfl)) rfl (by decide) rfl rfl ⟨by decide, by decide⟩ (sf_X8_isFull_r57  hD J  (fun v10 h ev10 J S9 => ?_))
          have Sm := jSm_tr rfl Sm S9
          show jX m_X11_entry 3 0 0 51 [(0, .ref 31), (1, .int a1), (2, .int a2), (3, .int a3), (4, .int a4)] [.int v10] _ 0 0 _
          refine x_ifeq (tgt := 61) rfl rfl (ti_eq rfl jk_0 ⟨fun c11 => ?_, fun c11 => ?_⟩)
          ·
            refine x_aloadn (x := 31) rfl rfl ?_
            refine z_getR (N := 13) (b := 32) 11 0 rfl f_11_10 rfl J rfl 3968 ⟨rfl, rfl⟩ rfl ?_
            refine z_getR (N := 20) (b := 57) 1 12 rfl f_11_473 rfl J rfl 4108 ⟨rfl, rfl⟩ rfl ?_
            refine x_iload (x := a4) rfl rfl ?_
            refine x_iloadn (x := a2) rfl rfl ?_
            refine x_iloadn (x := a1) rfl rfl ?_
            refine x_iloadn (x := a3) rfl rfl ?_
            refine x_iconst (v := 0) rfl ki_0 ?_
            refine x_iconst (v := 0) rfl ki_0 ?_
            refine x_inv (N := m_X8_add) (As := [.int a4, .int a2, .int a1, .int a3, .int 0, .int 0]) (b := 57) (st := []) (d' := 2) (mc := 0) (ms := 0) (host := "") 8 rfl t_X8_add ⟨Or.inl q_11_145, i_X8_add.1, i_X8_add.2⟩ ⟨by decide, rfl⟩ (congrArg Prod.fst (J.1.1 57 (8, 4) rfl)) rfl (by decide) rfl rfl ⟨by decide, by decide⟩ (sf_X8_add_r57 (jr_of rfl (by omega)) (jr_of rfl (by omega)) (jr_of rfl (by omega)) (jr_of rfl (by omega)) (jr_of jk_0 (by omega)) (jr_of jk_0 (by omega)) hD J  (fun h J S12 => ?_))
            have Sm := jSm_tr rfl Sm S12
            show jX m_X11_entry 3 0 0 78 [(0, .ref 31), (1, .int a1), (2, .int a2), (3, .int a3), (4, .int a4)] [] _ 0 0 _
            refine x_aloadn (x := 31) rfl rfl ?_
            refine x_aloadn (x := 31) rfl rfl ?_
            refine z_getR (N := 13) (b := 32) 11 0 rfl f_11_10 rfl J rfl 3968 ⟨rfl, rfl⟩ rfl ?_
            refine z_getR (N := 20) (b := 57) 1 12 rfl f_11_473 rfl J rfl 4108 ⟨rfl, rfl⟩ rfl ?_
            refine z_getI (N := 4) 8 3 rfl f_11_142 rfl J rfl sg_57_3_4_1_0_1 (fun v13 qv13 ev13 => ?_)
            refine x_inv (N := m_X11_accept) (As := [.int v13]) (b := 31) (st := []) (d' := 2) (mc := 0) (ms := 0) (host := "") 11 rfl t_X11_accept ⟨Or.inl q_11_165, i_X11_accept.1, i_X11_accept.2⟩ ⟨by decide, rfl⟩ (congrArg Prod.fst (J.1.1 31 (11, 13) rfl)) rfl (by decide) rfl rfl ⟨by decide, by decide⟩ (jC.of rfl k_X11_accept rfl ?_)
            show jX m_X11_accept 2 0 0 0 [(0, .ref 31), (1, .int v13)] [] _ 0 0 _
            refine x_aloadn (x := 31) rfl rfl ?_
            refine x_iconst (v := 0) rfl ki_0 ?_
            refine z_putI (N := 13) (w := 0) 11 12 rfl f_11_94 rfl (jfin_no TX11 RX11 13 rfl rfl) hD J Sm rfl rfl jk_0 (pw_31_12 (by omega)) rfl (fun h w14 J Sm => ?_)
            refine x_aloadn (x := 31) rfl rfl ?_
            refine z_getR (N := 13) (b := 32) 11 0 rfl f_11_10 rfl J rfl 3968 ⟨rfl, rfl⟩ rfl ?_
            refine x_dup rfl rfl ?_
            refine z_getI0 (N := 20) 1 19 rfl f_11_528 rfl J rfl (fun v15 qv15 => ?_)
            have ev15 := jfull v15
            refine x_iconst (v := 1) rfl ki_1 ?_
            refine z_iadd0 rfl (fun v16 => ?_)
            have ev16 := jfull v16
            refine z_putI (N := 20) (w := v16.toInt) 1 19 rfl f_11_528 rfl (jfin_no TX1 RX1 20 rfl rfl) hD J Sm rfl rfl rfl (pw_32_19 trivial) rfl (fun h w17 J Sm => ?_)
            refine x_iloadn (x := v13) rfl rfl ?_
            refine x_iret rfl rfl ?_
            show jX m_X11_entry 3 0 0 92 [(0, .ref 31), (1, .int a1), (2, .int a2), (3, .int a3), (4, .int a4)] [.int v13] _ 0 0 _
            refine x_iret rfl rfl ?_
            exact hQ _ _ (jr_of rfl (by omega)) J Sm
          ·
            refine x_aloadn (x := 31) rfl rfl ?_
            refine x_bipush (v := (-5)) rfl kb_m5 ?_
            refine x_inv (N := m_X11_refuse) (As := [.int (-5)]) (b := 31) (st := []) (d' := 2) (mc := 0) (ms := 0) (host := "") 11 rfl t_X11_refuse ⟨Or.inl q_11_206, i_X11_refuse.1, i_X11_refuse.2⟩ ⟨by decide, rfl⟩ (congrArg Prod.fst (J.1.1 31 (11, 13) rfl)) rfl (by decide) rfl rfl ⟨by decide, by decide⟩ (jC.of rfl k_X11_refuse rfl ?_)
            show jX m_X11_refuse 2 0 0 0 [(0, .ref 31), (1, .int (-5))] [] _ 0 0 _
            refine x_aloadn (x := 31) rfl rfl ?_
            refine x_iloadn (x := (-5)) rfl rfl ?_
            refine z_putI (N := 13) (w := (-5)) 11 12 rfl f_11_94 rfl (jfin_no TX11 RX11 13 rfl rfl) hD J Sm rfl rfl jk_m5 (pw_31_12 (by omega)) rfl (fun h w18 J Sm => ?_)
            refine x_iloadn (x := (-5)) rfl rfl ?_
            refine x_iret rfl rfl ?_
            show jX m_X11_entry 3 0 0 60 [(0, .ref 31), (1, .int a1), (2, .int a2), (3, .int a3), (4, .int a4)] [.int (-5)] _ 0 0 _
            refine x_iret rfl rfl ?_
            exact hQ _ _ (jr_of jk_m5 (by omega)) J Sm
        ·
          exact jX.sub (jsb_c rfl jsb_n) (ct_X11_entry_r31_35 hD hQ  h J Sm)
def fp_X8_put_r43_c0 : jFp := [(44, 0, 600)]
set_option maxRecDepth 100000 in
set_option maxHeartbeats 4000000 in
theorem ct_X8_put_r43_c0_38 {Dy : jH → Prop} {h0 : jH} {Q : Option Value → jH → Prop} (hD : jDk Dy) (hQ : ∀ h', jJ jSgX Dy h' → jSm fp_X8_put_r43_c0 h0 h' → Q none h') : ∀ (h : jH), jJ jSgX Dy h → jSm fp_X8_put_r43_c0 h0 h → jX m_X8_put 1 0 0 38 [] [] h 0 0 Q := by
  intro  h    J Sm
  refine x_vret rfl rfl ?_
  exact hQ _ J Sm
set_option maxRecDepth 100000 in
set_option maxHeartbeats 4000000 in
theorem sf_X8_put_r43_c0 {Dy : jH → Prop} {h : jH} {Q : Option Value → jH → Prop} {a1 : Int32} {a3 : Int32} (y1 : 0 ≤ a1.toInt ∧ a1.toInt ≤ 99) (y3 : 0 ≤ a3.toInt ∧ a3.toInt ≤ 146399) (hD : jDk Dy) (J : jJ jSgX Dy h) (hQ : ∀ h', jJ jSgX Dy h' → jSm fp_X8_put_r43_c0 h h' → Q none h') : jC m_X8_put 1 0 0 [.ref 43, .int a1, .int 0, .int a3] h Q := by
  refine jC.of rfl k_X8_put rfl ?_
  have Sm := jSm_rf fp_X8_put_r43_c0 h
  show jX m_X8_put 1 0 0 0 [(0, .ref 43), (1, .int a1), (2, .int 0), (3, .int a3)] [] _ 0 0 _
  refine x_iloadn (x := a1) rfl rfl ?_
  refine x_iflt (tgt := 38) rfl rfl (ti_lt rfl jk_0 (br_f (by omega) ?_))
  refine x_iloadn (x := a1) rfl rfl ?_
  refine x_aloadn (x := 43) rfl rfl ?_
  refine z_getI (N := 4) 8 3 rfl f_8_7 rfl J rfl sg_43_3_4_1_0_1 (fun v1 qv1 ev1 => ?_)
  refine x_icge (tgt := 38) rfl rfl (ti_ge rfl rfl ⟨fun c2 => ?_, fun c2 => ?_⟩)
  ·
    exact jX.sub jsb_n (ct_X8_put_r43_c0_38 hD hQ  h J Sm)
  ·
    refine x_iloadn (x := 0) rfl rfl ?_
    refine x_iflt (tgt := 38) rfl rfl (ti_lt jk_0 jk_0 (br_f (by omega) ?_))
    refine x_iloadn (x := 0) rfl rfl ?_
    refine x_aloadn (x := 43) rfl rfl ?_
    refine z_getC (N := 4) (v := 6) 8 0 rfl f_8_19 rfl J rfl sg_43_0_1_1_0_1 jk_6 ?_
    refine x_icge (tgt := 38) rfl rfl (ti_ge jk_0 jk_6 (br_f (by omega) ?_))
    refine x_aloadn (x := 43) rfl rfl ?_
    refine z_getR (N := 4) (b := 44) 8 2 rfl f_8_25 rfl J rfl 5506 ⟨rfl, rfl⟩ rfl ?_
    refine x_iloadn (x := a1) rfl rfl ?_
    refine x_aloadn (x := 43) rfl rfl ?_
    refine z_getC (N := 4) (v := 6) 8 0 rfl f_8_19 rfl J rfl sg_43_0_1_1_0_1 jk_6 ?_
    refine z_imul rfl rfl jk_6 (by omega) (fun v3 ev3 => ?_)
    refine x_iloadn (x := 0) rfl rfl ?_
    refine z_iadd rfl rfl jk_0 (by omega) (fun v4 ev4 => ?_)
    refine x_iloadn (x := a3) rfl rfl ?_
    refine z_iast (N := 600) (l := 0) (u := 600) (w := a3.toInt) rfl hD J Sm rfl rfl rfl (by omega) rfl (wr_44 (fun q1 q2 q3 q4 => by omega) (fun q1 q2 q3 q4 => by omega) (fun q1 q2 q3 q4 => by omega) (fun q1 q2 q3 q4 => by omega) (fun q1 q2 q3 q4 => by omega) (fun q1 q2 q3 q4 => by omega)) rfl (fun h w5 J Sm => ?_)
    exact jX.sub jsb_n (ct_X8_put_r43_c0_38 hD hQ  h J Sm)
def fp_X8_put_r43_c1 : jFp := [(44, 0, 600)]
set_option maxRecDepth 100000 in
set_option maxHeartbeats 4000000 in
theorem ct_X8_put_r43_c1_38 {Dy : jH → Prop} {h0 : jH} {Q : Option Value → jH → Prop} (hD : jDk Dy) (hQ : ∀ h', jJ jSgX Dy h' → jSm fp_X8_put_r43_c1 h0 h' → Q none h') : ∀ (h : jH), jJ jSgX Dy h → jSm fp_X8_put_r43_c1 h0 h → jX m_X8_put 1 0 0 38 [] [] h 0 0 Q := by
  intro  h    J Sm
  refine x_vret rfl rfl ?_
  exact hQ _ J Sm
set_option maxRecDepth 100000 in
set_option maxHeartbeats 4000000 in
theorem sf_X8_put_r43_c1 {Dy : jH → Prop} {h : jH} {Q : Option Value → jH → Prop} {a1 : Int32} {a3 : Int32} (y1 : 0 ≤ a1.toInt ∧ a1.toInt ≤ 99) (y3 : 0 ≤ a3.toInt ∧ a3.toInt ≤ 146399) (hD : jDk Dy) (J : jJ jSgX Dy h) (hQ : ∀ h', jJ jSgX Dy h' → jSm fp_X8_put_r43_c1 h h' → Q none h') : jC m_X8_put 1 0 0 [.ref 43, .int a1, .int 1, .int a3] h Q := by
  refine jC.of rfl k_X8_put rfl ?_
  have Sm := jSm_rf fp_X8_put_r43_c1 h
  show jX m_X8_put 1 0 0 0 [(0, .ref 43), (1, .int a1), (2, .int 1), (3, .int a3)] [] _ 0 0 _
  refine x_iloadn (x := a1) rfl rfl ?_
  refine x_iflt (tgt := 38) rfl rfl (ti_lt rfl jk_0 (br_f (by omega) ?_))
  refine x_iloadn (x := a1) rfl rfl ?_
  refine x_aloadn (x := 43) rfl rfl ?_
  refine z_getI (N := 4) 8 3 rfl f_8_7 rfl J rfl sg_43_3_4_1_0_1 (fun v1 qv1 ev1 => ?_)
  refine x_icge (tgt := 38) rfl rfl (ti_ge rfl rfl ⟨fun c2 => ?_, fun c2 => ?_⟩)
  ·
    exact jX.sub jsb_n (ct_X8_put_r43_c1_38 hD hQ  h J Sm)
  ·
    refine x_iloadn (x := 1) rfl rfl ?_
    refine x_iflt (tgt := 38) rfl rfl (ti_lt jk_1 jk_0 (br_f (by omega) ?_))
    refine x_iloadn (x := 1) rfl rfl ?_
    refine x_aloadn (x := 43) rfl rfl ?_
    refine z_getC (N := 4) (v := 6) 8 0 rfl f_8_19 rfl J rfl sg_43_0_1_1_0_1 jk_6 ?_
    refine x_icge (tgt := 38) rfl rfl (ti_ge jk_1 jk_6 (br_f (by omega) ?_))
    refine x_aloadn (x := 43) rfl rfl ?_
    refine z_getR (N := 4) (b := 44) 8 2 rfl f_8_25 rfl J rfl 5506 ⟨rfl, rfl⟩ rfl ?_
    refine x_iloadn (x := a1) rfl rfl ?_
    refine x_aloadn (x := 43) rfl rfl ?_
    refine z_getC (N := 4) (v := 6) 8 0 rfl f_8_19 rfl J rfl sg_43_0_1_1_0_1 jk_6 ?_
    refine z_imul rfl rfl jk_6 (by omega) (fun v3 ev3 => ?_)
    refine x_iloadn (x := 1) rfl rfl ?_
    refine z_iadd rfl rfl jk_1 (by omega) (fun v4 ev4 => ?_)
    refine x_iloadn (x := a3) rfl rfl ?_
    refine z_iast (N := 600) (l := 0) (u := 600) (w := a3.toInt) rfl hD J Sm rfl rfl rfl (by omega) rfl (wr_44 (fun q1 q2 q3 q4 => by omega) (fun q1 q2 q3 q4 => by omega) (fun q1 q2 q3 q4 => by omega) (fun q1 q2 q3 q4 => by omega) (fun q1 q2 q3 q4 => by omega) (fun q1 q2 q3 q4 => by omega)) rfl (fun h w5 J Sm => ?_)
    exact jX.sub jsb_n (ct_X8_put_r43_c1_38 hD hQ  h J Sm)
def fp_X8_put_r43_c2 : jFp := [(44, 0, 600)]
set_option maxRecDepth 100000 in
set_option maxHeartbeats 4000000 in
theorem ct_X8_put_r43_c2_38 {Dy : jH → Prop} {h0 : jH} {Q : Option Value → jH → Prop} (hD : jDk Dy) (hQ : ∀ h', jJ jSgX Dy h' → jSm fp_X8_put_r43_c2 h0 h' → Q none h') : ∀ (h : jH), jJ jSgX Dy h → jSm fp_X8_put_r43_c2 h0 h → jX m_X8_put 1 0 0 38 [] [] h 0 0 Q := by
  intro  h    J Sm
  refine x_vret rfl rfl ?_
  exact hQ _ J Sm
set_option maxRecDepth 100000 in
set_option maxHeartbeats 4000000 in
theorem sf_X8_put_r43_c2 {Dy : jH → Prop} {h : jH} {Q : Option Value → jH → Prop} {a1 : Int32} {a3 : Int32} (y1 : 0 ≤ a1.toInt ∧ a1.toInt ≤ 99) (y3 : 0 ≤ a3.toInt ∧ a3.toInt ≤ 146399) (hD : jDk Dy) (J : jJ jSgX Dy h) (hQ : ∀ h', jJ jSgX Dy h' → jSm fp_X8_put_r43_c2 h h' → Q none h') : jC m_X8_put 1 0 0 [.ref 43, .int a1, .int 2, .int a3] h Q := by
  refine jC.of rfl k_X8_put rfl ?_
  have Sm := jSm_rf fp_X8_put_r43_c2 h
  show jX m_X8_put 1 0 0 0 [(0, .ref 43), (1, .int a1), (2, .int 2), (3, .int a3)] [] _ 0 0 _
  refine x_iloadn (x := a1) rfl rfl ?_
  refine x_iflt (tgt := 38) rfl rfl (ti_lt rfl jk_0 (br_f (by omega) ?_))
  refine x_iloadn (x := a1) rfl rfl ?_
  refine x_aloadn (x := 43) rfl rfl ?_
  refine z_getI (N := 4) 8 3 rfl f_8_7 rfl J rfl sg_43_3_4_1_0_1 (fun v1 qv1 ev1 => ?_)
  refine x_icge (tgt := 38) rfl rfl (ti_ge rfl rfl ⟨fun c2 => ?_, fun c2 => ?_⟩)
  ·
    exact jX.sub jsb_n (ct_X8_put_r43_c2_38 hD hQ  h J Sm)
  ·
    refine x_iloadn (x := 2) rfl rfl ?_
    refine x_iflt (tgt := 38) rfl rfl (ti_lt jk_2 jk_0 (br_f (by omega) ?_))
    refine x_iloadn (x := 2) rfl rfl ?_
    refine x_aloadn (x := 43) rfl rfl ?_
    refine z_getC (N := 4) (v := 6) 8 0 rfl f_8_19 rfl J rfl sg_43_0_1_1_0_1 jk_6 ?_
    refine x_icge (tgt := 38) rfl rfl (ti_ge jk_2 jk_6 (br_f (by omega) ?_))
    refine x_aloadn (x := 43) rfl rfl ?_
    refine z_getR (N := 4) (b := 44) 8 2 rfl f_8_25 rfl J rfl 5506 ⟨rfl, rfl⟩ rfl ?_
    refine x_iloadn (x := a1) rfl rfl ?_
    refine x_aloadn (x := 43) rfl rfl ?_
    refine z_getC (N := 4) (v := 6) 8 0 rfl f_8_19 rfl J rfl sg_43_0_1_1_0_1 jk_6 ?_
    refine z_imul rfl rfl jk_6 (by omega) (fun v3 ev3 => ?_)
    refine x_iloadn (x := 2) rfl rfl ?_
    refine z_iadd rfl rfl jk_2 (by omega) (fun v4 ev4 => ?_)
    refine x_iloadn (x := a3) rfl rfl ?_
    refine z_iast (N := 600) (l := 0) (u := 600) (w := a3.toInt) rfl hD J Sm rfl rfl rfl (by omega) rfl (wr_44 (fun q1 q2 q3 q4 => by omega) (fun q1 q2 q3 q4 => by omega) (fun q1 q2 q3 q4 => by omega) (fun q1 q2 q3 q4 => by omega) (fun q1 q2 q3 q4 => by omega) (fun q1 q2 q3 q4 => by omega)) rfl (fun h w5 J Sm => ?_)
    exact jX.sub jsb_n (ct_X8_put_r43_c2_38 hD hQ  h J Sm)
def fp_X8_put_r43_c3 : jFp := [(44, 0, 600)]
set_option maxRecDepth 100000 in
set_option maxHeartbeats 4000000 in
theorem ct_X8_put_r43_c3_38 {Dy : jH → Prop} {h0 : jH} {Q : Option Value → jH → Prop} (hD : jDk Dy) (hQ : ∀ h', jJ jSgX Dy h' → jSm fp_X8_put_r43_c3 h0 h' → Q none h') : ∀ (h : jH), jJ jSgX Dy h → jSm fp_X8_put_r43_c3 h0 h → jX m_X8_put 1 0 0 38 [] [] h 0 0 Q := by
  intro  h    J Sm
  refine x_vret rfl rfl ?_
  exact hQ _ J Sm
set_option maxRecDepth 100000 in
set_option maxHeartbeats 4000000 in
theorem sf_X8_put_r43_c3 {Dy : jH → Prop} {h : jH} {Q : Option Value → jH → Prop} {a1 : Int32} {a3 : Int32} (y1 : 0 ≤ a1.toInt ∧ a1.toInt ≤ 99) (y3 : 0 ≤ a3.toInt ∧ a3.toInt ≤ 599) (hD : jDk Dy) (J : jJ jSgX Dy h) (hQ : ∀ h', jJ jSgX Dy h' → jSm fp_X8_put_r43_c3 h h' → Q none h') : jC m_X8_put 1 0 0 [.ref 43, .int a1, .int 3, .int a3] h Q := by
  refine jC.of rfl k_X8_put rfl ?_
  have Sm := jSm_rf fp_X8_put_r43_c3 h
  show jX m_X8_put 1 0 0 0 [(0, .ref 43), (1, .int a1), (2, .int 3), (3, .int a3)] [] _ 0 0 _
  refine x_iloadn (x := a1) rfl rfl ?_
  refine x_iflt (tgt := 38) rfl rfl (ti_lt rfl jk_0 (br_f (by omega) ?_))
  refine x_iloadn (x := a1) rfl rfl ?_
  refine x_aloadn (x := 43) rfl rfl ?_
  refine z_getI (N := 4) 8 3 rfl f_8_7 rfl J rfl sg_43_3_4_1_0_1 (fun v1 qv1 ev1 => ?_)
  refine x_icge (tgt := 38) rfl rfl (ti_ge rfl rfl ⟨fun c2 => ?_, fun c2 => ?_⟩)
  ·
    exact jX.sub jsb_n (ct_X8_put_r43_c3_38 hD hQ  h J Sm)
  ·
    refine x_iloadn (x := 3) rfl rfl ?_
    refine x_iflt (tgt := 38) rfl rfl (ti_lt jk_3 jk_0 (br_f (by omega) ?_))
    refine x_iloadn (x := 3) rfl rfl ?_
    refine x_aloadn (x := 43) rfl rfl ?_
    refine z_getC (N := 4) (v := 6) 8 0 rfl f_8_19 rfl J rfl sg_43_0_1_1_0_1 jk_6 ?_
    refine x_icge (tgt := 38) rfl rfl (ti_ge jk_3 jk_6 (br_f (by omega) ?_))
    refine x_aloadn (x := 43) rfl rfl ?_
    refine z_getR (N := 4) (b := 44) 8 2 rfl f_8_25 rfl J rfl 5506 ⟨rfl, rfl⟩ rfl ?_
    refine x_iloadn (x := a1) rfl rfl ?_
    refine x_aloadn (x := 43) rfl rfl ?_
    refine z_getC (N := 4) (v := 6) 8 0 rfl f_8_19 rfl J rfl sg_43_0_1_1_0_1 jk_6 ?_
    refine z_imul rfl rfl jk_6 (by omega) (fun v3 ev3 => ?_)
    refine x_iloadn (x := 3) rfl rfl ?_
    refine z_iadd rfl rfl jk_3 (by omega) (fun v4 ev4 => ?_)
    refine x_iloadn (x := a3) rfl rfl ?_
    refine z_iast (N := 600) (l := 0) (u := 600) (w := a3.toInt) rfl hD J Sm rfl rfl rfl (by omega) rfl (wr_44 (fun q1 q2 q3 q4 => by omega) (fun q1 q2 q3 q4 => by omega) (fun q1 q2 q3 q4 => by omega) (fun q1 q2 q3 q4 => by omega) (fun q1 q2 q3 q4 => by omega) (fun q1 q2 q3 q4 => by omega)) rfl (fun h w5 J Sm => ?_)
    exact jX.sub jsb_n (ct_X8_put_r43_c3_38 hD hQ  h J Sm)
def fp_X8_put_r43_c4 : jFp := [(44, 0, 600)]
set_option maxRecDepth 100000 in
set_option maxHeartbeats 4000000 in
theorem ct_X8_put_r43_c4_38 {Dy : jH → Prop} {h0 : jH} {Q : Option Value → jH → Prop} (hD : jDk Dy) (hQ : ∀ h', jJ jSgX Dy h' → jSm fp_X8_put_r43_c4 h0 h' → Q none h') : ∀ (h : jH), jJ jSgX Dy h → jSm fp_X8_put_r43_c4 h0 h → jX m_X8_put 1 0 0 38 [] [] h 0 0 Q := by
  intro  h    J Sm
  refine x_vret rfl rfl ?_
  exact hQ _ J Sm
set_option maxRecDepth 100000 in
set_option maxHeartbeats 4000000 in
theorem sf_X8_put_r43_c4 {Dy : jH → Prop} {h : jH} {Q : Option Value → jH → Prop} {a1 : Int32} {a3 : Int32} (y1 : 0 ≤ a1.toInt ∧ a1.toInt ≤ 99) (y3 : 0 ≤ a3.toInt ∧ a3.toInt ≤ 4) (hD : jDk Dy) (J : jJ jSgX Dy h) (hQ : ∀ h', jJ jSgX Dy h' → jSm fp_X8_put_r43_c4 h h' → Q none h') : jC m_X8_put 1 0 0 [.ref 43, .int a1, .int 4, .int a3] h Q := by
  refine jC.of rfl k_X8_put rfl ?_
  have Sm := jSm_rf fp_X8_put_r43_c4 h
  show jX m_X8_put 1 0 0 0 [(0, .ref 43), (1, .int a1), (2, .int 4), (3, .int a3)] [] _ 0 0 _
  refine x_iloadn (x := a1) rfl rfl ?_
  refine x_iflt (tgt := 38) rfl rfl (ti_lt rfl jk_0 (br_f (by omega) ?_))
  refine x_iloadn (x := a1) rfl rfl ?_
  refine x_aloadn (x := 43) rfl rfl ?_
  refine z_getI (N := 4) 8 3 rfl f_8_7 rfl J rfl sg_43_3_4_1_0_1 (fun v1 qv1 ev1 => ?_)
  refine x_icge (tgt := 38) rfl rfl (ti_ge rfl rfl ⟨fun c2 => ?_, fun c2 => ?_⟩)
  ·
    exact jX.sub jsb_n (ct_X8_put_r43_c4_38 hD hQ  h J Sm)
  ·
    refine x_iloadn (x := 4) rfl rfl ?_
    refine x_iflt (tgt := 38) rfl rfl (ti_lt jk_4 jk_0 (br_f (by omega) ?_))
    refine x_iloadn (x := 4) rfl rfl ?_
    refine x_aloadn (x := 43) rfl rfl ?_
    refine z_getC (N := 4) (v := 6) 8 0 rfl f_8_19 rfl J rfl sg_43_0_1_1_0_1 jk_6 ?_
    refine x_icge (tgt := 38) rfl rfl (ti_ge jk_4 jk_6 (br_f (by omega) ?_))
    refine x_aloadn (x := 43) rfl rfl ?_
    refine z_getR (N := 4) (b := 44) 8 2 rfl f_8_25 rfl J rfl 5506 ⟨rfl, rfl⟩ rfl ?_
    refine x_iloadn (x := a1) rfl rfl ?_
    refine x_aloadn (x := 43) rfl rfl ?_
    refine z_getC (N := 4) (v := 6) 8 0 rfl f_8_19 rfl J rfl sg_43_0_1_1_0_1 jk_6 ?_
    refine z_imul rfl rfl jk_6 (by omega) (fun v3 ev3 => ?_)
    refine x_iloadn (x := 4) rfl rfl ?_
    refine z_iadd rfl rfl jk_4 (by omega) (fun v4 ev4 => ?_)
    refine x_iloadn (x := a3) rfl rfl ?_
    refine z_iast (N := 600) (l := 0) (u := 600) (w := a3.toInt) rfl hD J Sm rfl rfl rfl (by omega) rfl (wr_44 (fun q1 q2 q3 q4 => by omega) (fun q1 q2 q3 q4 => by omega) (fun q1 q2 q3 q4 => by omega) (fun q1 q2 q3 q4 => by omega) (fun q1 q2 q3 q4 => by omega) (fun q1 q2 q3 q4 => by omega)) rfl (fun h w5 J Sm => ?_)
    exact jX.sub jsb_n (ct_X8_put_r43_c4_38 hD hQ  h J Sm)
def fp_X8_put_r43_c5 : jFp := [(44, 0, 600)]
set_option maxRecDepth 100000 in
set_option maxHeartbeats 4000000 in
theorem ct_X8_put_r43_c5_38 {Dy : jH → Prop} {h0 : jH} {Q : Option Value → jH → Prop} (hD : jDk Dy) (hQ : ∀ h', jJ jSgX Dy h' → jSm fp_X8_put_r43_c5 h0 h' → Q none h') : ∀ (h : jH), jJ jSgX Dy h → jSm fp_X8_put_r43_c5 h0 h → jX m_X8_put 1 0 0 38 [] [] h 0 0 Q := by
  intro  h    J Sm
  refine x_vret rfl rfl ?_
  exact hQ _ J Sm
set_option maxRecDepth 100000 in
set_option maxHeartbeats 4000000 in
theorem sf_X8_put_r43_c5 {Dy : jH → Prop} {h : jH} {Q : Option Value → jH → Prop} {a1 : Int32} {a3 : Int32} (y1 : 0 ≤ a1.toInt ∧ a1.toInt ≤ 99) (y3 : 0 ≤ a3.toInt ∧ a3.toInt ≤ 11) (hD : jDk Dy) (J : jJ jSgX Dy h) (hQ : ∀ h', jJ jSgX Dy h' → jSm fp_X8_put_r43_c5 h h' → Q none h') : jC m_X8_put 1 0 0 [.ref 43, .int a1, .int 5, .int a3] h Q := by
  refine jC.of rfl k_X8_put rfl ?_
  have Sm := jSm_rf fp_X8_put_r43_c5 h
  show jX m_X8_put 1 0 0 0 [(0, .ref 43), (1, .int a1), (2, .int 5), (3, .int a3)] [] _ 0 0 _
  refine x_iloadn (x := a1) rfl rfl ?_
  refine x_iflt (tgt := 38) rfl rfl (ti_lt rfl jk_0 (br_f (by omega) ?_))
  refine x_iloadn (x := a1) rfl rfl ?_
  refine x_aloadn (x := 43) rfl rfl ?_
  refine z_getI (N := 4) 8 3 rfl f_8_7 rfl J rfl sg_43_3_4_1_0_1 (fun v1 qv1 ev1 => ?_)
  refine x_icge (tgt := 38) rfl rfl (ti_ge rfl rfl ⟨fun c2 => ?_, fun c2 => ?_⟩)
  ·
    exact jX.sub jsb_n (ct_X8_put_r43_c5_38 hD hQ  h J Sm)
  ·
    refine x_iloadn (x := 5) rfl rfl ?_
    refine x_iflt (tgt := 38) rfl rfl (ti_lt jk_5 jk_0 (br_f (by omega) ?_))
    refine x_iloadn (x := 5) rfl rfl ?_
    refine x_aloadn (x := 43) rfl rfl ?_
    refine z_getC (N := 4) (v := 6) 8 0 rfl f_8_19 rfl J rfl sg_43_0_1_1_0_1 jk_6 ?_
    refine x_icge (tgt := 38) rfl rfl (ti_ge jk_5 jk_6 (br_f (by omega) ?_))
    refine x_aloadn (x := 43) rfl rfl ?_
    refine z_getR (N := 4) (b := 44) 8 2 rfl f_8_25 rfl J rfl 5506 ⟨rfl, rfl⟩ rfl ?_
    refine x_iloadn (x := a1) rfl rfl ?_
    refine x_aloadn (x := 43) rfl rfl ?_
    refine z_getC (N := 4) (v := 6) 8 0 rfl f_8_19 rfl J rfl sg_43_0_1_1_0_1 jk_6 ?_
    refine z_imul rfl rfl jk_6 (by omega) (fun v3 ev3 => ?_)
    refine x_iloadn (x := 5) rfl rfl ?_
    refine z_iadd rfl rfl jk_5 (by omega) (fun v4 ev4 => ?_)
    refine x_iloadn (x := a3) rfl rfl ?_
    refine z_iast (N := 600) (l := 0) (u := 600) (w := a3.toInt) rfl hD J Sm rfl rfl rfl (by omega) rfl (wr_44 (fun q1 q2 q3 q4 => by omega) (fun q1 q2 q3 q4 => by omega) (fun q1 q2 q3 q4 => by omega) (fun q1 q2 q3 q4 => by omega) (fun q1 q2 q3 q4 => by omega) (fun q1 q2 q3 q4 => by omega)) rfl (fun h w5 J Sm => ?_)
    exact jX.sub jsb_n (ct_X8_put_r43_c5_38 hD hQ  h J Sm)
def fp_X8_add_r43 : jFp := [(43, 3, 4), (44, 0, 600)]
set_option maxRecDepth 100000 in
set_option maxHeartbeats 4000000 in
theorem sf_X8_add_r43 {Dy : jH → Prop} {h : jH} {Q : Option Value → jH → Prop} {a1 : Int32} {a2 : Int32} {a3 : Int32} {a4 : Int32} {a5 : Int32} {a6 : Int32} (y1 : 0 ≤ a1.toInt ∧ a1.toInt ≤ 146399) (y2 : 0 ≤ a2.toInt ∧ a2.toInt ≤ 146399) (y3 : 0 ≤ a3.toInt ∧ a3.toInt ≤ 146399) (y4 : 0 ≤ a4.toInt ∧ a4.toInt ≤ 599) (y5 : 0 ≤ a5.toInt ∧ a5.toInt ≤ 4) (y6 : 0 ≤ a6.toInt ∧ a6.toInt ≤ 11) (hD : jDk Dy) (J : jJ jSgX Dy h) (hQ : ∀ h', jJ jSgX Dy h' → jSm fp_X8_add_r43 h h' → Q none h') : jC m_X8_add 2 0 0 [.ref 43, .int a1, .int a2, .int a3, .int a4, .int a5, .int a6] h Q := by
  refine jC.of rfl k_X8_add rfl ?_
  have Sm := jSm_rf fp_X8_add_r43 h
  show jX m_X8_add 2 0 0 0 [(0, .ref 43), (1, .int a1), (2, .int a2), (3, .int a3), (4, .int a4), (5, .int a5), (6, .int a6)] [] _ 0 0 _
  refine x_aloadn (x := 43) rfl rfl ?_
  refine z_getI (N := 4) 8 3 rfl f_8_7 rfl J rfl sg_43_3_4_1_0_1 (fun v1 qv1 ev1 => ?_)
  refine x_aloadn (x := 43) rfl rfl ?_
  refine z_getC (N := 4) (v := 100) 8 1 rfl f_8_22 rfl J rfl sg_43_1_2_1_0_1 jk_100 ?_
  refine x_iclt (tgt := 12) rfl rfl (ti_lt rfl jk_100 ⟨fun c2 => ?_, fun c2 => ?_⟩)
  ·
    refine x_aloadn (x := 43) rfl rfl ?_
    refine z_getM (N := 4) (v := v1) 8 3 rfl f_8_7 rfl J rfl qv1 ?_
    refine x_istore (ls' := [(7, .int v1), (0, .ref 43), (1, .int a1), (2, .int a2), (3, .int a3), (4, .int a4), (5, .int a5), (6, .int a6)]) rfl rfl rfl ?_
    refine x_aloadn (x := 43) rfl rfl ?_
    refine x_iload (x := v1) rfl rfl ?_
    refine x_iconst (v := 1) rfl ki_1 ?_
    refine z_iadd rfl rfl jk_1 (by omega) (fun v3 ev3 => ?_)
    refine z_putI (N := 4) (w := v3.toInt) 8 3 rfl f_8_7 rfl (jfin_no TX8 RX8 4 rfl rfl) hD J Sm rfl rfl rfl (pw_43_3 (by omega)) rfl (fun h w4 J Sm => ?_)
    refine x_aloadn (x := 43) rfl rfl ?_
    refine x_iload (x := v1) rfl rfl ?_
    refine x_iconst (v := 0) rfl ki_0 ?_
    refine x_iloadn (x := a1) rfl rfl ?_
    refine x_inv (N := m_X8_put) (As := [.int v1, .int 0, .int a1]) (b := 43) (st := []) (d' := 1) (mc := 0) (ms := 0) (host := "") 8 rfl t_X8_put ⟨Or.inl q_8_29, i_X8_put.1, i_X8_put.2⟩ ⟨by decide, rfl⟩ (congrArg Prod.fst (J.1.1 43 (8, 4) rfl)) rfl (by decide) rfl rfl ⟨by decide, by decide⟩ (sf_X8_put_r43_c0 (jr_of rfl (by omega)) (jr_of rfl (by omega)) hD J  (fun h J S5 => ?_))
    have Sm := jSm_tr rfl Sm S5
    show jX m_X8_add 2 0 0 34 [(7, .int v1), (0, .ref 43), (1, .int a1), (2, .int a2), (3, .int a3), (4, .int a4), (5, .int a5), (6, .int a6)] [] _ 0 0 _
    refine x_aloadn (x := 43) rfl rfl ?_
    refine x_iload (x := v1) rfl rfl ?_
    refine x_iconst (v := 1) rfl ki_1 ?_
    refine x_iloadn (x := a2) rfl rfl ?_
    refine x_inv (N := m_X8_put) (As := [.int v1, .int 1, .int a2]) (b := 43) (st := []) (d' := 1) (mc := 0) (ms := 0) (host := "") 8 rfl t_X8_put ⟨Or.inl q_8_29, i_X8_put.1, i_X8_put.2⟩ ⟨by decide, rfl⟩ (congrArg Prod.fst (J.1.1 43 (8, 4) rfl)) rfl (by decide) rfl rfl ⟨by decide, by decide⟩ (sf_X8_put_r43_c1 (jr_of rfl (by omega)) (jr_of rfl (by omega)) hD J  (fun h J S6 => ?_))
    have Sm := jSm_tr rfl Sm S6
    show jX m_X8_add 2 0 0 42 [(7, .int v1), (0, .ref 43), (1, .int a1), (2, .int a2), (3, .int a3), (4, .int a4), (5, .int a5), (6, .int a6)] [] _ 0 0 _
    refine x_aloadn (x := 43) rfl rfl ?_
    refine x_iload (x := v1) rfl rfl ?_
    refine x_iconst (v := 2) rfl ki_2 ?_
    refine x_iloadn (x := a3) rfl rfl ?_
    refine x_inv (N := m_X8_put) (As := [.int v1, .int 2, .int a3]) (b := 43) (st := []) (d' := 1) (mc := 0) (ms := 0) (host := "") 8 rfl t_X8_put ⟨Or.inl q_8_29, i_X8_put.1, i_X8_put.2⟩ ⟨by decide, rfl⟩ (congrArg Prod.fst (J.1.1 43 (8, 4) rfl)) rfl (by decide) rfl rfl ⟨by decide, by decide⟩ (sf_X8_put_r43_c2 (jr_of rfl (by omega)) (jr_of rfl (by omega)) hD J  (fun h J S7 => ?_))
    have Sm := jSm_tr rfl Sm S7
    show jX m_X8_add 2 0 0 50 [(7, .int v1), (0, .ref 43), (1, .int a1), (2, .int a2), (3, .int a3), (4, .int a4), (5, .int a5), (6, .int a6)] [] _ 0 0 _
    refine x_aloadn (x := 43) rfl rfl ?_
    refine x_iload (x := v1) rfl rfl ?_
    refine x_iconst (v := 3) rfl ki_3 ?_
    refine x_iload (x := a4) rfl rfl ?_
    refine x_inv (N := m_X8_put) (As := [.int v1, .int 3, .int a4]) (b := 43) (st := []) (d' := 1) (mc := 0) (ms := 0) (host := "") 8 rfl t_X8_put ⟨Or.inl q_8_29, i_X8_put.1, i_X8_put.2⟩ ⟨by decide, rfl⟩ (congrArg Prod.fst (J.1.1 43 (8, 4) rfl)) rfl (by decide) rfl rfl ⟨by decide, by decide⟩ (sf_X8_put_r43_c3 (jr_of rfl (by omega)) (jr_of rfl (by omega)) hD J  (fun h J S8 => ?_))
    have Sm := jSm_tr rfl Sm S8
    show jX m_X8_add 2 0 0 59 [(7, .int v1), (0, .ref 43), (1, .int a1), (2, .int a2), (3, .int a3), (4, .int a4), (5, .int a5), (6, .int a6)] [] _ 0 0 _
    refine x_aloadn (x := 43) rfl rfl ?_
    refine x_iload (x := v1) rfl rfl ?_
    refine x_iconst (v := 4) rfl ki_4 ?_
    refine x_iload (x := a5) rfl rfl ?_
    refine x_inv (N := m_X8_put) (As := [.int v1, .int 4, .int a5]) (b := 43) (st := []) (d' := 1) (mc := 0) (ms := 0) (host := "") 8 rfl t_X8_put ⟨Or.inl q_8_29, i_X8_put.1, i_X8_put.2⟩ ⟨by decide, rfl⟩ (congrArg Prod.fst (J.1.1 43 (8, 4) rfl)) rfl (by decide) rfl rfl ⟨by decide, by decide⟩ (sf_X8_put_r43_c4 (jr_of rfl (by omega)) (jr_of rfl (by omega)) hD J  (fun h J S9 => ?_))
    have Sm := jSm_tr rfl Sm S9
    show jX m_X8_add 2 0 0 68 [(7, .int v1), (0, .ref 43), (1, .int a1), (2, .int a2), (3, .int a3), (4, .int a4), (5, .int a5), (6, .int a6)] [] _ 0 0 _
    refine x_aloadn (x := 43) rfl rfl ?_
    refine x_iload (x := v1) rfl rfl ?_
    refine x_iconst (v := 5) rfl ki_5 ?_
    refine x_iload (x := a6) rfl rfl ?_
    refine x_inv (N := m_X8_put) (As := [.int v1, .int 5, .int a6]) (b := 43) (st := []) (d' := 1) (mc := 0) (ms := 0) (host := "") 8 rfl t_X8_put ⟨Or.inl q_8_29, i_X8_put.1, i_X8_put.2⟩ ⟨by decide, rfl⟩ (congrArg Prod.fst (J.1.1 43 (8, 4) rfl)) rfl (by decide) rfl rfl ⟨by decide, by decide⟩ (sf_X8_put_r43_c5 (jr_of rfl (by omega)) (jr_of rfl (by omega)) hD J  (fun h J S10 => ?_))
    have Sm := jSm_tr rfl Sm S10
    show jX m_X8_add 2 0 0 77 [(7, .int v1), (0, .ref 43), (1, .int a1), (2, .int a2), (3, .int a3), (4, .int a4), (5, .int a5), (6, .int a6)] [] _ 0 0 _
    refine x_vret rfl rfl ?_
    exact hQ _ J Sm
  ·
    refine x_vret rfl rfl ?_
    exact hQ _ J Sm
def fp_X8_put_r63_c0 : jFp := [(64, 0, 740)]
set_option maxRecDepth 100000 in
set_option maxHeartbeats 4000000 in
theorem ct_X8_put_r63_c0_38 {Dy : jH → Prop} {h0 : jH} {Q : Option Value → jH → Prop} (hD : jDk Dy) (hQ : ∀ h', jJ jSgX Dy h' → jSm fp_X8_put_r63_c0 h0 h' → Q none h') : ∀ (h : jH), jJ jSgX Dy h → jSm fp_X8_put_r63_c0 h0 h → jX m_X8_put 1 0 0 38 [] [] h 0 0 Q := by
  intro  h    J Sm
  refine x_vret rfl rfl ?_
  exact hQ _ J Sm
set_option maxRecDepth 100000 in
set_option maxHeartbeats 4000000 in
theorem sf_X8_put_r63_c0 {Dy : jH → Prop} {h : jH} {Q : Option Value → jH → Prop} {a1 : Int32} {a3 : Int32} (y1 : 0 ≤ a1.toInt ∧ a1.toInt ≤ 369) (y3 : 0 ≤ a3.toInt ∧ a3.toInt ≤ 3) (hD : jDk Dy) (J : jJ jSgX Dy h) (hQ : ∀ h', jJ jSgX Dy h' → jSm fp_X8_put_r63_c0 h h' → Q none h') : jC m_X8_put 1 0 0 [.ref 63, .int a1, .int 0, .int a3] h Q := by
  refine jC.of rfl k_X8_put rfl ?_
  have Sm := jSm_rf fp_X8_put_r63_c0 h
  show jX m_X8_put 1 0 0 0 [(0, .ref 63), (1, .int a1), (2, .int 0), (3, .int a3)] [] _ 0 0 _
  refine x_iloadn (x := a1) rfl rfl ?_
  refine x_iflt (tgt := 38) rfl rfl (ti_lt rfl jk_0 (br_f (by omega) ?_))
  refine x_iloadn (x := a1) rfl rfl ?_
  refine x_aloadn (x := 63) rfl rfl ?_
  refine z_getI (N := 4) 8 3 rfl f_8_7 rfl J rfl sg_63_3_4_1_0_1 (fun v1 qv1 ev1 => ?_)
  refine x_icge (tgt := 38) rfl rfl (ti_ge rfl rfl ⟨fun c2 => ?_, fun c2 => ?_⟩)
  ·
    exact jX.sub jsb_n (ct_X8_put_r63_c0_38 hD hQ  h J Sm)
  ·
    refine x_iloadn (x := 0) rfl rfl ?_
    refine x_iflt (tgt := 38) rfl rfl (ti_lt jk_0 jk_0 (br_f (by omega) ?_))
    refine x_iloadn (x := 0) rfl rfl ?_
    refine x_aloadn (x := 63) rfl rfl ?_
    refine z_getC (N := 4) (v := 2) 8 0 rfl f_8_19 rfl J rfl sg_63_0_1_1_0_1 jk_2 ?_
    refine x_icge (tgt := 38) rfl rfl (ti_ge jk_0 jk_2 (br_f (by omega) ?_))
    refine x_aloadn (x := 63) rfl rfl ?_
    refine z_getR (N := 4) (b := 64) 8 2 rfl f_8_25 rfl J rfl 8066 ⟨rfl, rfl⟩ rfl ?_
    refine x_iloadn (x := a1) rfl rfl ?_
    refine x_aloadn (x := 63) rfl rfl ?_
    refine z_getC (N := 4) (v := 2) 8 0 rfl f_8_19 rfl J rfl sg_63_0_1_1_0_1 jk_2 ?_
    refine z_imul rfl rfl jk_2 (by omega) (fun v3 ev3 => ?_)
    refine x_iloadn (x := 0) rfl rfl ?_
    refine z_iadd rfl rfl jk_0 (by omega) (fun v4 ev4 => ?_)
    refine x_iloadn (x := a3) rfl rfl ?_
    refine z_iast (N := 740) (l := 0) (u := 740) (w := a3.toInt) rfl hD J Sm rfl rfl rfl (by omega) rfl (wr_64 (fun q1 q2 q3 q4 => by omega) (fun q1 q2 q3 q4 => by omega)) rfl (fun h w5 J Sm => ?_)
    exact jX.sub jsb_n (ct_X8_put_r63_c0_38 hD hQ  h J Sm)
def fp_X8_put_r63_c1 : jFp := [(64, 0, 740)]
set_option maxRecDepth 100000 in
set_option maxHeartbeats 4000000 in
theorem ct_X8_put_r63_c1_38 {Dy : jH → Prop} {h0 : jH} {Q : Option Value → jH → Prop} (hD : jDk Dy) (hQ : ∀ h', jJ jSgX Dy h' → jSm fp_X8_put_r63_c1 h0 h' → Q none h') : ∀ (h : jH), jJ jSgX Dy h → jSm fp_X8_put_r63_c1 h0 h → jX m_X8_put 1 0 0 38 [] [] h 0 0 Q := by
  intro  h    J Sm
  refine x_vret rfl rfl ?_
  exact hQ _ J Sm
set_option maxRecDepth 100000 in
set_option maxHeartbeats 4000000 in
theorem sf_X8_put_r63_c1 {Dy : jH → Prop} {h : jH} {Q : Option Value → jH → Prop} {a1 : Int32} {a3 : Int32} (y1 : 0 ≤ a1.toInt ∧ a1.toInt ≤ 369) (y3 : 0 ≤ a3.toInt ∧ a3.toInt ≤ 200) (hD : jDk Dy) (J : jJ jSgX Dy h) (hQ : ∀ h', jJ jSgX Dy h' → jSm fp_X8_put_r63_c1 h h' → Q none h') : jC m_X8_put 1 0 0 [.ref 63, .int a1, .int 1, .int a3] h Q := by
  refine jC.of rfl k_X8_put rfl ?_
  have Sm := jSm_rf fp_X8_put_r63_c1 h
  show jX m_X8_put 1 0 0 0 [(0, .ref 63), (1, .int a1), (2, .int 1), (3, .int a3)] [] _ 0 0 _
  refine x_iloadn (x := a1) rfl rfl ?_
  refine x_iflt (tgt := 38) rfl rfl (ti_lt rfl jk_0 (br_f (by omega) ?_))
  refine x_iloadn (x := a1) rfl rfl ?_
  refine x_aloadn (x := 63) rfl rfl ?_
  refine z_getI (N := 4) 8 3 rfl f_8_7 rfl J rfl sg_63_3_4_1_0_1 (fun v1 qv1 ev1 => ?_)
  refine x_icge (tgt := 38) rfl rfl (ti_ge rfl rfl ⟨fun c2 => ?_, fun c2 => ?_⟩)
  ·
    exact jX.sub jsb_n (ct_X8_put_r63_c1_38 hD hQ  h J Sm)
  ·
    refine x_iloadn (x := 1) rfl rfl ?_
    refine x_iflt (tgt := 38) rfl rfl (ti_lt jk_1 jk_0 (br_f (by omega) ?_))
    refine x_iloadn (x := 1) rfl rfl ?_
    refine x_aloadn (x := 63) rfl rfl ?_
    refine z_getC (N := 4) (v := 2) 8 0 rfl f_8_19 rfl J rfl sg_63_0_1_1_0_1 jk_2 ?_
    refine x_icge (tgt := 38) rfl rfl (ti_ge jk_1 jk_2 (br_f (by omega) ?_))
    refine x_aloadn (x := 63) rfl rfl ?_
    refine z_getR (N := 4) (b := 64) 8 2 rfl f_8_25 rfl J rfl 8066 ⟨rfl, rfl⟩ rfl ?_
    refine x_iloadn (x := a1) rfl rfl ?_
    refine x_aloadn (x := 63) rfl rfl ?_
    refine z_getC (N := 4) (v := 2) 8 0 rfl f_8_19 rfl J rfl sg_63_0_1_1_0_1 jk_2 ?_
    refine z_imul rfl rfl jk_2 (by omega) (fun v3 ev3 => ?_)
    refine x_iloadn (x := 1) rfl rfl ?_
    refine z_iadd rfl rfl jk_1 (by omega) (fun v4 ev4 => ?_)
    refine x_iloadn (x := a3) rfl rfl ?_
    refine z_iast (N := 740) (l := 0) (u := 740) (w := a3.toInt) rfl hD J Sm rfl rfl rfl (by omega) rfl (wr_64 (fun q1 q2 q3 q4 => by omega) (fun q1 q2 q3 q4 => by omega)) rfl (fun h w5 J Sm => ?_)
    exact jX.sub jsb_n (ct_X8_put_r63_c1_38 hD hQ  h J Sm)
