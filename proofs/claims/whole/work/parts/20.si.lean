def fp_X11_price_r31 : jFp := [(31, 12, 13), (32, 19, 20), (61, 3, 4), (62, 0, 400)]
set_option maxRecDepth 100000 in
set_option maxHeartbeats 4000000 in
theorem ct_X11_price_r31_33 {Dy : jH → Prop} {h0 : jH} {Q : Option Value → jH → Prop} (hD : jDk Dy) (hQ : ∀ (v : Int32) h', (-366) ≤ v.toInt ∧ v.toInt ≤ 100 → jJ jSgX Dy h' → jSm fp_X11_price_r31 h0 h' → Q (some (.int v)) h') : ∀ (h : jH), jJ jSgX Dy h → jSm fp_X11_price_r31 h0 h → jX m_X11_price 3 0 0 33 [(0, .ref 31)] [] h 0 0 Q := by
  intro  h    J Sm
  refine x_aloadn (x := 31) rfl rfl ?_
  refine x_iconst (v := (-1)) rfl ki_m1 ?_
  refine x_inv (N := m_X11_refuse) (As := [.int (-1)]) (b := 31) (st := []) (d' := 2) (mc := 0) (ms := 0) (host := "") 11 rfl t_X11_refuse ⟨Or.inl q_11_206, i_X11_refuse.1, i_X11_refuse.2⟩ ⟨by decide, rfl⟩ (congrArg Prod.fst (J.1.1 31 (11, 13) rfl)) rfl (by decide) rfl rfl ⟨by decide, by decide⟩ (jC.of rfl k_X11_refuse rfl ?_)
  show jX m_X11_refuse 2 0 0 0 [(0, .ref 31), (1, .int (-1))] [] _ 0 0 _
  refine x_aloadn (x := 31) rfl rfl ?_
  refine x_iloadn (x := (-1)) rfl rfl ?_
  refine z_putI (N := 13) (w := (-1)) 11 12 rfl f_11_94 rfl (jfin_no TX11 RX11 13 rfl rfl) hD J Sm rfl rfl jk_m1 (pw_31_12 (by omega)) rfl (fun h w1 J Sm => ?_)
  refine x_iloadn (x := (-1)) rfl rfl ?_
  refine x_iret rfl rfl ?_
  show jX m_X11_price 3 0 0 38 [(0, .ref 31)] [.int (-1)] _ 0 0 _
  refine x_iret rfl rfl ?_
  exact hQ _ _ (jr_of jk_m1 (by omega)) J Sm
set_option maxRecDepth 100000 in
set_option maxHeartbeats 4000000 in
theorem sf_X11_price_r31 {Dy : jH → Prop} {h : jH} {Q : Option Value → jH → Prop} {a1 : Int32} {a2 : Int32} {a3 : Int32} {a4 : Int32} (hD : jDk Dy) (J : jJ jSgX Dy h) (hQ : ∀ (v : Int32) h', (-366) ≤ v.toInt ∧ v.toInt ≤ 100 → jJ jSgX Dy h' → jSm fp_X11_price_r31 h h' → Q (some (.int v)) h') : jC m_X11_price 3 0 0 [.ref 31, .int a1, .int a2, .int a3, .int a4] h Q := by
  refine jC.of rfl k_X11_price rfl ?_
  have Sm := jSm_rf fp_X11_price_r31 h
  have ea1 := jfull a1
  have ea2 := jfull a2
  have ea3 := jfull a3
  have ea4 := jfull a4
  show jX m_X11_price 3 0 0 0 [(0, .ref 31), (1, .int a1), (2, .int a2), (3, .int a3), (4, .int a4)] [] _ 0 0 _
  refine x_iloadn (x := a1) rfl rfl ?_
  refine x_inst (N := m_X11_isCrop) (As := [.int a1]) (st := []) (d' := 1) (mc := 0) (ms := 0) (host := "") rfl t_X11_isCrop ⟨Or.inl q_11_500, s_X11_isCrop⟩ rfl (by decide) rfl rfl ⟨by decide, by decide⟩ (zc_X11_isCrop rfl (fun v1 ev1 => ?_))
  show jX m_X11_price 3 0 0 4 [(0, .ref 31), (1, .int a1), (2, .int a2), (3, .int a3), (4, .int a4)] [.int v1] _ 0 0 _
  refine x_ifeq (tgt := 33) rfl rfl (ti_eq rfl jk_0 ⟨fun c2 => ?_, fun c2 => ?_⟩)
  ·
    exact jX.sub (jsb_c rfl jsb_n) (ct_X11_price_r31_33 hD hQ  h J Sm)
  ·
    refine x_iloadn (x := a2) rfl rfl ?_
    refine x_inst (N := m_X11_isYear) (As := [.int a2]) (st := []) (d' := 1) (mc := 0) (ms := 0) (host := "") rfl t_X11_isYear ⟨Or.inl q_11_433, s_X11_isYear⟩ rfl (by decide) rfl rfl ⟨by decide, by decide⟩ (zc_X11_isYear rfl (fun v3 ev3 => ?_))
    show jX m_X11_price 3 0 0 11 [(0, .ref 31), (1, .int a1), (2, .int a2), (3, .int a3), (4, .int a4)] [.int v3] _ 0 0 _
    refine x_ifeq (tgt := 33) rfl rfl (ti_eq rfl jk_0 ⟨fun c4 => ?_, fun c4 => ?_⟩)
    ·
      exact jX.sub (jsb_c rfl jsb_n) (ct_X11_price_r31_33 hD hQ  h J Sm)
    ·
      refine x_iloadn (x := a3) rfl rfl ?_
      refine x_iconst (v := 0) rfl ki_0 ?_
      refine x_sipush (v := 10000) rfl ks_10000 ?_
      refine x_inst (N := m_X11_isWithin) (As := [.int a3, .int 0, .int 10000]) (st := []) (d' := 1) (mc := 0) (ms := 0) (host := "") rfl t_X11_isWithin ⟨Or.inl q_11_202, s_X11_isWithin⟩ rfl (by decide) rfl rfl ⟨by decide, by decide⟩ (zc_X11_isWithin rfl jk_0 jk_10000 (fun v5 ev5 => ?_))
      show jX m_X11_price 3 0 0 22 [(0, .ref 31), (1, .int a1), (2, .int a2), (3, .int a3), (4, .int a4)] [.int v5] _ 0 0 _
      refine x_ifeq (tgt := 33) rfl rfl (ti_eq rfl jk_0 ⟨fun c6 => ?_, fun c6 => ?_⟩)
      ·
        exact jX.sub (jsb_c rfl jsb_n) (ct_X11_price_r31_33 hD hQ  h J Sm)
      ·
        refine x_iload (x := a4) rfl rfl ?_
        refine x_inst (N := m_X11_isDay) (As := [.int a4]) (st := []) (d' := 1) (mc := 0) (ms := 0) (host := "") rfl t_X11_isDay ⟨Or.inl q_11_115, s_X11_isDay⟩ rfl (by decide) rfl rfl ⟨by decide, by decide⟩ (zc_X11_isDay rfl (fun v7 ev7 => ?_))
        show jX m_X11_price 3 0 0 30 [(0, .ref 31), (1, .int a1), (2, .int a2), (3, .int a3), (4, .int a4)] [.int v7] _ 0 0 _
        refine x_ifne (tgt := 39) rfl rfl (ti_ne rfl jk_0 ⟨fun c8 => ?_, fun c8 => ?_⟩)
        ·
          refine x_aloadn (x := 31) rfl rfl ?_
          refine z_getR (N := 13) (b := 32) 11 0 rfl f_11_10 rfl J rfl 3968 ⟨rfl, rfl⟩ rfl ?_
          refine z_getR (N := 20) (b := 61) 1 14 rfl f_11_503 rfl J rfl 4110 ⟨rfl, rfl⟩ rfl ?_
          refine x_inv (N := m_X8_isFull) (As := []) (b := 61) (st := []) (d' := 1) (mc := 0) (ms := 0) (host := "") 8 rfl t_X8_isFull ⟨Or.inl q_11_130, i_X8_isFull.1, i_X8_isFull.2⟩ ⟨by decide, rfl⟩ (congrArg Prod.fst (J.1.1 61 (8, 4) rfl)) rfl (by decide) rfl rfl ⟨by decide, by decide⟩ (sf_X8_isFull_r61  hD J  (fun v10 h ev10 J S9 => ?_))
          have Sm := jSm_tr rfl Sm S9
          show jX m_X11_price 3 0 0 49 [(0, .ref 31), (1, .int a1), (2, .int a2), (3, .int a3), (4, .int a4)] [.int v10] _ 0 0 _
          refine x_ifeq (tgt := 59) rfl rfl (ti_eq rfl jk_0 ⟨fun c11 => ?_, fun c11 => ?_⟩)
          ·
            refine x_aloadn (x := 31) rfl rfl ?_
            refine z_getR (N := 13) (b := 32) 11 0 rfl f_11_10 rfl J rfl 3968 ⟨rfl, rfl⟩ rfl ?_
            refine z_getR (N := 20) (b := 61) 1 14 rfl f_11_503 rfl J rfl 4110 ⟨rfl, rfl⟩ rfl ?_
            refine x_iload (x := a4) rfl rfl ?_
            refine x_iloadn (x := a2) rfl rfl ?_
            refine x_iloadn (x := a1) rfl rfl ?_
            refine x_iloadn (x := a3) rfl rfl ?_
            refine x_iconst (v := 0) rfl ki_0 ?_
            refine x_iconst (v := 0) rfl ki_0 ?_
            refine x_inv (N := m_X8_add) (As := [.int a4, .int a2, .int a1, .int a3, .int 0, .int 0]) (b := 61) (st := []) (d' := 2) (mc := 0) (ms := 0) (host := "") 8 rfl t_X8_add ⟨Or.inl q_11_145, i_X8_add.1, i_X8_add.2⟩ ⟨by decide, rfl⟩ (congrArg Prod.fst (J.1.1 61 (8, 4) rfl)) rfl (by decide) rfl rfl ⟨by decide, by decide⟩ (sf_X8_add_r61 (jr_of rfl (by omega)) (jr_of rfl (by omega)) (jr_of rfl (by omega)) (jr_of rfl (by omega)) (jr_of jk_0 (by omega)) (jr_of jk_0 (by omega)) hD J  (fun h J S12 => ?_))
            have Sm := jSm_tr rfl Sm S12
            show jX m_X11_price 3 0 0 76 [(0, .ref 31), (1, .int a1), (2, .int a2), (3, .int a3), (4, .int a4)] [] _ 0 0 _
            refine x_aloadn (x := 31) rfl rfl ?_
            refine x_aloadn (x := 31) rfl rfl ?_
            refine z_getR (N := 13) (b := 32) 11 0 rfl f_11_10 rfl J rfl 3968 ⟨rfl, rfl⟩ rfl ?_
            refine z_getR (N := 20) (b := 61) 1 14 rfl f_11_503 rfl J rfl 4110 ⟨rfl, rfl⟩ rfl ?_
            refine z_getI (N := 4) 8 3 rfl f_11_142 rfl J rfl sg_61_3_4_1_0_1 (fun v13 qv13 ev13 => ?_)
            refine x_inv (N := m_X11_accept) (As := [.int v13]) (b := 31) (st := []) (d' := 2) (mc := 0) (ms := 0) (host := "") 11 rfl t_X11_accept ⟨Or.inl q_11_165, i_X11_accept.1, i_X11_accept.2⟩ ⟨by decide, rfl⟩ (congrArg Prod.fst (J.1.1 31 (11, 13) rfl)) rfl (by decide) rfl rfl ⟨by decide, by decide⟩ (jC.of rfl k_X11_accept rfl ?_)
            show jX m_X11_accept 2 0 0 0 [(0, .ref 31), (1, .int v13)] [] _ 0 0 _
            refine x_aloadn (x := 31) rfl rfl ?_
            refine x_iconst (v := 0) rfl ki_0 ?_
            refine z_putI (N := 13) (w := 0) 11 12 rfl f_11_94 rfl (jfin_no TX11 RX11 13 rfl rfl) hD J Sm rfl rfl jk_0 (pw_31_12 (by omega)) rfl (fun h w14 J Sm => ?_)
            refine x_aloadn (x := 31) rfl rfl ?_
            refine z_getR (N := 13) (b := 32) 11 0 rfl f_11_10 rfl J rfl 3968 ⟨rfl, rfl⟩ rfl ?_
            refine x_dup rfl rfl ?_
            refine z_getI0 (N := 20) 1 19 rfl f_11_528 rfl J rfl (fun v15 qv15 => ?_)
            have ev15 := jfull v15
            refine x_iconst (v := 1) rfl ki_1 ?_
            refine z_iadd0 rfl (fun v16 => ?_)
            have ev16 := jfull v16
            refine z_putI (N := 20) (w := v16.toInt) 1 19 rfl f_11_528 rfl (jfin_no TX1 RX1 20 rfl rfl) hD J Sm rfl rfl rfl (pw_32_19 trivial) rfl (fun h w17 J Sm => ?_)
            refine x_iloadn (x := v13) rfl rfl ?_
            refine x_iret rfl rfl ?_
            show jX m_X11_price 3 0 0 90 [(0, .ref 31), (1, .int a1), (2, .int a2), (3, .int a3), (4, .int a4)] [.int v13] _ 0 0 _
            refine x_iret rfl rfl ?_
            exact hQ _ _ (jr_of rfl (by omega)) J Sm
          ·
            refine x_aloadn (x := 31) rfl rfl ?_
            refine x_bipush (v := (-5)) rfl kb_m5 ?_
            refine x_inv (N := m_X11_refuse) (As := [.int (-5)]) (b := 31) (st := []) (d' := 2) (mc := 0) (ms := 0) (host := "") 11 rfl t_X11_refuse ⟨Or.inl q_11_206, i_X11_refuse.1, i_X11_refuse.2⟩ ⟨by decide, rfl⟩ (congrArg Prod.fst (J.1.1 31 (11, 13) rfl)) rfl (by decide) rfl rfl ⟨by decide, by decide⟩ (jC.of rfl k_X11_refuse rfl ?_)
            show jX m_X11_refuse 2 0 0 0 [(0, .ref 31), (1, .int (-5))] [] _ 0 0 _
            refine x_aloadn (x := 31) rfl rfl ?_
            refine x_iloadn (x := (-5)) rfl rfl ?_
            refine z_putI (N := 13) (w := (-5)) 11 12 rfl f_11_94 rfl (jfin_no TX11 RX11 13 rfl rfl) hD J Sm rfl rfl jk_m5 (pw_31_12 (by omega)) rfl (fun h w18 J Sm => ?_)
            refine x_iloadn (x := (-5)) rfl rfl ?_
            refine x_iret rfl rfl ?_
            show jX m_X11_price 3 0 0 58 [(0, .ref 31), (1, .int a1), (2, .int a2), (3, .int a3), (4, .int a4)] [.int (-5)] _ 0 0 _
            refine x_iret rfl rfl ?_
            exact hQ _ _ (jr_of jk_m5 (by omega)) J Sm
        ·
          exact jX.sub (jsb_c rfl jsb_n) (ct_X11_price_r31_33 hD hQ  h J Sm)
def fp_X11_reason_r31 : jFp := []
set_option maxRecDepth 100000 in
set_option maxHeartbeats 4000000 in
theorem ct_X11_reason_r31_22 {Dy : jH → Prop} {h0 : jH} {Q : Option Value → jH → Prop} (hD : jDk Dy) (hQ : ∀ (v : Int32) h', (-1) ≤ v.toInt ∧ v.toInt ≤ 7 → jJ jSgX Dy h' → jSm fp_X11_reason_r31 h0 h' → Q (some (.int v)) h') : ∀ (h : jH), jJ jSgX Dy h → jSm fp_X11_reason_r31 h0 h → jX m_X11_reason 4 0 0 22 [] [] h 0 0 Q := by
  intro  h    J Sm
  refine x_iconst (v := (-1)) rfl ki_m1 ?_
  refine x_iret rfl rfl ?_
  exact hQ _ _ (jr_of jk_m1 (by omega)) J Sm
set_option maxRecDepth 100000 in
set_option maxHeartbeats 4000000 in
theorem sf_X11_reason_r31 {Dy : jH → Prop} {h : jH} {Q : Option Value → jH → Prop} {a1 : Int32} {a2 : Int32} (hD : jDk Dy) (J : jJ jSgX Dy h) (hQ : ∀ (v : Int32) h', (-1) ≤ v.toInt ∧ v.toInt ≤ 7 → jJ jSgX Dy h' → jSm fp_X11_reason_r31 h h' → Q (some (.int v)) h') : jC m_X11_reason 4 0 0 [.ref 31, .int a1, .int a2] h Q := by
  refine jC.of rfl k_X11_reason rfl ?_
  have Sm := jSm_rf fp_X11_reason_r31 h
  have ea1 := jfull a1
  have ea2 := jfull a2
  show jX m_X11_reason 4 0 0 0 [(0, .ref 31), (1, .int a1), (2, .int a2)] [] _ 0 0 _
  refine x_aloadn (x := 31) rfl rfl ?_
  refine z_getR (N := 13) (b := 78) 11 4 rfl f_11_41 rfl J rfl 3972 ⟨rfl, rfl⟩ rfl ?_
  refine x_iloadn (x := a1) rfl rfl ?_
  refine x_inv (N := m_X7_isMention) (As := [.int a1]) (b := 78) (st := []) (d' := 3) (mc := 0) (ms := 0) (host := "") 7 rfl t_X7_isMention ⟨Or.inl q_11_187, i_X7_isMention.1, i_X7_isMention.2⟩ ⟨by decide, rfl⟩ (congrArg Prod.fst (J.1.1 78 (7, 16) rfl)) rfl (by decide) rfl rfl ⟨by decide, by decide⟩ (jC.of rfl k_X7_isMention rfl ?_)
  show jX m_X7_isMention 3 0 0 0 [(0, .ref 78), (1, .int a1)] [] _ 0 0 _
  refine x_iloadn (x := a1) rfl rfl ?_
  refine x_iflt (tgt := 41) rfl rfl (ti_lt rfl jk_0 ⟨fun c1 => ?_, fun c1 => ?_⟩)
  ·
    refine x_iconst (v := 0) rfl ki_0 ?_
    refine x_zret rfl rfl (by decide) ?_
    show jX m_X11_reason 4 0 0 8 [(0, .ref 31), (1, .int a1), (2, .int a2)] [.int 0] _ 0 0 _
    refine x_ifeq (tgt := 22) rfl rfl (ti_eq jk_0 jk_0 (br_t (by omega) ?_))
    exact jX.sub jsb_n (ct_X11_reason_r31_22 hD hQ  h J Sm)
  ·
    refine x_iloadn (x := a1) rfl rfl ?_
    refine x_sipush (v := 600) rfl ks_600 ?_
    refine x_icge (tgt := 41) rfl rfl (ti_ge rfl jk_600 ⟨fun c2 => ?_, fun c2 => ?_⟩)
    ·
      refine x_iconst (v := 0) rfl ki_0 ?_
      refine x_zret rfl rfl (by decide) ?_
      show jX m_X11_reason 4 0 0 8 [(0, .ref 31), (1, .int a1), (2, .int a2)] [.int 0] _ 0 0 _
      refine x_ifeq (tgt := 22) rfl rfl (ti_eq jk_0 jk_0 (br_t (by omega) ?_))
      exact jX.sub jsb_n (ct_X11_reason_r31_22 hD hQ  h J Sm)
    ·
      refine x_iloadn (x := a1) rfl rfl ?_
      refine x_iconst (v := 3) rfl ki_3 ?_
      refine z_idiv rfl rfl jk_3 (by omega) (by omega) (fun v3 ev3 => ?_)
      refine x_aloadn (x := 78) rfl rfl ?_
      refine z_getR (N := 16) (b := 32) 7 0 rfl f_7_55 rfl J rfl 9984 ⟨rfl, rfl⟩ rfl ?_
      refine z_getR (N := 20) (b := 33) 1 0 rfl f_7_63 rfl J rfl 4096 ⟨rfl, rfl⟩ rfl ?_
      refine z_getI (N := 4) 8 3 rfl f_7_85 rfl J rfl sg_33_3_4_1_0_1 (fun v4 qv4 ev4 => ?_)
      refine x_icge (tgt := 41) rfl rfl (ti_ge rfl rfl ⟨fun c5 => ?_, fun c5 => ?_⟩)
      ·
        refine x_iconst (v := 0) rfl ki_0 ?_
        refine x_zret rfl rfl (by decide) ?_
        show jX m_X11_reason 4 0 0 8 [(0, .ref 31), (1, .int a1), (2, .int a2)] [.int 0] _ 0 0 _
        refine x_ifeq (tgt := 22) rfl rfl (ti_eq jk_0 jk_0 (br_t (by omega) ?_))
        exact jX.sub jsb_n (ct_X11_reason_r31_22 hD hQ  h J Sm)
      ·
        refine x_aloadn (x := 78) rfl rfl ?_
        refine z_getR (N := 16) (b := 79) 7 7 rfl f_7_27 rfl J rfl 9991 ⟨rfl, rfl⟩ rfl ?_
        refine x_iloadn (x := a1) rfl rfl ?_
        refine z_iald (N := 600) rfl J rfl sg_79_0_600_1_0_1 rfl (by omega) (fun v6 qv6 ev6 => ?_)
        refine x_iconst (v := (-1)) rfl ki_m1 ?_
        refine x_iceq (tgt := 41) rfl rfl (ti_eq rfl jk_m1 ⟨fun c7 => ?_, fun c7 => ?_⟩)
        ·
          refine x_iconst (v := 0) rfl ki_0 ?_
          refine x_zret rfl rfl (by decide) ?_
          show jX m_X11_reason 4 0 0 8 [(0, .ref 31), (1, .int a1), (2, .int a2)] [.int 0] _ 0 0 _
          refine x_ifeq (tgt := 22) rfl rfl (ti_eq jk_0 jk_0 (br_t (by omega) ?_))
          exact jX.sub jsb_n (ct_X11_reason_r31_22 hD hQ  h J Sm)
        ·
          refine x_iconst (v := 1) rfl ki_1 ?_
          refine x_goto (tgt := 42) rfl rfl ?_
          refine x_zret rfl rfl (by decide) ?_
          show jX m_X11_reason 4 0 0 8 [(0, .ref 31), (1, .int a1), (2, .int a2)] [.int 1] _ 0 0 _
          refine x_ifeq (tgt := 22) rfl rfl (ti_eq jk_1 jk_0 (br_f (by omega) ?_))
          refine x_aloadn (x := 31) rfl rfl ?_
          refine z_getR (N := 13) (b := 78) 11 4 rfl f_11_41 rfl J rfl 3972 ⟨rfl, rfl⟩ rfl ?_
          refine x_iloadn (x := a2) rfl rfl ?_
          refine x_inv (N := m_X7_isMention) (As := [.int a2]) (b := 78) (st := []) (d' := 3) (mc := 0) (ms := 0) (host := "") 7 rfl t_X7_isMention ⟨Or.inl q_11_187, i_X7_isMention.1, i_X7_isMention.2⟩ ⟨by decide, rfl⟩ (congrArg Prod.fst (J.1.1 78 (7, 16) rfl)) rfl (by decide) rfl rfl ⟨by decide, by decide⟩ (jC.of rfl k_X7_isMention rfl ?_)
          show jX m_X7_isMention 3 0 0 0 [(0, .ref 78), (1, .int a2)] [] _ 0 0 _
          refine x_iloadn (x := a2) rfl rfl ?_
          refine x_iflt (tgt := 41) rfl rfl (ti_lt rfl jk_0 ⟨fun c8 => ?_, fun c8 => ?_⟩)
          ·
            refine x_iconst (v := 0) rfl ki_0 ?_
            refine x_zret rfl rfl (by decide) ?_
            show jX m_X11_reason 4 0 0 19 [(0, .ref 31), (1, .int a1), (2, .int a2)] [.int 0] _ 0 0 _
            refine x_ifne (tgt := 24) rfl rfl (ti_ne jk_0 jk_0 (bn_f (by omega) ?_))
            exact jX.sub jsb_n (ct_X11_reason_r31_22 hD hQ  h J Sm)
          ·
            refine x_iloadn (x := a2) rfl rfl ?_
            refine x_sipush (v := 600) rfl ks_600 ?_
            refine x_icge (tgt := 41) rfl rfl (ti_ge rfl jk_600 ⟨fun c9 => ?_, fun c9 => ?_⟩)
            ·
              refine x_iconst (v := 0) rfl ki_0 ?_
              refine x_zret rfl rfl (by decide) ?_
              show jX m_X11_reason 4 0 0 19 [(0, .ref 31), (1, .int a1), (2, .int a2)] [.int 0] _ 0 0 _
              refine x_ifne (tgt := 24) rfl rfl (ti_ne jk_0 jk_0 (bn_f (by omega) ?_))
              exact jX.sub jsb_n (ct_X11_reason_r31_22 hD hQ  h J Sm)
            ·
              refine x_iloadn (x := a2) rfl rfl ?_
              refine x_iconst (v := 3) rfl ki_3 ?_
              refine z_idiv rfl rfl jk_3 (by omega) (by omega) (fun v10 ev10 => ?_)
              refine x_aloadn (x := 78) rfl rfl ?_
              refine z_getR (N := 16) (b := 32) 7 0 rfl f_7_55 rfl J rfl 9984 ⟨rfl, rfl⟩ rfl ?_
              refine z_getR (N := 20) (b := 33) 1 0 rfl f_7_63 rfl J rfl 4096 ⟨rfl, rfl⟩ rfl ?_
              refine z_getM (N := 4) (v := v4) 8 3 rfl f_7_85 rfl J rfl qv4 ?_
              refine x_icge (tgt := 41) rfl rfl (ti_ge rfl rfl ⟨fun c11 => ?_, fun c11 => ?_⟩)
              ·
                refine x_iconst (v := 0) rfl ki_0 ?_
                refine x_zret rfl rfl (by decide) ?_
                show jX m_X11_reason 4 0 0 19 [(0, .ref 31), (1, .int a1), (2, .int a2)] [.int 0] _ 0 0 _
                refine x_ifne (tgt := 24) rfl rfl (ti_ne jk_0 jk_0 (bn_f (by omega) ?_))
                exact jX.sub jsb_n (ct_X11_reason_r31_22 hD hQ  h J Sm)
              ·
                refine x_aloadn (x := 78) rfl rfl ?_
                refine z_getR (N := 16) (b := 79) 7 7 rfl f_7_27 rfl J rfl 9991 ⟨rfl, rfl⟩ rfl ?_
                refine x_iloadn (x := a2) rfl rfl ?_
                refine z_iald (N := 600) rfl J rfl sg_79_0_600_1_0_1 rfl (by omega) (fun v12 qv12 ev12 => ?_)
                refine x_iconst (v := (-1)) rfl ki_m1 ?_
                refine x_iceq (tgt := 41) rfl rfl (ti_eq rfl jk_m1 ⟨fun c13 => ?_, fun c13 => ?_⟩)
                ·
                  refine x_iconst (v := 0) rfl ki_0 ?_
                  refine x_zret rfl rfl (by decide) ?_
                  show jX m_X11_reason 4 0 0 19 [(0, .ref 31), (1, .int a1), (2, .int a2)] [.int 0] _ 0 0 _
                  refine x_ifne (tgt := 24) rfl rfl (ti_ne jk_0 jk_0 (bn_f (by omega) ?_))
                  exact jX.sub jsb_n (ct_X11_reason_r31_22 hD hQ  h J Sm)
                ·
                  refine x_iconst (v := 1) rfl ki_1 ?_
                  refine x_goto (tgt := 42) rfl rfl ?_
                  refine x_zret rfl rfl (by decide) ?_
                  show jX m_X11_reason 4 0 0 19 [(0, .ref 31), (1, .int a1), (2, .int a2)] [.int 1] _ 0 0 _
                  refine x_ifne (tgt := 24) rfl rfl (ti_ne jk_1 jk_0 (bn_t (by omega) ?_))
                  refine x_aloadn (x := 31) rfl rfl ?_
                  refine z_getR (N := 13) (b := 78) 11 4 rfl f_11_41 rfl J rfl 3972 ⟨rfl, rfl⟩ rfl ?_
                  refine x_iloadn (x := a1) rfl rfl ?_
                  refine x_iloadn (x := a2) rfl rfl ?_
                  refine x_inv (N := m_X7_reasonFor) (As := [.int a1, .int a2]) (b := 78) (st := []) (d' := 3) (mc := 0) (ms := 0) (host := "") 7 rfl t_X7_reasonFor ⟨Or.inl q_11_224, i_X7_reasonFor.1, i_X7_reasonFor.2⟩ ⟨by decide, rfl⟩ (congrArg Prod.fst (J.1.1 78 (7, 16) rfl)) rfl (by decide) rfl rfl ⟨by decide, by decide⟩ (sf_X7_reasonFor_r78 (jr_of rfl (by omega)) (jr_of rfl (by omega)) hD J  (fun v15 h ev15 J S14 => ?_))
                  have Sm := jSm_tr rfl Sm S14
                  show jX m_X11_reason 4 0 0 33 [(0, .ref 31), (1, .int a1), (2, .int a2)] [.int v15] _ 0 0 _
                  refine x_iret rfl rfl ?_
                  exact hQ _ _ (jr_of rfl (by omega)) J Sm
def fp_X11_sumYear_r31_r65 : jFp := [(65, 0, 1600)]
set_option maxRecDepth 100000 in
set_option maxHeartbeats 4000000 in
theorem ct_X11_sumYear_r31_r65_90 {Dy : jH → Prop} {h0 : jH} {Q : Option Value → jH → Prop} {R25 : Int} (hD : jDk Dy) (hQ : ∀ h', jJ jSgX Dy h' → jSm fp_X11_sumYear_r31_r65 h0 h' → Q none h') (k25 : ∀ (l1 : Int32) (l3 : Int32) (l4 : Int64) (l6 : Int64) (l8 : Int64) (l10 : Int32) (h : jH), 200 - l10.toInt < R25 → 0 ≤ l1.toInt ∧ l1.toInt ≤ 399 → 0 ≤ l3.toInt ∧ l3.toInt ≤ 1596 → l3.toInt % 4 = 0 → 0 ≤ l10.toInt ∧ l10.toInt ≤ 200 → jJ jSgX Dy h → jSm fp_X11_sumYear_r31_r65 h0 h → jX m_X11_sumYear 3 0 0 25 [(0, .ref 31), (1, .int l1), (2, .ref 65), (3, .int l3), (4, .long l4), (6, .long l6), (8, .long l8), (10, .int l10)] [] h 0 0 Q) : ∀ (l1 : Int32) (l3 : Int32) (l4 : Int64) (l6 : Int64) (l8 : Int64) (l10 : Int32) (h : jH), 0 ≤ l1.toInt ∧ l1.toInt ≤ 399 → 0 ≤ l3.toInt ∧ l3.toInt ≤ 1596 → l3.toInt % 4 = 0 → 0 ≤ l10.toInt ∧ l10.toInt ≤ 199 → 200 - l10.toInt ≤ R25 → jJ jSgX Dy h → jSm fp_X11_sumYear_r31_r65 h0 h → jX m_X11_sumYear 3 0 0 90 [(0, .ref 31), (1, .int l1), (2, .ref 65), (3, .int l3), (4, .long l4), (6, .long l6), (8, .long l8), (10, .int l10)] [] h 0 0 Q := by
  intro l1 l3 l4 l6 l8 l10 h y0 y1 y2 y3  m25 J Sm
  have el4 := jfullL l4
  have el6 := jfullL l6
  have el8 := jfullL l8
  refine z_iinc (x := l10) (ls' := fun v1 => [(10, .int v1), (0, .ref 31), (1, .int l1), (2, .ref 65), (3, .int l3), (4, .long l4), (6, .long l6), (8, .long l8)]) rfl rfl rfl jko_1 (by omega) rfl (fun _ => rfl) (fun v1 ev1 => ?_)
  refine x_goto (tgt := 25) rfl rfl ?_
  exact jX.sub (jsb_c rfl (jsb_c rfl (jsb_c rfl (jsb_c rfl (jsb_c rfl (jsb_c rfl (jsb_c rfl (jsb_c rfl jsb_n)))))))) (k25 l1 l3 l4 l6 l8 v1 h (by omega) (jr_of rfl (by omega)) (jr_of rfl (by omega)) (jr_mod rfl (by omega)) (jr_of rfl (by omega)) J Sm)
set_option maxRecDepth 100000 in
set_option maxHeartbeats 4000000 in
theorem ct_X11_sumYear_r31_r65_25 {Dy : jH → Prop} {h0 : jH} {Q : Option Value → jH → Prop} (hD : jDk Dy) (hQ : ∀ h', jJ jSgX Dy h' → jSm fp_X11_sumYear_r31_r65 h0 h' → Q none h') : ∀ r : Nat, ∀ (l1 : Int32) (l3 : Int32) (l4 : Int64) (l6 : Int64) (l8 : Int64) (l10 : Int32) (h : jH), 200 - l10.toInt < (r : Int) → 0 ≤ l1.toInt ∧ l1.toInt ≤ 399 → 0 ≤ l3.toInt ∧ l3.toInt ≤ 1596 → l3.toInt % 4 = 0 → 0 ≤ l10.toInt ∧ l10.toInt ≤ 200 → jJ jSgX Dy h → jSm fp_X11_sumYear_r31_r65 h0 h → jX m_X11_sumYear 3 0 0 25 [(0, .ref 31), (1, .int l1), (2, .ref 65), (3, .int l3), (4, .long l4), (6, .long l6), (8, .long l8), (10, .int l10)] [] h 0 0 Q := by
  intro r
  induction r with
  | zero =>
    intro l1 l3 l4 l6 l8 l10 h hm y0 y1 y2 y3   J Sm
    exfalso
    omega
  | succ r ih =>
    intro l1 l3 l4 l6 l8 l10 h hm y0 y1 y2 y3   J Sm
    have el4 := jfullL l4
    have el6 := jfullL l6
    have el8 := jfullL l8
    refine x_iload (x := l10) rfl rfl ?_
    refine x_aloadn (x := 31) rfl rfl ?_
    refine z_getR (N := 13) (b := 32) 11 0 rfl f_11_10 rfl J rfl 3968 ⟨rfl, rfl⟩ rfl ?_
    refine z_getR (N := 20) (b := 33) 1 0 rfl f_11_126 rfl J rfl 4096 ⟨rfl, rfl⟩ rfl ?_
    refine z_getI (N := 4) 8 3 rfl f_11_142 rfl J rfl sg_33_3_4_1_0_1 (fun v1 qv1 ev1 => ?_)
    refine x_icge (tgt := 96) rfl rfl (ti_ge rfl rfl ⟨fun c2 => ?_, fun c2 => ?_⟩)
    ·
      refine x_aloadn (x := 65) rfl rfl ?_
      refine x_iloadn (x := l3) rfl rfl ?_
      refine x_lconst (v := 1) rfl kl_1 ?_
      refine z_last (N := 1600) (l := 0) (u := 1600) rfl hD J Sm rfl rfl rfl (by omega) rfl (fun h w3 J Sm => ?_)
      refine x_aloadn (x := 65) rfl rfl ?_
      refine x_iloadn (x := l3) rfl rfl ?_
      refine x_iconst (v := 1) rfl ki_1 ?_
      refine z_iadd rfl rfl jk_1 (by omega) (fun v4 ev4 => ?_)
      refine x_lload (x := l4) rfl rfl ?_
      refine z_last (N := 1600) (l := 0) (u := 1600) rfl hD J Sm rfl rfl rfl (by omega) rfl (fun h w5 J Sm => ?_)
      refine x_aloadn (x := 65) rfl rfl ?_
      refine x_iloadn (x := l3) rfl rfl ?_
      refine x_iconst (v := 2) rfl ki_2 ?_
      refine z_iadd rfl rfl jk_2 (by omega) (fun v6 ev6 => ?_)
      refine x_lload (x := l6) rfl rfl ?_
      refine z_last (N := 1600) (l := 0) (u := 1600) rfl hD J Sm rfl rfl rfl (by omega) rfl (fun h w7 J Sm => ?_)
      refine x_aloadn (x := 65) rfl rfl ?_
      refine x_iloadn (x := l3) rfl rfl ?_
      refine x_iconst (v := 3) rfl ki_3 ?_
      refine z_iadd rfl rfl jk_3 (by omega) (fun v8 ev8 => ?_)
      refine x_lload (x := l8) rfl rfl ?_
      refine z_last (N := 1600) (l := 0) (u := 1600) rfl hD J Sm rfl rfl rfl (by omega) rfl (fun h w9 J Sm => ?_)
      refine x_vret rfl rfl ?_
      exact hQ _ J Sm
    ·
      refine x_aloadn (x := 31) rfl rfl ?_
      refine x_iload (x := l10) rfl rfl ?_
      refine x_inv (N := m_X11_yearOf) (As := [.int l10]) (b := 31) (st := []) (d' := 2) (mc := 0) (ms := 0) (host := "") 11 rfl t_X11_yearOf ⟨Or.inl q_11_521, i_X11_yearOf.1, i_X11_yearOf.2⟩ ⟨by decide, rfl⟩ (congrArg Prod.fst (J.1.1 31 (11, 13) rfl)) rfl (by decide) rfl rfl ⟨by decide, by decide⟩ (jC.of rfl k_X11_yearOf rfl ?_)
      show jX m_X11_yearOf 2 0 0 0 [(0, .ref 31), (1, .int l10)] [] _ 0 0 _
      refine x_aloadn (x := 31) rfl rfl ?_
      refine z_getR (N := 13) (b := 32) 11 0 rfl f_11_10 rfl J rfl 3968 ⟨rfl, rfl⟩ rfl ?_
      refine z_getR (N := 20) (b := 33) 1 0 rfl f_11_126 rfl J rfl 4096 ⟨rfl, rfl⟩ rfl ?_
      refine x_iloadn (x := l10) rfl rfl ?_
      refine x_iconst (v := 1) rfl ki_1 ?_
      refine x_inv (N := m_X8_at) (As := [.int l10, .int 1]) (b := 33) (st := []) (d' := 1) (mc := 0) (ms := 0) (host := "") 8 rfl t_X8_at ⟨Or.inl q_11_171, i_X8_at.1, i_X8_at.2⟩ ⟨by decide, rfl⟩ (congrArg Prod.fst (J.1.1 33 (8, 4) rfl)) rfl (by decide) rfl rfl ⟨by decide, by decide⟩ (sf_X8_at_r33_c1  hD J  (fun v11 h ev11 J S10 => ?_))
      have Sm := jSm_tr rfl Sm S10
      show jX m_X11_yearOf 2 0 0 12 [(0, .ref 31), (1, .int l10)] [.int v11] _ 0 0 _
      refine x_sipush (v := 366) rfl ks_366 ?_
      refine z_idiv rfl rfl jk_366 (by omega) (by omega) (fun v12 ev12 => ?_)
      refine x_iret rfl rfl ?_
      show jX m_X11_sumYear 3 0 0 46 [(0, .ref 31), (1, .int l1), (2, .ref 65), (3, .int l3), (4, .long l4), (6, .long l6), (8, .long l8), (10, .int l10)] [.int v12] _ 0 0 _
      refine x_iloadn (x := l1) rfl rfl ?_
      refine x_icne (tgt := 90) rfl rfl (ti_ne rfl rfl ⟨fun c13 => ?_, fun c13 => ?_⟩)
      ·
        exact jX.sub (jsb_c rfl (jsb_c rfl (jsb_c rfl (jsb_c rfl (jsb_c rfl (jsb_c rfl (jsb_c rfl (jsb_c rfl jsb_n)))))))) (ct_X11_sumYear_r31_r65_90 hD hQ ih l1 l3 l4 l6 l8 l10 h (jr_of rfl (by omega)) (jr_of rfl (by omega)) (jr_mod rfl (by omega)) (jr_of rfl (by omega)) (by omega) J Sm)
      ·
        refine x_aloadn (x := 31) rfl rfl ?_
        refine z_getR (N := 13) (b := 32) 11 0 rfl f_11_10 rfl J rfl 3968 ⟨rfl, rfl⟩ rfl ?_
        refine z_getR (N := 20) (b := 33) 1 0 rfl f_11_126 rfl J rfl 4096 ⟨rfl, rfl⟩ rfl ?_
        refine x_iload (x := l10) rfl rfl ?_
        refine x_iconst (v := 4) rfl ki_4 ?_
        refine x_inv (N := m_X8_at) (As := [.int l10, .int 4]) (b := 33) (st := []) (d' := 1) (mc := 0) (ms := 0) (host := "") 8 rfl t_X8_at ⟨Or.inl q_11_171, i_X8_at.1, i_X8_at.2⟩ ⟨by decide, rfl⟩ (congrArg Prod.fst (J.1.1 33 (8, 4) rfl)) rfl (by decide) rfl rfl ⟨by decide, by decide⟩ (sf_X8_at_r33_c4  hD J  (fun v15 h J S14 => ?_))
        have ev15 := jfull v15
        have Sm := jSm_tr rfl Sm S14
        show jX m_X11_sumYear 3 0 0 63 [(0, .ref 31), (1, .int l1), (2, .ref 65), (3, .int l3), (4, .long l4), (6, .long l6), (8, .long l8), (10, .int l10)] [.int v15] _ 0 0 _
        refine x_istore (ls' := [(11, .int v15), (0, .ref 31), (1, .int l1), (2, .ref 65), (3, .int l3), (4, .long l4), (6, .long l6), (8, .long l8), (10, .int l10)]) rfl rfl rfl ?_
        refine x_lload (x := l4) rfl rfl ?_
        refine x_lconst (v := 1) rfl kl_1 ?_
        refine z_ladd0 rfl (fun v16 => ?_)
        have ev16 := jfullL v16
        refine x_lstore (ls' := [(4, .long v16), (11, .int v15), (0, .ref 31), (1, .int l1), (2, .ref 65), (3, .int l3), (6, .long l6), (8, .long l8), (10, .int l10)]) rfl rfl rfl ?_
        refine x_lload (x := l6) rfl rfl ?_
        refine x_iload (x := v15) rfl rfl ?_
        refine z_i2l rfl rfl (fun v17 ev17 => ?_)
        refine z_ladd0 rfl (fun v18 => ?_)
        have ev18 := jfullL v18
        refine x_lstore (ls' := [(6, .long v18), (4, .long v16), (11, .int v15), (0, .ref 31), (1, .int l1), (2, .ref 65), (3, .int l3), (8, .long l8), (10, .int l10)]) rfl rfl rfl ?_
        refine x_lload (x := l8) rfl rfl ?_
        refine x_lload (x := v16) rfl rfl ?_
        refine x_iload (x := v15) rfl rfl ?_
        refine z_i2l rfl rfl (fun v19 ev19 => ?_)
        refine z_lmul0 rfl (fun v20 => ?_)
        have ev20 := jfullL v20
        refine z_ladd0 rfl (fun v21 => ?_)
        have ev21 := jfullL v21
        refine x_lstore (ls' := [(8, .long v21), (6, .long v18), (4, .long v16), (11, .int v15), (0, .ref 31), (1, .int l1), (2, .ref 65), (3, .int l3), (10, .int l10)]) rfl rfl rfl ?_
        exact jX.sub (jsb_c rfl (jsb_c rfl (jsb_c rfl (jsb_c rfl (jsb_c rfl (jsb_c rfl (jsb_c rfl (jsb_c rfl jsb_n)))))))) (ct_X11_sumYear_r31_r65_90 hD hQ ih l1 l3 v16 v18 v21 l10 h (jr_of rfl (by omega)) (jr_of rfl (by omega)) (jr_mod rfl (by omega)) (jr_of rfl (by omega)) (by omega) J Sm)
set_option maxRecDepth 100000 in
set_option maxHeartbeats 4000000 in
theorem sf_X11_sumYear_r31_r65 {Dy : jH → Prop} {h : jH} {Q : Option Value → jH → Prop} {a1 : Int32} {a2 : Int32} (y1 : 0 ≤ a1.toInt ∧ a1.toInt ≤ 399) (y2 : 0 ≤ a2.toInt ∧ a2.toInt ≤ 1596) (ym2 : a2.toInt % 4 = 0) (hD : jDk Dy) (J : jJ jSgX Dy h) (hQ : ∀ h', jJ jSgX Dy h' → jSm fp_X11_sumYear_r31_r65 h h' → Q none h') : jC m_X11_sumYear 3 0 0 [.ref 31, .int a1, .ref 65, .int a2] h Q := by
  refine jC.of rfl k_X11_sumYear rfl ?_
  have Sm := jSm_rf fp_X11_sumYear_r31_r65 h
  show jX m_X11_sumYear 3 0 0 0 [(0, .ref 31), (1, .int a1), (2, .ref 65), (3, .int a2)] [] _ 0 0 _
  refine x_iloadn (x := a2) rfl rfl ?_
  refine x_iflt (tgt := 12) rfl rfl (ti_lt rfl jk_0 (br_f (by omega) ?_))
  refine x_iloadn (x := a2) rfl rfl ?_
  refine x_iconst (v := 3) rfl ki_3 ?_
  refine z_iadd rfl rfl jk_3 (by omega) (fun v1 ev1 => ?_)
  refine x_aloadn (x := 65) rfl rfl ?_
  refine z_alen (N := 1600) (v := 1600) rfl J rfl rfl (by decide) ?_
  refine x_iclt (tgt := 13) rfl rfl (ti_lt rfl jk_1600 (br_t (by omega) ?_))
  refine x_lconst (v := 0) rfl kl_0 ?_
  refine x_lstore (ls' := [(4, .long 0), (0, .ref 31), (1, .int a1), (2, .ref 65), (3, .int a2)]) rfl rfl rfl ?_
  refine x_lconst (v := 0) rfl kl_0 ?_
  refine x_lstore (ls' := [(6, .long 0), (4, .long 0), (0, .ref 31), (1, .int a1), (2, .ref 65), (3, .int a2)]) rfl rfl rfl ?_
  refine x_lconst (v := 0) rfl kl_0 ?_
  refine x_lstore (ls' := [(8, .long 0), (6, .long 0), (4, .long 0), (0, .ref 31), (1, .int a1), (2, .ref 65), (3, .int a2)]) rfl rfl rfl ?_
  refine x_iconst (v := 0) rfl ki_0 ?_
  refine x_istore (ls' := [(10, .int 0), (8, .long 0), (6, .long 0), (4, .long 0), (0, .ref 31), (1, .int a1), (2, .ref 65), (3, .int a2)]) rfl rfl rfl ?_
  exact jX.sub (jsb_c rfl (jsb_c rfl (jsb_c rfl (jsb_c rfl (jsb_c rfl (jsb_c rfl (jsb_c rfl (jsb_c rfl jsb_n)))))))) (ct_X11_sumYear_r31_r65_25 hD hQ  201 a1 a2 0 0 0 0 h (by have := jk_0; omega) (jr_of rfl (by omega)) (jr_of rfl (by omega)) (jr_mod rfl (by omega)) (jr_of jk_0 (by omega)) J Sm)
def fp_X11_seal_r31 : jFp := [(31, 12, 13), (32, 19, 20), (65, 0, 1600)]
set_option maxRecDepth 100000 in
set_option maxHeartbeats 4000000 in
theorem sf_X11_seal_r31 {Dy : jH → Prop} {h : jH} {Q : Option Value → jH → Prop} {a1 : Int32} (hD : jDk Dy) (J : jJ jSgX Dy h) (hQ : ∀ (v : Int32) h', jJ jSgX Dy h' → jSm fp_X11_seal_r31 h h' → Q (some (.int v)) h') : jC m_X11_seal 4 0 0 [.ref 31, .int a1] h Q := by
  refine jC.of rfl k_X11_seal rfl ?_
  have Sm := jSm_rf fp_X11_seal_r31 h
  have ea1 := jfull a1
  show jX m_X11_seal 4 0 0 0 [(0, .ref 31), (1, .int a1)] [] _ 0 0 _
  refine x_iloadn (x := a1) rfl rfl ?_
  refine x_inst (N := m_X11_isYear) (As := [.int a1]) (st := []) (d' := 1) (mc := 0) (ms := 0) (host := "") rfl t_X11_isYear ⟨Or.inl q_11_433, s_X11_isYear⟩ rfl (by decide) rfl rfl ⟨by decide, by decide⟩ (zc_X11_isYear rfl (fun v1 ev1 => ?_))
  show jX m_X11_seal 4 0 0 4 [(0, .ref 31), (1, .int a1)] [.int v1] _ 0 0 _
  refine x_ifne (tgt := 13) rfl rfl (ti_ne rfl jk_0 ⟨fun c2 => ?_, fun c2 => ?_⟩)
  ·
    refine x_aloadn (x := 31) rfl rfl ?_
    refine x_iloadn (x := a1) rfl rfl ?_
    refine x_aloadn (x := 31) rfl rfl ?_
    refine z_getR (N := 13) (b := 32) 11 0 rfl f_11_10 rfl J rfl 3968 ⟨rfl, rfl⟩ rfl ?_
    refine z_getR (N := 20) (b := 65) 1 16 rfl f_11_511 rfl J rfl 4112 ⟨rfl, rfl⟩ rfl ?_
    refine x_iloadn (x := a1) rfl rfl ?_
    refine x_iconst (v := 4) rfl ki_4 ?_
    refine z_imul rfl rfl jk_4 (by omega) (fun v3 ev3 => ?_)
    refine x_inv (N := m_X11_sumYear) (As := [.int a1, .ref 65, .int v3]) (b := 31) (st := []) (d' := 3) (mc := 0) (ms := 0) (host := "") 11 rfl t_X11_sumYear ⟨Or.inl q_11_514, i_X11_sumYear.1, i_X11_sumYear.2⟩ ⟨by decide, rfl⟩ (congrArg Prod.fst (J.1.1 31 (11, 13) rfl)) rfl (by decide) rfl rfl ⟨by decide, by decide⟩ (sf_X11_sumYear_r31_r65 (jr_of rfl (by omega)) (jr_of rfl (by omega)) (jr_mod rfl (by omega)) hD J  (fun h J S4 => ?_))
    have Sm := jSm_tr rfl Sm S4
    show jX m_X11_seal 4 0 0 28 [(0, .ref 31), (1, .int a1)] [] _ 0 0 _
    refine x_aloadn (x := 31) rfl rfl ?_
    refine x_aloadn (x := 31) rfl rfl ?_
    refine z_getR (N := 13) (b := 32) 11 0 rfl f_11_10 rfl J rfl 3968 ⟨rfl, rfl⟩ rfl ?_
    refine z_getR (N := 20) (b := 65) 1 16 rfl f_11_511 rfl J rfl 4112 ⟨rfl, rfl⟩ rfl ?_
    refine x_iloadn (x := a1) rfl rfl ?_
    refine x_iconst (v := 4) rfl ki_4 ?_
    refine z_imul rfl rfl jk_4 (by omega) (fun v5 ev5 => ?_)
    refine x_iconst (v := 1) rfl ki_1 ?_
    refine z_iadd rfl rfl jk_1 (by omega) (fun v6 ev6 => ?_)
    refine z_lald0 (N := 1600) rfl J rfl rfl (by omega) (fun v7 => ?_)
    have ev7 := jfullL v7
    refine z_l2i0 rfl (fun v8 => ?_)
    refine x_inv (N := m_X11_accept) (As := [.int v8]) (b := 31) (st := []) (d' := 3) (mc := 0) (ms := 0) (host := "") 11 rfl t_X11_accept ⟨Or.inl q_11_165, i_X11_accept.1, i_X11_accept.2⟩ ⟨by decide, rfl⟩ (congrArg Prod.fst (J.1.1 31 (11, 13) rfl)) rfl (by decide) rfl rfl ⟨by decide, by decide⟩ (jC.of rfl k_X11_accept rfl ?_)
    show jX m_X11_accept 3 0 0 0 [(0, .ref 31), (1, .int v8)] [] _ 0 0 _
    refine x_aloadn (x := 31) rfl rfl ?_
    refine x_iconst (v := 0) rfl ki_0 ?_
    refine z_putI (N := 13) (w := 0) 11 12 rfl f_11_94 rfl (jfin_no TX11 RX11 13 rfl rfl) hD J Sm rfl rfl jk_0 (pw_31_12 (by omega)) rfl (fun h w9 J Sm => ?_)
    refine x_aloadn (x := 31) rfl rfl ?_
    refine z_getR (N := 13) (b := 32) 11 0 rfl f_11_10 rfl J rfl 3968 ⟨rfl, rfl⟩ rfl ?_
    refine x_dup rfl rfl ?_
    refine z_getI0 (N := 20) 1 19 rfl f_11_528 rfl J rfl (fun v10 qv10 => ?_)
    have ev10 := jfull v10
    refine x_iconst (v := 1) rfl ki_1 ?_
    refine z_iadd0 rfl (fun v11 => ?_)
    have ev11 := jfull v11
    refine z_putI (N := 20) (w := v11.toInt) 1 19 rfl f_11_528 rfl (jfin_no TX1 RX1 20 rfl rfl) hD J Sm rfl rfl rfl (pw_32_19 trivial) rfl (fun h w12 J Sm => ?_)
    refine x_iloadn (x := v8) rfl rfl ?_
    refine x_iret rfl rfl ?_
    show jX m_X11_seal 4 0 0 46 [(0, .ref 31), (1, .int a1)] [.int v8] _ 0 0 _
    refine x_iret rfl rfl ?_
    exact hQ _ _ J Sm
  ·
    refine x_aloadn (x := 31) rfl rfl ?_
    refine x_iconst (v := (-1)) rfl ki_m1 ?_
    refine x_inv (N := m_X11_refuse) (As := [.int (-1)]) (b := 31) (st := []) (d' := 3) (mc := 0) (ms := 0) (host := "") 11 rfl t_X11_refuse ⟨Or.inl q_11_206, i_X11_refuse.1, i_X11_refuse.2⟩ ⟨by decide, rfl⟩ (congrArg Prod.fst (J.1.1 31 (11, 13) rfl)) rfl (by decide) rfl rfl ⟨by decide, by decide⟩ (jC.of rfl k_X11_refuse rfl ?_)
    show jX m_X11_refuse 3 0 0 0 [(0, .ref 31), (1, .int (-1))] [] _ 0 0 _
    refine x_aloadn (x := 31) rfl rfl ?_
    refine x_iloadn (x := (-1)) rfl rfl ?_
    refine z_putI (N := 13) (w := (-1)) 11 12 rfl f_11_94 rfl (jfin_no TX11 RX11 13 rfl rfl) hD J Sm rfl rfl jk_m1 (pw_31_12 (by omega)) rfl (fun h w13 J Sm => ?_)
    refine x_iloadn (x := (-1)) rfl rfl ?_
    refine x_iret rfl rfl ?_
    show jX m_X11_seal 4 0 0 12 [(0, .ref 31), (1, .int a1)] [.int (-1)] _ 0 0 _
    refine x_iret rfl rfl ?_
    exact hQ _ _ J Sm
def fp_X11_soul_r31 : jFp := [(78, 13, 14), (82, 0, 600), (83, 0, 600), (84, 0, 200), (86, 0, 3)]
set_option maxRecDepth 100000 in
set_option maxHeartbeats 4000000 in
theorem sf_X11_soul_r31 {Dy : jH → Prop} {h : jH} {Q : Option Value → jH → Prop} {a1 : Int32} {a2 : Int32} (hD : jDk Dy) (J : jJ jSgX Dy h) (hQ : ∀ (v : Int32) h', (-1) ≤ v.toInt ∧ v.toInt ≤ 599 → jJ jSgX Dy h' → jSm fp_X11_soul_r31 h h' → Q (some (.int v)) h') : jC m_X11_soul 8 0 0 [.ref 31, .int a1, .int a2] h Q := by
  refine jC.of rfl k_X11_soul rfl ?_
  have Sm := jSm_rf fp_X11_soul_r31 h
  have ea1 := jfull a1
  have ea2 := jfull a2
  show jX m_X11_soul 8 0 0 0 [(0, .ref 31), (1, .int a1), (2, .int a2)] [] _ 0 0 _
  refine x_aloadn (x := 31) rfl rfl ?_
  refine x_iloadn (x := a1) rfl rfl ?_
  refine x_iloadn (x := a2) rfl rfl ?_
  refine x_inv (N := m_X11_soulOn) (As := [.int a1, .int a2]) (b := 31) (st := []) (d' := 7) (mc := 0) (ms := 0) (host := "") 11 rfl t_X11_soulOn ⟨Or.inl q_11_234, i_X11_soulOn.1, i_X11_soulOn.2⟩ ⟨by decide, rfl⟩ (congrArg Prod.fst (J.1.1 31 (11, 13) rfl)) rfl (by decide) rfl rfl ⟨by decide, by decide⟩ (jC.of rfl k_X11_soulOn rfl ?_)
  show jX m_X11_soulOn 7 0 0 0 [(0, .ref 31), (1, .int a1), (2, .int a2)] [] _ 0 0 _
  refine x_iloadn (x := a2) rfl rfl ?_
  refine x_inst (N := m_X11_isDay) (As := [.int a2]) (st := []) (d' := 1) (mc := 0) (ms := 0) (host := "") rfl t_X11_isDay ⟨Or.inl q_11_115, s_X11_isDay⟩ rfl (by decide) rfl rfl ⟨by decide, by decide⟩ (zc_X11_isDay rfl (fun v1 ev1 => ?_))
  show jX m_X11_soulOn 7 0 0 4 [(0, .ref 31), (1, .int a1), (2, .int a2)] [.int v1] _ 0 0 _
  refine x_ifeq (tgt := 18) rfl rfl (ti_eq rfl jk_0 ⟨fun c2 => ?_, fun c2 => ?_⟩)
  ·
    refine x_iconst (v := (-1)) rfl ki_m1 ?_
    refine x_iret rfl rfl ?_
    show jX m_X11_soul 8 0 0 6 [(0, .ref 31), (1, .int a1), (2, .int a2)] [.int (-1)] _ 0 0 _
    refine x_iret rfl rfl ?_
    exact hQ _ _ (jr_of jk_m1 (by omega)) J Sm
  ·
    refine x_aloadn (x := 31) rfl rfl ?_
    refine z_getR (N := 13) (b := 78) 11 4 rfl f_11_41 rfl J rfl 3972 ⟨rfl, rfl⟩ rfl ?_
    refine x_iloadn (x := a1) rfl rfl ?_
    refine x_inv (N := m_X7_isMention) (As := [.int a1]) (b := 78) (st := []) (d' := 6) (mc := 0) (ms := 0) (host := "") 7 rfl t_X7_isMention ⟨Or.inl q_11_187, i_X7_isMention.1, i_X7_isMention.2⟩ ⟨by decide, rfl⟩ (congrArg Prod.fst (J.1.1 78 (7, 16) rfl)) rfl (by decide) rfl rfl ⟨by decide, by decide⟩ (jC.of rfl k_X7_isMention rfl ?_)
    show jX m_X7_isMention 6 0 0 0 [(0, .ref 78), (1, .int a1)] [] _ 0 0 _
    refine x_iloadn (x := a1) rfl rfl ?_
    refine x_iflt (tgt := 41) rfl rfl (ti_lt rfl jk_0 ⟨fun c3 => ?_, fun c3 => ?_⟩)
    ·
      refine x_iconst (v := 0) rfl ki_0 ?_
      refine x_zret rfl rfl (by decide) ?_
      show jX m_X11_soulOn 7 0 0 15 [(0, .ref 31), (1, .int a1), (2, .int a2)] [.int 0] _ 0 0 _
      refine x_ifne (tgt := 20) rfl rfl (ti_ne jk_0 jk_0 (bn_f (by omega) ?_))
      refine x_iconst (v := (-1)) rfl ki_m1 ?_
      refine x_iret rfl rfl ?_
      show jX m_X11_soul 8 0 0 6 [(0, .ref 31), (1, .int a1), (2, .int a2)] [.int (-1)] _ 0 0 _
      refine x_iret rfl rfl ?_
      exact hQ _ _ (jr_of jk_m1 (by omega)) J Sm
    ·
      refine x_iloadn (x := a1) rfl rfl ?_
      refine x_sipush (v := 600) rfl ks_600 ?_
      refine x_icge (tgt := 41) rfl rfl (ti_ge rfl jk_600 ⟨fun c4 => ?_, fun c4 => ?_⟩)
      ·
        refine x_iconst (v := 0) rfl ki_0 ?_
        refine x_zret rfl rfl (by decide) ?_
        show jX m_X11_soulOn 7 0 0 15 [(0, .ref 31), (1, .int a1), (2, .int a2)] [.int 0] _ 0 0 _
        refine x_ifne (tgt := 20) rfl rfl (ti_ne jk_0 jk_0 (bn_f (by omega) ?_))
        refine x_iconst (v := (-1)) rfl ki_m1 ?_
        refine x_iret rfl rfl ?_
        show jX m_X11_soul 8 0 0 6 [(0, .ref 31), (1, .int a1), (2, .int a2)] [.int (-1)] _ 0 0 _
        refine x_iret rfl rfl ?_
        exact hQ _ _ (jr_of jk_m1 (by omega)) J Sm
      ·
        refine x_iloadn (x := a1) rfl rfl ?_
        refine x_iconst (v := 3) rfl ki_3 ?_
        refine z_idiv rfl rfl jk_3 (by omega) (by omega) (fun v5 ev5 => ?_)
        refine x_aloadn (x := 78) rfl rfl ?_
        refine z_getR (N := 16) (b := 32) 7 0 rfl f_7_55 rfl J rfl 9984 ⟨rfl, rfl⟩ rfl ?_
        refine z_getR (N := 20) (b := 33) 1 0 rfl f_7_63 rfl J rfl 4096 ⟨rfl, rfl⟩ rfl ?_
        refine z_getI (N := 4) 8 3 rfl f_7_85 rfl J rfl sg_33_3_4_1_0_1 (fun v6 qv6 ev6 => ?_)
        refine x_icge (tgt := 41) rfl rfl (ti_ge rfl rfl ⟨fun c7 => ?_, fun c7 => ?_⟩)
        ·
          refine x_iconst (v := 0) rfl ki_0 ?_
          refine x_zret rfl rfl (by decide) ?_
          show jX m_X11_soulOn 7 0 0 15 [(0, .ref 31), (1, .int a1), (2, .int a2)] [.int 0] _ 0 0 _
          refine x_ifne (tgt := 20) rfl rfl (ti_ne jk_0 jk_0 (bn_f (by omega) ?_))
          refine x_iconst (v := (-1)) rfl ki_m1 ?_
          refine x_iret rfl rfl ?_
          show jX m_X11_soul 8 0 0 6 [(0, .ref 31), (1, .int a1), (2, .int a2)] [.int (-1)] _ 0 0 _
          refine x_iret rfl rfl ?_
          exact hQ _ _ (jr_of jk_m1 (by omega)) J Sm
        ·
          refine x_aloadn (x := 78) rfl rfl ?_
          refine z_getR (N := 16) (b := 79) 7 7 rfl f_7_27 rfl J rfl 9991 ⟨rfl, rfl⟩ rfl ?_
          refine x_iloadn (x := a1) rfl rfl ?_
          refine z_iald (N := 600) rfl J rfl sg_79_0_600_1_0_1 rfl (by omega) (fun v8 qv8 ev8 => ?_)
          refine x_iconst (v := (-1)) rfl ki_m1 ?_
          refine x_iceq (tgt := 41) rfl rfl (ti_eq rfl jk_m1 ⟨fun c9 => ?_, fun c9 => ?_⟩)
          ·
            refine x_iconst (v := 0) rfl ki_0 ?_
            refine x_zret rfl rfl (by decide) ?_
            show jX m_X11_soulOn 7 0 0 15 [(0, .ref 31), (1, .int a1), (2, .int a2)] [.int 0] _ 0 0 _
            refine x_ifne (tgt := 20) rfl rfl (ti_ne jk_0 jk_0 (bn_f (by omega) ?_))
            refine x_iconst (v := (-1)) rfl ki_m1 ?_
            refine x_iret rfl rfl ?_
            show jX m_X11_soul 8 0 0 6 [(0, .ref 31), (1, .int a1), (2, .int a2)] [.int (-1)] _ 0 0 _
            refine x_iret rfl rfl ?_
            exact hQ _ _ (jr_of jk_m1 (by omega)) J Sm
          ·
            refine x_iconst (v := 1) rfl ki_1 ?_
            refine x_goto (tgt := 42) rfl rfl ?_
            refine x_zret rfl rfl (by decide) ?_
            show jX m_X11_soulOn 7 0 0 15 [(0, .ref 31), (1, .int a1), (2, .int a2)] [.int 1] _ 0 0 _
            refine x_ifne (tgt := 20) rfl rfl (ti_ne jk_1 jk_0 (bn_t (by omega) ?_))
            refine x_aloadn (x := 31) rfl rfl ?_
            refine z_getR (N := 13) (b := 78) 11 4 rfl f_11_41 rfl J rfl 3972 ⟨rfl, rfl⟩ rfl ?_
            refine x_iloadn (x := a2) rfl rfl ?_
            refine x_inv (N := m_X7_asKnown) (As := [.int a2]) (b := 78) (st := []) (d' := 6) (mc := 0) (ms := 0) (host := "") 7 rfl t_X7_asKnown ⟨Or.inl q_11_240, i_X7_asKnown.1, i_X7_asKnown.2⟩ ⟨by decide, rfl⟩ (congrArg Prod.fst (J.1.1 78 (7, 16) rfl)) rfl (by decide) rfl rfl ⟨by decide, by decide⟩ (sf_X7_asKnown_r78 (jr_of rfl (by omega)) hD J  (fun h J S10 => ?_))
            have Sm := jSm_tr rfl Sm S10
            show jX m_X11_soulOn 7 0 0 28 [(0, .ref 31), (1, .int a1), (2, .int a2)] [] _ 0 0 _
            refine x_aloadn (x := 31) rfl rfl ?_
            refine z_getR (N := 13) (b := 78) 11 4 rfl f_11_41 rfl J rfl 3972 ⟨rfl, rfl⟩ rfl ?_
            refine z_getR (N := 16) (b := 82) 7 10 rfl f_11_537 rfl J rfl 9994 ⟨rfl, rfl⟩ rfl ?_
            refine x_iloadn (x := a1) rfl rfl ?_
            refine z_iald (N := 600) rfl J rfl sg_82_0_600_1_0_1 rfl (by omega) (fun v11 qv11 ev11 => ?_)
            refine x_iret rfl rfl ?_
            show jX m_X11_soul 8 0 0 6 [(0, .ref 31), (1, .int a1), (2, .int a2)] [.int v11] _ 0 0 _
            refine x_iret rfl rfl ?_
            exact hQ _ _ (jr_of rfl (by omega)) J Sm
def fp_X11_span_r31 : jFp := [(78, 13, 14), (82, 0, 600), (83, 0, 600), (84, 0, 200), (85, 0, 4), (86, 0, 3)]
set_option maxRecDepth 100000 in
set_option maxHeartbeats 4000000 in
theorem ct_X11_span_r31_23 {Dy : jH → Prop} {h0 : jH} {Q : Option Value → jH → Prop} (hD : jDk Dy) (hQ : ∀ (v : Int32) h', jJ jSgX Dy h' → jSm fp_X11_span_r31 h0 h' → Q (some (.int v)) h') : ∀ (h : jH), jJ jSgX Dy h → jSm fp_X11_span_r31 h0 h → jX m_X11_span 8 0 0 23 [] [] h 0 0 Q := by
  intro  h    J Sm
  refine x_iconst (v := (-1)) rfl ki_m1 ?_
  refine x_iret rfl rfl ?_
  exact hQ _ _ J Sm
set_option maxRecDepth 100000 in
set_option maxHeartbeats 4000000 in
theorem sf_X11_span_r31 {Dy : jH → Prop} {h : jH} {Q : Option Value → jH → Prop} {a1 : Int32} {a2 : Int32} {a3 : Int32} (hD : jDk Dy) (J : jJ jSgX Dy h) (hQ : ∀ (v : Int32) h', jJ jSgX Dy h' → jSm fp_X11_span_r31 h h' → Q (some (.int v)) h') : jC m_X11_span 8 0 0 [.ref 31, .int a1, .int a2, .int a3] h Q := by
  refine jC.of rfl k_X11_span rfl ?_
  have Sm := jSm_rf fp_X11_span_r31 h
  have ea1 := jfull a1
  have ea2 := jfull a2
  have ea3 := jfull a3
  show jX m_X11_span 8 0 0 0 [(0, .ref 31), (1, .int a1), (2, .int a2), (3, .int a3)] [] _ 0 0 _
  refine x_aloadn (x := 31) rfl rfl ?_
  refine x_iloadn (x := a1) rfl rfl ?_
  refine x_iloadn (x := a2) rfl rfl ?_
  refine x_inv (N := m_X11_soulOn) (As := [.int a1, .int a2]) (b := 31) (st := []) (d' := 7) (mc := 0) (ms := 0) (host := "") 11 rfl t_X11_soulOn ⟨Or.inl q_11_234, i_X11_soulOn.1, i_X11_soulOn.2⟩ ⟨by decide, rfl⟩ (congrArg Prod.fst (J.1.1 31 (11, 13) rfl)) rfl (by decide) rfl rfl ⟨by decide, by decide⟩ (jC.of rfl k_X11_soulOn rfl ?_)
  show jX m_X11_soulOn 7 0 0 0 [(0, .ref 31), (1, .int a1), (2, .int a2)] [] _ 0 0 _
  refine x_iloadn (x := a2) rfl rfl ?_
  refine x_inst (N := m_X11_isDay) (As := [.int a2]) (st := []) (d' := 1) (mc := 0) (ms := 0) (host := "") rfl t_X11_isDay ⟨Or.inl q_11_115, s_X11_isDay⟩ rfl (by decide) rfl rfl ⟨by decide, by decide⟩ (zc_X11_isDay rfl (fun v1 ev1 => ?_))
  show jX m_X11_soulOn 7 0 0 4 [(0, .ref 31), (1, .int a1), (2, .int a2)] [.int v1] _ 0 0 _
  refine x_ifeq (tgt := 18) rfl rfl (ti_eq rfl jk_0 ⟨fun c2 => ?_, fun c2 => ?_⟩)
  ·
    refine x_iconst (v := (-1)) rfl ki_m1 ?_
    refine x_iret rfl rfl ?_
    show jX m_X11_span 8 0 0 6 [(0, .ref 31), (1, .int a1), (2, .int a2), (3, .int a3)] [.int (-1)] _ 0 0 _
    refine x_istore (ls' := [(4, .int (-1)), (0, .ref 31), (1, .int a1), (2, .int a2), (3, .int a3)]) rfl rfl rfl ?_
    refine x_iload (x := (-1)) rfl rfl ?_
    refine x_iconst (v := (-1)) rfl ki_m1 ?_
    refine x_iceq (tgt := 23) rfl rfl (ti_eq jk_m1 jk_m1 (br_t (by omega) ?_))
    exact jX.sub jsb_n (ct_X11_span_r31_23 hD hQ  h J Sm)
  ·
    refine x_aloadn (x := 31) rfl rfl ?_
    refine z_getR (N := 13) (b := 78) 11 4 rfl f_11_41 rfl J rfl 3972 ⟨rfl, rfl⟩ rfl ?_
    refine x_iloadn (x := a1) rfl rfl ?_
    refine x_inv (N := m_X7_isMention) (As := [.int a1]) (b := 78) (st := []) (d' := 6) (mc := 0) (ms := 0) (host := "") 7 rfl t_X7_isMention ⟨Or.inl q_11_187, i_X7_isMention.1, i_X7_isMention.2⟩ ⟨by decide, rfl⟩ (congrArg Prod.fst (J.1.1 78 (7, 16) rfl)) rfl (by decide) rfl rfl ⟨by decide, by decide⟩ (jC.of rfl k_X7_isMention rfl ?_)
    show jX m_X7_isMention 6 0 0 0 [(0, .ref 78), (1, .int a1)] [] _ 0 0 _
    refine x_iloadn (x := a1) rfl rfl ?_
    refine x_iflt (tgt := 41) rfl rfl (ti_lt rfl jk_0 ⟨fun c3 => ?_, fun c3 => ?_⟩)
    ·
      refine x_iconst (v := 0) rfl ki_0 ?_
      refine x_zret rfl rfl (by decide) ?_
      show jX m_X11_soulOn 7 0 0 15 [(0, .ref 31), (1, .int a1), (2, .int a2)] [.int 0] _ 0 0 _
      refine x_ifne (tgt := 20) rfl rfl (ti_ne jk_0 jk_0 (bn_f (by omega) ?_))
      refine x_iconst (v := (-1)) rfl ki_m1 ?_
      refine x_iret rfl rfl ?_
      show jX m_X11_span 8 0 0 6 [(0, .ref 31), (1, .int a1), (2, .int a2), (3, .int a3)] [.int (-1)] _ 0 0 _
      refine x_istore (ls' := [(4, .int (-1)), (0, .ref 31), (1, .int a1), (2, .int a2), (3, .int a3)]) rfl rfl rfl ?_
      refine x_iload (x := (-1)) rfl rfl ?_
      refine x_iconst (v := (-1)) rfl ki_m1 ?_
      refine x_iceq (tgt := 23) rfl rfl (ti_eq jk_m1 jk_m1 (br_t (by omega) ?_))
      exact jX.sub jsb_n (ct_X11_span_r31_23 hD hQ  h J Sm)
    ·
      refine x_iloadn (x := a1) rfl rfl ?_
      refine x_sipush (v := 600) rfl ks_600 ?_
      refine x_icge (tgt := 41) rfl rfl (ti_ge rfl jk_600 ⟨fun c4 => ?_, fun c4 => ?_⟩)
      ·
        refine x_iconst (v := 0) rfl ki_0 ?_
        refine x_zret rfl rfl (by decide) ?_
        show jX m_X11_soulOn 7 0 0 15 [(0, .ref 31), (1, .int a1), (2, .int a2)] [.int 0] _ 0 0 _
        refine x_ifne (tgt := 20) rfl rfl (ti_ne jk_0 jk_0 (bn_f (by omega) ?_))
        refine x_iconst (v := (-1)) rfl ki_m1 ?_
        refine x_iret rfl rfl ?_
        show jX m_X11_span 8 0 0 6 [(0, .ref 31), (1, .int a1), (2, .int a2), (3, .int a3)] [.int (-1)] _ 0 0 _
        refine x_istore (ls' := [(4, .int (-1)), (0, .ref 31), (1, .int a1), (2, .int a2), (3, .int a3)]) rfl rfl rfl ?_
        refine x_iload (x := (-1)) rfl rfl ?_
        refine x_iconst (v := (-1)) rfl ki_m1 ?_
        refine x_iceq (tgt := 23) rfl rfl (ti_eq jk_m1 jk_m1 (br_t (by omega) ?_))
        exact jX.sub jsb_n (ct_X11_span_r31_23 hD hQ  h J Sm)
      ·
        refine x_iloadn (x := a1) rfl rfl ?_
        refine x_iconst (v := 3) rfl ki_3 ?_
        refine z_idiv rfl rfl jk_3 (by omega) (by omega) (fun v5 ev5 => ?_)
        refine x_aloadn (x := 78) rfl rfl ?_
        refine z_getR (N := 16) (b := 32) 7 0 rfl f_7_55 rfl J rfl 9984 ⟨rfl, rfl⟩ rfl ?_
        refine z_getR (N := 20) (b := 33) 1 0 rfl f_7_63 rfl J rfl 4096 ⟨rfl, rfl⟩ rfl ?_
        refine z_getI (N := 4) 8 3 rfl f_7_85 rfl J rfl sg_33_3_4_1_0_1 (fun v6 qv6 ev6 => ?_)
        refine x_icge (tgt := 41) rfl rfl (ti_ge rfl rfl ⟨fun c7 => ?_, fun c7 => ?_⟩)
        ·
          refine x_iconst (v := 0) rfl ki_0 ?_
          refine x_zret rfl rfl (by decide) ?_
          show jX m_X11_soulOn 7 0 0 15 [(0, .ref 31), (1, .int a1), (2, .int a2)] [.int 0] _ 0 0 _
          refine x_ifne (tgt := 20) rfl rfl (ti_ne jk_0 jk_0 (bn_f (by omega) ?_))
          refine x_iconst (v := (-1)) rfl ki_m1 ?_
          refine x_iret rfl rfl ?_
          show jX m_X11_span 8 0 0 6 [(0, .ref 31), (1, .int a1), (2, .int a2), (3, .int a3)] [.int (-1)] _ 0 0 _
          refine x_istore (ls' := [(4, .int (-1)), (0, .ref 31), (1, .int a1), (2, .int a2), (3, .int a3)]) rfl rfl rfl ?_
          refine x_iload (x := (-1)) rfl rfl ?_
          refine x_iconst (v := (-1)) rfl ki_m1 ?_
          refine x_iceq (tgt := 23) rfl rfl (ti_eq jk_m1 jk_m1 (br_t (by omega) ?_))
          exact jX.sub jsb_n (ct_X11_span_r31_23 hD hQ  h J Sm)
        ·
          refine x_aloadn (x := 78) rfl rfl ?_
          refine z_getR (N := 16) (b := 79) 7 7 rfl f_7_27 rfl J rfl 9991 ⟨rfl, rfl⟩ rfl ?_
          refine x_iloadn (x := a1) rfl rfl ?_
          refine z_iald (N := 600) rfl J rfl sg_79_0_600_1_0_1 rfl (by omega) (fun v8 qv8 ev8 => ?_)
          refine x_iconst (v := (-1)) rfl ki_m1 ?_
          refine x_iceq (tgt := 41) rfl rfl (ti_eq rfl jk_m1 ⟨fun c9 => ?_, fun c9 => ?_⟩)
          ·
            refine x_iconst (v := 0) rfl ki_0 ?_
            refine x_zret rfl rfl (by decide) ?_
            show jX m_X11_soulOn 7 0 0 15 [(0, .ref 31), (1, .int a1), (2, .int a2)] [.int 0] _ 0 0 _
            refine x_ifne (tgt := 20) rfl rfl (ti_ne jk_0 jk_0 (bn_f (by omega) ?_))
            refine x_iconst (v := (-1)) rfl ki_m1 ?_
            refine x_iret rfl rfl ?_
            show jX m_X11_span 8 0 0 6 [(0, .ref 31), (1, .int a1), (2, .int a2), (3, .int a3)] [.int (-1)] _ 0 0 _
            refine x_istore (ls' := [(4, .int (-1)), (0, .ref 31), (1, .int a1), (2, .int a2), (3, .int a3)]) rfl rfl rfl ?_
            refine x_iload (x := (-1)) rfl rfl ?_
            refine x_iconst (v := (-1)) rfl ki_m1 ?_
            refine x_iceq (tgt := 23) rfl rfl (ti_eq jk_m1 jk_m1 (br_t (by omega) ?_))
            exact jX.sub jsb_n (ct_X11_span_r31_23 hD hQ  h J Sm)
          ·
            refine x_iconst (v := 1) rfl ki_1 ?_
            refine x_goto (tgt := 42) rfl rfl ?_
            refine x_zret rfl rfl (by decide) ?_
            show jX m_X11_soulOn 7 0 0 15 [(0, .ref 31), (1, .int a1), (2, .int a2)] [.int 1] _ 0 0 _
            refine x_ifne (tgt := 20) rfl rfl (ti_ne jk_1 jk_0 (bn_t (by omega) ?_))
            refine x_aloadn (x := 31) rfl rfl ?_
            refine z_getR (N := 13) (b := 78) 11 4 rfl f_11_41 rfl J rfl 3972 ⟨rfl, rfl⟩ rfl ?_
            refine x_iloadn (x := a2) rfl rfl ?_
            refine x_inv (N := m_X7_asKnown) (As := [.int a2]) (b := 78) (st := []) (d' := 6) (mc := 0) (ms := 0) (host := "") 7 rfl t_X7_asKnown ⟨Or.inl q_11_240, i_X7_asKnown.1, i_X7_asKnown.2⟩ ⟨by decide, rfl⟩ (congrArg Prod.fst (J.1.1 78 (7, 16) rfl)) rfl (by decide) rfl rfl ⟨by decide, by decide⟩ (sf_X7_asKnown_r78 (jr_of rfl (by omega)) hD J  (fun h J S10 => ?_))
            have Sm := jSm_tr rfl Sm S10
            show jX m_X11_soulOn 7 0 0 28 [(0, .ref 31), (1, .int a1), (2, .int a2)] [] _ 0 0 _
            refine x_aloadn (x := 31) rfl rfl ?_
            refine z_getR (N := 13) (b := 78) 11 4 rfl f_11_41 rfl J rfl 3972 ⟨rfl, rfl⟩ rfl ?_
            refine z_getR (N := 16) (b := 82) 7 10 rfl f_11_537 rfl J rfl 9994 ⟨rfl, rfl⟩ rfl ?_
            refine x_iloadn (x := a1) rfl rfl ?_
            refine z_iald (N := 600) rfl J rfl sg_82_0_600_1_0_1 rfl (by omega) (fun v11 qv11 ev11 => ?_)
            refine x_iret rfl rfl ?_
            show jX m_X11_span 8 0 0 6 [(0, .ref 31), (1, .int a1), (2, .int a2), (3, .int a3)] [.int v11] _ 0 0 _
            refine x_istore (ls' := [(4, .int v11), (0, .ref 31), (1, .int a1), (2, .int a2), (3, .int a3)]) rfl rfl rfl ?_
            refine x_iload (x := v11) rfl rfl ?_
            refine x_iconst (v := (-1)) rfl ki_m1 ?_
            refine x_iceq (tgt := 23) rfl rfl (ti_eq rfl jk_m1 ⟨fun c12 => ?_, fun c12 => ?_⟩)
            ·
              exact jX.sub jsb_n (ct_X11_span_r31_23 hD hQ  h J Sm)
            ·
              refine x_iloadn (x := a3) rfl rfl ?_
              refine x_iflt (tgt := 23) rfl rfl (ti_lt rfl jk_0 ⟨fun c13 => ?_, fun c13 => ?_⟩)
              ·
                exact jX.sub jsb_n (ct_X11_span_r31_23 hD hQ  h J Sm)
              ·
                refine x_iloadn (x := a3) rfl rfl ?_
                refine x_iconst (v := 3) rfl ki_3 ?_
                refine x_icle (tgt := 25) rfl rfl (ti_le rfl jk_3 ⟨fun c14 => ?_, fun c14 => ?_⟩)
                ·
                  refine x_aloadn (x := 31) rfl rfl ?_
                  refine z_getR (N := 13) (b := 78) 11 4 rfl f_11_41 rfl J rfl 3972 ⟨rfl, rfl⟩ rfl ?_
                  refine x_iload (x := v11) rfl rfl ?_
                  refine x_inv (N := m_X7_readSpan) (As := [.int v11]) (b := 78) (st := []) (d' := 1) (mc := 0) (ms := 0) (host := "") 7 rfl t_X7_readSpan ⟨Or.inl q_11_264, i_X7_readSpan.1, i_X7_readSpan.2⟩ ⟨by decide, rfl⟩ (congrArg Prod.fst (J.1.1 78 (7, 16) rfl)) rfl (by decide) rfl rfl ⟨by decide, by decide⟩ (sf_X7_readSpan_r78 (jr_of rfl (by omega)) hD J  (fun h J S15 => ?_))
                  have Sm := jSm_tr rfl Sm S15
                  show jX m_X11_span 8 0 0 34 [(4, .int v11), (0, .ref 31), (1, .int a1), (2, .int a2), (3, .int a3)] [] _ 0 0 _
                  refine x_aloadn (x := 31) rfl rfl ?_
                  refine z_getR (N := 13) (b := 78) 11 4 rfl f_11_41 rfl J rfl 3972 ⟨rfl, rfl⟩ rfl ?_
                  refine z_getR (N := 16) (b := 85) 7 14 rfl f_11_267 rfl J rfl 9998 ⟨rfl, rfl⟩ rfl ?_
                  refine x_iloadn (x := a3) rfl rfl ?_
                  refine z_iald0 (N := 4) rfl J rfl rfl (by omega) (fun v16 qv16 => ?_)
                  have ev16 := jfull v16
                  refine x_iret rfl rfl ?_
                  exact hQ _ _ J Sm
                ·
                  exact jX.sub jsb_n (ct_X11_span_r31_23 hD hQ  h J Sm)
def fp_X5_readSide_r70 : jFp := [(68, 3, 4), (68, 4, 5), (68, 5, 6), (72, 0, 64)]
set_option maxRecDepth 100000 in
set_option maxHeartbeats 4000000 in
theorem ct_X5_readSide_r70_28 {Dy : jH → Prop} {h0 : jH} {Q : Option Value → jH → Prop} (hD : jDk Dy) (hQ : ∀ (v : Int32) h', 0 ≤ v.toInt ∧ v.toInt ≤ 1 → jJ jSgX Dy h' → jSm fp_X5_readSide_r70 h0 h' → ∀ u0 u1 : Int32, jiv h' 68 5 = u0 → jiv h' 68 3 = u1 → (u0.toInt ≠ 3 ∨ u1.toInt ≤ 399) → Q (some (.int v)) h') : ∀ (g0 : Int32) (g1 : Int32) (h : jH), 0 ≤ g0.toInt ∧ g0.toInt ≤ 400 → 0 ≤ g1.toInt ∧ g1.toInt ≤ 3 → (g1.toInt ≠ 3 ∨ g0.toInt ≤ 399) → jiv h 68 3 = g0 → jiv h 68 5 = g1 → jJ jSgX Dy h → jSm fp_X5_readSide_r70 h0 h → jX m_X5_readSide 3 0 0 28 [] [] h 0 0 Q := by
  intro g0 g1 h y0 y1 y2 z0 z1  J Sm
  refine x_iconst (v := 0) rfl ki_0 ?_
  refine x_zret rfl rfl (by decide) ?_
  exact hQ _ _ (jr_of jk_0 (by omega)) J Sm _ _ z1 z0 (by omega)
set_option maxRecDepth 100000 in
set_option maxHeartbeats 4000000 in
theorem ct_X5_readSide_r70_39 {Dy : jH → Prop} {h0 : jH} {Q : Option Value → jH → Prop} (hD : jDk Dy) (hQ : ∀ (v : Int32) h', 0 ≤ v.toInt ∧ v.toInt ≤ 1 → jJ jSgX Dy h' → jSm fp_X5_readSide_r70 h0 h' → ∀ u0 u1 : Int32, jiv h' 68 5 = u0 → jiv h' 68 3 = u1 → (u0.toInt ≠ 3 ∨ u1.toInt ≤ 399) → Q (some (.int v)) h') : ∀ r : Nat, ∀ (l1 : Int32) (l2 : Int32) (l3 : Int32) (g0 : Int32) (g1 : Int32) (g2 : Int32) (h : jH), 3 - l3.toInt < (r : Int) → 0 ≤ l1.toInt ∧ l1.toInt ≤ 60 → l1.toInt % 4 = 0 → (-400) ≤ l2.toInt ∧ l2.toInt ≤ 3 → 0 ≤ l3.toInt ∧ l3.toInt ≤ 3 → 0 ≤ g0.toInt ∧ g0.toInt ≤ 400 → 0 ≤ g1.toInt ∧ g1.toInt ≤ 400 → 0 ≤ g2.toInt ∧ g2.toInt ≤ 3 → (g2.toInt ≠ 3 ∨ g0.toInt ≤ 399) → jiv h 68 3 = g0 → jiv h 68 4 = g1 → jiv h 68 5 = g2 → jJ jSgX Dy h → jSm fp_X5_readSide_r70 h0 h → jX m_X5_readSide 3 0 0 39 [(0, .ref 70), (1, .int l1), (2, .int l2), (3, .int l3)] [] h 0 0 Q := by
  intro r
  induction r with
  | zero =>
    intro l1 l2 l3 g0 g1 g2 h hm y0 y1 y2 y3 y4 y5 y6 y7 z0 z1 z2  J Sm
    exfalso
    omega
  | succ r ih =>
    intro l1 l2 l3 g0 g1 g2 h hm y0 y1 y2 y3 y4 y5 y6 y7 z0 z1 z2  J Sm
    refine x_iloadn (x := l3) rfl rfl ?_
    refine x_iloadn (x := l2) rfl rfl ?_
    refine x_icge (tgt := 68) rfl rfl (ti_ge rfl rfl ⟨fun c1 => ?_, fun c1 => ?_⟩)
    ·
      refine x_aloadn (x := 70) rfl rfl ?_
      refine z_getR (N := 9) (b := 68) 5 1 rfl f_5_39 rfl J rfl 8961 ⟨rfl, rfl⟩ rfl ?_
      refine x_inv (N := m_X9_step) (As := []) (b := 68) (st := []) (d' := 2) (mc := 0) (ms := 0) (host := "") 9 rfl t_X9_step ⟨Or.inl q_5_67, i_X9_step.1, i_X9_step.2⟩ ⟨by decide, rfl⟩ (congrArg Prod.fst (J.1.1 68 (9, 6) rfl)) rfl (by decide) rfl rfl ⟨by decide, by decide⟩ (sf_X9_step_r68  hD J z2 z0 (by omega)  (fun h J S2 u3 u4 qu3 qu4 ru3 => ?_))
      have Sm := jSm_tr rfl Sm S2
      have eu3 := (show 0 ≤ u3.toInt ∧ u3.toInt ≤ 3 from qu3 ▸ jrg_f J sg_68_5_6_1_0_1)
      have eu4 := (show 0 ≤ u4.toInt ∧ u4.toInt ≤ 400 from qu4 ▸ jrg_f J sg_68_3_4_1_0_1)
      show jX m_X5_readSide 3 0 0 75 [(0, .ref 70), (1, .int l1), (2, .int l2), (3, .int l3)] [] _ 0 0 _
      refine x_iconst (v := 1) rfl ki_1 ?_
      refine x_zret rfl rfl (by decide) ?_
      exact hQ _ _ (jr_of jk_1 (by omega)) J Sm _ _ qu3 qu4 (by omega)
    ·
      refine x_aloadn (x := 70) rfl rfl ?_
      refine z_getR (N := 9) (b := 72) 5 3 rfl f_5_15 rfl J rfl 8963 ⟨rfl, rfl⟩ rfl ?_
      refine x_iloadn (x := l1) rfl rfl ?_
      refine x_iconst (v := 1) rfl ki_1 ?_
      refine z_iadd rfl rfl jk_1 (by omega) (fun v5 ev5 => ?_)
      refine x_iloadn (x := l3) rfl rfl ?_
      refine z_iadd rfl rfl rfl (by omega) (fun v6 ev6 => ?_)
      refine x_aloadn (x := 70) rfl rfl ?_
      refine z_getR (N := 9) (b := 68) 5 1 rfl f_5_39 rfl J rfl 8961 ⟨rfl, rfl⟩ rfl ?_
      refine x_iloadn (x := l3) rfl rfl ?_
      refine x_inv (N := m_X9_letter) (As := [.int l3]) (b := 68) (st := [.int v6, .ref 72]) (d' := 2) (mc := 0) (ms := 0) (host := "") 9 rfl t_X9_letter ⟨Or.inl q_5_79, i_X9_letter.1, i_X9_letter.2⟩ ⟨by decide, rfl⟩ (congrArg Prod.fst (J.1.1 68 (9, 6) rfl)) rfl (by decide) rfl rfl ⟨by decide, by decide⟩ (jC.of rfl k_X9_letter rfl ?_)
      show jX m_X9_letter 2 0 0 0 [(0, .ref 68), (1, .int l3)] [] _ 0 0 _
      refine x_iloadn (x := l3) rfl rfl ?_
      refine x_iflt (tgt := 31) rfl rfl (ti_lt rfl jk_0 (br_f (by omega) ?_))
      refine x_iloadn (x := l3) rfl rfl ?_
      refine x_aloadn (x := 68) rfl rfl ?_
      refine z_getM (N := 6) (v := g1) 9 4 rfl f_9_25 rfl J rfl z1 ?_
      refine x_aloadn (x := 68) rfl rfl ?_
      refine z_getM (N := 6) (v := g0) 9 3 rfl f_9_22 rfl J rfl z0 ?_
      refine z_isub rfl rfl rfl (by omega) (fun v7 ev7 => ?_)
      refine x_icge (tgt := 31) rfl rfl (ti_ge rfl rfl ⟨fun c8 => ?_, fun c8 => ?_⟩)
      ·
        refine x_iconst (v := 0) rfl ki_0 ?_
        refine x_iret rfl rfl ?_
        show jX m_X5_readSide 3 0 0 61 [(0, .ref 70), (1, .int l1), (2, .int l2), (3, .int l3)] [.int 0, .int v6, .ref 72] _ 0 0 _
        refine z_iast (N := 64) (l := 0) (u := 64) (w := 0) rfl hD J Sm rfl rfl rfl (by omega) jk_0 (wr_72 (fun q1 q2 q3 q4 => by omega) (fun q1 q2 q3 q4 => by omega) (fun q1 q2 q3 q4 => by omega)) rfl (fun h w9 J Sm => ?_)
        refine z_iinc (x := l3) (ls' := fun v10 => [(3, .int v10), (0, .ref 70), (1, .int l1), (2, .int l2)]) rfl rfl rfl jko_1 (by omega) rfl (fun _ => rfl) (fun v10 ev10 => ?_)
        refine x_goto (tgt := 39) rfl rfl ?_
        exact jX.sub (jsb_c rfl (jsb_c rfl (jsb_c rfl (jsb_c rfl jsb_n)))) (ih l1 l2 v10 g0 g1 g2 h (by omega) (jr_of rfl (by omega)) (jr_mod rfl (by omega)) (jr_of rfl (by omega)) (jr_of rfl (by omega)) (jr_of rfl (by omega)) (jr_of rfl (by omega)) (jr_of rfl (by omega)) (by omega) (jmo w9 rfl z0) (jmo w9 rfl z1) (jmo w9 rfl z2) J Sm)
      ·
        refine x_aloadn (x := 68) rfl rfl ?_
        refine z_getR (N := 6) (b := 69) 9 0 rfl f_9_11 rfl J rfl 8704 ⟨rfl, rfl⟩ rfl ?_
        refine x_aloadn (x := 68) rfl rfl ?_
        refine z_getM (N := 6) (v := g0) 9 3 rfl f_9_22 rfl J rfl z0 ?_
        refine x_iloadn (x := l3) rfl rfl ?_
        refine z_iadd rfl rfl rfl (by omega) (fun v11 ev11 => ?_)
        refine z_iald (N := 400) rfl J rfl sg_69_0_400_1_0_1 rfl (by omega) (fun v12 qv12 ev12 => ?_)
        refine x_goto (tgt := 32) rfl rfl ?_
        refine x_iret rfl rfl ?_
        show jX m_X5_readSide 3 0 0 61 [(0, .ref 70), (1, .int l1), (2, .int l2), (3, .int l3)] [.int v12, .int v6, .ref 72] _ 0 0 _
        refine z_iast (N := 64) (l := 0) (u := 64) (w := v12.toInt) rfl hD J Sm rfl rfl rfl (by omega) rfl (wr_72 (fun q1 q2 q3 q4 => by omega) (fun q1 q2 q3 q4 => by omega) (fun q1 q2 q3 q4 => by omega)) rfl (fun h w13 J Sm => ?_)
        refine z_iinc (x := l3) (ls' := fun v14 => [(3, .int v14), (0, .ref 70), (1, .int l1), (2, .int l2)]) rfl rfl rfl jko_1 (by omega) rfl (fun _ => rfl) (fun v14 ev14 => ?_)
        refine x_goto (tgt := 39) rfl rfl ?_
        exact jX.sub (jsb_c rfl (jsb_c rfl (jsb_c rfl (jsb_c rfl jsb_n)))) (ih l1 l2 v14 g0 g1 g2 h (by omega) (jr_of rfl (by omega)) (jr_mod rfl (by omega)) (jr_of rfl (by omega)) (jr_of rfl (by omega)) (jr_of rfl (by omega)) (jr_of rfl (by omega)) (jr_of rfl (by omega)) (by omega) (jmo w13 rfl z0) (jmo w13 rfl z1) (jmo w13 rfl z2) J Sm)
set_option maxRecDepth 100000 in
set_option maxHeartbeats 4000000 in
theorem sf_X5_readSide_r70 {Dy : jH → Prop} {h : jH} {Q : Option Value → jH → Prop} {a1 : Int32} (y1 : 0 ≤ a1.toInt ∧ a1.toInt ≤ 60) (ym1 : a1.toInt % 4 = 0) (hD : jDk Dy) (J : jJ jSgX Dy h) {p0 p1 : Int32} (zp0 : jiv h 68 5 = p0) (zp1 : jiv h 68 3 = p1) (rl_p0 : (p0.toInt ≠ 3 ∨ p1.toInt ≤ 399)) (hQ : ∀ (v : Int32) h', 0 ≤ v.toInt ∧ v.toInt ≤ 1 → jJ jSgX Dy h' → jSm fp_X5_readSide_r70 h h' → ∀ u0 u1 : Int32, jiv h' 68 5 = u0 → jiv h' 68 3 = u1 → (u0.toInt ≠ 3 ∨ u1.toInt ≤ 399) → Q (some (.int v)) h') : jC m_X5_readSide 3 0 0 [.ref 70, .int a1] h Q := by
  refine jC.of rfl k_X5_readSide rfl ?_
  have Sm := jSm_rf fp_X5_readSide_r70 h
  have ep0 := (show 0 ≤ p0.toInt ∧ p0.toInt ≤ 3 from zp0 ▸ jrg_f J sg_68_5_6_1_0_1)
  have ep1 := (show 0 ≤ p1.toInt ∧ p1.toInt ≤ 400 from zp1 ▸ jrg_f J sg_68_3_4_1_0_1)
  show jX m_X5_readSide 3 0 0 0 [(0, .ref 70), (1, .int a1)] [] _ 0 0 _
  refine x_aloadn (x := 70) rfl rfl ?_
  refine z_getR (N := 9) (b := 68) 5 1 rfl f_5_39 rfl J rfl 8961 ⟨rfl, rfl⟩ rfl ?_
  refine x_inv (N := m_X9_size) (As := []) (b := 68) (st := []) (d' := 2) (mc := 0) (ms := 0) (host := "") 9 rfl t_X9_size ⟨Or.inl q_5_73, i_X9_size.1, i_X9_size.2⟩ ⟨by decide, rfl⟩ (congrArg Prod.fst (J.1.1 68 (9, 6) rfl)) rfl (by decide) rfl rfl ⟨by decide, by decide⟩ (jC.of rfl k_X9_size rfl ?_)
  show jX m_X9_size 2 0 0 0 [(0, .ref 68)] [] _ 0 0 _
  refine x_aloadn (x := 68) rfl rfl ?_
  refine z_getI (N := 6) 9 4 rfl f_9_25 rfl J rfl sg_68_4_5_1_0_1 (fun v1 qv1 ev1 => ?_)
  refine x_aloadn (x := 68) rfl rfl ?_
  refine z_getM (N := 6) (v := p1) 9 3 rfl f_9_22 rfl J rfl zp1 ?_
  refine z_isub rfl rfl rfl (by omega) (fun v2 ev2 => ?_)
  refine x_iret rfl rfl ?_
  show jX m_X5_readSide 3 0 0 7 [(0, .ref 70), (1, .int a1)] [.int v2] _ 0 0 _
  refine x_istoren (ls' := [(2, .int v2), (0, .ref 70), (1, .int a1)]) rfl rfl rfl ?_
  refine x_iloadn (x := v2) rfl rfl ?_
  refine x_iconst (v := 3) rfl ki_3 ?_
  refine x_icgt (tgt := 28) rfl rfl (ti_gt rfl jk_3 ⟨fun c3 => ?_, fun c3 => ?_⟩)
  ·
    exact jX.sub jsb_n (ct_X5_readSide_r70_28 hD hQ  p1 p0 h (jr_of rfl (by omega)) (jr_of rfl (by omega)) (by omega) zp1 zp0 J Sm)
  ·
    refine x_iloadn (x := a1) rfl rfl ?_
    refine x_iflt (tgt := 28) rfl rfl (ti_lt rfl jk_0 (br_f (by omega) ?_))
    refine x_iloadn (x := a1) rfl rfl ?_
    refine x_iconst (v := 3) rfl ki_3 ?_
    refine z_iadd rfl rfl jk_3 (by omega) (fun v4 ev4 => ?_)
    refine x_aloadn (x := 70) rfl rfl ?_
    refine z_getR (N := 9) (b := 72) 5 3 rfl f_5_15 rfl J rfl 8963 ⟨rfl, rfl⟩ rfl ?_
    refine z_alen (N := 64) (v := 64) rfl J rfl rfl (by decide) ?_
    refine x_iclt (tgt := 30) rfl rfl (ti_lt rfl jk_64 (br_t (by omega) ?_))
    refine x_aloadn (x := 70) rfl rfl ?_
    refine z_getR (N := 9) (b := 72) 5 3 rfl f_5_15 rfl J rfl 8963 ⟨rfl, rfl⟩ rfl ?_
    refine x_iloadn (x := a1) rfl rfl ?_
    refine x_iloadn (x := v2) rfl rfl ?_
    refine z_iast (N := 64) (l := 0) (u := 64) (w := v2.toInt) rfl hD J Sm rfl rfl rfl (by omega) rfl (wr_72 (fun q1 q2 q3 q4 => by omega) (fun q1 q2 q3 q4 => by omega) (fun q1 q2 q3 q4 => by omega)) rfl (fun h w5 J Sm => ?_)
    refine x_iconst (v := 0) rfl ki_0 ?_
    refine x_istoren (ls' := [(3, .int 0), (2, .int v2), (0, .ref 70), (1, .int a1)]) rfl rfl rfl ?_
    exact jX.sub (jsb_c rfl (jsb_c rfl (jsb_c rfl (jsb_c rfl jsb_n)))) (ct_X5_readSide_r70_39 hD hQ  4 a1 v2 0 p1 v1 p0 h (by have := jk_0; omega) (jr_of rfl (by omega)) (jr_mod rfl (by omega)) (jr_of rfl (by omega)) (jr_of jk_0 (by omega)) (jr_of rfl (by omega)) (jr_of rfl (by omega)) (jr_of rfl (by omega)) (by omega) (jmo w5 rfl zp1) (jmo w5 rfl qv1) (jmo w5 rfl zp0) J Sm)
def fp_X5_readPair_r70 : jFp := [(68, 2, 3), (68, 3, 4), (68, 4, 5), (68, 5, 6), (72, 0, 64)]
set_option maxRecDepth 100000 in
set_option maxHeartbeats 4000000 in
theorem ct_X5_readPair_r70_18 {Dy : jH → Prop} {h0 : jH} {Q : Option Value → jH → Prop} (hD : jDk Dy) (hQ : ∀ (v : Int32) h', 0 ≤ v.toInt ∧ v.toInt ≤ 1 → jJ jSgX Dy h' → jSm fp_X5_readPair_r70 h0 h' → ∀ u0 u1 : Int32, jiv h' 68 5 = u0 → jiv h' 68 3 = u1 → (u0.toInt ≠ 3 ∨ u1.toInt ≤ 399) → Q (some (.int v)) h') : ∀ (g0 : Int32) (g1 : Int32) (h : jH), 0 ≤ g0.toInt ∧ g0.toInt ≤ 400 → 0 ≤ g1.toInt ∧ g1.toInt ≤ 3 → (g1.toInt ≠ 3 ∨ g0.toInt ≤ 399) → jiv h 68 3 = g0 → jiv h 68 5 = g1 → jJ jSgX Dy h → jSm fp_X5_readPair_r70 h0 h → jX m_X5_readPair 4 0 0 18 [(0, .ref 70)] [] h 0 0 Q := by
  intro g0 g1 h y0 y1 y2 z0 z1  J Sm
  refine x_aloadn (x := 70) rfl rfl ?_
  refine z_getR (N := 9) (b := 68) 5 1 rfl f_5_39 rfl J rfl 8961 ⟨rfl, rfl⟩ rfl ?_
  refine x_inv (N := m_X9_blame) (As := []) (b := 68) (st := []) (d' := 3) (mc := 0) (ms := 0) (host := "") 9 rfl t_X9_blame ⟨Or.inl q_5_64, i_X9_blame.1, i_X9_blame.2⟩ ⟨by decide, rfl⟩ (congrArg Prod.fst (J.1.1 68 (9, 6) rfl)) rfl (by decide) rfl rfl ⟨by decide, by decide⟩ (jC.of rfl k_X9_blame rfl ?_)
  show jX m_X9_blame 3 0 0 0 [(0, .ref 68)] [] _ 0 0 _
  refine x_aloadn (x := 68) rfl rfl ?_
  refine x_aloadn (x := 68) rfl rfl ?_
  refine z_getM (N := 6) (v := g0) 9 3 rfl f_9_22 rfl J rfl z0 ?_
  refine z_putI (N := 6) (w := g0.toInt) 9 2 rfl f_9_19 rfl (jfin_no TX9 RX9 6 rfl rfl) hD J Sm rfl rfl rfl (pw_68_2 (by omega)) rfl (fun h w1 J Sm => ?_)
  refine x_iconst (v := 0) rfl ki_0 ?_
  refine x_zret rfl rfl (by decide) ?_
  show jX m_X5_readPair 4 0 0 25 [(0, .ref 70)] [.int 0] _ 0 0 _
  refine x_zret rfl rfl (by decide) ?_
  exact hQ _ _ (jr_of jk_0 (by omega)) J Sm _ _ (jmo w1 rfl z1) (jmo w1 rfl z0) (by omega)
set_option maxRecDepth 100000 in
set_option maxHeartbeats 4000000 in
theorem ct_X5_readPair_r70_300099 {Dy : jH → Prop} {h0 : jH} {Q : Option Value → jH → Prop} (hD : jDk Dy) (hQ : ∀ (v : Int32) h', 0 ≤ v.toInt ∧ v.toInt ≤ 1 → jJ jSgX Dy h' → jSm fp_X5_readPair_r70 h0 h' → ∀ u0 u1 : Int32, jiv h' 68 5 = u0 → jiv h' 68 3 = u1 → (u0.toInt ≠ 3 ∨ u1.toInt ≤ 399) → Q (some (.int v)) h') : ∀ (g0 : Int32) (g1 : Int32) (h : jH), 0 ≤ g0.toInt ∧ g0.toInt ≤ 400 → 0 ≤ g1.toInt ∧ g1.toInt ≤ 3 → (g1.toInt ≠ 3 ∨ g0.toInt ≤ 399) → jiv h 68 3 = g0 → jiv h 68 5 = g1 → jJ jSgX Dy h → jSm fp_X5_readPair_r70 h0 h → jX m_X5_readPair 4 0 0 99 [] [.int 1] h 0 0 Q := by
  intro g0 g1 h y0 y1 y2 z0 z1  J Sm
  refine x_zret rfl rfl (by decide) ?_
  exact hQ _ _ (jr_of jk_1 (by omega)) J Sm _ _ z1 z0 (by omega)
set_option maxRecDepth 100000 in
set_option maxHeartbeats 4000000 in
theorem ct_X5_readPair_r70_200099 {Dy : jH → Prop} {h0 : jH} {Q : Option Value → jH → Prop} (hD : jDk Dy) (hQ : ∀ (v : Int32) h', 0 ≤ v.toInt ∧ v.toInt ≤ 1 → jJ jSgX Dy h' → jSm fp_X5_readPair_r70 h0 h' → ∀ u0 u1 : Int32, jiv h' 68 5 = u0 → jiv h' 68 3 = u1 → (u0.toInt ≠ 3 ∨ u1.toInt ≤ 399) → Q (some (.int v)) h') : ∀ (g0 : Int32) (g1 : Int32) (h : jH), 0 ≤ g0.toInt ∧ g0.toInt ≤ 400 → 0 ≤ g1.toInt ∧ g1.toInt ≤ 3 → (g1.toInt ≠ 3 ∨ g0.toInt ≤ 399) → jiv h 68 3 = g0 → jiv h 68 5 = g1 → jJ jSgX Dy h → jSm fp_X5_readPair_r70 h0 h → jX m_X5_readPair 4 0 0 99 [] [.int 0] h 0 0 Q := by
  intro g0 g1 h y0 y1 y2 z0 z1  J Sm
  refine x_zret rfl rfl (by decide) ?_
  exact hQ _ _ (jr_of jk_0 (by omega)) J Sm _ _ z1 z0 (by omega)
set_option maxRecDepth 100000 in
set_option maxHeartbeats 4000000 in
theorem ct_X5_readPair_r70_94 {Dy : jH → Prop} {h0 : jH} {Q : Option Value → jH → Prop} (hD : jDk Dy) (hQ : ∀ (v : Int32) h', 0 ≤ v.toInt ∧ v.toInt ≤ 1 → jJ jSgX Dy h' → jSm fp_X5_readPair_r70 h0 h' → ∀ u0 u1 : Int32, jiv h' 68 5 = u0 → jiv h' 68 3 = u1 → (u0.toInt ≠ 3 ∨ u1.toInt ≤ 399) → Q (some (.int v)) h') : ∀ (g0 : Int32) (g1 : Int32) (h : jH), 0 ≤ g0.toInt ∧ g0.toInt ≤ 400 → 0 ≤ g1.toInt ∧ g1.toInt ≤ 3 → (g1.toInt ≠ 3 ∨ g0.toInt ≤ 399) → jiv h 68 3 = g0 → jiv h 68 5 = g1 → jJ jSgX Dy h → jSm fp_X5_readPair_r70 h0 h → jX m_X5_readPair 4 0 0 94 [] [] h 0 0 Q := by
  intro g0 g1 h y0 y1 y2 z0 z1  J Sm
  refine x_iconst (v := 1) rfl ki_1 ?_
  refine x_goto (tgt := 99) rfl rfl ?_
  exact jX.sub jsb_n (ct_X5_readPair_r70_300099 hD hQ  g0 g1 h (jr_of rfl (by omega)) (jr_of rfl (by omega)) (by omega) z0 z1 J Sm)
set_option maxRecDepth 100000 in
set_option maxHeartbeats 4000000 in
theorem sf_X5_readPair_r70 {Dy : jH → Prop} {h : jH} {Q : Option Value → jH → Prop} {a1 : Int32} (y1 : 0 ≤ a1.toInt ∧ a1.toInt ≤ 56) (ym1 : a1.toInt % 8 = 0) (hD : jDk Dy) (J : jJ jSgX Dy h) {p0 p1 : Int32} (zp0 : jiv h 68 5 = p0) (zp1 : jiv h 68 3 = p1) (rl_p0 : (p0.toInt ≠ 3 ∨ p1.toInt ≤ 399)) (hQ : ∀ (v : Int32) h', 0 ≤ v.toInt ∧ v.toInt ≤ 1 → jJ jSgX Dy h' → jSm fp_X5_readPair_r70 h h' → ∀ u0 u1 : Int32, jiv h' 68 5 = u0 → jiv h' 68 3 = u1 → (u0.toInt ≠ 3 ∨ u1.toInt ≤ 399) → Q (some (.int v)) h') : jC m_X5_readPair 4 0 0 [.ref 70, .int a1] h Q := by
  refine jC.of rfl k_X5_readPair rfl ?_
  have Sm := jSm_rf fp_X5_readPair_r70 h
  have ep0 := (show 0 ≤ p0.toInt ∧ p0.toInt ≤ 3 from zp0 ▸ jrg_f J sg_68_5_6_1_0_1)
  have ep1 := (show 0 ≤ p1.toInt ∧ p1.toInt ≤ 400 from zp1 ▸ jrg_f J sg_68_3_4_1_0_1)
  show jX m_X5_readPair 4 0 0 0 [(0, .ref 70), (1, .int a1)] [] _ 0 0 _
  refine x_aloadn (x := 70) rfl rfl ?_
  refine z_getR (N := 9) (b := 68) 5 1 rfl f_5_39 rfl J rfl 8961 ⟨rfl, rfl⟩ rfl ?_
  refine x_inv (N := m_X9_isLetters) (As := []) (b := 68) (st := []) (d' := 3) (mc := 0) (ms := 0) (host := "") 9 rfl t_X9_isLetters ⟨Or.inl q_5_76, i_X9_isLetters.1, i_X9_isLetters.2⟩ ⟨by decide, rfl⟩ (congrArg Prod.fst (J.1.1 68 (9, 6) rfl)) rfl (by decide) rfl rfl ⟨by decide, by decide⟩ (jC.of rfl k_X9_isLetters rfl ?_)
  show jX m_X9_isLetters 3 0 0 0 [(0, .ref 68)] [] _ 0 0 _
  refine x_aloadn (x := 68) rfl rfl ?_
  refine z_getM (N := 6) (v := p0) 9 5 rfl f_9_28 rfl J rfl zp0 ?_
  refine x_iconst (v := 1) rfl ki_1 ?_
  refine x_icne (tgt := 12) rfl rfl (ti_ne rfl jk_1 ⟨fun c1 => ?_, fun c1 => ?_⟩)
  ·
    refine x_iconst (v := 0) rfl ki_0 ?_
    refine x_zret rfl rfl (by decide) ?_
    show jX m_X5_readPair 4 0 0 7 [(0, .ref 70), (1, .int a1)] [.int 0] _ 0 0 _
    refine x_ifeq (tgt := 18) rfl rfl (ti_eq jk_0 jk_0 (br_t (by omega) ?_))
    exact jX.sub (jsb_c rfl jsb_n) (ct_X5_readPair_r70_18 hD hQ  p1 p0 h (jr_of rfl (by omega)) (jr_of rfl (by omega)) (by omega) zp1 zp0 J Sm)
  ·
    refine x_iconst (v := 1) rfl ki_1 ?_
    refine x_goto (tgt := 13) rfl rfl ?_
    refine x_zret rfl rfl (by decide) ?_
    show jX m_X5_readPair 4 0 0 7 [(0, .ref 70), (1, .int a1)] [.int 1] _ 0 0 _
    refine x_ifeq (tgt := 18) rfl rfl (ti_eq jk_1 jk_0 (br_f (by omega) ?_))
    refine x_aloadn (x := 70) rfl rfl ?_
    refine x_iloadn (x := a1) rfl rfl ?_
    refine x_inv (N := m_X5_readSide) (As := [.int a1]) (b := 70) (st := []) (d' := 3) (mc := 0) (ms := 0) (host := "") 5 rfl t_X5_readSide ⟨Or.inl q_5_93, i_X5_readSide.1, i_X5_readSide.2⟩ ⟨by decide, rfl⟩ (congrArg Prod.fst (J.1.1 70 (5, 9) rfl)) rfl (by decide) rfl rfl ⟨by decide, by decide⟩ (sf_X5_readSide_r70 (jr_of rfl (by omega)) (jr_mod rfl (by omega)) hD J zp0 zp1 (by omega)  (fun v5 h ev5 J S2 u3 u4 qu3 qu4 ru3 => ?_))
    have Sm := jSm_tr rfl Sm S2
    have eu3 := (show 0 ≤ u3.toInt ∧ u3.toInt ≤ 3 from qu3 ▸ jrg_f J sg_68_5_6_1_0_1)
    have eu4 := (show 0 ≤ u4.toInt ∧ u4.toInt ≤ 400 from qu4 ▸ jrg_f J sg_68_3_4_1_0_1)
    show jX m_X5_readPair 4 0 0 15 [(0, .ref 70), (1, .int a1)] [.int v5] _ 0 0 _
    refine x_ifne (tgt := 26) rfl rfl (ti_ne rfl jk_0 ⟨fun c6 => ?_, fun c6 => ?_⟩)
    ·
      refine x_aloadn (x := 70) rfl rfl ?_
      refine z_getR (N := 9) (b := 68) 5 1 rfl f_5_39 rfl J rfl 8961 ⟨rfl, rfl⟩ rfl ?_
      refine x_bipush (v := 62) rfl kb_62 ?_
      refine x_inv (N := m_X9_isSign) (As := [.int 62]) (b := 68) (st := []) (d' := 1) (mc := 0) (ms := 0) (host := "") 9 rfl t_X9_isSign ⟨Or.inl q_5_48, i_X9_isSign.1, i_X9_isSign.2⟩ ⟨by decide, rfl⟩ (congrArg Prod.fst (J.1.1 68 (9, 6) rfl)) rfl (by decide) rfl rfl ⟨by decide, by decide⟩ (sf_X9_isSign_r68 (jr_of jk_62 (by omega)) hD J qu3 qu4 (by omega)  (fun v10 h ev10 J S7 u8 u9 qu8 qu9 ru8 => ?_))
      have Sm := jSm_tr rfl Sm S7
      have eu8 := (show 0 ≤ u8.toInt ∧ u8.toInt ≤ 3 from qu8 ▸ jrg_f J sg_68_5_6_1_0_1)
      have eu9 := (show 0 ≤ u9.toInt ∧ u9.toInt ≤ 400 from qu9 ▸ jrg_f J sg_68_3_4_1_0_1)
      show jX m_X5_readPair 4 0 0 35 [(0, .ref 70), (1, .int a1)] [.int v10] _ 0 0 _
      refine x_ifne (tgt := 46) rfl rfl (ti_ne rfl jk_0 ⟨fun c11 => ?_, fun c11 => ?_⟩)
      ·
        refine x_aloadn (x := 70) rfl rfl ?_
        refine z_getR (N := 9) (b := 68) 5 1 rfl f_5_39 rfl J rfl 8961 ⟨rfl, rfl⟩ rfl ?_
        refine x_inv (N := m_X9_step) (As := []) (b := 68) (st := []) (d' := 2) (mc := 0) (ms := 0) (host := "") 9 rfl t_X9_step ⟨Or.inl q_5_67, i_X9_step.1, i_X9_step.2⟩ ⟨by decide, rfl⟩ (congrArg Prod.fst (J.1.1 68 (9, 6) rfl)) rfl (by decide) rfl rfl ⟨by decide, by decide⟩ (sf_X9_step_r68  hD J qu8 qu9 (by omega)  (fun h J S12 u13 u14 qu13 qu14 ru13 => ?_))
        have Sm := jSm_tr rfl Sm S12
        have eu13 := (show 0 ≤ u13.toInt ∧ u13.toInt ≤ 3 from qu13 ▸ jrg_f J sg_68_5_6_1_0_1)
        have eu14 := (show 0 ≤ u14.toInt ∧ u14.toInt ≤ 400 from qu14 ▸ jrg_f J sg_68_3_4_1_0_1)
        show jX m_X5_readPair 4 0 0 53 [(0, .ref 70), (1, .int a1)] [] _ 0 0 _
        refine x_aloadn (x := 70) rfl rfl ?_
        refine z_getR (N := 9) (b := 68) 5 1 rfl f_5_39 rfl J rfl 8961 ⟨rfl, rfl⟩ rfl ?_
        refine x_inv (N := m_X9_isLetters) (As := []) (b := 68) (st := []) (d' := 3) (mc := 0) (ms := 0) (host := "") 9 rfl t_X9_isLetters ⟨Or.inl q_5_76, i_X9_isLetters.1, i_X9_isLetters.2⟩ ⟨by decide, rfl⟩ (congrArg Prod.fst (J.1.1 68 (9, 6) rfl)) rfl (by decide) rfl rfl ⟨by decide, by decide⟩ (jC.of rfl k_X9_isLetters rfl ?_)
        show jX m_X9_isLetters 3 0 0 0 [(0, .ref 68)] [] _ 0 0 _
        refine x_aloadn (x := 68) rfl rfl ?_
        refine z_getM (N := 6) (v := u13) 9 5 rfl f_9_28 rfl J rfl qu13 ?_
        refine x_iconst (v := 1) rfl ki_1 ?_
        refine x_icne (tgt := 12) rfl rfl (ti_ne rfl jk_1 ⟨fun c15 => ?_, fun c15 => ?_⟩)
        ·
          refine x_iconst (v := 0) rfl ki_0 ?_
          refine x_zret rfl rfl (by decide) ?_
          show jX m_X5_readPair 4 0 0 60 [(0, .ref 70), (1, .int a1)] [.int 0] _ 0 0 _
          refine x_ifne (tgt := 74) rfl rfl (ti_ne jk_0 jk_0 (bn_f (by omega) ?_))
          refine x_aloadn (x := 70) rfl rfl ?_
          refine z_getR (N := 9) (b := 72) 5 3 rfl f_5_15 rfl J rfl 8963 ⟨rfl, rfl⟩ rfl ?_
          refine x_iloadn (x := a1) rfl rfl ?_
          refine x_iconst (v := 4) rfl ki_4 ?_
          refine z_iadd rfl rfl jk_4 (by omega) (fun v16 ev16 => ?_)
          refine x_iconst (v := 0) rfl ki_0 ?_
          refine z_iast (N := 64) (l := 0) (u := 64) (w := 0) rfl hD J Sm rfl rfl rfl (by omega) jk_0 (wr_72 (fun q1 q2 q3 q4 => by omega) (fun q1 q2 q3 q4 => by omega) (fun q1 q2 q3 q4 => by omega)) rfl (fun h w17 J Sm => ?_)
          refine x_iconst (v := 1) rfl ki_1 ?_
          refine x_zret rfl rfl (by decide) ?_
          exact hQ _ _ (jr_of jk_1 (by omega)) J Sm _ _ (jmo w17 rfl qu13) (jmo w17 rfl qu14) (by omega)
        ·
          refine x_iconst (v := 1) rfl ki_1 ?_
          refine x_goto (tgt := 13) rfl rfl ?_
          refine x_zret rfl rfl (by decide) ?_
          show jX m_X5_readPair 4 0 0 60 [(0, .ref 70), (1, .int a1)] [.int 1] _ 0 0 _
          refine x_ifne (tgt := 74) rfl rfl (ti_ne jk_1 jk_0 (bn_t (by omega) ?_))
          refine x_aloadn (x := 70) rfl rfl ?_
          refine x_iloadn (x := a1) rfl rfl ?_
          refine x_iconst (v := 4) rfl ki_4 ?_
          refine z_iadd rfl rfl jk_4 (by omega) (fun v18 ev18 => ?_)
          refine x_inv (N := m_X5_readSide) (As := [.int v18]) (b := 70) (st := []) (d' := 3) (mc := 0) (ms := 0) (host := "") 5 rfl t_X5_readSide ⟨Or.inl q_5_93, i_X5_readSide.1, i_X5_readSide.2⟩ ⟨by decide, rfl⟩ (congrArg Prod.fst (J.1.1 70 (5, 9) rfl)) rfl (by decide) rfl rfl ⟨by decide, by decide⟩ (sf_X5_readSide_r70 (jr_of rfl (by omega)) (jr_mod rfl (by omega)) hD J qu13 qu14 (by omega)  (fun v22 h ev22 J S19 u20 u21 qu20 qu21 ru20 => ?_))
          have Sm := jSm_tr rfl Sm S19
          have eu20 := (show 0 ≤ u20.toInt ∧ u20.toInt ≤ 3 from qu20 ▸ jrg_f J sg_68_5_6_1_0_1)
          have eu21 := (show 0 ≤ u21.toInt ∧ u21.toInt ≤ 400 from qu21 ▸ jrg_f J sg_68_3_4_1_0_1)
          show jX m_X5_readPair 4 0 0 81 [(0, .ref 70), (1, .int a1)] [.int v22] _ 0 0 _
          refine x_ifne (tgt := 94) rfl rfl (ti_ne rfl jk_0 ⟨fun c23 => ?_, fun c23 => ?_⟩)
          ·
            exact jX.sub jsb_n (ct_X5_readPair_r70_94 hD hQ  u21 u20 h (jr_of rfl (by omega)) (jr_of rfl (by omega)) (by omega) qu21 qu20 J Sm)
          ·
            refine x_aloadn (x := 70) rfl rfl ?_
            refine z_getR (N := 9) (b := 68) 5 1 rfl f_5_39 rfl J rfl 8961 ⟨rfl, rfl⟩ rfl ?_
            refine x_inv (N := m_X9_blame) (As := []) (b := 68) (st := []) (d' := 3) (mc := 0) (ms := 0) (host := "") 9 rfl t_X9_blame ⟨Or.inl q_5_64, i_X9_blame.1, i_X9_blame.2⟩ ⟨by decide, rfl⟩ (congrArg Prod.fst (J.1.1 68 (9, 6) rfl)) rfl (by decide) rfl rfl ⟨by decide, by decide⟩ (jC.of rfl k_X9_blame rfl ?_)
            show jX m_X9_blame 3 0 0 0 [(0, .ref 68)] [] _ 0 0 _
            refine x_aloadn (x := 68) rfl rfl ?_
            refine x_aloadn (x := 68) rfl rfl ?_
            refine z_getM (N := 6) (v := u21) 9 3 rfl f_9_22 rfl J rfl qu21 ?_
            refine z_putI (N := 6) (w := u21.toInt) 9 2 rfl f_9_19 rfl (jfin_no TX9 RX9 6 rfl rfl) hD J Sm rfl rfl rfl (pw_68_2 (by omega)) rfl (fun h w24 J Sm => ?_)
            refine x_iconst (v := 0) rfl ki_0 ?_
            refine x_zret rfl rfl (by decide) ?_
            show jX m_X5_readPair 4 0 0 91 [(0, .ref 70), (1, .int a1)] [.int 0] _ 0 0 _
            refine x_ifeq (tgt := 98) rfl rfl (ti_eq jk_0 jk_0 (br_t (by omega) ?_))
            refine x_iconst (v := 0) rfl ki_0 ?_
            exact jX.sub jsb_n (ct_X5_readPair_r70_200099 hD hQ  u21 u20 h (jr_of rfl (by omega)) (jr_of rfl (by omega)) (by omega) (jmo w24 rfl qu21) (jmo w24 rfl qu20) J Sm)
      ·
        refine x_aloadn (x := 70) rfl rfl ?_
        refine z_getR (N := 9) (b := 68) 5 1 rfl f_5_39 rfl J rfl 8961 ⟨rfl, rfl⟩ rfl ?_
        refine x_inv (N := m_X9_blame) (As := []) (b := 68) (st := []) (d' := 3) (mc := 0) (ms := 0) (host := "") 9 rfl t_X9_blame ⟨Or.inl q_5_64, i_X9_blame.1, i_X9_blame.2⟩ ⟨by decide, rfl⟩ (congrArg Prod.fst (J.1.1 68 (9, 6) rfl)) rfl (by decide) rfl rfl ⟨by decide, by decide⟩ (jC.of rfl k_X9_blame rfl ?_)
        show jX m_X9_blame 3 0 0 0 [(0, .ref 68)] [] _ 0 0 _
        refine x_aloadn (x := 68) rfl rfl ?_
        refine x_aloadn (x := 68) rfl rfl ?_
        refine z_getM (N := 6) (v := u9) 9 3 rfl f_9_22 rfl J rfl qu9 ?_
        refine z_putI (N := 6) (w := u9.toInt) 9 2 rfl f_9_19 rfl (jfin_no TX9 RX9 6 rfl rfl) hD J Sm rfl rfl rfl (pw_68_2 (by omega)) rfl (fun h w25 J Sm => ?_)
        refine x_iconst (v := 0) rfl ki_0 ?_
        refine x_zret rfl rfl (by decide) ?_
        show jX m_X5_readPair 4 0 0 45 [(0, .ref 70), (1, .int a1)] [.int 0] _ 0 0 _
        refine x_zret rfl rfl (by decide) ?_
        exact hQ _ _ (jr_of jk_0 (by omega)) J Sm _ _ (jmo w25 rfl qu8) (jmo w25 rfl qu9) (by omega)
    ·
      exact jX.sub (jsb_c rfl jsb_n) (ct_X5_readPair_r70_18 hD hQ  u4 u3 h (jr_of rfl (by omega)) (jr_of rfl (by omega)) (by omega) qu4 qu3 J Sm)
def fp_X5_readPairs_r70 : jFp := [(68, 2, 3), (68, 3, 4), (68, 4, 5), (68, 5, 6), (72, 0, 64)]
set_option maxRecDepth 100000 in
set_option maxHeartbeats 4000000 in
theorem ct_X5_readPairs_r70_21 {Dy : jH → Prop} {h0 : jH} {Q : Option Value → jH → Prop} (hD : jDk Dy) (hQ : ∀ (v : Int32) h', (-1) ≤ v.toInt ∧ v.toInt ≤ 8 → jJ jSgX Dy h' → jSm fp_X5_readPairs_r70 h0 h' → ∀ u0 u1 : Int32, jiv h' 68 5 = u0 → jiv h' 68 3 = u1 → (u0.toInt ≠ 3 ∨ u1.toInt ≤ 399) → Q (some (.int v)) h') : ∀ r : Nat, ∀ (l1 : Int32) (g0 : Int32) (g1 : Int32) (h : jH), 8 - l1.toInt < (r : Int) → 0 ≤ l1.toInt ∧ l1.toInt ≤ 8 → 0 ≤ g0.toInt ∧ g0.toInt ≤ 400 → 0 ≤ g1.toInt ∧ g1.toInt ≤ 3 → (g1.toInt ≠ 3 ∨ g0.toInt ≤ 399) → jiv h 68 3 = g0 → jiv h 68 5 = g1 → jJ jSgX Dy h → jSm fp_X5_readPairs_r70 h0 h → jX m_X5_readPairs 5 0 0 21 [(0, .ref 70), (1, .int l1)] [] h 0 0 Q := by
  intro r
  induction r with
  | zero =>
    intro l1 g0 g1 h hm y0 y1 y2 y3 z0 z1  J Sm
    exfalso
    omega
  | succ r ih =>
    intro l1 g0 g1 h hm y0 y1 y2 y3 z0 z1  J Sm
    refine x_iloadn (x := l1) rfl rfl ?_
    refine x_bipush (v := 8) rfl kb_8 ?_
    refine x_icge (tgt := 89) rfl rfl (ti_ge rfl jk_8 ⟨fun c1 => ?_, fun c1 => ?_⟩)
    ·
      refine x_aloadn (x := 70) rfl rfl ?_
      refine z_getR (N := 9) (b := 68) 5 1 rfl f_5_39 rfl J rfl 8961 ⟨rfl, rfl⟩ rfl ?_
      refine x_inv (N := m_X9_blame) (As := []) (b := 68) (st := []) (d' := 4) (mc := 0) (ms := 0) (host := "") 9 rfl t_X9_blame ⟨Or.inl q_5_64, i_X9_blame.1, i_X9_blame.2⟩ ⟨by decide, rfl⟩ (congrArg Prod.fst (J.1.1 68 (9, 6) rfl)) rfl (by decide) rfl rfl ⟨by decide, by decide⟩ (jC.of rfl k_X9_blame rfl ?_)
      show jX m_X9_blame 4 0 0 0 [(0, .ref 68)] [] _ 0 0 _
      refine x_aloadn (x := 68) rfl rfl ?_
      refine x_aloadn (x := 68) rfl rfl ?_
      refine z_getM (N := 6) (v := g0) 9 3 rfl f_9_22 rfl J rfl z0 ?_
      refine z_putI (N := 6) (w := g0.toInt) 9 2 rfl f_9_19 rfl (jfin_no TX9 RX9 6 rfl rfl) hD J Sm rfl rfl rfl (pw_68_2 (by omega)) rfl (fun h w2 J Sm => ?_)
      refine x_iconst (v := 0) rfl ki_0 ?_
      refine x_zret rfl rfl (by decide) ?_
      show jX m_X5_readPairs 5 0 0 96 [(0, .ref 70), (1, .int l1)] [.int 0] _ 0 0 _
      refine x_pop rfl rfl ?_
      refine x_iconst (v := (-1)) rfl ki_m1 ?_
      refine x_iret rfl rfl ?_
      exact hQ _ _ (jr_of jk_m1 (by omega)) J Sm _ _ (jmo w2 rfl z1) (jmo w2 rfl z0) (by omega)
    ·
      refine x_aloadn (x := 70) rfl rfl ?_
      refine x_iloadn (x := l1) rfl rfl ?_
      refine x_bipush (v := 8) rfl kb_8 ?_
      refine z_imul rfl rfl jk_8 (by omega) (fun v3 ev3 => ?_)
      refine x_inv (N := m_X5_readPair) (As := [.int v3]) (b := 70) (st := []) (d' := 4) (mc := 0) (ms := 0) (host := "") 5 rfl t_X5_readPair ⟨Or.inl q_5_90, i_X5_readPair.1, i_X5_readPair.2⟩ ⟨by decide, rfl⟩ (congrArg Prod.fst (J.1.1 70 (5, 9) rfl)) rfl (by decide) rfl rfl ⟨by decide, by decide⟩ (sf_X5_readPair_r70 (jr_of rfl (by omega)) (jr_mod rfl (by omega)) hD J z1 z0 (by omega)  (fun v7 h ev7 J S4 u5 u6 qu5 qu6 ru5 => ?_))
      have Sm := jSm_tr rfl Sm S4
      have eu5 := (show 0 ≤ u5.toInt ∧ u5.toInt ≤ 3 from qu5 ▸ jrg_f J sg_68_5_6_1_0_1)
      have eu6 := (show 0 ≤ u6.toInt ∧ u6.toInt ≤ 400 from qu6 ▸ jrg_f J sg_68_3_4_1_0_1)
      show jX m_X5_readPairs 5 0 0 35 [(0, .ref 70), (1, .int l1)] [.int v7] _ 0 0 _
      refine x_ifne (tgt := 40) rfl rfl (ti_ne rfl jk_0 ⟨fun c8 => ?_, fun c8 => ?_⟩)
      ·
        refine x_aloadn (x := 70) rfl rfl ?_
        refine z_getR (N := 9) (b := 68) 5 1 rfl f_5_39 rfl J rfl 8961 ⟨rfl, rfl⟩ rfl ?_
        refine x_inv (N := m_X9_isEnd) (As := []) (b := 68) (st := []) (d' := 4) (mc := 0) (ms := 0) (host := "") 9 rfl t_X9_isEnd ⟨Or.inl q_5_60, i_X9_isEnd.1, i_X9_isEnd.2⟩ ⟨by decide, rfl⟩ (congrArg Prod.fst (J.1.1 68 (9, 6) rfl)) rfl (by decide) rfl rfl ⟨by decide, by decide⟩ (jC.of rfl k_X9_isEnd rfl ?_)
        show jX m_X9_isEnd 4 0 0 0 [(0, .ref 68)] [] _ 0 0 _
        refine x_aloadn (x := 68) rfl rfl ?_
        refine z_getM (N := 6) (v := u5) 9 5 rfl f_9_28 rfl J rfl qu5 ?_
        refine x_ifne (tgt := 11) rfl rfl (ti_ne rfl jk_0 ⟨fun c9 => ?_, fun c9 => ?_⟩)
        ·
          refine x_iconst (v := 0) rfl ki_0 ?_
          refine x_zret rfl rfl (by decide) ?_
          show jX m_X5_readPairs 5 0 0 47 [(0, .ref 70), (1, .int l1)] [.int 0] _ 0 0 _
          refine x_ifeq (tgt := 54) rfl rfl (ti_eq jk_0 jk_0 (br_t (by omega) ?_))
          refine x_aloadn (x := 70) rfl rfl ?_
          refine z_getR (N := 9) (b := 68) 5 1 rfl f_5_39 rfl J rfl 8961 ⟨rfl, rfl⟩ rfl ?_
          refine x_bipush (v := 44) rfl kb_44 ?_
          refine x_inv (N := m_X9_isSign) (As := [.int 44]) (b := 68) (st := []) (d' := 1) (mc := 0) (ms := 0) (host := "") 9 rfl t_X9_isSign ⟨Or.inl q_5_48, i_X9_isSign.1, i_X9_isSign.2⟩ ⟨by decide, rfl⟩ (congrArg Prod.fst (J.1.1 68 (9, 6) rfl)) rfl (by decide) rfl rfl ⟨by decide, by decide⟩ (sf_X9_isSign_r68 (jr_of jk_44 (by omega)) hD J qu5 qu6 (by omega)  (fun v13 h ev13 J S10 u11 u12 qu11 qu12 ru11 => ?_))
          have Sm := jSm_tr rfl Sm S10
          have eu11 := (show 0 ≤ u11.toInt ∧ u11.toInt ≤ 3 from qu11 ▸ jrg_f J sg_68_5_6_1_0_1)
          have eu12 := (show 0 ≤ u12.toInt ∧ u12.toInt ≤ 400 from qu12 ▸ jrg_f J sg_68_3_4_1_0_1)
          show jX m_X5_readPairs 5 0 0 63 [(0, .ref 70), (1, .int l1)] [.int v13] _ 0 0 _
          refine x_ifne (tgt := 76) rfl rfl (ti_ne rfl jk_0 ⟨fun c14 => ?_, fun c14 => ?_⟩)
          ·
            refine x_aloadn (x := 70) rfl rfl ?_
            refine z_getR (N := 9) (b := 68) 5 1 rfl f_5_39 rfl J rfl 8961 ⟨rfl, rfl⟩ rfl ?_
            refine x_inv (N := m_X9_step) (As := []) (b := 68) (st := []) (d' := 2) (mc := 0) (ms := 0) (host := "") 9 rfl t_X9_step ⟨Or.inl q_5_67, i_X9_step.1, i_X9_step.2⟩ ⟨by decide, rfl⟩ (congrArg Prod.fst (J.1.1 68 (9, 6) rfl)) rfl (by decide) rfl rfl ⟨by decide, by decide⟩ (sf_X9_step_r68  hD J qu11 qu12 (by omega)  (fun h J S15 u16 u17 qu16 qu17 ru16 => ?_))
            have Sm := jSm_tr rfl Sm S15
            have eu16 := (show 0 ≤ u16.toInt ∧ u16.toInt ≤ 3 from qu16 ▸ jrg_f J sg_68_5_6_1_0_1)
            have eu17 := (show 0 ≤ u17.toInt ∧ u17.toInt ≤ 400 from qu17 ▸ jrg_f J sg_68_3_4_1_0_1)
            show jX m_X5_readPairs 5 0 0 83 [(0, .ref 70), (1, .int l1)] [] _ 0 0 _
            refine z_iinc (x := l1) (ls' := fun v18 => [(1, .int v18), (0, .ref 70)]) rfl rfl rfl jko_1 (by omega) rfl (fun _ => rfl) (fun v18 ev18 => ?_)
            refine x_goto (tgt := 21) rfl rfl ?_
            exact jX.sub (jsb_c rfl (jsb_c rfl jsb_n)) (ih v18 u17 u16 h (by omega) (jr_of rfl (by omega)) (jr_of rfl (by omega)) (jr_of rfl (by omega)) (by omega) qu17 qu16 J Sm)
          ·
            refine x_aloadn (x := 70) rfl rfl ?_
            refine z_getR (N := 9) (b := 68) 5 1 rfl f_5_39 rfl J rfl 8961 ⟨rfl, rfl⟩ rfl ?_
            refine x_inv (N := m_X9_blame) (As := []) (b := 68) (st := []) (d' := 4) (mc := 0) (ms := 0) (host := "") 9 rfl t_X9_blame ⟨Or.inl q_5_64, i_X9_blame.1, i_X9_blame.2⟩ ⟨by decide, rfl⟩ (congrArg Prod.fst (J.1.1 68 (9, 6) rfl)) rfl (by decide) rfl rfl ⟨by decide, by decide⟩ (jC.of rfl k_X9_blame rfl ?_)
            show jX m_X9_blame 4 0 0 0 [(0, .ref 68)] [] _ 0 0 _
            refine x_aloadn (x := 68) rfl rfl ?_
            refine x_aloadn (x := 68) rfl rfl ?_
            refine z_getM (N := 6) (v := u12) 9 3 rfl f_9_22 rfl J rfl qu12 ?_
            refine z_putI (N := 6) (w := u12.toInt) 9 2 rfl f_9_19 rfl (jfin_no TX9 RX9 6 rfl rfl) hD J Sm rfl rfl rfl (pw_68_2 (by omega)) rfl (fun h w19 J Sm => ?_)
            refine x_iconst (v := 0) rfl ki_0 ?_
            refine x_zret rfl rfl (by decide) ?_
            show jX m_X5_readPairs 5 0 0 73 [(0, .ref 70), (1, .int l1)] [.int 0] _ 0 0 _
            refine x_pop rfl rfl ?_
            refine x_iconst (v := (-1)) rfl ki_m1 ?_
            refine x_iret rfl rfl ?_
            exact hQ _ _ (jr_of jk_m1 (by omega)) J Sm _ _ (jmo w19 rfl qu11) (jmo w19 rfl qu12) (by omega)
        ·
          refine x_iconst (v := 1) rfl ki_1 ?_
          refine x_goto (tgt := 12) rfl rfl ?_
          refine x_zret rfl rfl (by decide) ?_
          show jX m_X5_readPairs 5 0 0 47 [(0, .ref 70), (1, .int l1)] [.int 1] _ 0 0 _
          refine x_ifeq (tgt := 54) rfl rfl (ti_eq jk_1 jk_0 (br_f (by omega) ?_))
          refine x_iloadn (x := l1) rfl rfl ?_
          refine x_iconst (v := 1) rfl ki_1 ?_
          refine z_iadd rfl rfl jk_1 (by omega) (fun v20 ev20 => ?_)
          refine x_iret rfl rfl ?_
          exact hQ _ _ (jr_of rfl (by omega)) J Sm _ _ qu5 qu6 (by omega)
      ·
        refine x_iconst (v := (-1)) rfl ki_m1 ?_
        refine x_iret rfl rfl ?_
        exact hQ _ _ (jr_of jk_m1 (by omega)) J Sm _ _ qu5 qu6 (by omega)
set_option maxRecDepth 100000 in
set_option maxHeartbeats 4000000 in
theorem sf_X5_readPairs_r70 {Dy : jH → Prop} {h : jH} {Q : Option Value → jH → Prop} (hD : jDk Dy) (J : jJ jSgX Dy h) {p0 p1 : Int32} (zp0 : jiv h 68 5 = p0) (zp1 : jiv h 68 3 = p1) (rl_p0 : (p0.toInt ≠ 3 ∨ p1.toInt ≤ 399)) (hQ : ∀ (v : Int32) h', (-1) ≤ v.toInt ∧ v.toInt ≤ 8 → jJ jSgX Dy h' → jSm fp_X5_readPairs_r70 h h' → ∀ u0 u1 : Int32, jiv h' 68 5 = u0 → jiv h' 68 3 = u1 → (u0.toInt ≠ 3 ∨ u1.toInt ≤ 399) → Q (some (.int v)) h') : jC m_X5_readPairs 5 0 0 [.ref 70] h Q := by
  refine jC.of rfl k_X5_readPairs rfl ?_
  have Sm := jSm_rf fp_X5_readPairs_r70 h
  have ep0 := (show 0 ≤ p0.toInt ∧ p0.toInt ≤ 3 from zp0 ▸ jrg_f J sg_68_5_6_1_0_1)
  have ep1 := (show 0 ≤ p1.toInt ∧ p1.toInt ≤ 400 from zp1 ▸ jrg_f J sg_68_3_4_1_0_1)
  show jX m_X5_readPairs 5 0 0 0 [(0, .ref 70)] [] _ 0 0 _
  refine x_aloadn (x := 70) rfl rfl ?_
  refine z_getR (N := 9) (b := 68) 5 1 rfl f_5_39 rfl J rfl 8961 ⟨rfl, rfl⟩ rfl ?_
  refine x_inv (N := m_X9_begin) (As := []) (b := 68) (st := []) (d' := 4) (mc := 0) (ms := 0) (host := "") 9 rfl t_X9_begin ⟨Or.inl q_5_43, i_X9_begin.1, i_X9_begin.2⟩ ⟨by decide, rfl⟩ (congrArg Prod.fst (J.1.1 68 (9, 6) rfl)) rfl (by decide) rfl rfl ⟨by decide, by decide⟩ (jC.of rfl k_X9_begin rfl ?_)
  show jX m_X9_begin 4 0 0 0 [(0, .ref 68)] [] _ 0 0 _
  refine x_aloadn (x := 68) rfl rfl ?_
  refine x_iconst (v := (-1)) rfl ki_m1 ?_
  refine z_putI (N := 6) (w := (-1)) 9 2 rfl f_9_19 rfl (jfin_no TX9 RX9 6 rfl rfl) hD J Sm rfl rfl jk_m1 (pw_68_2 (by omega)) rfl (fun h w1 J Sm => ?_)
  refine x_aloadn (x := 68) rfl rfl ?_
  refine x_iconst (v := 0) rfl ki_0 ?_
  refine z_putI (N := 6) (w := 0) 9 4 rfl f_9_25 rfl (jfin_no TX9 RX9 6 rfl rfl) hD J Sm rfl rfl jk_0 (pw_68_4 (by omega)) rfl (fun h w2 J Sm => ?_)
  refine x_aloadn (x := 68) rfl rfl ?_
  refine x_inv (N := m_X9_step) (As := []) (b := 68) (st := []) (d' := 2) (mc := 0) (ms := 0) (host := "") 9 rfl t_X9_step ⟨Or.inl q_9_31, i_X9_step.1, i_X9_step.2⟩ ⟨by decide, rfl⟩ (congrArg Prod.fst (J.1.1 68 (9, 6) rfl)) rfl (by decide) rfl rfl ⟨by decide, by decide⟩ (sf_X9_step_r68  hD J (jmo w2 rfl (jmo w1 rfl zp0)) (jmo w2 rfl (jmo w1 rfl zp1)) (by omega)  (fun h J S3 u4 u5 qu4 qu5 ru4 => ?_))
  have Sm := jSm_tr rfl Sm S3
  have eu4 := (show 0 ≤ u4.toInt ∧ u4.toInt ≤ 3 from qu4 ▸ jrg_f J sg_68_5_6_1_0_1)
  have eu5 := (show 0 ≤ u5.toInt ∧ u5.toInt ≤ 400 from qu5 ▸ jrg_f J sg_68_3_4_1_0_1)
  show jX m_X9_begin 4 0 0 14 [(0, .ref 68)] [] _ 0 0 _
  refine x_vret rfl rfl ?_
  show jX m_X5_readPairs 5 0 0 7 [(0, .ref 70)] [] _ 0 0 _
  refine x_aloadn (x := 70) rfl rfl ?_
  refine z_getR (N := 9) (b := 68) 5 1 rfl f_5_39 rfl J rfl 8961 ⟨rfl, rfl⟩ rfl ?_
  refine x_inv (N := m_X9_isEnd) (As := []) (b := 68) (st := []) (d' := 4) (mc := 0) (ms := 0) (host := "") 9 rfl t_X9_isEnd ⟨Or.inl q_5_60, i_X9_isEnd.1, i_X9_isEnd.2⟩ ⟨by decide, rfl⟩ (congrArg Prod.fst (J.1.1 68 (9, 6) rfl)) rfl (by decide) rfl rfl ⟨by decide, by decide⟩ (jC.of rfl k_X9_isEnd rfl ?_)
  show jX m_X9_isEnd 4 0 0 0 [(0, .ref 68)] [] _ 0 0 _
  refine x_aloadn (x := 68) rfl rfl ?_
  refine z_getM (N := 6) (v := u4) 9 5 rfl f_9_28 rfl J rfl qu4 ?_
  refine x_ifne (tgt := 11) rfl rfl (ti_ne rfl jk_0 ⟨fun c6 => ?_, fun c6 => ?_⟩)
  ·
    refine x_iconst (v := 0) rfl ki_0 ?_
    refine x_zret rfl rfl (by decide) ?_
    show jX m_X5_readPairs 5 0 0 14 [(0, .ref 70)] [.int 0] _ 0 0 _
    refine x_ifeq (tgt := 19) rfl rfl (ti_eq jk_0 jk_0 (br_t (by omega) ?_))
    refine x_iconst (v := 0) rfl ki_0 ?_
    refine x_istoren (ls' := [(1, .int 0), (0, .ref 70)]) rfl rfl rfl ?_
    exact jX.sub (jsb_c rfl (jsb_c rfl jsb_n)) (ct_X5_readPairs_r70_21 hD hQ  9 0 u5 u4 h (by have := jk_0; omega) (jr_of jk_0 (by omega)) (jr_of rfl (by omega)) (jr_of rfl (by omega)) (by omega) qu5 qu4 J Sm)
  ·
    refine x_iconst (v := 1) rfl ki_1 ?_
    refine x_goto (tgt := 12) rfl rfl ?_
    refine x_zret rfl rfl (by decide) ?_
    show jX m_X5_readPairs 5 0 0 14 [(0, .ref 70)] [.int 1] _ 0 0 _
    refine x_ifeq (tgt := 19) rfl rfl (ti_eq jk_1 jk_0 (br_f (by omega) ?_))
    refine x_iconst (v := 0) rfl ki_0 ?_
    refine x_iret rfl rfl ?_
    exact hQ _ _ (jr_of jk_0 (by omega)) J Sm _ _ qu4 qu5 (by omega)
def fp_X11_spell_r31 : jFp := [(31, 12, 13), (32, 19, 20), (68, 1, 2), (68, 2, 3), (68, 3, 4), (68, 4, 5), (68, 5, 6), (72, 0, 64), (73, 0, 1024), (74, 0, 16), (75, 0, 43200), (76, 0, 1200), (77, 0, 1200)]
set_option maxRecDepth 100000 in
set_option maxHeartbeats 4000000 in
theorem ct_X11_spell_r31_10 {Dy : jH → Prop} {h0 : jH} {Q : Option Value → jH → Prop} (hD : jDk Dy) (hQ : ∀ (v : Int32) h', (-6) ≤ v.toInt ∧ v.toInt ≤ 8 → jJ jSgX Dy h' → jSm fp_X11_spell_r31 h0 h' → ∀ u0 u1 : Int32, jiv h' 68 5 = u0 → jiv h' 68 3 = u1 → (u0.toInt ≠ 3 ∨ u1.toInt ≤ 399) → Q (some (.int v)) h') : ∀ (g0 : Int32) (g1 : Int32) (h : jH), 0 ≤ g0.toInt ∧ g0.toInt ≤ 400 → 0 ≤ g1.toInt ∧ g1.toInt ≤ 3 → (g1.toInt ≠ 3 ∨ g0.toInt ≤ 399) → jiv h 68 3 = g0 → jiv h 68 5 = g1 → jJ jSgX Dy h → jSm fp_X11_spell_r31 h0 h → jX m_X11_spell 6 0 0 10 [(0, .ref 31)] [] h 0 0 Q := by
  intro g0 g1 h y0 y1 y2 z0 z1  J Sm
  refine x_aloadn (x := 31) rfl rfl ?_
  refine x_iconst (v := (-1)) rfl ki_m1 ?_
  refine x_inv (N := m_X11_refuseTape) (As := [.int (-1)]) (b := 31) (st := []) (d' := 5) (mc := 0) (ms := 0) (host := "") 11 rfl t_X11_refuseTape ⟨Or.inl q_11_122, i_X11_refuseTape.1, i_X11_refuseTape.2⟩ ⟨by decide, rfl⟩ (congrArg Prod.fst (J.1.1 31 (11, 13) rfl)) rfl (by decide) rfl rfl ⟨by decide, by decide⟩ (jC.of rfl k_X11_refuseTape rfl ?_)
  show jX m_X11_refuseTape 5 0 0 0 [(0, .ref 31), (1, .int (-1))] [] _ 0 0 _
  refine x_aloadn (x := 31) rfl rfl ?_
  refine z_getR (N := 13) (b := 68) 11 2 rfl f_11_23 rfl J rfl 3970 ⟨rfl, rfl⟩ rfl ?_
  refine x_iconst (v := 0) rfl ki_0 ?_
  refine z_putI (N := 6) (w := 0) 9 1 rfl f_11_106 rfl (jfin_no TX9 RX9 6 rfl rfl) hD J Sm rfl rfl jk_0 (pw_68_1 (by omega)) rfl (fun h w1 J Sm => ?_)
  refine x_aloadn (x := 31) rfl rfl ?_
  refine x_iloadn (x := (-1)) rfl rfl ?_
  refine x_inv (N := m_X11_refuse) (As := [.int (-1)]) (b := 31) (st := []) (d' := 4) (mc := 0) (ms := 0) (host := "") 11 rfl t_X11_refuse ⟨Or.inl q_11_206, i_X11_refuse.1, i_X11_refuse.2⟩ ⟨by decide, rfl⟩ (congrArg Prod.fst (J.1.1 31 (11, 13) rfl)) rfl (by decide) rfl rfl ⟨by decide, by decide⟩ (jC.of rfl k_X11_refuse rfl ?_)
  show jX m_X11_refuse 4 0 0 0 [(0, .ref 31), (1, .int (-1))] [] _ 0 0 _
  refine x_aloadn (x := 31) rfl rfl ?_
  refine x_iloadn (x := (-1)) rfl rfl ?_
  refine z_putI (N := 13) (w := (-1)) 11 12 rfl f_11_94 rfl (jfin_no TX11 RX11 13 rfl rfl) hD J Sm rfl rfl jk_m1 (pw_31_12 (by omega)) rfl (fun h w2 J Sm => ?_)
  refine x_iloadn (x := (-1)) rfl rfl ?_
  refine x_iret rfl rfl ?_
  show jX m_X11_refuseTape 5 0 0 13 [(0, .ref 31), (1, .int (-1))] [.int (-1)] _ 0 0 _
  refine x_iret rfl rfl ?_
  show jX m_X11_spell 6 0 0 15 [(0, .ref 31)] [.int (-1)] _ 0 0 _
  refine x_iret rfl rfl ?_
  exact hQ _ _ (jr_of jk_m1 (by omega)) J Sm _ _ (jmo w2 rfl (jmo w1 rfl z1)) (jmo w2 rfl (jmo w1 rfl z0)) (by omega)
set_option maxRecDepth 100000 in
set_option maxHeartbeats 4000000 in
theorem ct_X11_spell_r31_93 {Dy : jH → Prop} {h0 : jH} {Q : Option Value → jH → Prop} {R55 : Int} (hD : jDk Dy) (hQ : ∀ (v : Int32) h', (-6) ≤ v.toInt ∧ v.toInt ≤ 8 → jJ jSgX Dy h' → jSm fp_X11_spell_r31 h0 h' → ∀ u0 u1 : Int32, jiv h' 68 5 = u0 → jiv h' 68 3 = u1 → (u0.toInt ≠ 3 ∨ u1.toInt ≤ 399) → Q (some (.int v)) h') (k55 : ∀ (l1 : Int32) (l2 : Int32) (l3 : Int32) (g0 : Int32) (g1 : Int32) (h : jH), 200 - l3.toInt < R55 → 0 ≤ l1.toInt ∧ l1.toInt ≤ 15 → 0 ≤ l2.toInt ∧ l2.toInt ≤ 8 → 0 ≤ l3.toInt ∧ l3.toInt ≤ 200 → 0 ≤ g0.toInt ∧ g0.toInt ≤ 400 → 0 ≤ g1.toInt ∧ g1.toInt ≤ 3 → (g1.toInt ≠ 3 ∨ g0.toInt ≤ 399) → jiv h 68 3 = g0 → jiv h 68 5 = g1 → jJ jSgX Dy h → jSm fp_X11_spell_r31 h0 h → jX m_X11_spell 6 0 0 55 [(0, .ref 31), (1, .int l1), (2, .int l2), (3, .int l3)] [] h 0 0 Q) : ∀ (l1 : Int32) (l2 : Int32) (l3 : Int32) (g0 : Int32) (g1 : Int32) (h : jH), 0 ≤ l1.toInt ∧ l1.toInt ≤ 15 → 0 ≤ l2.toInt ∧ l2.toInt ≤ 8 → 0 ≤ l3.toInt ∧ l3.toInt ≤ 199 → 0 ≤ g0.toInt ∧ g0.toInt ≤ 400 → 0 ≤ g1.toInt ∧ g1.toInt ≤ 3 → (g1.toInt ≠ 3 ∨ g0.toInt ≤ 399) → jiv h 68 3 = g0 → jiv h 68 5 = g1 → 200 - l3.toInt ≤ R55 → jJ jSgX Dy h → jSm fp_X11_spell_r31 h0 h → jX m_X11_spell 6 0 0 93 [(0, .ref 31), (1, .int l1), (2, .int l2), (3, .int l3)] [] h 0 0 Q := by
  intro l1 l2 l3 g0 g1 h y0 y1 y2 y3 y4 y5 z0 z1 m55 J Sm
  refine z_iinc (x := l3) (ls' := fun v1 => [(3, .int v1), (0, .ref 31), (1, .int l1), (2, .int l2)]) rfl rfl rfl jko_1 (by omega) rfl (fun _ => rfl) (fun v1 ev1 => ?_)
  refine x_goto (tgt := 55) rfl rfl ?_
  exact jX.sub (jsb_c rfl (jsb_c rfl (jsb_c rfl (jsb_c rfl jsb_n)))) (k55 l1 l2 v1 g0 g1 h (by omega) (jr_of rfl (by omega)) (jr_of rfl (by omega)) (jr_of rfl (by omega)) (jr_of rfl (by omega)) (jr_of rfl (by omega)) (by omega) z0 z1 J Sm)
set_option maxRecDepth 100000 in
set_option maxHeartbeats 4000000 in
theorem ct_X11_spell_r31_55 {Dy : jH → Prop} {h0 : jH} {Q : Option Value → jH → Prop} (hD : jDk Dy) (hQ : ∀ (v : Int32) h', (-6) ≤ v.toInt ∧ v.toInt ≤ 8 → jJ jSgX Dy h' → jSm fp_X11_spell_r31 h0 h' → ∀ u0 u1 : Int32, jiv h' 68 5 = u0 → jiv h' 68 3 = u1 → (u0.toInt ≠ 3 ∨ u1.toInt ≤ 399) → Q (some (.int v)) h') : ∀ r : Nat, ∀ (l1 : Int32) (l2 : Int32) (l3 : Int32) (g0 : Int32) (g1 : Int32) (h : jH), 200 - l3.toInt < (r : Int) → 0 ≤ l1.toInt ∧ l1.toInt ≤ 15 → 0 ≤ l2.toInt ∧ l2.toInt ≤ 8 → 0 ≤ l3.toInt ∧ l3.toInt ≤ 200 → 0 ≤ g0.toInt ∧ g0.toInt ≤ 400 → 0 ≤ g1.toInt ∧ g1.toInt ≤ 3 → (g1.toInt ≠ 3 ∨ g0.toInt ≤ 399) → jiv h 68 3 = g0 → jiv h 68 5 = g1 → jJ jSgX Dy h → jSm fp_X11_spell_r31 h0 h → jX m_X11_spell 6 0 0 55 [(0, .ref 31), (1, .int l1), (2, .int l2), (3, .int l3)] [] h 0 0 Q := by
  intro r
  induction r with
  | zero =>
    intro l1 l2 l3 g0 g1 h hm y0 y1 y2 y3 y4 y5 z0 z1  J Sm
    exfalso
    omega
  | succ r ih =>
    intro l1 l2 l3 g0 g1 h hm y0 y1 y2 y3 y4 y5 z0 z1  J Sm
    refine x_iloadn (x := l3) rfl rfl ?_
    refine x_aloadn (x := 31) rfl rfl ?_
    refine z_getR (N := 13) (b := 32) 11 0 rfl f_11_10 rfl J rfl 3968 ⟨rfl, rfl⟩ rfl ?_
    refine z_getR (N := 20) (b := 33) 1 0 rfl f_11_126 rfl J rfl 4096 ⟨rfl, rfl⟩ rfl ?_
    refine z_getI (N := 4) 8 3 rfl f_11_142 rfl J rfl sg_33_3_4_1_0_1 (fun v1 qv1 ev1 => ?_)
    refine x_icge (tgt := 99) rfl rfl (ti_ge rfl rfl ⟨fun c2 => ?_, fun c2 => ?_⟩)
    ·
      refine x_aloadn (x := 31) rfl rfl ?_
      refine x_iloadn (x := l2) rfl rfl ?_
      refine x_inv (N := m_X11_accept) (As := [.int l2]) (b := 31) (st := []) (d' := 5) (mc := 0) (ms := 0) (host := "") 11 rfl t_X11_accept ⟨Or.inl q_11_165, i_X11_accept.1, i_X11_accept.2⟩ ⟨by decide, rfl⟩ (congrArg Prod.fst (J.1.1 31 (11, 13) rfl)) rfl (by decide) rfl rfl ⟨by decide, by decide⟩ (jC.of rfl k_X11_accept rfl ?_)
      show jX m_X11_accept 5 0 0 0 [(0, .ref 31), (1, .int l2)] [] _ 0 0 _
      refine x_aloadn (x := 31) rfl rfl ?_
      refine x_iconst (v := 0) rfl ki_0 ?_
      refine z_putI (N := 13) (w := 0) 11 12 rfl f_11_94 rfl (jfin_no TX11 RX11 13 rfl rfl) hD J Sm rfl rfl jk_0 (pw_31_12 (by omega)) rfl (fun h w3 J Sm => ?_)
      refine x_aloadn (x := 31) rfl rfl ?_
      refine z_getR (N := 13) (b := 32) 11 0 rfl f_11_10 rfl J rfl 3968 ⟨rfl, rfl⟩ rfl ?_
      refine x_dup rfl rfl ?_
      refine z_getI0 (N := 20) 1 19 rfl f_11_528 rfl J rfl (fun v4 qv4 => ?_)
      have ev4 := jfull v4
      refine x_iconst (v := 1) rfl ki_1 ?_
      refine z_iadd0 rfl (fun v5 => ?_)
      have ev5 := jfull v5
      refine z_putI (N := 20) (w := v5.toInt) 1 19 rfl f_11_528 rfl (jfin_no TX1 RX1 20 rfl rfl) hD J Sm rfl rfl rfl (pw_32_19 trivial) rfl (fun h w6 J Sm => ?_)
      refine x_iloadn (x := l2) rfl rfl ?_
      refine x_iret rfl rfl ?_
      show jX m_X11_spell 6 0 0 104 [(0, .ref 31), (1, .int l1), (2, .int l2), (3, .int l3)] [.int l2] _ 0 0 _
      refine x_iret rfl rfl ?_
      exact hQ _ _ (jr_of rfl (by omega)) J Sm _ _ (jmo w6 rfl (jmo w3 rfl z1)) (jmo w6 rfl (jmo w3 rfl z0)) (by omega)
    ·
      refine x_aloadn (x := 31) rfl rfl ?_
      refine z_getR (N := 13) (b := 32) 11 0 rfl f_11_10 rfl J rfl 3968 ⟨rfl, rfl⟩ rfl ?_
      refine z_getR (N := 20) (b := 33) 1 0 rfl f_11_126 rfl J rfl 4096 ⟨rfl, rfl⟩ rfl ?_
      refine x_iloadn (x := l3) rfl rfl ?_
      refine x_iconst (v := 3) rfl ki_3 ?_
      refine x_inv (N := m_X8_at) (As := [.int l3, .int 3]) (b := 33) (st := []) (d' := 1) (mc := 0) (ms := 0) (host := "") 8 rfl t_X8_at ⟨Or.inl q_11_171, i_X8_at.1, i_X8_at.2⟩ ⟨by decide, rfl⟩ (congrArg Prod.fst (J.1.1 33 (8, 4) rfl)) rfl (by decide) rfl rfl ⟨by decide, by decide⟩ (sf_X8_at_r33_c3 (jr_of rfl (by omega)) hD J  (fun v8 h ev8 J S7 => ?_))
      have Sm := jSm_tr rfl Sm S7
      show jX m_X11_spell 6 0 0 81 [(0, .ref 31), (1, .int l1), (2, .int l2), (3, .int l3)] [.int v8] _ 0 0 _
      refine x_iloadn (x := l1) rfl rfl ?_
      refine x_icne (tgt := 93) rfl rfl (ti_ne rfl rfl ⟨fun c9 => ?_, fun c9 => ?_⟩)
      ·
        exact jX.sub (jsb_c rfl (jsb_c rfl (jsb_c rfl (jsb_c rfl jsb_n)))) (ct_X11_spell_r31_93 hD hQ ih l1 l2 l3 g0 g1 h (jr_of rfl (by omega)) (jr_of rfl (by omega)) (jr_of rfl (by omega)) (jr_of rfl (by omega)) (jr_of rfl (by omega)) (by omega) (jmc S7 rfl z0) (jmc S7 rfl z1) (by omega) J Sm)
      ·
        refine x_aloadn (x := 31) rfl rfl ?_
        refine z_getR (N := 13) (b := 70) 11 3 rfl f_11_32 rfl J rfl 3971 ⟨rfl, rfl⟩ rfl ?_
        refine x_iloadn (x := l3) rfl rfl ?_
        refine x_inv (N := m_X5_learn) (As := [.int l3]) (b := 70) (st := []) (d' := 4) (mc := 0) (ms := 0) (host := "") 5 rfl t_X5_learn ⟨Or.inl q_11_186, i_X5_learn.1, i_X5_learn.2⟩ ⟨by decide, rfl⟩ (congrArg Prod.fst (J.1.1 70 (5, 9) rfl)) rfl (by decide) rfl rfl ⟨by decide, by decide⟩ (sf_X5_learn_r70 (jr_of rfl (by omega)) hD J  (fun h J S10 => ?_))
        have Sm := jSm_tr rfl Sm S10
        show jX m_X11_spell 6 0 0 93 [(0, .ref 31), (1, .int l1), (2, .int l2), (3, .int l3)] [] _ 0 0 _
        exact jX.sub (jsb_c rfl (jsb_c rfl (jsb_c rfl (jsb_c rfl jsb_n)))) (ct_X11_spell_r31_93 hD hQ ih l1 l2 l3 g0 g1 h (jr_of rfl (by omega)) (jr_of rfl (by omega)) (jr_of rfl (by omega)) (jr_of rfl (by omega)) (jr_of rfl (by omega)) (by omega) (jmc S10 rfl (jmc S7 rfl z0)) (jmc S10 rfl (jmc S7 rfl z1)) (by omega) J Sm)
set_option maxRecDepth 100000 in
set_option maxHeartbeats 4000000 in
theorem sf_X11_spell_r31 {Dy : jH → Prop} {h : jH} {Q : Option Value → jH → Prop} {a1 : Int32} (hD : jDk Dy) (J : jJ jSgX Dy h) {p0 p1 : Int32} (zp0 : jiv h 68 5 = p0) (zp1 : jiv h 68 3 = p1) (rl_p0 : (p0.toInt ≠ 3 ∨ p1.toInt ≤ 399)) (hQ : ∀ (v : Int32) h', (-6) ≤ v.toInt ∧ v.toInt ≤ 8 → jJ jSgX Dy h' → jSm fp_X11_spell_r31 h h' → ∀ u0 u1 : Int32, jiv h' 68 5 = u0 → jiv h' 68 3 = u1 → (u0.toInt ≠ 3 ∨ u1.toInt ≤ 399) → Q (some (.int v)) h') : jC m_X11_spell 6 0 0 [.ref 31, .int a1] h Q := by
  refine jC.of rfl k_X11_spell rfl ?_
  have Sm := jSm_rf fp_X11_spell_r31 h
  have ep0 := (show 0 ≤ p0.toInt ∧ p0.toInt ≤ 3 from zp0 ▸ jrg_f J sg_68_5_6_1_0_1)
  have ep1 := (show 0 ≤ p1.toInt ∧ p1.toInt ≤ 400 from zp1 ▸ jrg_f J sg_68_3_4_1_0_1)
  have ea1 := jfull a1
  show jX m_X11_spell 6 0 0 0 [(0, .ref 31), (1, .int a1)] [] _ 0 0 _
  refine x_iloadn (x := a1) rfl rfl ?_
  refine x_iflt (tgt := 10) rfl rfl (ti_lt rfl jk_0 ⟨fun c1 => ?_, fun c1 => ?_⟩)
  ·
    exact jX.sub (jsb_c rfl jsb_n) (ct_X11_spell_r31_10 hD hQ  p1 p0 h (jr_of rfl (by omega)) (jr_of rfl (by omega)) (by omega) zp1 zp0 J Sm)
  ·
    refine x_iloadn (x := a1) rfl rfl ?_
    refine x_bipush (v := 15) rfl kb_15 ?_
    refine x_icle (tgt := 16) rfl rfl (ti_le rfl jk_15 ⟨fun c2 => ?_, fun c2 => ?_⟩)
    ·
      refine x_aloadn (x := 31) rfl rfl ?_
      refine z_getR (N := 13) (b := 70) 11 3 rfl f_11_32 rfl J rfl 3971 ⟨rfl, rfl⟩ rfl ?_
      refine x_inv (N := m_X5_readPairs) (As := []) (b := 70) (st := []) (d' := 5) (mc := 0) (ms := 0) (host := "") 5 rfl t_X5_readPairs ⟨Or.inl q_11_178, i_X5_readPairs.1, i_X5_readPairs.2⟩ ⟨by decide, rfl⟩ (congrArg Prod.fst (J.1.1 70 (5, 9) rfl)) rfl (by decide) rfl rfl ⟨by decide, by decide⟩ (sf_X5_readPairs_r70  hD J zp0 zp1 (by omega)  (fun v6 h ev6 J S3 u4 u5 qu4 qu5 ru4 => ?_))
      have Sm := jSm_tr rfl Sm S3
      have eu4 := (show 0 ≤ u4.toInt ∧ u4.toInt ≤ 3 from qu4 ▸ jrg_f J sg_68_5_6_1_0_1)
      have eu5 := (show 0 ≤ u5.toInt ∧ u5.toInt ≤ 400 from qu5 ▸ jrg_f J sg_68_3_4_1_0_1)
      show jX m_X11_spell 6 0 0 23 [(0, .ref 31), (1, .int a1)] [.int v6] _ 0 0 _
      refine x_istoren (ls' := [(2, .int v6), (0, .ref 31), (1, .int a1)]) rfl rfl rfl ?_
      refine x_iloadn (x := v6) rfl rfl ?_
      refine x_iconst (v := (-1)) rfl ki_m1 ?_
      refine x_icne (tgt := 36) rfl rfl (ti_ne rfl jk_m1 ⟨fun c7 => ?_, fun c7 => ?_⟩)
      ·
        refine x_aloadn (x := 31) rfl rfl ?_
        refine z_getR (N := 13) (b := 68) 11 2 rfl f_11_23 rfl J rfl 3970 ⟨rfl, rfl⟩ rfl ?_
        refine x_iconst (v := 0) rfl ki_0 ?_
        refine z_putI (N := 6) (w := 0) 9 1 rfl f_11_106 rfl (jfin_no TX9 RX9 6 rfl rfl) hD J Sm rfl rfl jk_0 (pw_68_1 (by omega)) rfl (fun h w8 J Sm => ?_)
        refine x_aloadn (x := 31) rfl rfl ?_
        refine z_getR (N := 13) (b := 70) 11 3 rfl f_11_32 rfl J rfl 3971 ⟨rfl, rfl⟩ rfl ?_
        refine x_iloadn (x := a1) rfl rfl ?_
        refine x_iloadn (x := v6) rfl rfl ?_
        refine x_inv (N := m_X5_keepPairs) (As := [.int a1, .int v6]) (b := 70) (st := []) (d' := 5) (mc := 0) (ms := 0) (host := "") 5 rfl t_X5_keepPairs ⟨Or.inl q_11_182, i_X5_keepPairs.1, i_X5_keepPairs.2⟩ ⟨by decide, rfl⟩ (congrArg Prod.fst (J.1.1 70 (5, 9) rfl)) rfl (by decide) rfl rfl ⟨by decide, by decide⟩ (jC.of rfl k_X5_keepPairs rfl ?_)
        show jX m_X5_keepPairs 5 0 0 0 [(0, .ref 70), (1, .int a1), (2, .int v6)] [] _ 0 0 _
        refine x_iloadn (x := a1) rfl rfl ?_
        refine x_iflt (tgt := 50) rfl rfl (ti_lt rfl jk_0 (br_f (by omega) ?_))
        refine x_iloadn (x := a1) rfl rfl ?_
        refine x_bipush (v := 15) rfl kb_15 ?_
        refine x_icgt (tgt := 50) rfl rfl (ti_gt rfl jk_15 (br_f (by omega) ?_))
        refine x_iloadn (x := v6) rfl rfl ?_
        refine x_iflt (tgt := 50) rfl rfl (ti_lt rfl jk_0 (br_f (by omega) ?_))
        refine x_iloadn (x := v6) rfl rfl ?_
        refine x_bipush (v := 8) rfl kb_8 ?_
        refine x_icgt (tgt := 50) rfl rfl (ti_gt rfl jk_8 (br_f (by omega) ?_))
        refine x_aloadn (x := 70) rfl rfl ?_
        refine z_getR (N := 9) (b := 72) 5 3 rfl f_5_15 rfl J rfl 8963 ⟨rfl, rfl⟩ rfl ?_
        refine x_iconst (v := 0) rfl ki_0 ?_
        refine x_aloadn (x := 70) rfl rfl ?_
        refine z_getR (N := 9) (b := 73) 5 4 rfl f_5_18 rfl J rfl 8964 ⟨rfl, rfl⟩ rfl ?_
        refine x_iloadn (x := a1) rfl rfl ?_
        refine x_aloadn (x := 70) rfl rfl ?_
        refine z_getR (N := 9) (b := 72) 5 3 rfl f_5_15 rfl J rfl 8963 ⟨rfl, rfl⟩ rfl ?_
        refine z_alen (N := 64) (v := 64) rfl J rfl rfl (by decide) ?_
        refine z_imul rfl rfl jk_64 (by omega) (fun v9 ev9 => ?_)
        refine x_iloadn (x := v6) rfl rfl ?_
        refine x_bipush (v := 8) rfl kb_8 ?_
        refine z_imul rfl rfl jk_8 (by omega) (fun v10 ev10 => ?_)
        refine z_cpi (N1 := 64) (N2 := 1024) rfl ⟨q_5_96, jcp_w⟩ (by decide) rfl hD J Sm rfl rfl rfl rfl jk_0 rfl rfl (by omega) (cp_73 (fun k k1 k2 k3 => by have k4 := k3.1; have k5 := k3.2.1; have k6 := k3.2.2; simp only at k4 k5 k6; exact jcp_in J sg_72_0_64_4_0_1 rfl (by omega) (by decide)) (fun k k1 k2 k3 => by have k4 := k3.1; have k5 := k3.2.1; have k6 := k3.2.2; simp only at k4 k5 k6; exact jcp_in J sg_72_0_64_4_1_4 rfl (by omega) (by decide)) (fun k k1 k2 k3 => by have k4 := k3.1; have k5 := k3.2.1; have k6 := k3.2.2; simp only at k4 k5 k6; exact jcp_in J sg_72_0_64_1_0_1 rfl (by omega) (by decide))) rfl (fun h w11 J Sm => ?_)
        refine x_aloadn (x := 70) rfl rfl ?_
        refine z_getR (N := 9) (b := 74) 5 5 rfl f_5_21 rfl J rfl 8965 ⟨rfl, rfl⟩ rfl ?_
        refine x_iloadn (x := a1) rfl rfl ?_
        refine x_iloadn (x := v6) rfl rfl ?_
        refine z_iast (N := 16) (l := 0) (u := 16) (w := v6.toInt) rfl hD J Sm rfl rfl rfl (by omega) rfl (wr_74 (fun q1 q2 q3 q4 => by omega)) rfl (fun h w12 J Sm => ?_)
        refine x_vret rfl rfl ?_
        show jX m_X11_spell 6 0 0 53 [(2, .int v6), (0, .ref 31), (1, .int a1)] [] _ 0 0 _
        refine x_iconst (v := 0) rfl ki_0 ?_
        refine x_istoren (ls' := [(3, .int 0), (2, .int v6), (0, .ref 31), (1, .int a1)]) rfl rfl rfl ?_
        exact jX.sub (jsb_c rfl (jsb_c rfl (jsb_c rfl (jsb_c rfl jsb_n)))) (ct_X11_spell_r31_55 hD hQ  201 a1 v6 0 u5 u4 h (by have := jk_0; omega) (jr_of rfl (by omega)) (jr_of rfl (by omega)) (jr_of jk_0 (by omega)) (jr_of rfl (by omega)) (jr_of rfl (by omega)) (by omega) (jmo w12 rfl (jmk w11 rfl (jmo w8 rfl qu5))) (jmo w12 rfl (jmk w11 rfl (jmo w8 rfl qu4))) J Sm)
      ·
        refine x_aloadn (x := 31) rfl rfl ?_
        refine x_bipush (v := (-6)) rfl kb_m6 ?_
        refine x_inv (N := m_X11_refuseTape) (As := [.int (-6)]) (b := 31) (st := []) (d' := 5) (mc := 0) (ms := 0) (host := "") 11 rfl t_X11_refuseTape ⟨Or.inl q_11_122, i_X11_refuseTape.1, i_X11_refuseTape.2⟩ ⟨by decide, rfl⟩ (congrArg Prod.fst (J.1.1 31 (11, 13) rfl)) rfl (by decide) rfl rfl ⟨by decide, by decide⟩ (jC.of rfl k_X11_refuseTape rfl ?_)
        show jX m_X11_refuseTape 5 0 0 0 [(0, .ref 31), (1, .int (-6))] [] _ 0 0 _
        refine x_aloadn (x := 31) rfl rfl ?_
        refine z_getR (N := 13) (b := 68) 11 2 rfl f_11_23 rfl J rfl 3970 ⟨rfl, rfl⟩ rfl ?_
        refine x_iconst (v := 0) rfl ki_0 ?_
        refine z_putI (N := 6) (w := 0) 9 1 rfl f_11_106 rfl (jfin_no TX9 RX9 6 rfl rfl) hD J Sm rfl rfl jk_0 (pw_68_1 (by omega)) rfl (fun h w13 J Sm => ?_)
        refine x_aloadn (x := 31) rfl rfl ?_
        refine x_iloadn (x := (-6)) rfl rfl ?_
        refine x_inv (N := m_X11_refuse) (As := [.int (-6)]) (b := 31) (st := []) (d' := 4) (mc := 0) (ms := 0) (host := "") 11 rfl t_X11_refuse ⟨Or.inl q_11_206, i_X11_refuse.1, i_X11_refuse.2⟩ ⟨by decide, rfl⟩ (congrArg Prod.fst (J.1.1 31 (11, 13) rfl)) rfl (by decide) rfl rfl ⟨by decide, by decide⟩ (jC.of rfl k_X11_refuse rfl ?_)
        show jX m_X11_refuse 4 0 0 0 [(0, .ref 31), (1, .int (-6))] [] _ 0 0 _
        refine x_aloadn (x := 31) rfl rfl ?_
        refine x_iloadn (x := (-6)) rfl rfl ?_
        refine z_putI (N := 13) (w := (-6)) 11 12 rfl f_11_94 rfl (jfin_no TX11 RX11 13 rfl rfl) hD J Sm rfl rfl jk_m6 (pw_31_12 (by omega)) rfl (fun h w14 J Sm => ?_)
        refine x_iloadn (x := (-6)) rfl rfl ?_
        refine x_iret rfl rfl ?_
        show jX m_X11_refuseTape 5 0 0 13 [(0, .ref 31), (1, .int (-6))] [.int (-6)] _ 0 0 _
        refine x_iret rfl rfl ?_
        show jX m_X11_spell 6 0 0 35 [(2, .int v6), (0, .ref 31), (1, .int a1)] [.int (-6)] _ 0 0 _
        refine x_iret rfl rfl ?_
        exact hQ _ _ (jr_of jk_m6 (by omega)) J Sm _ _ (jmo w14 rfl (jmo w13 rfl qu4)) (jmo w14 rfl (jmo w13 rfl qu5)) (by omega)
    ·
      exact jX.sub (jsb_c rfl jsb_n) (ct_X11_spell_r31_10 hD hQ  p1 p0 h (jr_of rfl (by omega)) (jr_of rfl (by omega)) (by omega) zp1 zp0 J Sm)
def fp_X11_split_r31 : jFp := [(31, 12, 13), (32, 19, 20), (49, 3, 4), (50, 0, 200), (63, 3, 4), (64, 0, 740)]
set_option maxRecDepth 100000 in
set_option maxHeartbeats 4000000 in
theorem ct_X11_split_r31_41 {Dy : jH → Prop} {h0 : jH} {Q : Option Value → jH → Prop} (hD : jDk Dy) (hQ : ∀ (v : Int32) h', (-366) ≤ v.toInt ∧ v.toInt ≤ 40 → jJ jSgX Dy h' → jSm fp_X11_split_r31 h0 h' → Q (some (.int v)) h') : ∀ (h : jH), jJ jSgX Dy h → jSm fp_X11_split_r31 h0 h → jX m_X11_split 4 0 0 41 [(0, .ref 31)] [] h 0 0 Q := by
  intro  h    J Sm
  refine x_aloadn (x := 31) rfl rfl ?_
  refine x_iconst (v := (-1)) rfl ki_m1 ?_
  refine x_inv (N := m_X11_refuse) (As := [.int (-1)]) (b := 31) (st := []) (d' := 3) (mc := 0) (ms := 0) (host := "") 11 rfl t_X11_refuse ⟨Or.inl q_11_206, i_X11_refuse.1, i_X11_refuse.2⟩ ⟨by decide, rfl⟩ (congrArg Prod.fst (J.1.1 31 (11, 13) rfl)) rfl (by decide) rfl rfl ⟨by decide, by decide⟩ (jC.of rfl k_X11_refuse rfl ?_)
  show jX m_X11_refuse 3 0 0 0 [(0, .ref 31), (1, .int (-1))] [] _ 0 0 _
  refine x_aloadn (x := 31) rfl rfl ?_
  refine x_iloadn (x := (-1)) rfl rfl ?_
  refine z_putI (N := 13) (w := (-1)) 11 12 rfl f_11_94 rfl (jfin_no TX11 RX11 13 rfl rfl) hD J Sm rfl rfl jk_m1 (pw_31_12 (by omega)) rfl (fun h w1 J Sm => ?_)
  refine x_iloadn (x := (-1)) rfl rfl ?_
  refine x_iret rfl rfl ?_
  show jX m_X11_split 4 0 0 46 [(0, .ref 31)] [.int (-1)] _ 0 0 _
  refine x_iret rfl rfl ?_
  exact hQ _ _ (jr_of jk_m1 (by omega)) J Sm
set_option maxRecDepth 100000 in
set_option maxHeartbeats 4000000 in
theorem sf_X11_split_r31 {Dy : jH → Prop} {h : jH} {Q : Option Value → jH → Prop} {a1 : Int32} {a2 : Int32} {a3 : Int32} {a4 : Int32} {a5 : Int32} (hD : jDk Dy) (J : jJ jSgX Dy h) (hQ : ∀ (v : Int32) h', (-366) ≤ v.toInt ∧ v.toInt ≤ 40 → jJ jSgX Dy h' → jSm fp_X11_split_r31 h h' → Q (some (.int v)) h') : jC m_X11_split 4 0 0 [.ref 31, .int a1, .int a2, .int a3, .int a4, .int a5] h Q := by
  refine jC.of rfl k_X11_split rfl ?_
  have Sm := jSm_rf fp_X11_split_r31 h
  have ea1 := jfull a1
  have ea2 := jfull a2
  have ea3 := jfull a3
  have ea4 := jfull a4
  have ea5 := jfull a5
  show jX m_X11_split 4 0 0 0 [(0, .ref 31), (1, .int a1), (2, .int a2), (3, .int a3), (4, .int a4), (5, .int a5)] [] _ 0 0 _
  refine x_iloadn (x := a2) rfl rfl ?_
  refine x_iconst (v := 1) rfl ki_1 ?_
  refine x_bipush (v := 100) rfl kb_100 ?_
  refine x_inst (N := m_X11_isWithin) (As := [.int a2, .int 1, .int 100]) (st := []) (d' := 1) (mc := 0) (ms := 0) (host := "") rfl t_X11_isWithin ⟨Or.inl q_11_202, s_X11_isWithin⟩ rfl (by decide) rfl rfl ⟨by decide, by decide⟩ (zc_X11_isWithin rfl jk_1 jk_100 (fun v1 ev1 => ?_))
  show jX m_X11_split 4 0 0 7 [(0, .ref 31), (1, .int a1), (2, .int a2), (3, .int a3), (4, .int a4), (5, .int a5)] [.int v1] _ 0 0 _
  refine x_ifeq (tgt := 41) rfl rfl (ti_eq rfl jk_0 ⟨fun c2 => ?_, fun c2 => ?_⟩)
  ·
    exact jX.sub (jsb_c rfl jsb_n) (ct_X11_split_r31_41 hD hQ  h J Sm)
  ·
    refine x_iloadn (x := a3) rfl rfl ?_
    refine x_iconst (v := 1) rfl ki_1 ?_
    refine x_bipush (v := 100) rfl kb_100 ?_
    refine x_inst (N := m_X11_isWithin) (As := [.int a3, .int 1, .int 100]) (st := []) (d' := 1) (mc := 0) (ms := 0) (host := "") rfl t_X11_isWithin ⟨Or.inl q_11_202, s_X11_isWithin⟩ rfl (by decide) rfl rfl ⟨by decide, by decide⟩ (zc_X11_isWithin rfl jk_1 jk_100 (fun v3 ev3 => ?_))
    show jX m_X11_split 4 0 0 17 [(0, .ref 31), (1, .int a1), (2, .int a2), (3, .int a3), (4, .int a4), (5, .int a5)] [.int v3] _ 0 0 _
    refine x_ifeq (tgt := 41) rfl rfl (ti_eq rfl jk_0 ⟨fun c4 => ?_, fun c4 => ?_⟩)
    ·
      exact jX.sub (jsb_c rfl jsb_n) (ct_X11_split_r31_41 hD hQ  h J Sm)
    ·
      refine x_iloadn (x := a2) rfl rfl ?_
      refine x_iloadn (x := a3) rfl rfl ?_
      refine x_icge (tgt := 41) rfl rfl (ti_ge rfl rfl ⟨fun c5 => ?_, fun c5 => ?_⟩)
      ·
        exact jX.sub (jsb_c rfl jsb_n) (ct_X11_split_r31_41 hD hQ  h J Sm)
      ·
        refine x_iload (x := a4) rfl rfl ?_
        refine x_inst (N := m_X11_isDay) (As := [.int a4]) (st := []) (d' := 1) (mc := 0) (ms := 0) (host := "") rfl t_X11_isDay ⟨Or.inl q_11_115, s_X11_isDay⟩ rfl (by decide) rfl rfl ⟨by decide, by decide⟩ (zc_X11_isDay rfl (fun v6 ev6 => ?_))
        show jX m_X11_split 4 0 0 30 [(0, .ref 31), (1, .int a1), (2, .int a2), (3, .int a3), (4, .int a4), (5, .int a5)] [.int v6] _ 0 0 _
        refine x_ifeq (tgt := 41) rfl rfl (ti_eq rfl jk_0 ⟨fun c7 => ?_, fun c7 => ?_⟩)
        ·
          exact jX.sub (jsb_c rfl jsb_n) (ct_X11_split_r31_41 hD hQ  h J Sm)
        ·
          refine x_iload (x := a5) rfl rfl ?_
          refine x_inst (N := m_X11_isDay) (As := [.int a5]) (st := []) (d' := 1) (mc := 0) (ms := 0) (host := "") rfl t_X11_isDay ⟨Or.inl q_11_115, s_X11_isDay⟩ rfl (by decide) rfl rfl ⟨by decide, by decide⟩ (zc_X11_isDay rfl (fun v8 ev8 => ?_))
          show jX m_X11_split 4 0 0 38 [(0, .ref 31), (1, .int a1), (2, .int a2), (3, .int a3), (4, .int a4), (5, .int a5)] [.int v8] _ 0 0 _
          refine x_ifne (tgt := 47) rfl rfl (ti_ne rfl jk_0 ⟨fun c9 => ?_, fun c9 => ?_⟩)
          ·
            refine x_aloadn (x := 31) rfl rfl ?_
            refine x_iloadn (x := a1) rfl rfl ?_
            refine x_inv (N := m_X11_isHolding) (As := [.int a1]) (b := 31) (st := []) (d' := 3) (mc := 0) (ms := 0) (host := "") 11 rfl t_X11_isHolding ⟨Or.inl q_11_415, i_X11_isHolding.1, i_X11_isHolding.2⟩ ⟨by decide, rfl⟩ (congrArg Prod.fst (J.1.1 31 (11, 13) rfl)) rfl (by decide) rfl rfl ⟨by decide, by decide⟩ (jC.of rfl k_X11_isHolding rfl ?_)
            show jX m_X11_isHolding 3 0 0 0 [(0, .ref 31), (1, .int a1)] [] _ 0 0 _
            refine x_iloadn (x := a1) rfl rfl ?_
            refine x_iflt (tgt := 28) rfl rfl (ti_lt rfl jk_0 ⟨fun c10 => ?_, fun c10 => ?_⟩)
            ·
              refine x_iconst (v := 0) rfl ki_0 ?_
              refine x_zret rfl rfl (by decide) ?_
              show jX m_X11_split 4 0 0 52 [(0, .ref 31), (1, .int a1), (2, .int a2), (3, .int a3), (4, .int a4), (5, .int a5)] [.int 0] _ 0 0 _
              refine x_ifne (tgt := 62) rfl rfl (ti_ne jk_0 jk_0 (bn_f (by omega) ?_))
              refine x_aloadn (x := 31) rfl rfl ?_
              refine x_bipush (v := (-2)) rfl kb_m2 ?_
              refine x_inv (N := m_X11_refuse) (As := [.int (-2)]) (b := 31) (st := []) (d' := 3) (mc := 0) (ms := 0) (host := "") 11 rfl t_X11_refuse ⟨Or.inl q_11_206, i_X11_refuse.1, i_X11_refuse.2⟩ ⟨by decide, rfl⟩ (congrArg Prod.fst (J.1.1 31 (11, 13) rfl)) rfl (by decide) rfl rfl ⟨by decide, by decide⟩ (jC.of rfl k_X11_refuse rfl ?_)
              show jX m_X11_refuse 3 0 0 0 [(0, .ref 31), (1, .int (-2))] [] _ 0 0 _
              refine x_aloadn (x := 31) rfl rfl ?_
              refine x_iloadn (x := (-2)) rfl rfl ?_
              refine z_putI (N := 13) (w := (-2)) 11 12 rfl f_11_94 rfl (jfin_no TX11 RX11 13 rfl rfl) hD J Sm rfl rfl jk_m2 (pw_31_12 (by omega)) rfl (fun h w11 J Sm => ?_)
              refine x_iloadn (x := (-2)) rfl rfl ?_
              refine x_iret rfl rfl ?_
              show jX m_X11_split 4 0 0 61 [(0, .ref 31), (1, .int a1), (2, .int a2), (3, .int a3), (4, .int a4), (5, .int a5)] [.int (-2)] _ 0 0 _
              refine x_iret rfl rfl ?_
              exact hQ _ _ (jr_of jk_m2 (by omega)) J Sm
            ·
              refine x_iloadn (x := a1) rfl rfl ?_
              refine x_aloadn (x := 31) rfl rfl ?_
              refine z_getR (N := 13) (b := 32) 11 0 rfl f_11_10 rfl J rfl 3968 ⟨rfl, rfl⟩ rfl ?_
              refine z_getR (N := 20) (b := 49) 1 8 rfl f_11_408 rfl J rfl 4104 ⟨rfl, rfl⟩ rfl ?_
              refine z_getI (N := 4) 8 3 rfl f_11_142 rfl J rfl sg_49_3_4_1_0_1 (fun v12 qv12 ev12 => ?_)
              refine x_icge (tgt := 28) rfl rfl (ti_ge rfl rfl ⟨fun c13 => ?_, fun c13 => ?_⟩)
              ·
                refine x_iconst (v := 0) rfl ki_0 ?_
                refine x_zret rfl rfl (by decide) ?_
                show jX m_X11_split 4 0 0 52 [(0, .ref 31), (1, .int a1), (2, .int a2), (3, .int a3), (4, .int a4), (5, .int a5)] [.int 0] _ 0 0 _
                refine x_ifne (tgt := 62) rfl rfl (ti_ne jk_0 jk_0 (bn_f (by omega) ?_))
                refine x_aloadn (x := 31) rfl rfl ?_
                refine x_bipush (v := (-2)) rfl kb_m2 ?_
                refine x_inv (N := m_X11_refuse) (As := [.int (-2)]) (b := 31) (st := []) (d' := 3) (mc := 0) (ms := 0) (host := "") 11 rfl t_X11_refuse ⟨Or.inl q_11_206, i_X11_refuse.1, i_X11_refuse.2⟩ ⟨by decide, rfl⟩ (congrArg Prod.fst (J.1.1 31 (11, 13) rfl)) rfl (by decide) rfl rfl ⟨by decide, by decide⟩ (jC.of rfl k_X11_refuse rfl ?_)
                show jX m_X11_refuse 3 0 0 0 [(0, .ref 31), (1, .int (-2))] [] _ 0 0 _
                refine x_aloadn (x := 31) rfl rfl ?_
                refine x_iloadn (x := (-2)) rfl rfl ?_
                refine z_putI (N := 13) (w := (-2)) 11 12 rfl f_11_94 rfl (jfin_no TX11 RX11 13 rfl rfl) hD J Sm rfl rfl jk_m2 (pw_31_12 (by omega)) rfl (fun h w14 J Sm => ?_)
                refine x_iloadn (x := (-2)) rfl rfl ?_
                refine x_iret rfl rfl ?_
                show jX m_X11_split 4 0 0 61 [(0, .ref 31), (1, .int a1), (2, .int a2), (3, .int a3), (4, .int a4), (5, .int a5)] [.int (-2)] _ 0 0 _
                refine x_iret rfl rfl ?_
                exact hQ _ _ (jr_of jk_m2 (by omega)) J Sm
              ·
                refine x_iloadn (x := a1) rfl rfl ?_
                refine x_bipush (v := 40) rfl kb_40 ?_
                refine x_icge (tgt := 28) rfl rfl (ti_ge rfl jk_40 (br_f (by omega) ?_))
                refine x_iconst (v := 1) rfl ki_1 ?_
                refine x_goto (tgt := 29) rfl rfl ?_
                refine x_zret rfl rfl (by decide) ?_
                show jX m_X11_split 4 0 0 52 [(0, .ref 31), (1, .int a1), (2, .int a2), (3, .int a3), (4, .int a4), (5, .int a5)] [.int 1] _ 0 0 _
                refine x_ifne (tgt := 62) rfl rfl (ti_ne jk_1 jk_0 (bn_t (by omega) ?_))
                refine x_aloadn (x := 31) rfl rfl ?_
                refine z_getR (N := 13) (b := 32) 11 0 rfl f_11_10 rfl J rfl 3968 ⟨rfl, rfl⟩ rfl ?_
                refine z_getR (N := 20) (b := 49) 1 8 rfl f_11_408 rfl J rfl 4104 ⟨rfl, rfl⟩ rfl ?_
                refine x_inv (N := m_X8_isFull) (As := []) (b := 49) (st := []) (d' := 1) (mc := 0) (ms := 0) (host := "") 8 rfl t_X8_isFull ⟨Or.inl q_11_130, i_X8_isFull.1, i_X8_isFull.2⟩ ⟨by decide, rfl⟩ (congrArg Prod.fst (J.1.1 49 (8, 4) rfl)) rfl (by decide) rfl rfl ⟨by decide, by decide⟩ (sf_X8_isFull_r49  hD J  (fun v16 h ev16 J S15 => ?_))
                have Sm := jSm_tr rfl Sm S15
                show jX m_X11_split 4 0 0 72 [(0, .ref 31), (1, .int a1), (2, .int a2), (3, .int a3), (4, .int a4), (5, .int a5)] [.int v16] _ 0 0 _
                refine x_ifeq (tgt := 82) rfl rfl (ti_eq rfl jk_0 ⟨fun c17 => ?_, fun c17 => ?_⟩)
                ·
                  refine x_aloadn (x := 31) rfl rfl ?_
                  refine x_aloadn (x := 31) rfl rfl ?_
                  refine x_iloadn (x := a1) rfl rfl ?_
                  refine x_iloadn (x := a2) rfl rfl ?_
                  refine x_iloadn (x := a3) rfl rfl ?_
                  refine x_iload (x := a4) rfl rfl ?_
                  refine x_iload (x := a5) rfl rfl ?_
                  refine x_inv (N := m_X11_addHolding) (As := [.int a1, .int a2, .int a3, .int a4, .int a5]) (b := 31) (st := [.ref 31]) (d' := 3) (mc := 0) (ms := 0) (host := "") 11 rfl t_X11_addHolding ⟨Or.inl q_11_411, i_X11_addHolding.1, i_X11_addHolding.2⟩ ⟨by decide, rfl⟩ (congrArg Prod.fst (J.1.1 31 (11, 13) rfl)) rfl (by decide) rfl rfl ⟨by decide, by decide⟩ (jC.of rfl k_X11_addHolding rfl ?_)
                  show jX m_X11_addHolding 3 0 0 0 [(0, .ref 31), (1, .int a1), (2, .int a2), (3, .int a3), (4, .int a4), (5, .int a5)] [] _ 0 0 _
                  refine x_aloadn (x := 31) rfl rfl ?_
                  refine z_getR (N := 13) (b := 32) 11 0 rfl f_11_10 rfl J rfl 3968 ⟨rfl, rfl⟩ rfl ?_
                  refine z_getR (N := 20) (b := 49) 1 8 rfl f_11_408 rfl J rfl 4104 ⟨rfl, rfl⟩ rfl ?_
                  refine z_getM (N := 4) (v := v12) 8 3 rfl f_11_142 rfl J rfl (jmc S15 rfl qv12) ?_
                  refine x_istore (ls' := [(6, .int v12), (0, .ref 31), (1, .int a1), (2, .int a2), (3, .int a3), (4, .int a4), (5, .int a5)]) rfl rfl rfl ?_
                  refine x_aloadn (x := 31) rfl rfl ?_
                  refine z_getR (N := 13) (b := 32) 11 0 rfl f_11_10 rfl J rfl 3968 ⟨rfl, rfl⟩ rfl ?_
                  refine z_getR (N := 20) (b := 49) 1 8 rfl f_11_408 rfl J rfl 4104 ⟨rfl, rfl⟩ rfl ?_
                  refine x_iload (x := a5) rfl rfl ?_
                  refine x_iload (x := a4) rfl rfl ?_
                  refine x_iloadn (x := a1) rfl rfl ?_
                  refine x_iloadn (x := a2) rfl rfl ?_
                  refine x_iloadn (x := a3) rfl rfl ?_
                  refine x_iconst (v := 0) rfl ki_0 ?_
                  refine x_inv (N := m_X8_add) (As := [.int a5, .int a4, .int a1, .int a2, .int a3, .int 0]) (b := 49) (st := []) (d' := 2) (mc := 0) (ms := 0) (host := "") 8 rfl t_X8_add ⟨Or.inl q_11_145, i_X8_add.1, i_X8_add.2⟩ ⟨by decide, rfl⟩ (congrArg Prod.fst (J.1.1 49 (8, 4) rfl)) rfl (by decide) rfl rfl ⟨by decide, by decide⟩ (sf_X8_add_r49 (jr_of rfl (by omega)) (jr_of rfl (by omega)) (jr_of rfl (by omega)) (jr_of rfl (by omega)) (jr_of rfl (by omega)) (jr_of jk_0 (by omega)) hD J  (fun h J S18 => ?_))
                  have Sm := jSm_tr rfl Sm S18
                  show jX m_X11_addHolding 3 0 0 30 [(6, .int v12), (0, .ref 31), (1, .int a1), (2, .int a2), (3, .int a3), (4, .int a4), (5, .int a5)] [] _ 0 0 _
                  refine x_aloadn (x := 31) rfl rfl ?_
                  refine z_getR (N := 13) (b := 32) 11 0 rfl f_11_10 rfl J rfl 3968 ⟨rfl, rfl⟩ rfl ?_
                  refine z_getR (N := 20) (b := 63) 1 15 rfl f_11_159 rfl J rfl 4111 ⟨rfl, rfl⟩ rfl ?_
                  refine x_iconst (v := 3) rfl ki_3 ?_
                  refine x_iload (x := v12) rfl rfl ?_
                  refine x_iconst (v := 0) rfl ki_0 ?_
                  refine x_iconst (v := 0) rfl ki_0 ?_
                  refine x_iconst (v := 0) rfl ki_0 ?_
                  refine x_iconst (v := 0) rfl ki_0 ?_
                  refine x_inv (N := m_X8_add) (As := [.int 3, .int v12, .int 0, .int 0, .int 0, .int 0]) (b := 63) (st := []) (d' := 2) (mc := 0) (ms := 0) (host := "") 8 rfl t_X8_add ⟨Or.inl q_11_145, i_X8_add.1, i_X8_add.2⟩ ⟨by decide, rfl⟩ (congrArg Prod.fst (J.1.1 63 (8, 4) rfl)) rfl (by decide) rfl rfl ⟨by decide, by decide⟩ (sf_X8_add_r63 (jr_of jk_3 (by omega)) (jr_of rfl (by omega)) (jr_of jk_0 (by omega)) (jr_of jk_0 (by omega)) (jr_of jk_0 (by omega)) (jr_of jk_0 (by omega)) hD J  (fun h J S19 => ?_))
                  have Sm := jSm_tr rfl Sm S19
                  show jX m_X11_addHolding 3 0 0 47 [(6, .int v12), (0, .ref 31), (1, .int a1), (2, .int a2), (3, .int a3), (4, .int a4), (5, .int a5)] [] _ 0 0 _
                  refine x_iload (x := v12) rfl rfl ?_
                  refine x_iret rfl rfl ?_
                  show jX m_X11_split 4 0 0 94 [(0, .ref 31), (1, .int a1), (2, .int a2), (3, .int a3), (4, .int a4), (5, .int a5)] [.int v12, .ref 31] _ 0 0 _
                  refine x_inv (N := m_X11_accept) (As := [.int v12]) (b := 31) (st := []) (d' := 3) (mc := 0) (ms := 0) (host := "") 11 rfl t_X11_accept ⟨Or.inl q_11_165, i_X11_accept.1, i_X11_accept.2⟩ ⟨by decide, rfl⟩ (congrArg Prod.fst (J.1.1 31 (11, 13) rfl)) rfl (by decide) rfl rfl ⟨by decide, by decide⟩ (jC.of rfl k_X11_accept rfl ?_)
                  show jX m_X11_accept 3 0 0 0 [(0, .ref 31), (1, .int v12)] [] _ 0 0 _
                  refine x_aloadn (x := 31) rfl rfl ?_
                  refine x_iconst (v := 0) rfl ki_0 ?_
                  refine z_putI (N := 13) (w := 0) 11 12 rfl f_11_94 rfl (jfin_no TX11 RX11 13 rfl rfl) hD J Sm rfl rfl jk_0 (pw_31_12 (by omega)) rfl (fun h w20 J Sm => ?_)
                  refine x_aloadn (x := 31) rfl rfl ?_
                  refine z_getR (N := 13) (b := 32) 11 0 rfl f_11_10 rfl J rfl 3968 ⟨rfl, rfl⟩ rfl ?_
                  refine x_dup rfl rfl ?_
                  refine z_getI0 (N := 20) 1 19 rfl f_11_528 rfl J rfl (fun v21 qv21 => ?_)
                  have ev21 := jfull v21
                  refine x_iconst (v := 1) rfl ki_1 ?_
                  refine z_iadd0 rfl (fun v22 => ?_)
                  have ev22 := jfull v22
                  refine z_putI (N := 20) (w := v22.toInt) 1 19 rfl f_11_528 rfl (jfin_no TX1 RX1 20 rfl rfl) hD J Sm rfl rfl rfl (pw_32_19 trivial) rfl (fun h w23 J Sm => ?_)
                  refine x_iloadn (x := v12) rfl rfl ?_
                  refine x_iret rfl rfl ?_
                  show jX m_X11_split 4 0 0 97 [(0, .ref 31), (1, .int a1), (2, .int a2), (3, .int a3), (4, .int a4), (5, .int a5)] [.int v12] _ 0 0 _
                  refine x_iret rfl rfl ?_
                  exact hQ _ _ (jr_of rfl (by omega)) J Sm
                ·
                  refine x_aloadn (x := 31) rfl rfl ?_
                  refine x_bipush (v := (-5)) rfl kb_m5 ?_
                  refine x_inv (N := m_X11_refuse) (As := [.int (-5)]) (b := 31) (st := []) (d' := 3) (mc := 0) (ms := 0) (host := "") 11 rfl t_X11_refuse ⟨Or.inl q_11_206, i_X11_refuse.1, i_X11_refuse.2⟩ ⟨by decide, rfl⟩ (congrArg Prod.fst (J.1.1 31 (11, 13) rfl)) rfl (by decide) rfl rfl ⟨by decide, by decide⟩ (jC.of rfl k_X11_refuse rfl ?_)
                  show jX m_X11_refuse 3 0 0 0 [(0, .ref 31), (1, .int (-5))] [] _ 0 0 _
                  refine x_aloadn (x := 31) rfl rfl ?_
                  refine x_iloadn (x := (-5)) rfl rfl ?_
                  refine z_putI (N := 13) (w := (-5)) 11 12 rfl f_11_94 rfl (jfin_no TX11 RX11 13 rfl rfl) hD J Sm rfl rfl jk_m5 (pw_31_12 (by omega)) rfl (fun h w24 J Sm => ?_)
                  refine x_iloadn (x := (-5)) rfl rfl ?_
                  refine x_iret rfl rfl ?_
                  show jX m_X11_split 4 0 0 81 [(0, .ref 31), (1, .int a1), (2, .int a2), (3, .int a3), (4, .int a4), (5, .int a5)] [.int (-5)] _ 0 0 _
                  refine x_iret rfl rfl ?_
                  exact hQ _ _ (jr_of jk_m5 (by omega)) J Sm
          ·
            exact jX.sub (jsb_c rfl jsb_n) (ct_X11_split_r31_41 hD hQ  h J Sm)
def fp_X11_status_r31 : jFp := []
set_option maxRecDepth 100000 in
set_option maxHeartbeats 4000000 in
theorem sf_X11_status_r31 {Dy : jH → Prop} {h : jH} {Q : Option Value → jH → Prop} (hD : jDk Dy) (J : jJ jSgX Dy h) (hQ : ∀ (v : Int32) h', (-366) ≤ v.toInt ∧ v.toInt ≤ 0 → jJ jSgX Dy h' → jSm fp_X11_status_r31 h h' → Q (some (.int v)) h') : jC m_X11_status 1 0 0 [.ref 31] h Q := by
  refine jC.of rfl k_X11_status rfl ?_
  have Sm := jSm_rf fp_X11_status_r31 h
  show jX m_X11_status 1 0 0 0 [(0, .ref 31)] [] _ 0 0 _
  refine x_aloadn (x := 31) rfl rfl ?_
  refine z_getI (N := 13) 11 12 rfl f_11_94 rfl J rfl sg_31_12_13_1_0_1 (fun v1 qv1 ev1 => ?_)
  refine x_iret rfl rfl ?_
  exact hQ _ _ (jr_of rfl (by omega)) J Sm
def fp_X11_terms_r31 : jFp := [(31, 12, 13), (32, 19, 20), (78, 2, 3), (78, 3, 4), (78, 4, 5), (78, 5, 6), (78, 6, 7)]
set_option maxRecDepth 100000 in
set_option maxHeartbeats 4000000 in
theorem ct_X11_terms_r31_52 {Dy : jH → Prop} {h0 : jH} {Q : Option Value → jH → Prop} (hD : jDk Dy) (hQ : ∀ (v : Int32) h', (-1) ≤ v.toInt ∧ v.toInt ≤ 0 → jJ jSgX Dy h' → jSm fp_X11_terms_r31 h0 h' → Q (some (.int v)) h') : ∀ (h : jH), jJ jSgX Dy h → jSm fp_X11_terms_r31 h0 h → jX m_X11_terms 2 0 0 52 [(0, .ref 31)] [] h 0 0 Q := by
  intro  h    J Sm
  refine x_aloadn (x := 31) rfl rfl ?_
  refine x_iconst (v := (-1)) rfl ki_m1 ?_
  refine x_inv (N := m_X11_refuse) (As := [.int (-1)]) (b := 31) (st := []) (d' := 1) (mc := 0) (ms := 0) (host := "") 11 rfl t_X11_refuse ⟨Or.inl q_11_206, i_X11_refuse.1, i_X11_refuse.2⟩ ⟨by decide, rfl⟩ (congrArg Prod.fst (J.1.1 31 (11, 13) rfl)) rfl (by decide) rfl rfl ⟨by decide, by decide⟩ (jC.of rfl k_X11_refuse rfl ?_)
  show jX m_X11_refuse 1 0 0 0 [(0, .ref 31), (1, .int (-1))] [] _ 0 0 _
  refine x_aloadn (x := 31) rfl rfl ?_
  refine x_iloadn (x := (-1)) rfl rfl ?_
  refine z_putI (N := 13) (w := (-1)) 11 12 rfl f_11_94 rfl (jfin_no TX11 RX11 13 rfl rfl) hD J Sm rfl rfl jk_m1 (pw_31_12 (by omega)) rfl (fun h w1 J Sm => ?_)
  refine x_iloadn (x := (-1)) rfl rfl ?_
  refine x_iret rfl rfl ?_
  show jX m_X11_terms 2 0 0 57 [(0, .ref 31)] [.int (-1)] _ 0 0 _
  refine x_iret rfl rfl ?_
  exact hQ _ _ (jr_of jk_m1 (by omega)) J Sm
set_option maxRecDepth 100000 in
set_option maxHeartbeats 4000000 in
theorem sf_X11_terms_r31 {Dy : jH → Prop} {h : jH} {Q : Option Value → jH → Prop} {a1 : Int32} {a2 : Int32} {a3 : Int32} {a4 : Int32} {a5 : Int32} (hD : jDk Dy) (J : jJ jSgX Dy h) (hQ : ∀ (v : Int32) h', (-1) ≤ v.toInt ∧ v.toInt ≤ 0 → jJ jSgX Dy h' → jSm fp_X11_terms_r31 h h' → Q (some (.int v)) h') : jC m_X11_terms 2 0 0 [.ref 31, .int a1, .int a2, .int a3, .int a4, .int a5] h Q := by
  refine jC.of rfl k_X11_terms rfl ?_
  have Sm := jSm_rf fp_X11_terms_r31 h
  have ea1 := jfull a1
  have ea2 := jfull a2
  have ea3 := jfull a3
  have ea4 := jfull a4
  have ea5 := jfull a5
  show jX m_X11_terms 2 0 0 0 [(0, .ref 31), (1, .int a1), (2, .int a2), (3, .int a3), (4, .int a4), (5, .int a5)] [] _ 0 0 _
  refine x_iloadn (x := a1) rfl rfl ?_
  refine x_iconst (v := 0) rfl ki_0 ?_
  refine x_bipush (v := 100) rfl kb_100 ?_
  refine x_inst (N := m_X11_isWithin) (As := [.int a1, .int 0, .int 100]) (st := []) (d' := 1) (mc := 0) (ms := 0) (host := "") rfl t_X11_isWithin ⟨Or.inl q_11_202, s_X11_isWithin⟩ rfl (by decide) rfl rfl ⟨by decide, by decide⟩ (zc_X11_isWithin rfl jk_0 jk_100 (fun v1 ev1 => ?_))
  show jX m_X11_terms 2 0 0 7 [(0, .ref 31), (1, .int a1), (2, .int a2), (3, .int a3), (4, .int a4), (5, .int a5)] [.int v1] _ 0 0 _
  refine x_ifeq (tgt := 52) rfl rfl (ti_eq rfl jk_0 ⟨fun c2 => ?_, fun c2 => ?_⟩)
  ·
    exact jX.sub (jsb_c rfl jsb_n) (ct_X11_terms_r31_52 hD hQ  h J Sm)
  ·
    refine x_iloadn (x := a2) rfl rfl ?_
    refine x_iconst (v := 0) rfl ki_0 ?_
    refine x_bipush (v := 100) rfl kb_100 ?_
    refine x_inst (N := m_X11_isWithin) (As := [.int a2, .int 0, .int 100]) (st := []) (d' := 1) (mc := 0) (ms := 0) (host := "") rfl t_X11_isWithin ⟨Or.inl q_11_202, s_X11_isWithin⟩ rfl (by decide) rfl rfl ⟨by decide, by decide⟩ (zc_X11_isWithin rfl jk_0 jk_100 (fun v3 ev3 => ?_))
    show jX m_X11_terms 2 0 0 17 [(0, .ref 31), (1, .int a1), (2, .int a2), (3, .int a3), (4, .int a4), (5, .int a5)] [.int v3] _ 0 0 _
    refine x_ifeq (tgt := 52) rfl rfl (ti_eq rfl jk_0 ⟨fun c4 => ?_, fun c4 => ?_⟩)
    ·
      exact jX.sub (jsb_c rfl jsb_n) (ct_X11_terms_r31_52 hD hQ  h J Sm)
    ·
      refine x_iloadn (x := a3) rfl rfl ?_
      refine x_iconst (v := 0) rfl ki_0 ?_
      refine x_bipush (v := 100) rfl kb_100 ?_
      refine x_inst (N := m_X11_isWithin) (As := [.int a3, .int 0, .int 100]) (st := []) (d' := 1) (mc := 0) (ms := 0) (host := "") rfl t_X11_isWithin ⟨Or.inl q_11_202, s_X11_isWithin⟩ rfl (by decide) rfl rfl ⟨by decide, by decide⟩ (zc_X11_isWithin rfl jk_0 jk_100 (fun v5 ev5 => ?_))
      show jX m_X11_terms 2 0 0 27 [(0, .ref 31), (1, .int a1), (2, .int a2), (3, .int a3), (4, .int a4), (5, .int a5)] [.int v5] _ 0 0 _
      refine x_ifeq (tgt := 52) rfl rfl (ti_eq rfl jk_0 ⟨fun c6 => ?_, fun c6 => ?_⟩)
      ·
        exact jX.sub (jsb_c rfl jsb_n) (ct_X11_terms_r31_52 hD hQ  h J Sm)
      ·
        refine x_iload (x := a4) rfl rfl ?_
        refine x_iconst (v := 0) rfl ki_0 ?_
        refine x_bipush (v := 100) rfl kb_100 ?_
        refine x_inst (N := m_X11_isWithin) (As := [.int a4, .int 0, .int 100]) (st := []) (d' := 1) (mc := 0) (ms := 0) (host := "") rfl t_X11_isWithin ⟨Or.inl q_11_202, s_X11_isWithin⟩ rfl (by decide) rfl rfl ⟨by decide, by decide⟩ (zc_X11_isWithin rfl jk_0 jk_100 (fun v7 ev7 => ?_))
        show jX m_X11_terms 2 0 0 38 [(0, .ref 31), (1, .int a1), (2, .int a2), (3, .int a3), (4, .int a4), (5, .int a5)] [.int v7] _ 0 0 _
        refine x_ifeq (tgt := 52) rfl rfl (ti_eq rfl jk_0 ⟨fun c8 => ?_, fun c8 => ?_⟩)
        ·
          exact jX.sub (jsb_c rfl jsb_n) (ct_X11_terms_r31_52 hD hQ  h J Sm)
        ·
          refine x_iload (x := a5) rfl rfl ?_
          refine x_iconst (v := 0) rfl ki_0 ?_
          refine x_bipush (v := 20) rfl kb_20 ?_
          refine x_inst (N := m_X11_isWithin) (As := [.int a5, .int 0, .int 20]) (st := []) (d' := 1) (mc := 0) (ms := 0) (host := "") rfl t_X11_isWithin ⟨Or.inl q_11_202, s_X11_isWithin⟩ rfl (by decide) rfl rfl ⟨by decide, by decide⟩ (zc_X11_isWithin rfl jk_0 jk_20 (fun v9 ev9 => ?_))
          show jX m_X11_terms 2 0 0 49 [(0, .ref 31), (1, .int a1), (2, .int a2), (3, .int a3), (4, .int a4), (5, .int a5)] [.int v9] _ 0 0 _
          refine x_ifne (tgt := 58) rfl rfl (ti_ne rfl jk_0 ⟨fun c10 => ?_, fun c10 => ?_⟩)
          ·
            refine x_aloadn (x := 31) rfl rfl ?_
            refine z_getR (N := 13) (b := 78) 11 4 rfl f_11_41 rfl J rfl 3972 ⟨rfl, rfl⟩ rfl ?_
            refine x_iloadn (x := a1) rfl rfl ?_
            refine z_putI (N := 16) (w := a1.toInt) 7 2 rfl f_11_209 rfl (jfin_no TX7 RX7 16 rfl rfl) hD J Sm rfl rfl rfl (pw_78_2 (by omega)) rfl (fun h w11 J Sm => ?_)
            refine x_aloadn (x := 31) rfl rfl ?_
            refine z_getR (N := 13) (b := 78) 11 4 rfl f_11_41 rfl J rfl 3972 ⟨rfl, rfl⟩ rfl ?_
            refine x_iloadn (x := a2) rfl rfl ?_
            refine z_putI (N := 16) (w := a2.toInt) 7 3 rfl f_11_212 rfl (jfin_no TX7 RX7 16 rfl rfl) hD J Sm rfl rfl rfl (pw_78_3 (by omega)) rfl (fun h w12 J Sm => ?_)
            refine x_aloadn (x := 31) rfl rfl ?_
            refine z_getR (N := 13) (b := 78) 11 4 rfl f_11_41 rfl J rfl 3972 ⟨rfl, rfl⟩ rfl ?_
            refine x_iloadn (x := a3) rfl rfl ?_
            refine z_putI (N := 16) (w := a3.toInt) 7 4 rfl f_11_215 rfl (jfin_no TX7 RX7 16 rfl rfl) hD J Sm rfl rfl rfl (pw_78_4 (by omega)) rfl (fun h w13 J Sm => ?_)
            refine x_aloadn (x := 31) rfl rfl ?_
            refine z_getR (N := 13) (b := 78) 11 4 rfl f_11_41 rfl J rfl 3972 ⟨rfl, rfl⟩ rfl ?_
            refine x_iload (x := a4) rfl rfl ?_
            refine z_putI (N := 16) (w := a4.toInt) 7 5 rfl f_11_218 rfl (jfin_no TX7 RX7 16 rfl rfl) hD J Sm rfl rfl rfl (pw_78_5 (by omega)) rfl (fun h w14 J Sm => ?_)
            refine x_aloadn (x := 31) rfl rfl ?_
            refine z_getR (N := 13) (b := 78) 11 4 rfl f_11_41 rfl J rfl 3972 ⟨rfl, rfl⟩ rfl ?_
            refine x_iload (x := a5) rfl rfl ?_
            refine z_putI (N := 16) (w := a5.toInt) 7 6 rfl f_11_221 rfl (jfin_no TX7 RX7 16 rfl rfl) hD J Sm rfl rfl rfl (pw_78_6 (by omega)) rfl (fun h w15 J Sm => ?_)
            refine x_aloadn (x := 31) rfl rfl ?_
            refine x_iconst (v := 0) rfl ki_0 ?_
            refine x_inv (N := m_X11_accept) (As := [.int 0]) (b := 31) (st := []) (d' := 1) (mc := 0) (ms := 0) (host := "") 11 rfl t_X11_accept ⟨Or.inl q_11_165, i_X11_accept.1, i_X11_accept.2⟩ ⟨by decide, rfl⟩ (congrArg Prod.fst (J.1.1 31 (11, 13) rfl)) rfl (by decide) rfl rfl ⟨by decide, by decide⟩ (jC.of rfl k_X11_accept rfl ?_)
            show jX m_X11_accept 1 0 0 0 [(0, .ref 31), (1, .int 0)] [] _ 0 0 _
            refine x_aloadn (x := 31) rfl rfl ?_
            refine x_iconst (v := 0) rfl ki_0 ?_
            refine z_putI (N := 13) (w := 0) 11 12 rfl f_11_94 rfl (jfin_no TX11 RX11 13 rfl rfl) hD J Sm rfl rfl jk_0 (pw_31_12 (by omega)) rfl (fun h w16 J Sm => ?_)
            refine x_aloadn (x := 31) rfl rfl ?_
            refine z_getR (N := 13) (b := 32) 11 0 rfl f_11_10 rfl J rfl 3968 ⟨rfl, rfl⟩ rfl ?_
            refine x_dup rfl rfl ?_
            refine z_getI0 (N := 20) 1 19 rfl f_11_528 rfl J rfl (fun v17 qv17 => ?_)
            have ev17 := jfull v17
            refine x_iconst (v := 1) rfl ki_1 ?_
            refine z_iadd0 rfl (fun v18 => ?_)
            have ev18 := jfull v18
            refine z_putI (N := 20) (w := v18.toInt) 1 19 rfl f_11_528 rfl (jfin_no TX1 RX1 20 rfl rfl) hD J Sm rfl rfl rfl (pw_32_19 trivial) rfl (fun h w19 J Sm => ?_)
            refine x_iloadn (x := 0) rfl rfl ?_
            refine x_iret rfl rfl ?_
            show jX m_X11_terms 2 0 0 105 [(0, .ref 31), (1, .int a1), (2, .int a2), (3, .int a3), (4, .int a4), (5, .int a5)] [.int 0] _ 0 0 _
            refine x_iret rfl rfl ?_
            exact hQ _ _ (jr_of jk_0 (by omega)) J Sm
          ·
            exact jX.sub (jsb_c rfl jsb_n) (ct_X11_terms_r31_52 hD hQ  h J Sm)
def fp_X8_isFull_r39 : jFp := []
set_option maxRecDepth 100000 in
set_option maxHeartbeats 4000000 in
theorem ct_X8_isFull_r39_200016 {Dy : jH → Prop} {h0 : jH} {Q : Option Value → jH → Prop} (hD : jDk Dy) (hQ : ∀ (v : Int32) h', 0 ≤ v.toInt ∧ v.toInt ≤ 1 → jJ jSgX Dy h' → jSm fp_X8_isFull_r39 h0 h' → Q (some (.int v)) h') : ∀ (h : jH), jJ jSgX Dy h → jSm fp_X8_isFull_r39 h0 h → jX m_X8_isFull 1 0 0 16 [] [.int 0] h 0 0 Q := by
  intro  h    J Sm
  refine x_zret rfl rfl (by decide) ?_
  exact hQ _ _ (jr_of jk_0 (by omega)) J Sm
set_option maxRecDepth 100000 in
set_option maxHeartbeats 4000000 in
theorem ct_X8_isFull_r39_300016 {Dy : jH → Prop} {h0 : jH} {Q : Option Value → jH → Prop} (hD : jDk Dy) (hQ : ∀ (v : Int32) h', 0 ≤ v.toInt ∧ v.toInt ≤ 1 → jJ jSgX Dy h' → jSm fp_X8_isFull_r39 h0 h' → Q (some (.int v)) h') : ∀ (h : jH), jJ jSgX Dy h → jSm fp_X8_isFull_r39 h0 h → jX m_X8_isFull 1 0 0 16 [] [.int 1] h 0 0 Q := by
  intro  h    J Sm
  refine x_zret rfl rfl (by decide) ?_
  exact hQ _ _ (jr_of jk_1 (by omega)) J Sm
set_option maxRecDepth 100000 in
set_option maxHeartbeats 4000000 in
theorem sf_X8_isFull_r39 {Dy : jH → Prop} {h : jH} {Q : Option Value → jH → Prop} (hD : jDk Dy) (J : jJ jSgX Dy h) (hQ : ∀ (v : Int32) h', 0 ≤ v.toInt ∧ v.toInt ≤ 1 → jJ jSgX Dy h' → jSm fp_X8_isFull_r39 h h' → Q (some (.int v)) h') : jC m_X8_isFull 1 0 0 [.ref 39] h Q := by
  refine jC.of rfl k_X8_isFull rfl ?_
  have Sm := jSm_rf fp_X8_isFull_r39 h
  show jX m_X8_isFull 1 0 0 0 [(0, .ref 39)] [] _ 0 0 _
  refine x_aloadn (x := 39) rfl rfl ?_
  refine z_getI (N := 4) 8 3 rfl f_8_7 rfl J rfl sg_39_3_4_1_0_1 (fun v1 qv1 ev1 => ?_)
  refine x_aloadn (x := 39) rfl rfl ?_
  refine z_getC (N := 4) (v := 200) 8 1 rfl f_8_22 rfl J rfl sg_39_1_2_1_0_1 jk_200 ?_
  refine x_iclt (tgt := 15) rfl rfl (ti_lt rfl jk_200 ⟨fun c2 => ?_, fun c2 => ?_⟩)
  ·
    refine x_iconst (v := 0) rfl ki_0 ?_
    exact jX.sub jsb_n (ct_X8_isFull_r39_200016 hD hQ  h J Sm)
  ·
    refine x_iconst (v := 1) rfl ki_1 ?_
    refine x_goto (tgt := 16) rfl rfl ?_
    exact jX.sub jsb_n (ct_X8_isFull_r39_300016 hD hQ  h J Sm)
def fp_X11_together_r31 : jFp := [(31, 12, 13), (32, 19, 20), (39, 3, 4), (40, 0, 600), (78, 13, 14), (82, 0, 600), (83, 0, 600), (84, 0, 200), (86, 0, 3)]
set_option maxRecDepth 100000 in
set_option maxHeartbeats 4000000 in
theorem ct_X11_together_r31_35 {Dy : jH → Prop} {h0 : jH} {Q : Option Value → jH → Prop} (hD : jDk Dy) (hQ : ∀ (v : Int32) h', (-366) ≤ v.toInt ∧ v.toInt ≤ 200 → jJ jSgX Dy h' → jSm fp_X11_together_r31 h0 h' → Q (some (.int v)) h') : ∀ (h : jH), jJ jSgX Dy h → jSm fp_X11_together_r31 h0 h → jX m_X11_together 8 0 0 35 [(0, .ref 31)] [] h 0 0 Q := by
  intro  h    J Sm
  refine x_aloadn (x := 31) rfl rfl ?_
  refine x_bipush (v := (-2)) rfl kb_m2 ?_
  refine x_inv (N := m_X11_refuse) (As := [.int (-2)]) (b := 31) (st := []) (d' := 7) (mc := 0) (ms := 0) (host := "") 11 rfl t_X11_refuse ⟨Or.inl q_11_206, i_X11_refuse.1, i_X11_refuse.2⟩ ⟨by decide, rfl⟩ (congrArg Prod.fst (J.1.1 31 (11, 13) rfl)) rfl (by decide) rfl rfl ⟨by decide, by decide⟩ (jC.of rfl k_X11_refuse rfl ?_)
  show jX m_X11_refuse 7 0 0 0 [(0, .ref 31), (1, .int (-2))] [] _ 0 0 _
  refine x_aloadn (x := 31) rfl rfl ?_
  refine x_iloadn (x := (-2)) rfl rfl ?_
  refine z_putI (N := 13) (w := (-2)) 11 12 rfl f_11_94 rfl (jfin_no TX11 RX11 13 rfl rfl) hD J Sm rfl rfl jk_m2 (pw_31_12 (by omega)) rfl (fun h w1 J Sm => ?_)
  refine x_iloadn (x := (-2)) rfl rfl ?_
  refine x_iret rfl rfl ?_
  show jX m_X11_together 8 0 0 41 [(0, .ref 31)] [.int (-2)] _ 0 0 _
  refine x_iret rfl rfl ?_
  exact hQ _ _ (jr_of jk_m2 (by omega)) J Sm
set_option maxRecDepth 100000 in
set_option maxHeartbeats 4000000 in
theorem sf_X11_together_r31 {Dy : jH → Prop} {h : jH} {Q : Option Value → jH → Prop} {a1 : Int32} {a2 : Int32} {a3 : Int32} (hD : jDk Dy) (J : jJ jSgX Dy h) (hQ : ∀ (v : Int32) h', (-366) ≤ v.toInt ∧ v.toInt ≤ 200 → jJ jSgX Dy h' → jSm fp_X11_together_r31 h h' → Q (some (.int v)) h') : jC m_X11_together 8 0 0 [.ref 31, .int a1, .int a2, .int a3] h Q := by
  refine jC.of rfl k_X11_together rfl ?_
  have Sm := jSm_rf fp_X11_together_r31 h
  have ea1 := jfull a1
  have ea2 := jfull a2
  have ea3 := jfull a3
  show jX m_X11_together 8 0 0 0 [(0, .ref 31), (1, .int a1), (2, .int a2), (3, .int a3)] [] _ 0 0 _
  refine x_iloadn (x := a3) rfl rfl ?_
  refine x_inst (N := m_X11_isDay) (As := [.int a3]) (st := []) (d' := 1) (mc := 0) (ms := 0) (host := "") rfl t_X11_isDay ⟨Or.inl q_11_115, s_X11_isDay⟩ rfl (by decide) rfl rfl ⟨by decide, by decide⟩ (zc_X11_isDay rfl (fun v1 ev1 => ?_))
  show jX m_X11_together 8 0 0 4 [(0, .ref 31), (1, .int a1), (2, .int a2), (3, .int a3)] [.int v1] _ 0 0 _
  refine x_ifne (tgt := 13) rfl rfl (ti_ne rfl jk_0 ⟨fun c2 => ?_, fun c2 => ?_⟩)
  ·
    refine x_aloadn (x := 31) rfl rfl ?_
    refine z_getR (N := 13) (b := 78) 11 4 rfl f_11_41 rfl J rfl 3972 ⟨rfl, rfl⟩ rfl ?_
    refine x_iloadn (x := a1) rfl rfl ?_
    refine x_inv (N := m_X7_isMention) (As := [.int a1]) (b := 78) (st := []) (d' := 7) (mc := 0) (ms := 0) (host := "") 7 rfl t_X7_isMention ⟨Or.inl q_11_187, i_X7_isMention.1, i_X7_isMention.2⟩ ⟨by decide, rfl⟩ (congrArg Prod.fst (J.1.1 78 (7, 16) rfl)) rfl (by decide) rfl rfl ⟨by decide, by decide⟩ (jC.of rfl k_X7_isMention rfl ?_)
    show jX m_X7_isMention 7 0 0 0 [(0, .ref 78), (1, .int a1)] [] _ 0 0 _
    refine x_iloadn (x := a1) rfl rfl ?_
    refine x_iflt (tgt := 41) rfl rfl (ti_lt rfl jk_0 ⟨fun c3 => ?_, fun c3 => ?_⟩)
    ·
      refine x_iconst (v := 0) rfl ki_0 ?_
      refine x_zret rfl rfl (by decide) ?_
      show jX m_X11_together 8 0 0 21 [(0, .ref 31), (1, .int a1), (2, .int a2), (3, .int a3)] [.int 0] _ 0 0 _
      refine x_ifeq (tgt := 35) rfl rfl (ti_eq jk_0 jk_0 (br_t (by omega) ?_))
      exact jX.sub (jsb_c rfl jsb_n) (ct_X11_together_r31_35 hD hQ  h J Sm)
    ·
      refine x_iloadn (x := a1) rfl rfl ?_
      refine x_sipush (v := 600) rfl ks_600 ?_
      refine x_icge (tgt := 41) rfl rfl (ti_ge rfl jk_600 ⟨fun c4 => ?_, fun c4 => ?_⟩)
      ·
        refine x_iconst (v := 0) rfl ki_0 ?_
        refine x_zret rfl rfl (by decide) ?_
        show jX m_X11_together 8 0 0 21 [(0, .ref 31), (1, .int a1), (2, .int a2), (3, .int a3)] [.int 0] _ 0 0 _
        refine x_ifeq (tgt := 35) rfl rfl (ti_eq jk_0 jk_0 (br_t (by omega) ?_))
        exact jX.sub (jsb_c rfl jsb_n) (ct_X11_together_r31_35 hD hQ  h J Sm)
      ·
        refine x_iloadn (x := a1) rfl rfl ?_
        refine x_iconst (v := 3) rfl ki_3 ?_
        refine z_idiv rfl rfl jk_3 (by omega) (by omega) (fun v5 ev5 => ?_)
        refine x_aloadn (x := 78) rfl rfl ?_
        refine z_getR (N := 16) (b := 32) 7 0 rfl f_7_55 rfl J rfl 9984 ⟨rfl, rfl⟩ rfl ?_
        refine z_getR (N := 20) (b := 33) 1 0 rfl f_7_63 rfl J rfl 4096 ⟨rfl, rfl⟩ rfl ?_
        refine z_getI (N := 4) 8 3 rfl f_7_85 rfl J rfl sg_33_3_4_1_0_1 (fun v6 qv6 ev6 => ?_)
        refine x_icge (tgt := 41) rfl rfl (ti_ge rfl rfl ⟨fun c7 => ?_, fun c7 => ?_⟩)
        ·
          refine x_iconst (v := 0) rfl ki_0 ?_
          refine x_zret rfl rfl (by decide) ?_
          show jX m_X11_together 8 0 0 21 [(0, .ref 31), (1, .int a1), (2, .int a2), (3, .int a3)] [.int 0] _ 0 0 _
          refine x_ifeq (tgt := 35) rfl rfl (ti_eq jk_0 jk_0 (br_t (by omega) ?_))
          exact jX.sub (jsb_c rfl jsb_n) (ct_X11_together_r31_35 hD hQ  h J Sm)
        ·
          refine x_aloadn (x := 78) rfl rfl ?_
          refine z_getR (N := 16) (b := 79) 7 7 rfl f_7_27 rfl J rfl 9991 ⟨rfl, rfl⟩ rfl ?_
          refine x_iloadn (x := a1) rfl rfl ?_
          refine z_iald (N := 600) rfl J rfl sg_79_0_600_1_0_1 rfl (by omega) (fun v8 qv8 ev8 => ?_)
          refine x_iconst (v := (-1)) rfl ki_m1 ?_
          refine x_iceq (tgt := 41) rfl rfl (ti_eq rfl jk_m1 ⟨fun c9 => ?_, fun c9 => ?_⟩)
          ·
            refine x_iconst (v := 0) rfl ki_0 ?_
            refine x_zret rfl rfl (by decide) ?_
            show jX m_X11_together 8 0 0 21 [(0, .ref 31), (1, .int a1), (2, .int a2), (3, .int a3)] [.int 0] _ 0 0 _
            refine x_ifeq (tgt := 35) rfl rfl (ti_eq jk_0 jk_0 (br_t (by omega) ?_))
            exact jX.sub (jsb_c rfl jsb_n) (ct_X11_together_r31_35 hD hQ  h J Sm)
          ·
            refine x_iconst (v := 1) rfl ki_1 ?_
            refine x_goto (tgt := 42) rfl rfl ?_
            refine x_zret rfl rfl (by decide) ?_
            show jX m_X11_together 8 0 0 21 [(0, .ref 31), (1, .int a1), (2, .int a2), (3, .int a3)] [.int 1] _ 0 0 _
            refine x_ifeq (tgt := 35) rfl rfl (ti_eq jk_1 jk_0 (br_f (by omega) ?_))
            refine x_aloadn (x := 31) rfl rfl ?_
            refine z_getR (N := 13) (b := 78) 11 4 rfl f_11_41 rfl J rfl 3972 ⟨rfl, rfl⟩ rfl ?_
            refine x_iloadn (x := a2) rfl rfl ?_
            refine x_inv (N := m_X7_isMention) (As := [.int a2]) (b := 78) (st := []) (d' := 7) (mc := 0) (ms := 0) (host := "") 7 rfl t_X7_isMention ⟨Or.inl q_11_187, i_X7_isMention.1, i_X7_isMention.2⟩ ⟨by decide, rfl⟩ (congrArg Prod.fst (J.1.1 78 (7, 16) rfl)) rfl (by decide) rfl rfl ⟨by decide, by decide⟩ (jC.of rfl k_X7_isMention rfl ?_)
            show jX m_X7_isMention 7 0 0 0 [(0, .ref 78), (1, .int a2)] [] _ 0 0 _
            refine x_iloadn (x := a2) rfl rfl ?_
            refine x_iflt (tgt := 41) rfl rfl (ti_lt rfl jk_0 ⟨fun c10 => ?_, fun c10 => ?_⟩)
            ·
              refine x_iconst (v := 0) rfl ki_0 ?_
              refine x_zret rfl rfl (by decide) ?_
              show jX m_X11_together 8 0 0 32 [(0, .ref 31), (1, .int a1), (2, .int a2), (3, .int a3)] [.int 0] _ 0 0 _
              refine x_ifne (tgt := 42) rfl rfl (ti_ne jk_0 jk_0 (bn_f (by omega) ?_))
              exact jX.sub (jsb_c rfl jsb_n) (ct_X11_together_r31_35 hD hQ  h J Sm)
            ·
              refine x_iloadn (x := a2) rfl rfl ?_
              refine x_sipush (v := 600) rfl ks_600 ?_
              refine x_icge (tgt := 41) rfl rfl (ti_ge rfl jk_600 ⟨fun c11 => ?_, fun c11 => ?_⟩)
              ·
                refine x_iconst (v := 0) rfl ki_0 ?_
                refine x_zret rfl rfl (by decide) ?_
                show jX m_X11_together 8 0 0 32 [(0, .ref 31), (1, .int a1), (2, .int a2), (3, .int a3)] [.int 0] _ 0 0 _
                refine x_ifne (tgt := 42) rfl rfl (ti_ne jk_0 jk_0 (bn_f (by omega) ?_))
                exact jX.sub (jsb_c rfl jsb_n) (ct_X11_together_r31_35 hD hQ  h J Sm)
              ·
                refine x_iloadn (x := a2) rfl rfl ?_
                refine x_iconst (v := 3) rfl ki_3 ?_
                refine z_idiv rfl rfl jk_3 (by omega) (by omega) (fun v12 ev12 => ?_)
                refine x_aloadn (x := 78) rfl rfl ?_
                refine z_getR (N := 16) (b := 32) 7 0 rfl f_7_55 rfl J rfl 9984 ⟨rfl, rfl⟩ rfl ?_
                refine z_getR (N := 20) (b := 33) 1 0 rfl f_7_63 rfl J rfl 4096 ⟨rfl, rfl⟩ rfl ?_
                refine z_getM (N := 4) (v := v6) 8 3 rfl f_7_85 rfl J rfl qv6 ?_
                refine x_icge (tgt := 41) rfl rfl (ti_ge rfl rfl ⟨fun c13 => ?_, fun c13 => ?_⟩)
                ·
                  refine x_iconst (v := 0) rfl ki_0 ?_
                  refine x_zret rfl rfl (by decide) ?_
                  show jX m_X11_together 8 0 0 32 [(0, .ref 31), (1, .int a1), (2, .int a2), (3, .int a3)] [.int 0] _ 0 0 _
                  refine x_ifne (tgt := 42) rfl rfl (ti_ne jk_0 jk_0 (bn_f (by omega) ?_))
                  exact jX.sub (jsb_c rfl jsb_n) (ct_X11_together_r31_35 hD hQ  h J Sm)
                ·
                  refine x_aloadn (x := 78) rfl rfl ?_
                  refine z_getR (N := 16) (b := 79) 7 7 rfl f_7_27 rfl J rfl 9991 ⟨rfl, rfl⟩ rfl ?_
                  refine x_iloadn (x := a2) rfl rfl ?_
                  refine z_iald (N := 600) rfl J rfl sg_79_0_600_1_0_1 rfl (by omega) (fun v14 qv14 ev14 => ?_)
                  refine x_iconst (v := (-1)) rfl ki_m1 ?_
                  refine x_iceq (tgt := 41) rfl rfl (ti_eq rfl jk_m1 ⟨fun c15 => ?_, fun c15 => ?_⟩)
                  ·
                    refine x_iconst (v := 0) rfl ki_0 ?_
                    refine x_zret rfl rfl (by decide) ?_
                    show jX m_X11_together 8 0 0 32 [(0, .ref 31), (1, .int a1), (2, .int a2), (3, .int a3)] [.int 0] _ 0 0 _
                    refine x_ifne (tgt := 42) rfl rfl (ti_ne jk_0 jk_0 (bn_f (by omega) ?_))
                    exact jX.sub (jsb_c rfl jsb_n) (ct_X11_together_r31_35 hD hQ  h J Sm)
                  ·
                    refine x_iconst (v := 1) rfl ki_1 ?_
                    refine x_goto (tgt := 42) rfl rfl ?_
                    refine x_zret rfl rfl (by decide) ?_
                    show jX m_X11_together 8 0 0 32 [(0, .ref 31), (1, .int a1), (2, .int a2), (3, .int a3)] [.int 1] _ 0 0 _
                    refine x_ifne (tgt := 42) rfl rfl (ti_ne jk_1 jk_0 (bn_t (by omega) ?_))
                    refine x_aloadn (x := 31) rfl rfl ?_
                    refine x_iloadn (x := a1) rfl rfl ?_
                    refine x_ldc (v := 146399) rfl z_11_233 ?_
                    refine x_inv (N := m_X11_soulOn) (As := [.int a1, .int 146399]) (b := 31) (st := []) (d' := 7) (mc := 0) (ms := 0) (host := "") 11 rfl t_X11_soulOn ⟨Or.inl q_11_234, i_X11_soulOn.1, i_X11_soulOn.2⟩ ⟨by decide, rfl⟩ (congrArg Prod.fst (J.1.1 31 (11, 13) rfl)) rfl (by decide) rfl rfl ⟨by decide, by decide⟩ (jC.of rfl k_X11_soulOn rfl ?_)
                    show jX m_X11_soulOn 7 0 0 0 [(0, .ref 31), (1, .int a1), (2, .int 146399)] [] _ 0 0 _
                    refine x_iloadn (x := 146399) rfl rfl ?_
                    refine x_inst (N := m_X11_isDay) (As := [.int 146399]) (st := []) (d' := 1) (mc := 0) (ms := 0) (host := "") rfl t_X11_isDay ⟨Or.inl q_11_115, s_X11_isDay⟩ rfl (by decide) rfl rfl ⟨by decide, by decide⟩ (zc_X11_isDay jk_146399 (fun v16 ev16 => ?_))
                    show jX m_X11_soulOn 7 0 0 4 [(0, .ref 31), (1, .int a1), (2, .int 146399)] [.int v16] _ 0 0 _
                    refine x_ifeq (tgt := 18) rfl rfl (ti_eq rfl jk_0 ⟨fun c17 => ?_, fun c17 => ?_⟩)
                    ·
                      refine x_iconst (v := (-1)) rfl ki_m1 ?_
                      refine x_iret rfl rfl ?_
                      show jX m_X11_together 8 0 0 49 [(0, .ref 31), (1, .int a1), (2, .int a2), (3, .int a3)] [.int (-1)] _ 0 0 _
                      refine x_aloadn (x := 31) rfl rfl ?_
                      refine x_iloadn (x := a2) rfl rfl ?_
                      refine x_ldc (v := 146399) rfl z_11_233 ?_
                      refine x_inv (N := m_X11_soulOn) (As := [.int a2, .int 146399]) (b := 31) (st := [.int (-1)]) (d' := 7) (mc := 0) (ms := 0) (host := "") 11 rfl t_X11_soulOn ⟨Or.inl q_11_234, i_X11_soulOn.1, i_X11_soulOn.2⟩ ⟨by decide, rfl⟩ (congrArg Prod.fst (J.1.1 31 (11, 13) rfl)) rfl (by decide) rfl rfl ⟨by decide, by decide⟩ (jC.of rfl k_X11_soulOn rfl ?_)
                      show jX m_X11_soulOn 7 0 0 0 [(0, .ref 31), (1, .int a2), (2, .int 146399)] [] _ 0 0 _
                      refine x_iloadn (x := 146399) rfl rfl ?_
                      refine x_inst (N := m_X11_isDay) (As := [.int 146399]) (st := []) (d' := 1) (mc := 0) (ms := 0) (host := "") rfl t_X11_isDay ⟨Or.inl q_11_115, s_X11_isDay⟩ rfl (by decide) rfl rfl ⟨by decide, by decide⟩ (zc_X11_isDay jk_146399 (fun v18 ev18 => ?_))
                      show jX m_X11_soulOn 7 0 0 4 [(0, .ref 31), (1, .int a2), (2, .int 146399)] [.int v18] _ 0 0 _
                      refine x_ifeq (tgt := 18) rfl rfl (ti_eq rfl jk_0 ⟨fun c19 => ?_, fun c19 => ?_⟩)
                      ·
                        refine x_iconst (v := (-1)) rfl ki_m1 ?_
                        refine x_iret rfl rfl ?_
                        show jX m_X11_together 8 0 0 56 [(0, .ref 31), (1, .int a1), (2, .int a2), (3, .int a3)] [.int (-1), .int (-1)] _ 0 0 _
                        refine x_icne (tgt := 66) rfl rfl (ti_ne jk_m1 jk_m1 (bn_f (by omega) ?_))
                        refine x_aloadn (x := 31) rfl rfl ?_
                        refine x_bipush (v := (-4)) rfl kb_m4 ?_
                        refine x_inv (N := m_X11_refuse) (As := [.int (-4)]) (b := 31) (st := []) (d' := 7) (mc := 0) (ms := 0) (host := "") 11 rfl t_X11_refuse ⟨Or.inl q_11_206, i_X11_refuse.1, i_X11_refuse.2⟩ ⟨by decide, rfl⟩ (congrArg Prod.fst (J.1.1 31 (11, 13) rfl)) rfl (by decide) rfl rfl ⟨by decide, by decide⟩ (jC.of rfl k_X11_refuse rfl ?_)
                        show jX m_X11_refuse 7 0 0 0 [(0, .ref 31), (1, .int (-4))] [] _ 0 0 _
                        refine x_aloadn (x := 31) rfl rfl ?_
                        refine x_iloadn (x := (-4)) rfl rfl ?_
                        refine z_putI (N := 13) (w := (-4)) 11 12 rfl f_11_94 rfl (jfin_no TX11 RX11 13 rfl rfl) hD J Sm rfl rfl jk_m4 (pw_31_12 (by omega)) rfl (fun h w20 J Sm => ?_)
                        refine x_iloadn (x := (-4)) rfl rfl ?_
                        refine x_iret rfl rfl ?_
                        show jX m_X11_together 8 0 0 65 [(0, .ref 31), (1, .int a1), (2, .int a2), (3, .int a3)] [.int (-4)] _ 0 0 _
                        refine x_iret rfl rfl ?_
                        exact hQ _ _ (jr_of jk_m4 (by omega)) J Sm
                      ·
                        refine x_aloadn (x := 31) rfl rfl ?_
                        refine z_getR (N := 13) (b := 78) 11 4 rfl f_11_41 rfl J rfl 3972 ⟨rfl, rfl⟩ rfl ?_
                        refine x_iloadn (x := a2) rfl rfl ?_
                        refine x_inv (N := m_X7_isMention) (As := [.int a2]) (b := 78) (st := []) (d' := 6) (mc := 0) (ms := 0) (host := "") 7 rfl t_X7_isMention ⟨Or.inl q_11_187, i_X7_isMention.1, i_X7_isMention.2⟩ ⟨by decide, rfl⟩ (congrArg Prod.fst (J.1.1 78 (7, 16) rfl)) rfl (by decide) rfl rfl ⟨by decide, by decide⟩ (jC.of rfl k_X7_isMention rfl ?_)
                        show jX m_X7_isMention 6 0 0 0 [(0, .ref 78), (1, .int a2)] [] _ 0 0 _
                        refine x_iloadn (x := a2) rfl rfl ?_
                        refine x_iflt (tgt := 41) rfl rfl (ti_lt rfl jk_0 (br_f (by omega) ?_))
                        refine x_iloadn (x := a2) rfl rfl ?_
                        refine x_sipush (v := 600) rfl ks_600 ?_
                        refine x_icge (tgt := 41) rfl rfl (ti_ge rfl jk_600 (br_f (by omega) ?_))
                        refine x_iloadn (x := a2) rfl rfl ?_
                        refine x_iconst (v := 3) rfl ki_3 ?_
                        refine z_idiv rfl rfl jk_3 (by omega) (by omega) (fun v21 ev21 => ?_)
                        refine x_aloadn (x := 78) rfl rfl ?_
                        refine z_getR (N := 16) (b := 32) 7 0 rfl f_7_55 rfl J rfl 9984 ⟨rfl, rfl⟩ rfl ?_
                        refine z_getR (N := 20) (b := 33) 1 0 rfl f_7_63 rfl J rfl 4096 ⟨rfl, rfl⟩ rfl ?_
                        refine z_getM (N := 4) (v := v6) 8 3 rfl f_7_85 rfl J rfl qv6 ?_
                        refine x_icge (tgt := 41) rfl rfl (ti_ge rfl rfl ⟨fun c22 => ?_, fun c22 => ?_⟩)
                        ·
                          refine x_iconst (v := 0) rfl ki_0 ?_
                          refine x_zret rfl rfl (by decide) ?_
                          show jX m_X11_soulOn 7 0 0 15 [(0, .ref 31), (1, .int a2), (2, .int 146399)] [.int 0] _ 0 0 _
                          refine x_ifne (tgt := 20) rfl rfl (ti_ne jk_0 jk_0 (bn_f (by omega) ?_))
                          refine x_iconst (v := (-1)) rfl ki_m1 ?_
                          refine x_iret rfl rfl ?_
                          show jX m_X11_together 8 0 0 56 [(0, .ref 31), (1, .int a1), (2, .int a2), (3, .int a3)] [.int (-1), .int (-1)] _ 0 0 _
                          refine x_icne (tgt := 66) rfl rfl (ti_ne jk_m1 jk_m1 (bn_f (by omega) ?_))
                          refine x_aloadn (x := 31) rfl rfl ?_
                          refine x_bipush (v := (-4)) rfl kb_m4 ?_
                          refine x_inv (N := m_X11_refuse) (As := [.int (-4)]) (b := 31) (st := []) (d' := 7) (mc := 0) (ms := 0) (host := "") 11 rfl t_X11_refuse ⟨Or.inl q_11_206, i_X11_refuse.1, i_X11_refuse.2⟩ ⟨by decide, rfl⟩ (congrArg Prod.fst (J.1.1 31 (11, 13) rfl)) rfl (by decide) rfl rfl ⟨by decide, by decide⟩ (jC.of rfl k_X11_refuse rfl ?_)
                          show jX m_X11_refuse 7 0 0 0 [(0, .ref 31), (1, .int (-4))] [] _ 0 0 _
                          refine x_aloadn (x := 31) rfl rfl ?_
                          refine x_iloadn (x := (-4)) rfl rfl ?_
                          refine z_putI (N := 13) (w := (-4)) 11 12 rfl f_11_94 rfl (jfin_no TX11 RX11 13 rfl rfl) hD J Sm rfl rfl jk_m4 (pw_31_12 (by omega)) rfl (fun h w23 J Sm => ?_)
                          refine x_iloadn (x := (-4)) rfl rfl ?_
                          refine x_iret rfl rfl ?_
                          show jX m_X11_together 8 0 0 65 [(0, .ref 31), (1, .int a1), (2, .int a2), (3, .int a3)] [.int (-4)] _ 0 0 _
                          refine x_iret rfl rfl ?_
                          exact hQ _ _ (jr_of jk_m4 (by omega)) J Sm
                        ·
                          refine x_aloadn (x := 78) rfl rfl ?_
                          refine z_getR (N := 16) (b := 79) 7 7 rfl f_7_27 rfl J rfl 9991 ⟨rfl, rfl⟩ rfl ?_
                          refine x_iloadn (x := a2) rfl rfl ?_
                          refine z_ialdM (N := 600) (v := v14) rfl J rfl rfl (by omega) qv14 ?_
                          refine x_iconst (v := (-1)) rfl ki_m1 ?_
                          refine x_iceq (tgt := 41) rfl rfl (ti_eq rfl jk_m1 (br_f (by omega) ?_))
                          refine x_iconst (v := 1) rfl ki_1 ?_
                          refine x_goto (tgt := 42) rfl rfl ?_
                          refine x_zret rfl rfl (by decide) ?_
                          show jX m_X11_soulOn 7 0 0 15 [(0, .ref 31), (1, .int a2), (2, .int 146399)] [.int 1] _ 0 0 _
                          refine x_ifne (tgt := 20) rfl rfl (ti_ne jk_1 jk_0 (bn_t (by omega) ?_))
                          refine x_aloadn (x := 31) rfl rfl ?_
                          refine z_getR (N := 13) (b := 78) 11 4 rfl f_11_41 rfl J rfl 3972 ⟨rfl, rfl⟩ rfl ?_
                          refine x_iloadn (x := 146399) rfl rfl ?_
                          refine x_inv (N := m_X7_asKnown) (As := [.int 146399]) (b := 78) (st := []) (d' := 6) (mc := 0) (ms := 0) (host := "") 7 rfl t_X7_asKnown ⟨Or.inl q_11_240, i_X7_asKnown.1, i_X7_asKnown.2⟩ ⟨by decide, rfl⟩ (congrArg Prod.fst (J.1.1 78 (7, 16) rfl)) rfl (by decide) rfl rfl ⟨by decide, by decide⟩ (sf_X7_asKnown_r78 (jr_of jk_146399 (by omega)) hD J  (fun h J S24 => ?_))
                          have Sm := jSm_tr rfl Sm S24
                          show jX m_X11_soulOn 7 0 0 28 [(0, .ref 31), (1, .int a2), (2, .int 146399)] [] _ 0 0 _
                          refine x_aloadn (x := 31) rfl rfl ?_
                          refine z_getR (N := 13) (b := 78) 11 4 rfl f_11_41 rfl J rfl 3972 ⟨rfl, rfl⟩ rfl ?_
                          refine z_getR (N := 16) (b := 82) 7 10 rfl f_11_537 rfl J rfl 9994 ⟨rfl, rfl⟩ rfl ?_
                          refine x_iloadn (x := a2) rfl rfl ?_
                          refine z_iald (N := 600) rfl J rfl sg_82_0_600_1_0_1 rfl (by omega) (fun v25 qv25 ev25 => ?_)
                          refine x_iret rfl rfl ?_
                          show jX m_X11_together 8 0 0 56 [(0, .ref 31), (1, .int a1), (2, .int a2), (3, .int a3)] [.int v25, .int (-1)] _ 0 0 _
                          refine x_icne (tgt := 66) rfl rfl (ti_ne jk_m1 rfl ⟨fun c26 => ?_, fun c26 => ?_⟩)
                          ·
                            refine x_aloadn (x := 31) rfl rfl ?_
                            refine z_getR (N := 13) (b := 32) 11 0 rfl f_11_10 rfl J rfl 3968 ⟨rfl, rfl⟩ rfl ?_
                            refine z_getR (N := 20) (b := 39) 1 3 rfl f_11_237 rfl J rfl 4099 ⟨rfl, rfl⟩ rfl ?_
                            refine x_inv (N := m_X8_isFull) (As := []) (b := 39) (st := []) (d' := 1) (mc := 0) (ms := 0) (host := "") 8 rfl t_X8_isFull ⟨Or.inl q_11_130, i_X8_isFull.1, i_X8_isFull.2⟩ ⟨by decide, rfl⟩ (congrArg Prod.fst (J.1.1 39 (8, 4) rfl)) rfl (by decide) rfl rfl ⟨by decide, by decide⟩ (sf_X8_isFull_r39  hD J  (fun v28 h ev28 J S27 => ?_))
                            have Sm := jSm_tr rfl Sm S27
                            show jX m_X11_together 8 0 0 76 [(0, .ref 31), (1, .int a1), (2, .int a2), (3, .int a3)] [.int v28] _ 0 0 _
                            refine x_ifeq (tgt := 86) rfl rfl (ti_eq rfl jk_0 ⟨fun c29 => ?_, fun c29 => ?_⟩)
                            ·
                              refine x_aloadn (x := 31) rfl rfl ?_
                              refine z_getR (N := 13) (b := 32) 11 0 rfl f_11_10 rfl J rfl 3968 ⟨rfl, rfl⟩ rfl ?_
                              refine z_getR (N := 20) (b := 39) 1 3 rfl f_11_237 rfl J rfl 4099 ⟨rfl, rfl⟩ rfl ?_
                              refine x_iloadn (x := a3) rfl rfl ?_
                              refine x_iloadn (x := a1) rfl rfl ?_
                              refine x_iloadn (x := a2) rfl rfl ?_
                              refine x_iconst (v := 0) rfl ki_0 ?_
                              refine x_iconst (v := 0) rfl ki_0 ?_
                              refine x_iconst (v := 0) rfl ki_0 ?_
                              refine x_inv (N := m_X8_add) (As := [.int a3, .int a1, .int a2, .int 0, .int 0, .int 0]) (b := 39) (st := []) (d' := 2) (mc := 0) (ms := 0) (host := "") 8 rfl t_X8_add ⟨Or.inl q_11_145, i_X8_add.1, i_X8_add.2⟩ ⟨by decide, rfl⟩ (congrArg Prod.fst (J.1.1 39 (8, 4) rfl)) rfl (by decide) rfl rfl ⟨by decide, by decide⟩ (sf_X8_add_r39 (jr_of rfl (by omega)) (jr_of rfl (by omega)) (jr_of rfl (by omega)) (jr_of jk_0 (by omega)) (jr_of jk_0 (by omega)) (jr_of jk_0 (by omega)) hD J  (fun h J S30 => ?_))
                              have Sm := jSm_tr rfl Sm S30
                              show jX m_X11_together 8 0 0 102 [(0, .ref 31), (1, .int a1), (2, .int a2), (3, .int a3)] [] _ 0 0 _
                              refine x_aloadn (x := 31) rfl rfl ?_
                              refine x_aloadn (x := 31) rfl rfl ?_
                              refine z_getR (N := 13) (b := 32) 11 0 rfl f_11_10 rfl J rfl 3968 ⟨rfl, rfl⟩ rfl ?_
                              refine z_getR (N := 20) (b := 39) 1 3 rfl f_11_237 rfl J rfl 4099 ⟨rfl, rfl⟩ rfl ?_
                              refine z_getI (N := 4) 8 3 rfl f_11_142 rfl J rfl sg_39_3_4_1_0_1 (fun v31 qv31 ev31 => ?_)
                              refine x_inv (N := m_X11_accept) (As := [.int v31]) (b := 31) (st := []) (d' := 7) (mc := 0) (ms := 0) (host := "") 11 rfl t_X11_accept ⟨Or.inl q_11_165, i_X11_accept.1, i_X11_accept.2⟩ ⟨by decide, rfl⟩ (congrArg Prod.fst (J.1.1 31 (11, 13) rfl)) rfl (by decide) rfl rfl ⟨by decide, by decide⟩ (jC.of rfl k_X11_accept rfl ?_)
                              show jX m_X11_accept 7 0 0 0 [(0, .ref 31), (1, .int v31)] [] _ 0 0 _
                              refine x_aloadn (x := 31) rfl rfl ?_
                              refine x_iconst (v := 0) rfl ki_0 ?_
                              refine z_putI (N := 13) (w := 0) 11 12 rfl f_11_94 rfl (jfin_no TX11 RX11 13 rfl rfl) hD J Sm rfl rfl jk_0 (pw_31_12 (by omega)) rfl (fun h w32 J Sm => ?_)
                              refine x_aloadn (x := 31) rfl rfl ?_
                              refine z_getR (N := 13) (b := 32) 11 0 rfl f_11_10 rfl J rfl 3968 ⟨rfl, rfl⟩ rfl ?_
                              refine x_dup rfl rfl ?_
                              refine z_getI0 (N := 20) 1 19 rfl f_11_528 rfl J rfl (fun v33 qv33 => ?_)
                              have ev33 := jfull v33
                              refine x_iconst (v := 1) rfl ki_1 ?_
                              refine z_iadd0 rfl (fun v34 => ?_)
                              have ev34 := jfull v34
                              refine z_putI (N := 20) (w := v34.toInt) 1 19 rfl f_11_528 rfl (jfin_no TX1 RX1 20 rfl rfl) hD J Sm rfl rfl rfl (pw_32_19 trivial) rfl (fun h w35 J Sm => ?_)
                              refine x_iloadn (x := v31) rfl rfl ?_
                              refine x_iret rfl rfl ?_
                              show jX m_X11_together 8 0 0 116 [(0, .ref 31), (1, .int a1), (2, .int a2), (3, .int a3)] [.int v31] _ 0 0 _
                              refine x_iret rfl rfl ?_
                              exact hQ _ _ (jr_of rfl (by omega)) J Sm
                            ·
                              refine x_aloadn (x := 31) rfl rfl ?_
                              refine x_bipush (v := (-5)) rfl kb_m5 ?_
                              refine x_inv (N := m_X11_refuse) (As := [.int (-5)]) (b := 31) (st := []) (d' := 7) (mc := 0) (ms := 0) (host := "") 11 rfl t_X11_refuse ⟨Or.inl q_11_206, i_X11_refuse.1, i_X11_refuse.2⟩ ⟨by decide, rfl⟩ (congrArg Prod.fst (J.1.1 31 (11, 13) rfl)) rfl (by decide) rfl rfl ⟨by decide, by decide⟩ (jC.of rfl k_X11_refuse rfl ?_)
                              show jX m_X11_refuse 7 0 0 0 [(0, .ref 31), (1, .int (-5))] [] _ 0 0 _
                              refine x_aloadn (x := 31) rfl rfl ?_
                              refine x_iloadn (x := (-5)) rfl rfl ?_
                              refine z_putI (N := 13) (w := (-5)) 11 12 rfl f_11_94 rfl (jfin_no TX11 RX11 13 rfl rfl) hD J Sm rfl rfl jk_m5 (pw_31_12 (by omega)) rfl (fun h w36 J Sm => ?_)
                              refine x_iloadn (x := (-5)) rfl rfl ?_
                              refine x_iret rfl rfl ?_
                              show jX m_X11_together 8 0 0 85 [(0, .ref 31), (1, .int a1), (2, .int a2), (3, .int a3)] [.int (-5)] _ 0 0 _
                              refine x_iret rfl rfl ?_
                              exact hQ _ _ (jr_of jk_m5 (by omega)) J Sm
                          ·
                            refine x_aloadn (x := 31) rfl rfl ?_
                            refine x_bipush (v := (-4)) rfl kb_m4 ?_
                            refine x_inv (N := m_X11_refuse) (As := [.int (-4)]) (b := 31) (st := []) (d' := 7) (mc := 0) (ms := 0) (host := "") 11 rfl t_X11_refuse ⟨Or.inl q_11_206, i_X11_refuse.1, i_X11_refuse.2⟩ ⟨by decide, rfl⟩ (congrArg Prod.fst (J.1.1 31 (11, 13) rfl)) rfl (by decide) rfl rfl ⟨by decide, by decide⟩ (jC.of rfl k_X11_refuse rfl ?_)
                            show jX m_X11_refuse 7 0 0 0 [(0, .ref 31), (1, .int (-4))] [] _ 0 0 _
                            refine x_aloadn (x := 31) rfl rfl ?_
                            refine x_iloadn (x := (-4)) rfl rfl ?_
                            refine z_putI (N := 13) (w := (-4)) 11 12 rfl f_11_94 rfl (jfin_no TX11 RX11 13 rfl rfl) hD J Sm rfl rfl jk_m4 (pw_31_12 (by omega)) rfl (fun h w37 J Sm => ?_)
                            refine x_iloadn (x := (-4)) rfl rfl ?_
                            refine x_iret rfl rfl ?_
                            show jX m_X11_together 8 0 0 65 [(0, .ref 31), (1, .int a1), (2, .int a2), (3, .int a3)] [.int (-4)] _ 0 0 _
                            refine x_iret rfl rfl ?_
                            exact hQ _ _ (jr_of jk_m4 (by omega)) J Sm
                    ·
                      refine x_aloadn (x := 31) rfl rfl ?_
                      refine z_getR (N := 13) (b := 78) 11 4 rfl f_11_41 rfl J rfl 3972 ⟨rfl, rfl⟩ rfl ?_
                      refine x_iloadn (x := a1) rfl rfl ?_
                      refine x_inv (N := m_X7_isMention) (As := [.int a1]) (b := 78) (st := []) (d' := 6) (mc := 0) (ms := 0) (host := "") 7 rfl t_X7_isMention ⟨Or.inl q_11_187, i_X7_isMention.1, i_X7_isMention.2⟩ ⟨by decide, rfl⟩ (congrArg Prod.fst (J.1.1 78 (7, 16) rfl)) rfl (by decide) rfl rfl ⟨by decide, by decide⟩ (jC.of rfl k_X7_isMention rfl ?_)
                      show jX m_X7_isMention 6 0 0 0 [(0, .ref 78), (1, .int a1)] [] _ 0 0 _
                      refine x_iloadn (x := a1) rfl rfl ?_
                      refine x_iflt (tgt := 41) rfl rfl (ti_lt rfl jk_0 (br_f (by omega) ?_))
                      refine x_iloadn (x := a1) rfl rfl ?_
                      refine x_sipush (v := 600) rfl ks_600 ?_
                      refine x_icge (tgt := 41) rfl rfl (ti_ge rfl jk_600 (br_f (by omega) ?_))
                      refine x_iloadn (x := a1) rfl rfl ?_
                      refine x_iconst (v := 3) rfl ki_3 ?_
                      refine z_idiv rfl rfl jk_3 (by omega) (by omega) (fun v38 ev38 => ?_)
                      refine x_aloadn (x := 78) rfl rfl ?_
                      refine z_getR (N := 16) (b := 32) 7 0 rfl f_7_55 rfl J rfl 9984 ⟨rfl, rfl⟩ rfl ?_
                      refine z_getR (N := 20) (b := 33) 1 0 rfl f_7_63 rfl J rfl 4096 ⟨rfl, rfl⟩ rfl ?_
                      refine z_getM (N := 4) (v := v6) 8 3 rfl f_7_85 rfl J rfl qv6 ?_
                      refine x_icge (tgt := 41) rfl rfl (ti_ge rfl rfl ⟨fun c39 => ?_, fun c39 => ?_⟩)
                      ·
                        refine x_iconst (v := 0) rfl ki_0 ?_
                        refine x_zret rfl rfl (by decide) ?_
                        show jX m_X11_soulOn 7 0 0 15 [(0, .ref 31), (1, .int a1), (2, .int 146399)] [.int 0] _ 0 0 _
                        refine x_ifne (tgt := 20) rfl rfl (ti_ne jk_0 jk_0 (bn_f (by omega) ?_))
                        refine x_iconst (v := (-1)) rfl ki_m1 ?_
                        refine x_iret rfl rfl ?_
                        show jX m_X11_together 8 0 0 49 [(0, .ref 31), (1, .int a1), (2, .int a2), (3, .int a3)] [.int (-1)] _ 0 0 _
                        refine x_aloadn (x := 31) rfl rfl ?_
                        refine x_iloadn (x := a2) rfl rfl ?_
                        refine x_ldc (v := 146399) rfl z_11_233 ?_
                        refine x_inv (N := m_X11_soulOn) (As := [.int a2, .int 146399]) (b := 31) (st := [.int (-1)]) (d' := 7) (mc := 0) (ms := 0) (host := "") 11 rfl t_X11_soulOn ⟨Or.inl q_11_234, i_X11_soulOn.1, i_X11_soulOn.2⟩ ⟨by decide, rfl⟩ (congrArg Prod.fst (J.1.1 31 (11, 13) rfl)) rfl (by decide) rfl rfl ⟨by decide, by decide⟩ (jC.of rfl k_X11_soulOn rfl ?_)
                        show jX m_X11_soulOn 7 0 0 0 [(0, .ref 31), (1, .int a2), (2, .int 146399)] [] _ 0 0 _
                        refine x_iloadn (x := 146399) rfl rfl ?_
                        refine x_inst (N := m_X11_isDay) (As := [.int 146399]) (st := []) (d' := 1) (mc := 0) (ms := 0) (host := "") rfl t_X11_isDay ⟨Or.inl q_11_115, s_X11_isDay⟩ rfl (by decide) rfl rfl ⟨by decide, by decide⟩ (zc_X11_isDay jk_146399 (fun v40 ev40 => ?_))
                        show jX m_X11_soulOn 7 0 0 4 [(0, .ref 31), (1, .int a2), (2, .int 146399)] [.int v40] _ 0 0 _
                        refine x_ifeq (tgt := 18) rfl rfl (ti_eq rfl jk_0 ⟨fun c41 => ?_, fun c41 => ?_⟩)
                        ·
                          refine x_iconst (v := (-1)) rfl ki_m1 ?_
                          refine x_iret rfl rfl ?_
                          show jX m_X11_together 8 0 0 56 [(0, .ref 31), (1, .int a1), (2, .int a2), (3, .int a3)] [.int (-1), .int (-1)] _ 0 0 _
                          refine x_icne (tgt := 66) rfl rfl (ti_ne jk_m1 jk_m1 (bn_f (by omega) ?_))
                          refine x_aloadn (x := 31) rfl rfl ?_
                          refine x_bipush (v := (-4)) rfl kb_m4 ?_
                          refine x_inv (N := m_X11_refuse) (As := [.int (-4)]) (b := 31) (st := []) (d' := 7) (mc := 0) (ms := 0) (host := "") 11 rfl t_X11_refuse ⟨Or.inl q_11_206, i_X11_refuse.1, i_X11_refuse.2⟩ ⟨by decide, rfl⟩ (congrArg Prod.fst (J.1.1 31 (11, 13) rfl)) rfl (by decide) rfl rfl ⟨by decide, by decide⟩ (jC.of rfl k_X11_refuse rfl ?_)
                          show jX m_X11_refuse 7 0 0 0 [(0, .ref 31), (1, .int (-4))] [] _ 0 0 _
                          refine x_aloadn (x := 31) rfl rfl ?_
                          refine x_iloadn (x := (-4)) rfl rfl ?_
                          refine z_putI (N := 13) (w := (-4)) 11 12 rfl f_11_94 rfl (jfin_no TX11 RX11 13 rfl rfl) hD J Sm rfl rfl jk_m4 (pw_31_12 (by omega)) rfl (fun h w42 J Sm => ?_)
                          refine x_iloadn (x := (-4)) rfl rfl ?_
                          refine x_iret rfl rfl ?_
                          show jX m_X11_together 8 0 0 65 [(0, .ref 31), (1, .int a1), (2, .int a2), (3, .int a3)] [.int (-4)] _ 0 0 _
                          refine x_iret rfl rfl ?_
                          exact hQ _ _ (jr_of jk_m4 (by omega)) J Sm
                        ·
                          refine x_aloadn (x := 31) rfl rfl ?_
                          refine z_getR (N := 13) (b := 78) 11 4 rfl f_11_41 rfl J rfl 3972 ⟨rfl, rfl⟩ rfl ?_
                          refine x_iloadn (x := a2) rfl rfl ?_
                          refine x_inv (N := m_X7_isMention) (As := [.int a2]) (b := 78) (st := []) (d' := 6) (mc := 0) (ms := 0) (host := "") 7 rfl t_X7_isMention ⟨Or.inl q_11_187, i_X7_isMention.1, i_X7_isMention.2⟩ ⟨by decide, rfl⟩ (congrArg Prod.fst (J.1.1 78 (7, 16) rfl)) rfl (by decide) rfl rfl ⟨by decide, by decide⟩ (jC.of rfl k_X7_isMention rfl ?_)
                          show jX m_X7_isMention 6 0 0 0 [(0, .ref 78), (1, .int a2)] [] _ 0 0 _
                          refine x_iloadn (x := a2) rfl rfl ?_
                          refine x_iflt (tgt := 41) rfl rfl (ti_lt rfl jk_0 (br_f (by omega) ?_))
                          refine x_iloadn (x := a2) rfl rfl ?_
                          refine x_sipush (v := 600) rfl ks_600 ?_
                          refine x_icge (tgt := 41) rfl rfl (ti_ge rfl jk_600 (br_f (by omega) ?_))
                          refine x_iloadn (x := a2) rfl rfl ?_
                          refine x_iconst (v := 3) rfl ki_3 ?_
                          refine z_idiv rfl rfl jk_3 (by omega) (by omega) (fun v43 ev43 => ?_)
                          refine x_aloadn (x := 78) rfl rfl ?_
                          refine z_getR (N := 16) (b := 32) 7 0 rfl f_7_55 rfl J rfl 9984 ⟨rfl, rfl⟩ rfl ?_
                          refine z_getR (N := 20) (b := 33) 1 0 rfl f_7_63 rfl J rfl 4096 ⟨rfl, rfl⟩ rfl ?_
                          refine z_getM (N := 4) (v := v6) 8 3 rfl f_7_85 rfl J rfl qv6 ?_
                          refine x_icge (tgt := 41) rfl rfl (ti_ge rfl rfl ⟨fun c44 => ?_, fun c44 => ?_⟩)
                          ·
                            refine x_iconst (v := 0) rfl ki_0 ?_
                            refine x_zret rfl rfl (by decide) ?_
                            show jX m_X11_soulOn 7 0 0 15 [(0, .ref 31), (1, .int a2), (2, .int 146399)] [.int 0] _ 0 0 _
                            refine x_ifne (tgt := 20) rfl rfl (ti_ne jk_0 jk_0 (bn_f (by omega) ?_))
                            refine x_iconst (v := (-1)) rfl ki_m1 ?_
                            refine x_iret rfl rfl ?_
                            show jX m_X11_together 8 0 0 56 [(0, .ref 31), (1, .int a1), (2, .int a2), (3, .int a3)] [.int (-1), .int (-1)] _ 0 0 _
                            refine x_icne (tgt := 66) rfl rfl (ti_ne jk_m1 jk_m1 (bn_f (by omega) ?_))
                            refine x_aloadn (x := 31) rfl rfl ?_
                            refine x_bipush (v := (-4)) rfl kb_m4 ?_
                            refine x_inv (N := m_X11_refuse) (As := [.int (-4)]) (b := 31) (st := []) (d' := 7) (mc := 0) (ms := 0) (host := "") 11 rfl t_X11_refuse ⟨Or.inl q_11_206, i_X11_refuse.1, i_X11_refuse.2⟩ ⟨by decide, rfl⟩ (congrArg Prod.fst (J.1.1 31 (11, 13) rfl)) rfl (by decide) rfl rfl ⟨by decide, by decide⟩ (jC.of rfl k_X11_refuse rfl ?_)
                            show jX m_X11_refuse 7 0 0 0 [(0, .ref 31), (1, .int (-4))] [] _ 0 0 _
                            refine x_aloadn (x := 31) rfl rfl ?_
                            refine x_iloadn (x := (-4)) rfl rfl ?_
                            refine z_putI (N := 13) (w := (-4)) 11 12 rfl f_11_94 rfl (jfin_no TX11 RX11 13 rfl rfl) hD J Sm rfl rfl jk_m4 (pw_31_12 (by omega)) rfl (fun h w45 J Sm => ?_)
                            refine x_iloadn (x := (-4)) rfl rfl ?_
                            refine x_iret rfl rfl ?_
                            show jX m_X11_together 8 0 0 65 [(0, .ref 31), (1, .int a1), (2, .int a2), (3, .int a3)] [.int (-4)] _ 0 0 _
                            refine x_iret rfl rfl ?_
                            exact hQ _ _ (jr_of jk_m4 (by omega)) J Sm
                          ·
                            refine x_aloadn (x := 78) rfl rfl ?_
                            refine z_getR (N := 16) (b := 79) 7 7 rfl f_7_27 rfl J rfl 9991 ⟨rfl, rfl⟩ rfl ?_
                            refine x_iloadn (x := a2) rfl rfl ?_
                            refine z_ialdM (N := 600) (v := v14) rfl J rfl rfl (by omega) qv14 ?_
                            refine x_iconst (v := (-1)) rfl ki_m1 ?_
                            refine x_iceq (tgt := 41) rfl rfl (ti_eq rfl jk_m1 (br_f (by omega) ?_))
                            refine x_iconst (v := 1) rfl ki_1 ?_
                            refine x_goto (tgt := 42) rfl rfl ?_
                            refine x_zret rfl rfl (by decide) ?_
                            show jX m_X11_soulOn 7 0 0 15 [(0, .ref 31), (1, .int a2), (2, .int 146399)] [.int 1] _ 0 0 _
                            refine x_ifne (tgt := 20) rfl rfl (ti_ne jk_1 jk_0 (bn_t (by omega) ?_))
                            refine x_aloadn (x := 31) rfl rfl ?_
                            refine z_getR (N := 13) (b := 78) 11 4 rfl f_11_41 rfl J rfl 3972 ⟨rfl, rfl⟩ rfl ?_
                            refine x_iloadn (x := 146399) rfl rfl ?_
                            refine x_inv (N := m_X7_asKnown) (As := [.int 146399]) (b := 78) (st := []) (d' := 6) (mc := 0) (ms := 0) (host := "") 7 rfl t_X7_asKnown ⟨Or.inl q_11_240, i_X7_asKnown.1, i_X7_asKnown.2⟩ ⟨by decide, rfl⟩ (congrArg Prod.fst (J.1.1 78 (7, 16) rfl)) rfl (by decide) rfl rfl ⟨by decide, by decide⟩ (sf_X7_asKnown_r78 (jr_of jk_146399 (by omega)) hD J  (fun h J S46 => ?_))
                            have Sm := jSm_tr rfl Sm S46
                            show jX m_X11_soulOn 7 0 0 28 [(0, .ref 31), (1, .int a2), (2, .int 146399)] [] _ 0 0 _
                            refine x_aloadn (x := 31) rfl rfl ?_
                            refine z_getR (N := 13) (b := 78) 11 4 rfl f_11_41 rfl J rfl 3972 ⟨rfl, rfl⟩ rfl ?_
                            refine z_getR (N := 16) (b := 82) 7 10 rfl f_11_537 rfl J rfl 9994 ⟨rfl, rfl⟩ rfl ?_
                            refine x_iloadn (x := a2) rfl rfl ?_
                            refine z_iald (N := 600) rfl J rfl sg_82_0_600_1_0_1 rfl (by omega) (fun v47 qv47 ev47 => ?_)
                            refine x_iret rfl rfl ?_
                            show jX m_X11_together 8 0 0 56 [(0, .ref 31), (1, .int a1), (2, .int a2), (3, .int a3)] [.int v47, .int (-1)] _ 0 0 _
                            refine x_icne (tgt := 66) rfl rfl (ti_ne jk_m1 rfl ⟨fun c48 => ?_, fun c48 => ?_⟩)
                            ·
                              refine x_aloadn (x := 31) rfl rfl ?_
                              refine z_getR (N := 13) (b := 32) 11 0 rfl f_11_10 rfl J rfl 3968 ⟨rfl, rfl⟩ rfl ?_
                              refine z_getR (N := 20) (b := 39) 1 3 rfl f_11_237 rfl J rfl 4099 ⟨rfl, rfl⟩ rfl ?_
                              refine x_inv (N := m_X8_isFull) (As := []) (b := 39) (st := []) (d' := 1) (mc := 0) (ms := 0) (host := "") 8 rfl t_X8_isFull ⟨Or.inl q_11_130, i_X8_isFull.1, i_X8_isFull.2⟩ ⟨by decide, rfl⟩ (congrArg Prod.fst (J.1.1 39 (8, 4) rfl)) rfl (by decide) rfl rfl ⟨by decide, by decide⟩ (sf_X8_isFull_r39  hD J  (fun v50 h ev50 J S49 => ?_))
                              have Sm := jSm_tr rfl Sm S49
                              show jX m_X11_together 8 0 0 76 [(0, .ref 31), (1, .int a1), (2, .int a2), (3, .int a3)] [.int v50] _ 0 0 _
                              refine x_ifeq (tgt := 86) rfl rfl (ti_eq rfl jk_0 ⟨fun c51 => ?_, fun c51 => ?_⟩)
                              ·
                                refine x_aloadn (x := 31) rfl rfl ?_
                                refine z_getR (N := 13) (b := 32) 11 0 rfl f_11_10 rfl J rfl 3968 ⟨rfl, rfl⟩ rfl ?_
                                refine z_getR (N := 20) (b := 39) 1 3 rfl f_11_237 rfl J rfl 4099 ⟨rfl, rfl⟩ rfl ?_
                                refine x_iloadn (x := a3) rfl rfl ?_
                                refine x_iloadn (x := a1) rfl rfl ?_
                                refine x_iloadn (x := a2) rfl rfl ?_
                                refine x_iconst (v := 0) rfl ki_0 ?_
                                refine x_iconst (v := 0) rfl ki_0 ?_
                                refine x_iconst (v := 0) rfl ki_0 ?_
                                refine x_inv (N := m_X8_add) (As := [.int a3, .int a1, .int a2, .int 0, .int 0, .int 0]) (b := 39) (st := []) (d' := 2) (mc := 0) (ms := 0) (host := "") 8 rfl t_X8_add ⟨Or.inl q_11_145, i_X8_add.1, i_X8_add.2⟩ ⟨by decide, rfl⟩ (congrArg Prod.fst (J.1.1 39 (8, 4) rfl)) rfl (by decide) rfl rfl ⟨by decide, by decide⟩ (sf_X8_add_r39 (jr_of rfl (by omega)) (jr_of rfl (by omega)) (jr_of rfl (by omega)) (jr_of jk_0 (by omega)) (jr_of jk_0 (by omega)) (jr_of jk_0 (by omega)) hD J  (fun h J S52 => ?_))
                                have Sm := jSm_tr rfl Sm S52
                                show jX m_X11_together 8 0 0 102 [(0, .ref 31), (1, .int a1), (2, .int a2), (3, .int a3)] [] _ 0 0 _
                                refine x_aloadn (x := 31) rfl rfl ?_
                                refine x_aloadn (x := 31) rfl rfl ?_
                                refine z_getR (N := 13) (b := 32) 11 0 rfl f_11_10 rfl J rfl 3968 ⟨rfl, rfl⟩ rfl ?_
                                refine z_getR (N := 20) (b := 39) 1 3 rfl f_11_237 rfl J rfl 4099 ⟨rfl, rfl⟩ rfl ?_
                                refine z_getI (N := 4) 8 3 rfl f_11_142 rfl J rfl sg_39_3_4_1_0_1 (fun v53 qv53 ev53 => ?_)
                                refine x_inv (N := m_X11_accept) (As := [.int v53]) (b := 31) (st := []) (d' := 7) (mc := 0) (ms := 0) (host := "") 11 rfl t_X11_accept ⟨Or.inl q_11_165, i_X11_accept.1, i_X11_accept.2⟩ ⟨by decide, rfl⟩ (congrArg Prod.fst (J.1.1 31 (11, 13) rfl)) rfl (by decide) rfl rfl ⟨by decide, by decide⟩ (jC.of rfl k_X11_accept rfl ?_)
                                show jX m_X11_accept 7 0 0 0 [(0, .ref 31), (1, .int v53)] [] _ 0 0 _
                                refine x_aloadn (x := 31) rfl rfl ?_
                                refine x_iconst (v := 0) rfl ki_0 ?_
                                refine z_putI (N := 13) (w := 0) 11 12 rfl f_11_94 rfl (jfin_no TX11 RX11 13 rfl rfl) hD J Sm rfl rfl jk_0 (pw_31_12 (by omega)) rfl (fun h w54 J Sm => ?_)
                                refine x_aloadn (x := 31) rfl rfl ?_
                                refine z_getR (N := 13) (b := 32) 11 0 rfl f_11_10 rfl J rfl 3968 ⟨rfl, rfl⟩ rfl ?_
                                refine x_dup rfl rfl ?_
                                refine z_getI0 (N := 20) 1 19 rfl f_11_528 rfl J rfl (fun v55 qv55 => ?_)
                                have ev55 := jfull v55
                                refine x_iconst (v := 1) rfl ki_1 ?_
                                refine z_iadd0 rfl (fun v56 => ?_)
                                have ev56 := jfull v56
                                refine z_putI (N := 20) (w := v56.toInt) 1 19 rfl f_11_528 rfl (jfin_no TX1 RX1 20 rfl rfl) hD J Sm rfl rfl rfl (pw_32_19 trivial) rfl (fun h w57 J Sm => ?_)
                                refine x_iloadn (x := v53) rfl rfl ?_
                                refine x_iret rfl rfl ?_
                                show jX m_X11_together 8 0 0 116 [(0, .ref 31), (1, .int a1), (2, .int a2), (3, .int a3)] [.int v53] _ 0 0 _
                                refine x_iret rfl rfl ?_
                                exact hQ _ _ (jr_of rfl (by omega)) J Sm
                              ·
                                refine x_aloadn (x := 31) rfl rfl ?_
                                refine x_bipush (v := (-5)) rfl kb_m5 ?_
                                refine x_inv (N := m_X11_refuse) (As := [.int (-5)]) (b := 31) (st := []) (d' := 7) (mc := 0) (ms := 0) (host := "") 11 rfl t_X11_refuse ⟨Or.inl q_11_206, i_X11_refuse.1, i_X11_refuse.2⟩ ⟨by decide, rfl⟩ (congrArg Prod.fst (J.1.1 31 (11, 13) rfl)) rfl (by decide) rfl rfl ⟨by decide, by decide⟩ (jC.of rfl k_X11_refuse rfl ?_)
                                show jX m_X11_refuse 7 0 0 0 [(0, .ref 31), (1, .int (-5))] [] _ 0 0 _
                                refine x_aloadn (x := 31) rfl rfl ?_
                                refine x_iloadn (x := (-5)) rfl rfl ?_
                                refine z_putI (N := 13) (w := (-5)) 11 12 rfl f_11_94 rfl (jfin_no TX11 RX11 13 rfl rfl) hD J Sm rfl rfl jk_m5 (pw_31_12 (by omega)) rfl (fun h w58 J Sm => ?_)
                                refine x_iloadn (x := (-5)) rfl rfl ?_
                                refine x_iret rfl rfl ?_
                                show jX m_X11_together 8 0 0 85 [(0, .ref 31), (1, .int a1), (2, .int a2), (3, .int a3)] [.int (-5)] _ 0 0 _
                                refine x_iret rfl rfl ?_
                                exact hQ _ _ (jr_of jk_m5 (by omega)) J Sm
                            ·
                              refine x_aloadn (x := 31) rfl rfl ?_
                              refine x_bipush (v := (-4)) rfl kb_m4 ?_
                              refine x_inv (N := m_X11_refuse) (As := [.int (-4)]) (b := 31) (st := []) (d' := 7) (mc := 0) (ms := 0) (host := "") 11 rfl t_X11_refuse ⟨Or.inl q_11_206, i_X11_refuse.1, i_X11_refuse.2⟩ ⟨by decide, rfl⟩ (congrArg Prod.fst (J.1.1 31 (11, 13) rfl)) rfl (by decide) rfl rfl ⟨by decide, by decide⟩ (jC.of rfl k_X11_refuse rfl ?_)
                              show jX m_X11_refuse 7 0 0 0 [(0, .ref 31), (1, .int (-4))] [] _ 0 0 _
                              refine x_aloadn (x := 31) rfl rfl ?_
                              refine x_iloadn (x := (-4)) rfl rfl ?_
                              refine z_putI (N := 13) (w := (-4)) 11 12 rfl f_11_94 rfl (jfin_no TX11 RX11 13 rfl rfl) hD J Sm rfl rfl jk_m4 (pw_31_12 (by omega)) rfl (fun h w59 J Sm => ?_)
                              refine x_iloadn (x := (-4)) rfl rfl ?_
                              refine x_iret rfl rfl ?_
                              show jX m_X11_together 8 0 0 65 [(0, .ref 31), (1, .int a1), (2, .int a2), (3, .int a3)] [.int (-4)] _ 0 0 _
                              refine x_iret rfl rfl ?_
                              exact hQ _ _ (jr_of jk_m4 (by omega)) J Sm
                      ·
                        refine x_aloadn (x := 78) rfl rfl ?_
                        refine z_getR (N := 16) (b := 79) 7 7 rfl f_7_27 rfl J rfl 9991 ⟨rfl, rfl⟩ rfl ?_
                        refine x_iloadn (x := a1) rfl rfl ?_
                        refine z_ialdM (N := 600) (v := v8) rfl J rfl rfl (by omega) qv8 ?_
                        refine x_iconst (v := (-1)) rfl ki_m1 ?_
                        refine x_iceq (tgt := 41) rfl rfl (ti_eq rfl jk_m1 (br_f (by omega) ?_))
                        refine x_iconst (v := 1) rfl ki_1 ?_
                        refine x_goto (tgt := 42) rfl rfl ?_
                        refine x_zret rfl rfl (by decide) ?_
                        show jX m_X11_soulOn 7 0 0 15 [(0, .ref 31), (1, .int a1), (2, .int 146399)] [.int 1] _ 0 0 _
                        refine x_ifne (tgt := 20) rfl rfl (ti_ne jk_1 jk_0 (bn_t (by omega) ?_))
                        refine x_aloadn (x := 31) rfl rfl ?_
                        refine z_getR (N := 13) (b := 78) 11 4 rfl f_11_41 rfl J rfl 3972 ⟨rfl, rfl⟩ rfl ?_
                        refine x_iloadn (x := 146399) rfl rfl ?_
                        refine x_inv (N := m_X7_asKnown) (As := [.int 146399]) (b := 78) (st := []) (d' := 6) (mc := 0) (ms := 0) (host := "") 7 rfl t_X7_asKnown ⟨Or.inl q_11_240, i_X7_asKnown.1, i_X7_asKnown.2⟩ ⟨by decide, rfl⟩ (congrArg Prod.fst (J.1.1 78 (7, 16) rfl)) rfl (by decide) rfl rfl ⟨by decide, by decide⟩ (sf_X7_asKnown_r78 (jr_of jk_146399 (by omega)) hD J  (fun h J S60 => ?_))
                        have Sm := jSm_tr rfl Sm S60
                        show jX m_X11_soulOn 7 0 0 28 [(0, .ref 31), (1, .int a1), (2, .int 146399)] [] _ 0 0 _
                        refine x_aloadn (x := 31) rfl rfl ?_
                        refine z_getR (N := 13) (b := 78) 11 4 rfl f_11_41 rfl J rfl 3972 ⟨rfl, rfl⟩ rfl ?_
                        refine z_getR (N := 16) (b := 82) 7 10 rfl f_11_537 rfl J rfl 9994 ⟨rfl, rfl⟩ rfl ?_
                        refine x_iloadn (x := a1) rfl rfl ?_
                        refine z_iald (N := 600) rfl J rfl sg_82_0_600_1_0_1 rfl (by omega) (fun v61 qv61 ev61 => ?_)
                        refine x_iret rfl rfl ?_
                        show jX m_X11_together 8 0 0 49 [(0, .ref 31), (1, .int a1), (2, .int a2), (3, .int a3)] [.int v61] _ 0 0 _
                        refine x_aloadn (x := 31) rfl rfl ?_
                        refine x_iloadn (x := a2) rfl rfl ?_
                        refine x_ldc (v := 146399) rfl z_11_233 ?_
                        refine x_inv (N := m_X11_soulOn) (As := [.int a2, .int 146399]) (b := 31) (st := [.int v61]) (d' := 7) (mc := 0) (ms := 0) (host := "") 11 rfl t_X11_soulOn ⟨Or.inl q_11_234, i_X11_soulOn.1, i_X11_soulOn.2⟩ ⟨by decide, rfl⟩ (congrArg Prod.fst (J.1.1 31 (11, 13) rfl)) rfl (by decide) rfl rfl ⟨by decide, by decide⟩ (jC.of rfl k_X11_soulOn rfl ?_)
                        show jX m_X11_soulOn 7 0 0 0 [(0, .ref 31), (1, .int a2), (2, .int 146399)] [] _ 0 0 _
                        refine x_iloadn (x := 146399) rfl rfl ?_
                        refine x_inst (N := m_X11_isDay) (As := [.int 146399]) (st := []) (d' := 1) (mc := 0) (ms := 0) (host := "") rfl t_X11_isDay ⟨Or.inl q_11_115, s_X11_isDay⟩ rfl (by decide) rfl rfl ⟨by decide, by decide⟩ (zc_X11_isDay jk_146399 (fun v62 ev62 => ?_))
                        show jX m_X11_soulOn 7 0 0 4 [(0, .ref 31), (1, .int a2), (2, .int 146399)] [.int v62] _ 0 0 _
                        refine x_ifeq (tgt := 18) rfl rfl (ti_eq rfl jk_0 ⟨fun c63 => ?_, fun c63 => ?_⟩)
                        ·
                          refine x_iconst (v := (-1)) rfl ki_m1 ?_
                          refine x_iret rfl rfl ?_
                          show jX m_X11_together 8 0 0 56 [(0, .ref 31), (1, .int a1), (2, .int a2), (3, .int a3)] [.int (-1), .int v61] _ 0 0 _
                          refine x_icne (tgt := 66) rfl rfl (ti_ne rfl jk_m1 ⟨fun c64 => ?_, fun c64 => ?_⟩)
                          ·
                            refine x_aloadn (x := 31) rfl rfl ?_
                            refine z_getR (N := 13) (b := 32) 11 0 rfl f_11_10 rfl J rfl 3968 ⟨rfl, rfl⟩ rfl ?_
                            refine z_getR (N := 20) (b := 39) 1 3 rfl f_11_237 rfl J rfl 4099 ⟨rfl, rfl⟩ rfl ?_
                            refine x_inv (N := m_X8_isFull) (As := []) (b := 39) (st := []) (d' := 1) (mc := 0) (ms := 0) (host := "") 8 rfl t_X8_isFull ⟨Or.inl q_11_130, i_X8_isFull.1, i_X8_isFull.2⟩ ⟨by decide, rfl⟩ (congrArg Prod.fst (J.1.1 39 (8, 4) rfl)) rfl (by decide) rfl rfl ⟨by decide, by decide⟩ (sf_X8_isFull_r39  hD J  (fun v66 h ev66 J S65 => ?_))
                            have Sm := jSm_tr rfl Sm S65
                            show jX m_X11_together 8 0 0 76 [(0, .ref 31), (1, .int a1), (2, .int a2), (3, .int a3)] [.int v66] _ 0 0 _
                            refine x_ifeq (tgt := 86) rfl rfl (ti_eq rfl jk_0 ⟨fun c67 => ?_, fun c67 => ?_⟩)
                            ·
                              refine x_aloadn (x := 31) rfl rfl ?_
                              refine z_getR (N := 13) (b := 32) 11 0 rfl f_11_10 rfl J rfl 3968 ⟨rfl, rfl⟩ rfl ?_
                              refine z_getR (N := 20) (b := 39) 1 3 rfl f_11_237 rfl J rfl 4099 ⟨rfl, rfl⟩ rfl ?_
                              refine x_iloadn (x := a3) rfl rfl ?_
                              refine x_iloadn (x := a1) rfl rfl ?_
                              refine x_iloadn (x := a2) rfl rfl ?_
                              refine x_iconst (v := 0) rfl ki_0 ?_
                              refine x_iconst (v := 0) rfl ki_0 ?_
                              refine x_iconst (v := 0) rfl ki_0 ?_
                              refine x_inv (N := m_X8_add) (As := [.int a3, .int a1, .int a2, .int 0, .int 0, .int 0]) (b := 39) (st := []) (d' := 2) (mc := 0) (ms := 0) (host := "") 8 rfl t_X8_add ⟨Or.inl q_11_145, i_X8_add.1, i_X8_add.2⟩ ⟨by decide, rfl⟩ (congrArg Prod.fst (J.1.1 39 (8, 4) rfl)) rfl (by decide) rfl rfl ⟨by decide, by decide⟩ (sf_X8_add_r39 (jr_of rfl (by omega)) (jr_of rfl (by omega)) (jr_of rfl (by omega)) (jr_of jk_0 (by omega)) (jr_of jk_0 (by omega)) (jr_of jk_0 (by omega)) hD J  (fun h J S68 => ?_))
                              have Sm := jSm_tr rfl Sm S68
                              show jX m_X11_together 8 0 0 102 [(0, .ref 31), (1, .int a1), (2, .int a2), (3, .int a3)] [] _ 0 0 _
                              refine x_aloadn (x := 31) rfl rfl ?_
                              refine x_aloadn (x := 31) rfl rfl ?_
                              refine z_getR (N := 13) (b := 32) 11 0 rfl f_11_10 rfl J rfl 3968 ⟨rfl, rfl⟩ rfl ?_
                              refine z_getR (N := 20) (b := 39) 1 3 rfl f_11_237 rfl J rfl 4099 ⟨rfl, rfl⟩ rfl ?_
                              refine z_getI (N := 4) 8 3 rfl f_11_142 rfl J rfl sg_39_3_4_1_0_1 (fun v69 qv69 ev69 => ?_)
                              refine x_inv (N := m_X11_accept) (As := [.int v69]) (b := 31) (st := []) (d' := 7) (mc := 0) (ms := 0) (host := "") 11 rfl t_X11_accept ⟨Or.inl q_11_165, i_X11_accept.1, i_X11_accept.2⟩ ⟨by decide, rfl⟩ (congrArg Prod.fst (J.1.1 31 (11, 13) rfl)) rfl (by decide) rfl rfl ⟨by decide, by decide⟩ (jC.of rfl k_X11_accept rfl ?_)
                              show jX m_X11_accept 7 0 0 0 [(0, .ref 31), (1, .int v69)] [] _ 0 0 _
                              refine x_aloadn (x := 31) rfl rfl ?_
                              refine x_iconst (v := 0) rfl ki_0 ?_
                              refine z_putI (N := 13) (w := 0) 11 12 rfl f_11_94 rfl (jfin_no TX11 RX11 13 rfl rfl) hD J Sm rfl rfl jk_0 (pw_31_12 (by omega)) rfl (fun h w70 J Sm => ?_)
                              refine x_aloadn (x := 31) rfl rfl ?_
                              refine z_getR (N := 13) (b := 32) 11 0 rfl f_11_10 rfl J rfl 3968 ⟨rfl, rfl⟩ rfl ?_
                              refine x_dup rfl rfl ?_
                              refine z_getI0 (N := 20) 1 19 rfl f_11_528 rfl J rfl (fun v71 qv71 => ?_)
                              have ev71 := jfull v71
                              refine x_iconst (v := 1) rfl ki_1 ?_
                              refine z_iadd0 rfl (fun v72 => ?_)
                              have ev72 := jfull v72
                              refine z_putI (N := 20) (w := v72.toInt) 1 19 rfl f_11_528 rfl (jfin_no TX1 RX1 20 rfl rfl) hD J Sm rfl rfl rfl (pw_32_19 trivial) rfl (fun h w73 J Sm => ?_)
                              refine x_iloadn (x := v69) rfl rfl ?_
                              refine x_iret rfl rfl ?_
                              show jX m_X11_together 8 0 0 116 [(0, .ref 31), (1, .int a1), (2, .int a2), (3, .int a3)] [.int v69] _ 0 0 _
                              refine x_iret rfl rfl ?_
                              exact hQ _ _ (jr_of rfl (by omega)) J Sm
                            ·
                              refine x_aloadn (x := 31) rfl rfl ?_
                              refine x_bipush (v := (-5)) rfl kb_m5 ?_
                              refine x_inv (N := m_X11_refuse) (As := [.int (-5)]) (b := 31) (st := []) (d' := 7) (mc := 0) (ms := 0) (host := "") 11 rfl t_X11_refuse ⟨Or.inl q_11_206, i_X11_refuse.1, i_X11_refuse.2⟩ ⟨by decide, rfl⟩ (congrArg Prod.fst (J.1.1 31 (11, 13) rfl)) rfl (by decide) rfl rfl ⟨by decide, by decide⟩ (jC.of rfl k_X11_refuse rfl ?_)
                              show jX m_X11_refuse 7 0 0 0 [(0, .ref 31), (1, .int (-5))] [] _ 0 0 _
                              refine x_aloadn (x := 31) rfl rfl ?_
                              refine x_iloadn (x := (-5)) rfl rfl ?_
                              refine z_putI (N := 13) (w := (-5)) 11 12 rfl f_11_94 rfl (jfin_no TX11 RX11 13 rfl rfl) hD J Sm rfl rfl jk_m5 (pw_31_12 (by omega)) rfl (fun h w74 J Sm => ?_)
                              refine x_iloadn (x := (-5)) rfl rfl ?_
                              refine x_iret rfl rfl ?_
                              show jX m_X11_together 8 0 0 85 [(0, .ref 31), (1, .int a1), (2, .int a2), (3, .int a3)] [.int (-5)] _ 0 0 _
                              refine x_iret rfl rfl ?_
                              exact hQ _ _ (jr_of jk_m5 (by omega)) J Sm
                          ·
                            refine x_aloadn (x := 31) rfl rfl ?_
                            refine x_bipush (v := (-4)) rfl kb_m4 ?_
                            refine x_inv (N := m_X11_refuse) (As := [.int (-4)]) (b := 31) (st := []) (d' := 7) (mc := 0) (ms := 0) (host := "") 11 rfl t_X11_refuse ⟨Or.inl q_11_206, i_X11_refuse.1, i_X11_refuse.2⟩ ⟨by decide, rfl⟩ (congrArg Prod.fst (J.1.1 31 (11, 13) rfl)) rfl (by decide) rfl rfl ⟨by decide, by decide⟩ (jC.of rfl k_X11_refuse rfl ?_)
                            show jX m_X11_refuse 7 0 0 0 [(0, .ref 31), (1, .int (-4))] [] _ 0 0 _
                            refine x_aloadn (x := 31) rfl rfl ?_
                            refine x_iloadn (x := (-4)) rfl rfl ?_
                            refine z_putI (N := 13) (w := (-4)) 11 12 rfl f_11_94 rfl (jfin_no TX11 RX11 13 rfl rfl) hD J Sm rfl rfl jk_m4 (pw_31_12 (by omega)) rfl (fun h w75 J Sm => ?_)
                            refine x_iloadn (x := (-4)) rfl rfl ?_
                            refine x_iret rfl rfl ?_
                            show jX m_X11_together 8 0 0 65 [(0, .ref 31), (1, .int a1), (2, .int a2), (3, .int a3)] [.int (-4)] _ 0 0 _
                            refine x_iret rfl rfl ?_
                            exact hQ _ _ (jr_of jk_m4 (by omega)) J Sm
                        ·
                          refine x_aloadn (x := 31) rfl rfl ?_
                          refine z_getR (N := 13) (b := 78) 11 4 rfl f_11_41 rfl J rfl 3972 ⟨rfl, rfl⟩ rfl ?_
                          refine x_iloadn (x := a2) rfl rfl ?_
                          refine x_inv (N := m_X7_isMention) (As := [.int a2]) (b := 78) (st := []) (d' := 6) (mc := 0) (ms := 0) (host := "") 7 rfl t_X7_isMention ⟨Or.inl q_11_187, i_X7_isMention.1, i_X7_isMention.2⟩ ⟨by decide, rfl⟩ (congrArg Prod.fst (J.1.1 78 (7, 16) rfl)) rfl (by decide) rfl rfl ⟨by decide, by decide⟩ (jC.of rfl k_X7_isMention rfl ?_)
                          show jX m_X7_isMention 6 0 0 0 [(0, .ref 78), (1, .int a2)] [] _ 0 0 _
                          refine x_iloadn (x := a2) rfl rfl ?_
                          refine x_iflt (tgt := 41) rfl rfl (ti_lt rfl jk_0 (br_f (by omega) ?_))
                          refine x_iloadn (x := a2) rfl rfl ?_
                          refine x_sipush (v := 600) rfl ks_600 ?_
                          refine x_icge (tgt := 41) rfl rfl (ti_ge rfl jk_600 (br_f (by omega) ?_))
                          refine x_iloadn (x := a2) rfl rfl ?_
                          refine x_iconst (v := 3) rfl ki_3 ?_
                          refine z_idiv rfl rfl jk_3 (by omega) (by omega) (fun v76 ev76 => ?_)
                          refine x_aloadn (x := 78) rfl rfl ?_
                          refine z_getR (N := 16) (b := 32) 7 0 rfl f_7_55 rfl J rfl 9984 ⟨rfl, rfl⟩ rfl ?_
                          refine z_getR (N := 20) (b := 33) 1 0 rfl f_7_63 rfl J rfl 4096 ⟨rfl, rfl⟩ rfl ?_
                          refine z_getM (N := 4) (v := v6) 8 3 rfl f_7_85 rfl J rfl (jmc S60 rfl qv6) ?_
                          refine x_icge (tgt := 41) rfl rfl (ti_ge rfl rfl ⟨fun c77 => ?_, fun c77 => ?_⟩)
                          ·
                            refine x_iconst (v := 0) rfl ki_0 ?_
                            refine x_zret rfl rfl (by decide) ?_
                            show jX m_X11_soulOn 7 0 0 15 [(0, .ref 31), (1, .int a2), (2, .int 146399)] [.int 0] _ 0 0 _
                            refine x_ifne (tgt := 20) rfl rfl (ti_ne jk_0 jk_0 (bn_f (by omega) ?_))
                            refine x_iconst (v := (-1)) rfl ki_m1 ?_
                            refine x_iret rfl rfl ?_
                            show jX m_X11_together 8 0 0 56 [(0, .ref 31), (1, .int a1), (2, .int a2), (3, .int a3)] [.int (-1), .int v61] _ 0 0 _
                            refine x_icne (tgt := 66) rfl rfl (ti_ne rfl jk_m1 ⟨fun c78 => ?_, fun c78 => ?_⟩)
                            ·
                              refine x_aloadn (x := 31) rfl rfl ?_
                              refine z_getR (N := 13) (b := 32) 11 0 rfl f_11_10 rfl J rfl 3968 ⟨rfl, rfl⟩ rfl ?_
                              refine z_getR (N := 20) (b := 39) 1 3 rfl f_11_237 rfl J rfl 4099 ⟨rfl, rfl⟩ rfl ?_
                              refine x_inv (N := m_X8_isFull) (As := []) (b := 39) (st := []) (d' := 1) (mc := 0) (ms := 0) (host := "") 8 rfl t_X8_isFull ⟨Or.inl q_11_130, i_X8_isFull.1, i_X8_isFull.2⟩ ⟨by decide, rfl⟩ (congrArg Prod.fst (J.1.1 39 (8, 4) rfl)) rfl (by decide) rfl rfl ⟨by decide, by decide⟩ (sf_X8_isFull_r39  hD J  (fun v80 h ev80 J S79 => ?_))
                              have Sm := jSm_tr rfl Sm S79
                              show jX m_X11_together 8 0 0 76 [(0, .ref 31), (1, .int a1), (2, .int a2), (3, .int a3)] [.int v80] _ 0 0 _
                              refine x_ifeq (tgt := 86) rfl rfl (ti_eq rfl jk_0 ⟨fun c81 => ?_, fun c81 => ?_⟩)
                              ·
                                refine x_aloadn (x := 31) rfl rfl ?_
                                refine z_getR (N := 13) (b := 32) 11 0 rfl f_11_10 rfl J rfl 3968 ⟨rfl, rfl⟩ rfl ?_
                                refine z_getR (N := 20) (b := 39) 1 3 rfl f_11_237 rfl J rfl 4099 ⟨rfl, rfl⟩ rfl ?_
                                refine x_iloadn (x := a3) rfl rfl ?_
                                refine x_iloadn (x := a1) rfl rfl ?_
                                refine x_iloadn (x := a2) rfl rfl ?_
                                refine x_iconst (v := 0) rfl ki_0 ?_
                                refine x_iconst (v := 0) rfl ki_0 ?_
                                refine x_iconst (v := 0) rfl ki_0 ?_
                                refine x_inv (N := m_X8_add) (As := [.int a3, .int a1, .int a2, .int 0, .int 0, .int 0]) (b := 39) (st := []) (d' := 2) (mc := 0) (ms := 0) (host := "") 8 rfl t_X8_add ⟨Or.inl q_11_145, i_X8_add.1, i_X8_add.2⟩ ⟨by decide, rfl⟩ (congrArg Prod.fst (J.1.1 39 (8, 4) rfl)) rfl (by decide) rfl rfl ⟨by decide, by decide⟩ (sf_X8_add_r39 (jr_of rfl (by omega)) (jr_of rfl (by omega)) (jr_of rfl (by omega)) (jr_of jk_0 (by omega)) (jr_of jk_0 (by omega)) (jr_of jk_0 (by omega)) hD J  (fun h J S82 => ?_))
                                have Sm := jSm_tr rfl Sm S82
                                show jX m_X11_together 8 0 0 102 [(0, .ref 31), (1, .int a1), (2, .int a2), (3, .int a3)] [] _ 0 0 _
                                refine x_aloadn (x := 31) rfl rfl ?_
                                refine x_aloadn (x := 31) rfl rfl ?_
                                refine z_getR (N := 13) (b := 32) 11 0 rfl f_11_10 rfl J rfl 3968 ⟨rfl, rfl⟩ rfl ?_
                                refine z_getR (N := 20) (b := 39) 1 3 rfl f_11_237 rfl J rfl 4099 ⟨rfl, rfl⟩ rfl ?_
                                refine z_getI (N := 4) 8 3 rfl f_11_142 rfl J rfl sg_39_3_4_1_0_1 (fun v83 qv83 ev83 => ?_)
                                refine x_inv (N := m_X11_accept) (As := [.int v83]) (b := 31) (st := []) (d' := 7) (mc := 0) (ms := 0) (host := "") 11 rfl t_X11_accept ⟨Or.inl q_11_165, i_X11_accept.1, i_X11_accept.2⟩ ⟨by decide, rfl⟩ (congrArg Prod.fst (J.1.1 31 (11, 13) rfl)) rfl (by decide) rfl rfl ⟨by decide, by decide⟩ (jC.of rfl k_X11_accept rfl ?_)
                                show jX m_X11_accept 7 0 0 0 [(0, .ref 31), (1, .int v83)] [] _ 0 0 _
                                refine x_aloadn (x := 31) rfl rfl ?_
                                refine x_iconst (v := 0) rfl ki_0 ?_
                                refine z_putI (N := 13) (w := 0) 11 12 rfl f_11_94 rfl (jfin_no TX11 RX11 13 rfl rfl) hD J Sm rfl rfl jk_0 (pw_31_12 (by omega)) rfl (fun h w84 J Sm => ?_)
                                refine x_aloadn (x := 31) rfl rfl ?_
                                refine z_getR (N := 13) (b := 32) 11 0 rfl f_11_10 rfl J rfl 3968 ⟨rfl, rfl⟩ rfl ?_
                                refine x_dup rfl rfl ?_
                                refine z_getI0 (N := 20) 1 19 rfl f_11_528 rfl J rfl (fun v85 qv85 => ?_)
                                have ev85 := jfull v85
                                refine x_iconst (v := 1) rfl ki_1 ?_
                                refine z_iadd0 rfl (fun v86 => ?_)
                                have ev86 := jfull v86
                                refine z_putI (N := 20) (w := v86.toInt) 1 19 rfl f_11_528 rfl (jfin_no TX1 RX1 20 rfl rfl) hD J Sm rfl rfl rfl (pw_32_19 trivial) rfl (fun h w87 J Sm => ?_)
                                refine x_iloadn (x := v83) rfl rfl ?_
                                refine x_iret rfl rfl ?_
                                show jX m_X11_together 8 0 0 116 [(0, .ref 31), (1, .int a1), (2, .int a2), (3, .int a3)] [.int v83] _ 0 0 _
                                refine x_iret rfl rfl ?_
                                exact hQ _ _ (jr_of rfl (by omega)) J Sm
                              ·
                                refine x_aloadn (x := 31) rfl rfl ?_
                                refine x_bipush (v := (-5)) rfl kb_m5 ?_
                                refine x_inv (N := m_X11_refuse) (As := [.int (-5)]) (b := 31) (st := []) (d' := 7) (mc := 0) (ms := 0) (host := "") 11 rfl t_X11_refuse ⟨Or.inl q_11_206, i_X11_refuse.1, i_X11_refuse.2⟩ ⟨by decide, rfl⟩ (congrArg Prod.fst (J.1.1 31 (11, 13) rfl)) rfl (by decide) rfl rfl ⟨by decide, by decide⟩ (jC.of rfl k_X11_refuse rfl ?_)
                                show jX m_X11_refuse 7 0 0 0 [(0, .ref 31), (1, .int (-5))] [] _ 0 0 _
                                refine x_aloadn (x := 31) rfl rfl ?_
                                refine x_iloadn (x := (-5)) rfl rfl ?_
                                refine z_putI (N := 13) (w := (-5)) 11 12 rfl f_11_94 rfl (jfin_no TX11 RX11 13 rfl rfl) hD J Sm rfl rfl jk_m5 (pw_31_12 (by omega)) rfl (fun h w88 J Sm => ?_)
                                refine x_iloadn (x := (-5)) rfl rfl ?_
                                refine x_iret rfl rfl ?_
                                show jX m_X11_together 8 0 0 85 [(0, .ref 31), (1, .int a1), (2, .int a2), (3, .int a3)] [.int (-5)] _ 0 0 _
                                refine x_iret rfl rfl ?_
                                exact hQ _ _ (jr_of jk_m5 (by omega)) J Sm
                            ·
                              refine x_aloadn (x := 31) rfl rfl ?_
                              refine x_bipush (v := (-4)) rfl kb_m4 ?_
                              refine x_inv (N := m_X11_refuse) (As := [.int (-4)]) (b := 31) (st := []) (d' := 7) (mc := 0) (ms := 0) (host := "") 11 rfl t_X11_refuse ⟨Or.inl q_11_206, i_X11_refuse.1, i_X11_refuse.2⟩ ⟨by decide, rfl⟩ (congrArg Prod.fst (J.1.1 31 (11, 13) rfl)) rfl (by decide) rfl rfl ⟨by decide, by decide⟩ (jC.of rfl k_X11_refuse rfl ?_)
                              show jX m_X11_refuse 7 0 0 0 [(0, .ref 31), (1, .int (-4))] [] _ 0 0 _
                              refine x_aloadn (x := 31) rfl rfl ?_
                              refine x_iloadn (x := (-4)) rfl rfl ?_
                              refine z_putI (N := 13) (w := (-4)) 11 12 rfl f_11_94 rfl (jfin_no TX11 RX11 13 rfl rfl) hD J Sm rfl rfl jk_m4 (pw_31_12 (by omega)) rfl (fun h w89 J Sm => ?_)
                              refine x_iloadn (x := (-4)) rfl rfl ?_
                              refine x_iret rfl rfl ?_
                              show jX m_X11_together 8 0 0 65 [(0, .ref 31), (1, .int a1), (2, .int a2), (3, .int a3)] [.int (-4)] _ 0 0 _
                              refine x_iret rfl rfl ?_
                              exact hQ _ _ (jr_of jk_m4 (by omega)) J Sm
                          ·
                            refine x_aloadn (x := 78) rfl rfl ?_
                            refine z_getR (N := 16) (b := 79) 7 7 rfl f_7_27 rfl J rfl 9991 ⟨rfl, rfl⟩ rfl ?_
                            refine x_iloadn (x := a2) rfl rfl ?_
                            refine z_ialdM (N := 600) (v := v14) rfl J rfl rfl (by omega) (jmc S60 rfl qv14) ?_
                            refine x_iconst (v := (-1)) rfl ki_m1 ?_
                            refine x_iceq (tgt := 41) rfl rfl (ti_eq rfl jk_m1 (br_f (by omega) ?_))
                            refine x_iconst (v := 1) rfl ki_1 ?_
                            refine x_goto (tgt := 42) rfl rfl ?_
                            refine x_zret rfl rfl (by decide) ?_
                            show jX m_X11_soulOn 7 0 0 15 [(0, .ref 31), (1, .int a2), (2, .int 146399)] [.int 1] _ 0 0 _
                            refine x_ifne (tgt := 20) rfl rfl (ti_ne jk_1 jk_0 (bn_t (by omega) ?_))
                            refine x_aloadn (x := 31) rfl rfl ?_
                            refine z_getR (N := 13) (b := 78) 11 4 rfl f_11_41 rfl J rfl 3972 ⟨rfl, rfl⟩ rfl ?_
                            refine x_iloadn (x := 146399) rfl rfl ?_
                            refine x_inv (N := m_X7_asKnown) (As := [.int 146399]) (b := 78) (st := []) (d' := 6) (mc := 0) (ms := 0) (host := "") 7 rfl t_X7_asKnown ⟨Or.inl q_11_240, i_X7_asKnown.1, i_X7_asKnown.2⟩ ⟨by decide, rfl⟩ (congrArg Prod.fst (J.1.1 78 (7, 16) rfl)) rfl (by decide) rfl rfl ⟨by decide, by decide⟩ (sf_X7_asKnown_r78 (jr_of jk_146399 (by omega)) hD J  (fun h J S90 => ?_))
                            have Sm := jSm_tr rfl Sm S90
                            show jX m_X11_soulOn 7 0 0 28 [(0, .ref 31), (1, .int a2), (2, .int 146399)] [] _ 0 0 _
                            refine x_aloadn (x := 31) rfl rfl ?_
                            refine z_getR (N := 13) (b := 78) 11 4 rfl f_11_41 rfl J rfl 3972 ⟨rfl, rfl⟩ rfl ?_
                            refine z_getR (N := 16) (b := 82) 7 10 rfl f_11_537 rfl J rfl 9994 ⟨rfl, rfl⟩ rfl ?_
                            refine x_iloadn (x := a2) rfl rfl ?_
                            refine z_iald (N := 600) rfl J rfl sg_82_0_600_1_0_1 rfl (by omega) (fun v91 qv91 ev91 => ?_)
                            refine x_iret rfl rfl ?_
                            show jX m_X11_together 8 0 0 56 [(0, .ref 31), (1, .int a1), (2, .int a2), (3, .int a3)] [.int v91, .int v61] _ 0 0 _
                            refine x_icne (tgt := 66) rfl rfl (ti_ne rfl rfl ⟨fun c92 => ?_, fun c92 => ?_⟩)
                            ·
                              refine x_aloadn (x := 31) rfl rfl ?_
                              refine z_getR (N := 13) (b := 32) 11 0 rfl f_11_10 rfl J rfl 3968 ⟨rfl, rfl⟩ rfl ?_
                              refine z_getR (N := 20) (b := 39) 1 3 rfl f_11_237 rfl J rfl 4099 ⟨rfl, rfl⟩ rfl ?_
                              refine x_inv (N := m_X8_isFull) (As := []) (b := 39) (st := []) (d' := 1) (mc := 0) (ms := 0) (host := "") 8 rfl t_X8_isFull ⟨Or.inl q_11_130, i_X8_isFull.1, i_X8_isFull.2⟩ ⟨by decide, rfl⟩ (congrArg Prod.fst (J.1.1 39 (8, 4) rfl)) rfl (by decide) rfl rfl ⟨by decide, by decide⟩ (sf_X8_isFull_r39  hD J  (fun v94 h ev94 J S93 => ?_))
                              have Sm := jSm_tr rfl Sm S93
                              show jX m_X11_together 8 0 0 76 [(0, .ref 31), (1, .int a1), (2, .int a2), (3, .int a3)] [.int v94] _ 0 0 _
                              refine x_ifeq (tgt := 86) rfl rfl (ti_eq rfl jk_0 ⟨fun c95 => ?_, fun c95 => ?_⟩)
                              ·
                                refine x_aloadn (x := 31) rfl rfl ?_
                                refine z_getR (N := 13) (b := 32) 11 0 rfl f_11_10 rfl J rfl 3968 ⟨rfl, rfl⟩ rfl ?_
                                refine z_getR (N := 20) (b := 39) 1 3 rfl f_11_237 rfl J rfl 4099 ⟨rfl, rfl⟩ rfl ?_
                                refine x_iloadn (x := a3) rfl rfl ?_
                                refine x_iloadn (x := a1) rfl rfl ?_
                                refine x_iloadn (x := a2) rfl rfl ?_
                                refine x_iconst (v := 0) rfl ki_0 ?_
                                refine x_iconst (v := 0) rfl ki_0 ?_
                                refine x_iconst (v := 0) rfl ki_0 ?_
                                refine x_inv (N := m_X8_add) (As := [.int a3, .int a1, .int a2, .int 0, .int 0, .int 0]) (b := 39) (st := []) (d' := 2) (mc := 0) (ms := 0) (host := "") 8 rfl t_X8_add ⟨Or.inl q_11_145, i_X8_add.1, i_X8_add.2⟩ ⟨by decide, rfl⟩ (congrArg Prod.fst (J.1.1 39 (8, 4) rfl)) rfl (by decide) rfl rfl ⟨by decide, by decide⟩ (sf_X8_add_r39 (jr_of rfl (by omega)) (jr_of rfl (by omega)) (jr_of rfl (by omega)) (jr_of jk_0 (by omega)) (jr_of jk_0 (by omega)) (jr_of jk_0 (by omega)) hD J  (fun h J S96 => ?_))
                                have Sm := jSm_tr rfl Sm S96
                                show jX m_X11_together 8 0 0 102 [(0, .ref 31), (1, .int a1), (2, .int a2), (3, .int a3)] [] _ 0 0 _
                                refine x_aloadn (x := 31) rfl rfl ?_
                                refine x_aloadn (x := 31) rfl rfl ?_
                                refine z_getR (N := 13) (b := 32) 11 0 rfl f_11_10 rfl J rfl 3968 ⟨rfl, rfl⟩ rfl ?_
                                refine z_getR (N := 20) (b := 39) 1 3 rfl f_11_237 rfl J rfl 4099 ⟨rfl, rfl⟩ rfl ?_
                                refine z_getI (N := 4) 8 3 rfl f_11_142 rfl J rfl sg_39_3_4_1_0_1 (fun v97 qv97 ev97 => ?_)
                                refine x_inv (N := m_X11_accept) (As := [.int v97]) (b := 31) (st := []) (d' := 7) (mc := 0) (ms := 0) (host := "") 11 rfl t_X11_accept ⟨Or.inl q_11_165, i_X11_accept.1, i_X11_accept.2⟩ ⟨by decide, rfl⟩ (congrArg Prod.fst (J.1.1 31 (11, 13) rfl)) rfl (by decide) rfl rfl ⟨by decide, by decide⟩ (jC.of rfl k_X11_accept rfl ?_)
                                show jX m_X11_accept 7 0 0 0 [(0, .ref 31), (1, .int v97)] [] _ 0 0 _
                                refine x_aloadn (x := 31) rfl rfl ?_
                                refine x_iconst (v := 0) rfl ki_0 ?_
                                refine z_putI (N := 13) (w := 0) 11 12 rfl f_11_94 rfl (jfin_no TX11 RX11 13 rfl rfl) hD J Sm rfl rfl jk_0 (pw_31_12 (by omega)) rfl (fun h w98 J Sm => ?_)
                                refine x_aloadn (x := 31) rfl rfl ?_
                                refine z_getR (N := 13) (b := 32) 11 0 rfl f_11_10 rfl J rfl 3968 ⟨rfl, rfl⟩ rfl ?_
                                refine x_dup rfl rfl ?_
                                refine z_getI0 (N := 20) 1 19 rfl f_11_528 rfl J rfl (fun v99 qv99 => ?_)
                                have ev99 := jfull v99
                                refine x_iconst (v := 1) rfl ki_1 ?_
                                refine z_iadd0 rfl (fun v100 => ?_)
                                have ev100 := jfull v100
                                refine z_putI (N := 20) (w := v100.toInt) 1 19 rfl f_11_528 rfl (jfin_no TX1 RX1 20 rfl rfl) hD J Sm rfl rfl rfl (pw_32_19 trivial) rfl (fun h w101 J Sm => ?_)
                                refine x_iloadn (x := v97) rfl rfl ?_
                                refine x_iret rfl rfl ?_
                                show jX m_X11_together 8 0 0 116 [(0, .ref 31), (1, .int a1), (2, .int a2), (3, .int a3)] [.int v97] _ 0 0 _
                                refine x_iret rfl rfl ?_
                                exact hQ _ _ (jr_of rfl (by omega)) J Sm
                              ·
                                refine x_aloadn (x := 31) rfl rfl ?_
                                refine x_bipush (v := (-5)) rfl kb_m5 ?_
                                refine x_inv (N := m_X11_refuse) (As := [.int (-5)]) (b := 31) (st := []) (d' := 7) (mc := 0) (ms := 0) (host := "") 11 rfl t_X11_refuse ⟨Or.inl q_11_206, i_X11_refuse.1, i_X11_refuse.2⟩ ⟨by decide, rfl⟩ (congrArg Prod.fst (J.1.1 31 (11, 13) rfl)) rfl (by decide) rfl rfl ⟨by decide, by decide⟩ (jC.of rfl k_X11_refuse rfl ?_)
                                show jX m_X11_refuse 7 0 0 0 [(0, .ref 31), (1, .int (-5))] [] _ 0 0 _
                                refine x_aloadn (x := 31) rfl rfl ?_
                                refine x_iloadn (x := (-5)) rfl rfl ?_
                                refine z_putI (N := 13) (w := (-5)) 11 12 rfl f_11_94 rfl (jfin_no TX11 RX11 13 rfl rfl) hD J Sm rfl rfl jk_m5 (pw_31_12 (by omega)) rfl (fun h w102 J Sm => ?_)
                                refine x_iloadn (x := (-5)) rfl rfl ?_
                                refine x_iret rfl rfl ?_
                                show jX m_X11_together 8 0 0 85 [(0, .ref 31), (1, .int a1), (2, .int a2), (3, .int a3)] [.int (-5)] _ 0 0 _
                                refine x_iret rfl rfl ?_
                                exact hQ _ _ (jr_of jk_m5 (by omega)) J Sm
                            ·
                              refine x_aloadn (x := 31) rfl rfl ?_
                              refine x_bipush (v := (-4)) rfl kb_m4 ?_
                              refine x_inv (N := m_X11_refuse) (As := [.int (-4)]) (b := 31) (st := []) (d' := 7) (mc := 0) (ms := 0) (host := "") 11 rfl t_X11_refuse ⟨Or.inl q_11_206, i_X11_refuse.1, i_X11_refuse.2⟩ ⟨by decide, rfl⟩ (congrArg Prod.fst (J.1.1 31 (11, 13) rfl)) rfl (by decide) rfl rfl ⟨by decide, by decide⟩ (jC.of rfl k_X11_refuse rfl ?_)
                              show jX m_X11_refuse 7 0 0 0 [(0, .ref 31), (1, .int (-4))] [] _ 0 0 _
                              refine x_aloadn (x := 31) rfl rfl ?_
                              refine x_iloadn (x := (-4)) rfl rfl ?_
                              refine z_putI (N := 13) (w := (-4)) 11 12 rfl f_11_94 rfl (jfin_no TX11 RX11 13 rfl rfl) hD J Sm rfl rfl jk_m4 (pw_31_12 (by omega)) rfl (fun h w103 J Sm => ?_)
                              refine x_iloadn (x := (-4)) rfl rfl ?_
                              refine x_iret rfl rfl ?_
                              show jX m_X11_together 8 0 0 65 [(0, .ref 31), (1, .int a1), (2, .int a2), (3, .int a3)] [.int (-4)] _ 0 0 _
                              refine x_iret rfl rfl ?_
                              exact hQ _ _ (jr_of jk_m4 (by omega)) J Sm
  ·
    refine x_aloadn (x := 31) rfl rfl ?_
    refine x_iconst (v := (-1)) rfl ki_m1 ?_
    refine x_inv (N := m_X11_refuse) (As := [.int (-1)]) (b := 31) (st := []) (d' := 7) (mc := 0) (ms := 0) (host := "") 11 rfl t_X11_refuse ⟨Or.inl q_11_206, i_X11_refuse.1, i_X11_refuse.2⟩ ⟨by decide, rfl⟩ (congrArg Prod.fst (J.1.1 31 (11, 13) rfl)) rfl (by decide) rfl rfl ⟨by decide, by decide⟩ (jC.of rfl k_X11_refuse rfl ?_)
    show jX m_X11_refuse 7 0 0 0 [(0, .ref 31), (1, .int (-1))] [] _ 0 0 _
    refine x_aloadn (x := 31) rfl rfl ?_
    refine x_iloadn (x := (-1)) rfl rfl ?_
    refine z_putI (N := 13) (w := (-1)) 11 12 rfl f_11_94 rfl (jfin_no TX11 RX11 13 rfl rfl) hD J Sm rfl rfl jk_m1 (pw_31_12 (by omega)) rfl (fun h w104 J Sm => ?_)
    refine x_iloadn (x := (-1)) rfl rfl ?_
    refine x_iret rfl rfl ?_
    show jX m_X11_together 8 0 0 12 [(0, .ref 31), (1, .int a1), (2, .int a2), (3, .int a3)] [.int (-1)] _ 0 0 _
    refine x_iret rfl rfl ?_
    exact hQ _ _ (jr_of jk_m1 (by omega)) J Sm
def fp_X8_put_r41_c0 : jFp := [(42, 0, 80)]
set_option maxRecDepth 100000 in
set_option maxHeartbeats 4000000 in
theorem ct_X8_put_r41_c0_38 {Dy : jH → Prop} {h0 : jH} {Q : Option Value → jH → Prop} (hD : jDk Dy) (hQ : ∀ h', jJ jSgX Dy h' → jSm fp_X8_put_r41_c0 h0 h' → Q none h') : ∀ (h : jH), jJ jSgX Dy h → jSm fp_X8_put_r41_c0 h0 h → jX m_X8_put 1 0 0 38 [] [] h 0 0 Q := by
  intro  h    J Sm
  refine x_vret rfl rfl ?_
  exact hQ _ J Sm
set_option maxRecDepth 100000 in
set_option maxHeartbeats 4000000 in
theorem sf_X8_put_r41_c0 {Dy : jH → Prop} {h : jH} {Q : Option Value → jH → Prop} {a1 : Int32} {a3 : Int32} (y1 : 0 ≤ a1.toInt ∧ a1.toInt ≤ 19) (y3 : 0 ≤ a3.toInt ∧ a3.toInt ≤ 146399) (hD : jDk Dy) (J : jJ jSgX Dy h) (hQ : ∀ h', jJ jSgX Dy h' → jSm fp_X8_put_r41_c0 h h' → Q none h') : jC m_X8_put 1 0 0 [.ref 41, .int a1, .int 0, .int a3] h Q := by
  refine jC.of rfl k_X8_put rfl ?_
  have Sm := jSm_rf fp_X8_put_r41_c0 h
  show jX m_X8_put 1 0 0 0 [(0, .ref 41), (1, .int a1), (2, .int 0), (3, .int a3)] [] _ 0 0 _
  refine x_iloadn (x := a1) rfl rfl ?_
  refine x_iflt (tgt := 38) rfl rfl (ti_lt rfl jk_0 (br_f (by omega) ?_))
  refine x_iloadn (x := a1) rfl rfl ?_
  refine x_aloadn (x := 41) rfl rfl ?_
  refine z_getI (N := 4) 8 3 rfl f_8_7 rfl J rfl sg_41_3_4_1_0_1 (fun v1 qv1 ev1 => ?_)
  refine x_icge (tgt := 38) rfl rfl (ti_ge rfl rfl ⟨fun c2 => ?_, fun c2 => ?_⟩)
  ·
    exact jX.sub jsb_n (ct_X8_put_r41_c0_38 hD hQ  h J Sm)
  ·
    refine x_iloadn (x := 0) rfl rfl ?_
    refine x_iflt (tgt := 38) rfl rfl (ti_lt jk_0 jk_0 (br_f (by omega) ?_))
    refine x_iloadn (x := 0) rfl rfl ?_
    refine x_aloadn (x := 41) rfl rfl ?_
    refine z_getC (N := 4) (v := 4) 8 0 rfl f_8_19 rfl J rfl sg_41_0_1_1_0_1 jk_4 ?_
    refine x_icge (tgt := 38) rfl rfl (ti_ge jk_0 jk_4 (br_f (by omega) ?_))
    refine x_aloadn (x := 41) rfl rfl ?_
    refine z_getR (N := 4) (b := 42) 8 2 rfl f_8_25 rfl J rfl 5250 ⟨rfl, rfl⟩ rfl ?_
    refine x_iloadn (x := a1) rfl rfl ?_
    refine x_aloadn (x := 41) rfl rfl ?_
    refine z_getC (N := 4) (v := 4) 8 0 rfl f_8_19 rfl J rfl sg_41_0_1_1_0_1 jk_4 ?_
    refine z_imul rfl rfl jk_4 (by omega) (fun v3 ev3 => ?_)
    refine x_iloadn (x := 0) rfl rfl ?_
    refine z_iadd rfl rfl jk_0 (by omega) (fun v4 ev4 => ?_)
    refine x_iloadn (x := a3) rfl rfl ?_
    refine z_iast (N := 80) (l := 0) (u := 80) (w := a3.toInt) rfl hD J Sm rfl rfl rfl (by omega) rfl (wr_42 (fun q1 q2 q3 q4 => by omega) (fun q1 q2 q3 q4 => by omega) (fun q1 q2 q3 q4 => by omega) (fun q1 q2 q3 q4 => by omega)) rfl (fun h w5 J Sm => ?_)
    exact jX.sub jsb_n (ct_X8_put_r41_c0_38 hD hQ  h J Sm)
def fp_X8_put_r41_c1 : jFp := [(42, 0, 80)]
set_option maxRecDepth 100000 in
set_option maxHeartbeats 4000000 in
theorem ct_X8_put_r41_c1_38 {Dy : jH → Prop} {h0 : jH} {Q : Option Value → jH → Prop} (hD : jDk Dy) (hQ : ∀ h', jJ jSgX Dy h' → jSm fp_X8_put_r41_c1 h0 h' → Q none h') : ∀ (h : jH), jJ jSgX Dy h → jSm fp_X8_put_r41_c1 h0 h → jX m_X8_put 1 0 0 38 [] [] h 0 0 Q := by
  intro  h    J Sm
  refine x_vret rfl rfl ?_
  exact hQ _ J Sm
set_option maxRecDepth 100000 in
set_option maxHeartbeats 4000000 in
theorem sf_X8_put_r41_c1 {Dy : jH → Prop} {h : jH} {Q : Option Value → jH → Prop} {a1 : Int32} {a3 : Int32} (y1 : 0 ≤ a1.toInt ∧ a1.toInt ≤ 19) (y3 : 0 ≤ a3.toInt ∧ a3.toInt ≤ 146399) (hD : jDk Dy) (J : jJ jSgX Dy h) (hQ : ∀ h', jJ jSgX Dy h' → jSm fp_X8_put_r41_c1 h h' → Q none h') : jC m_X8_put 1 0 0 [.ref 41, .int a1, .int 1, .int a3] h Q := by
  refine jC.of rfl k_X8_put rfl ?_
  have Sm := jSm_rf fp_X8_put_r41_c1 h
  show jX m_X8_put 1 0 0 0 [(0, .ref 41), (1, .int a1), (2, .int 1), (3, .int a3)] [] _ 0 0 _
  refine x_iloadn (x := a1) rfl rfl ?_
  refine x_iflt (tgt := 38) rfl rfl (ti_lt rfl jk_0 (br_f (by omega) ?_))
  refine x_iloadn (x := a1) rfl rfl ?_
  refine x_aloadn (x := 41) rfl rfl ?_
  refine z_getI (N := 4) 8 3 rfl f_8_7 rfl J rfl sg_41_3_4_1_0_1 (fun v1 qv1 ev1 => ?_)
  refine x_icge (tgt := 38) rfl rfl (ti_ge rfl rfl ⟨fun c2 => ?_, fun c2 => ?_⟩)
  ·
    exact jX.sub jsb_n (ct_X8_put_r41_c1_38 hD hQ  h J Sm)
  ·
    refine x_iloadn (x := 1) rfl rfl ?_
    refine x_iflt (tgt := 38) rfl rfl (ti_lt jk_1 jk_0 (br_f (by omega) ?_))
    refine x_iloadn (x := 1) rfl rfl ?_
    refine x_aloadn (x := 41) rfl rfl ?_
    refine z_getC (N := 4) (v := 4) 8 0 rfl f_8_19 rfl J rfl sg_41_0_1_1_0_1 jk_4 ?_
    refine x_icge (tgt := 38) rfl rfl (ti_ge jk_1 jk_4 (br_f (by omega) ?_))
    refine x_aloadn (x := 41) rfl rfl ?_
    refine z_getR (N := 4) (b := 42) 8 2 rfl f_8_25 rfl J rfl 5250 ⟨rfl, rfl⟩ rfl ?_
    refine x_iloadn (x := a1) rfl rfl ?_
    refine x_aloadn (x := 41) rfl rfl ?_
    refine z_getC (N := 4) (v := 4) 8 0 rfl f_8_19 rfl J rfl sg_41_0_1_1_0_1 jk_4 ?_
    refine z_imul rfl rfl jk_4 (by omega) (fun v3 ev3 => ?_)
    refine x_iloadn (x := 1) rfl rfl ?_
    refine z_iadd rfl rfl jk_1 (by omega) (fun v4 ev4 => ?_)
    refine x_iloadn (x := a3) rfl rfl ?_
    refine z_iast (N := 80) (l := 0) (u := 80) (w := a3.toInt) rfl hD J Sm rfl rfl rfl (by omega) rfl (wr_42 (fun q1 q2 q3 q4 => by omega) (fun q1 q2 q3 q4 => by omega) (fun q1 q2 q3 q4 => by omega) (fun q1 q2 q3 q4 => by omega)) rfl (fun h w5 J Sm => ?_)
    exact jX.sub jsb_n (ct_X8_put_r41_c1_38 hD hQ  h J Sm)
def fp_X8_put_r41_c2 : jFp := [(42, 0, 80)]
set_option maxRecDepth 100000 in
set_option maxHeartbeats 4000000 in
theorem ct_X8_put_r41_c2_38 {Dy : jH → Prop} {h0 : jH} {Q : Option Value → jH → Prop} (hD : jDk Dy) (hQ : ∀ h', jJ jSgX Dy h' → jSm fp_X8_put_r41_c2 h0 h' → Q none h') : ∀ (h : jH), jJ jSgX Dy h → jSm fp_X8_put_r41_c2 h0 h → jX m_X8_put 1 0 0 38 [] [] h 0 0 Q := by
  intro  h    J Sm
  refine x_vret rfl rfl ?_
  exact hQ _ J Sm
set_option maxRecDepth 100000 in
set_option maxHeartbeats 4000000 in
theorem sf_X8_put_r41_c2 {Dy : jH → Prop} {h : jH} {Q : Option Value → jH → Prop} {a1 : Int32} {a3 : Int32} (y1 : 0 ≤ a1.toInt ∧ a1.toInt ≤ 19) (y3 : 0 ≤ a3.toInt ∧ a3.toInt ≤ 146399) (hD : jDk Dy) (J : jJ jSgX Dy h) (hQ : ∀ h', jJ jSgX Dy h' → jSm fp_X8_put_r41_c2 h h' → Q none h') : jC m_X8_put 1 0 0 [.ref 41, .int a1, .int 2, .int a3] h Q := by
  refine jC.of rfl k_X8_put rfl ?_
  have Sm := jSm_rf fp_X8_put_r41_c2 h
  show jX m_X8_put 1 0 0 0 [(0, .ref 41), (1, .int a1), (2, .int 2), (3, .int a3)] [] _ 0 0 _
  refine x_iloadn (x := a1) rfl rfl ?_
  refine x_iflt (tgt := 38) rfl rfl (ti_lt rfl jk_0 (br_f (by omega) ?_))
  refine x_iloadn (x := a1) rfl rfl ?_
  refine x_aloadn (x := 41) rfl rfl ?_
  refine z_getI (N := 4) 8 3 rfl f_8_7 rfl J rfl sg_41_3_4_1_0_1 (fun v1 qv1 ev1 => ?_)
  refine x_icge (tgt := 38) rfl rfl (ti_ge rfl rfl ⟨fun c2 => ?_, fun c2 => ?_⟩)
  ·
    exact jX.sub jsb_n (ct_X8_put_r41_c2_38 hD hQ  h J Sm)
  ·
    refine x_iloadn (x := 2) rfl rfl ?_
    refine x_iflt (tgt := 38) rfl rfl (ti_lt jk_2 jk_0 (br_f (by omega) ?_))
    refine x_iloadn (x := 2) rfl rfl ?_
    refine x_aloadn (x := 41) rfl rfl ?_
    refine z_getC (N := 4) (v := 4) 8 0 rfl f_8_19 rfl J rfl sg_41_0_1_1_0_1 jk_4 ?_
    refine x_icge (tgt := 38) rfl rfl (ti_ge jk_2 jk_4 (br_f (by omega) ?_))
    refine x_aloadn (x := 41) rfl rfl ?_
    refine z_getR (N := 4) (b := 42) 8 2 rfl f_8_25 rfl J rfl 5250 ⟨rfl, rfl⟩ rfl ?_
    refine x_iloadn (x := a1) rfl rfl ?_
    refine x_aloadn (x := 41) rfl rfl ?_
    refine z_getC (N := 4) (v := 4) 8 0 rfl f_8_19 rfl J rfl sg_41_0_1_1_0_1 jk_4 ?_
    refine z_imul rfl rfl jk_4 (by omega) (fun v3 ev3 => ?_)
    refine x_iloadn (x := 2) rfl rfl ?_
    refine z_iadd rfl rfl jk_2 (by omega) (fun v4 ev4 => ?_)
    refine x_iloadn (x := a3) rfl rfl ?_
    refine z_iast (N := 80) (l := 0) (u := 80) (w := a3.toInt) rfl hD J Sm rfl rfl rfl (by omega) rfl (wr_42 (fun q1 q2 q3 q4 => by omega) (fun q1 q2 q3 q4 => by omega) (fun q1 q2 q3 q4 => by omega) (fun q1 q2 q3 q4 => by omega)) rfl (fun h w5 J Sm => ?_)
    exact jX.sub jsb_n (ct_X8_put_r41_c2_38 hD hQ  h J Sm)
def fp_X8_put_r41_c3 : jFp := [(42, 0, 80)]
set_option maxRecDepth 100000 in
set_option maxHeartbeats 4000000 in
theorem ct_X8_put_r41_c3_38 {Dy : jH → Prop} {h0 : jH} {Q : Option Value → jH → Prop} (hD : jDk Dy) (hQ : ∀ h', jJ jSgX Dy h' → jSm fp_X8_put_r41_c3 h0 h' → Q none h') : ∀ (h : jH), jJ jSgX Dy h → jSm fp_X8_put_r41_c3 h0 h → jX m_X8_put 1 0 0 38 [] [] h 0 0 Q := by
  intro  h    J Sm
  refine x_vret rfl rfl ?_
  exact hQ _ J Sm
set_option maxRecDepth 100000 in
set_option maxHeartbeats 4000000 in
theorem sf_X8_put_r41_c3 {Dy : jH → Prop} {h : jH} {Q : Option Value → jH → Prop} {a1 : Int32} {a3 : Int32} (y1 : 0 ≤ a1.toInt ∧ a1.toInt ≤ 19) (y3 : 0 ≤ a3.toInt ∧ a3.toInt ≤ 5) (hD : jDk Dy) (J : jJ jSgX Dy h) (hQ : ∀ h', jJ jSgX Dy h' → jSm fp_X8_put_r41_c3 h h' → Q none h') : jC m_X8_put 1 0 0 [.ref 41, .int a1, .int 3, .int a3] h Q := by
  refine jC.of rfl k_X8_put rfl ?_
  have Sm := jSm_rf fp_X8_put_r41_c3 h
  show jX m_X8_put 1 0 0 0 [(0, .ref 41), (1, .int a1), (2, .int 3), (3, .int a3)] [] _ 0 0 _
  refine x_iloadn (x := a1) rfl rfl ?_
  refine x_iflt (tgt := 38) rfl rfl (ti_lt rfl jk_0 (br_f (by omega) ?_))
  refine x_iloadn (x := a1) rfl rfl ?_
  refine x_aloadn (x := 41) rfl rfl ?_
  refine z_getI (N := 4) 8 3 rfl f_8_7 rfl J rfl sg_41_3_4_1_0_1 (fun v1 qv1 ev1 => ?_)
  refine x_icge (tgt := 38) rfl rfl (ti_ge rfl rfl ⟨fun c2 => ?_, fun c2 => ?_⟩)
  ·
    exact jX.sub jsb_n (ct_X8_put_r41_c3_38 hD hQ  h J Sm)
  ·
    refine x_iloadn (x := 3) rfl rfl ?_
    refine x_iflt (tgt := 38) rfl rfl (ti_lt jk_3 jk_0 (br_f (by omega) ?_))
    refine x_iloadn (x := 3) rfl rfl ?_
    refine x_aloadn (x := 41) rfl rfl ?_
    refine z_getC (N := 4) (v := 4) 8 0 rfl f_8_19 rfl J rfl sg_41_0_1_1_0_1 jk_4 ?_
    refine x_icge (tgt := 38) rfl rfl (ti_ge jk_3 jk_4 (br_f (by omega) ?_))
    refine x_aloadn (x := 41) rfl rfl ?_
    refine z_getR (N := 4) (b := 42) 8 2 rfl f_8_25 rfl J rfl 5250 ⟨rfl, rfl⟩ rfl ?_
    refine x_iloadn (x := a1) rfl rfl ?_
    refine x_aloadn (x := 41) rfl rfl ?_
    refine z_getC (N := 4) (v := 4) 8 0 rfl f_8_19 rfl J rfl sg_41_0_1_1_0_1 jk_4 ?_
    refine z_imul rfl rfl jk_4 (by omega) (fun v3 ev3 => ?_)
    refine x_iloadn (x := 3) rfl rfl ?_
    refine z_iadd rfl rfl jk_3 (by omega) (fun v4 ev4 => ?_)
    refine x_iloadn (x := a3) rfl rfl ?_
    refine z_iast (N := 80) (l := 0) (u := 80) (w := a3.toInt) rfl hD J Sm rfl rfl rfl (by omega) rfl (wr_42 (fun q1 q2 q3 q4 => by omega) (fun q1 q2 q3 q4 => by omega) (fun q1 q2 q3 q4 => by omega) (fun q1 q2 q3 q4 => by omega)) rfl (fun h w5 J Sm => ?_)
    exact jX.sub jsb_n (ct_X8_put_r41_c3_38 hD hQ  h J Sm)
def fp_X8_put_r41_c4 : jFp := []
set_option maxRecDepth 100000 in
set_option maxHeartbeats 4000000 in
theorem ct_X8_put_r41_c4_38 {Dy : jH → Prop} {h0 : jH} {Q : Option Value → jH → Prop} (hD : jDk Dy) (hQ : ∀ h', jJ jSgX Dy h' → jSm fp_X8_put_r41_c4 h0 h' → Q none h') : ∀ (h : jH), jJ jSgX Dy h → jSm fp_X8_put_r41_c4 h0 h → jX m_X8_put 1 0 0 38 [] [] h 0 0 Q := by
  intro  h    J Sm
  refine x_vret rfl rfl ?_
  exact hQ _ J Sm
set_option maxRecDepth 100000 in
set_option maxHeartbeats 4000000 in
theorem sf_X8_put_r41_c4 {Dy : jH → Prop} {h : jH} {Q : Option Value → jH → Prop} {a1 : Int32} {a3 : Int32} (y1 : 0 ≤ a1.toInt ∧ a1.toInt ≤ 19) (y3 : 0 ≤ a3.toInt ∧ a3.toInt ≤ 0) (hD : jDk Dy) (J : jJ jSgX Dy h) (hQ : ∀ h', jJ jSgX Dy h' → jSm fp_X8_put_r41_c4 h h' → Q none h') : jC m_X8_put 1 0 0 [.ref 41, .int a1, .int 4, .int a3] h Q := by
  refine jC.of rfl k_X8_put rfl ?_
  have Sm := jSm_rf fp_X8_put_r41_c4 h
  show jX m_X8_put 1 0 0 0 [(0, .ref 41), (1, .int a1), (2, .int 4), (3, .int a3)] [] _ 0 0 _
  refine x_iloadn (x := a1) rfl rfl ?_
  refine x_iflt (tgt := 38) rfl rfl (ti_lt rfl jk_0 (br_f (by omega) ?_))
  refine x_iloadn (x := a1) rfl rfl ?_
  refine x_aloadn (x := 41) rfl rfl ?_
  refine z_getI (N := 4) 8 3 rfl f_8_7 rfl J rfl sg_41_3_4_1_0_1 (fun v1 qv1 ev1 => ?_)
  refine x_icge (tgt := 38) rfl rfl (ti_ge rfl rfl ⟨fun c2 => ?_, fun c2 => ?_⟩)
  ·
    exact jX.sub jsb_n (ct_X8_put_r41_c4_38 hD hQ  h J Sm)
  ·
    refine x_iloadn (x := 4) rfl rfl ?_
    refine x_iflt (tgt := 38) rfl rfl (ti_lt jk_4 jk_0 (br_f (by omega) ?_))
    refine x_iloadn (x := 4) rfl rfl ?_
    refine x_aloadn (x := 41) rfl rfl ?_
    refine z_getC (N := 4) (v := 4) 8 0 rfl f_8_19 rfl J rfl sg_41_0_1_1_0_1 jk_4 ?_
    refine x_icge (tgt := 38) rfl rfl (ti_ge jk_4 jk_4 (br_t (by omega) ?_))
    exact jX.sub jsb_n (ct_X8_put_r41_c4_38 hD hQ  h J Sm)
def fp_X8_put_r41_c5 : jFp := []
set_option maxRecDepth 100000 in
set_option maxHeartbeats 4000000 in
theorem ct_X8_put_r41_c5_38 {Dy : jH → Prop} {h0 : jH} {Q : Option Value → jH → Prop} (hD : jDk Dy) (hQ : ∀ h', jJ jSgX Dy h' → jSm fp_X8_put_r41_c5 h0 h' → Q none h') : ∀ (h : jH), jJ jSgX Dy h → jSm fp_X8_put_r41_c5 h0 h → jX m_X8_put 1 0 0 38 [] [] h 0 0 Q := by
  intro  h    J Sm
  refine x_vret rfl rfl ?_
  exact hQ _ J Sm
set_option maxRecDepth 100000 in
set_option maxHeartbeats 4000000 in
theorem sf_X8_put_r41_c5 {Dy : jH → Prop} {h : jH} {Q : Option Value → jH → Prop} {a1 : Int32} {a3 : Int32} (y1 : 0 ≤ a1.toInt ∧ a1.toInt ≤ 19) (y3 : 0 ≤ a3.toInt ∧ a3.toInt ≤ 0) (hD : jDk Dy) (J : jJ jSgX Dy h) (hQ : ∀ h', jJ jSgX Dy h' → jSm fp_X8_put_r41_c5 h h' → Q none h') : jC m_X8_put 1 0 0 [.ref 41, .int a1, .int 5, .int a3] h Q := by
  refine jC.of rfl k_X8_put rfl ?_
  have Sm := jSm_rf fp_X8_put_r41_c5 h
  show jX m_X8_put 1 0 0 0 [(0, .ref 41), (1, .int a1), (2, .int 5), (3, .int a3)] [] _ 0 0 _
  refine x_iloadn (x := a1) rfl rfl ?_
  refine x_iflt (tgt := 38) rfl rfl (ti_lt rfl jk_0 (br_f (by omega) ?_))
  refine x_iloadn (x := a1) rfl rfl ?_
  refine x_aloadn (x := 41) rfl rfl ?_
  refine z_getI (N := 4) 8 3 rfl f_8_7 rfl J rfl sg_41_3_4_1_0_1 (fun v1 qv1 ev1 => ?_)
  refine x_icge (tgt := 38) rfl rfl (ti_ge rfl rfl ⟨fun c2 => ?_, fun c2 => ?_⟩)
  ·
    exact jX.sub jsb_n (ct_X8_put_r41_c5_38 hD hQ  h J Sm)
  ·
    refine x_iloadn (x := 5) rfl rfl ?_
    refine x_iflt (tgt := 38) rfl rfl (ti_lt jk_5 jk_0 (br_f (by omega) ?_))
    refine x_iloadn (x := 5) rfl rfl ?_
    refine x_aloadn (x := 41) rfl rfl ?_
    refine z_getC (N := 4) (v := 4) 8 0 rfl f_8_19 rfl J rfl sg_41_0_1_1_0_1 jk_4 ?_
    refine x_icge (tgt := 38) rfl rfl (ti_ge jk_5 jk_4 (br_t (by omega) ?_))
    exact jX.sub jsb_n (ct_X8_put_r41_c5_38 hD hQ  h J Sm)
def fp_X8_add_r41 : jFp := [(41, 3, 4), (42, 0, 80)]
set_option maxRecDepth 100000 in
set_option maxHeartbeats 4000000 in
theorem sf_X8_add_r41 {Dy : jH → Prop} {h : jH} {Q : Option Value → jH → Prop} {a1 : Int32} {a2 : Int32} {a3 : Int32} {a4 : Int32} {a5 : Int32} {a6 : Int32} (y1 : 0 ≤ a1.toInt ∧ a1.toInt ≤ 146399) (y2 : 0 ≤ a2.toInt ∧ a2.toInt ≤ 146399) (y3 : 0 ≤ a3.toInt ∧ a3.toInt ≤ 146399) (y4 : 0 ≤ a4.toInt ∧ a4.toInt ≤ 5) (y5 : 0 ≤ a5.toInt ∧ a5.toInt ≤ 0) (y6 : 0 ≤ a6.toInt ∧ a6.toInt ≤ 0) (hD : jDk Dy) (J : jJ jSgX Dy h) (hQ : ∀ h', jJ jSgX Dy h' → jSm fp_X8_add_r41 h h' → Q none h') : jC m_X8_add 2 0 0 [.ref 41, .int a1, .int a2, .int a3, .int a4, .int a5, .int a6] h Q := by
  refine jC.of rfl k_X8_add rfl ?_
  have Sm := jSm_rf fp_X8_add_r41 h
  show jX m_X8_add 2 0 0 0 [(0, .ref 41), (1, .int a1), (2, .int a2), (3, .int a3), (4, .int a4), (5, .int a5), (6, .int a6)] [] _ 0 0 _
  refine x_aloadn (x := 41) rfl rfl ?_
  refine z_getI (N := 4) 8 3 rfl f_8_7 rfl J rfl sg_41_3_4_1_0_1 (fun v1 qv1 ev1 => ?_)
  refine x_aloadn (x := 41) rfl rfl ?_
  refine z_getC (N := 4) (v := 20) 8 1 rfl f_8_22 rfl J rfl sg_41_1_2_1_0_1 jk_20 ?_
  refine x_iclt (tgt := 12) rfl rfl (ti_lt rfl jk_20 ⟨fun c2 => ?_, fun c2 => ?_⟩)
  ·
    refine x_aloadn (x := 41) rfl rfl ?_
    refine z_getM (N := 4) (v := v1) 8 3 rfl f_8_7 rfl J rfl qv1 ?_
    refine x_istore (ls' := [(7, .int v1), (0, .ref 41), (1, .int a1), (2, .int a2), (3, .int a3), (4, .int a4), (5, .int a5), (6, .int a6)]) rfl rfl rfl ?_
    refine x_aloadn (x := 41) rfl rfl ?_
    refine x_iload (x := v1) rfl rfl ?_
    refine x_iconst (v := 1) rfl ki_1 ?_
    refine z_iadd rfl rfl jk_1 (by omega) (fun v3 ev3 => ?_)
    refine z_putI (N := 4) (w := v3.toInt) 8 3 rfl f_8_7 rfl (jfin_no TX8 RX8 4 rfl rfl) hD J Sm rfl rfl rfl (pw_41_3 (by omega)) rfl (fun h w4 J Sm => ?_)
    refine x_aloadn (x := 41) rfl rfl ?_
    refine x_iload (x := v1) rfl rfl ?_
    refine x_iconst (v := 0) rfl ki_0 ?_
    refine x_iloadn (x := a1) rfl rfl ?_
    refine x_inv (N := m_X8_put) (As := [.int v1, .int 0, .int a1]) (b := 41) (st := []) (d' := 1) (mc := 0) (ms := 0) (host := "") 8 rfl t_X8_put ⟨Or.inl q_8_29, i_X8_put.1, i_X8_put.2⟩ ⟨by decide, rfl⟩ (congrArg Prod.fst (J.1.1 41 (8, 4) rfl)) rfl (by decide) rfl rfl ⟨by decide, by decide⟩ (sf_X8_put_r41_c0 (jr_of rfl (by omega)) (jr_of rfl (by omega)) hD J  (fun h J S5 => ?_))
    have Sm := jSm_tr rfl Sm S5
    show jX m_X8_add 2 0 0 34 [(7, .int v1), (0, .ref 41), (1, .int a1), (2, .int a2), (3, .int a3), (4, .int a4), (5, .int a5), (6, .int a6)] [] _ 0 0 _
    refine x_aloadn (x := 41) rfl rfl ?_
    refine x_iload (x := v1) rfl rfl ?_
    refine x_iconst (v := 1) rfl ki_1 ?_
    refine x_iloadn (x := a2) rfl rfl ?_
    refine x_inv (N := m_X8_put) (As := [.int v1, .int 1, .int a2]) (b := 41) (st := []) (d' := 1) (mc := 0) (ms := 0) (host := "") 8 rfl t_X8_put ⟨Or.inl q_8_29, i_X8_put.1, i_X8_put.2⟩ ⟨by decide, rfl⟩ (congrArg Prod.fst (J.1.1 41 (8, 4) rfl)) rfl (by decide) rfl rfl ⟨by decide, by decide⟩ (sf_X8_put_r41_c1 (jr_of rfl (by omega)) (jr_of rfl (by omega)) hD J  (fun h J S6 => ?_))
    have Sm := jSm_tr rfl Sm S6
    show jX m_X8_add 2 0 0 42 [(7, .int v1), (0, .ref 41), (1, .int a1), (2, .int a2), (3, .int a3), (4, .int a4), (5, .int a5), (6, .int a6)] [] _ 0 0 _
    refine x_aloadn (x := 41) rfl rfl ?_
    refine x_iload (x := v1) rfl rfl ?_
    refine x_iconst (v := 2) rfl ki_2 ?_
    refine x_iloadn (x := a3) rfl rfl ?_
    refine x_inv (N := m_X8_put) (As := [.int v1, .int 2, .int a3]) (b := 41) (st := []) (d' := 1) (mc := 0) (ms := 0) (host := "") 8 rfl t_X8_put ⟨Or.inl q_8_29, i_X8_put.1, i_X8_put.2⟩ ⟨by decide, rfl⟩ (congrArg Prod.fst (J.1.1 41 (8, 4) rfl)) rfl (by decide) rfl rfl ⟨by decide, by decide⟩ (sf_X8_put_r41_c2 (jr_of rfl (by omega)) (jr_of rfl (by omega)) hD J  (fun h J S7 => ?_))
    have Sm := jSm_tr rfl Sm S7
    show jX m_X8_add 2 0 0 50 [(7, .int v1), (0, .ref 41), (1, .int a1), (2, .int a2), (3, .int a3), (4, .int a4), (5, .int a5), (6, .int a6)] [] _ 0 0 _
    refine x_aloadn (x := 41) rfl rfl ?_
    refine x_iload (x := v1) rfl rfl ?_
    refine x_iconst (v := 3) rfl ki_3 ?_
    refine x_iload (x := a4) rfl rfl ?_
    refine x_inv (N := m_X8_put) (As := [.int v1, .int 3, .int a4]) (b := 41) (st := []) (d' := 1) (mc := 0) (ms := 0) (host := "") 8 rfl t_X8_put ⟨Or.inl q_8_29, i_X8_put.1, i_X8_put.2⟩ ⟨by decide, rfl⟩ (congrArg Prod.fst (J.1.1 41 (8, 4) rfl)) rfl (by decide) rfl rfl ⟨by decide, by decide⟩ (sf_X8_put_r41_c3 (jr_of rfl (by omega)) (jr_of rfl (by omega)) hD J  (fun h J S8 => ?_))
    have Sm := jSm_tr rfl Sm S8
    show jX m_X8_add 2 0 0 59 [(7, .int v1), (0, .ref 41), (1, .int a1), (2, .int a2), (3, .int a3), (4, .int a4), (5, .int a5), (6, .int a6)] [] _ 0 0 _
    refine x_aloadn (x := 41) rfl rfl ?_
    refine x_iload (x := v1) rfl rfl ?_
    refine x_iconst (v := 4) rfl ki_4 ?_
    refine x_iload (x := a5) rfl rfl ?_
    refine x_inv (N := m_X8_put) (As := [.int v1, .int 4, .int a5]) (b := 41) (st := []) (d' := 1) (mc := 0) (ms := 0) (host := "") 8 rfl t_X8_put ⟨Or.inl q_8_29, i_X8_put.1, i_X8_put.2⟩ ⟨by decide, rfl⟩ (congrArg Prod.fst (J.1.1 41 (8, 4) rfl)) rfl (by decide) rfl rfl ⟨by decide, by decide⟩ (sf_X8_put_r41_c4 (jr_of rfl (by omega)) (jr_of rfl (by omega)) hD J  (fun h J S9 => ?_))
    have Sm := jSm_tr rfl Sm S9
    show jX m_X8_add 2 0 0 68 [(7, .int v1), (0, .ref 41), (1, .int a1), (2, .int a2), (3, .int a3), (4, .int a4), (5, .int a5), (6, .int a6)] [] _ 0 0 _
    refine x_aloadn (x := 41) rfl rfl ?_
    refine x_iload (x := v1) rfl rfl ?_
    refine x_iconst (v := 5) rfl ki_5 ?_
    refine x_iload (x := a6) rfl rfl ?_
    refine x_inv (N := m_X8_put) (As := [.int v1, .int 5, .int a6]) (b := 41) (st := []) (d' := 1) (mc := 0) (ms := 0) (host := "") 8 rfl t_X8_put ⟨Or.inl q_8_29, i_X8_put.1, i_X8_put.2⟩ ⟨by decide, rfl⟩ (congrArg Prod.fst (J.1.1 41 (8, 4) rfl)) rfl (by decide) rfl rfl ⟨by decide, by decide⟩ (sf_X8_put_r41_c5 (jr_of rfl (by omega)) (jr_of rfl (by omega)) hD J  (fun h J S10 => ?_))
    have Sm := jSm_tr rfl Sm S10
    show jX m_X8_add 2 0 0 77 [(7, .int v1), (0, .ref 41), (1, .int a1), (2, .int a2), (3, .int a3), (4, .int a4), (5, .int a5), (6, .int a6)] [] _ 0 0 _
    refine x_vret rfl rfl ?_
    exact hQ _ J Sm
  ·
    refine x_vret rfl rfl ?_
    exact hQ _ J Sm
def fp_X8_isFull_r41 : jFp := []
set_option maxRecDepth 100000 in
set_option maxHeartbeats 4000000 in
theorem ct_X8_isFull_r41_200016 {Dy : jH → Prop} {h0 : jH} {Q : Option Value → jH → Prop} (hD : jDk Dy) (hQ : ∀ (v : Int32) h', 0 ≤ v.toInt ∧ v.toInt ≤ 1 → jJ jSgX Dy h' → jSm fp_X8_isFull_r41 h0 h' → Q (some (.int v)) h') : ∀ (h : jH), jJ jSgX Dy h → jSm fp_X8_isFull_r41 h0 h → jX m_X8_isFull 1 0 0 16 [] [.int 0] h 0 0 Q := by
  intro  h    J Sm
  refine x_zret rfl rfl (by decide) ?_
  exact hQ _ _ (jr_of jk_0 (by omega)) J Sm
set_option maxRecDepth 100000 in
set_option maxHeartbeats 4000000 in
theorem ct_X8_isFull_r41_300016 {Dy : jH → Prop} {h0 : jH} {Q : Option Value → jH → Prop} (hD : jDk Dy) (hQ : ∀ (v : Int32) h', 0 ≤ v.toInt ∧ v.toInt ≤ 1 → jJ jSgX Dy h' → jSm fp_X8_isFull_r41 h0 h' → Q (some (.int v)) h') : ∀ (h : jH), jJ jSgX Dy h → jSm fp_X8_isFull_r41 h0 h → jX m_X8_isFull 1 0 0 16 [] [.int 1] h 0 0 Q := by
  intro  h    J Sm
  refine x_zret rfl rfl (by decide) ?_
  exact hQ _ _ (jr_of jk_1 (by omega)) J Sm
set_option maxRecDepth 100000 in
set_option maxHeartbeats 4000000 in
theorem sf_X8_isFull_r41 {Dy : jH → Prop} {h : jH} {Q : Option Value → jH → Prop} (hD : jDk Dy) (J : jJ jSgX Dy h) (hQ : ∀ (v : Int32) h', 0 ≤ v.toInt ∧ v.toInt ≤ 1 → jJ jSgX Dy h' → jSm fp_X8_isFull_r41 h h' → Q (some (.int v)) h') : jC m_X8_isFull 1 0 0 [.ref 41] h Q := by
  refine jC.of rfl k_X8_isFull rfl ?_
  have Sm := jSm_rf fp_X8_isFull_r41 h
  show jX m_X8_isFull 1 0 0 0 [(0, .ref 41)] [] _ 0 0 _
  refine x_aloadn (x := 41) rfl rfl ?_
  refine z_getI (N := 4) 8 3 rfl f_8_7 rfl J rfl sg_41_3_4_1_0_1 (fun v1 qv1 ev1 => ?_)
  refine x_aloadn (x := 41) rfl rfl ?_
  refine z_getC (N := 4) (v := 20) 8 1 rfl f_8_22 rfl J rfl sg_41_1_2_1_0_1 jk_20 ?_
  refine x_iclt (tgt := 15) rfl rfl (ti_lt rfl jk_20 ⟨fun c2 => ?_, fun c2 => ?_⟩)
  ·
    refine x_iconst (v := 0) rfl ki_0 ?_
    exact jX.sub jsb_n (ct_X8_isFull_r41_200016 hD hQ  h J Sm)
  ·
    refine x_iconst (v := 1) rfl ki_1 ?_
    refine x_goto (tgt := 16) rfl rfl ?_
    exact jX.sub jsb_n (ct_X8_isFull_r41_300016 hD hQ  h J Sm)
def fp_X11_torn_r31 : jFp := [(31, 12, 13), (32, 19, 20), (41, 3, 4), (42, 0, 80)]
set_option maxRecDepth 100000 in
set_option maxHeartbeats 4000000 in
theorem ct_X11_torn_r31_34 {Dy : jH → Prop} {h0 : jH} {Q : Option Value → jH → Prop} (hD : jDk Dy) (hQ : ∀ (v : Int32) h', (-366) ≤ v.toInt ∧ v.toInt ≤ 20 → jJ jSgX Dy h' → jSm fp_X11_torn_r31 h0 h' → Q (some (.int v)) h') : ∀ (h : jH), jJ jSgX Dy h → jSm fp_X11_torn_r31 h0 h → jX m_X11_torn 3 0 0 34 [(0, .ref 31)] [] h 0 0 Q := by
  intro  h    J Sm
  refine x_aloadn (x := 31) rfl rfl ?_
  refine x_iconst (v := (-1)) rfl ki_m1 ?_
  refine x_inv (N := m_X11_refuse) (As := [.int (-1)]) (b := 31) (st := []) (d' := 2) (mc := 0) (ms := 0) (host := "") 11 rfl t_X11_refuse ⟨Or.inl q_11_206, i_X11_refuse.1, i_X11_refuse.2⟩ ⟨by decide, rfl⟩ (congrArg Prod.fst (J.1.1 31 (11, 13) rfl)) rfl (by decide) rfl rfl ⟨by decide, by decide⟩ (jC.of rfl k_X11_refuse rfl ?_)
  show jX m_X11_refuse 2 0 0 0 [(0, .ref 31), (1, .int (-1))] [] _ 0 0 _
  refine x_aloadn (x := 31) rfl rfl ?_
  refine x_iloadn (x := (-1)) rfl rfl ?_
  refine z_putI (N := 13) (w := (-1)) 11 12 rfl f_11_94 rfl (jfin_no TX11 RX11 13 rfl rfl) hD J Sm rfl rfl jk_m1 (pw_31_12 (by omega)) rfl (fun h w1 J Sm => ?_)
  refine x_iloadn (x := (-1)) rfl rfl ?_
  refine x_iret rfl rfl ?_
  show jX m_X11_torn 3 0 0 39 [(0, .ref 31)] [.int (-1)] _ 0 0 _
  refine x_iret rfl rfl ?_
  exact hQ _ _ (jr_of jk_m1 (by omega)) J Sm
set_option maxRecDepth 100000 in
set_option maxHeartbeats 4000000 in
theorem sf_X11_torn_r31 {Dy : jH → Prop} {h : jH} {Q : Option Value → jH → Prop} {a1 : Int32} {a2 : Int32} {a3 : Int32} {a4 : Int32} (hD : jDk Dy) (J : jJ jSgX Dy h) (hQ : ∀ (v : Int32) h', (-366) ≤ v.toInt ∧ v.toInt ≤ 20 → jJ jSgX Dy h' → jSm fp_X11_torn_r31 h h' → Q (some (.int v)) h') : jC m_X11_torn 3 0 0 [.ref 31, .int a1, .int a2, .int a3, .int a4] h Q := by
  refine jC.of rfl k_X11_torn rfl ?_
  have Sm := jSm_rf fp_X11_torn_r31 h
  have ea1 := jfull a1
  have ea2 := jfull a2
  have ea3 := jfull a3
  have ea4 := jfull a4
  show jX m_X11_torn 3 0 0 0 [(0, .ref 31), (1, .int a1), (2, .int a2), (3, .int a3), (4, .int a4)] [] _ 0 0 _
  refine x_iloadn (x := a1) rfl rfl ?_
  refine x_inst (N := m_X11_isBook) (As := [.int a1]) (st := []) (d' := 1) (mc := 0) (ms := 0) (host := "") rfl t_X11_isBook ⟨Or.inl q_11_112, s_X11_isBook⟩ rfl (by decide) rfl rfl ⟨by decide, by decide⟩ (zc_X11_isBook rfl (fun v1 ev1 => ?_))
  show jX m_X11_torn 3 0 0 4 [(0, .ref 31), (1, .int a1), (2, .int a2), (3, .int a3), (4, .int a4)] [.int v1] _ 0 0 _
  refine x_ifeq (tgt := 34) rfl rfl (ti_eq rfl jk_0 ⟨fun c2 => ?_, fun c2 => ?_⟩)
  ·
    exact jX.sub (jsb_c rfl jsb_n) (ct_X11_torn_r31_34 hD hQ  h J Sm)
  ·
    refine x_iloadn (x := a2) rfl rfl ?_
    refine x_inst (N := m_X11_isDay) (As := [.int a2]) (st := []) (d' := 1) (mc := 0) (ms := 0) (host := "") rfl t_X11_isDay ⟨Or.inl q_11_115, s_X11_isDay⟩ rfl (by decide) rfl rfl ⟨by decide, by decide⟩ (zc_X11_isDay rfl (fun v3 ev3 => ?_))
    show jX m_X11_torn 3 0 0 11 [(0, .ref 31), (1, .int a1), (2, .int a2), (3, .int a3), (4, .int a4)] [.int v3] _ 0 0 _
    refine x_ifeq (tgt := 34) rfl rfl (ti_eq rfl jk_0 ⟨fun c4 => ?_, fun c4 => ?_⟩)
    ·
      exact jX.sub (jsb_c rfl jsb_n) (ct_X11_torn_r31_34 hD hQ  h J Sm)
    ·
      refine x_iloadn (x := a3) rfl rfl ?_
      refine x_inst (N := m_X11_isDay) (As := [.int a3]) (st := []) (d' := 1) (mc := 0) (ms := 0) (host := "") rfl t_X11_isDay ⟨Or.inl q_11_115, s_X11_isDay⟩ rfl (by decide) rfl rfl ⟨by decide, by decide⟩ (zc_X11_isDay rfl (fun v5 ev5 => ?_))
      show jX m_X11_torn 3 0 0 18 [(0, .ref 31), (1, .int a1), (2, .int a2), (3, .int a3), (4, .int a4)] [.int v5] _ 0 0 _
      refine x_ifeq (tgt := 34) rfl rfl (ti_eq rfl jk_0 ⟨fun c6 => ?_, fun c6 => ?_⟩)
      ·
        exact jX.sub (jsb_c rfl jsb_n) (ct_X11_torn_r31_34 hD hQ  h J Sm)
      ·
        refine x_iloadn (x := a3) rfl rfl ?_
        refine x_iloadn (x := a2) rfl rfl ?_
        refine x_iclt (tgt := 34) rfl rfl (ti_lt rfl rfl ⟨fun c7 => ?_, fun c7 => ?_⟩)
        ·
          exact jX.sub (jsb_c rfl jsb_n) (ct_X11_torn_r31_34 hD hQ  h J Sm)
        ·
          refine x_iload (x := a4) rfl rfl ?_
          refine x_inst (N := m_X11_isDay) (As := [.int a4]) (st := []) (d' := 1) (mc := 0) (ms := 0) (host := "") rfl t_X11_isDay ⟨Or.inl q_11_115, s_X11_isDay⟩ rfl (by decide) rfl rfl ⟨by decide, by decide⟩ (zc_X11_isDay rfl (fun v8 ev8 => ?_))
          show jX m_X11_torn 3 0 0 31 [(0, .ref 31), (1, .int a1), (2, .int a2), (3, .int a3), (4, .int a4)] [.int v8] _ 0 0 _
          refine x_ifne (tgt := 40) rfl rfl (ti_ne rfl jk_0 ⟨fun c9 => ?_, fun c9 => ?_⟩)
          ·
            refine x_aloadn (x := 31) rfl rfl ?_
            refine z_getR (N := 13) (b := 32) 11 0 rfl f_11_10 rfl J rfl 3968 ⟨rfl, rfl⟩ rfl ?_
            refine z_getR (N := 20) (b := 41) 1 4 rfl f_11_312 rfl J rfl 4100 ⟨rfl, rfl⟩ rfl ?_
            refine x_inv (N := m_X8_isFull) (As := []) (b := 41) (st := []) (d' := 1) (mc := 0) (ms := 0) (host := "") 8 rfl t_X8_isFull ⟨Or.inl q_11_130, i_X8_isFull.1, i_X8_isFull.2⟩ ⟨by decide, rfl⟩ (congrArg Prod.fst (J.1.1 41 (8, 4) rfl)) rfl (by decide) rfl rfl ⟨by decide, by decide⟩ (sf_X8_isFull_r41  hD J  (fun v11 h ev11 J S10 => ?_))
            have Sm := jSm_tr rfl Sm S10
            show jX m_X11_torn 3 0 0 50 [(0, .ref 31), (1, .int a1), (2, .int a2), (3, .int a3), (4, .int a4)] [.int v11] _ 0 0 _
            refine x_ifeq (tgt := 60) rfl rfl (ti_eq rfl jk_0 ⟨fun c12 => ?_, fun c12 => ?_⟩)
            ·
              refine x_aloadn (x := 31) rfl rfl ?_
              refine z_getR (N := 13) (b := 32) 11 0 rfl f_11_10 rfl J rfl 3968 ⟨rfl, rfl⟩ rfl ?_
              refine z_getR (N := 20) (b := 41) 1 4 rfl f_11_312 rfl J rfl 4100 ⟨rfl, rfl⟩ rfl ?_
              refine x_iload (x := a4) rfl rfl ?_
              refine x_iloadn (x := a2) rfl rfl ?_
              refine x_iloadn (x := a3) rfl rfl ?_
              refine x_iloadn (x := a1) rfl rfl ?_
              refine x_iconst (v := 0) rfl ki_0 ?_
              refine x_iconst (v := 0) rfl ki_0 ?_
              refine x_inv (N := m_X8_add) (As := [.int a4, .int a2, .int a3, .int a1, .int 0, .int 0]) (b := 41) (st := []) (d' := 2) (mc := 0) (ms := 0) (host := "") 8 rfl t_X8_add ⟨Or.inl q_11_145, i_X8_add.1, i_X8_add.2⟩ ⟨by decide, rfl⟩ (congrArg Prod.fst (J.1.1 41 (8, 4) rfl)) rfl (by decide) rfl rfl ⟨by decide, by decide⟩ (sf_X8_add_r41 (jr_of rfl (by omega)) (jr_of rfl (by omega)) (jr_of rfl (by omega)) (jr_of rfl (by omega)) (jr_of jk_0 (by omega)) (jr_of jk_0 (by omega)) hD J  (fun h J S13 => ?_))
              have Sm := jSm_tr rfl Sm S13
              show jX m_X11_torn 3 0 0 77 [(0, .ref 31), (1, .int a1), (2, .int a2), (3, .int a3), (4, .int a4)] [] _ 0 0 _
              refine x_aloadn (x := 31) rfl rfl ?_
              refine x_aloadn (x := 31) rfl rfl ?_
              refine z_getR (N := 13) (b := 32) 11 0 rfl f_11_10 rfl J rfl 3968 ⟨rfl, rfl⟩ rfl ?_
              refine z_getR (N := 20) (b := 41) 1 4 rfl f_11_312 rfl J rfl 4100 ⟨rfl, rfl⟩ rfl ?_
              refine z_getI (N := 4) 8 3 rfl f_11_142 rfl J rfl sg_41_3_4_1_0_1 (fun v14 qv14 ev14 => ?_)
              refine x_inv (N := m_X11_accept) (As := [.int v14]) (b := 31) (st := []) (d' := 2) (mc := 0) (ms := 0) (host := "") 11 rfl t_X11_accept ⟨Or.inl q_11_165, i_X11_accept.1, i_X11_accept.2⟩ ⟨by decide, rfl⟩ (congrArg Prod.fst (J.1.1 31 (11, 13) rfl)) rfl (by decide) rfl rfl ⟨by decide, by decide⟩ (jC.of rfl k_X11_accept rfl ?_)
              show jX m_X11_accept 2 0 0 0 [(0, .ref 31), (1, .int v14)] [] _ 0 0 _
              refine x_aloadn (x := 31) rfl rfl ?_
              refine x_iconst (v := 0) rfl ki_0 ?_
              refine z_putI (N := 13) (w := 0) 11 12 rfl f_11_94 rfl (jfin_no TX11 RX11 13 rfl rfl) hD J Sm rfl rfl jk_0 (pw_31_12 (by omega)) rfl (fun h w15 J Sm => ?_)
              refine x_aloadn (x := 31) rfl rfl ?_
              refine z_getR (N := 13) (b := 32) 11 0 rfl f_11_10 rfl J rfl 3968 ⟨rfl, rfl⟩ rfl ?_
              refine x_dup rfl rfl ?_
              refine z_getI0 (N := 20) 1 19 rfl f_11_528 rfl J rfl (fun v16 qv16 => ?_)
              have ev16 := jfull v16
              refine x_iconst (v := 1) rfl ki_1 ?_
              refine z_iadd0 rfl (fun v17 => ?_)
              have ev17 := jfull v17
              refine z_putI (N := 20) (w := v17.toInt) 1 19 rfl f_11_528 rfl (jfin_no TX1 RX1 20 rfl rfl) hD J Sm rfl rfl rfl (pw_32_19 trivial) rfl (fun h w18 J Sm => ?_)
              refine x_iloadn (x := v14) rfl rfl ?_
              refine x_iret rfl rfl ?_
              show jX m_X11_torn 3 0 0 91 [(0, .ref 31), (1, .int a1), (2, .int a2), (3, .int a3), (4, .int a4)] [.int v14] _ 0 0 _
              refine x_iret rfl rfl ?_
              exact hQ _ _ (jr_of rfl (by omega)) J Sm
            ·
              refine x_aloadn (x := 31) rfl rfl ?_
              refine x_bipush (v := (-5)) rfl kb_m5 ?_
              refine x_inv (N := m_X11_refuse) (As := [.int (-5)]) (b := 31) (st := []) (d' := 2) (mc := 0) (ms := 0) (host := "") 11 rfl t_X11_refuse ⟨Or.inl q_11_206, i_X11_refuse.1, i_X11_refuse.2⟩ ⟨by decide, rfl⟩ (congrArg Prod.fst (J.1.1 31 (11, 13) rfl)) rfl (by decide) rfl rfl ⟨by decide, by decide⟩ (jC.of rfl k_X11_refuse rfl ?_)
              show jX m_X11_refuse 2 0 0 0 [(0, .ref 31), (1, .int (-5))] [] _ 0 0 _
              refine x_aloadn (x := 31) rfl rfl ?_
              refine x_iloadn (x := (-5)) rfl rfl ?_
              refine z_putI (N := 13) (w := (-5)) 11 12 rfl f_11_94 rfl (jfin_no TX11 RX11 13 rfl rfl) hD J Sm rfl rfl jk_m5 (pw_31_12 (by omega)) rfl (fun h w19 J Sm => ?_)
              refine x_iloadn (x := (-5)) rfl rfl ?_
              refine x_iret rfl rfl ?_
              show jX m_X11_torn 3 0 0 59 [(0, .ref 31), (1, .int a1), (2, .int a2), (3, .int a3), (4, .int a4)] [.int (-5)] _ 0 0 _
              refine x_iret rfl rfl ?_
              exact hQ _ _ (jr_of jk_m5 (by omega)) J Sm
          ·
            exact jX.sub (jsb_c rfl jsb_n) (ct_X11_torn_r31_34 hD hQ  h J Sm)
def fp_X4_runTurns_r107 : jFp := [(98, 10, 11), (98, 11, 12), (101, 0, 3), (107, 15, 16), (107, 16, 17), (115, 0, 400), (116, 0, 400), (117, 0, 40), (119, 0, 3)]
set_option maxRecDepth 100000 in
set_option maxHeartbeats 4000000 in
theorem ct_X4_runTurns_r107_170 {Dy : jH → Prop} {h0 : jH} {Q : Option Value → jH → Prop} (hD : jDk Dy) (hQ : ∀ h', jJ jSgX Dy h' → jSm fp_X4_runTurns_r107 h0 h' → Q none h') : ∀ (h : jH), jJ jSgX Dy h → jSm fp_X4_runTurns_r107 h0 h → jX m_X4_runTurns 3 0 0 170 [] [] h 0 0 Q := by
  intro  h    J Sm
  refine x_vret rfl rfl ?_
  exact hQ _ J Sm
set_option maxRecDepth 100000 in
set_option maxHeartbeats 4000000 in
theorem ct_X4_runTurns_r107_157 {Dy : jH → Prop} {h0 : jH} {Q : Option Value → jH → Prop} {R53 : Int} (hD : jDk Dy) (hQ : ∀ h', jJ jSgX Dy h' → jSm fp_X4_runTurns_r107 h0 h' → Q none h') (k53 : ∀ (l1 : Int32) (l2 : Int32) (l3 : Int32) (g0 : Int32) (h : jH), 400 - g0.toInt < R53 → 0 ≤ l1.toInt ∧ l1.toInt ≤ 3 → 0 ≤ l2.toInt ∧ l2.toInt ≤ 399 → 0 ≤ l3.toInt ∧ l3.toInt ≤ 146399 → 0 ≤ g0.toInt ∧ g0.toInt ≤ 400 → jiv h 107 15 = g0 → jJ jSgX Dy h → jSm fp_X4_runTurns_r107 h0 h → jX m_X4_runTurns 3 0 0 53 [(0, .ref 107), (1, .int l1), (2, .int l2), (3, .int l3)] [] h 0 0 Q) : ∀ (l1 : Int32) (l2 : Int32) (l3 : Int32) (g0 : Int32) (h : jH), 0 ≤ l1.toInt ∧ l1.toInt ≤ 3 → 0 ≤ l2.toInt ∧ l2.toInt ≤ 399 → 0 ≤ l3.toInt ∧ l3.toInt ≤ 146399 → 0 ≤ g0.toInt ∧ g0.toInt ≤ 399 → jiv h 107 15 = g0 → 400 - g0.toInt ≤ R53 → jJ jSgX Dy h → jSm fp_X4_runTurns_r107 h0 h → jX m_X4_runTurns 3 0 0 157 [(0, .ref 107), (1, .int l1), (2, .int l2), (3, .int l3)] [] h 0 0 Q := by
  intro l1 l2 l3 g0 h y0 y1 y2 y3 z0 m53 J Sm
  refine x_aloadn (x := 107) rfl rfl ?_
  refine x_dup rfl rfl ?_
  refine z_getM (N := 18) (v := g0) 4 15 rfl f_4_50 rfl J rfl z0 ?_
  refine x_iconst (v := 1) rfl ki_1 ?_
  refine z_iadd rfl rfl jk_1 (by omega) (fun v1 ev1 => ?_)
  refine z_putI (N := 18) (w := v1.toInt) 4 15 rfl f_4_50 rfl (jfin_no TX4 RX4 18 rfl rfl) hD J Sm rfl rfl rfl (pw_107_15 (by omega)) rfl (fun h w2 J Sm => ?_)
  refine x_goto (tgt := 53) rfl rfl ?_
  exact jX.sub (jsb_c rfl (jsb_c rfl (jsb_c rfl (jsb_c rfl jsb_n)))) (k53 l1 l2 l3 v1 h (by omega) (jr_of rfl (by omega)) (jr_of rfl (by omega)) (jr_of rfl (by omega)) (jr_of rfl (by omega)) (jmw w2) J Sm)
set_option maxRecDepth 100000 in
set_option maxHeartbeats 4000000 in
theorem ct_X4_runTurns_r107_53 {Dy : jH → Prop} {h0 : jH} {Q : Option Value → jH → Prop} (hD : jDk Dy) (hQ : ∀ h', jJ jSgX Dy h' → jSm fp_X4_runTurns_r107 h0 h' → Q none h') : ∀ r : Nat, ∀ (l1 : Int32) (l2 : Int32) (l3 : Int32) (g0 : Int32) (h : jH), 400 - g0.toInt < (r : Int) → 0 ≤ l1.toInt ∧ l1.toInt ≤ 3 → 0 ≤ l2.toInt ∧ l2.toInt ≤ 399 → 0 ≤ l3.toInt ∧ l3.toInt ≤ 146399 → 0 ≤ g0.toInt ∧ g0.toInt ≤ 400 → jiv h 107 15 = g0 → jJ jSgX Dy h → jSm fp_X4_runTurns_r107 h0 h → jX m_X4_runTurns 3 0 0 53 [(0, .ref 107), (1, .int l1), (2, .int l2), (3, .int l3)] [] h 0 0 Q := by
  intro r
  induction r with
  | zero =>
    intro l1 l2 l3 g0 h hm y0 y1 y2 y3 z0  J Sm
    exfalso
    omega
  | succ r ih =>
    intro l1 l2 l3 g0 h hm y0 y1 y2 y3 z0  J Sm
    refine x_aloadn (x := 107) rfl rfl ?_
    refine z_getM (N := 18) (v := g0) 4 15 rfl f_4_50 rfl J rfl z0 ?_
    refine x_iloadn (x := l2) rfl rfl ?_
    refine x_icgt (tgt := 170) rfl rfl (ti_gt rfl rfl ⟨fun c1 => ?_, fun c1 => ?_⟩)
    ·
      exact jX.sub jsb_n (ct_X4_runTurns_r107_170 hD hQ  h J Sm)
    ·
      refine x_aloadn (x := 107) rfl rfl ?_
      refine z_getM (N := 18) (v := g0) 4 15 rfl f_4_50 rfl J rfl z0 ?_
      refine x_sipush (v := 399) rfl ks_399 ?_
      refine x_icgt (tgt := 170) rfl rfl (ti_gt rfl jk_399 (br_f (by omega) ?_))
      refine x_aloadn (x := 107) rfl rfl ?_
      refine z_getR (N := 18) (b := 115) 4 11 rfl f_4_38 rfl J rfl 13707 ⟨rfl, rfl⟩ rfl ?_
      refine x_aloadn (x := 107) rfl rfl ?_
      refine z_getM (N := 18) (v := g0) 4 15 rfl f_4_50 rfl J rfl z0 ?_
      refine x_iconst (v := (-1)) rfl ki_m1 ?_
      refine z_iast (N := 400) (l := 0) (u := 400) (w := (-1)) rfl hD J Sm rfl rfl rfl (by omega) jk_m1 (wr_115 (fun q1 q2 q3 q4 => by omega)) rfl (fun h w2 J Sm => ?_)
      refine x_aloadn (x := 107) rfl rfl ?_
      refine z_getR (N := 18) (b := 116) 4 12 rfl f_4_41 rfl J rfl 13708 ⟨rfl, rfl⟩ rfl ?_
      refine x_aloadn (x := 107) rfl rfl ?_
      refine z_getM (N := 18) (v := g0) 4 15 rfl f_4_50 rfl J rfl (jmo w2 rfl z0) ?_
      refine x_iconst (v := 0) rfl ki_0 ?_
      refine z_iast (N := 400) (l := 0) (u := 400) (w := 0) rfl hD J Sm rfl rfl rfl (by omega) jk_0 (wr_116 (fun q1 q2 q3 q4 => by omega)) rfl (fun h w3 J Sm => ?_)
      refine x_aloadn (x := 107) rfl rfl ?_
      refine z_getR (N := 18) (b := 98) 4 2 rfl f_4_67 rfl J rfl 13698 ⟨rfl, rfl⟩ rfl ?_
      refine x_aloadn (x := 107) rfl rfl ?_
      refine z_getM (N := 18) (v := g0) 4 15 rfl f_4_50 rfl J rfl (jmo w3 rfl (jmo w2 rfl z0)) ?_
      refine x_sipush (v := 366) rfl ks_366 ?_
      refine z_imul rfl rfl jk_366 (by omega) (fun v4 ev4 => ?_)
      refine x_iloadn (x := l3) rfl rfl ?_
      refine x_inv (N := m_X0_readLaws) (As := [.int v4, .int l3]) (b := 98) (st := []) (d' := 2) (mc := 0) (ms := 0) (host := "") 0 rfl t_X0_readLaws ⟨Or.inl q_4_147, i_X0_readLaws.1, i_X0_readLaws.2⟩ ⟨by decide, rfl⟩ (congrArg Prod.fst (J.1.1 98 (0, 16) rfl)) rfl (by decide) rfl rfl ⟨by decide, by decide⟩ (sf_X0_readLaws_r98 (jr_of rfl (by omega)) (jr_of rfl (by omega)) hD J  (fun h J S5 => ?_))
      have Sm := jSm_tr rfl Sm S5
      show jX m_X4_runTurns 3 0 0 107 [(0, .ref 107), (1, .int l1), (2, .int l2), (3, .int l3)] [] _ 0 0 _
      refine x_aloadn (x := 107) rfl rfl ?_
      refine z_getR (N := 18) (b := 98) 4 2 rfl f_4_67 rfl J rfl 13698 ⟨rfl, rfl⟩ rfl ?_
      refine x_iloadn (x := l1) rfl rfl ?_
      refine x_inv (N := m_X0_lastTurn) (As := [.int l1]) (b := 98) (st := []) (d' := 1) (mc := 0) (ms := 0) (host := "") 0 rfl t_X0_lastTurn ⟨Or.inl q_4_150, i_X0_lastTurn.1, i_X0_lastTurn.2⟩ ⟨by decide, rfl⟩ (congrArg Prod.fst (J.1.1 98 (0, 16) rfl)) rfl (by decide) rfl rfl ⟨by decide, by decide⟩ (sf_X0_lastTurn_r98 (jr_of rfl (by omega)) hD J  (fun v7 h ev7 J S6 => ?_))
      have Sm := jSm_tr rfl Sm S6
      show jX m_X4_runTurns 3 0 0 115 [(0, .ref 107), (1, .int l1), (2, .int l2), (3, .int l3)] [.int v7] _ 0 0 _
      refine x_istore (ls' := [(4, .int v7), (0, .ref 107), (1, .int l1), (2, .int l2), (3, .int l3)]) rfl rfl rfl ?_
      refine x_iload (x := v7) rfl rfl ?_
      refine x_iconst (v := (-1)) rfl ki_m1 ?_
      refine x_iceq (tgt := 157) rfl rfl (ti_eq rfl jk_m1 (br_t (by omega) ?_))
      exact jX.sub (jsb_c rfl (jsb_c rfl (jsb_c rfl (jsb_c rfl jsb_n)))) (ct_X4_runTurns_r107_157 hD hQ ih l1 l2 l3 g0 h (jr_of rfl (by omega)) (jr_of rfl (by omega)) (jr_of rfl (by omega)) (jr_of rfl (by omega)) (jmc S6 rfl (jmc S5 rfl (jmo w3 rfl (jmo w2 rfl z0)))) (by omega) J Sm)
set_option maxRecDepth 100000 in
set_option maxHeartbeats 4000000 in
theorem ct_X4_runTurns_r107_32 {Dy : jH → Prop} {h0 : jH} {Q : Option Value → jH → Prop} (hD : jDk Dy) (hQ : ∀ h', jJ jSgX Dy h' → jSm fp_X4_runTurns_r107 h0 h' → Q none h') : ∀ r : Nat, ∀ (l1 : Int32) (l2 : Int32) (l3 : Int32) (l4 : Int32) (g0 : Int32) (h : jH), 40 - l4.toInt < (r : Int) → 0 ≤ l1.toInt ∧ l1.toInt ≤ 3 → 0 ≤ l2.toInt ∧ l2.toInt ≤ 399 → 0 ≤ l3.toInt ∧ l3.toInt ≤ 146399 → 0 ≤ l4.toInt ∧ l4.toInt ≤ 40 → 0 ≤ g0.toInt ∧ g0.toInt ≤ 0 → jiv h 107 15 = g0 → jJ jSgX Dy h → jSm fp_X4_runTurns_r107 h0 h → jX m_X4_runTurns 3 0 0 32 [(0, .ref 107), (1, .int l1), (2, .int l2), (3, .int l3), (4, .int l4)] [] h 0 0 Q := by
  intro r
  induction r with
  | zero =>
    intro l1 l2 l3 l4 g0 h hm y0 y1 y2 y3 y4 z0  J Sm
    exfalso
    omega
  | succ r ih =>
    intro l1 l2 l3 l4 g0 h hm y0 y1 y2 y3 y4 z0  J Sm
    refine x_iload (x := l4) rfl rfl ?_
    refine x_bipush (v := 40) rfl kb_40 ?_
    refine x_icge (tgt := 53) rfl rfl (ti_ge rfl jk_40 ⟨fun c1 => ?_, fun c1 => ?_⟩)
    ·
      exact jX.sub (jsb_c rfl (jsb_c rfl (jsb_c rfl (jsb_c rfl jsb_n)))) (ct_X4_runTurns_r107_53 hD hQ  401 l1 l2 l3 g0 h (by omega) (jr_of rfl (by omega)) (jr_of rfl (by omega)) (jr_of rfl (by omega)) (jr_of rfl (by omega)) z0 J Sm)
    ·
      refine x_aloadn (x := 107) rfl rfl ?_
      refine z_getR (N := 18) (b := 117) 4 13 rfl f_4_44 rfl J rfl 13709 ⟨rfl, rfl⟩ rfl ?_
      refine x_iload (x := l4) rfl rfl ?_
      refine x_iconst (v := (-1)) rfl ki_m1 ?_
      refine z_iast (N := 40) (l := 0) (u := 40) (w := (-1)) rfl hD J Sm rfl rfl rfl (by omega) jk_m1 (wr_117 (fun q1 q2 q3 q4 => by omega)) rfl (fun h w2 J Sm => ?_)
      refine z_iinc (x := l4) (ls' := fun v3 => [(4, .int v3), (0, .ref 107), (1, .int l1), (2, .int l2), (3, .int l3)]) rfl rfl rfl jko_1 (by omega) rfl (fun _ => rfl) (fun v3 ev3 => ?_)
      refine x_goto (tgt := 32) rfl rfl ?_
      exact jX.sub (jsb_c rfl (jsb_c rfl (jsb_c rfl (jsb_c rfl (jsb_c rfl jsb_n))))) (ih l1 l2 l3 v3 g0 h (by omega) (jr_of rfl (by omega)) (jr_of rfl (by omega)) (jr_of rfl (by omega)) (jr_of rfl (by omega)) (jr_of rfl (by omega)) (jmo w2 rfl z0) J Sm)
set_option maxRecDepth 100000 in
set_option maxHeartbeats 4000000 in
theorem sf_X4_runTurns_r107 {Dy : jH → Prop} {h : jH} {Q : Option Value → jH → Prop} {a1 : Int32} {a2 : Int32} {a3 : Int32} (y1 : 0 ≤ a1.toInt ∧ a1.toInt ≤ 3) (y2 : 0 ≤ a2.toInt ∧ a2.toInt ≤ 399) (y3 : 0 ≤ a3.toInt ∧ a3.toInt ≤ 146399) (hD : jDk Dy) (J : jJ jSgX Dy h) (hQ : ∀ h', jJ jSgX Dy h' → jSm fp_X4_runTurns_r107 h h' → Q none h') : jC m_X4_runTurns 3 0 0 [.ref 107, .int a1, .int a2, .int a3] h Q := by
  refine jC.of rfl k_X4_runTurns rfl ?_
  have Sm := jSm_rf fp_X4_runTurns_r107 h
  show jX m_X4_runTurns 3 0 0 0 [(0, .ref 107), (1, .int a1), (2, .int a2), (3, .int a3)] [] _ 0 0 _
  refine x_aloadn (x := 107) rfl rfl ?_
  refine z_getR (N := 18) (b := 119) 4 17 rfl f_4_56 rfl J rfl 13713 ⟨rfl, rfl⟩ rfl ?_
  refine x_iloadn (x := a1) rfl rfl ?_
  refine x_iloadn (x := a3) rfl rfl ?_
  refine x_aloadn (x := 107) rfl rfl ?_
  refine z_getR (N := 18) (b := 32) 4 0 rfl f_4_59 rfl J rfl 13696 ⟨rfl, rfl⟩ rfl ?_
  refine z_getI0 (N := 20) 1 19 rfl f_4_88 rfl J rfl (fun v1 qv1 => ?_)
  have ev1 := jfull v1
  refine x_inst (N := m_X11_isFresh) (As := [.ref 119, .int a1, .int a3, .int v1]) (st := []) (d' := 2) (mc := 0) (ms := 0) (host := "ParishChest") rfl t_X11_isFresh ⟨Or.inr q_4_91, s_X11_isFresh⟩ rfl (by decide) rfl rfl ⟨by decide, by decide⟩ (jC.of rfl k_X11_isFresh rfl ?_)
  show jX m_X11_isFresh 2 0 0 0 [(0, .ref 119), (1, .int a1), (2, .int a3), (3, .int v1)] [] _ 0 0 _
  refine x_aloadn (x := 119) rfl rfl ?_
  refine z_alen (N := 3) (v := 3) rfl J rfl rfl (by decide) ?_
  refine x_iconst (v := 3) rfl ki_3 ?_
  refine x_icge (tgt := 8) rfl rfl (ti_ge jk_3 jk_3 (br_t (by omega) ?_))
  refine x_aloadn (x := 119) rfl rfl ?_
  refine x_iconst (v := 0) rfl ki_0 ?_
  refine z_iald0 (N := 3) rfl J rfl jk_0 (by omega) (fun v2 qv2 => ?_)
  have ev2 := jfull v2
  refine x_iloadn (x := a1) rfl rfl ?_
  refine x_icne (tgt := 33) rfl rfl (ti_ne rfl rfl ⟨fun c3 => ?_, fun c3 => ?_⟩)
  ·
    refine x_iconst (v := 0) rfl ki_0 ?_
    refine x_istore (ls' := [(4, .int 0), (0, .ref 119), (1, .int a1), (2, .int a3), (3, .int v1)]) rfl rfl rfl ?_
    refine x_aloadn (x := 119) rfl rfl ?_
    refine x_iconst (v := 0) rfl ki_0 ?_
    refine x_iloadn (x := a1) rfl rfl ?_
    refine z_iast (N := 3) (l := 0) (u := 3) (w := a1.toInt) rfl hD J Sm rfl rfl jk_0 (by omega) rfl (wr_119) rfl (fun h w4 J Sm => ?_)
    refine x_aloadn (x := 119) rfl rfl ?_
    refine x_iconst (v := 1) rfl ki_1 ?_
    refine x_iloadn (x := a3) rfl rfl ?_
    refine z_iast (N := 3) (l := 0) (u := 3) (w := a3.toInt) rfl hD J Sm rfl rfl jk_1 (by omega) rfl (wr_119) rfl (fun h w5 J Sm => ?_)
    refine x_aloadn (x := 119) rfl rfl ?_
    refine x_iconst (v := 2) rfl ki_2 ?_
    refine x_iloadn (x := v1) rfl rfl ?_
    refine z_iast (N := 3) (l := 0) (u := 3) (w := v1.toInt) rfl hD J Sm rfl rfl jk_2 (by omega) rfl (wr_119) rfl (fun h w6 J Sm => ?_)
    refine x_iload (x := 0) rfl rfl ?_
    refine x_zret rfl rfl (by decide) ?_
    show jX m_X4_runTurns 3 0 0 16 [(0, .ref 107), (1, .int a1), (2, .int a2), (3, .int a3)] [.int 0] _ 0 0 _
    refine x_ifne (tgt := 53) rfl rfl (ti_ne jk_0 jk_0 (bn_f (by omega) ?_))
    refine x_aloadn (x := 107) rfl rfl ?_
    refine x_iconst (v := 0) rfl ki_0 ?_
    refine z_putI (N := 18) (w := 0) 4 15 rfl f_4_50 rfl (jfin_no TX4 RX4 18 rfl rfl) hD J Sm rfl rfl jk_0 (pw_107_15 (by omega)) rfl (fun h w7 J Sm => ?_)
    refine x_aloadn (x := 107) rfl rfl ?_
    refine x_iconst (v := (-1)) rfl ki_m1 ?_
    refine z_putI (N := 18) (w := (-1)) 4 16 rfl f_4_53 rfl (jfin_no TX4 RX4 18 rfl rfl) hD J Sm rfl rfl jk_m1 (pw_107_16 (by omega)) rfl (fun h w8 J Sm => ?_)
    refine x_iconst (v := 0) rfl ki_0 ?_
    refine x_istore (ls' := [(4, .int 0), (0, .ref 107), (1, .int a1), (2, .int a2), (3, .int a3)]) rfl rfl rfl ?_
    exact jX.sub (jsb_c rfl (jsb_c rfl (jsb_c rfl (jsb_c rfl (jsb_c rfl jsb_n))))) (ct_X4_runTurns_r107_32 hD hQ  41 a1 a2 a3 0 0 h (by have := jk_0; omega) (jr_of rfl (by omega)) (jr_of rfl (by omega)) (jr_of rfl (by omega)) (jr_of jk_0 (by omega)) (jr_of jk_0 (by omega)) (jmo w8 rfl (jmw w7)) J Sm)
  ·
    refine x_aloadn (x := 119) rfl rfl ?_
    refine x_iconst (v := 1) rfl ki_1 ?_
    refine z_iald0 (N := 3) rfl J rfl jk_1 (by omega) (fun v9 qv9 => ?_)
    have ev9 := jfull v9
    refine x_iloadn (x := a3) rfl rfl ?_
    refine x_icne (tgt := 33) rfl rfl (ti_ne rfl rfl ⟨fun c10 => ?_, fun c10 => ?_⟩)
    ·
      refine x_iconst (v := 0) rfl ki_0 ?_
      refine x_istore (ls' := [(4, .int 0), (0, .ref 119), (1, .int a1), (2, .int a3), (3, .int v1)]) rfl rfl rfl ?_
      refine x_aloadn (x := 119) rfl rfl ?_
      refine x_iconst (v := 0) rfl ki_0 ?_
      refine x_iloadn (x := a1) rfl rfl ?_
      refine z_iast (N := 3) (l := 0) (u := 3) (w := a1.toInt) rfl hD J Sm rfl rfl jk_0 (by omega) rfl (wr_119) rfl (fun h w11 J Sm => ?_)
      refine x_aloadn (x := 119) rfl rfl ?_
      refine x_iconst (v := 1) rfl ki_1 ?_
      refine x_iloadn (x := a3) rfl rfl ?_
      refine z_iast (N := 3) (l := 0) (u := 3) (w := a3.toInt) rfl hD J Sm rfl rfl jk_1 (by omega) rfl (wr_119) rfl (fun h w12 J Sm => ?_)
      refine x_aloadn (x := 119) rfl rfl ?_
      refine x_iconst (v := 2) rfl ki_2 ?_
      refine x_iloadn (x := v1) rfl rfl ?_
      refine z_iast (N := 3) (l := 0) (u := 3) (w := v1.toInt) rfl hD J Sm rfl rfl jk_2 (by omega) rfl (wr_119) rfl (fun h w13 J Sm => ?_)
      refine x_iload (x := 0) rfl rfl ?_
      refine x_zret rfl rfl (by decide) ?_
      show jX m_X4_runTurns 3 0 0 16 [(0, .ref 107), (1, .int a1), (2, .int a2), (3, .int a3)] [.int 0] _ 0 0 _
      refine x_ifne (tgt := 53) rfl rfl (ti_ne jk_0 jk_0 (bn_f (by omega) ?_))
      refine x_aloadn (x := 107) rfl rfl ?_
      refine x_iconst (v := 0) rfl ki_0 ?_
      refine z_putI (N := 18) (w := 0) 4 15 rfl f_4_50 rfl (jfin_no TX4 RX4 18 rfl rfl) hD J Sm rfl rfl jk_0 (pw_107_15 (by omega)) rfl (fun h w14 J Sm => ?_)
      refine x_aloadn (x := 107) rfl rfl ?_
      refine x_iconst (v := (-1)) rfl ki_m1 ?_
      refine z_putI (N := 18) (w := (-1)) 4 16 rfl f_4_53 rfl (jfin_no TX4 RX4 18 rfl rfl) hD J Sm rfl rfl jk_m1 (pw_107_16 (by omega)) rfl (fun h w15 J Sm => ?_)
      refine x_iconst (v := 0) rfl ki_0 ?_
      refine x_istore (ls' := [(4, .int 0), (0, .ref 107), (1, .int a1), (2, .int a2), (3, .int a3)]) rfl rfl rfl ?_
      exact jX.sub (jsb_c rfl (jsb_c rfl (jsb_c rfl (jsb_c rfl (jsb_c rfl jsb_n))))) (ct_X4_runTurns_r107_32 hD hQ  41 a1 a2 a3 0 0 h (by have := jk_0; omega) (jr_of rfl (by omega)) (jr_of rfl (by omega)) (jr_of rfl (by omega)) (jr_of jk_0 (by omega)) (jr_of jk_0 (by omega)) (jmo w15 rfl (jmw w14)) J Sm)
    ·
      refine x_aloadn (x := 119) rfl rfl ?_
      refine x_iconst (v := 2) rfl ki_2 ?_
      refine z_iald0 (N := 3) rfl J rfl jk_2 (by omega) (fun v16 qv16 => ?_)
      have ev16 := jfull v16
      refine x_iloadn (x := v1) rfl rfl ?_
      refine x_icne (tgt := 33) rfl rfl (ti_ne rfl rfl ⟨fun c17 => ?_, fun c17 => ?_⟩)
      ·
        refine x_iconst (v := 0) rfl ki_0 ?_
        refine x_istore (ls' := [(4, .int 0), (0, .ref 119), (1, .int a1), (2, .int a3), (3, .int v1)]) rfl rfl rfl ?_
        refine x_aloadn (x := 119) rfl rfl ?_
        refine x_iconst (v := 0) rfl ki_0 ?_
        refine x_iloadn (x := a1) rfl rfl ?_
        refine z_iast (N := 3) (l := 0) (u := 3) (w := a1.toInt) rfl hD J Sm rfl rfl jk_0 (by omega) rfl (wr_119) rfl (fun h w18 J Sm => ?_)
        refine x_aloadn (x := 119) rfl rfl ?_
        refine x_iconst (v := 1) rfl ki_1 ?_
        refine x_iloadn (x := a3) rfl rfl ?_
        refine z_iast (N := 3) (l := 0) (u := 3) (w := a3.toInt) rfl hD J Sm rfl rfl jk_1 (by omega) rfl (wr_119) rfl (fun h w19 J Sm => ?_)
        refine x_aloadn (x := 119) rfl rfl ?_
        refine x_iconst (v := 2) rfl ki_2 ?_
        refine x_iloadn (x := v1) rfl rfl ?_
        refine z_iast (N := 3) (l := 0) (u := 3) (w := v1.toInt) rfl hD J Sm rfl rfl jk_2 (by omega) rfl (wr_119) rfl (fun h w20 J Sm => ?_)
        refine x_iload (x := 0) rfl rfl ?_
        refine x_zret rfl rfl (by decide) ?_
        show jX m_X4_runTurns 3 0 0 16 [(0, .ref 107), (1, .int a1), (2, .int a2), (3, .int a3)] [.int 0] _ 0 0 _
        refine x_ifne (tgt := 53) rfl rfl (ti_ne jk_0 jk_0 (bn_f (by omega) ?_))
        refine x_aloadn (x := 107) rfl rfl ?_
        refine x_iconst (v := 0) rfl ki_0 ?_
        refine z_putI (N := 18) (w := 0) 4 15 rfl f_4_50 rfl (jfin_no TX4 RX4 18 rfl rfl) hD J Sm rfl rfl jk_0 (pw_107_15 (by omega)) rfl (fun h w21 J Sm => ?_)
        refine x_aloadn (x := 107) rfl rfl ?_
        refine x_iconst (v := (-1)) rfl ki_m1 ?_
        refine z_putI (N := 18) (w := (-1)) 4 16 rfl f_4_53 rfl (jfin_no TX4 RX4 18 rfl rfl) hD J Sm rfl rfl jk_m1 (pw_107_16 (by omega)) rfl (fun h w22 J Sm => ?_)
        refine x_iconst (v := 0) rfl ki_0 ?_
        refine x_istore (ls' := [(4, .int 0), (0, .ref 107), (1, .int a1), (2, .int a2), (3, .int a3)]) rfl rfl rfl ?_
        exact jX.sub (jsb_c rfl (jsb_c rfl (jsb_c rfl (jsb_c rfl (jsb_c rfl jsb_n))))) (ct_X4_runTurns_r107_32 hD hQ  41 a1 a2 a3 0 0 h (by have := jk_0; omega) (jr_of rfl (by omega)) (jr_of rfl (by omega)) (jr_of rfl (by omega)) (jr_of jk_0 (by omega)) (jr_of jk_0 (by omega)) (jmo w22 rfl (jmw w21)) J Sm)
      ·
        refine x_iconst (v := 1) rfl ki_1 ?_
        refine x_goto (tgt := 34) rfl rfl ?_
        refine x_istore (ls' := [(4, .int 1), (0, .ref 119), (1, .int a1), (2, .int a3), (3, .int v1)]) rfl rfl rfl ?_
        refine x_aloadn (x := 119) rfl rfl ?_
        refine x_iconst (v := 0) rfl ki_0 ?_
        refine x_iloadn (x := a1) rfl rfl ?_
        refine z_iast (N := 3) (l := 0) (u := 3) (w := a1.toInt) rfl hD J Sm rfl rfl jk_0 (by omega) rfl (wr_119) rfl (fun h w23 J Sm => ?_)
        refine x_aloadn (x := 119) rfl rfl ?_
        refine x_iconst (v := 1) rfl ki_1 ?_
        refine x_iloadn (x := a3) rfl rfl ?_
        refine z_iast (N := 3) (l := 0) (u := 3) (w := a3.toInt) rfl hD J Sm rfl rfl jk_1 (by omega) rfl (wr_119) rfl (fun h w24 J Sm => ?_)
        refine x_aloadn (x := 119) rfl rfl ?_
        refine x_iconst (v := 2) rfl ki_2 ?_
        refine x_iloadn (x := v1) rfl rfl ?_
        refine z_iast (N := 3) (l := 0) (u := 3) (w := v1.toInt) rfl hD J Sm rfl rfl jk_2 (by omega) rfl (wr_119) rfl (fun h w25 J Sm => ?_)
        refine x_iload (x := 1) rfl rfl ?_
        refine x_zret rfl rfl (by decide) ?_
        show jX m_X4_runTurns 3 0 0 16 [(0, .ref 107), (1, .int a1), (2, .int a2), (3, .int a3)] [.int 1] _ 0 0 _
        refine x_ifne (tgt := 53) rfl rfl (ti_ne jk_1 jk_0 (bn_t (by omega) ?_))
        have ex15 := jrg_f J sg_107_15_16_1_0_1
        exact jX.sub (jsb_c rfl (jsb_c rfl (jsb_c rfl (jsb_c rfl jsb_n)))) (ct_X4_runTurns_r107_53 hD hQ  401 a1 a2 a3 (jiv h 107 15) h (by omega) (jr_of rfl (by omega)) (jr_of rfl (by omega)) (jr_of rfl (by omega)) (jr_of rfl (by omega)) rfl J Sm)
def fp_X4_unevenness_r107 : jFp := [(118, 0, 40)]
set_option maxRecDepth 100000 in
set_option maxHeartbeats 4000000 in
theorem ct_X4_unevenness_r107_88 {Dy : jH → Prop} {h0 : jH} {Q : Option Value → jH → Prop} (hD : jDk Dy) (hQ : ∀ (v : Int32) h', jJ jSgX Dy h' → jSm fp_X4_unevenness_r107 h0 h' → Q (some (.int v)) h') : ∀ r : Nat, ∀ (l2 : Int32) (l3 : Int32) (l4 : Int32) (g0 : Int32) (h : jH), 40 - l4.toInt < (r : Int) → 0 ≤ l2.toInt ∧ l2.toInt ≤ 2147483647 → (-2147483648) ≤ l3.toInt ∧ l3.toInt ≤ 400 → 0 ≤ l4.toInt ∧ l4.toInt ≤ 40 → 0 ≤ g0.toInt ∧ g0.toInt ≤ 40 → jiv h 49 3 = g0 → jJ jSgX Dy h → jSm fp_X4_unevenness_r107 h0 h → jX m_X4_unevenness 2 0 0 88 [(0, .ref 107), (2, .int l2), (3, .int l3), (4, .int l4)] [] h 0 0 Q := by
  intro r
  induction r with
  | zero =>
    intro l2 l3 l4 g0 h hm y0 y1 y2 y3 z0  J Sm
    exfalso
    omega
  | succ r ih =>
    intro l2 l3 l4 g0 h hm y0 y1 y2 y3 z0  J Sm
    refine x_iload (x := l4) rfl rfl ?_
    refine x_aloadn (x := 107) rfl rfl ?_
    refine x_inv (N := m_X4_houses) (As := []) (b := 107) (st := [.int l4]) (d' := 1) (mc := 0) (ms := 0) (host := "") 4 rfl t_X4_houses ⟨Or.inl q_4_107, i_X4_houses.1, i_X4_houses.2⟩ ⟨by decide, rfl⟩ (congrArg Prod.fst (J.1.1 107 (4, 18) rfl)) rfl (by decide) rfl rfl ⟨by decide, by decide⟩ (jC.of rfl k_X4_houses rfl ?_)
    show jX m_X4_houses 1 0 0 0 [(0, .ref 107)] [] _ 0 0 _
    refine x_bipush (v := 40) rfl kb_40 ?_
    refine x_aloadn (x := 107) rfl rfl ?_
    refine z_getR (N := 18) (b := 32) 4 0 rfl f_4_59 rfl J rfl 13696 ⟨rfl, rfl⟩ rfl ?_
    refine z_getR (N := 20) (b := 49) 1 8 rfl f_4_71 rfl J rfl 4104 ⟨rfl, rfl⟩ rfl ?_
    refine z_getM (N := 4) (v := g0) 8 3 rfl f_4_77 rfl J rfl z0 ?_
    refine z_mmin rfl q_4_82 (by decide) rfl jk_40 rfl (fun v1 ev1 => ?_)
    refine x_iret rfl rfl ?_
    show jX m_X4_unevenness 2 0 0 94 [(0, .ref 107), (2, .int l2), (3, .int l3), (4, .int l4)] [.int v1, .int l4] _ 0 0 _
    refine x_icge (tgt := 127) rfl rfl (ti_ge rfl rfl ⟨fun c2 => ?_, fun c2 => ?_⟩)
    ·
      refine x_iloadn (x := l2) rfl rfl ?_
      refine x_iloadn (x := l3) rfl rfl ?_
      refine z_isub0 rfl (fun v3 => ?_)
      have ev3 := jfull v3
      refine x_iret rfl rfl ?_
      exact hQ _ _ J Sm
    ·
      refine x_iloadn (x := l2) rfl rfl ?_
      refine x_aloadn (x := 107) rfl rfl ?_
      refine z_getR (N := 18) (b := 118) 4 14 rfl f_4_47 rfl J rfl 13710 ⟨rfl, rfl⟩ rfl ?_
      refine x_iload (x := l4) rfl rfl ?_
      refine z_iald0 (N := 40) rfl J rfl rfl (by omega) (fun v4 qv4 => ?_)
      have ev4 := jfull v4
      refine z_mmax rfl q_4_178 (by decide) rfl rfl rfl (fun v5 ev5 => ?_)
      refine x_istoren (ls' := [(2, .int v5), (0, .ref 107), (3, .int l3), (4, .int l4)]) rfl rfl rfl ?_
      refine x_iloadn (x := l3) rfl rfl ?_
      refine x_aloadn (x := 107) rfl rfl ?_
      refine z_getR (N := 18) (b := 118) 4 14 rfl f_4_47 rfl J rfl 13710 ⟨rfl, rfl⟩ rfl ?_
      refine x_iload (x := l4) rfl rfl ?_
      refine z_ialdM (N := 40) (v := v4) rfl J rfl rfl (by omega) qv4 ?_
      refine z_mmin rfl q_4_82 (by decide) rfl rfl rfl (fun v6 ev6 => ?_)
      refine x_istoren (ls' := [(3, .int v6), (2, .int v5), (0, .ref 107), (4, .int l4)]) rfl rfl rfl ?_
      refine z_iinc (x := l4) (ls' := fun v7 => [(4, .int v7), (3, .int v6), (2, .int v5), (0, .ref 107)]) rfl rfl rfl jko_1 (by omega) rfl (fun _ => rfl) (fun v7 ev7 => ?_)
      refine x_goto (tgt := 88) rfl rfl ?_
      exact jX.sub (jsb_c rfl (jsb_c rfl (jsb_c rfl (jsb_c rfl jsb_n)))) (ih v5 v6 v7 g0 h (by omega) (jr_of rfl (by omega)) (jr_of rfl (by omega)) (jr_of rfl (by omega)) (jr_of rfl (by omega)) z0 J Sm)
set_option maxRecDepth 100000 in
set_option maxHeartbeats 4000000 in
theorem ct_X4_unevenness_r107_84 {Dy : jH → Prop} {h0 : jH} {Q : Option Value → jH → Prop} (hD : jDk Dy) (hQ : ∀ (v : Int32) h', jJ jSgX Dy h' → jSm fp_X4_unevenness_r107 h0 h' → Q (some (.int v)) h') : ∀ (g0 : Int32) (h : jH), 0 ≤ g0.toInt ∧ g0.toInt ≤ 40 → jiv h 49 3 = g0 → jJ jSgX Dy h → jSm fp_X4_unevenness_r107 h0 h → jX m_X4_unevenness 2 0 0 84 [(0, .ref 107), (2, .int 0)] [.int 400] h 0 0 Q := by
  intro g0 h y0 z0  J Sm
  refine x_istoren (ls' := [(3, .int 400), (0, .ref 107), (2, .int 0)]) rfl rfl rfl ?_
  refine x_iconst (v := 0) rfl ki_0 ?_
  refine x_istore (ls' := [(4, .int 0), (3, .int 400), (0, .ref 107), (2, .int 0)]) rfl rfl rfl ?_
  exact jX.sub (jsb_c rfl (jsb_c rfl (jsb_c rfl (jsb_c rfl jsb_n)))) (ct_X4_unevenness_r107_88 hD hQ  41 0 400 0 g0 h (by have := jk_0; omega) (jr_of jk_0 (by omega)) (jr_of jk_400 (by omega)) (jr_of jk_0 (by omega)) (jr_of rfl (by omega)) z0 J Sm)
set_option maxRecDepth 100000 in
set_option maxHeartbeats 4000000 in
theorem ct_X4_unevenness_r107_200084 {Dy : jH → Prop} {h0 : jH} {Q : Option Value → jH → Prop} (hD : jDk Dy) (hQ : ∀ (v : Int32) h', jJ jSgX Dy h' → jSm fp_X4_unevenness_r107 h0 h' → Q (some (.int v)) h') : ∀ (g0 : Int32) (h : jH), 0 ≤ g0.toInt ∧ g0.toInt ≤ 40 → jiv h 49 3 = g0 → jJ jSgX Dy h → jSm fp_X4_unevenness_r107 h0 h → jX m_X4_unevenness 2 0 0 84 [(0, .ref 107), (2, .int 0)] [.int 0] h 0 0 Q := by
  intro g0 h y0 z0  J Sm
  refine x_istoren (ls' := [(3, .int 0), (0, .ref 107), (2, .int 0)]) rfl rfl rfl ?_
  refine x_iconst (v := 0) rfl ki_0 ?_
  refine x_istore (ls' := [(4, .int 0), (3, .int 0), (0, .ref 107), (2, .int 0)]) rfl rfl rfl ?_
  exact jX.sub (jsb_c rfl (jsb_c rfl (jsb_c rfl (jsb_c rfl jsb_n)))) (ct_X4_unevenness_r107_88 hD hQ  41 0 0 0 g0 h (by have := jk_0; omega) (jr_of jk_0 (by omega)) (jr_of jk_0 (by omega)) (jr_of jk_0 (by omega)) (jr_of rfl (by omega)) z0 J Sm)
set_option maxRecDepth 100000 in
set_option maxHeartbeats 4000000 in
theorem ct_X4_unevenness_r107_68 {Dy : jH → Prop} {h0 : jH} {Q : Option Value → jH → Prop} (hD : jDk Dy) (hQ : ∀ (v : Int32) h', jJ jSgX Dy h' → jSm fp_X4_unevenness_r107 h0 h' → Q (some (.int v)) h') : ∀ (h : jH), jJ jSgX Dy h → jSm fp_X4_unevenness_r107 h0 h → jX m_X4_unevenness 2 0 0 68 [(0, .ref 107)] [] h 0 0 Q := by
  intro  h    J Sm
  refine x_iconst (v := 0) rfl ki_0 ?_
  refine x_istoren (ls' := [(2, .int 0), (0, .ref 107)]) rfl rfl rfl ?_
  refine x_aloadn (x := 107) rfl rfl ?_
  refine x_inv (N := m_X4_houses) (As := []) (b := 107) (st := []) (d' := 1) (mc := 0) (ms := 0) (host := "") 4 rfl t_X4_houses ⟨Or.inl q_4_107, i_X4_houses.1, i_X4_houses.2⟩ ⟨by decide, rfl⟩ (congrArg Prod.fst (J.1.1 107 (4, 18) rfl)) rfl (by decide) rfl rfl ⟨by decide, by decide⟩ (jC.of rfl k_X4_houses rfl ?_)
  show jX m_X4_houses 1 0 0 0 [(0, .ref 107)] [] _ 0 0 _
  refine x_bipush (v := 40) rfl kb_40 ?_
  refine x_aloadn (x := 107) rfl rfl ?_
  refine z_getR (N := 18) (b := 32) 4 0 rfl f_4_59 rfl J rfl 13696 ⟨rfl, rfl⟩ rfl ?_
  refine z_getR (N := 20) (b := 49) 1 8 rfl f_4_71 rfl J rfl 4104 ⟨rfl, rfl⟩ rfl ?_
  refine z_getI (N := 4) 8 3 rfl f_4_77 rfl J rfl sg_49_3_4_1_0_1 (fun v1 qv1 ev1 => ?_)
  refine z_mmin rfl q_4_82 (by decide) rfl jk_40 rfl (fun v2 ev2 => ?_)
  refine x_iret rfl rfl ?_
  show jX m_X4_unevenness 2 0 0 74 [(2, .int 0), (0, .ref 107)] [.int v2] _ 0 0 _
  refine x_ifne (tgt := 81) rfl rfl (ti_ne rfl jk_0 ⟨fun c3 => ?_, fun c3 => ?_⟩)
  ·
    refine x_sipush (v := 400) rfl ks_400 ?_
    exact jX.sub (jsb_c rfl (jsb_c rfl jsb_n)) (ct_X4_unevenness_r107_84 hD hQ  v1 h (jr_of rfl (by omega)) qv1 J Sm)
  ·
    refine x_iconst (v := 0) rfl ki_0 ?_
    refine x_goto (tgt := 84) rfl rfl ?_
    exact jX.sub (jsb_c rfl (jsb_c rfl jsb_n)) (ct_X4_unevenness_r107_200084 hD hQ  v1 h (jr_of rfl (by omega)) qv1 J Sm)
set_option maxRecDepth 100000 in
set_option maxHeartbeats 4000000 in
theorem ct_X4_unevenness_r107_62 {Dy : jH → Prop} {h0 : jH} {Q : Option Value → jH → Prop} {R23 : Int} (hD : jDk Dy) (hQ : ∀ (v : Int32) h', jJ jSgX Dy h' → jSm fp_X4_unevenness_r107 h0 h' → Q (some (.int v)) h') (k23 : ∀ (l1 : Int32) (l2 : Int32) (h : jH), 400 - l2.toInt < R23 → 0 ≤ l1.toInt ∧ l1.toInt ≤ 399 → 0 ≤ l2.toInt ∧ l2.toInt ≤ 400 → jJ jSgX Dy h → jSm fp_X4_unevenness_r107 h0 h → jX m_X4_unevenness 2 0 0 23 [(0, .ref 107), (1, .int l1), (2, .int l2)] [] h 0 0 Q) : ∀ (l1 : Int32) (l2 : Int32) (h : jH), 0 ≤ l1.toInt ∧ l1.toInt ≤ 399 → 0 ≤ l2.toInt ∧ l2.toInt ≤ 399 → 400 - l2.toInt ≤ R23 → jJ jSgX Dy h → jSm fp_X4_unevenness_r107 h0 h → jX m_X4_unevenness 2 0 0 62 [(0, .ref 107), (1, .int l1), (2, .int l2)] [] h 0 0 Q := by
  intro l1 l2 h y0 y1  m23 J Sm
  refine z_iinc (x := l2) (ls' := fun v1 => [(2, .int v1), (0, .ref 107), (1, .int l1)]) rfl rfl rfl jko_1 (by omega) rfl (fun _ => rfl) (fun v1 ev1 => ?_)
  refine x_goto (tgt := 23) rfl rfl ?_
  exact jX.sub (jsb_c rfl (jsb_c rfl (jsb_c rfl jsb_n))) (k23 l1 v1 h (by omega) (jr_of rfl (by omega)) (jr_of rfl (by omega)) J Sm)
set_option maxRecDepth 100000 in
set_option maxHeartbeats 4000000 in
theorem ct_X4_unevenness_r107_23 {Dy : jH → Prop} {h0 : jH} {Q : Option Value → jH → Prop} (hD : jDk Dy) (hQ : ∀ (v : Int32) h', jJ jSgX Dy h' → jSm fp_X4_unevenness_r107 h0 h' → Q (some (.int v)) h') : ∀ r : Nat, ∀ (l1 : Int32) (l2 : Int32) (h : jH), 400 - l2.toInt < (r : Int) → 0 ≤ l1.toInt ∧ l1.toInt ≤ 399 → 0 ≤ l2.toInt ∧ l2.toInt ≤ 400 → jJ jSgX Dy h → jSm fp_X4_unevenness_r107 h0 h → jX m_X4_unevenness 2 0 0 23 [(0, .ref 107), (1, .int l1), (2, .int l2)] [] h 0 0 Q := by
  intro r
  induction r with
  | zero =>
    intro l1 l2 h hm y0 y1   J Sm
    exfalso
    omega
  | succ r ih =>
    intro l1 l2 h hm y0 y1   J Sm
    refine x_iloadn (x := l2) rfl rfl ?_
    refine x_iloadn (x := l1) rfl rfl ?_
    refine x_icgt (tgt := 68) rfl rfl (ti_gt rfl rfl ⟨fun c1 => ?_, fun c1 => ?_⟩)
    ·
      exact jX.sub (jsb_c rfl jsb_n) (ct_X4_unevenness_r107_68 hD hQ  h J Sm)
    ·
      refine x_iloadn (x := l2) rfl rfl ?_
      refine x_sipush (v := 399) rfl ks_399 ?_
      refine x_icgt (tgt := 68) rfl rfl (ti_gt rfl jk_399 (br_f (by omega) ?_))
      refine x_aloadn (x := 107) rfl rfl ?_
      refine z_getR (N := 18) (b := 115) 4 11 rfl f_4_38 rfl J rfl 13707 ⟨rfl, rfl⟩ rfl ?_
      refine x_iloadn (x := l2) rfl rfl ?_
      refine z_iald (N := 400) rfl J rfl sg_115_0_400_1_0_1 rfl (by omega) (fun v2 qv2 ev2 => ?_)
      refine x_istoren (ls' := [(3, .int v2), (0, .ref 107), (1, .int l1), (2, .int l2)]) rfl rfl rfl ?_
      refine x_iloadn (x := v2) rfl rfl ?_
      refine x_iflt (tgt := 62) rfl rfl (ti_lt rfl jk_0 ⟨fun c3 => ?_, fun c3 => ?_⟩)
      ·
        exact jX.sub (jsb_c rfl (jsb_c rfl (jsb_c rfl jsb_n))) (ct_X4_unevenness_r107_62 hD hQ ih l1 l2 h (jr_of rfl (by omega)) (jr_of rfl (by omega)) (by omega) J Sm)
      ·
        refine x_iloadn (x := v2) rfl rfl ?_
        refine x_bipush (v := 40) rfl kb_40 ?_
        refine x_icge (tgt := 62) rfl rfl (ti_ge rfl jk_40 (br_f (by omega) ?_))
        refine x_aloadn (x := 107) rfl rfl ?_
        refine z_getR (N := 18) (b := 118) 4 14 rfl f_4_47 rfl J rfl 13710 ⟨rfl, rfl⟩ rfl ?_
        refine x_iloadn (x := v2) rfl rfl ?_
        refine x_dup2 rfl rfl rfl ?_
        refine z_iald0 (N := 40) rfl J rfl rfl (by omega) (fun v4 qv4 => ?_)
        have ev4 := jfull v4
        refine x_iconst (v := 1) rfl ki_1 ?_
        refine z_iadd0 rfl (fun v5 => ?_)
        have ev5 := jfull v5
        refine z_iast (N := 40) (l := 0) (u := 40) (w := v5.toInt) rfl hD J Sm rfl rfl rfl (by omega) rfl (wr_118) rfl (fun h w6 J Sm => ?_)
        exact jX.sub (jsb_c rfl (jsb_c rfl (jsb_c rfl jsb_n))) (ct_X4_unevenness_r107_62 hD hQ ih l1 l2 h (jr_of rfl (by omega)) (jr_of rfl (by omega)) (by omega) J Sm)
set_option maxRecDepth 100000 in
set_option maxHeartbeats 4000000 in
theorem ct_X4_unevenness_r107_2 {Dy : jH → Prop} {h0 : jH} {Q : Option Value → jH → Prop} (hD : jDk Dy) (hQ : ∀ (v : Int32) h', jJ jSgX Dy h' → jSm fp_X4_unevenness_r107 h0 h' → Q (some (.int v)) h') : ∀ r : Nat, ∀ (l1 : Int32) (l2 : Int32) (h : jH), 40 - l2.toInt < (r : Int) → 0 ≤ l1.toInt ∧ l1.toInt ≤ 399 → 0 ≤ l2.toInt ∧ l2.toInt ≤ 40 → jJ jSgX Dy h → jSm fp_X4_unevenness_r107 h0 h → jX m_X4_unevenness 2 0 0 2 [(0, .ref 107), (1, .int l1), (2, .int l2)] [] h 0 0 Q := by
  intro r
  induction r with
  | zero =>
    intro l1 l2 h hm y0 y1   J Sm
    exfalso
    omega
  | succ r ih =>
    intro l1 l2 h hm y0 y1   J Sm
    refine x_iloadn (x := l2) rfl rfl ?_
    refine x_bipush (v := 40) rfl kb_40 ?_
    refine x_icge (tgt := 21) rfl rfl (ti_ge rfl jk_40 ⟨fun c1 => ?_, fun c1 => ?_⟩)
    ·
      refine x_iconst (v := 0) rfl ki_0 ?_
      refine x_istoren (ls' := [(2, .int 0), (0, .ref 107), (1, .int l1)]) rfl rfl rfl ?_
      exact jX.sub (jsb_c rfl (jsb_c rfl (jsb_c rfl jsb_n))) (ct_X4_unevenness_r107_23 hD hQ  401 l1 0 h (by have := jk_0; omega) (jr_of rfl (by omega)) (jr_of jk_0 (by omega)) J Sm)
    ·
      refine x_aloadn (x := 107) rfl rfl ?_
      refine z_getR (N := 18) (b := 118) 4 14 rfl f_4_47 rfl J rfl 13710 ⟨rfl, rfl⟩ rfl ?_
      refine x_iloadn (x := l2) rfl rfl ?_
      refine x_iconst (v := 0) rfl ki_0 ?_
      refine z_iast (N := 40) (l := 0) (u := 40) (w := 0) rfl hD J Sm rfl rfl rfl (by omega) jk_0 (wr_118) rfl (fun h w2 J Sm => ?_)
      refine z_iinc (x := l2) (ls' := fun v3 => [(2, .int v3), (0, .ref 107), (1, .int l1)]) rfl rfl rfl jko_1 (by omega) rfl (fun _ => rfl) (fun v3 ev3 => ?_)
      refine x_goto (tgt := 2) rfl rfl ?_
      exact jX.sub (jsb_c rfl (jsb_c rfl (jsb_c rfl jsb_n))) (ih l1 v3 h (by omega) (jr_of rfl (by omega)) (jr_of rfl (by omega)) J Sm)
set_option maxRecDepth 100000 in
set_option maxHeartbeats 4000000 in
theorem sf_X4_unevenness_r107 {Dy : jH → Prop} {h : jH} {Q : Option Value → jH → Prop} {a1 : Int32} (y1 : 0 ≤ a1.toInt ∧ a1.toInt ≤ 399) (hD : jDk Dy) (J : jJ jSgX Dy h) (hQ : ∀ (v : Int32) h', jJ jSgX Dy h' → jSm fp_X4_unevenness_r107 h h' → Q (some (.int v)) h') : jC m_X4_unevenness 2 0 0 [.ref 107, .int a1] h Q := by
  refine jC.of rfl k_X4_unevenness rfl ?_
  have Sm := jSm_rf fp_X4_unevenness_r107 h
  show jX m_X4_unevenness 2 0 0 0 [(0, .ref 107), (1, .int a1)] [] _ 0 0 _
  refine x_iconst (v := 0) rfl ki_0 ?_
  refine x_istoren (ls' := [(2, .int 0), (0, .ref 107), (1, .int a1)]) rfl rfl rfl ?_
  exact jX.sub (jsb_c rfl (jsb_c rfl (jsb_c rfl jsb_n))) (ct_X4_unevenness_r107_2 hD hQ  41 a1 0 h (by have := jk_0; omega) (jr_of rfl (by omega)) (jr_of jk_0 (by omega)) J Sm)
def fp_X11_turn_r31 : jFp := [(78, 13, 14), (82, 0, 600), (83, 0, 600), (84, 0, 200), (86, 0, 3), (98, 10, 11), (98, 11, 12), (101, 0, 3), (107, 15, 16), (107, 16, 17), (115, 0, 400), (116, 0, 400), (117, 0, 40), (118, 0, 40), (119, 0, 3)]
set_option maxRecDepth 100000 in
set_option maxHeartbeats 4000000 in
theorem ct_X11_turn_r31_32 {Dy : jH → Prop} {h0 : jH} {Q : Option Value → jH → Prop} (hD : jDk Dy) (hQ : ∀ (v : Int32) h', jJ jSgX Dy h' → jSm fp_X11_turn_r31 h0 h' → Q (some (.int v)) h') : ∀ (h : jH), jJ jSgX Dy h → jSm fp_X11_turn_r31 h0 h → jX m_X11_turn 7 0 0 32 [] [] h 0 0 Q := by
  intro  h    J Sm
  refine x_iconst (v := (-1)) rfl ki_m1 ?_
  refine x_iret rfl rfl ?_
  exact hQ _ _ J Sm
set_option maxRecDepth 100000 in
set_option maxHeartbeats 4000000 in
theorem sf_X11_turn_r31 {Dy : jH → Prop} {h : jH} {Q : Option Value → jH → Prop} {a1 : Int32} {a2 : Int32} {a3 : Int32} {a4 : Int32} (hD : jDk Dy) (J : jJ jSgX Dy h) (hQ : ∀ (v : Int32) h', jJ jSgX Dy h' → jSm fp_X11_turn_r31 h h' → Q (some (.int v)) h') : jC m_X11_turn 7 0 0 [.ref 31, .int a1, .int a2, .int a3, .int a4] h Q := by
  refine jC.of rfl k_X11_turn rfl ?_
  have Sm := jSm_rf fp_X11_turn_r31 h
  have ea1 := jfull a1
  have ea2 := jfull a2
  have ea3 := jfull a3
  have ea4 := jfull a4
  show jX m_X11_turn 7 0 0 0 [(0, .ref 31), (1, .int a1), (2, .int a2), (3, .int a3), (4, .int a4)] [] _ 0 0 _
  refine x_iloadn (x := a1) rfl rfl ?_
  refine x_inst (N := m_X11_isOffice) (As := [.int a1]) (st := []) (d' := 1) (mc := 0) (ms := 0) (host := "") rfl t_X11_isOffice ⟨Or.inl q_11_456, s_X11_isOffice⟩ rfl (by decide) rfl rfl ⟨by decide, by decide⟩ (zc_X11_isOffice rfl (fun v1 ev1 => ?_))
  show jX m_X11_turn 7 0 0 4 [(0, .ref 31), (1, .int a1), (2, .int a2), (3, .int a3), (4, .int a4)] [.int v1] _ 0 0 _
  refine x_ifeq (tgt := 32) rfl rfl (ti_eq rfl jk_0 ⟨fun c2 => ?_, fun c2 => ?_⟩)
  ·
    exact jX.sub jsb_n (ct_X11_turn_r31_32 hD hQ  h J Sm)
  ·
    refine x_iloadn (x := a2) rfl rfl ?_
    refine x_inst (N := m_X11_isYear) (As := [.int a2]) (st := []) (d' := 1) (mc := 0) (ms := 0) (host := "") rfl t_X11_isYear ⟨Or.inl q_11_433, s_X11_isYear⟩ rfl (by decide) rfl rfl ⟨by decide, by decide⟩ (zc_X11_isYear rfl (fun v3 ev3 => ?_))
    show jX m_X11_turn 7 0 0 11 [(0, .ref 31), (1, .int a1), (2, .int a2), (3, .int a3), (4, .int a4)] [.int v3] _ 0 0 _
    refine x_ifeq (tgt := 32) rfl rfl (ti_eq rfl jk_0 ⟨fun c4 => ?_, fun c4 => ?_⟩)
    ·
      exact jX.sub jsb_n (ct_X11_turn_r31_32 hD hQ  h J Sm)
    ·
      refine x_iloadn (x := a3) rfl rfl ?_
      refine x_inst (N := m_X11_isDay) (As := [.int a3]) (st := []) (d' := 1) (mc := 0) (ms := 0) (host := "") rfl t_X11_isDay ⟨Or.inl q_11_115, s_X11_isDay⟩ rfl (by decide) rfl rfl ⟨by decide, by decide⟩ (zc_X11_isDay rfl (fun v5 ev5 => ?_))
      show jX m_X11_turn 7 0 0 18 [(0, .ref 31), (1, .int a1), (2, .int a2), (3, .int a3), (4, .int a4)] [.int v5] _ 0 0 _
      refine x_ifeq (tgt := 32) rfl rfl (ti_eq rfl jk_0 ⟨fun c6 => ?_, fun c6 => ?_⟩)
      ·
        exact jX.sub jsb_n (ct_X11_turn_r31_32 hD hQ  h J Sm)
      ·
        refine x_iload (x := a4) rfl rfl ?_
        refine x_iflt (tgt := 32) rfl rfl (ti_lt rfl jk_0 ⟨fun c7 => ?_, fun c7 => ?_⟩)
        ·
          exact jX.sub jsb_n (ct_X11_turn_r31_32 hD hQ  h J Sm)
        ·
          refine x_iload (x := a4) rfl rfl ?_
          refine x_iconst (v := 2) rfl ki_2 ?_
          refine x_icle (tgt := 34) rfl rfl (ti_le rfl jk_2 ⟨fun c8 => ?_, fun c8 => ?_⟩)
          ·
            refine x_aloadn (x := 31) rfl rfl ?_
            refine z_getR (N := 13) (b := 78) 11 4 rfl f_11_41 rfl J rfl 3972 ⟨rfl, rfl⟩ rfl ?_
            refine x_iloadn (x := a3) rfl rfl ?_
            refine x_inv (N := m_X7_asKnown) (As := [.int a3]) (b := 78) (st := []) (d' := 6) (mc := 0) (ms := 0) (host := "") 7 rfl t_X7_asKnown ⟨Or.inl q_11_240, i_X7_asKnown.1, i_X7_asKnown.2⟩ ⟨by decide, rfl⟩ (congrArg Prod.fst (J.1.1 78 (7, 16) rfl)) rfl (by decide) rfl rfl ⟨by decide, by decide⟩ (sf_X7_asKnown_r78 (jr_of rfl (by omega)) hD J  (fun h J S9 => ?_))
            have Sm := jSm_tr rfl Sm S9
            show jX m_X11_turn 7 0 0 42 [(0, .ref 31), (1, .int a1), (2, .int a2), (3, .int a3), (4, .int a4)] [] _ 0 0 _
            refine x_aloadn (x := 31) rfl rfl ?_
            refine z_getR (N := 13) (b := 107) 11 8 rfl f_11_75 rfl J rfl 3976 ⟨rfl, rfl⟩ rfl ?_
            refine x_iloadn (x := a1) rfl rfl ?_
            refine x_iloadn (x := a2) rfl rfl ?_
            refine x_iloadn (x := a3) rfl rfl ?_
            refine x_inv (N := m_X4_runTurns) (As := [.int a1, .int a2, .int a3]) (b := 107) (st := []) (d' := 3) (mc := 0) (ms := 0) (host := "") 4 rfl t_X4_runTurns ⟨Or.inl q_11_459, i_X4_runTurns.1, i_X4_runTurns.2⟩ ⟨by decide, rfl⟩ (congrArg Prod.fst (J.1.1 107 (4, 18) rfl)) rfl (by decide) rfl rfl ⟨by decide, by decide⟩ (sf_X4_runTurns_r107 (jr_of rfl (by omega)) (jr_of rfl (by omega)) (jr_of rfl (by omega)) hD J  (fun h J S10 => ?_))
            have Sm := jSm_tr rfl Sm S10
            show jX m_X11_turn 7 0 0 52 [(0, .ref 31), (1, .int a1), (2, .int a2), (3, .int a3), (4, .int a4)] [] _ 0 0 _
            refine x_iload (x := a4) rfl rfl ?_
            by_cases c11 : a4.toInt = 0
            ·
              refine x_lookup (tgt := 80) (off := 26) rfl (by decide) (by rw [show (a4).toInt = 0 from c11]; decide) rfl ?_
              refine x_aloadn (x := 31) rfl rfl ?_
              refine z_getR (N := 13) (b := 107) 11 8 rfl f_11_75 rfl J rfl 3976 ⟨rfl, rfl⟩ rfl ?_
              refine z_getR (N := 18) (b := 115) 4 11 rfl f_11_463 rfl J rfl 13707 ⟨rfl, rfl⟩ rfl ?_
              refine x_iloadn (x := a2) rfl rfl ?_
              refine z_iald (N := 400) rfl J rfl sg_115_0_400_1_0_1 rfl (by omega) (fun v12 qv12 ev12 => ?_)
              refine x_iret rfl rfl ?_
              exact hQ _ _ J Sm
            by_cases c13 : a4.toInt = 1
            ·
              refine x_lookup (tgt := 90) (off := 36) rfl (by decide) (by rw [show (a4).toInt = 1 from c13]; decide) rfl ?_
              refine x_aloadn (x := 31) rfl rfl ?_
              refine z_getR (N := 13) (b := 107) 11 8 rfl f_11_75 rfl J rfl 3976 ⟨rfl, rfl⟩ rfl ?_
              refine z_getR (N := 18) (b := 116) 4 12 rfl f_11_466 rfl J rfl 13708 ⟨rfl, rfl⟩ rfl ?_
              refine x_iloadn (x := a2) rfl rfl ?_
              refine z_iald (N := 400) rfl J rfl sg_116_0_400_1_0_1 rfl (by omega) (fun v14 qv14 ev14 => ?_)
              refine x_iret rfl rfl ?_
              exact hQ _ _ J Sm
            refine x_lookup (tgt := 100) (off := 46) rfl (by decide) (by simp [Op.lookupswitch.offset]; omega) rfl ?_
            refine x_aloadn (x := 31) rfl rfl ?_
            refine z_getR (N := 13) (b := 107) 11 8 rfl f_11_75 rfl J rfl 3976 ⟨rfl, rfl⟩ rfl ?_
            refine x_iloadn (x := a2) rfl rfl ?_
            refine x_inv (N := m_X4_unevenness) (As := [.int a2]) (b := 107) (st := []) (d' := 2) (mc := 0) (ms := 0) (host := "") 4 rfl t_X4_unevenness ⟨Or.inl q_11_469, i_X4_unevenness.1, i_X4_unevenness.2⟩ ⟨by decide, rfl⟩ (congrArg Prod.fst (J.1.1 107 (4, 18) rfl)) rfl (by decide) rfl rfl ⟨by decide, by decide⟩ (sf_X4_unevenness_r107 (jr_of rfl (by omega)) hD J  (fun v16 h J S15 => ?_))
            have ev16 := jfull v16
            have Sm := jSm_tr rfl Sm S15
            show jX m_X11_turn 7 0 0 108 [(0, .ref 31), (1, .int a1), (2, .int a2), (3, .int a3), (4, .int a4)] [.int v16] _ 0 0 _
            refine x_iret rfl rfl ?_
            exact hQ _ _ J Sm
          ·
            exact jX.sub jsb_n (ct_X11_turn_r31_32 hD hQ  h J Sm)
def fp_X8_put_r47_c0 : jFp := [(48, 0, 400)]
set_option maxRecDepth 100000 in
set_option maxHeartbeats 4000000 in
theorem ct_X8_put_r47_c0_38 {Dy : jH → Prop} {h0 : jH} {Q : Option Value → jH → Prop} (hD : jDk Dy) (hQ : ∀ h', jJ jSgX Dy h' → jSm fp_X8_put_r47_c0 h0 h' → Q none h') : ∀ (h : jH), jJ jSgX Dy h → jSm fp_X8_put_r47_c0 h0 h → jX m_X8_put 1 0 0 38 [] [] h 0 0 Q := by
  intro  h    J Sm
  refine x_vret rfl rfl ?_
  exact hQ _ J Sm
set_option maxRecDepth 100000 in
set_option maxHeartbeats 4000000 in
theorem sf_X8_put_r47_c0 {Dy : jH → Prop} {h : jH} {Q : Option Value → jH → Prop} {a1 : Int32} {a3 : Int32} (y1 : 0 ≤ a1.toInt ∧ a1.toInt ≤ 99) (y3 : 0 ≤ a3.toInt ∧ a3.toInt ≤ 146399) (hD : jDk Dy) (J : jJ jSgX Dy h) (hQ : ∀ h', jJ jSgX Dy h' → jSm fp_X8_put_r47_c0 h h' → Q none h') : jC m_X8_put 1 0 0 [.ref 47, .int a1, .int 0, .int a3] h Q := by
  refine jC.of rfl k_X8_put rfl ?_
  have Sm := jSm_rf fp_X8_put_r47_c0 h
  show jX m_X8_put 1 0 0 0 [(0, .ref 47), (1, .int a1), (2, .int 0), (3, .int a3)] [] _ 0 0 _
  refine x_iloadn (x := a1) rfl rfl ?_
  refine x_iflt (tgt := 38) rfl rfl (ti_lt rfl jk_0 (br_f (by omega) ?_))
  refine x_iloadn (x := a1) rfl rfl ?_
  refine x_aloadn (x := 47) rfl rfl ?_
  refine z_getI (N := 4) 8 3 rfl f_8_7 rfl J rfl sg_47_3_4_1_0_1 (fun v1 qv1 ev1 => ?_)
  refine x_icge (tgt := 38) rfl rfl (ti_ge rfl rfl ⟨fun c2 => ?_, fun c2 => ?_⟩)
  ·
    exact jX.sub jsb_n (ct_X8_put_r47_c0_38 hD hQ  h J Sm)
  ·
    refine x_iloadn (x := 0) rfl rfl ?_
    refine x_iflt (tgt := 38) rfl rfl (ti_lt jk_0 jk_0 (br_f (by omega) ?_))
    refine x_iloadn (x := 0) rfl rfl ?_
    refine x_aloadn (x := 47) rfl rfl ?_
    refine z_getC (N := 4) (v := 4) 8 0 rfl f_8_19 rfl J rfl sg_47_0_1_1_0_1 jk_4 ?_
    refine x_icge (tgt := 38) rfl rfl (ti_ge jk_0 jk_4 (br_f (by omega) ?_))
    refine x_aloadn (x := 47) rfl rfl ?_
    refine z_getR (N := 4) (b := 48) 8 2 rfl f_8_25 rfl J rfl 6018 ⟨rfl, rfl⟩ rfl ?_
    refine x_iloadn (x := a1) rfl rfl ?_
    refine x_aloadn (x := 47) rfl rfl ?_
    refine z_getC (N := 4) (v := 4) 8 0 rfl f_8_19 rfl J rfl sg_47_0_1_1_0_1 jk_4 ?_
    refine z_imul rfl rfl jk_4 (by omega) (fun v3 ev3 => ?_)
    refine x_iloadn (x := 0) rfl rfl ?_
    refine z_iadd rfl rfl jk_0 (by omega) (fun v4 ev4 => ?_)
    refine x_iloadn (x := a3) rfl rfl ?_
    refine z_iast (N := 400) (l := 0) (u := 400) (w := a3.toInt) rfl hD J Sm rfl rfl rfl (by omega) rfl (wr_48 (fun q1 q2 q3 q4 => by omega) (fun q1 q2 q3 q4 => by omega) (fun q1 q2 q3 q4 => by omega) (fun q1 q2 q3 q4 => by omega)) rfl (fun h w5 J Sm => ?_)
    exact jX.sub jsb_n (ct_X8_put_r47_c0_38 hD hQ  h J Sm)
def fp_X8_put_r47_c1 : jFp := [(48, 0, 400)]
set_option maxRecDepth 100000 in
set_option maxHeartbeats 4000000 in
theorem ct_X8_put_r47_c1_38 {Dy : jH → Prop} {h0 : jH} {Q : Option Value → jH → Prop} (hD : jDk Dy) (hQ : ∀ h', jJ jSgX Dy h' → jSm fp_X8_put_r47_c1 h0 h' → Q none h') : ∀ (h : jH), jJ jSgX Dy h → jSm fp_X8_put_r47_c1 h0 h → jX m_X8_put 1 0 0 38 [] [] h 0 0 Q := by
  intro  h    J Sm
  refine x_vret rfl rfl ?_
  exact hQ _ J Sm
set_option maxRecDepth 100000 in
set_option maxHeartbeats 4000000 in
theorem sf_X8_put_r47_c1 {Dy : jH → Prop} {h : jH} {Q : Option Value → jH → Prop} {a1 : Int32} {a3 : Int32} (y1 : 0 ≤ a1.toInt ∧ a1.toInt ≤ 99) (y3 : 0 ≤ a3.toInt ∧ a3.toInt ≤ 146399) (hD : jDk Dy) (J : jJ jSgX Dy h) (hQ : ∀ h', jJ jSgX Dy h' → jSm fp_X8_put_r47_c1 h h' → Q none h') : jC m_X8_put 1 0 0 [.ref 47, .int a1, .int 1, .int a3] h Q := by
  refine jC.of rfl k_X8_put rfl ?_
  have Sm := jSm_rf fp_X8_put_r47_c1 h
  show jX m_X8_put 1 0 0 0 [(0, .ref 47), (1, .int a1), (2, .int 1), (3, .int a3)] [] _ 0 0 _
  refine x_iloadn (x := a1) rfl rfl ?_
  refine x_iflt (tgt := 38) rfl rfl (ti_lt rfl jk_0 (br_f (by omega) ?_))
  refine x_iloadn (x := a1) rfl rfl ?_
  refine x_aloadn (x := 47) rfl rfl ?_
  refine z_getI (N := 4) 8 3 rfl f_8_7 rfl J rfl sg_47_3_4_1_0_1 (fun v1 qv1 ev1 => ?_)
  refine x_icge (tgt := 38) rfl rfl (ti_ge rfl rfl ⟨fun c2 => ?_, fun c2 => ?_⟩)
  ·
    exact jX.sub jsb_n (ct_X8_put_r47_c1_38 hD hQ  h J Sm)
  ·
    refine x_iloadn (x := 1) rfl rfl ?_
    refine x_iflt (tgt := 38) rfl rfl (ti_lt jk_1 jk_0 (br_f (by omega) ?_))
    refine x_iloadn (x := 1) rfl rfl ?_
    refine x_aloadn (x := 47) rfl rfl ?_
    refine z_getC (N := 4) (v := 4) 8 0 rfl f_8_19 rfl J rfl sg_47_0_1_1_0_1 jk_4 ?_
    refine x_icge (tgt := 38) rfl rfl (ti_ge jk_1 jk_4 (br_f (by omega) ?_))
    refine x_aloadn (x := 47) rfl rfl ?_
    refine z_getR (N := 4) (b := 48) 8 2 rfl f_8_25 rfl J rfl 6018 ⟨rfl, rfl⟩ rfl ?_
    refine x_iloadn (x := a1) rfl rfl ?_
    refine x_aloadn (x := 47) rfl rfl ?_
    refine z_getC (N := 4) (v := 4) 8 0 rfl f_8_19 rfl J rfl sg_47_0_1_1_0_1 jk_4 ?_
    refine z_imul rfl rfl jk_4 (by omega) (fun v3 ev3 => ?_)
    refine x_iloadn (x := 1) rfl rfl ?_
    refine z_iadd rfl rfl jk_1 (by omega) (fun v4 ev4 => ?_)
    refine x_iloadn (x := a3) rfl rfl ?_
    refine z_iast (N := 400) (l := 0) (u := 400) (w := a3.toInt) rfl hD J Sm rfl rfl rfl (by omega) rfl (wr_48 (fun q1 q2 q3 q4 => by omega) (fun q1 q2 q3 q4 => by omega) (fun q1 q2 q3 q4 => by omega) (fun q1 q2 q3 q4 => by omega)) rfl (fun h w5 J Sm => ?_)
    exact jX.sub jsb_n (ct_X8_put_r47_c1_38 hD hQ  h J Sm)
def fp_X8_put_r47_c2 : jFp := [(48, 0, 400)]
set_option maxRecDepth 100000 in
set_option maxHeartbeats 4000000 in
theorem ct_X8_put_r47_c2_38 {Dy : jH → Prop} {h0 : jH} {Q : Option Value → jH → Prop} (hD : jDk Dy) (hQ : ∀ h', jJ jSgX Dy h' → jSm fp_X8_put_r47_c2 h0 h' → Q none h') : ∀ (h : jH), jJ jSgX Dy h → jSm fp_X8_put_r47_c2 h0 h → jX m_X8_put 1 0 0 38 [] [] h 0 0 Q := by
  intro  h    J Sm
  refine x_vret rfl rfl ?_
  exact hQ _ J Sm
set_option maxRecDepth 100000 in
set_option maxHeartbeats 4000000 in
theorem sf_X8_put_r47_c2 {Dy : jH → Prop} {h : jH} {Q : Option Value → jH → Prop} {a1 : Int32} {a3 : Int32} (y1 : 0 ≤ a1.toInt ∧ a1.toInt ≤ 99) (y3 : 0 ≤ a3.toInt ∧ a3.toInt ≤ 39) (hD : jDk Dy) (J : jJ jSgX Dy h) (hQ : ∀ h', jJ jSgX Dy h' → jSm fp_X8_put_r47_c2 h h' → Q none h') : jC m_X8_put 1 0 0 [.ref 47, .int a1, .int 2, .int a3] h Q := by
  refine jC.of rfl k_X8_put rfl ?_
  have Sm := jSm_rf fp_X8_put_r47_c2 h
  show jX m_X8_put 1 0 0 0 [(0, .ref 47), (1, .int a1), (2, .int 2), (3, .int a3)] [] _ 0 0 _
  refine x_iloadn (x := a1) rfl rfl ?_
  refine x_iflt (tgt := 38) rfl rfl (ti_lt rfl jk_0 (br_f (by omega) ?_))
  refine x_iloadn (x := a1) rfl rfl ?_
  refine x_aloadn (x := 47) rfl rfl ?_
  refine z_getI (N := 4) 8 3 rfl f_8_7 rfl J rfl sg_47_3_4_1_0_1 (fun v1 qv1 ev1 => ?_)
  refine x_icge (tgt := 38) rfl rfl (ti_ge rfl rfl ⟨fun c2 => ?_, fun c2 => ?_⟩)
  ·
    exact jX.sub jsb_n (ct_X8_put_r47_c2_38 hD hQ  h J Sm)
  ·
    refine x_iloadn (x := 2) rfl rfl ?_
    refine x_iflt (tgt := 38) rfl rfl (ti_lt jk_2 jk_0 (br_f (by omega) ?_))
    refine x_iloadn (x := 2) rfl rfl ?_
    refine x_aloadn (x := 47) rfl rfl ?_
    refine z_getC (N := 4) (v := 4) 8 0 rfl f_8_19 rfl J rfl sg_47_0_1_1_0_1 jk_4 ?_
    refine x_icge (tgt := 38) rfl rfl (ti_ge jk_2 jk_4 (br_f (by omega) ?_))
    refine x_aloadn (x := 47) rfl rfl ?_
    refine z_getR (N := 4) (b := 48) 8 2 rfl f_8_25 rfl J rfl 6018 ⟨rfl, rfl⟩ rfl ?_
    refine x_iloadn (x := a1) rfl rfl ?_
    refine x_aloadn (x := 47) rfl rfl ?_
    refine z_getC (N := 4) (v := 4) 8 0 rfl f_8_19 rfl J rfl sg_47_0_1_1_0_1 jk_4 ?_
    refine z_imul rfl rfl jk_4 (by omega) (fun v3 ev3 => ?_)
    refine x_iloadn (x := 2) rfl rfl ?_
    refine z_iadd rfl rfl jk_2 (by omega) (fun v4 ev4 => ?_)
    refine x_iloadn (x := a3) rfl rfl ?_
    refine z_iast (N := 400) (l := 0) (u := 400) (w := a3.toInt) rfl hD J Sm rfl rfl rfl (by omega) rfl (wr_48 (fun q1 q2 q3 q4 => by omega) (fun q1 q2 q3 q4 => by omega) (fun q1 q2 q3 q4 => by omega) (fun q1 q2 q3 q4 => by omega)) rfl (fun h w5 J Sm => ?_)
    exact jX.sub jsb_n (ct_X8_put_r47_c2_38 hD hQ  h J Sm)
def fp_X8_put_r47_c3 : jFp := [(48, 0, 400)]
set_option maxRecDepth 100000 in
set_option maxHeartbeats 4000000 in
theorem ct_X8_put_r47_c3_38 {Dy : jH → Prop} {h0 : jH} {Q : Option Value → jH → Prop} (hD : jDk Dy) (hQ : ∀ h', jJ jSgX Dy h' → jSm fp_X8_put_r47_c3 h0 h' → Q none h') : ∀ (h : jH), jJ jSgX Dy h → jSm fp_X8_put_r47_c3 h0 h → jX m_X8_put 1 0 0 38 [] [] h 0 0 Q := by
  intro  h    J Sm
  refine x_vret rfl rfl ?_
  exact hQ _ J Sm
set_option maxRecDepth 100000 in
set_option maxHeartbeats 4000000 in
theorem sf_X8_put_r47_c3 {Dy : jH → Prop} {h : jH} {Q : Option Value → jH → Prop} {a1 : Int32} {a3 : Int32} (y1 : 0 ≤ a1.toInt ∧ a1.toInt ≤ 99) (y3 : 0 ≤ a3.toInt ∧ a3.toInt ≤ 10000) (hD : jDk Dy) (J : jJ jSgX Dy h) (hQ : ∀ h', jJ jSgX Dy h' → jSm fp_X8_put_r47_c3 h h' → Q none h') : jC m_X8_put 1 0 0 [.ref 47, .int a1, .int 3, .int a3] h Q := by
  refine jC.of rfl k_X8_put rfl ?_
  have Sm := jSm_rf fp_X8_put_r47_c3 h
  show jX m_X8_put 1 0 0 0 [(0, .ref 47), (1, .int a1), (2, .int 3), (3, .int a3)] [] _ 0 0 _
  refine x_iloadn (x := a1) rfl rfl ?_
  refine x_iflt (tgt := 38) rfl rfl (ti_lt rfl jk_0 (br_f (by omega) ?_))
  refine x_iloadn (x := a1) rfl rfl ?_
  refine x_aloadn (x := 47) rfl rfl ?_
  refine z_getI (N := 4) 8 3 rfl f_8_7 rfl J rfl sg_47_3_4_1_0_1 (fun v1 qv1 ev1 => ?_)
  refine x_icge (tgt := 38) rfl rfl (ti_ge rfl rfl ⟨fun c2 => ?_, fun c2 => ?_⟩)
  ·
    exact jX.sub jsb_n (ct_X8_put_r47_c3_38 hD hQ  h J Sm)
  ·
    refine x_iloadn (x := 3) rfl rfl ?_
    refine x_iflt (tgt := 38) rfl rfl (ti_lt jk_3 jk_0 (br_f (by omega) ?_))
    refine x_iloadn (x := 3) rfl rfl ?_
    refine x_aloadn (x := 47) rfl rfl ?_
    refine z_getC (N := 4) (v := 4) 8 0 rfl f_8_19 rfl J rfl sg_47_0_1_1_0_1 jk_4 ?_
    refine x_icge (tgt := 38) rfl rfl (ti_ge jk_3 jk_4 (br_f (by omega) ?_))
    refine x_aloadn (x := 47) rfl rfl ?_
    refine z_getR (N := 4) (b := 48) 8 2 rfl f_8_25 rfl J rfl 6018 ⟨rfl, rfl⟩ rfl ?_
    refine x_iloadn (x := a1) rfl rfl ?_
    refine x_aloadn (x := 47) rfl rfl ?_
    refine z_getC (N := 4) (v := 4) 8 0 rfl f_8_19 rfl J rfl sg_47_0_1_1_0_1 jk_4 ?_
    refine z_imul rfl rfl jk_4 (by omega) (fun v3 ev3 => ?_)
    refine x_iloadn (x := 3) rfl rfl ?_
    refine z_iadd rfl rfl jk_3 (by omega) (fun v4 ev4 => ?_)
    refine x_iloadn (x := a3) rfl rfl ?_
    refine z_iast (N := 400) (l := 0) (u := 400) (w := a3.toInt) rfl hD J Sm rfl rfl rfl (by omega) rfl (wr_48 (fun q1 q2 q3 q4 => by omega) (fun q1 q2 q3 q4 => by omega) (fun q1 q2 q3 q4 => by omega) (fun q1 q2 q3 q4 => by omega)) rfl (fun h w5 J Sm => ?_)
    exact jX.sub jsb_n (ct_X8_put_r47_c3_38 hD hQ  h J Sm)
def fp_X8_put_r47_c4 : jFp := []
set_option maxRecDepth 100000 in
set_option maxHeartbeats 4000000 in
theorem ct_X8_put_r47_c4_38 {Dy : jH → Prop} {h0 : jH} {Q : Option Value → jH → Prop} (hD : jDk Dy) (hQ : ∀ h', jJ jSgX Dy h' → jSm fp_X8_put_r47_c4 h0 h' → Q none h') : ∀ (h : jH), jJ jSgX Dy h → jSm fp_X8_put_r47_c4 h0 h → jX m_X8_put 1 0 0 38 [] [] h 0 0 Q := by
  intro  h    J Sm
  refine x_vret rfl rfl ?_
  exact hQ _ J Sm
set_option maxRecDepth 100000 in
set_option maxHeartbeats 4000000 in
theorem sf_X8_put_r47_c4 {Dy : jH → Prop} {h : jH} {Q : Option Value → jH → Prop} {a1 : Int32} {a3 : Int32} (y1 : 0 ≤ a1.toInt ∧ a1.toInt ≤ 99) (y3 : 0 ≤ a3.toInt ∧ a3.toInt ≤ 0) (hD : jDk Dy) (J : jJ jSgX Dy h) (hQ : ∀ h', jJ jSgX Dy h' → jSm fp_X8_put_r47_c4 h h' → Q none h') : jC m_X8_put 1 0 0 [.ref 47, .int a1, .int 4, .int a3] h Q := by
  refine jC.of rfl k_X8_put rfl ?_
  have Sm := jSm_rf fp_X8_put_r47_c4 h
  show jX m_X8_put 1 0 0 0 [(0, .ref 47), (1, .int a1), (2, .int 4), (3, .int a3)] [] _ 0 0 _
  refine x_iloadn (x := a1) rfl rfl ?_
  refine x_iflt (tgt := 38) rfl rfl (ti_lt rfl jk_0 (br_f (by omega) ?_))
  refine x_iloadn (x := a1) rfl rfl ?_
  refine x_aloadn (x := 47) rfl rfl ?_
  refine z_getI (N := 4) 8 3 rfl f_8_7 rfl J rfl sg_47_3_4_1_0_1 (fun v1 qv1 ev1 => ?_)
  refine x_icge (tgt := 38) rfl rfl (ti_ge rfl rfl ⟨fun c2 => ?_, fun c2 => ?_⟩)
  ·
    exact jX.sub jsb_n (ct_X8_put_r47_c4_38 hD hQ  h J Sm)
  ·
    refine x_iloadn (x := 4) rfl rfl ?_
    refine x_iflt (tgt := 38) rfl rfl (ti_lt jk_4 jk_0 (br_f (by omega) ?_))
    refine x_iloadn (x := 4) rfl rfl ?_
    refine x_aloadn (x := 47) rfl rfl ?_
    refine z_getC (N := 4) (v := 4) 8 0 rfl f_8_19 rfl J rfl sg_47_0_1_1_0_1 jk_4 ?_
    refine x_icge (tgt := 38) rfl rfl (ti_ge jk_4 jk_4 (br_t (by omega) ?_))
    exact jX.sub jsb_n (ct_X8_put_r47_c4_38 hD hQ  h J Sm)
def fp_X8_put_r47_c5 : jFp := []
set_option maxRecDepth 100000 in
set_option maxHeartbeats 4000000 in
theorem ct_X8_put_r47_c5_38 {Dy : jH → Prop} {h0 : jH} {Q : Option Value → jH → Prop} (hD : jDk Dy) (hQ : ∀ h', jJ jSgX Dy h' → jSm fp_X8_put_r47_c5 h0 h' → Q none h') : ∀ (h : jH), jJ jSgX Dy h → jSm fp_X8_put_r47_c5 h0 h → jX m_X8_put 1 0 0 38 [] [] h 0 0 Q := by
  intro  h    J Sm
  refine x_vret rfl rfl ?_
  exact hQ _ J Sm
set_option maxRecDepth 100000 in
set_option maxHeartbeats 4000000 in
theorem sf_X8_put_r47_c5 {Dy : jH → Prop} {h : jH} {Q : Option Value → jH → Prop} {a1 : Int32} {a3 : Int32} (y1 : 0 ≤ a1.toInt ∧ a1.toInt ≤ 99) (y3 : 0 ≤ a3.toInt ∧ a3.toInt ≤ 0) (hD : jDk Dy) (J : jJ jSgX Dy h) (hQ : ∀ h', jJ jSgX Dy h' → jSm fp_X8_put_r47_c5 h h' → Q none h') : jC m_X8_put 1 0 0 [.ref 47, .int a1, .int 5, .int a3] h Q := by
  refine jC.of rfl k_X8_put rfl ?_
  have Sm := jSm_rf fp_X8_put_r47_c5 h
  show jX m_X8_put 1 0 0 0 [(0, .ref 47), (1, .int a1), (2, .int 5), (3, .int a3)] [] _ 0 0 _
  refine x_iloadn (x := a1) rfl rfl ?_
  refine x_iflt (tgt := 38) rfl rfl (ti_lt rfl jk_0 (br_f (by omega) ?_))
  refine x_iloadn (x := a1) rfl rfl ?_
  refine x_aloadn (x := 47) rfl rfl ?_
  refine z_getI (N := 4) 8 3 rfl f_8_7 rfl J rfl sg_47_3_4_1_0_1 (fun v1 qv1 ev1 => ?_)
  refine x_icge (tgt := 38) rfl rfl (ti_ge rfl rfl ⟨fun c2 => ?_, fun c2 => ?_⟩)
  ·
    exact jX.sub jsb_n (ct_X8_put_r47_c5_38 hD hQ  h J Sm)
  ·
    refine x_iloadn (x := 5) rfl rfl ?_
    refine x_iflt (tgt := 38) rfl rfl (ti_lt jk_5 jk_0 (br_f (by omega) ?_))
    refine x_iloadn (x := 5) rfl rfl ?_
    refine x_aloadn (x := 47) rfl rfl ?_
    refine z_getC (N := 4) (v := 4) 8 0 rfl f_8_19 rfl J rfl sg_47_0_1_1_0_1 jk_4 ?_
    refine x_icge (tgt := 38) rfl rfl (ti_ge jk_5 jk_4 (br_t (by omega) ?_))
    exact jX.sub jsb_n (ct_X8_put_r47_c5_38 hD hQ  h J Sm)
def fp_X8_add_r47 : jFp := [(47, 3, 4), (48, 0, 400)]
set_option maxRecDepth 100000 in
set_option maxHeartbeats 4000000 in
theorem sf_X8_add_r47 {Dy : jH → Prop} {h : jH} {Q : Option Value → jH → Prop} {a1 : Int32} {a2 : Int32} {a3 : Int32} {a4 : Int32} {a5 : Int32} {a6 : Int32} (y1 : 0 ≤ a1.toInt ∧ a1.toInt ≤ 146399) (y2 : 0 ≤ a2.toInt ∧ a2.toInt ≤ 146399) (y3 : 0 ≤ a3.toInt ∧ a3.toInt ≤ 39) (y4 : 0 ≤ a4.toInt ∧ a4.toInt ≤ 10000) (y5 : 0 ≤ a5.toInt ∧ a5.toInt ≤ 0) (y6 : 0 ≤ a6.toInt ∧ a6.toInt ≤ 0) (hD : jDk Dy) (J : jJ jSgX Dy h) (hQ : ∀ h', jJ jSgX Dy h' → jSm fp_X8_add_r47 h h' → Q none h') : jC m_X8_add 2 0 0 [.ref 47, .int a1, .int a2, .int a3, .int a4, .int a5, .int a6] h Q := by
  refine jC.of rfl k_X8_add rfl ?_
  have Sm := jSm_rf fp_X8_add_r47 h
  show jX m_X8_add 2 0 0 0 [(0, .ref 47), (1, .int a1), (2, .int a2), (3, .int a3), (4, .int a4), (5, .int a5), (6, .int a6)] [] _ 0 0 _
  refine x_aloadn (x := 47) rfl rfl ?_
  refine z_getI (N := 4) 8 3 rfl f_8_7 rfl J rfl sg_47_3_4_1_0_1 (fun v1 qv1 ev1 => ?_)
  refine x_aloadn (x := 47) rfl rfl ?_
  refine z_getC (N := 4) (v := 100) 8 1 rfl f_8_22 rfl J rfl sg_47_1_2_1_0_1 jk_100 ?_
  refine x_iclt (tgt := 12) rfl rfl (ti_lt rfl jk_100 ⟨fun c2 => ?_, fun c2 => ?_⟩)
  ·
    refine x_aloadn (x := 47) rfl rfl ?_
    refine z_getM (N := 4) (v := v1) 8 3 rfl f_8_7 rfl J rfl qv1 ?_
    refine x_istore (ls' := [(7, .int v1), (0, .ref 47), (1, .int a1), (2, .int a2), (3, .int a3), (4, .int a4), (5, .int a5), (6, .int a6)]) rfl rfl rfl ?_
    refine x_aloadn (x := 47) rfl rfl ?_
    refine x_iload (x := v1) rfl rfl ?_
    refine x_iconst (v := 1) rfl ki_1 ?_
    refine z_iadd rfl rfl jk_1 (by omega) (fun v3 ev3 => ?_)
    refine z_putI (N := 4) (w := v3.toInt) 8 3 rfl f_8_7 rfl (jfin_no TX8 RX8 4 rfl rfl) hD J Sm rfl rfl rfl (pw_47_3 (by omega)) rfl (fun h w4 J Sm => ?_)
    refine x_aloadn (x := 47) rfl rfl ?_
    refine x_iload (x := v1) rfl rfl ?_
    refine x_iconst (v := 0) rfl ki_0 ?_
    refine x_iloadn (x := a1) rfl rfl ?_
    refine x_inv (N := m_X8_put) (As := [.int v1, .int 0, .int a1]) (b := 47) (st := []) (d' := 1) (mc := 0) (ms := 0) (host := "") 8 rfl t_X8_put ⟨Or.inl q_8_29, i_X8_put.1, i_X8_put.2⟩ ⟨by decide, rfl⟩ (congrArg Prod.fst (J.1.1 47 (8, 4) rfl)) rfl (by decide) rfl rfl ⟨by decide, by decide⟩ (sf_X8_put_r47_c0 (jr_of rfl (by omega)) (jr_of rfl (by omega)) hD J  (fun h J S5 => ?_))
    have Sm := jSm_tr rfl Sm S5
    show jX m_X8_add 2 0 0 34 [(7, .int v1), (0, .ref 47), (1, .int a1), (2, .int a2), (3, .int a3), (4, .int a4), (5, .int a5), (6, .int a6)] [] _ 0 0 _
    refine x_aloadn (x := 47) rfl rfl ?_
    refine x_iload (x := v1) rfl rfl ?_
    refine x_iconst (v := 1) rfl ki_1 ?_
    refine x_iloadn (x := a2) rfl rfl ?_
    refine x_inv (N := m_X8_put) (As := [.int v1, .int 1, .int a2]) (b := 47) (st := []) (d' := 1) (mc := 0) (ms := 0) (host := "") 8 rfl t_X8_put ⟨Or.inl q_8_29, i_X8_put.1, i_X8_put.2⟩ ⟨by decide, rfl⟩ (congrArg Prod.fst (J.1.1 47 (8, 4) rfl)) rfl (by decide) rfl rfl ⟨by decide, by decide⟩ (sf_X8_put_r47_c1 (jr_of rfl (by omega)) (jr_of rfl (by omega)) hD J  (fun h J S6 => ?_))
    have Sm := jSm_tr rfl Sm S6
    show jX m_X8_add 2 0 0 42 [(7, .int v1), (0, .ref 47), (1, .int a1), (2, .int a2), (3, .int a3), (4, .int a4), (5, .int a5), (6, .int a6)] [] _ 0 0 _
    refine x_aloadn (x := 47) rfl rfl ?_
    refine x_iload (x := v1) rfl rfl ?_
    refine x_iconst (v := 2) rfl ki_2 ?_
    refine x_iloadn (x := a3) rfl rfl ?_
    refine x_inv (N := m_X8_put) (As := [.int v1, .int 2, .int a3]) (b := 47) (st := []) (d' := 1) (mc := 0) (ms := 0) (host := "") 8 rfl t_X8_put ⟨Or.inl q_8_29, i_X8_put.1, i_X8_put.2⟩ ⟨by decide, rfl⟩ (congrArg Prod.fst (J.1.1 47 (8, 4) rfl)) rfl (by decide) rfl rfl ⟨by decide, by decide⟩ (sf_X8_put_r47_c2 (jr_of rfl (by omega)) (jr_of rfl (by omega)) hD J  (fun h J S7 => ?_))
    have Sm := jSm_tr rfl Sm S7
    show jX m_X8_add 2 0 0 50 [(7, .int v1), (0, .ref 47), (1, .int a1), (2, .int a2), (3, .int a3), (4, .int a4), (5, .int a5), (6, .int a6)] [] _ 0 0 _
    refine x_aloadn (x := 47) rfl rfl ?_
    refine x_iload (x := v1) rfl rfl ?_
    refine x_iconst (v := 3) rfl ki_3 ?_
    refine x_iload (x := a4) rfl rfl ?_
    refine x_inv (N := m_X8_put) (As := [.int v1, .int 3, .int a4]) (b := 47) (st := []) (d' := 1) (mc := 0) (ms := 0) (host := "") 8 rfl t_X8_put ⟨Or.inl q_8_29, i_X8_put.1, i_X8_put.2⟩ ⟨by decide, rfl⟩ (congrArg Prod.fst (J.1.1 47 (8, 4) rfl)) rfl (by decide) rfl rfl ⟨by decide, by decide⟩ (sf_X8_put_r47_c3 (jr_of rfl (by omega)) (jr_of rfl (by omega)) hD J  (fun h J S8 => ?_))
    have Sm := jSm_tr rfl Sm S8
    show jX m_X8_add 2 0 0 59 [(7, .int v1), (0, .ref 47), (1, .int a1), (2, .int a2), (3, .int a3), (4, .int a4), (5, .int a5), (6, .int a6)] [] _ 0 0 _
    refine x_aloadn (x := 47) rfl rfl ?_
    refine x_iload (x := v1) rfl rfl ?_
    refine x_iconst (v := 4) rfl ki_4 ?_
    refine x_iload (x := a5) rfl rfl ?_
    refine x_inv (N := m_X8_put) (As := [.int v1, .int 4, .int a5]) (b := 47) (st := []) (d' := 1) (mc := 0) (ms := 0) (host := "") 8 rfl t_X8_put ⟨Or.inl q_8_29, i_X8_put.1, i_X8_put.2⟩ ⟨by decide, rfl⟩ (congrArg Prod.fst (J.1.1 47 (8, 4) rfl)) rfl (by decide) rfl rfl ⟨by decide, by decide⟩ (sf_X8_put_r47_c4 (jr_of rfl (by omega)) (jr_of rfl (by omega)) hD J  (fun h J S9 => ?_))
    have Sm := jSm_tr rfl Sm S9
    show jX m_X8_add 2 0 0 68 [(7, .int v1), (0, .ref 47), (1, .int a1), (2, .int a2), (3, .int a3), (4, .int a4), (5, .int a5), (6, .int a6)] [] _ 0 0 _
    refine x_aloadn (x := 47) rfl rfl ?_
    refine x_iload (x := v1) rfl rfl ?_
    refine x_iconst (v := 5) rfl ki_5 ?_
    refine x_iload (x := a6) rfl rfl ?_
    refine x_inv (N := m_X8_put) (As := [.int v1, .int 5, .int a6]) (b := 47) (st := []) (d' := 1) (mc := 0) (ms := 0) (host := "") 8 rfl t_X8_put ⟨Or.inl q_8_29, i_X8_put.1, i_X8_put.2⟩ ⟨by decide, rfl⟩ (congrArg Prod.fst (J.1.1 47 (8, 4) rfl)) rfl (by decide) rfl rfl ⟨by decide, by decide⟩ (sf_X8_put_r47_c5 (jr_of rfl (by omega)) (jr_of rfl (by omega)) hD J  (fun h J S10 => ?_))
    have Sm := jSm_tr rfl Sm S10
    show jX m_X8_add 2 0 0 77 [(7, .int v1), (0, .ref 47), (1, .int a1), (2, .int a2), (3, .int a3), (4, .int a4), (5, .int a5), (6, .int a6)] [] _ 0 0 _
    refine x_vret rfl rfl ?_
    exact hQ _ J Sm
  ·
    refine x_vret rfl rfl ?_
    exact hQ _ J Sm
def fp_X8_isFull_r47 : jFp := []
set_option maxRecDepth 100000 in
set_option maxHeartbeats 4000000 in
theorem ct_X8_isFull_r47_200016 {Dy : jH → Prop} {h0 : jH} {Q : Option Value → jH → Prop} (hD : jDk Dy) (hQ : ∀ (v : Int32) h', 0 ≤ v.toInt ∧ v.toInt ≤ 1 → jJ jSgX Dy h' → jSm fp_X8_isFull_r47 h0 h' → Q (some (.int v)) h') : ∀ (h : jH), jJ jSgX Dy h → jSm fp_X8_isFull_r47 h0 h → jX m_X8_isFull 1 0 0 16 [] [.int 0] h 0 0 Q := by
  intro  h    J Sm
  refine x_zret rfl rfl (by decide) ?_
  exact hQ _ _ (jr_of jk_0 (by omega)) J Sm
set_option maxRecDepth 100000 in
set_option maxHeartbeats 4000000 in
theorem ct_X8_isFull_r47_300016 {Dy : jH → Prop} {h0 : jH} {Q : Option Value → jH → Prop} (hD : jDk Dy) (hQ : ∀ (v : Int32) h', 0 ≤ v.toInt ∧ v.toInt ≤ 1 → jJ jSgX Dy h' → jSm fp_X8_isFull_r47 h0 h' → Q (some (.int v)) h') : ∀ (h : jH), jJ jSgX Dy h → jSm fp_X8_isFull_r47 h0 h → jX m_X8_isFull 1 0 0 16 [] [.int 1] h 0 0 Q := by
  intro  h    J Sm
  refine x_zret rfl rfl (by decide) ?_
  exact hQ _ _ (jr_of jk_1 (by omega)) J Sm
set_option maxRecDepth 100000 in
set_option maxHeartbeats 4000000 in
theorem sf_X8_isFull_r47 {Dy : jH → Prop} {h : jH} {Q : Option Value → jH → Prop} (hD : jDk Dy) (J : jJ jSgX Dy h) (hQ : ∀ (v : Int32) h', 0 ≤ v.toInt ∧ v.toInt ≤ 1 → jJ jSgX Dy h' → jSm fp_X8_isFull_r47 h h' → Q (some (.int v)) h') : jC m_X8_isFull 1 0 0 [.ref 47] h Q := by
  refine jC.of rfl k_X8_isFull rfl ?_
  have Sm := jSm_rf fp_X8_isFull_r47 h
  show jX m_X8_isFull 1 0 0 0 [(0, .ref 47)] [] _ 0 0 _
  refine x_aloadn (x := 47) rfl rfl ?_
  refine z_getI (N := 4) 8 3 rfl f_8_7 rfl J rfl sg_47_3_4_1_0_1 (fun v1 qv1 ev1 => ?_)
  refine x_aloadn (x := 47) rfl rfl ?_
  refine z_getC (N := 4) (v := 100) 8 1 rfl f_8_22 rfl J rfl sg_47_1_2_1_0_1 jk_100 ?_
  refine x_iclt (tgt := 15) rfl rfl (ti_lt rfl jk_100 ⟨fun c2 => ?_, fun c2 => ?_⟩)
  ·
    refine x_iconst (v := 0) rfl ki_0 ?_
    exact jX.sub jsb_n (ct_X8_isFull_r47_200016 hD hQ  h J Sm)
  ·
    refine x_iconst (v := 1) rfl ki_1 ?_
    refine x_goto (tgt := 16) rfl rfl ?_
    exact jX.sub jsb_n (ct_X8_isFull_r47_300016 hD hQ  h J Sm)
def fp_X11_value_r31 : jFp := [(31, 12, 13), (32, 19, 20), (47, 3, 4), (48, 0, 400)]
set_option maxRecDepth 100000 in
set_option maxHeartbeats 4000000 in
theorem ct_X11_value_r31_26 {Dy : jH → Prop} {h0 : jH} {Q : Option Value → jH → Prop} (hD : jDk Dy) (hQ : ∀ (v : Int32) h', (-366) ≤ v.toInt ∧ v.toInt ≤ 100 → jJ jSgX Dy h' → jSm fp_X11_value_r31 h0 h' → Q (some (.int v)) h') : ∀ (h : jH), jJ jSgX Dy h → jSm fp_X11_value_r31 h0 h → jX m_X11_value 3 0 0 26 [(0, .ref 31)] [] h 0 0 Q := by
  intro  h    J Sm
  refine x_aloadn (x := 31) rfl rfl ?_
  refine x_iconst (v := (-1)) rfl ki_m1 ?_
  refine x_inv (N := m_X11_refuse) (As := [.int (-1)]) (b := 31) (st := []) (d' := 2) (mc := 0) (ms := 0) (host := "") 11 rfl t_X11_refuse ⟨Or.inl q_11_206, i_X11_refuse.1, i_X11_refuse.2⟩ ⟨by decide, rfl⟩ (congrArg Prod.fst (J.1.1 31 (11, 13) rfl)) rfl (by decide) rfl rfl ⟨by decide, by decide⟩ (jC.of rfl k_X11_refuse rfl ?_)
  show jX m_X11_refuse 2 0 0 0 [(0, .ref 31), (1, .int (-1))] [] _ 0 0 _
  refine x_aloadn (x := 31) rfl rfl ?_
  refine x_iloadn (x := (-1)) rfl rfl ?_
  refine z_putI (N := 13) (w := (-1)) 11 12 rfl f_11_94 rfl (jfin_no TX11 RX11 13 rfl rfl) hD J Sm rfl rfl jk_m1 (pw_31_12 (by omega)) rfl (fun h w1 J Sm => ?_)
  refine x_iloadn (x := (-1)) rfl rfl ?_
  refine x_iret rfl rfl ?_
  show jX m_X11_value 3 0 0 31 [(0, .ref 31)] [.int (-1)] _ 0 0 _
  refine x_iret rfl rfl ?_
  exact hQ _ _ (jr_of jk_m1 (by omega)) J Sm
set_option maxRecDepth 100000 in
set_option maxHeartbeats 4000000 in
theorem sf_X11_value_r31 {Dy : jH → Prop} {h : jH} {Q : Option Value → jH → Prop} {a1 : Int32} {a2 : Int32} {a3 : Int32} {a4 : Int32} (hD : jDk Dy) (J : jJ jSgX Dy h) (hQ : ∀ (v : Int32) h', (-366) ≤ v.toInt ∧ v.toInt ≤ 100 → jJ jSgX Dy h' → jSm fp_X11_value_r31 h h' → Q (some (.int v)) h') : jC m_X11_value 3 0 0 [.ref 31, .int a1, .int a2, .int a3, .int a4] h Q := by
  refine jC.of rfl k_X11_value rfl ?_
  have Sm := jSm_rf fp_X11_value_r31 h
  have ea1 := jfull a1
  have ea2 := jfull a2
  have ea3 := jfull a3
  have ea4 := jfull a4
  show jX m_X11_value 3 0 0 0 [(0, .ref 31), (1, .int a1), (2, .int a2), (3, .int a3), (4, .int a4)] [] _ 0 0 _
  refine x_iloadn (x := a2) rfl rfl ?_
  refine x_iflt (tgt := 26) rfl rfl (ti_lt rfl jk_0 ⟨fun c1 => ?_, fun c1 => ?_⟩)
  ·
    exact jX.sub (jsb_c rfl jsb_n) (ct_X11_value_r31_26 hD hQ  h J Sm)
  ·
    refine x_iloadn (x := a2) rfl rfl ?_
    refine x_sipush (v := 10000) rfl ks_10000 ?_
    refine x_icgt (tgt := 26) rfl rfl (ti_gt rfl jk_10000 ⟨fun c2 => ?_, fun c2 => ?_⟩)
    ·
      exact jX.sub (jsb_c rfl jsb_n) (ct_X11_value_r31_26 hD hQ  h J Sm)
    ·
      refine x_iloadn (x := a3) rfl rfl ?_
      refine x_inst (N := m_X11_isDay) (As := [.int a3]) (st := []) (d' := 1) (mc := 0) (ms := 0) (host := "") rfl t_X11_isDay ⟨Or.inl q_11_115, s_X11_isDay⟩ rfl (by decide) rfl rfl ⟨by decide, by decide⟩ (zc_X11_isDay rfl (fun v3 ev3 => ?_))
      show jX m_X11_value 3 0 0 15 [(0, .ref 31), (1, .int a1), (2, .int a2), (3, .int a3), (4, .int a4)] [.int v3] _ 0 0 _
      refine x_ifeq (tgt := 26) rfl rfl (ti_eq rfl jk_0 ⟨fun c4 => ?_, fun c4 => ?_⟩)
      ·
        exact jX.sub (jsb_c rfl jsb_n) (ct_X11_value_r31_26 hD hQ  h J Sm)
      ·
        refine x_iload (x := a4) rfl rfl ?_
        refine x_inst (N := m_X11_isDay) (As := [.int a4]) (st := []) (d' := 1) (mc := 0) (ms := 0) (host := "") rfl t_X11_isDay ⟨Or.inl q_11_115, s_X11_isDay⟩ rfl (by decide) rfl rfl ⟨by decide, by decide⟩ (zc_X11_isDay rfl (fun v5 ev5 => ?_))
        show jX m_X11_value 3 0 0 23 [(0, .ref 31), (1, .int a1), (2, .int a2), (3, .int a3), (4, .int a4)] [.int v5] _ 0 0 _
        refine x_ifne (tgt := 32) rfl rfl (ti_ne rfl jk_0 ⟨fun c6 => ?_, fun c6 => ?_⟩)
        ·
          refine x_aloadn (x := 31) rfl rfl ?_
          refine x_iloadn (x := a1) rfl rfl ?_
          refine x_inv (N := m_X11_isHolding) (As := [.int a1]) (b := 31) (st := []) (d' := 2) (mc := 0) (ms := 0) (host := "") 11 rfl t_X11_isHolding ⟨Or.inl q_11_415, i_X11_isHolding.1, i_X11_isHolding.2⟩ ⟨by decide, rfl⟩ (congrArg Prod.fst (J.1.1 31 (11, 13) rfl)) rfl (by decide) rfl rfl ⟨by decide, by decide⟩ (jC.of rfl k_X11_isHolding rfl ?_)
          show jX m_X11_isHolding 2 0 0 0 [(0, .ref 31), (1, .int a1)] [] _ 0 0 _
          refine x_iloadn (x := a1) rfl rfl ?_
          refine x_iflt (tgt := 28) rfl rfl (ti_lt rfl jk_0 ⟨fun c7 => ?_, fun c7 => ?_⟩)
          ·
            refine x_iconst (v := 0) rfl ki_0 ?_
            refine x_zret rfl rfl (by decide) ?_
            show jX m_X11_value 3 0 0 37 [(0, .ref 31), (1, .int a1), (2, .int a2), (3, .int a3), (4, .int a4)] [.int 0] _ 0 0 _
            refine x_ifne (tgt := 47) rfl rfl (ti_ne jk_0 jk_0 (bn_f (by omega) ?_))
            refine x_aloadn (x := 31) rfl rfl ?_
            refine x_bipush (v := (-2)) rfl kb_m2 ?_
            refine x_inv (N := m_X11_refuse) (As := [.int (-2)]) (b := 31) (st := []) (d' := 2) (mc := 0) (ms := 0) (host := "") 11 rfl t_X11_refuse ⟨Or.inl q_11_206, i_X11_refuse.1, i_X11_refuse.2⟩ ⟨by decide, rfl⟩ (congrArg Prod.fst (J.1.1 31 (11, 13) rfl)) rfl (by decide) rfl rfl ⟨by decide, by decide⟩ (jC.of rfl k_X11_refuse rfl ?_)
            show jX m_X11_refuse 2 0 0 0 [(0, .ref 31), (1, .int (-2))] [] _ 0 0 _
            refine x_aloadn (x := 31) rfl rfl ?_
            refine x_iloadn (x := (-2)) rfl rfl ?_
            refine z_putI (N := 13) (w := (-2)) 11 12 rfl f_11_94 rfl (jfin_no TX11 RX11 13 rfl rfl) hD J Sm rfl rfl jk_m2 (pw_31_12 (by omega)) rfl (fun h w8 J Sm => ?_)
            refine x_iloadn (x := (-2)) rfl rfl ?_
            refine x_iret rfl rfl ?_
            show jX m_X11_value 3 0 0 46 [(0, .ref 31), (1, .int a1), (2, .int a2), (3, .int a3), (4, .int a4)] [.int (-2)] _ 0 0 _
            refine x_iret rfl rfl ?_
            exact hQ _ _ (jr_of jk_m2 (by omega)) J Sm
          ·
            refine x_iloadn (x := a1) rfl rfl ?_
            refine x_aloadn (x := 31) rfl rfl ?_
            refine z_getR (N := 13) (b := 32) 11 0 rfl f_11_10 rfl J rfl 3968 ⟨rfl, rfl⟩ rfl ?_
            refine z_getR (N := 20) (b := 49) 1 8 rfl f_11_408 rfl J rfl 4104 ⟨rfl, rfl⟩ rfl ?_
            refine z_getI (N := 4) 8 3 rfl f_11_142 rfl J rfl sg_49_3_4_1_0_1 (fun v9 qv9 ev9 => ?_)
            refine x_icge (tgt := 28) rfl rfl (ti_ge rfl rfl ⟨fun c10 => ?_, fun c10 => ?_⟩)
            ·
              refine x_iconst (v := 0) rfl ki_0 ?_
              refine x_zret rfl rfl (by decide) ?_
              show jX m_X11_value 3 0 0 37 [(0, .ref 31), (1, .int a1), (2, .int a2), (3, .int a3), (4, .int a4)] [.int 0] _ 0 0 _
              refine x_ifne (tgt := 47) rfl rfl (ti_ne jk_0 jk_0 (bn_f (by omega) ?_))
              refine x_aloadn (x := 31) rfl rfl ?_
              refine x_bipush (v := (-2)) rfl kb_m2 ?_
              refine x_inv (N := m_X11_refuse) (As := [.int (-2)]) (b := 31) (st := []) (d' := 2) (mc := 0) (ms := 0) (host := "") 11 rfl t_X11_refuse ⟨Or.inl q_11_206, i_X11_refuse.1, i_X11_refuse.2⟩ ⟨by decide, rfl⟩ (congrArg Prod.fst (J.1.1 31 (11, 13) rfl)) rfl (by decide) rfl rfl ⟨by decide, by decide⟩ (jC.of rfl k_X11_refuse rfl ?_)
              show jX m_X11_refuse 2 0 0 0 [(0, .ref 31), (1, .int (-2))] [] _ 0 0 _
              refine x_aloadn (x := 31) rfl rfl ?_
              refine x_iloadn (x := (-2)) rfl rfl ?_
              refine z_putI (N := 13) (w := (-2)) 11 12 rfl f_11_94 rfl (jfin_no TX11 RX11 13 rfl rfl) hD J Sm rfl rfl jk_m2 (pw_31_12 (by omega)) rfl (fun h w11 J Sm => ?_)
              refine x_iloadn (x := (-2)) rfl rfl ?_
              refine x_iret rfl rfl ?_
              show jX m_X11_value 3 0 0 46 [(0, .ref 31), (1, .int a1), (2, .int a2), (3, .int a3), (4, .int a4)] [.int (-2)] _ 0 0 _
              refine x_iret rfl rfl ?_
              exact hQ _ _ (jr_of jk_m2 (by omega)) J Sm
            ·
              refine x_iloadn (x := a1) rfl rfl ?_
              refine x_bipush (v := 40) rfl kb_40 ?_
              refine x_icge (tgt := 28) rfl rfl (ti_ge rfl jk_40 (br_f (by omega) ?_))
              refine x_iconst (v := 1) rfl ki_1 ?_
              refine x_goto (tgt := 29) rfl rfl ?_
              refine x_zret rfl rfl (by decide) ?_
              show jX m_X11_value 3 0 0 37 [(0, .ref 31), (1, .int a1), (2, .int a2), (3, .int a3), (4, .int a4)] [.int 1] _ 0 0 _
              refine x_ifne (tgt := 47) rfl rfl (ti_ne jk_1 jk_0 (bn_t (by omega) ?_))
              refine x_aloadn (x := 31) rfl rfl ?_
              refine z_getR (N := 13) (b := 32) 11 0 rfl f_11_10 rfl J rfl 3968 ⟨rfl, rfl⟩ rfl ?_
              refine z_getR (N := 20) (b := 49) 1 8 rfl f_11_408 rfl J rfl 4104 ⟨rfl, rfl⟩ rfl ?_
              refine x_iloadn (x := a1) rfl rfl ?_
              refine x_iconst (v := 2) rfl ki_2 ?_
              refine x_inv (N := m_X8_at) (As := [.int a1, .int 2]) (b := 49) (st := []) (d' := 1) (mc := 0) (ms := 0) (host := "") 8 rfl t_X8_at ⟨Or.inl q_11_171, i_X8_at.1, i_X8_at.2⟩ ⟨by decide, rfl⟩ (congrArg Prod.fst (J.1.1 49 (8, 4) rfl)) rfl (by decide) rfl rfl ⟨by decide, by decide⟩ (sf_X8_at_r49_c2 (jr_of rfl (by omega)) hD J  (fun v13 h ev13 J S12 => ?_))
              have Sm := jSm_tr rfl Sm S12
              show jX m_X11_value 3 0 0 59 [(0, .ref 31), (1, .int a1), (2, .int a2), (3, .int a3), (4, .int a4)] [.int v13] _ 0 0 _
              refine x_iconst (v := (-1)) rfl ki_m1 ?_
              refine x_iceq (tgt := 70) rfl rfl (ti_eq rfl jk_m1 ⟨fun c14 => ?_, fun c14 => ?_⟩)
              ·
                refine x_aloadn (x := 31) rfl rfl ?_
                refine z_getR (N := 13) (b := 32) 11 0 rfl f_11_10 rfl J rfl 3968 ⟨rfl, rfl⟩ rfl ?_
                refine z_getR (N := 20) (b := 47) 1 7 rfl f_11_418 rfl J rfl 4103 ⟨rfl, rfl⟩ rfl ?_
                refine x_inv (N := m_X8_isFull) (As := []) (b := 47) (st := []) (d' := 1) (mc := 0) (ms := 0) (host := "") 8 rfl t_X8_isFull ⟨Or.inl q_11_130, i_X8_isFull.1, i_X8_isFull.2⟩ ⟨by decide, rfl⟩ (congrArg Prod.fst (J.1.1 47 (8, 4) rfl)) rfl (by decide) rfl rfl ⟨by decide, by decide⟩ (sf_X8_isFull_r47  hD J  (fun v16 h ev16 J S15 => ?_))
                have Sm := jSm_tr rfl Sm S15
                show jX m_X11_value 3 0 0 80 [(0, .ref 31), (1, .int a1), (2, .int a2), (3, .int a3), (4, .int a4)] [.int v16] _ 0 0 _
                refine x_ifeq (tgt := 90) rfl rfl (ti_eq rfl jk_0 ⟨fun c17 => ?_, fun c17 => ?_⟩)
                ·
                  refine x_aloadn (x := 31) rfl rfl ?_
                  refine z_getR (N := 13) (b := 32) 11 0 rfl f_11_10 rfl J rfl 3968 ⟨rfl, rfl⟩ rfl ?_
                  refine z_getR (N := 20) (b := 47) 1 7 rfl f_11_418 rfl J rfl 4103 ⟨rfl, rfl⟩ rfl ?_
                  refine x_iload (x := a4) rfl rfl ?_
                  refine x_iloadn (x := a3) rfl rfl ?_
                  refine x_iloadn (x := a1) rfl rfl ?_
                  refine x_iloadn (x := a2) rfl rfl ?_
                  refine x_iconst (v := 0) rfl ki_0 ?_
                  refine x_iconst (v := 0) rfl ki_0 ?_
                  refine x_inv (N := m_X8_add) (As := [.int a4, .int a3, .int a1, .int a2, .int 0, .int 0]) (b := 47) (st := []) (d' := 2) (mc := 0) (ms := 0) (host := "") 8 rfl t_X8_add ⟨Or.inl q_11_145, i_X8_add.1, i_X8_add.2⟩ ⟨by decide, rfl⟩ (congrArg Prod.fst (J.1.1 47 (8, 4) rfl)) rfl (by decide) rfl rfl ⟨by decide, by decide⟩ (sf_X8_add_r47 (jr_of rfl (by omega)) (jr_of rfl (by omega)) (jr_of rfl (by omega)) (jr_of rfl (by omega)) (jr_of jk_0 (by omega)) (jr_of jk_0 (by omega)) hD J  (fun h J S18 => ?_))
                  have Sm := jSm_tr rfl Sm S18
                  show jX m_X11_value 3 0 0 107 [(0, .ref 31), (1, .int a1), (2, .int a2), (3, .int a3), (4, .int a4)] [] _ 0 0 _
                  refine x_aloadn (x := 31) rfl rfl ?_
                  refine x_aloadn (x := 31) rfl rfl ?_
                  refine z_getR (N := 13) (b := 32) 11 0 rfl f_11_10 rfl J rfl 3968 ⟨rfl, rfl⟩ rfl ?_
                  refine z_getR (N := 20) (b := 47) 1 7 rfl f_11_418 rfl J rfl 4103 ⟨rfl, rfl⟩ rfl ?_
                  refine z_getI (N := 4) 8 3 rfl f_11_142 rfl J rfl sg_47_3_4_1_0_1 (fun v19 qv19 ev19 => ?_)
                  refine x_inv (N := m_X11_accept) (As := [.int v19]) (b := 31) (st := []) (d' := 2) (mc := 0) (ms := 0) (host := "") 11 rfl t_X11_accept ⟨Or.inl q_11_165, i_X11_accept.1, i_X11_accept.2⟩ ⟨by decide, rfl⟩ (congrArg Prod.fst (J.1.1 31 (11, 13) rfl)) rfl (by decide) rfl rfl ⟨by decide, by decide⟩ (jC.of rfl k_X11_accept rfl ?_)
                  show jX m_X11_accept 2 0 0 0 [(0, .ref 31), (1, .int v19)] [] _ 0 0 _
                  refine x_aloadn (x := 31) rfl rfl ?_
                  refine x_iconst (v := 0) rfl ki_0 ?_
                  refine z_putI (N := 13) (w := 0) 11 12 rfl f_11_94 rfl (jfin_no TX11 RX11 13 rfl rfl) hD J Sm rfl rfl jk_0 (pw_31_12 (by omega)) rfl (fun h w20 J Sm => ?_)
                  refine x_aloadn (x := 31) rfl rfl ?_
                  refine z_getR (N := 13) (b := 32) 11 0 rfl f_11_10 rfl J rfl 3968 ⟨rfl, rfl⟩ rfl ?_
                  refine x_dup rfl rfl ?_
                  refine z_getI0 (N := 20) 1 19 rfl f_11_528 rfl J rfl (fun v21 qv21 => ?_)
                  have ev21 := jfull v21
                  refine x_iconst (v := 1) rfl ki_1 ?_
                  refine z_iadd0 rfl (fun v22 => ?_)
                  have ev22 := jfull v22
                  refine z_putI (N := 20) (w := v22.toInt) 1 19 rfl f_11_528 rfl (jfin_no TX1 RX1 20 rfl rfl) hD J Sm rfl rfl rfl (pw_32_19 trivial) rfl (fun h w23 J Sm => ?_)
                  refine x_iloadn (x := v19) rfl rfl ?_
                  refine x_iret rfl rfl ?_
                  show jX m_X11_value 3 0 0 121 [(0, .ref 31), (1, .int a1), (2, .int a2), (3, .int a3), (4, .int a4)] [.int v19] _ 0 0 _
                  refine x_iret rfl rfl ?_
                  exact hQ _ _ (jr_of rfl (by omega)) J Sm
                ·
                  refine x_aloadn (x := 31) rfl rfl ?_
                  refine x_bipush (v := (-5)) rfl kb_m5 ?_
                  refine x_inv (N := m_X11_refuse) (As := [.int (-5)]) (b := 31) (st := []) (d' := 2) (mc := 0) (ms := 0) (host := "") 11 rfl t_X11_refuse ⟨Or.inl q_11_206, i_X11_refuse.1, i_X11_refuse.2⟩ ⟨by decide, rfl⟩ (congrArg Prod.fst (J.1.1 31 (11, 13) rfl)) rfl (by decide) rfl rfl ⟨by decide, by decide⟩ (jC.of rfl k_X11_refuse rfl ?_)
                  show jX m_X11_refuse 2 0 0 0 [(0, .ref 31), (1, .int (-5))] [] _ 0 0 _
                  refine x_aloadn (x := 31) rfl rfl ?_
                  refine x_iloadn (x := (-5)) rfl rfl ?_
                  refine z_putI (N := 13) (w := (-5)) 11 12 rfl f_11_94 rfl (jfin_no TX11 RX11 13 rfl rfl) hD J Sm rfl rfl jk_m5 (pw_31_12 (by omega)) rfl (fun h w24 J Sm => ?_)
                  refine x_iloadn (x := (-5)) rfl rfl ?_
                  refine x_iret rfl rfl ?_
                  show jX m_X11_value 3 0 0 89 [(0, .ref 31), (1, .int a1), (2, .int a2), (3, .int a3), (4, .int a4)] [.int (-5)] _ 0 0 _
                  refine x_iret rfl rfl ?_
                  exact hQ _ _ (jr_of jk_m5 (by omega)) J Sm
              ·
                refine x_aloadn (x := 31) rfl rfl ?_
                refine x_bipush (v := (-3)) rfl kb_m3 ?_
                refine x_inv (N := m_X11_refuse) (As := [.int (-3)]) (b := 31) (st := []) (d' := 2) (mc := 0) (ms := 0) (host := "") 11 rfl t_X11_refuse ⟨Or.inl q_11_206, i_X11_refuse.1, i_X11_refuse.2⟩ ⟨by decide, rfl⟩ (congrArg Prod.fst (J.1.1 31 (11, 13) rfl)) rfl (by decide) rfl rfl ⟨by decide, by decide⟩ (jC.of rfl k_X11_refuse rfl ?_)
                show jX m_X11_refuse 2 0 0 0 [(0, .ref 31), (1, .int (-3))] [] _ 0 0 _
                refine x_aloadn (x := 31) rfl rfl ?_
                refine x_iloadn (x := (-3)) rfl rfl ?_
                refine z_putI (N := 13) (w := (-3)) 11 12 rfl f_11_94 rfl (jfin_no TX11 RX11 13 rfl rfl) hD J Sm rfl rfl jk_m3 (pw_31_12 (by omega)) rfl (fun h w25 J Sm => ?_)
                refine x_iloadn (x := (-3)) rfl rfl ?_
                refine x_iret rfl rfl ?_
                show jX m_X11_value 3 0 0 69 [(0, .ref 31), (1, .int a1), (2, .int a2), (3, .int a3), (4, .int a4)] [.int (-3)] _ 0 0 _
                refine x_iret rfl rfl ?_
                exact hQ _ _ (jr_of jk_m3 (by omega)) J Sm
        ·
          exact jX.sub (jsb_c rfl jsb_n) (ct_X11_value_r31_26 hD hQ  h J Sm)
def fp_X11_waits_r31 : jFp := [(78, 13, 14), (82, 0, 600), (83, 0, 600), (84, 0, 200), (86, 0, 3)]
set_option maxRecDepth 100000 in
set_option maxHeartbeats 4000000 in
theorem ct_X11_waits_r31_100070 {Dy : jH → Prop} {h0 : jH} {Q : Option Value → jH → Prop} (hD : jDk Dy) (hQ : ∀ (v : Int32) h', (-1) ≤ v.toInt ∧ v.toInt ≤ 200 → jJ jSgX Dy h' → jSm fp_X11_waits_r31 h0 h' → Q (some (.int v)) h') : ∀ (h : jH), jJ jSgX Dy h → jSm fp_X11_waits_r31 h0 h → jX m_X11_waits 7 0 0 70 [] [.int (-1)] h 0 0 Q := by
  intro  h    J Sm
  refine x_iret rfl rfl ?_
  exact hQ _ _ (jr_of jk_m1 (by omega)) J Sm
set_option maxRecDepth 100000 in
set_option maxHeartbeats 4000000 in
theorem ct_X11_waits_r31_70 {Dy : jH → Prop} {h0 : jH} {Q : Option Value → jH → Prop} (hD : jDk Dy) (hQ : ∀ (v : Int32) h', (-1) ≤ v.toInt ∧ v.toInt ≤ 200 → jJ jSgX Dy h' → jSm fp_X11_waits_r31 h0 h' → Q (some (.int v)) h') : ∀ (s0 : Int32) (h : jH), 0 ≤ s0.toInt ∧ s0.toInt ≤ 199 → jJ jSgX Dy h → jSm fp_X11_waits_r31 h0 h → jX m_X11_waits 7 0 0 70 [] [.int s0] h 0 0 Q := by
  intro s0 h y0   J Sm
  refine x_iret rfl rfl ?_
  exact hQ _ _ (jr_of rfl (by omega)) J Sm
set_option maxRecDepth 100000 in
set_option maxHeartbeats 4000000 in
theorem ct_X11_waits_r31_69 {Dy : jH → Prop} {h0 : jH} {Q : Option Value → jH → Prop} (hD : jDk Dy) (hQ : ∀ (v : Int32) h', (-1) ≤ v.toInt ∧ v.toInt ≤ 200 → jJ jSgX Dy h' → jSm fp_X11_waits_r31 h0 h' → Q (some (.int v)) h') : ∀ (h : jH), jJ jSgX Dy h → jSm fp_X11_waits_r31 h0 h → jX m_X11_waits 7 0 0 69 [] [] h 0 0 Q := by
  intro  h    J Sm
  refine x_iconst (v := (-1)) rfl ki_m1 ?_
  exact jX.sub jsb_n (ct_X11_waits_r31_100070 hD hQ  h J Sm)
set_option maxRecDepth 100000 in
set_option maxHeartbeats 4000000 in
theorem sf_X11_waits_r31 {Dy : jH → Prop} {h : jH} {Q : Option Value → jH → Prop} {a1 : Int32} {a2 : Int32} (hD : jDk Dy) (J : jJ jSgX Dy h) (hQ : ∀ (v : Int32) h', (-1) ≤ v.toInt ∧ v.toInt ≤ 200 → jJ jSgX Dy h' → jSm fp_X11_waits_r31 h h' → Q (some (.int v)) h') : jC m_X11_waits 7 0 0 [.ref 31, .int a1, .int a2] h Q := by
  refine jC.of rfl k_X11_waits rfl ?_
  have Sm := jSm_rf fp_X11_waits_r31 h
  have ea1 := jfull a1
  have ea2 := jfull a2
  show jX m_X11_waits 7 0 0 0 [(0, .ref 31), (1, .int a1), (2, .int a2)] [] _ 0 0 _
  refine x_iloadn (x := a1) rfl rfl ?_
  refine x_inst (N := m_X11_isDay) (As := [.int a1]) (st := []) (d' := 1) (mc := 0) (ms := 0) (host := "") rfl t_X11_isDay ⟨Or.inl q_11_115, s_X11_isDay⟩ rfl (by decide) rfl rfl ⟨by decide, by decide⟩ (zc_X11_isDay rfl (fun v1 ev1 => ?_))
  show jX m_X11_waits 7 0 0 4 [(0, .ref 31), (1, .int a1), (2, .int a2)] [.int v1] _ 0 0 _
  refine x_ifne (tgt := 9) rfl rfl (ti_ne rfl jk_0 ⟨fun c2 => ?_, fun c2 => ?_⟩)
  ·
    refine x_aloadn (x := 31) rfl rfl ?_
    refine z_getR (N := 13) (b := 78) 11 4 rfl f_11_41 rfl J rfl 3972 ⟨rfl, rfl⟩ rfl ?_
    refine x_iloadn (x := a1) rfl rfl ?_
    refine x_inv (N := m_X7_asKnown) (As := [.int a1]) (b := 78) (st := []) (d' := 6) (mc := 0) (ms := 0) (host := "") 7 rfl t_X7_asKnown ⟨Or.inl q_11_240, i_X7_asKnown.1, i_X7_asKnown.2⟩ ⟨by decide, rfl⟩ (congrArg Prod.fst (J.1.1 78 (7, 16) rfl)) rfl (by decide) rfl rfl ⟨by decide, by decide⟩ (sf_X7_asKnown_r78 (jr_of rfl (by omega)) hD J  (fun h J S3 => ?_))
    have Sm := jSm_tr rfl Sm S3
    show jX m_X11_waits 7 0 0 17 [(0, .ref 31), (1, .int a1), (2, .int a2)] [] _ 0 0 _
    refine x_iloadn (x := a2) rfl rfl ?_
    refine x_iconst (v := (-1)) rfl ki_m1 ?_
    refine x_icne (tgt := 30) rfl rfl (ti_ne rfl jk_m1 ⟨fun c4 => ?_, fun c4 => ?_⟩)
    ·
      refine x_iloadn (x := a2) rfl rfl ?_
      refine x_iflt (tgt := 69) rfl rfl (ti_lt rfl jk_0 ⟨fun c5 => ?_, fun c5 => ?_⟩)
      ·
        exact jX.sub jsb_n (ct_X11_waits_r31_69 hD hQ  h J Sm)
      ·
        refine x_iloadn (x := a2) rfl rfl ?_
        refine x_aloadn (x := 31) rfl rfl ?_
        refine z_getR (N := 13) (b := 78) 11 4 rfl f_11_41 rfl J rfl 3972 ⟨rfl, rfl⟩ rfl ?_
        refine z_getI (N := 16) 7 13 rfl f_11_243 rfl J rfl sg_78_13_14_1_0_1 (fun v6 qv6 ev6 => ?_)
        refine x_icge (tgt := 69) rfl rfl (ti_ge rfl rfl ⟨fun c7 => ?_, fun c7 => ?_⟩)
        ·
          exact jX.sub jsb_n (ct_X11_waits_r31_69 hD hQ  h J Sm)
        ·
          refine x_iloadn (x := a2) rfl rfl ?_
          refine x_aloadn (x := 31) rfl rfl ?_
          refine z_getR (N := 13) (b := 78) 11 4 rfl f_11_41 rfl J rfl 3972 ⟨rfl, rfl⟩ rfl ?_
          refine z_getR (N := 16) (b := 84) 7 12 rfl f_11_246 rfl J rfl 9996 ⟨rfl, rfl⟩ rfl ?_
          refine z_alen (N := 200) (v := 200) rfl J rfl rfl (by decide) ?_
          refine x_icge (tgt := 69) rfl rfl (ti_ge rfl jk_200 (br_f (by omega) ?_))
          refine x_aloadn (x := 31) rfl rfl ?_
          refine z_getR (N := 13) (b := 78) 11 4 rfl f_11_41 rfl J rfl 3972 ⟨rfl, rfl⟩ rfl ?_
          refine z_getR (N := 16) (b := 84) 7 12 rfl f_11_246 rfl J rfl 9996 ⟨rfl, rfl⟩ rfl ?_
          refine x_iloadn (x := a2) rfl rfl ?_
          refine z_iald (N := 200) rfl J rfl sg_84_0_200_1_0_1 rfl (by omega) (fun v8 qv8 ev8 => ?_)
          refine x_goto (tgt := 70) rfl rfl ?_
          exact jX.sub jsb_n (ct_X11_waits_r31_70 hD hQ  v8 h (jr_of rfl (by omega)) J Sm)
    ·
      refine x_aloadn (x := 31) rfl rfl ?_
      refine z_getR (N := 13) (b := 78) 11 4 rfl f_11_41 rfl J rfl 3972 ⟨rfl, rfl⟩ rfl ?_
      refine z_getI (N := 16) 7 13 rfl f_11_243 rfl J rfl sg_78_13_14_1_0_1 (fun v9 qv9 ev9 => ?_)
      refine x_iret rfl rfl ?_
      exact hQ _ _ (jr_of rfl (by omega)) J Sm
  ·
    refine x_iconst (v := (-1)) rfl ki_m1 ?_
    refine x_iret rfl rfl ?_
    exact hQ _ _ (jr_of jk_m1 (by omega)) J Sm
def fp_X3_isWished_r87 : jFp := []
set_option maxRecDepth 100000 in
set_option maxHeartbeats 4000000 in
theorem ct_X3_isWished_r87_2 {Dy : jH → Prop} {h0 : jH} {Q : Option Value → jH → Prop} (hD : jDk Dy) (hQ : ∀ (v : Int32) h', 0 ≤ v.toInt ∧ v.toInt ≤ 1 → jJ jSgX Dy h' → jSm fp_X3_isWished_r87 h0 h' → Q (some (.int v)) h') : ∀ r : Nat, ∀ (l1 : Int32) (l2 : Int32) (h : jH), 9 - l2.toInt < (r : Int) → 0 ≤ l1.toInt ∧ l1.toInt ≤ 599 → 0 ≤ l2.toInt ∧ l2.toInt ≤ 9 → jJ jSgX Dy h → jSm fp_X3_isWished_r87 h0 h → jX m_X3_isWished 1 0 0 2 [(0, .ref 87), (1, .int l1), (2, .int l2)] [] h 0 0 Q := by
  intro r
  induction r with
  | zero =>
    intro l1 l2 h hm y0 y1   J Sm
    exfalso
    omega
  | succ r ih =>
    intro l1 l2 h hm y0 y1   J Sm
    refine x_iloadn (x := l2) rfl rfl ?_
    refine x_aloadn (x := 87) rfl rfl ?_
    refine z_getI (N := 14) 3 3 rfl f_3_15 rfl J rfl sg_87_3_4_1_0_1 (fun v1 qv1 ev1 => ?_)
    refine x_icge (tgt := 28) rfl rfl (ti_ge rfl rfl ⟨fun c2 => ?_, fun c2 => ?_⟩)
    ·
      refine x_iconst (v := 0) rfl ki_0 ?_
      refine x_zret rfl rfl (by decide) ?_
      exact hQ _ _ (jr_of jk_0 (by omega)) J Sm
    ·
      refine x_aloadn (x := 87) rfl rfl ?_
      refine z_getR (N := 14) (b := 88) 3 2 rfl f_3_9 rfl J rfl 11138 ⟨rfl, rfl⟩ rfl ?_
      refine x_iloadn (x := l2) rfl rfl ?_
      refine z_iald (N := 9) rfl J rfl sg_88_0_9_1_0_1 rfl (by omega) (fun v3 qv3 ev3 => ?_)
      refine x_iloadn (x := l1) rfl rfl ?_
      refine x_icne (tgt := 22) rfl rfl (ti_ne rfl rfl ⟨fun c4 => ?_, fun c4 => ?_⟩)
      ·
        refine z_iinc (x := l2) (ls' := fun v5 => [(2, .int v5), (0, .ref 87), (1, .int l1)]) rfl rfl rfl jko_1 (by omega) rfl (fun _ => rfl) (fun v5 ev5 => ?_)
        refine x_goto (tgt := 2) rfl rfl ?_
        exact jX.sub (jsb_c rfl (jsb_c rfl (jsb_c rfl jsb_n))) (ih l1 v5 h (by omega) (jr_of rfl (by omega)) (jr_of rfl (by omega)) J Sm)
      ·
        refine x_iconst (v := 1) rfl ki_1 ?_
        refine x_zret rfl rfl (by decide) ?_
        exact hQ _ _ (jr_of jk_1 (by omega)) J Sm
set_option maxRecDepth 100000 in
set_option maxHeartbeats 4000000 in
theorem sf_X3_isWished_r87 {Dy : jH → Prop} {h : jH} {Q : Option Value → jH → Prop} {a1 : Int32} (y1 : 0 ≤ a1.toInt ∧ a1.toInt ≤ 599) (hD : jDk Dy) (J : jJ jSgX Dy h) (hQ : ∀ (v : Int32) h', 0 ≤ v.toInt ∧ v.toInt ≤ 1 → jJ jSgX Dy h' → jSm fp_X3_isWished_r87 h h' → Q (some (.int v)) h') : jC m_X3_isWished 1 0 0 [.ref 87, .int a1] h Q := by
  refine jC.of rfl k_X3_isWished rfl ?_
  have Sm := jSm_rf fp_X3_isWished_r87 h
  show jX m_X3_isWished 1 0 0 0 [(0, .ref 87), (1, .int a1)] [] _ 0 0 _
  refine x_iconst (v := 0) rfl ki_0 ?_
  refine x_istoren (ls' := [(2, .int 0), (0, .ref 87), (1, .int a1)]) rfl rfl rfl ?_
  exact jX.sub (jsb_c rfl (jsb_c rfl (jsb_c rfl jsb_n))) (ct_X3_isWished_r87_2 hD hQ  10 a1 0 h (by have := jk_0; omega) (jr_of rfl (by omega)) (jr_of jk_0 (by omega)) J Sm)
def fp_X11_wish_r31 : jFp := [(31, 12, 13), (32, 19, 20), (87, 3, 4), (87, 13, 14), (88, 0, 9)]
set_option maxRecDepth 100000 in
set_option maxHeartbeats 4000000 in
theorem sf_X11_wish_r31 {Dy : jH → Prop} {h : jH} {Q : Option Value → jH → Prop} {a1 : Int32} (hD : jDk Dy) (J : jJ jSgX Dy h) (hQ : ∀ (v : Int32) h', (-366) ≤ v.toInt ∧ v.toInt ≤ 9 → jJ jSgX Dy h' → jSm fp_X11_wish_r31 h h' → Q (some (.int v)) h') : jC m_X11_wish 2 0 0 [.ref 31, .int a1] h Q := by
  refine jC.of rfl k_X11_wish rfl ?_
  have Sm := jSm_rf fp_X11_wish_r31 h
  have ea1 := jfull a1
  show jX m_X11_wish 2 0 0 0 [(0, .ref 31), (1, .int a1)] [] _ 0 0 _
  refine x_aloadn (x := 31) rfl rfl ?_
  refine z_getR (N := 13) (b := 78) 11 4 rfl f_11_41 rfl J rfl 3972 ⟨rfl, rfl⟩ rfl ?_
  refine x_iloadn (x := a1) rfl rfl ?_
  refine x_inv (N := m_X7_isMention) (As := [.int a1]) (b := 78) (st := []) (d' := 1) (mc := 0) (ms := 0) (host := "") 7 rfl t_X7_isMention ⟨Or.inl q_11_187, i_X7_isMention.1, i_X7_isMention.2⟩ ⟨by decide, rfl⟩ (congrArg Prod.fst (J.1.1 78 (7, 16) rfl)) rfl (by decide) rfl rfl ⟨by decide, by decide⟩ (jC.of rfl k_X7_isMention rfl ?_)
  show jX m_X7_isMention 1 0 0 0 [(0, .ref 78), (1, .int a1)] [] _ 0 0 _
  refine x_iloadn (x := a1) rfl rfl ?_
  refine x_iflt (tgt := 41) rfl rfl (ti_lt rfl jk_0 ⟨fun c1 => ?_, fun c1 => ?_⟩)
  ·
    refine x_iconst (v := 0) rfl ki_0 ?_
    refine x_zret rfl rfl (by decide) ?_
    show jX m_X11_wish 2 0 0 8 [(0, .ref 31), (1, .int a1)] [.int 0] _ 0 0 _
    refine x_ifne (tgt := 18) rfl rfl (ti_ne jk_0 jk_0 (bn_f (by omega) ?_))
    refine x_aloadn (x := 31) rfl rfl ?_
    refine x_bipush (v := (-2)) rfl kb_m2 ?_
    refine x_inv (N := m_X11_refuse) (As := [.int (-2)]) (b := 31) (st := []) (d' := 1) (mc := 0) (ms := 0) (host := "") 11 rfl t_X11_refuse ⟨Or.inl q_11_206, i_X11_refuse.1, i_X11_refuse.2⟩ ⟨by decide, rfl⟩ (congrArg Prod.fst (J.1.1 31 (11, 13) rfl)) rfl (by decide) rfl rfl ⟨by decide, by decide⟩ (jC.of rfl k_X11_refuse rfl ?_)
    show jX m_X11_refuse 1 0 0 0 [(0, .ref 31), (1, .int (-2))] [] _ 0 0 _
    refine x_aloadn (x := 31) rfl rfl ?_
    refine x_iloadn (x := (-2)) rfl rfl ?_
    refine z_putI (N := 13) (w := (-2)) 11 12 rfl f_11_94 rfl (jfin_no TX11 RX11 13 rfl rfl) hD J Sm rfl rfl jk_m2 (pw_31_12 (by omega)) rfl (fun h w2 J Sm => ?_)
    refine x_iloadn (x := (-2)) rfl rfl ?_
    refine x_iret rfl rfl ?_
    show jX m_X11_wish 2 0 0 17 [(0, .ref 31), (1, .int a1)] [.int (-2)] _ 0 0 _
    refine x_iret rfl rfl ?_
    exact hQ _ _ (jr_of jk_m2 (by omega)) J Sm
  ·
    refine x_iloadn (x := a1) rfl rfl ?_
    refine x_sipush (v := 600) rfl ks_600 ?_
    refine x_icge (tgt := 41) rfl rfl (ti_ge rfl jk_600 ⟨fun c3 => ?_, fun c3 => ?_⟩)
    ·
      refine x_iconst (v := 0) rfl ki_0 ?_
      refine x_zret rfl rfl (by decide) ?_
      show jX m_X11_wish 2 0 0 8 [(0, .ref 31), (1, .int a1)] [.int 0] _ 0 0 _
      refine x_ifne (tgt := 18) rfl rfl (ti_ne jk_0 jk_0 (bn_f (by omega) ?_))
      refine x_aloadn (x := 31) rfl rfl ?_
      refine x_bipush (v := (-2)) rfl kb_m2 ?_
      refine x_inv (N := m_X11_refuse) (As := [.int (-2)]) (b := 31) (st := []) (d' := 1) (mc := 0) (ms := 0) (host := "") 11 rfl t_X11_refuse ⟨Or.inl q_11_206, i_X11_refuse.1, i_X11_refuse.2⟩ ⟨by decide, rfl⟩ (congrArg Prod.fst (J.1.1 31 (11, 13) rfl)) rfl (by decide) rfl rfl ⟨by decide, by decide⟩ (jC.of rfl k_X11_refuse rfl ?_)
      show jX m_X11_refuse 1 0 0 0 [(0, .ref 31), (1, .int (-2))] [] _ 0 0 _
      refine x_aloadn (x := 31) rfl rfl ?_
      refine x_iloadn (x := (-2)) rfl rfl ?_
      refine z_putI (N := 13) (w := (-2)) 11 12 rfl f_11_94 rfl (jfin_no TX11 RX11 13 rfl rfl) hD J Sm rfl rfl jk_m2 (pw_31_12 (by omega)) rfl (fun h w4 J Sm => ?_)
      refine x_iloadn (x := (-2)) rfl rfl ?_
      refine x_iret rfl rfl ?_
      show jX m_X11_wish 2 0 0 17 [(0, .ref 31), (1, .int a1)] [.int (-2)] _ 0 0 _
      refine x_iret rfl rfl ?_
      exact hQ _ _ (jr_of jk_m2 (by omega)) J Sm
    ·
      refine x_iloadn (x := a1) rfl rfl ?_
      refine x_iconst (v := 3) rfl ki_3 ?_
      refine z_idiv rfl rfl jk_3 (by omega) (by omega) (fun v5 ev5 => ?_)
      refine x_aloadn (x := 78) rfl rfl ?_
      refine z_getR (N := 16) (b := 32) 7 0 rfl f_7_55 rfl J rfl 9984 ⟨rfl, rfl⟩ rfl ?_
      refine z_getR (N := 20) (b := 33) 1 0 rfl f_7_63 rfl J rfl 4096 ⟨rfl, rfl⟩ rfl ?_
      refine z_getI (N := 4) 8 3 rfl f_7_85 rfl J rfl sg_33_3_4_1_0_1 (fun v6 qv6 ev6 => ?_)
      refine x_icge (tgt := 41) rfl rfl (ti_ge rfl rfl ⟨fun c7 => ?_, fun c7 => ?_⟩)
      ·
        refine x_iconst (v := 0) rfl ki_0 ?_
        refine x_zret rfl rfl (by decide) ?_
        show jX m_X11_wish 2 0 0 8 [(0, .ref 31), (1, .int a1)] [.int 0] _ 0 0 _
        refine x_ifne (tgt := 18) rfl rfl (ti_ne jk_0 jk_0 (bn_f (by omega) ?_))
        refine x_aloadn (x := 31) rfl rfl ?_
        refine x_bipush (v := (-2)) rfl kb_m2 ?_
        refine x_inv (N := m_X11_refuse) (As := [.int (-2)]) (b := 31) (st := []) (d' := 1) (mc := 0) (ms := 0) (host := "") 11 rfl t_X11_refuse ⟨Or.inl q_11_206, i_X11_refuse.1, i_X11_refuse.2⟩ ⟨by decide, rfl⟩ (congrArg Prod.fst (J.1.1 31 (11, 13) rfl)) rfl (by decide) rfl rfl ⟨by decide, by decide⟩ (jC.of rfl k_X11_refuse rfl ?_)
        show jX m_X11_refuse 1 0 0 0 [(0, .ref 31), (1, .int (-2))] [] _ 0 0 _
        refine x_aloadn (x := 31) rfl rfl ?_
        refine x_iloadn (x := (-2)) rfl rfl ?_
        refine z_putI (N := 13) (w := (-2)) 11 12 rfl f_11_94 rfl (jfin_no TX11 RX11 13 rfl rfl) hD J Sm rfl rfl jk_m2 (pw_31_12 (by omega)) rfl (fun h w8 J Sm => ?_)
        refine x_iloadn (x := (-2)) rfl rfl ?_
        refine x_iret rfl rfl ?_
        show jX m_X11_wish 2 0 0 17 [(0, .ref 31), (1, .int a1)] [.int (-2)] _ 0 0 _
        refine x_iret rfl rfl ?_
        exact hQ _ _ (jr_of jk_m2 (by omega)) J Sm
      ·
        refine x_aloadn (x := 78) rfl rfl ?_
        refine z_getR (N := 16) (b := 79) 7 7 rfl f_7_27 rfl J rfl 9991 ⟨rfl, rfl⟩ rfl ?_
        refine x_iloadn (x := a1) rfl rfl ?_
        refine z_iald (N := 600) rfl J rfl sg_79_0_600_1_0_1 rfl (by omega) (fun v9 qv9 ev9 => ?_)
        refine x_iconst (v := (-1)) rfl ki_m1 ?_
        refine x_iceq (tgt := 41) rfl rfl (ti_eq rfl jk_m1 ⟨fun c10 => ?_, fun c10 => ?_⟩)
        ·
          refine x_iconst (v := 0) rfl ki_0 ?_
          refine x_zret rfl rfl (by decide) ?_
          show jX m_X11_wish 2 0 0 8 [(0, .ref 31), (1, .int a1)] [.int 0] _ 0 0 _
          refine x_ifne (tgt := 18) rfl rfl (ti_ne jk_0 jk_0 (bn_f (by omega) ?_))
          refine x_aloadn (x := 31) rfl rfl ?_
          refine x_bipush (v := (-2)) rfl kb_m2 ?_
          refine x_inv (N := m_X11_refuse) (As := [.int (-2)]) (b := 31) (st := []) (d' := 1) (mc := 0) (ms := 0) (host := "") 11 rfl t_X11_refuse ⟨Or.inl q_11_206, i_X11_refuse.1, i_X11_refuse.2⟩ ⟨by decide, rfl⟩ (congrArg Prod.fst (J.1.1 31 (11, 13) rfl)) rfl (by decide) rfl rfl ⟨by decide, by decide⟩ (jC.of rfl k_X11_refuse rfl ?_)
          show jX m_X11_refuse 1 0 0 0 [(0, .ref 31), (1, .int (-2))] [] _ 0 0 _
          refine x_aloadn (x := 31) rfl rfl ?_
          refine x_iloadn (x := (-2)) rfl rfl ?_
          refine z_putI (N := 13) (w := (-2)) 11 12 rfl f_11_94 rfl (jfin_no TX11 RX11 13 rfl rfl) hD J Sm rfl rfl jk_m2 (pw_31_12 (by omega)) rfl (fun h w11 J Sm => ?_)
          refine x_iloadn (x := (-2)) rfl rfl ?_
          refine x_iret rfl rfl ?_
          show jX m_X11_wish 2 0 0 17 [(0, .ref 31), (1, .int a1)] [.int (-2)] _ 0 0 _
          refine x_iret rfl rfl ?_
          exact hQ _ _ (jr_of jk_m2 (by omega)) J Sm
        ·
          refine x_iconst (v := 1) rfl ki_1 ?_
          refine x_goto (tgt := 42) rfl rfl ?_
          refine x_zret rfl rfl (by decide) ?_
          show jX m_X11_wish 2 0 0 8 [(0, .ref 31), (1, .int a1)] [.int 1] _ 0 0 _
          refine x_ifne (tgt := 18) rfl rfl (ti_ne jk_1 jk_0 (bn_t (by omega) ?_))
          refine x_aloadn (x := 31) rfl rfl ?_
          refine z_getR (N := 13) (b := 87) 11 5 rfl f_11_50 rfl J rfl 3973 ⟨rfl, rfl⟩ rfl ?_
          refine x_iloadn (x := a1) rfl rfl ?_
          refine x_inv (N := m_X3_isWished) (As := [.int a1]) (b := 87) (st := []) (d' := 1) (mc := 0) (ms := 0) (host := "") 3 rfl t_X3_isWished ⟨Or.inl q_11_270, i_X3_isWished.1, i_X3_isWished.2⟩ ⟨by decide, rfl⟩ (congrArg Prod.fst (J.1.1 87 (3, 14) rfl)) rfl (by decide) rfl rfl ⟨by decide, by decide⟩ (sf_X3_isWished_r87 (jr_of rfl (by omega)) hD J  (fun v13 h ev13 J S12 => ?_))
          have Sm := jSm_tr rfl Sm S12
          show jX m_X11_wish 2 0 0 26 [(0, .ref 31), (1, .int a1)] [.int v13] _ 0 0 _
          refine x_ifeq (tgt := 36) rfl rfl (ti_eq rfl jk_0 ⟨fun c14 => ?_, fun c14 => ?_⟩)
          ·
            refine x_aloadn (x := 31) rfl rfl ?_
            refine z_getR (N := 13) (b := 87) 11 5 rfl f_11_50 rfl J rfl 3973 ⟨rfl, rfl⟩ rfl ?_
            refine z_getI (N := 14) 3 3 rfl f_11_273 rfl J rfl sg_87_3_4_1_0_1 (fun v15 qv15 ev15 => ?_)
            refine x_bipush (v := 9) rfl kb_9 ?_
            refine x_iclt (tgt := 55) rfl rfl (ti_lt rfl jk_9 ⟨fun c16 => ?_, fun c16 => ?_⟩)
            ·
              refine x_aloadn (x := 31) rfl rfl ?_
              refine z_getR (N := 13) (b := 87) 11 5 rfl f_11_50 rfl J rfl 3973 ⟨rfl, rfl⟩ rfl ?_
              refine x_iloadn (x := a1) rfl rfl ?_
              refine x_inv (N := m_X3_put) (As := [.int a1]) (b := 87) (st := []) (d' := 1) (mc := 0) (ms := 0) (host := "") 3 rfl t_X3_put ⟨Or.inl q_11_276, i_X3_put.1, i_X3_put.2⟩ ⟨by decide, rfl⟩ (congrArg Prod.fst (J.1.1 87 (3, 14) rfl)) rfl (by decide) rfl rfl ⟨by decide, by decide⟩ (jC.of rfl k_X3_put rfl ?_)
              show jX m_X3_put 1 0 0 0 [(0, .ref 87), (1, .int a1)] [] _ 0 0 _
              refine x_aloadn (x := 87) rfl rfl ?_
              refine z_getM (N := 14) (v := v15) 3 3 rfl f_3_15 rfl J rfl qv15 ?_
              refine x_bipush (v := 9) rfl kb_9 ?_
              refine x_icge (tgt := 34) rfl rfl (ti_ge rfl jk_9 (br_f (by omega) ?_))
              refine x_aloadn (x := 87) rfl rfl ?_
              refine z_getR (N := 14) (b := 88) 3 2 rfl f_3_9 rfl J rfl 11138 ⟨rfl, rfl⟩ rfl ?_
              refine x_aloadn (x := 87) rfl rfl ?_
              refine z_getM (N := 14) (v := v15) 3 3 rfl f_3_15 rfl J rfl qv15 ?_
              refine x_iloadn (x := a1) rfl rfl ?_
              refine z_iast (N := 9) (l := 0) (u := 9) (w := a1.toInt) rfl hD J Sm rfl rfl rfl (by omega) rfl (wr_88 (fun q1 q2 q3 q4 => by omega)) rfl (fun h w17 J Sm => ?_)
              refine x_aloadn (x := 87) rfl rfl ?_
              refine x_dup rfl rfl ?_
              refine z_getM (N := 14) (v := v15) 3 3 rfl f_3_15 rfl J rfl (jmo w17 rfl qv15) ?_
              refine x_iconst (v := 1) rfl ki_1 ?_
              refine z_iadd rfl rfl jk_1 (by omega) (fun v18 ev18 => ?_)
              refine z_putI (N := 14) (w := v18.toInt) 3 3 rfl f_3_15 rfl (jfin_no TX3 RX3 14 rfl rfl) hD J Sm rfl rfl rfl (pw_87_3 (by omega)) rfl (fun h w19 J Sm => ?_)
              refine x_aloadn (x := 87) rfl rfl ?_
              refine x_iconst (v := 0) rfl ki_0 ?_
              refine z_putI (N := 14) (w := 0) 3 13 rfl f_3_46 rfl (jfin_no TX3 RX3 14 rfl rfl) hD J Sm rfl rfl jk_0 (pw_87_13 trivial) rfl (fun h w20 J Sm => ?_)
              refine x_vret rfl rfl ?_
              show jX m_X11_wish 2 0 0 63 [(0, .ref 31), (1, .int a1)] [] _ 0 0 _
              refine x_aloadn (x := 31) rfl rfl ?_
              refine x_aloadn (x := 31) rfl rfl ?_
              refine z_getR (N := 13) (b := 87) 11 5 rfl f_11_50 rfl J rfl 3973 ⟨rfl, rfl⟩ rfl ?_
              refine z_getM (N := 14) (v := v18) 3 3 rfl f_11_273 rfl J rfl (jmo w20 rfl (jmw w19)) ?_
              refine x_inv (N := m_X11_accept) (As := [.int v18]) (b := 31) (st := []) (d' := 1) (mc := 0) (ms := 0) (host := "") 11 rfl t_X11_accept ⟨Or.inl q_11_165, i_X11_accept.1, i_X11_accept.2⟩ ⟨by decide, rfl⟩ (congrArg Prod.fst (J.1.1 31 (11, 13) rfl)) rfl (by decide) rfl rfl ⟨by decide, by decide⟩ (jC.of rfl k_X11_accept rfl ?_)
              show jX m_X11_accept 1 0 0 0 [(0, .ref 31), (1, .int v18)] [] _ 0 0 _
              refine x_aloadn (x := 31) rfl rfl ?_
              refine x_iconst (v := 0) rfl ki_0 ?_
              refine z_putI (N := 13) (w := 0) 11 12 rfl f_11_94 rfl (jfin_no TX11 RX11 13 rfl rfl) hD J Sm rfl rfl jk_0 (pw_31_12 (by omega)) rfl (fun h w21 J Sm => ?_)
              refine x_aloadn (x := 31) rfl rfl ?_
              refine z_getR (N := 13) (b := 32) 11 0 rfl f_11_10 rfl J rfl 3968 ⟨rfl, rfl⟩ rfl ?_
              refine x_dup rfl rfl ?_
              refine z_getI0 (N := 20) 1 19 rfl f_11_528 rfl J rfl (fun v22 qv22 => ?_)
              have ev22 := jfull v22
              refine x_iconst (v := 1) rfl ki_1 ?_
              refine z_iadd0 rfl (fun v23 => ?_)
              have ev23 := jfull v23
              refine z_putI (N := 20) (w := v23.toInt) 1 19 rfl f_11_528 rfl (jfin_no TX1 RX1 20 rfl rfl) hD J Sm rfl rfl rfl (pw_32_19 trivial) rfl (fun h w24 J Sm => ?_)
              refine x_iloadn (x := v18) rfl rfl ?_
              refine x_iret rfl rfl ?_
              show jX m_X11_wish 2 0 0 74 [(0, .ref 31), (1, .int a1)] [.int v18] _ 0 0 _
              refine x_iret rfl rfl ?_
              exact hQ _ _ (jr_of rfl (by omega)) J Sm
            ·
              refine x_aloadn (x := 31) rfl rfl ?_
              refine x_bipush (v := (-5)) rfl kb_m5 ?_
              refine x_inv (N := m_X11_refuse) (As := [.int (-5)]) (b := 31) (st := []) (d' := 1) (mc := 0) (ms := 0) (host := "") 11 rfl t_X11_refuse ⟨Or.inl q_11_206, i_X11_refuse.1, i_X11_refuse.2⟩ ⟨by decide, rfl⟩ (congrArg Prod.fst (J.1.1 31 (11, 13) rfl)) rfl (by decide) rfl rfl ⟨by decide, by decide⟩ (jC.of rfl k_X11_refuse rfl ?_)
              show jX m_X11_refuse 1 0 0 0 [(0, .ref 31), (1, .int (-5))] [] _ 0 0 _
              refine x_aloadn (x := 31) rfl rfl ?_
              refine x_iloadn (x := (-5)) rfl rfl ?_
              refine z_putI (N := 13) (w := (-5)) 11 12 rfl f_11_94 rfl (jfin_no TX11 RX11 13 rfl rfl) hD J Sm rfl rfl jk_m5 (pw_31_12 (by omega)) rfl (fun h w25 J Sm => ?_)
              refine x_iloadn (x := (-5)) rfl rfl ?_
              refine x_iret rfl rfl ?_
              show jX m_X11_wish 2 0 0 54 [(0, .ref 31), (1, .int a1)] [.int (-5)] _ 0 0 _
              refine x_iret rfl rfl ?_
              exact hQ _ _ (jr_of jk_m5 (by omega)) J Sm
          ·
            refine x_aloadn (x := 31) rfl rfl ?_
            refine x_bipush (v := (-4)) rfl kb_m4 ?_
            refine x_inv (N := m_X11_refuse) (As := [.int (-4)]) (b := 31) (st := []) (d' := 1) (mc := 0) (ms := 0) (host := "") 11 rfl t_X11_refuse ⟨Or.inl q_11_206, i_X11_refuse.1, i_X11_refuse.2⟩ ⟨by decide, rfl⟩ (congrArg Prod.fst (J.1.1 31 (11, 13) rfl)) rfl (by decide) rfl rfl ⟨by decide, by decide⟩ (jC.of rfl k_X11_refuse rfl ?_)
            show jX m_X11_refuse 1 0 0 0 [(0, .ref 31), (1, .int (-4))] [] _ 0 0 _
            refine x_aloadn (x := 31) rfl rfl ?_
            refine x_iloadn (x := (-4)) rfl rfl ?_
            refine z_putI (N := 13) (w := (-4)) 11 12 rfl f_11_94 rfl (jfin_no TX11 RX11 13 rfl rfl) hD J Sm rfl rfl jk_m4 (pw_31_12 (by omega)) rfl (fun h w26 J Sm => ?_)
            refine x_iloadn (x := (-4)) rfl rfl ?_
            refine x_iret rfl rfl ?_
            show jX m_X11_wish 2 0 0 35 [(0, .ref 31), (1, .int a1)] [.int (-4)] _ 0 0 _
            refine x_iret rfl rfl ?_
            exact hQ _ _ (jr_of jk_m4 (by omega)) J Sm
def fp_X11_worth_r31 : jFp := []
set_option maxRecDepth 100000 in
set_option maxHeartbeats 4000000 in
theorem ct_X11_worth_r31_22 {Dy : jH → Prop} {h0 : jH} {Q : Option Value → jH → Prop} (hD : jDk Dy) (hQ : ∀ (v : Int32) h', (-1) ≤ v.toInt ∧ v.toInt ≤ 400 → jJ jSgX Dy h' → jSm fp_X11_worth_r31 h0 h' → Q (some (.int v)) h') : ∀ (h : jH), jJ jSgX Dy h → jSm fp_X11_worth_r31 h0 h → jX m_X11_worth 6 0 0 22 [] [] h 0 0 Q := by
  intro  h    J Sm
  refine x_iconst (v := (-1)) rfl ki_m1 ?_
  refine x_iret rfl rfl ?_
  exact hQ _ _ (jr_of jk_m1 (by omega)) J Sm
set_option maxRecDepth 100000 in
set_option maxHeartbeats 4000000 in
theorem sf_X11_worth_r31 {Dy : jH → Prop} {h : jH} {Q : Option Value → jH → Prop} {a1 : Int32} {a2 : Int32} (hD : jDk Dy) (J : jJ jSgX Dy h) (hQ : ∀ (v : Int32) h', (-1) ≤ v.toInt ∧ v.toInt ≤ 400 → jJ jSgX Dy h' → jSm fp_X11_worth_r31 h h' → Q (some (.int v)) h') : jC m_X11_worth 6 0 0 [.ref 31, .int a1, .int a2] h Q := by
  refine jC.of rfl k_X11_worth rfl ?_
  have Sm := jSm_rf fp_X11_worth_r31 h
  have ea1 := jfull a1
  have ea2 := jfull a2
  show jX m_X11_worth 6 0 0 0 [(0, .ref 31), (1, .int a1), (2, .int a2)] [] _ 0 0 _
  refine x_aloadn (x := 31) rfl rfl ?_
  refine z_getR (N := 13) (b := 78) 11 4 rfl f_11_41 rfl J rfl 3972 ⟨rfl, rfl⟩ rfl ?_
  refine x_iloadn (x := a1) rfl rfl ?_
  refine x_inv (N := m_X7_isMention) (As := [.int a1]) (b := 78) (st := []) (d' := 5) (mc := 0) (ms := 0) (host := "") 7 rfl t_X7_isMention ⟨Or.inl q_11_187, i_X7_isMention.1, i_X7_isMention.2⟩ ⟨by decide, rfl⟩ (congrArg Prod.fst (J.1.1 78 (7, 16) rfl)) rfl (by decide) rfl rfl ⟨by decide, by decide⟩ (jC.of rfl k_X7_isMention rfl ?_)
  show jX m_X7_isMention 5 0 0 0 [(0, .ref 78), (1, .int a1)] [] _ 0 0 _
  refine x_iloadn (x := a1) rfl rfl ?_
  refine x_iflt (tgt := 41) rfl rfl (ti_lt rfl jk_0 ⟨fun c1 => ?_, fun c1 => ?_⟩)
  ·
    refine x_iconst (v := 0) rfl ki_0 ?_
    refine x_zret rfl rfl (by decide) ?_
    show jX m_X11_worth 6 0 0 8 [(0, .ref 31), (1, .int a1), (2, .int a2)] [.int 0] _ 0 0 _
    refine x_ifeq (tgt := 22) rfl rfl (ti_eq jk_0 jk_0 (br_t (by omega) ?_))
    exact jX.sub jsb_n (ct_X11_worth_r31_22 hD hQ  h J Sm)
  ·
    refine x_iloadn (x := a1) rfl rfl ?_
    refine x_sipush (v := 600) rfl ks_600 ?_
    refine x_icge (tgt := 41) rfl rfl (ti_ge rfl jk_600 ⟨fun c2 => ?_, fun c2 => ?_⟩)
    ·
      refine x_iconst (v := 0) rfl ki_0 ?_
      refine x_zret rfl rfl (by decide) ?_
      show jX m_X11_worth 6 0 0 8 [(0, .ref 31), (1, .int a1), (2, .int a2)] [.int 0] _ 0 0 _
      refine x_ifeq (tgt := 22) rfl rfl (ti_eq jk_0 jk_0 (br_t (by omega) ?_))
      exact jX.sub jsb_n (ct_X11_worth_r31_22 hD hQ  h J Sm)
    ·
      refine x_iloadn (x := a1) rfl rfl ?_
      refine x_iconst (v := 3) rfl ki_3 ?_
      refine z_idiv rfl rfl jk_3 (by omega) (by omega) (fun v3 ev3 => ?_)
      refine x_aloadn (x := 78) rfl rfl ?_
      refine z_getR (N := 16) (b := 32) 7 0 rfl f_7_55 rfl J rfl 9984 ⟨rfl, rfl⟩ rfl ?_
      refine z_getR (N := 20) (b := 33) 1 0 rfl f_7_63 rfl J rfl 4096 ⟨rfl, rfl⟩ rfl ?_
      refine z_getI (N := 4) 8 3 rfl f_7_85 rfl J rfl sg_33_3_4_1_0_1 (fun v4 qv4 ev4 => ?_)
      refine x_icge (tgt := 41) rfl rfl (ti_ge rfl rfl ⟨fun c5 => ?_, fun c5 => ?_⟩)
      ·
        refine x_iconst (v := 0) rfl ki_0 ?_
        refine x_zret rfl rfl (by decide) ?_
        show jX m_X11_worth 6 0 0 8 [(0, .ref 31), (1, .int a1), (2, .int a2)] [.int 0] _ 0 0 _
        refine x_ifeq (tgt := 22) rfl rfl (ti_eq jk_0 jk_0 (br_t (by omega) ?_))
        exact jX.sub jsb_n (ct_X11_worth_r31_22 hD hQ  h J Sm)
      ·
        refine x_aloadn (x := 78) rfl rfl ?_
        refine z_getR (N := 16) (b := 79) 7 7 rfl f_7_27 rfl J rfl 9991 ⟨rfl, rfl⟩ rfl ?_
        refine x_iloadn (x := a1) rfl rfl ?_
        refine z_iald (N := 600) rfl J rfl sg_79_0_600_1_0_1 rfl (by omega) (fun v6 qv6 ev6 => ?_)
        refine x_iconst (v := (-1)) rfl ki_m1 ?_
        refine x_iceq (tgt := 41) rfl rfl (ti_eq rfl jk_m1 ⟨fun c7 => ?_, fun c7 => ?_⟩)
        ·
          refine x_iconst (v := 0) rfl ki_0 ?_
          refine x_zret rfl rfl (by decide) ?_
          show jX m_X11_worth 6 0 0 8 [(0, .ref 31), (1, .int a1), (2, .int a2)] [.int 0] _ 0 0 _
          refine x_ifeq (tgt := 22) rfl rfl (ti_eq jk_0 jk_0 (br_t (by omega) ?_))
          exact jX.sub jsb_n (ct_X11_worth_r31_22 hD hQ  h J Sm)
        ·
          refine x_iconst (v := 1) rfl ki_1 ?_
          refine x_goto (tgt := 42) rfl rfl ?_
          refine x_zret rfl rfl (by decide) ?_
          show jX m_X11_worth 6 0 0 8 [(0, .ref 31), (1, .int a1), (2, .int a2)] [.int 1] _ 0 0 _
          refine x_ifeq (tgt := 22) rfl rfl (ti_eq jk_1 jk_0 (br_f (by omega) ?_))
          refine x_aloadn (x := 31) rfl rfl ?_
          refine z_getR (N := 13) (b := 78) 11 4 rfl f_11_41 rfl J rfl 3972 ⟨rfl, rfl⟩ rfl ?_
          refine x_iloadn (x := a2) rfl rfl ?_
          refine x_inv (N := m_X7_isMention) (As := [.int a2]) (b := 78) (st := []) (d' := 5) (mc := 0) (ms := 0) (host := "") 7 rfl t_X7_isMention ⟨Or.inl q_11_187, i_X7_isMention.1, i_X7_isMention.2⟩ ⟨by decide, rfl⟩ (congrArg Prod.fst (J.1.1 78 (7, 16) rfl)) rfl (by decide) rfl rfl ⟨by decide, by decide⟩ (jC.of rfl k_X7_isMention rfl ?_)
          show jX m_X7_isMention 5 0 0 0 [(0, .ref 78), (1, .int a2)] [] _ 0 0 _
          refine x_iloadn (x := a2) rfl rfl ?_
          refine x_iflt (tgt := 41) rfl rfl (ti_lt rfl jk_0 ⟨fun c8 => ?_, fun c8 => ?_⟩)
          ·
            refine x_iconst (v := 0) rfl ki_0 ?_
            refine x_zret rfl rfl (by decide) ?_
            show jX m_X11_worth 6 0 0 19 [(0, .ref 31), (1, .int a1), (2, .int a2)] [.int 0] _ 0 0 _
            refine x_ifne (tgt := 24) rfl rfl (ti_ne jk_0 jk_0 (bn_f (by omega) ?_))
            exact jX.sub jsb_n (ct_X11_worth_r31_22 hD hQ  h J Sm)
          ·
            refine x_iloadn (x := a2) rfl rfl ?_
            refine x_sipush (v := 600) rfl ks_600 ?_
            refine x_icge (tgt := 41) rfl rfl (ti_ge rfl jk_600 ⟨fun c9 => ?_, fun c9 => ?_⟩)
            ·
              refine x_iconst (v := 0) rfl ki_0 ?_
              refine x_zret rfl rfl (by decide) ?_
              show jX m_X11_worth 6 0 0 19 [(0, .ref 31), (1, .int a1), (2, .int a2)] [.int 0] _ 0 0 _
              refine x_ifne (tgt := 24) rfl rfl (ti_ne jk_0 jk_0 (bn_f (by omega) ?_))
              exact jX.sub jsb_n (ct_X11_worth_r31_22 hD hQ  h J Sm)
            ·
              refine x_iloadn (x := a2) rfl rfl ?_
              refine x_iconst (v := 3) rfl ki_3 ?_
              refine z_idiv rfl rfl jk_3 (by omega) (by omega) (fun v10 ev10 => ?_)
              refine x_aloadn (x := 78) rfl rfl ?_
              refine z_getR (N := 16) (b := 32) 7 0 rfl f_7_55 rfl J rfl 9984 ⟨rfl, rfl⟩ rfl ?_
              refine z_getR (N := 20) (b := 33) 1 0 rfl f_7_63 rfl J rfl 4096 ⟨rfl, rfl⟩ rfl ?_
              refine z_getM (N := 4) (v := v4) 8 3 rfl f_7_85 rfl J rfl qv4 ?_
              refine x_icge (tgt := 41) rfl rfl (ti_ge rfl rfl ⟨fun c11 => ?_, fun c11 => ?_⟩)
              ·
                refine x_iconst (v := 0) rfl ki_0 ?_
                refine x_zret rfl rfl (by decide) ?_
                show jX m_X11_worth 6 0 0 19 [(0, .ref 31), (1, .int a1), (2, .int a2)] [.int 0] _ 0 0 _
                refine x_ifne (tgt := 24) rfl rfl (ti_ne jk_0 jk_0 (bn_f (by omega) ?_))
                exact jX.sub jsb_n (ct_X11_worth_r31_22 hD hQ  h J Sm)
              ·
                refine x_aloadn (x := 78) rfl rfl ?_
                refine z_getR (N := 16) (b := 79) 7 7 rfl f_7_27 rfl J rfl 9991 ⟨rfl, rfl⟩ rfl ?_
                refine x_iloadn (x := a2) rfl rfl ?_
                refine z_iald (N := 600) rfl J rfl sg_79_0_600_1_0_1 rfl (by omega) (fun v12 qv12 ev12 => ?_)
                refine x_iconst (v := (-1)) rfl ki_m1 ?_
                refine x_iceq (tgt := 41) rfl rfl (ti_eq rfl jk_m1 ⟨fun c13 => ?_, fun c13 => ?_⟩)
                ·
                  refine x_iconst (v := 0) rfl ki_0 ?_
                  refine x_zret rfl rfl (by decide) ?_
                  show jX m_X11_worth 6 0 0 19 [(0, .ref 31), (1, .int a1), (2, .int a2)] [.int 0] _ 0 0 _
                  refine x_ifne (tgt := 24) rfl rfl (ti_ne jk_0 jk_0 (bn_f (by omega) ?_))
                  exact jX.sub jsb_n (ct_X11_worth_r31_22 hD hQ  h J Sm)
                ·
                  refine x_iconst (v := 1) rfl ki_1 ?_
                  refine x_goto (tgt := 42) rfl rfl ?_
                  refine x_zret rfl rfl (by decide) ?_
                  show jX m_X11_worth 6 0 0 19 [(0, .ref 31), (1, .int a1), (2, .int a2)] [.int 1] _ 0 0 _
                  refine x_ifne (tgt := 24) rfl rfl (ti_ne jk_1 jk_0 (bn_t (by omega) ?_))
                  refine x_aloadn (x := 31) rfl rfl ?_
                  refine z_getR (N := 13) (b := 78) 11 4 rfl f_11_41 rfl J rfl 3972 ⟨rfl, rfl⟩ rfl ?_
                  refine x_iloadn (x := a1) rfl rfl ?_
                  refine x_iloadn (x := a2) rfl rfl ?_
                  refine x_inv (N := m_X7_worthOf) (As := [.int a1, .int a2]) (b := 78) (st := []) (d' := 5) (mc := 0) (ms := 0) (host := "") 7 rfl t_X7_worthOf ⟨Or.inl q_11_227, i_X7_worthOf.1, i_X7_worthOf.2⟩ ⟨by decide, rfl⟩ (congrArg Prod.fst (J.1.1 78 (7, 16) rfl)) rfl (by decide) rfl rfl ⟨by decide, by decide⟩ (sf_X7_worthOf_r78 (jr_of rfl (by omega)) (jr_of rfl (by omega)) hD J  (fun v15 h ev15 J S14 => ?_))
                  have Sm := jSm_tr rfl Sm S14
                  show jX m_X11_worth 6 0 0 33 [(0, .ref 31), (1, .int a1), (2, .int a2)] [.int v15] _ 0 0 _
                  refine x_iret rfl rfl ?_
                  exact hQ _ _ (jr_of rfl (by omega)) J Sm
