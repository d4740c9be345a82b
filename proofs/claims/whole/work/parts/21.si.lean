def fp_X12_waits_r125 : jFp := [(125, 0, 1), (125, 28, 29), (125, 31, 32), (125, 57, 58), (137, 0, 80), (138, 0, 2), (139, 0, 600), (140, 0, 200)]
set_option maxRecDepth 100000 in
set_option maxHeartbeats 4000000 in
theorem ct_X12_waits_r125_100057 {Dy : jH → Prop} {h0 : jH} {Q : Option Value → jH → Prop} (hD : jDk Dy) (hQ : ∀ (v : Int32) h', (-1) ≤ v.toInt ∧ v.toInt ≤ 200 → jJ jSgM Dy h' → jSm fp_X12_waits_r125 h0 h' → Q (some (.int v)) h') : ∀ (h : jH), jJ jSgM Dy h → jSm fp_X12_waits_r125 h0 h → jX m_X12_waits 9 0 0 57 [] [.int (-1)] h 0 0 Q := by
  intro  h    J Sm
  refine x_iret rfl rfl ?_
  exact hQ _ _ (jr_of jk_m1 (by omega)) J Sm
set_option maxRecDepth 100000 in
set_option maxHeartbeats 4000000 in
theorem ct_X12_waits_r125_57 {Dy : jH → Prop} {h0 : jH} {Q : Option Value → jH → Prop} (hD : jDk Dy) (hQ : ∀ (v : Int32) h', (-1) ≤ v.toInt ∧ v.toInt ≤ 200 → jJ jSgM Dy h' → jSm fp_X12_waits_r125 h0 h' → Q (some (.int v)) h') : ∀ (s0 : Int32) (h : jH), 0 ≤ s0.toInt ∧ s0.toInt ≤ 200 → jJ jSgM Dy h → jSm fp_X12_waits_r125 h0 h → jX m_X12_waits 9 0 0 57 [] [.int s0] h 0 0 Q := by
  intro s0 h y0   J Sm
  refine x_iret rfl rfl ?_
  exact hQ _ _ (jr_of rfl (by omega)) J Sm
set_option maxRecDepth 100000 in
set_option maxHeartbeats 4000000 in
theorem sf_X12_waits_r125 {Dy : jH → Prop} {h : jH} {Q : Option Value → jH → Prop} {a1 : Int32} {a2 : Int32} (hD : jDk Dy) (J : jJ jSgM Dy h) (hQ : ∀ (v : Int32) h', (-1) ≤ v.toInt ∧ v.toInt ≤ 200 → jJ jSgM Dy h' → jSm fp_X12_waits_r125 h h' → Q (some (.int v)) h') : jC m_X12_waits 9 0 0 [.ref 125, .int a1, .int a2] h Q := by
  refine jC.of rfl k_X12_waits rfl ?_
  have Sm := jSm_rf fp_X12_waits_r125 h
  have ea1 := jfull a1
  have ea2 := jfull a2
  show jX m_X12_waits 9 0 0 0 [(0, .ref 125), (1, .int a1), (2, .int a2)] [] _ 0 0 _
  refine x_aloadn (x := 125) rfl rfl ?_
  refine x_iconst (v := 0) rfl ki_0 ?_
  refine z_putI (N := 92) (w := 0) 12 0 rfl f_12_180 rfl (jfin_no TX12 RX12 92 rfl rfl) hD J Sm rfl rfl jk_0 (pw_125_0 (by omega)) rfl (fun h w1 J Sm => ?_)
  refine x_iloadn (x := a1) rfl rfl ?_
  refine x_inst (N := m_X12_isDay) (As := [.int a1]) (st := []) (d' := 2) (mc := 0) (ms := 0) (host := "") rfl t_X12_isDay ⟨Or.inl q_12_273, s_X12_isDay⟩ rfl (by decide) rfl rfl ⟨by decide, by decide⟩ (zc_X12_isDay (d := 1) rfl (fun v2 ev2 => ?_))
  show jX m_X12_waits 9 0 0 9 [(0, .ref 125), (1, .int a1), (2, .int a2)] [.int v2] _ 0 0 _
  refine x_ifne (tgt := 14) rfl rfl (ti_ne rfl jk_0 ⟨fun c3 => ?_, fun c3 => ?_⟩)
  ·
    refine x_aloadn (x := 125) rfl rfl ?_
    refine x_iloadn (x := a1) rfl rfl ?_
    refine x_inv (N := m_X12_find) (As := [.int a1]) (b := 125) (st := []) (d' := 8) (mc := 0) (ms := 0) (host := "") 12 rfl t_X12_find ⟨Or.inl q_12_393, i_X12_find.1, i_X12_find.2⟩ ⟨by decide, rfl⟩ (congrArg Prod.fst (J.1.1 125 (12, 92) rfl)) rfl (by decide) rfl rfl ⟨by decide, by decide⟩ (sf_X12_find_r125 (jr_of rfl (by omega)) hD J  (fun h J S4 => ?_))
    have Sm := jSm_tr rfl Sm S4
    show jX m_X12_waits 9 0 0 19 [(0, .ref 125), (1, .int a1), (2, .int a2)] [] _ 0 0 _
    refine x_iloadn (x := a2) rfl rfl ?_
    refine x_iconst (v := (-1)) rfl ki_m1 ?_
    refine x_icne (tgt := 31) rfl rfl (ti_ne rfl jk_m1 ⟨fun c5 => ?_, fun c5 => ?_⟩)
    ·
      refine x_iloadn (x := a2) rfl rfl ?_
      refine z_i2l rfl rfl (fun v6 ev6 => ?_)
      refine x_lconst (v := 0) rfl kl_0 ?_
      refine x_aloadn (x := 125) rfl rfl ?_
      refine z_getI (N := 92) 12 31 rfl f_12_380 rfl J rfl sg_125_31_32_1_0_1 (fun v7 qv7 ev7 => ?_)
      refine z_i2l rfl rfl (fun v8 ev8 => ?_)
      refine x_lconst (v := 1) rfl kl_1 ?_
      refine z_lsub rfl rfl jkl_1 (by omega) (fun v9 ev9 => ?_)
      refine x_inst (N := m_X12_in) (As := [.long v6, .long 0, .long v9]) (st := []) (d' := 1) (mc := 0) (ms := 0) (host := "") rfl t_X12_in ⟨Or.inl q_12_188, s_X12_in⟩ rfl (by decide) rfl rfl ⟨by decide, by decide⟩ (zc_X12_in rfl jkl_0 rfl (fun v10 ev10 => ?_))
      show jX m_X12_waits 9 0 0 44 [(0, .ref 125), (1, .int a1), (2, .int a2)] [.int v10] _ 0 0 _
      refine x_ifeq (tgt := 56) rfl rfl (ti_eq rfl jk_0 ⟨fun c11 => ?_, fun c11 => ?_⟩)
      ·
        refine x_iconst (v := (-1)) rfl ki_m1 ?_
        exact jX.sub jsb_n (ct_X12_waits_r125_100057 hD hQ  h J Sm)
      ·
        refine x_aloadn (x := 125) rfl rfl ?_
        refine z_getR (N := 92) (b := 140) 12 30 rfl f_12_75 rfl J rfl 16030 ⟨rfl, rfl⟩ rfl ?_
        refine x_iloadn (x := a2) rfl rfl ?_
        refine z_iald (N := 200) rfl J rfl sg_140_0_200_1_0_1 rfl (by omega) (fun v12 qv12 ev12 => ?_)
        refine x_goto (tgt := 57) rfl rfl ?_
        exact jX.sub jsb_n (ct_X12_waits_r125_57 hD hQ  v12 h (jr_of rfl (by omega)) J Sm)
    ·
      refine x_aloadn (x := 125) rfl rfl ?_
      refine z_getI (N := 92) 12 31 rfl f_12_380 rfl J rfl sg_125_31_32_1_0_1 (fun v13 qv13 ev13 => ?_)
      refine x_goto (tgt := 57) rfl rfl ?_
      exact jX.sub jsb_n (ct_X12_waits_r125_57 hD hQ  v13 h (jr_of rfl (by omega)) J Sm)
  ·
    refine x_iconst (v := (-1)) rfl ki_m1 ?_
    refine x_iret rfl rfl ?_
    exact hQ _ _ (jr_of jk_m1 (by omega)) J Sm
def fp_X12_wish_r125 : jFp := [(125, 0, 1), (125, 1, 2), (125, 36, 37), (141, 0, 9)]
set_option maxRecDepth 100000 in
set_option maxHeartbeats 4000000 in
theorem ct_X12_wish_r125_22 {Dy : jH → Prop} {h0 : jH} {Q : Option Value → jH → Prop} (hD : jDk Dy) (hQ : ∀ (v : Int32) h', jJ jSgM Dy h' → jSm fp_X12_wish_r125 h0 h' → Q (some (.int v)) h') : ∀ r : Nat, ∀ (l1 : Int32) (l2 : Int32) (h : jH), 9 - l2.toInt < (r : Int) → 0 ≤ l1.toInt ∧ l1.toInt ≤ 599 → 0 ≤ l2.toInt ∧ l2.toInt ≤ 9 → jJ jSgM Dy h → jSm fp_X12_wish_r125 h0 h → jX m_X12_wish 4 0 0 22 [(0, .ref 125), (1, .int l1), (2, .int l2)] [] h 0 0 Q := by
  intro r
  induction r with
  | zero =>
    intro l1 l2 h hm y0 y1   J Sm
    exfalso
    omega
  | succ r ih =>
    intro l1 l2 h hm y0 y1   J Sm
    refine x_iloadn (x := l2) rfl rfl ?_
    refine x_aloadn (x := 125) rfl rfl ?_
    refine z_getI (N := 92) 12 36 rfl f_12_204 rfl J rfl sg_125_36_37_1_0_1 (fun v1 qv1 ev1 => ?_)
    refine x_icge (tgt := 53) rfl rfl (ti_ge rfl rfl ⟨fun c2 => ?_, fun c2 => ?_⟩)
    ·
      refine x_aloadn (x := 125) rfl rfl ?_
      refine z_getM (N := 92) (v := v1) 12 36 rfl f_12_204 rfl J rfl qv1 ?_
      refine x_bipush (v := 9) rfl kb_9 ?_
      refine x_icne (tgt := 69) rfl rfl (ti_ne rfl jk_9 ⟨fun c3 => ?_, fun c3 => ?_⟩)
      ·
        refine x_aloadn (x := 125) rfl rfl ?_
        refine z_getR (N := 92) (b := 141) 12 37 rfl f_12_78 rfl J rfl 16037 ⟨rfl, rfl⟩ rfl ?_
        refine x_aloadn (x := 125) rfl rfl ?_
        refine z_getM (N := 92) (v := v1) 12 36 rfl f_12_204 rfl J rfl qv1 ?_
        refine x_iloadn (x := l1) rfl rfl ?_
        refine z_iast (N := 9) (l := 0) (u := 9) (w := l1.toInt) rfl hD J Sm rfl rfl rfl (by omega) rfl (wr_141 (fun q1 q2 q3 q4 => by omega)) rfl (fun h w4 J Sm => ?_)
        refine x_aloadn (x := 125) rfl rfl ?_
        refine x_dup rfl rfl ?_
        refine z_getM (N := 92) (v := v1) 12 36 rfl f_12_204 rfl J rfl (jmo w4 rfl qv1) ?_
        refine x_iconst (v := 1) rfl ki_1 ?_
        refine z_iadd rfl rfl jk_1 (by omega) (fun v5 ev5 => ?_)
        refine z_putI (N := 92) (w := v5.toInt) 12 36 rfl f_12_204 rfl (jfin_no TX12 RX12 92 rfl rfl) hD J Sm rfl rfl rfl (pw_125_36 (by omega)) rfl (fun h w6 J Sm => ?_)
        refine x_aloadn (x := 125) rfl rfl ?_
        refine x_aloadn (x := 125) rfl rfl ?_
        refine z_getM (N := 92) (v := v5) 12 36 rfl f_12_204 rfl J rfl (jmw w6) ?_
        refine x_inv (N := m_X12_told) (As := [.int v5]) (b := 125) (st := []) (d' := 1) (mc := 0) (ms := 0) (host := "") 12 rfl t_X12_told ⟨Or.inl q_12_197, i_X12_told.1, i_X12_told.2⟩ ⟨by decide, rfl⟩ (congrArg Prod.fst (J.1.1 125 (12, 92) rfl)) rfl (by decide) rfl rfl ⟨by decide, by decide⟩ (sf_X12_told_r125  hD J  (fun v8 h J S7 => ?_))
        have ev8 := jfull v8
        have Sm := jSm_tr rfl Sm S7
        show jX m_X12_wish 4 0 0 97 [(0, .ref 125), (1, .int l1), (2, .int l2)] [.int v8] _ 0 0 _
        refine x_iret rfl rfl ?_
        exact hQ _ _ J Sm
      ·
        refine x_aloadn (x := 125) rfl rfl ?_
        refine x_bipush (v := (-5)) rfl kb_m5 ?_
        refine x_inv (N := m_X12_told) (As := [.int (-5)]) (b := 125) (st := []) (d' := 1) (mc := 0) (ms := 0) (host := "") 12 rfl t_X12_told ⟨Or.inl q_12_197, i_X12_told.1, i_X12_told.2⟩ ⟨by decide, rfl⟩ (congrArg Prod.fst (J.1.1 125 (12, 92) rfl)) rfl (by decide) rfl rfl ⟨by decide, by decide⟩ (sf_X12_told_r125  hD J  (fun v10 h J S9 => ?_))
        have ev10 := jfull v10
        have Sm := jSm_tr rfl Sm S9
        show jX m_X12_wish 4 0 0 68 [(0, .ref 125), (1, .int l1), (2, .int l2)] [.int v10] _ 0 0 _
        refine x_iret rfl rfl ?_
        exact hQ _ _ J Sm
    ·
      refine x_aloadn (x := 125) rfl rfl ?_
      refine z_getR (N := 92) (b := 141) 12 37 rfl f_12_78 rfl J rfl 16037 ⟨rfl, rfl⟩ rfl ?_
      refine x_iloadn (x := l2) rfl rfl ?_
      refine z_iald (N := 9) rfl J rfl sg_141_0_9_1_0_1 rfl (by omega) (fun v11 qv11 ev11 => ?_)
      refine x_iloadn (x := l1) rfl rfl ?_
      refine x_icne (tgt := 47) rfl rfl (ti_ne rfl rfl ⟨fun c12 => ?_, fun c12 => ?_⟩)
      ·
        refine z_iinc (x := l2) (ls' := fun v13 => [(2, .int v13), (0, .ref 125), (1, .int l1)]) rfl rfl rfl jko_1 (by omega) rfl (fun _ => rfl) (fun v13 ev13 => ?_)
        refine x_goto (tgt := 22) rfl rfl ?_
        exact jX.sub (jsb_c rfl (jsb_c rfl (jsb_c rfl jsb_n))) (ih l1 v13 h (by omega) (jr_of rfl (by omega)) (jr_of rfl (by omega)) J Sm)
      ·
        refine x_aloadn (x := 125) rfl rfl ?_
        refine x_bipush (v := (-4)) rfl kb_m4 ?_
        refine x_inv (N := m_X12_told) (As := [.int (-4)]) (b := 125) (st := []) (d' := 1) (mc := 0) (ms := 0) (host := "") 12 rfl t_X12_told ⟨Or.inl q_12_197, i_X12_told.1, i_X12_told.2⟩ ⟨by decide, rfl⟩ (congrArg Prod.fst (J.1.1 125 (12, 92) rfl)) rfl (by decide) rfl rfl ⟨by decide, by decide⟩ (sf_X12_told_r125  hD J  (fun v15 h J S14 => ?_))
        have ev15 := jfull v15
        have Sm := jSm_tr rfl Sm S14
        show jX m_X12_wish 4 0 0 46 [(0, .ref 125), (1, .int l1), (2, .int l2)] [.int v15] _ 0 0 _
        refine x_iret rfl rfl ?_
        exact hQ _ _ J Sm
set_option maxRecDepth 100000 in
set_option maxHeartbeats 4000000 in
theorem sf_X12_wish_r125 {Dy : jH → Prop} {h : jH} {Q : Option Value → jH → Prop} {a1 : Int32} (hD : jDk Dy) (J : jJ jSgM Dy h) (hQ : ∀ (v : Int32) h', jJ jSgM Dy h' → jSm fp_X12_wish_r125 h h' → Q (some (.int v)) h') : jC m_X12_wish 4 0 0 [.ref 125, .int a1] h Q := by
  refine jC.of rfl k_X12_wish rfl ?_
  have Sm := jSm_rf fp_X12_wish_r125 h
  have ea1 := jfull a1
  show jX m_X12_wish 4 0 0 0 [(0, .ref 125), (1, .int a1)] [] _ 0 0 _
  refine x_aloadn (x := 125) rfl rfl ?_
  refine x_iconst (v := 0) rfl ki_0 ?_
  refine z_putI (N := 92) (w := 0) 12 0 rfl f_12_180 rfl (jfin_no TX12 RX12 92 rfl rfl) hD J Sm rfl rfl jk_0 (pw_125_0 (by omega)) rfl (fun h w1 J Sm => ?_)
  refine x_aloadn (x := 125) rfl rfl ?_
  refine x_iloadn (x := a1) rfl rfl ?_
  refine x_inv (N := m_X12_isMention) (As := [.int a1]) (b := 125) (st := []) (d' := 3) (mc := 0) (ms := 0) (host := "") 12 rfl t_X12_isMention ⟨Or.inl q_12_322, i_X12_isMention.1, i_X12_isMention.2⟩ ⟨by decide, rfl⟩ (congrArg Prod.fst (J.1.1 125 (12, 92) rfl)) rfl (by decide) rfl rfl ⟨by decide, by decide⟩ (jC.of rfl k_X12_isMention rfl ?_)
  show jX m_X12_isMention 3 0 0 0 [(0, .ref 125), (1, .int a1)] [] _ 0 0 _
  refine x_iloadn (x := a1) rfl rfl ?_
  refine x_iflt (tgt := 34) rfl rfl (ti_lt rfl jk_0 ⟨fun c2 => ?_, fun c2 => ?_⟩)
  ·
    refine x_iconst (v := 0) rfl ki_0 ?_
    refine x_zret rfl rfl (by decide) ?_
    show jX m_X12_wish 4 0 0 10 [(0, .ref 125), (1, .int a1)] [.int 0] _ 0 0 _
    refine x_ifne (tgt := 20) rfl rfl (ti_ne jk_0 jk_0 (bn_f (by omega) ?_))
    refine x_aloadn (x := 125) rfl rfl ?_
    refine x_bipush (v := (-2)) rfl kb_m2 ?_
    refine x_inv (N := m_X12_told) (As := [.int (-2)]) (b := 125) (st := []) (d' := 1) (mc := 0) (ms := 0) (host := "") 12 rfl t_X12_told ⟨Or.inl q_12_197, i_X12_told.1, i_X12_told.2⟩ ⟨by decide, rfl⟩ (congrArg Prod.fst (J.1.1 125 (12, 92) rfl)) rfl (by decide) rfl rfl ⟨by decide, by decide⟩ (sf_X12_told_r125  hD J  (fun v4 h J S3 => ?_))
    have ev4 := jfull v4
    have Sm := jSm_tr rfl Sm S3
    show jX m_X12_wish 4 0 0 19 [(0, .ref 125), (1, .int a1)] [.int v4] _ 0 0 _
    refine x_iret rfl rfl ?_
    exact hQ _ _ J Sm
  ·
    refine x_aloadn (x := 125) rfl rfl ?_
    refine x_iloadn (x := a1) rfl rfl ?_
    refine x_iconst (v := 3) rfl ki_3 ?_
    refine z_idiv rfl rfl jk_3 (by omega) (by omega) (fun v5 ev5 => ?_)
    refine x_inv (N := m_X12_isLine) (As := [.int v5]) (b := 125) (st := []) (d' := 2) (mc := 0) (ms := 0) (host := "") 12 rfl t_X12_isLine ⟨Or.inl q_12_293, i_X12_isLine.1, i_X12_isLine.2⟩ ⟨by decide, rfl⟩ (congrArg Prod.fst (J.1.1 125 (12, 92) rfl)) rfl (by decide) rfl rfl ⟨by decide, by decide⟩ (jC.of rfl k_X12_isLine rfl ?_)
    show jX m_X12_isLine 2 0 0 0 [(0, .ref 125), (1, .int v5)] [] _ 0 0 _
    refine x_iloadn (x := v5) rfl rfl ?_
    refine z_i2l rfl rfl (fun v6 ev6 => ?_)
    refine x_lconst (v := 0) rfl kl_0 ?_
    refine x_aloadn (x := 125) rfl rfl ?_
    refine z_getR (N := 92) (b := 126) 12 2 rfl f_12_8 rfl J rfl 16002 ⟨rfl, rfl⟩ rfl ?_
    refine x_iconst (v := 0) rfl ki_0 ?_
    refine z_iald (N := 50660) rfl J rfl sg_126_0_1_1_0_1 jk_0 (by omega) (fun v7 qv7 ev7 => ?_)
    refine z_i2l rfl rfl (fun v8 ev8 => ?_)
    refine x_lconst (v := 1) rfl kl_1 ?_
    refine z_lsub rfl rfl jkl_1 (by omega) (fun v9 ev9 => ?_)
    refine x_inst (N := m_X12_in) (As := [.long v6, .long 0, .long v9]) (st := []) (d' := 1) (mc := 0) (ms := 0) (host := "") rfl t_X12_in ⟨Or.inl q_12_188, s_X12_in⟩ rfl (by decide) rfl rfl ⟨by decide, by decide⟩ (zc_X12_in rfl jkl_0 rfl (fun v10 ev10 => ?_))
    show jX m_X12_isLine 2 0 0 15 [(0, .ref 125), (1, .int v5)] [.int v10] _ 0 0 _
    refine x_zret rfl rfl (jz01 (by omega)) ?_
    show jX m_X12_isMention 3 0 0 11 [(0, .ref 125), (1, .int a1)] [.int v10] _ 0 0 _
    refine x_ifeq (tgt := 34) rfl rfl (ti_eq rfl jk_0 ⟨fun c11 => ?_, fun c11 => ?_⟩)
    ·
      refine x_iconst (v := 0) rfl ki_0 ?_
      refine x_zret rfl rfl (by decide) ?_
      show jX m_X12_wish 4 0 0 10 [(0, .ref 125), (1, .int a1)] [.int 0] _ 0 0 _
      refine x_ifne (tgt := 20) rfl rfl (ti_ne jk_0 jk_0 (bn_f (by omega) ?_))
      refine x_aloadn (x := 125) rfl rfl ?_
      refine x_bipush (v := (-2)) rfl kb_m2 ?_
      refine x_inv (N := m_X12_told) (As := [.int (-2)]) (b := 125) (st := []) (d' := 1) (mc := 0) (ms := 0) (host := "") 12 rfl t_X12_told ⟨Or.inl q_12_197, i_X12_told.1, i_X12_told.2⟩ ⟨by decide, rfl⟩ (congrArg Prod.fst (J.1.1 125 (12, 92) rfl)) rfl (by decide) rfl rfl ⟨by decide, by decide⟩ (sf_X12_told_r125  hD J  (fun v13 h J S12 => ?_))
      have ev13 := jfull v13
      have Sm := jSm_tr rfl Sm S12
      show jX m_X12_wish 4 0 0 19 [(0, .ref 125), (1, .int a1)] [.int v13] _ 0 0 _
      refine x_iret rfl rfl ?_
      exact hQ _ _ J Sm
    ·
      refine x_iloadn (x := a1) rfl rfl ?_
      refine x_iconst (v := 3) rfl ki_3 ?_
      refine z_irem rfl rfl jk_3 (by omega) (by omega) (fun v14 ev14 => ?_)
      refine x_aloadn (x := 125) rfl rfl ?_
      refine x_iloadn (x := a1) rfl rfl ?_
      refine x_iconst (v := 3) rfl ki_3 ?_
      refine z_idiv rfl rfl jk_3 (by omega) (by omega) (fun v15 ev15 => ?_)
      refine x_inv (N := m_X12_bookOf) (As := [.int v15]) (b := 125) (st := [.int v14]) (d' := 2) (mc := 0) (ms := 0) (host := "") 12 rfl t_X12_bookOf ⟨Or.inl q_12_299, i_X12_bookOf.1, i_X12_bookOf.2⟩ ⟨by decide, rfl⟩ (congrArg Prod.fst (J.1.1 125 (12, 92) rfl)) rfl (by decide) rfl rfl ⟨by decide, by decide⟩ (jC.of rfl k_X12_bookOf rfl ?_)
      show jX m_X12_bookOf 2 0 0 0 [(0, .ref 125), (1, .int v15)] [] _ 0 0 _
      refine x_aloadn (x := 125) rfl rfl ?_
      refine z_getR (N := 92) (b := 126) 12 2 rfl f_12_8 rfl J rfl 16002 ⟨rfl, rfl⟩ rfl ?_
      refine x_aloadn (x := 125) rfl rfl ?_
      refine x_iloadn (x := v15) rfl rfl ?_
      refine x_inv (N := m_X12_at) (As := [.int v15]) (b := 125) (st := [.ref 126]) (d' := 1) (mc := 0) (ms := 0) (host := "") 12 rfl t_X12_at ⟨Or.inl q_12_254, i_X12_at.1, i_X12_at.2⟩ ⟨by decide, rfl⟩ (congrArg Prod.fst (J.1.1 125 (12, 92) rfl)) rfl (by decide) rfl rfl ⟨by decide, by decide⟩ (jC.of rfl k_X12_at rfl ?_)
      show jX m_X12_at 1 0 0 0 [(0, .ref 125), (1, .int v15)] [] _ 0 0 _
      refine x_bipush (v := 20) rfl kb_20 ?_
      refine x_bipush (v := 90) rfl kb_90 ?_
      refine x_iloadn (x := v15) rfl rfl ?_
      refine z_imul rfl jk_90 rfl (by omega) (fun v16 ev16 => ?_)
      refine z_iadd rfl jk_20 rfl (by omega) (fun v17 ev17 => ?_)
      refine x_iret rfl rfl ?_
      show jX m_X12_bookOf 2 0 0 9 [(0, .ref 125), (1, .int v15)] [.int v17, .ref 126] _ 0 0 _
      refine z_iald (N := 50660) rfl J rfl sg_126_20_18020_90_0_1 rfl (by omega) (fun v18 qv18 ev18 => ?_)
      refine x_iret rfl rfl ?_
      show jX m_X12_isMention 3 0 0 24 [(0, .ref 125), (1, .int a1)] [.int v18, .int v14] _ 0 0 _
      refine x_inst (N := m_X12_rolesOf) (As := [.int v18]) (st := [.int v14]) (d' := 2) (mc := 0) (ms := 0) (host := "") rfl t_X12_rolesOf ⟨Or.inl q_12_286, s_X12_rolesOf⟩ rfl (by decide) rfl rfl ⟨by decide, by decide⟩ (jC.of rfl k_X12_rolesOf rfl ?_)
      show jX m_X12_rolesOf 2 0 0 0 [(0, .int v18)] [] _ 0 0 _
      refine x_iloadn (x := v18) rfl rfl ?_
      refine x_ifne (tgt := 8) rfl rfl (ti_ne rfl jk_0 ⟨fun c19 => ?_, fun c19 => ?_⟩)
      ·
        refine x_iloadn (x := v18) rfl rfl ?_
        refine x_iconst (v := 1) rfl ki_1 ?_
        refine x_icne (tgt := 17) rfl rfl (ti_ne rfl jk_1 ⟨fun c20 => ?_, fun c20 => ?_⟩)
        ·
          refine x_iconst (v := 1) rfl ki_1 ?_
          refine x_iret rfl rfl ?_
          show jX m_X12_isMention 3 0 0 27 [(0, .ref 125), (1, .int a1)] [.int 1, .int v14] _ 0 0 _
          refine x_icge (tgt := 34) rfl rfl (ti_ge rfl jk_1 ⟨fun c21 => ?_, fun c21 => ?_⟩)
          ·
            refine x_iconst (v := 0) rfl ki_0 ?_
            refine x_zret rfl rfl (by decide) ?_
            show jX m_X12_wish 4 0 0 10 [(0, .ref 125), (1, .int a1)] [.int 0] _ 0 0 _
            refine x_ifne (tgt := 20) rfl rfl (ti_ne jk_0 jk_0 (bn_f (by omega) ?_))
            refine x_aloadn (x := 125) rfl rfl ?_
            refine x_bipush (v := (-2)) rfl kb_m2 ?_
            refine x_inv (N := m_X12_told) (As := [.int (-2)]) (b := 125) (st := []) (d' := 1) (mc := 0) (ms := 0) (host := "") 12 rfl t_X12_told ⟨Or.inl q_12_197, i_X12_told.1, i_X12_told.2⟩ ⟨by decide, rfl⟩ (congrArg Prod.fst (J.1.1 125 (12, 92) rfl)) rfl (by decide) rfl rfl ⟨by decide, by decide⟩ (sf_X12_told_r125  hD J  (fun v23 h J S22 => ?_))
            have ev23 := jfull v23
            have Sm := jSm_tr rfl Sm S22
            show jX m_X12_wish 4 0 0 19 [(0, .ref 125), (1, .int a1)] [.int v23] _ 0 0 _
            refine x_iret rfl rfl ?_
            exact hQ _ _ J Sm
          ·
            refine x_iconst (v := 1) rfl ki_1 ?_
            refine x_goto (tgt := 35) rfl rfl ?_
            refine x_zret rfl rfl (by decide) ?_
            show jX m_X12_wish 4 0 0 10 [(0, .ref 125), (1, .int a1)] [.int 1] _ 0 0 _
            refine x_ifne (tgt := 20) rfl rfl (ti_ne jk_1 jk_0 (bn_t (by omega) ?_))
            refine x_iconst (v := 0) rfl ki_0 ?_
            refine x_istoren (ls' := [(2, .int 0), (0, .ref 125), (1, .int a1)]) rfl rfl rfl ?_
            exact jX.sub (jsb_c rfl (jsb_c rfl (jsb_c rfl jsb_n))) (ct_X12_wish_r125_22 hD hQ  10 a1 0 h (by have := jk_0; omega) (jr_of rfl (by omega)) (jr_of jk_0 (by omega)) J Sm)
        ·
          refine x_iconst (v := 2) rfl ki_2 ?_
          refine x_goto (tgt := 18) rfl rfl ?_
          refine x_iret rfl rfl ?_
          show jX m_X12_isMention 3 0 0 27 [(0, .ref 125), (1, .int a1)] [.int 2, .int v14] _ 0 0 _
          refine x_icge (tgt := 34) rfl rfl (ti_ge rfl jk_2 ⟨fun c24 => ?_, fun c24 => ?_⟩)
          ·
            refine x_iconst (v := 0) rfl ki_0 ?_
            refine x_zret rfl rfl (by decide) ?_
            show jX m_X12_wish 4 0 0 10 [(0, .ref 125), (1, .int a1)] [.int 0] _ 0 0 _
            refine x_ifne (tgt := 20) rfl rfl (ti_ne jk_0 jk_0 (bn_f (by omega) ?_))
            refine x_aloadn (x := 125) rfl rfl ?_
            refine x_bipush (v := (-2)) rfl kb_m2 ?_
            refine x_inv (N := m_X12_told) (As := [.int (-2)]) (b := 125) (st := []) (d' := 1) (mc := 0) (ms := 0) (host := "") 12 rfl t_X12_told ⟨Or.inl q_12_197, i_X12_told.1, i_X12_told.2⟩ ⟨by decide, rfl⟩ (congrArg Prod.fst (J.1.1 125 (12, 92) rfl)) rfl (by decide) rfl rfl ⟨by decide, by decide⟩ (sf_X12_told_r125  hD J  (fun v26 h J S25 => ?_))
            have ev26 := jfull v26
            have Sm := jSm_tr rfl Sm S25
            show jX m_X12_wish 4 0 0 19 [(0, .ref 125), (1, .int a1)] [.int v26] _ 0 0 _
            refine x_iret rfl rfl ?_
            exact hQ _ _ J Sm
          ·
            refine x_iconst (v := 1) rfl ki_1 ?_
            refine x_goto (tgt := 35) rfl rfl ?_
            refine x_zret rfl rfl (by decide) ?_
            show jX m_X12_wish 4 0 0 10 [(0, .ref 125), (1, .int a1)] [.int 1] _ 0 0 _
            refine x_ifne (tgt := 20) rfl rfl (ti_ne jk_1 jk_0 (bn_t (by omega) ?_))
            refine x_iconst (v := 0) rfl ki_0 ?_
            refine x_istoren (ls' := [(2, .int 0), (0, .ref 125), (1, .int a1)]) rfl rfl rfl ?_
            exact jX.sub (jsb_c rfl (jsb_c rfl (jsb_c rfl jsb_n))) (ct_X12_wish_r125_22 hD hQ  10 a1 0 h (by have := jk_0; omega) (jr_of rfl (by omega)) (jr_of jk_0 (by omega)) J Sm)
      ·
        refine x_iconst (v := 3) rfl ki_3 ?_
        refine x_goto (tgt := 18) rfl rfl ?_
        refine x_iret rfl rfl ?_
        show jX m_X12_isMention 3 0 0 27 [(0, .ref 125), (1, .int a1)] [.int 3, .int v14] _ 0 0 _
        refine x_icge (tgt := 34) rfl rfl (ti_ge rfl jk_3 (br_f (by omega) ?_))
        refine x_iconst (v := 1) rfl ki_1 ?_
        refine x_goto (tgt := 35) rfl rfl ?_
        refine x_zret rfl rfl (by decide) ?_
        show jX m_X12_wish 4 0 0 10 [(0, .ref 125), (1, .int a1)] [.int 1] _ 0 0 _
        refine x_ifne (tgt := 20) rfl rfl (ti_ne jk_1 jk_0 (bn_t (by omega) ?_))
        refine x_iconst (v := 0) rfl ki_0 ?_
        refine x_istoren (ls' := [(2, .int 0), (0, .ref 125), (1, .int a1)]) rfl rfl rfl ?_
        exact jX.sub (jsb_c rfl (jsb_c rfl (jsb_c rfl jsb_n))) (ct_X12_wish_r125_22 hD hQ  10 a1 0 h (by have := jk_0; omega) (jr_of rfl (by omega)) (jr_of jk_0 (by omega)) J Sm)
def fp_X12_worth_r125 : jFp := [(125, 0, 1), (137, 0, 80), (138, 0, 2)]
set_option maxRecDepth 100000 in
set_option maxHeartbeats 4000000 in
theorem ct_X12_worth_r125_100040 {Dy : jH → Prop} {h0 : jH} {Q : Option Value → jH → Prop} (hD : jDk Dy) (hQ : ∀ (v : Int32) h', (-1) ≤ v.toInt ∧ v.toInt ≤ 400 → jJ jSgM Dy h' → jSm fp_X12_worth_r125 h0 h' → Q (some (.int v)) h') : ∀ (h : jH), jJ jSgM Dy h → jSm fp_X12_worth_r125 h0 h → jX m_X12_worth 9 0 0 40 [] [.int (-1)] h 0 0 Q := by
  intro  h    J Sm
  refine x_iret rfl rfl ?_
  exact hQ _ _ (jr_of jk_m1 (by omega)) J Sm
set_option maxRecDepth 100000 in
set_option maxHeartbeats 4000000 in
theorem ct_X12_worth_r125_40 {Dy : jH → Prop} {h0 : jH} {Q : Option Value → jH → Prop} (hD : jDk Dy) (hQ : ∀ (v : Int32) h', (-1) ≤ v.toInt ∧ v.toInt ≤ 400 → jJ jSgM Dy h' → jSm fp_X12_worth_r125 h0 h' → Q (some (.int v)) h') : ∀ (s0 : Int32) (h : jH), 0 ≤ s0.toInt ∧ s0.toInt ≤ 400 → jJ jSgM Dy h → jSm fp_X12_worth_r125 h0 h → jX m_X12_worth 9 0 0 40 [] [.int s0] h 0 0 Q := by
  intro s0 h y0   J Sm
  refine x_iret rfl rfl ?_
  exact hQ _ _ (jr_of rfl (by omega)) J Sm
set_option maxRecDepth 100000 in
set_option maxHeartbeats 4000000 in
theorem ct_X12_worth_r125_39 {Dy : jH → Prop} {h0 : jH} {Q : Option Value → jH → Prop} (hD : jDk Dy) (hQ : ∀ (v : Int32) h', (-1) ≤ v.toInt ∧ v.toInt ≤ 400 → jJ jSgM Dy h' → jSm fp_X12_worth_r125 h0 h' → Q (some (.int v)) h') : ∀ (h : jH), jJ jSgM Dy h → jSm fp_X12_worth_r125 h0 h → jX m_X12_worth 9 0 0 39 [] [] h 0 0 Q := by
  intro  h    J Sm
  refine x_iconst (v := (-1)) rfl ki_m1 ?_
  exact jX.sub jsb_n (ct_X12_worth_r125_100040 hD hQ  h J Sm)
set_option maxRecDepth 100000 in
set_option maxHeartbeats 4000000 in
theorem sf_X12_worth_r125 {Dy : jH → Prop} {h : jH} {Q : Option Value → jH → Prop} {a1 : Int32} {a2 : Int32} (hD : jDk Dy) (J : jJ jSgM Dy h) (hQ : ∀ (v : Int32) h', (-1) ≤ v.toInt ∧ v.toInt ≤ 400 → jJ jSgM Dy h' → jSm fp_X12_worth_r125 h h' → Q (some (.int v)) h') : jC m_X12_worth 9 0 0 [.ref 125, .int a1, .int a2] h Q := by
  refine jC.of rfl k_X12_worth rfl ?_
  have Sm := jSm_rf fp_X12_worth_r125 h
  have ea1 := jfull a1
  have ea2 := jfull a2
  show jX m_X12_worth 9 0 0 0 [(0, .ref 125), (1, .int a1), (2, .int a2)] [] _ 0 0 _
  refine x_aloadn (x := 125) rfl rfl ?_
  refine x_iconst (v := 0) rfl ki_0 ?_
  refine z_putI (N := 92) (w := 0) 12 0 rfl f_12_180 rfl (jfin_no TX12 RX12 92 rfl rfl) hD J Sm rfl rfl jk_0 (pw_125_0 (by omega)) rfl (fun h w1 J Sm => ?_)
  refine x_aloadn (x := 125) rfl rfl ?_
  refine x_iloadn (x := a1) rfl rfl ?_
  refine x_inv (N := m_X12_isMention) (As := [.int a1]) (b := 125) (st := []) (d' := 8) (mc := 0) (ms := 0) (host := "") 12 rfl t_X12_isMention ⟨Or.inl q_12_322, i_X12_isMention.1, i_X12_isMention.2⟩ ⟨by decide, rfl⟩ (congrArg Prod.fst (J.1.1 125 (12, 92) rfl)) rfl (by decide) rfl rfl ⟨by decide, by decide⟩ (jC.of rfl k_X12_isMention rfl ?_)
  show jX m_X12_isMention 8 0 0 0 [(0, .ref 125), (1, .int a1)] [] _ 0 0 _
  refine x_iloadn (x := a1) rfl rfl ?_
  refine x_iflt (tgt := 34) rfl rfl (ti_lt rfl jk_0 ⟨fun c2 => ?_, fun c2 => ?_⟩)
  ·
    refine x_iconst (v := 0) rfl ki_0 ?_
    refine x_zret rfl rfl (by decide) ?_
    show jX m_X12_worth 9 0 0 10 [(0, .ref 125), (1, .int a1), (2, .int a2)] [.int 0] _ 0 0 _
    refine x_ifeq (tgt := 39) rfl rfl (ti_eq jk_0 jk_0 (br_t (by omega) ?_))
    exact jX.sub jsb_n (ct_X12_worth_r125_39 hD hQ  h J Sm)
  ·
    refine x_aloadn (x := 125) rfl rfl ?_
    refine x_iloadn (x := a1) rfl rfl ?_
    refine x_iconst (v := 3) rfl ki_3 ?_
    refine z_idiv rfl rfl jk_3 (by omega) (by omega) (fun v3 ev3 => ?_)
    refine x_inv (N := m_X12_isLine) (As := [.int v3]) (b := 125) (st := []) (d' := 7) (mc := 0) (ms := 0) (host := "") 12 rfl t_X12_isLine ⟨Or.inl q_12_293, i_X12_isLine.1, i_X12_isLine.2⟩ ⟨by decide, rfl⟩ (congrArg Prod.fst (J.1.1 125 (12, 92) rfl)) rfl (by decide) rfl rfl ⟨by decide, by decide⟩ (jC.of rfl k_X12_isLine rfl ?_)
    show jX m_X12_isLine 7 0 0 0 [(0, .ref 125), (1, .int v3)] [] _ 0 0 _
    refine x_iloadn (x := v3) rfl rfl ?_
    refine z_i2l rfl rfl (fun v4 ev4 => ?_)
    refine x_lconst (v := 0) rfl kl_0 ?_
    refine x_aloadn (x := 125) rfl rfl ?_
    refine z_getR (N := 92) (b := 126) 12 2 rfl f_12_8 rfl J rfl 16002 ⟨rfl, rfl⟩ rfl ?_
    refine x_iconst (v := 0) rfl ki_0 ?_
    refine z_iald (N := 50660) rfl J rfl sg_126_0_1_1_0_1 jk_0 (by omega) (fun v5 qv5 ev5 => ?_)
    refine z_i2l rfl rfl (fun v6 ev6 => ?_)
    refine x_lconst (v := 1) rfl kl_1 ?_
    refine z_lsub rfl rfl jkl_1 (by omega) (fun v7 ev7 => ?_)
    refine x_inst (N := m_X12_in) (As := [.long v4, .long 0, .long v7]) (st := []) (d' := 1) (mc := 0) (ms := 0) (host := "") rfl t_X12_in ⟨Or.inl q_12_188, s_X12_in⟩ rfl (by decide) rfl rfl ⟨by decide, by decide⟩ (zc_X12_in rfl jkl_0 rfl (fun v8 ev8 => ?_))
    show jX m_X12_isLine 7 0 0 15 [(0, .ref 125), (1, .int v3)] [.int v8] _ 0 0 _
    refine x_zret rfl rfl (jz01 (by omega)) ?_
    show jX m_X12_isMention 8 0 0 11 [(0, .ref 125), (1, .int a1)] [.int v8] _ 0 0 _
    refine x_ifeq (tgt := 34) rfl rfl (ti_eq rfl jk_0 ⟨fun c9 => ?_, fun c9 => ?_⟩)
    ·
      refine x_iconst (v := 0) rfl ki_0 ?_
      refine x_zret rfl rfl (by decide) ?_
      show jX m_X12_worth 9 0 0 10 [(0, .ref 125), (1, .int a1), (2, .int a2)] [.int 0] _ 0 0 _
      refine x_ifeq (tgt := 39) rfl rfl (ti_eq jk_0 jk_0 (br_t (by omega) ?_))
      exact jX.sub jsb_n (ct_X12_worth_r125_39 hD hQ  h J Sm)
    ·
      refine x_iloadn (x := a1) rfl rfl ?_
      refine x_iconst (v := 3) rfl ki_3 ?_
      refine z_irem rfl rfl jk_3 (by omega) (by omega) (fun v10 ev10 => ?_)
      refine x_aloadn (x := 125) rfl rfl ?_
      refine x_iloadn (x := a1) rfl rfl ?_
      refine x_iconst (v := 3) rfl ki_3 ?_
      refine z_idiv rfl rfl jk_3 (by omega) (by omega) (fun v11 ev11 => ?_)
      refine x_inv (N := m_X12_bookOf) (As := [.int v11]) (b := 125) (st := [.int v10]) (d' := 7) (mc := 0) (ms := 0) (host := "") 12 rfl t_X12_bookOf ⟨Or.inl q_12_299, i_X12_bookOf.1, i_X12_bookOf.2⟩ ⟨by decide, rfl⟩ (congrArg Prod.fst (J.1.1 125 (12, 92) rfl)) rfl (by decide) rfl rfl ⟨by decide, by decide⟩ (jC.of rfl k_X12_bookOf rfl ?_)
      show jX m_X12_bookOf 7 0 0 0 [(0, .ref 125), (1, .int v11)] [] _ 0 0 _
      refine x_aloadn (x := 125) rfl rfl ?_
      refine z_getR (N := 92) (b := 126) 12 2 rfl f_12_8 rfl J rfl 16002 ⟨rfl, rfl⟩ rfl ?_
      refine x_aloadn (x := 125) rfl rfl ?_
      refine x_iloadn (x := v11) rfl rfl ?_
      refine x_inv (N := m_X12_at) (As := [.int v11]) (b := 125) (st := [.ref 126]) (d' := 6) (mc := 0) (ms := 0) (host := "") 12 rfl t_X12_at ⟨Or.inl q_12_254, i_X12_at.1, i_X12_at.2⟩ ⟨by decide, rfl⟩ (congrArg Prod.fst (J.1.1 125 (12, 92) rfl)) rfl (by decide) rfl rfl ⟨by decide, by decide⟩ (jC.of rfl k_X12_at rfl ?_)
      show jX m_X12_at 6 0 0 0 [(0, .ref 125), (1, .int v11)] [] _ 0 0 _
      refine x_bipush (v := 20) rfl kb_20 ?_
      refine x_bipush (v := 90) rfl kb_90 ?_
      refine x_iloadn (x := v11) rfl rfl ?_
      refine z_imul rfl jk_90 rfl (by omega) (fun v12 ev12 => ?_)
      refine z_iadd rfl jk_20 rfl (by omega) (fun v13 ev13 => ?_)
      refine x_iret rfl rfl ?_
      show jX m_X12_bookOf 7 0 0 9 [(0, .ref 125), (1, .int v11)] [.int v13, .ref 126] _ 0 0 _
      refine z_iald (N := 50660) rfl J rfl sg_126_20_18020_90_0_1 rfl (by omega) (fun v14 qv14 ev14 => ?_)
      refine x_iret rfl rfl ?_
      show jX m_X12_isMention 8 0 0 24 [(0, .ref 125), (1, .int a1)] [.int v14, .int v10] _ 0 0 _
      refine x_inst (N := m_X12_rolesOf) (As := [.int v14]) (st := [.int v10]) (d' := 7) (mc := 0) (ms := 0) (host := "") rfl t_X12_rolesOf ⟨Or.inl q_12_286, s_X12_rolesOf⟩ rfl (by decide) rfl rfl ⟨by decide, by decide⟩ (jC.of rfl k_X12_rolesOf rfl ?_)
      show jX m_X12_rolesOf 7 0 0 0 [(0, .int v14)] [] _ 0 0 _
      refine x_iloadn (x := v14) rfl rfl ?_
      refine x_ifne (tgt := 8) rfl rfl (ti_ne rfl jk_0 ⟨fun c15 => ?_, fun c15 => ?_⟩)
      ·
        refine x_iloadn (x := v14) rfl rfl ?_
        refine x_iconst (v := 1) rfl ki_1 ?_
        refine x_icne (tgt := 17) rfl rfl (ti_ne rfl jk_1 ⟨fun c16 => ?_, fun c16 => ?_⟩)
        ·
          refine x_iconst (v := 1) rfl ki_1 ?_
          refine x_iret rfl rfl ?_
          show jX m_X12_isMention 8 0 0 27 [(0, .ref 125), (1, .int a1)] [.int 1, .int v10] _ 0 0 _
          refine x_icge (tgt := 34) rfl rfl (ti_ge rfl jk_1 ⟨fun c17 => ?_, fun c17 => ?_⟩)
          ·
            refine x_iconst (v := 0) rfl ki_0 ?_
            refine x_zret rfl rfl (by decide) ?_
            show jX m_X12_worth 9 0 0 10 [(0, .ref 125), (1, .int a1), (2, .int a2)] [.int 0] _ 0 0 _
            refine x_ifeq (tgt := 39) rfl rfl (ti_eq jk_0 jk_0 (br_t (by omega) ?_))
            exact jX.sub jsb_n (ct_X12_worth_r125_39 hD hQ  h J Sm)
          ·
            refine x_iconst (v := 1) rfl ki_1 ?_
            refine x_goto (tgt := 35) rfl rfl ?_
            refine x_zret rfl rfl (by decide) ?_
            show jX m_X12_worth 9 0 0 10 [(0, .ref 125), (1, .int a1), (2, .int a2)] [.int 1] _ 0 0 _
            refine x_ifeq (tgt := 39) rfl rfl (ti_eq jk_1 jk_0 (br_f (by omega) ?_))
            refine x_aloadn (x := 125) rfl rfl ?_
            refine x_iloadn (x := a2) rfl rfl ?_
            refine x_inv (N := m_X12_isMention) (As := [.int a2]) (b := 125) (st := []) (d' := 8) (mc := 0) (ms := 0) (host := "") 12 rfl t_X12_isMention ⟨Or.inl q_12_322, i_X12_isMention.1, i_X12_isMention.2⟩ ⟨by decide, rfl⟩ (congrArg Prod.fst (J.1.1 125 (12, 92) rfl)) rfl (by decide) rfl rfl ⟨by decide, by decide⟩ (jC.of rfl k_X12_isMention rfl ?_)
            show jX m_X12_isMention 8 0 0 0 [(0, .ref 125), (1, .int a2)] [] _ 0 0 _
            refine x_iloadn (x := a2) rfl rfl ?_
            refine x_iflt (tgt := 34) rfl rfl (ti_lt rfl jk_0 ⟨fun c18 => ?_, fun c18 => ?_⟩)
            ·
              refine x_iconst (v := 0) rfl ki_0 ?_
              refine x_zret rfl rfl (by decide) ?_
              show jX m_X12_worth 9 0 0 18 [(0, .ref 125), (1, .int a1), (2, .int a2)] [.int 0] _ 0 0 _
              refine x_ifeq (tgt := 39) rfl rfl (ti_eq jk_0 jk_0 (br_t (by omega) ?_))
              exact jX.sub jsb_n (ct_X12_worth_r125_39 hD hQ  h J Sm)
            ·
              refine x_aloadn (x := 125) rfl rfl ?_
              refine x_iloadn (x := a2) rfl rfl ?_
              refine x_iconst (v := 3) rfl ki_3 ?_
              refine z_idiv rfl rfl jk_3 (by omega) (by omega) (fun v19 ev19 => ?_)
              refine x_inv (N := m_X12_isLine) (As := [.int v19]) (b := 125) (st := []) (d' := 7) (mc := 0) (ms := 0) (host := "") 12 rfl t_X12_isLine ⟨Or.inl q_12_293, i_X12_isLine.1, i_X12_isLine.2⟩ ⟨by decide, rfl⟩ (congrArg Prod.fst (J.1.1 125 (12, 92) rfl)) rfl (by decide) rfl rfl ⟨by decide, by decide⟩ (jC.of rfl k_X12_isLine rfl ?_)
              show jX m_X12_isLine 7 0 0 0 [(0, .ref 125), (1, .int v19)] [] _ 0 0 _
              refine x_iloadn (x := v19) rfl rfl ?_
              refine z_i2l rfl rfl (fun v20 ev20 => ?_)
              refine x_lconst (v := 0) rfl kl_0 ?_
              refine x_aloadn (x := 125) rfl rfl ?_
              refine z_getR (N := 92) (b := 126) 12 2 rfl f_12_8 rfl J rfl 16002 ⟨rfl, rfl⟩ rfl ?_
              refine x_iconst (v := 0) rfl ki_0 ?_
              refine z_ialdM (N := 50660) (v := v5) rfl J rfl jk_0 (by omega) qv5 ?_
              refine z_i2l rfl rfl (fun v21 ev21 => ?_)
              refine x_lconst (v := 1) rfl kl_1 ?_
              refine z_lsub rfl rfl jkl_1 (by omega) (fun v22 ev22 => ?_)
              refine x_inst (N := m_X12_in) (As := [.long v20, .long 0, .long v22]) (st := []) (d' := 1) (mc := 0) (ms := 0) (host := "") rfl t_X12_in ⟨Or.inl q_12_188, s_X12_in⟩ rfl (by decide) rfl rfl ⟨by decide, by decide⟩ (zc_X12_in rfl jkl_0 rfl (fun v23 ev23 => ?_))
              show jX m_X12_isLine 7 0 0 15 [(0, .ref 125), (1, .int v19)] [.int v23] _ 0 0 _
              refine x_zret rfl rfl (jz01 (by omega)) ?_
              show jX m_X12_isMention 8 0 0 11 [(0, .ref 125), (1, .int a2)] [.int v23] _ 0 0 _
              refine x_ifeq (tgt := 34) rfl rfl (ti_eq rfl jk_0 ⟨fun c24 => ?_, fun c24 => ?_⟩)
              ·
                refine x_iconst (v := 0) rfl ki_0 ?_
                refine x_zret rfl rfl (by decide) ?_
                show jX m_X12_worth 9 0 0 18 [(0, .ref 125), (1, .int a1), (2, .int a2)] [.int 0] _ 0 0 _
                refine x_ifeq (tgt := 39) rfl rfl (ti_eq jk_0 jk_0 (br_t (by omega) ?_))
                exact jX.sub jsb_n (ct_X12_worth_r125_39 hD hQ  h J Sm)
              ·
                refine x_iloadn (x := a2) rfl rfl ?_
                refine x_iconst (v := 3) rfl ki_3 ?_
                refine z_irem rfl rfl jk_3 (by omega) (by omega) (fun v25 ev25 => ?_)
                refine x_aloadn (x := 125) rfl rfl ?_
                refine x_iloadn (x := a2) rfl rfl ?_
                refine x_iconst (v := 3) rfl ki_3 ?_
                refine z_idiv rfl rfl jk_3 (by omega) (by omega) (fun v26 ev26 => ?_)
                refine x_inv (N := m_X12_bookOf) (As := [.int v26]) (b := 125) (st := [.int v25]) (d' := 7) (mc := 0) (ms := 0) (host := "") 12 rfl t_X12_bookOf ⟨Or.inl q_12_299, i_X12_bookOf.1, i_X12_bookOf.2⟩ ⟨by decide, rfl⟩ (congrArg Prod.fst (J.1.1 125 (12, 92) rfl)) rfl (by decide) rfl rfl ⟨by decide, by decide⟩ (jC.of rfl k_X12_bookOf rfl ?_)
                show jX m_X12_bookOf 7 0 0 0 [(0, .ref 125), (1, .int v26)] [] _ 0 0 _
                refine x_aloadn (x := 125) rfl rfl ?_
                refine z_getR (N := 92) (b := 126) 12 2 rfl f_12_8 rfl J rfl 16002 ⟨rfl, rfl⟩ rfl ?_
                refine x_aloadn (x := 125) rfl rfl ?_
                refine x_iloadn (x := v26) rfl rfl ?_
                refine x_inv (N := m_X12_at) (As := [.int v26]) (b := 125) (st := [.ref 126]) (d' := 6) (mc := 0) (ms := 0) (host := "") 12 rfl t_X12_at ⟨Or.inl q_12_254, i_X12_at.1, i_X12_at.2⟩ ⟨by decide, rfl⟩ (congrArg Prod.fst (J.1.1 125 (12, 92) rfl)) rfl (by decide) rfl rfl ⟨by decide, by decide⟩ (jC.of rfl k_X12_at rfl ?_)
                show jX m_X12_at 6 0 0 0 [(0, .ref 125), (1, .int v26)] [] _ 0 0 _
                refine x_bipush (v := 20) rfl kb_20 ?_
                refine x_bipush (v := 90) rfl kb_90 ?_
                refine x_iloadn (x := v26) rfl rfl ?_
                refine z_imul rfl jk_90 rfl (by omega) (fun v27 ev27 => ?_)
                refine z_iadd rfl jk_20 rfl (by omega) (fun v28 ev28 => ?_)
                refine x_iret rfl rfl ?_
                show jX m_X12_bookOf 7 0 0 9 [(0, .ref 125), (1, .int v26)] [.int v28, .ref 126] _ 0 0 _
                refine z_iald (N := 50660) rfl J rfl sg_126_20_18020_90_0_1 rfl (by omega) (fun v29 qv29 ev29 => ?_)
                refine x_iret rfl rfl ?_
                show jX m_X12_isMention 8 0 0 24 [(0, .ref 125), (1, .int a2)] [.int v29, .int v25] _ 0 0 _
                refine x_inst (N := m_X12_rolesOf) (As := [.int v29]) (st := [.int v25]) (d' := 7) (mc := 0) (ms := 0) (host := "") rfl t_X12_rolesOf ⟨Or.inl q_12_286, s_X12_rolesOf⟩ rfl (by decide) rfl rfl ⟨by decide, by decide⟩ (jC.of rfl k_X12_rolesOf rfl ?_)
                show jX m_X12_rolesOf 7 0 0 0 [(0, .int v29)] [] _ 0 0 _
                refine x_iloadn (x := v29) rfl rfl ?_
                refine x_ifne (tgt := 8) rfl rfl (ti_ne rfl jk_0 ⟨fun c30 => ?_, fun c30 => ?_⟩)
                ·
                  refine x_iloadn (x := v29) rfl rfl ?_
                  refine x_iconst (v := 1) rfl ki_1 ?_
                  refine x_icne (tgt := 17) rfl rfl (ti_ne rfl jk_1 ⟨fun c31 => ?_, fun c31 => ?_⟩)
                  ·
                    refine x_iconst (v := 1) rfl ki_1 ?_
                    refine x_iret rfl rfl ?_
                    show jX m_X12_isMention 8 0 0 27 [(0, .ref 125), (1, .int a2)] [.int 1, .int v25] _ 0 0 _
                    refine x_icge (tgt := 34) rfl rfl (ti_ge rfl jk_1 ⟨fun c32 => ?_, fun c32 => ?_⟩)
                    ·
                      refine x_iconst (v := 0) rfl ki_0 ?_
                      refine x_zret rfl rfl (by decide) ?_
                      show jX m_X12_worth 9 0 0 18 [(0, .ref 125), (1, .int a1), (2, .int a2)] [.int 0] _ 0 0 _
                      refine x_ifeq (tgt := 39) rfl rfl (ti_eq jk_0 jk_0 (br_t (by omega) ?_))
                      exact jX.sub jsb_n (ct_X12_worth_r125_39 hD hQ  h J Sm)
                    ·
                      refine x_iconst (v := 1) rfl ki_1 ?_
                      refine x_goto (tgt := 35) rfl rfl ?_
                      refine x_zret rfl rfl (by decide) ?_
                      show jX m_X12_worth 9 0 0 18 [(0, .ref 125), (1, .int a1), (2, .int a2)] [.int 1] _ 0 0 _
                      refine x_ifeq (tgt := 39) rfl rfl (ti_eq jk_1 jk_0 (br_f (by omega) ?_))
                      refine x_aloadn (x := 125) rfl rfl ?_
                      refine x_iloadn (x := a1) rfl rfl ?_
                      refine x_iloadn (x := a2) rfl rfl ?_
                      refine x_inv (N := m_X12_why) (As := [.int a1, .int a2]) (b := 125) (st := []) (d' := 6) (mc := 0) (ms := 0) (host := "") 12 rfl t_X12_why ⟨Or.inl q_12_368, i_X12_why.1, i_X12_why.2⟩ ⟨by decide, rfl⟩ (congrArg Prod.fst (J.1.1 125 (12, 92) rfl)) rfl (by decide) rfl rfl ⟨by decide, by decide⟩ (sf_X12_why_r125 (jr_of rfl (by omega)) (jr_of rfl (by omega)) hD J  (fun v34 h ev34 J S33 => ?_))
                      have Sm := jSm_tr rfl Sm S33
                      show jX m_X12_worth 9 0 0 27 [(0, .ref 125), (1, .int a1), (2, .int a2)] [.int v34] _ 0 0 _
                      refine x_ifne (tgt := 39) rfl rfl (ti_ne rfl jk_0 ⟨fun c35 => ?_, fun c35 => ?_⟩)
                      ·
                        exact jX.sub jsb_n (ct_X12_worth_r125_39 hD hQ  h J Sm)
                      ·
                        refine x_aloadn (x := 125) rfl rfl ?_
                        refine x_iloadn (x := a1) rfl rfl ?_
                        refine x_iloadn (x := a2) rfl rfl ?_
                        refine x_inv (N := m_X12_worthOf) (As := [.int a1, .int a2]) (b := 125) (st := []) (d' := 8) (mc := 0) (ms := 0) (host := "") 12 rfl t_X12_worthOf ⟨Or.inl q_12_374, i_X12_worthOf.1, i_X12_worthOf.2⟩ ⟨by decide, rfl⟩ (congrArg Prod.fst (J.1.1 125 (12, 92) rfl)) rfl (by decide) rfl rfl ⟨by decide, by decide⟩ (sf_X12_worthOf_r125 (jr_of rfl (by omega)) (jr_of rfl (by omega)) hD J  (fun v37 h ev37 J S36 => ?_))
                        have Sm := jSm_tr rfl Sm S36
                        show jX m_X12_worth 9 0 0 36 [(0, .ref 125), (1, .int a1), (2, .int a2)] [.int v37] _ 0 0 _
                        refine x_goto (tgt := 40) rfl rfl ?_
                        exact jX.sub jsb_n (ct_X12_worth_r125_40 hD hQ  v37 h (jr_of rfl (by omega)) J Sm)
                  ·
                    refine x_iconst (v := 2) rfl ki_2 ?_
                    refine x_goto (tgt := 18) rfl rfl ?_
                    refine x_iret rfl rfl ?_
                    show jX m_X12_isMention 8 0 0 27 [(0, .ref 125), (1, .int a2)] [.int 2, .int v25] _ 0 0 _
                    refine x_icge (tgt := 34) rfl rfl (ti_ge rfl jk_2 ⟨fun c38 => ?_, fun c38 => ?_⟩)
                    ·
                      refine x_iconst (v := 0) rfl ki_0 ?_
                      refine x_zret rfl rfl (by decide) ?_
                      show jX m_X12_worth 9 0 0 18 [(0, .ref 125), (1, .int a1), (2, .int a2)] [.int 0] _ 0 0 _
                      refine x_ifeq (tgt := 39) rfl rfl (ti_eq jk_0 jk_0 (br_t (by omega) ?_))
                      exact jX.sub jsb_n (ct_X12_worth_r125_39 hD hQ  h J Sm)
                    ·
                      refine x_iconst (v := 1) rfl ki_1 ?_
                      refine x_goto (tgt := 35) rfl rfl ?_
                      refine x_zret rfl rfl (by decide) ?_
                      show jX m_X12_worth 9 0 0 18 [(0, .ref 125), (1, .int a1), (2, .int a2)] [.int 1] _ 0 0 _
                      refine x_ifeq (tgt := 39) rfl rfl (ti_eq jk_1 jk_0 (br_f (by omega) ?_))
                      refine x_aloadn (x := 125) rfl rfl ?_
                      refine x_iloadn (x := a1) rfl rfl ?_
                      refine x_iloadn (x := a2) rfl rfl ?_
                      refine x_inv (N := m_X12_why) (As := [.int a1, .int a2]) (b := 125) (st := []) (d' := 6) (mc := 0) (ms := 0) (host := "") 12 rfl t_X12_why ⟨Or.inl q_12_368, i_X12_why.1, i_X12_why.2⟩ ⟨by decide, rfl⟩ (congrArg Prod.fst (J.1.1 125 (12, 92) rfl)) rfl (by decide) rfl rfl ⟨by decide, by decide⟩ (sf_X12_why_r125 (jr_of rfl (by omega)) (jr_of rfl (by omega)) hD J  (fun v40 h ev40 J S39 => ?_))
                      have Sm := jSm_tr rfl Sm S39
                      show jX m_X12_worth 9 0 0 27 [(0, .ref 125), (1, .int a1), (2, .int a2)] [.int v40] _ 0 0 _
                      refine x_ifne (tgt := 39) rfl rfl (ti_ne rfl jk_0 ⟨fun c41 => ?_, fun c41 => ?_⟩)
                      ·
                        exact jX.sub jsb_n (ct_X12_worth_r125_39 hD hQ  h J Sm)
                      ·
                        refine x_aloadn (x := 125) rfl rfl ?_
                        refine x_iloadn (x := a1) rfl rfl ?_
                        refine x_iloadn (x := a2) rfl rfl ?_
                        refine x_inv (N := m_X12_worthOf) (As := [.int a1, .int a2]) (b := 125) (st := []) (d' := 8) (mc := 0) (ms := 0) (host := "") 12 rfl t_X12_worthOf ⟨Or.inl q_12_374, i_X12_worthOf.1, i_X12_worthOf.2⟩ ⟨by decide, rfl⟩ (congrArg Prod.fst (J.1.1 125 (12, 92) rfl)) rfl (by decide) rfl rfl ⟨by decide, by decide⟩ (sf_X12_worthOf_r125 (jr_of rfl (by omega)) (jr_of rfl (by omega)) hD J  (fun v43 h ev43 J S42 => ?_))
                        have Sm := jSm_tr rfl Sm S42
                        show jX m_X12_worth 9 0 0 36 [(0, .ref 125), (1, .int a1), (2, .int a2)] [.int v43] _ 0 0 _
                        refine x_goto (tgt := 40) rfl rfl ?_
                        exact jX.sub jsb_n (ct_X12_worth_r125_40 hD hQ  v43 h (jr_of rfl (by omega)) J Sm)
                ·
                  refine x_iconst (v := 3) rfl ki_3 ?_
                  refine x_goto (tgt := 18) rfl rfl ?_
                  refine x_iret rfl rfl ?_
                  show jX m_X12_isMention 8 0 0 27 [(0, .ref 125), (1, .int a2)] [.int 3, .int v25] _ 0 0 _
                  refine x_icge (tgt := 34) rfl rfl (ti_ge rfl jk_3 (br_f (by omega) ?_))
                  refine x_iconst (v := 1) rfl ki_1 ?_
                  refine x_goto (tgt := 35) rfl rfl ?_
                  refine x_zret rfl rfl (by decide) ?_
                  show jX m_X12_worth 9 0 0 18 [(0, .ref 125), (1, .int a1), (2, .int a2)] [.int 1] _ 0 0 _
                  refine x_ifeq (tgt := 39) rfl rfl (ti_eq jk_1 jk_0 (br_f (by omega) ?_))
                  refine x_aloadn (x := 125) rfl rfl ?_
                  refine x_iloadn (x := a1) rfl rfl ?_
                  refine x_iloadn (x := a2) rfl rfl ?_
                  refine x_inv (N := m_X12_why) (As := [.int a1, .int a2]) (b := 125) (st := []) (d' := 6) (mc := 0) (ms := 0) (host := "") 12 rfl t_X12_why ⟨Or.inl q_12_368, i_X12_why.1, i_X12_why.2⟩ ⟨by decide, rfl⟩ (congrArg Prod.fst (J.1.1 125 (12, 92) rfl)) rfl (by decide) rfl rfl ⟨by decide, by decide⟩ (sf_X12_why_r125 (jr_of rfl (by omega)) (jr_of rfl (by omega)) hD J  (fun v45 h ev45 J S44 => ?_))
                  have Sm := jSm_tr rfl Sm S44
                  show jX m_X12_worth 9 0 0 27 [(0, .ref 125), (1, .int a1), (2, .int a2)] [.int v45] _ 0 0 _
                  refine x_ifne (tgt := 39) rfl rfl (ti_ne rfl jk_0 ⟨fun c46 => ?_, fun c46 => ?_⟩)
                  ·
                    exact jX.sub jsb_n (ct_X12_worth_r125_39 hD hQ  h J Sm)
                  ·
                    refine x_aloadn (x := 125) rfl rfl ?_
                    refine x_iloadn (x := a1) rfl rfl ?_
                    refine x_iloadn (x := a2) rfl rfl ?_
                    refine x_inv (N := m_X12_worthOf) (As := [.int a1, .int a2]) (b := 125) (st := []) (d' := 8) (mc := 0) (ms := 0) (host := "") 12 rfl t_X12_worthOf ⟨Or.inl q_12_374, i_X12_worthOf.1, i_X12_worthOf.2⟩ ⟨by decide, rfl⟩ (congrArg Prod.fst (J.1.1 125 (12, 92) rfl)) rfl (by decide) rfl rfl ⟨by decide, by decide⟩ (sf_X12_worthOf_r125 (jr_of rfl (by omega)) (jr_of rfl (by omega)) hD J  (fun v48 h ev48 J S47 => ?_))
                    have Sm := jSm_tr rfl Sm S47
                    show jX m_X12_worth 9 0 0 36 [(0, .ref 125), (1, .int a1), (2, .int a2)] [.int v48] _ 0 0 _
                    refine x_goto (tgt := 40) rfl rfl ?_
                    exact jX.sub jsb_n (ct_X12_worth_r125_40 hD hQ  v48 h (jr_of rfl (by omega)) J Sm)
        ·
          refine x_iconst (v := 2) rfl ki_2 ?_
          refine x_goto (tgt := 18) rfl rfl ?_
          refine x_iret rfl rfl ?_
          show jX m_X12_isMention 8 0 0 27 [(0, .ref 125), (1, .int a1)] [.int 2, .int v10] _ 0 0 _
          refine x_icge (tgt := 34) rfl rfl (ti_ge rfl jk_2 ⟨fun c49 => ?_, fun c49 => ?_⟩)
          ·
            refine x_iconst (v := 0) rfl ki_0 ?_
            refine x_zret rfl rfl (by decide) ?_
            show jX m_X12_worth 9 0 0 10 [(0, .ref 125), (1, .int a1), (2, .int a2)] [.int 0] _ 0 0 _
            refine x_ifeq (tgt := 39) rfl rfl (ti_eq jk_0 jk_0 (br_t (by omega) ?_))
            exact jX.sub jsb_n (ct_X12_worth_r125_39 hD hQ  h J Sm)
          ·
            refine x_iconst (v := 1) rfl ki_1 ?_
            refine x_goto (tgt := 35) rfl rfl ?_
            refine x_zret rfl rfl (by decide) ?_
            show jX m_X12_worth 9 0 0 10 [(0, .ref 125), (1, .int a1), (2, .int a2)] [.int 1] _ 0 0 _
            refine x_ifeq (tgt := 39) rfl rfl (ti_eq jk_1 jk_0 (br_f (by omega) ?_))
            refine x_aloadn (x := 125) rfl rfl ?_
            refine x_iloadn (x := a2) rfl rfl ?_
            refine x_inv (N := m_X12_isMention) (As := [.int a2]) (b := 125) (st := []) (d' := 8) (mc := 0) (ms := 0) (host := "") 12 rfl t_X12_isMention ⟨Or.inl q_12_322, i_X12_isMention.1, i_X12_isMention.2⟩ ⟨by decide, rfl⟩ (congrArg Prod.fst (J.1.1 125 (12, 92) rfl)) rfl (by decide) rfl rfl ⟨by decide, by decide⟩ (jC.of rfl k_X12_isMention rfl ?_)
            show jX m_X12_isMention 8 0 0 0 [(0, .ref 125), (1, .int a2)] [] _ 0 0 _
            refine x_iloadn (x := a2) rfl rfl ?_
            refine x_iflt (tgt := 34) rfl rfl (ti_lt rfl jk_0 ⟨fun c50 => ?_, fun c50 => ?_⟩)
            ·
              refine x_iconst (v := 0) rfl ki_0 ?_
              refine x_zret rfl rfl (by decide) ?_
              show jX m_X12_worth 9 0 0 18 [(0, .ref 125), (1, .int a1), (2, .int a2)] [.int 0] _ 0 0 _
              refine x_ifeq (tgt := 39) rfl rfl (ti_eq jk_0 jk_0 (br_t (by omega) ?_))
              exact jX.sub jsb_n (ct_X12_worth_r125_39 hD hQ  h J Sm)
            ·
              refine x_aloadn (x := 125) rfl rfl ?_
              refine x_iloadn (x := a2) rfl rfl ?_
              refine x_iconst (v := 3) rfl ki_3 ?_
              refine z_idiv rfl rfl jk_3 (by omega) (by omega) (fun v51 ev51 => ?_)
              refine x_inv (N := m_X12_isLine) (As := [.int v51]) (b := 125) (st := []) (d' := 7) (mc := 0) (ms := 0) (host := "") 12 rfl t_X12_isLine ⟨Or.inl q_12_293, i_X12_isLine.1, i_X12_isLine.2⟩ ⟨by decide, rfl⟩ (congrArg Prod.fst (J.1.1 125 (12, 92) rfl)) rfl (by decide) rfl rfl ⟨by decide, by decide⟩ (jC.of rfl k_X12_isLine rfl ?_)
              show jX m_X12_isLine 7 0 0 0 [(0, .ref 125), (1, .int v51)] [] _ 0 0 _
              refine x_iloadn (x := v51) rfl rfl ?_
              refine z_i2l rfl rfl (fun v52 ev52 => ?_)
              refine x_lconst (v := 0) rfl kl_0 ?_
              refine x_aloadn (x := 125) rfl rfl ?_
              refine z_getR (N := 92) (b := 126) 12 2 rfl f_12_8 rfl J rfl 16002 ⟨rfl, rfl⟩ rfl ?_
              refine x_iconst (v := 0) rfl ki_0 ?_
              refine z_ialdM (N := 50660) (v := v5) rfl J rfl jk_0 (by omega) qv5 ?_
              refine z_i2l rfl rfl (fun v53 ev53 => ?_)
              refine x_lconst (v := 1) rfl kl_1 ?_
              refine z_lsub rfl rfl jkl_1 (by omega) (fun v54 ev54 => ?_)
              refine x_inst (N := m_X12_in) (As := [.long v52, .long 0, .long v54]) (st := []) (d' := 1) (mc := 0) (ms := 0) (host := "") rfl t_X12_in ⟨Or.inl q_12_188, s_X12_in⟩ rfl (by decide) rfl rfl ⟨by decide, by decide⟩ (zc_X12_in rfl jkl_0 rfl (fun v55 ev55 => ?_))
              show jX m_X12_isLine 7 0 0 15 [(0, .ref 125), (1, .int v51)] [.int v55] _ 0 0 _
              refine x_zret rfl rfl (jz01 (by omega)) ?_
              show jX m_X12_isMention 8 0 0 11 [(0, .ref 125), (1, .int a2)] [.int v55] _ 0 0 _
              refine x_ifeq (tgt := 34) rfl rfl (ti_eq rfl jk_0 ⟨fun c56 => ?_, fun c56 => ?_⟩)
              ·
                refine x_iconst (v := 0) rfl ki_0 ?_
                refine x_zret rfl rfl (by decide) ?_
                show jX m_X12_worth 9 0 0 18 [(0, .ref 125), (1, .int a1), (2, .int a2)] [.int 0] _ 0 0 _
                refine x_ifeq (tgt := 39) rfl rfl (ti_eq jk_0 jk_0 (br_t (by omega) ?_))
                exact jX.sub jsb_n (ct_X12_worth_r125_39 hD hQ  h J Sm)
              ·
                refine x_iloadn (x := a2) rfl rfl ?_
                refine x_iconst (v := 3) rfl ki_3 ?_
                refine z_irem rfl rfl jk_3 (by omega) (by omega) (fun v57 ev57 => ?_)
                refine x_aloadn (x := 125) rfl rfl ?_
                refine x_iloadn (x := a2) rfl rfl ?_
                refine x_iconst (v := 3) rfl ki_3 ?_
                refine z_idiv rfl rfl jk_3 (by omega) (by omega) (fun v58 ev58 => ?_)
                refine x_inv (N := m_X12_bookOf) (As := [.int v58]) (b := 125) (st := [.int v57]) (d' := 7) (mc := 0) (ms := 0) (host := "") 12 rfl t_X12_bookOf ⟨Or.inl q_12_299, i_X12_bookOf.1, i_X12_bookOf.2⟩ ⟨by decide, rfl⟩ (congrArg Prod.fst (J.1.1 125 (12, 92) rfl)) rfl (by decide) rfl rfl ⟨by decide, by decide⟩ (jC.of rfl k_X12_bookOf rfl ?_)
                show jX m_X12_bookOf 7 0 0 0 [(0, .ref 125), (1, .int v58)] [] _ 0 0 _
                refine x_aloadn (x := 125) rfl rfl ?_
                refine z_getR (N := 92) (b := 126) 12 2 rfl f_12_8 rfl J rfl 16002 ⟨rfl, rfl⟩ rfl ?_
                refine x_aloadn (x := 125) rfl rfl ?_
                refine x_iloadn (x := v58) rfl rfl ?_
                refine x_inv (N := m_X12_at) (As := [.int v58]) (b := 125) (st := [.ref 126]) (d' := 6) (mc := 0) (ms := 0) (host := "") 12 rfl t_X12_at ⟨Or.inl q_12_254, i_X12_at.1, i_X12_at.2⟩ ⟨by decide, rfl⟩ (congrArg Prod.fst (J.1.1 125 (12, 92) rfl)) rfl (by decide) rfl rfl ⟨by decide, by decide⟩ (jC.of rfl k_X12_at rfl ?_)
                show jX m_X12_at 6 0 0 0 [(0, .ref 125), (1, .int v58)] [] _ 0 0 _
                refine x_bipush (v := 20) rfl kb_20 ?_
                refine x_bipush (v := 90) rfl kb_90 ?_
                refine x_iloadn (x := v58) rfl rfl ?_
                refine z_imul rfl jk_90 rfl (by omega) (fun v59 ev59 => ?_)
                refine z_iadd rfl jk_20 rfl (by omega) (fun v60 ev60 => ?_)
                refine x_iret rfl rfl ?_
                show jX m_X12_bookOf 7 0 0 9 [(0, .ref 125), (1, .int v58)] [.int v60, .ref 126] _ 0 0 _
                refine z_iald (N := 50660) rfl J rfl sg_126_20_18020_90_0_1 rfl (by omega) (fun v61 qv61 ev61 => ?_)
                refine x_iret rfl rfl ?_
                show jX m_X12_isMention 8 0 0 24 [(0, .ref 125), (1, .int a2)] [.int v61, .int v57] _ 0 0 _
                refine x_inst (N := m_X12_rolesOf) (As := [.int v61]) (st := [.int v57]) (d' := 7) (mc := 0) (ms := 0) (host := "") rfl t_X12_rolesOf ⟨Or.inl q_12_286, s_X12_rolesOf⟩ rfl (by decide) rfl rfl ⟨by decide, by decide⟩ (jC.of rfl k_X12_rolesOf rfl ?_)
                show jX m_X12_rolesOf 7 0 0 0 [(0, .int v61)] [] _ 0 0 _
                refine x_iloadn (x := v61) rfl rfl ?_
                refine x_ifne (tgt := 8) rfl rfl (ti_ne rfl jk_0 ⟨fun c62 => ?_, fun c62 => ?_⟩)
                ·
                  refine x_iloadn (x := v61) rfl rfl ?_
                  refine x_iconst (v := 1) rfl ki_1 ?_
                  refine x_icne (tgt := 17) rfl rfl (ti_ne rfl jk_1 ⟨fun c63 => ?_, fun c63 => ?_⟩)
                  ·
                    refine x_iconst (v := 1) rfl ki_1 ?_
                    refine x_iret rfl rfl ?_
                    show jX m_X12_isMention 8 0 0 27 [(0, .ref 125), (1, .int a2)] [.int 1, .int v57] _ 0 0 _
                    refine x_icge (tgt := 34) rfl rfl (ti_ge rfl jk_1 ⟨fun c64 => ?_, fun c64 => ?_⟩)
                    ·
                      refine x_iconst (v := 0) rfl ki_0 ?_
                      refine x_zret rfl rfl (by decide) ?_
                      show jX m_X12_worth 9 0 0 18 [(0, .ref 125), (1, .int a1), (2, .int a2)] [.int 0] _ 0 0 _
                      refine x_ifeq (tgt := 39) rfl rfl (ti_eq jk_0 jk_0 (br_t (by omega) ?_))
                      exact jX.sub jsb_n (ct_X12_worth_r125_39 hD hQ  h J Sm)
                    ·
                      refine x_iconst (v := 1) rfl ki_1 ?_
                      refine x_goto (tgt := 35) rfl rfl ?_
                      refine x_zret rfl rfl (by decide) ?_
                      show jX m_X12_worth 9 0 0 18 [(0, .ref 125), (1, .int a1), (2, .int a2)] [.int 1] _ 0 0 _
                      refine x_ifeq (tgt := 39) rfl rfl (ti_eq jk_1 jk_0 (br_f (by omega) ?_))
                      refine x_aloadn (x := 125) rfl rfl ?_
                      refine x_iloadn (x := a1) rfl rfl ?_
                      refine x_iloadn (x := a2) rfl rfl ?_
                      refine x_inv (N := m_X12_why) (As := [.int a1, .int a2]) (b := 125) (st := []) (d' := 6) (mc := 0) (ms := 0) (host := "") 12 rfl t_X12_why ⟨Or.inl q_12_368, i_X12_why.1, i_X12_why.2⟩ ⟨by decide, rfl⟩ (congrArg Prod.fst (J.1.1 125 (12, 92) rfl)) rfl (by decide) rfl rfl ⟨by decide, by decide⟩ (sf_X12_why_r125 (jr_of rfl (by omega)) (jr_of rfl (by omega)) hD J  (fun v66 h ev66 J S65 => ?_))
                      have Sm := jSm_tr rfl Sm S65
                      show jX m_X12_worth 9 0 0 27 [(0, .ref 125), (1, .int a1), (2, .int a2)] [.int v66] _ 0 0 _
                      refine x_ifne (tgt := 39) rfl rfl (ti_ne rfl jk_0 ⟨fun c67 => ?_, fun c67 => ?_⟩)
                      ·
                        exact jX.sub jsb_n (ct_X12_worth_r125_39 hD hQ  h J Sm)
                      ·
                        refine x_aloadn (x := 125) rfl rfl ?_
                        refine x_iloadn (x := a1) rfl rfl ?_
                        refine x_iloadn (x := a2) rfl rfl ?_
                        refine x_inv (N := m_X12_worthOf) (As := [.int a1, .int a2]) (b := 125) (st := []) (d' := 8) (mc := 0) (ms := 0) (host := "") 12 rfl t_X12_worthOf ⟨Or.inl q_12_374, i_X12_worthOf.1, i_X12_worthOf.2⟩ ⟨by decide, rfl⟩ (congrArg Prod.fst (J.1.1 125 (12, 92) rfl)) rfl (by decide) rfl rfl ⟨by decide, by decide⟩ (sf_X12_worthOf_r125 (jr_of rfl (by omega)) (jr_of rfl (by omega)) hD J  (fun v69 h ev69 J S68 => ?_))
                        have Sm := jSm_tr rfl Sm S68
                        show jX m_X12_worth 9 0 0 36 [(0, .ref 125), (1, .int a1), (2, .int a2)] [.int v69] _ 0 0 _
                        refine x_goto (tgt := 40) rfl rfl ?_
                        exact jX.sub jsb_n (ct_X12_worth_r125_40 hD hQ  v69 h (jr_of rfl (by omega)) J Sm)
                  ·
                    refine x_iconst (v := 2) rfl ki_2 ?_
                    refine x_goto (tgt := 18) rfl rfl ?_
                    refine x_iret rfl rfl ?_
                    show jX m_X12_isMention 8 0 0 27 [(0, .ref 125), (1, .int a2)] [.int 2, .int v57] _ 0 0 _
                    refine x_icge (tgt := 34) rfl rfl (ti_ge rfl jk_2 ⟨fun c70 => ?_, fun c70 => ?_⟩)
                    ·
                      refine x_iconst (v := 0) rfl ki_0 ?_
                      refine x_zret rfl rfl (by decide) ?_
                      show jX m_X12_worth 9 0 0 18 [(0, .ref 125), (1, .int a1), (2, .int a2)] [.int 0] _ 0 0 _
                      refine x_ifeq (tgt := 39) rfl rfl (ti_eq jk_0 jk_0 (br_t (by omega) ?_))
                      exact jX.sub jsb_n (ct_X12_worth_r125_39 hD hQ  h J Sm)
                    ·
                      refine x_iconst (v := 1) rfl ki_1 ?_
                      refine x_goto (tgt := 35) rfl rfl ?_
                      refine x_zret rfl rfl (by decide) ?_
                      show jX m_X12_worth 9 0 0 18 [(0, .ref 125), (1, .int a1), (2, .int a2)] [.int 1] _ 0 0 _
                      refine x_ifeq (tgt := 39) rfl rfl (ti_eq jk_1 jk_0 (br_f (by omega) ?_))
                      refine x_aloadn (x := 125) rfl rfl ?_
                      refine x_iloadn (x := a1) rfl rfl ?_
                      refine x_iloadn (x := a2) rfl rfl ?_
                      refine x_inv (N := m_X12_why) (As := [.int a1, .int a2]) (b := 125) (st := []) (d' := 6) (mc := 0) (ms := 0) (host := "") 12 rfl t_X12_why ⟨Or.inl q_12_368, i_X12_why.1, i_X12_why.2⟩ ⟨by decide, rfl⟩ (congrArg Prod.fst (J.1.1 125 (12, 92) rfl)) rfl (by decide) rfl rfl ⟨by decide, by decide⟩ (sf_X12_why_r125 (jr_of rfl (by omega)) (jr_of rfl (by omega)) hD J  (fun v72 h ev72 J S71 => ?_))
                      have Sm := jSm_tr rfl Sm S71
                      show jX m_X12_worth 9 0 0 27 [(0, .ref 125), (1, .int a1), (2, .int a2)] [.int v72] _ 0 0 _
                      refine x_ifne (tgt := 39) rfl rfl (ti_ne rfl jk_0 ⟨fun c73 => ?_, fun c73 => ?_⟩)
                      ·
                        exact jX.sub jsb_n (ct_X12_worth_r125_39 hD hQ  h J Sm)
                      ·
                        refine x_aloadn (x := 125) rfl rfl ?_
                        refine x_iloadn (x := a1) rfl rfl ?_
                        refine x_iloadn (x := a2) rfl rfl ?_
                        refine x_inv (N := m_X12_worthOf) (As := [.int a1, .int a2]) (b := 125) (st := []) (d' := 8) (mc := 0) (ms := 0) (host := "") 12 rfl t_X12_worthOf ⟨Or.inl q_12_374, i_X12_worthOf.1, i_X12_worthOf.2⟩ ⟨by decide, rfl⟩ (congrArg Prod.fst (J.1.1 125 (12, 92) rfl)) rfl (by decide) rfl rfl ⟨by decide, by decide⟩ (sf_X12_worthOf_r125 (jr_of rfl (by omega)) (jr_of rfl (by omega)) hD J  (fun v75 h ev75 J S74 => ?_))
                        have Sm := jSm_tr rfl Sm S74
                        show jX m_X12_worth 9 0 0 36 [(0, .ref 125), (1, .int a1), (2, .int a2)] [.int v75] _ 0 0 _
                        refine x_goto (tgt := 40) rfl rfl ?_
                        exact jX.sub jsb_n (ct_X12_worth_r125_40 hD hQ  v75 h (jr_of rfl (by omega)) J Sm)
                ·
                  refine x_iconst (v := 3) rfl ki_3 ?_
                  refine x_goto (tgt := 18) rfl rfl ?_
                  refine x_iret rfl rfl ?_
                  show jX m_X12_isMention 8 0 0 27 [(0, .ref 125), (1, .int a2)] [.int 3, .int v57] _ 0 0 _
                  refine x_icge (tgt := 34) rfl rfl (ti_ge rfl jk_3 (br_f (by omega) ?_))
                  refine x_iconst (v := 1) rfl ki_1 ?_
                  refine x_goto (tgt := 35) rfl rfl ?_
                  refine x_zret rfl rfl (by decide) ?_
                  show jX m_X12_worth 9 0 0 18 [(0, .ref 125), (1, .int a1), (2, .int a2)] [.int 1] _ 0 0 _
                  refine x_ifeq (tgt := 39) rfl rfl (ti_eq jk_1 jk_0 (br_f (by omega) ?_))
                  refine x_aloadn (x := 125) rfl rfl ?_
                  refine x_iloadn (x := a1) rfl rfl ?_
                  refine x_iloadn (x := a2) rfl rfl ?_
                  refine x_inv (N := m_X12_why) (As := [.int a1, .int a2]) (b := 125) (st := []) (d' := 6) (mc := 0) (ms := 0) (host := "") 12 rfl t_X12_why ⟨Or.inl q_12_368, i_X12_why.1, i_X12_why.2⟩ ⟨by decide, rfl⟩ (congrArg Prod.fst (J.1.1 125 (12, 92) rfl)) rfl (by decide) rfl rfl ⟨by decide, by decide⟩ (sf_X12_why_r125 (jr_of rfl (by omega)) (jr_of rfl (by omega)) hD J  (fun v77 h ev77 J S76 => ?_))
                  have Sm := jSm_tr rfl Sm S76
                  show jX m_X12_worth 9 0 0 27 [(0, .ref 125), (1, .int a1), (2, .int a2)] [.int v77] _ 0 0 _
                  refine x_ifne (tgt := 39) rfl rfl (ti_ne rfl jk_0 ⟨fun c78 => ?_, fun c78 => ?_⟩)
                  ·
                    exact jX.sub jsb_n (ct_X12_worth_r125_39 hD hQ  h J Sm)
                  ·
                    refine x_aloadn (x := 125) rfl rfl ?_
                    refine x_iloadn (x := a1) rfl rfl ?_
                    refine x_iloadn (x := a2) rfl rfl ?_
                    refine x_inv (N := m_X12_worthOf) (As := [.int a1, .int a2]) (b := 125) (st := []) (d' := 8) (mc := 0) (ms := 0) (host := "") 12 rfl t_X12_worthOf ⟨Or.inl q_12_374, i_X12_worthOf.1, i_X12_worthOf.2⟩ ⟨by decide, rfl⟩ (congrArg Prod.fst (J.1.1 125 (12, 92) rfl)) rfl (by decide) rfl rfl ⟨by decide, by decide⟩ (sf_X12_worthOf_r125 (jr_of rfl (by omega)) (jr_of rfl (by omega)) hD J  (fun v80 h ev80 J S79 => ?_))
                    have Sm := jSm_tr rfl Sm S79
                    show jX m_X12_worth 9 0 0 36 [(0, .ref 125), (1, .int a1), (2, .int a2)] [.int v80] _ 0 0 _
                    refine x_goto (tgt := 40) rfl rfl ?_
                    exact jX.sub jsb_n (ct_X12_worth_r125_40 hD hQ  v80 h (jr_of rfl (by omega)) J Sm)
      ·
        refine x_iconst (v := 3) rfl ki_3 ?_
        refine x_goto (tgt := 18) rfl rfl ?_
        refine x_iret rfl rfl ?_
        show jX m_X12_isMention 8 0 0 27 [(0, .ref 125), (1, .int a1)] [.int 3, .int v10] _ 0 0 _
        refine x_icge (tgt := 34) rfl rfl (ti_ge rfl jk_3 (br_f (by omega) ?_))
        refine x_iconst (v := 1) rfl ki_1 ?_
        refine x_goto (tgt := 35) rfl rfl ?_
        refine x_zret rfl rfl (by decide) ?_
        show jX m_X12_worth 9 0 0 10 [(0, .ref 125), (1, .int a1), (2, .int a2)] [.int 1] _ 0 0 _
        refine x_ifeq (tgt := 39) rfl rfl (ti_eq jk_1 jk_0 (br_f (by omega) ?_))
        refine x_aloadn (x := 125) rfl rfl ?_
        refine x_iloadn (x := a2) rfl rfl ?_
        refine x_inv (N := m_X12_isMention) (As := [.int a2]) (b := 125) (st := []) (d' := 8) (mc := 0) (ms := 0) (host := "") 12 rfl t_X12_isMention ⟨Or.inl q_12_322, i_X12_isMention.1, i_X12_isMention.2⟩ ⟨by decide, rfl⟩ (congrArg Prod.fst (J.1.1 125 (12, 92) rfl)) rfl (by decide) rfl rfl ⟨by decide, by decide⟩ (jC.of rfl k_X12_isMention rfl ?_)
        show jX m_X12_isMention 8 0 0 0 [(0, .ref 125), (1, .int a2)] [] _ 0 0 _
        refine x_iloadn (x := a2) rfl rfl ?_
        refine x_iflt (tgt := 34) rfl rfl (ti_lt rfl jk_0 ⟨fun c81 => ?_, fun c81 => ?_⟩)
        ·
          refine x_iconst (v := 0) rfl ki_0 ?_
          refine x_zret rfl rfl (by decide) ?_
          show jX m_X12_worth 9 0 0 18 [(0, .ref 125), (1, .int a1), (2, .int a2)] [.int 0] _ 0 0 _
          refine x_ifeq (tgt := 39) rfl rfl (ti_eq jk_0 jk_0 (br_t (by omega) ?_))
          exact jX.sub jsb_n (ct_X12_worth_r125_39 hD hQ  h J Sm)
        ·
          refine x_aloadn (x := 125) rfl rfl ?_
          refine x_iloadn (x := a2) rfl rfl ?_
          refine x_iconst (v := 3) rfl ki_3 ?_
          refine z_idiv rfl rfl jk_3 (by omega) (by omega) (fun v82 ev82 => ?_)
          refine x_inv (N := m_X12_isLine) (As := [.int v82]) (b := 125) (st := []) (d' := 7) (mc := 0) (ms := 0) (host := "") 12 rfl t_X12_isLine ⟨Or.inl q_12_293, i_X12_isLine.1, i_X12_isLine.2⟩ ⟨by decide, rfl⟩ (congrArg Prod.fst (J.1.1 125 (12, 92) rfl)) rfl (by decide) rfl rfl ⟨by decide, by decide⟩ (jC.of rfl k_X12_isLine rfl ?_)
          show jX m_X12_isLine 7 0 0 0 [(0, .ref 125), (1, .int v82)] [] _ 0 0 _
          refine x_iloadn (x := v82) rfl rfl ?_
          refine z_i2l rfl rfl (fun v83 ev83 => ?_)
          refine x_lconst (v := 0) rfl kl_0 ?_
          refine x_aloadn (x := 125) rfl rfl ?_
          refine z_getR (N := 92) (b := 126) 12 2 rfl f_12_8 rfl J rfl 16002 ⟨rfl, rfl⟩ rfl ?_
          refine x_iconst (v := 0) rfl ki_0 ?_
          refine z_ialdM (N := 50660) (v := v5) rfl J rfl jk_0 (by omega) qv5 ?_
          refine z_i2l rfl rfl (fun v84 ev84 => ?_)
          refine x_lconst (v := 1) rfl kl_1 ?_
          refine z_lsub rfl rfl jkl_1 (by omega) (fun v85 ev85 => ?_)
          refine x_inst (N := m_X12_in) (As := [.long v83, .long 0, .long v85]) (st := []) (d' := 1) (mc := 0) (ms := 0) (host := "") rfl t_X12_in ⟨Or.inl q_12_188, s_X12_in⟩ rfl (by decide) rfl rfl ⟨by decide, by decide⟩ (zc_X12_in rfl jkl_0 rfl (fun v86 ev86 => ?_))
          show jX m_X12_isLine 7 0 0 15 [(0, .ref 125), (1, .int v82)] [.int v86] _ 0 0 _
          refine x_zret rfl rfl (jz01 (by omega)) ?_
          show jX m_X12_isMention 8 0 0 11 [(0, .ref 125), (1, .int a2)] [.int v86] _ 0 0 _
          refine x_ifeq (tgt := 34) rfl rfl (ti_eq rfl jk_0 ⟨fun c87 => ?_, fun c87 => ?_⟩)
          ·
            refine x_iconst (v := 0) rfl ki_0 ?_
            refine x_zret rfl rfl (by decide) ?_
            show jX m_X12_worth 9 0 0 18 [(0, .ref 125), (1, .int a1), (2, .int a2)] [.int 0] _ 0 0 _
            refine x_ifeq (tgt := 39) rfl rfl (ti_eq jk_0 jk_0 (br_t (by omega) ?_))
            exact jX.sub jsb_n (ct_X12_worth_r125_39 hD hQ  h J Sm)
          ·
            refine x_iloadn (x := a2) rfl rfl ?_
            refine x_iconst (v := 3) rfl ki_3 ?_
            refine z_irem rfl rfl jk_3 (by omega) (by omega) (fun v88 ev88 => ?_)
            refine x_aloadn (x := 125) rfl rfl ?_
            refine x_iloadn (x := a2) rfl rfl ?_
            refine x_iconst (v := 3) rfl ki_3 ?_
            refine z_idiv rfl rfl jk_3 (by omega) (by omega) (fun v89 ev89 => ?_)
            refine x_inv (N := m_X12_bookOf) (As := [.int v89]) (b := 125) (st := [.int v88]) (d' := 7) (mc := 0) (ms := 0) (host := "") 12 rfl t_X12_bookOf ⟨Or.inl q_12_299, i_X12_bookOf.1, i_X12_bookOf.2⟩ ⟨by decide, rfl⟩ (congrArg Prod.fst (J.1.1 125 (12, 92) rfl)) rfl (by decide) rfl rfl ⟨by decide, by decide⟩ (jC.of rfl k_X12_bookOf rfl ?_)
            show jX m_X12_bookOf 7 0 0 0 [(0, .ref 125), (1, .int v89)] [] _ 0 0 _
            refine x_aloadn (x := 125) rfl rfl ?_
            refine z_getR (N := 92) (b := 126) 12 2 rfl f_12_8 rfl J rfl 16002 ⟨rfl, rfl⟩ rfl ?_
            refine x_aloadn (x := 125) rfl rfl ?_
            refine x_iloadn (x := v89) rfl rfl ?_
            refine x_inv (N := m_X12_at) (As := [.int v89]) (b := 125) (st := [.ref 126]) (d' := 6) (mc := 0) (ms := 0) (host := "") 12 rfl t_X12_at ⟨Or.inl q_12_254, i_X12_at.1, i_X12_at.2⟩ ⟨by decide, rfl⟩ (congrArg Prod.fst (J.1.1 125 (12, 92) rfl)) rfl (by decide) rfl rfl ⟨by decide, by decide⟩ (jC.of rfl k_X12_at rfl ?_)
            show jX m_X12_at 6 0 0 0 [(0, .ref 125), (1, .int v89)] [] _ 0 0 _
            refine x_bipush (v := 20) rfl kb_20 ?_
            refine x_bipush (v := 90) rfl kb_90 ?_
            refine x_iloadn (x := v89) rfl rfl ?_
            refine z_imul rfl jk_90 rfl (by omega) (fun v90 ev90 => ?_)
            refine z_iadd rfl jk_20 rfl (by omega) (fun v91 ev91 => ?_)
            refine x_iret rfl rfl ?_
            show jX m_X12_bookOf 7 0 0 9 [(0, .ref 125), (1, .int v89)] [.int v91, .ref 126] _ 0 0 _
            refine z_iald (N := 50660) rfl J rfl sg_126_20_18020_90_0_1 rfl (by omega) (fun v92 qv92 ev92 => ?_)
            refine x_iret rfl rfl ?_
            show jX m_X12_isMention 8 0 0 24 [(0, .ref 125), (1, .int a2)] [.int v92, .int v88] _ 0 0 _
            refine x_inst (N := m_X12_rolesOf) (As := [.int v92]) (st := [.int v88]) (d' := 7) (mc := 0) (ms := 0) (host := "") rfl t_X12_rolesOf ⟨Or.inl q_12_286, s_X12_rolesOf⟩ rfl (by decide) rfl rfl ⟨by decide, by decide⟩ (jC.of rfl k_X12_rolesOf rfl ?_)
            show jX m_X12_rolesOf 7 0 0 0 [(0, .int v92)] [] _ 0 0 _
            refine x_iloadn (x := v92) rfl rfl ?_
            refine x_ifne (tgt := 8) rfl rfl (ti_ne rfl jk_0 ⟨fun c93 => ?_, fun c93 => ?_⟩)
            ·
              refine x_iloadn (x := v92) rfl rfl ?_
              refine x_iconst (v := 1) rfl ki_1 ?_
              refine x_icne (tgt := 17) rfl rfl (ti_ne rfl jk_1 ⟨fun c94 => ?_, fun c94 => ?_⟩)
              ·
                refine x_iconst (v := 1) rfl ki_1 ?_
                refine x_iret rfl rfl ?_
                show jX m_X12_isMention 8 0 0 27 [(0, .ref 125), (1, .int a2)] [.int 1, .int v88] _ 0 0 _
                refine x_icge (tgt := 34) rfl rfl (ti_ge rfl jk_1 ⟨fun c95 => ?_, fun c95 => ?_⟩)
                ·
                  refine x_iconst (v := 0) rfl ki_0 ?_
                  refine x_zret rfl rfl (by decide) ?_
                  show jX m_X12_worth 9 0 0 18 [(0, .ref 125), (1, .int a1), (2, .int a2)] [.int 0] _ 0 0 _
                  refine x_ifeq (tgt := 39) rfl rfl (ti_eq jk_0 jk_0 (br_t (by omega) ?_))
                  exact jX.sub jsb_n (ct_X12_worth_r125_39 hD hQ  h J Sm)
                ·
                  refine x_iconst (v := 1) rfl ki_1 ?_
                  refine x_goto (tgt := 35) rfl rfl ?_
                  refine x_zret rfl rfl (by decide) ?_
                  show jX m_X12_worth 9 0 0 18 [(0, .ref 125), (1, .int a1), (2, .int a2)] [.int 1] _ 0 0 _
                  refine x_ifeq (tgt := 39) rfl rfl (ti_eq jk_1 jk_0 (br_f (by omega) ?_))
                  refine x_aloadn (x := 125) rfl rfl ?_
                  refine x_iloadn (x := a1) rfl rfl ?_
                  refine x_iloadn (x := a2) rfl rfl ?_
                  refine x_inv (N := m_X12_why) (As := [.int a1, .int a2]) (b := 125) (st := []) (d' := 6) (mc := 0) (ms := 0) (host := "") 12 rfl t_X12_why ⟨Or.inl q_12_368, i_X12_why.1, i_X12_why.2⟩ ⟨by decide, rfl⟩ (congrArg Prod.fst (J.1.1 125 (12, 92) rfl)) rfl (by decide) rfl rfl ⟨by decide, by decide⟩ (sf_X12_why_r125 (jr_of rfl (by omega)) (jr_of rfl (by omega)) hD J  (fun v97 h ev97 J S96 => ?_))
                  have Sm := jSm_tr rfl Sm S96
                  show jX m_X12_worth 9 0 0 27 [(0, .ref 125), (1, .int a1), (2, .int a2)] [.int v97] _ 0 0 _
                  refine x_ifne (tgt := 39) rfl rfl (ti_ne rfl jk_0 ⟨fun c98 => ?_, fun c98 => ?_⟩)
                  ·
                    exact jX.sub jsb_n (ct_X12_worth_r125_39 hD hQ  h J Sm)
                  ·
                    refine x_aloadn (x := 125) rfl rfl ?_
                    refine x_iloadn (x := a1) rfl rfl ?_
                    refine x_iloadn (x := a2) rfl rfl ?_
                    refine x_inv (N := m_X12_worthOf) (As := [.int a1, .int a2]) (b := 125) (st := []) (d' := 8) (mc := 0) (ms := 0) (host := "") 12 rfl t_X12_worthOf ⟨Or.inl q_12_374, i_X12_worthOf.1, i_X12_worthOf.2⟩ ⟨by decide, rfl⟩ (congrArg Prod.fst (J.1.1 125 (12, 92) rfl)) rfl (by decide) rfl rfl ⟨by decide, by decide⟩ (sf_X12_worthOf_r125 (jr_of rfl (by omega)) (jr_of rfl (by omega)) hD J  (fun v100 h ev100 J S99 => ?_))
                    have Sm := jSm_tr rfl Sm S99
                    show jX m_X12_worth 9 0 0 36 [(0, .ref 125), (1, .int a1), (2, .int a2)] [.int v100] _ 0 0 _
                    refine x_goto (tgt := 40) rfl rfl ?_
                    exact jX.sub jsb_n (ct_X12_worth_r125_40 hD hQ  v100 h (jr_of rfl (by omega)) J Sm)
              ·
                refine x_iconst (v := 2) rfl ki_2 ?_
                refine x_goto (tgt := 18) rfl rfl ?_
                refine x_iret rfl rfl ?_
                show jX m_X12_isMention 8 0 0 27 [(0, .ref 125), (1, .int a2)] [.int 2, .int v88] _ 0 0 _
                refine x_icge (tgt := 34) rfl rfl (ti_ge rfl jk_2 ⟨fun c101 => ?_, fun c101 => ?_⟩)
                ·
                  refine x_iconst (v := 0) rfl ki_0 ?_
                  refine x_zret rfl rfl (by decide) ?_
                  show jX m_X12_worth 9 0 0 18 [(0, .ref 125), (1, .int a1), (2, .int a2)] [.int 0] _ 0 0 _
                  refine x_ifeq (tgt := 39) rfl rfl (ti_eq jk_0 jk_0 (br_t (by omega) ?_))
                  exact jX.sub jsb_n (ct_X12_worth_r125_39 hD hQ  h J Sm)
                ·
                  refine x_iconst (v := 1) rfl ki_1 ?_
                  refine x_goto (tgt := 35) rfl rfl ?_
                  refine x_zret rfl rfl (by decide) ?_
                  show jX m_X12_worth 9 0 0 18 [(0, .ref 125), (1, .int a1), (2, .int a2)] [.int 1] _ 0 0 _
                  refine x_ifeq (tgt := 39) rfl rfl (ti_eq jk_1 jk_0 (br_f (by omega) ?_))
                  refine x_aloadn (x := 125) rfl rfl ?_
                  refine x_iloadn (x := a1) rfl rfl ?_
                  refine x_iloadn (x := a2) rfl rfl ?_
                  refine x_inv (N := m_X12_why) (As := [.int a1, .int a2]) (b := 125) (st := []) (d' := 6) (mc := 0) (ms := 0) (host := "") 12 rfl t_X12_why ⟨Or.inl q_12_368, i_X12_why.1, i_X12_why.2⟩ ⟨by decide, rfl⟩ (congrArg Prod.fst (J.1.1 125 (12, 92) rfl)) rfl (by decide) rfl rfl ⟨by decide, by decide⟩ (sf_X12_why_r125 (jr_of rfl (by omega)) (jr_of rfl (by omega)) hD J  (fun v103 h ev103 J S102 => ?_))
                  have Sm := jSm_tr rfl Sm S102
                  show jX m_X12_worth 9 0 0 27 [(0, .ref 125), (1, .int a1), (2, .int a2)] [.int v103] _ 0 0 _
                  refine x_ifne (tgt := 39) rfl rfl (ti_ne rfl jk_0 ⟨fun c104 => ?_, fun c104 => ?_⟩)
                  ·
                    exact jX.sub jsb_n (ct_X12_worth_r125_39 hD hQ  h J Sm)
                  ·
                    refine x_aloadn (x := 125) rfl rfl ?_
                    refine x_iloadn (x := a1) rfl rfl ?_
                    refine x_iloadn (x := a2) rfl rfl ?_
                    refine x_inv (N := m_X12_worthOf) (As := [.int a1, .int a2]) (b := 125) (st := []) (d' := 8) (mc := 0) (ms := 0) (host := "") 12 rfl t_X12_worthOf ⟨Or.inl q_12_374, i_X12_worthOf.1, i_X12_worthOf.2⟩ ⟨by decide, rfl⟩ (congrArg Prod.fst (J.1.1 125 (12, 92) rfl)) rfl (by decide) rfl rfl ⟨by decide, by decide⟩ (sf_X12_worthOf_r125 (jr_of rfl (by omega)) (jr_of rfl (by omega)) hD J  (fun v106 h ev106 J S105 => ?_))
                    have Sm := jSm_tr rfl Sm S105
                    show jX m_X12_worth 9 0 0 36 [(0, .ref 125), (1, .int a1), (2, .int a2)] [.int v106] _ 0 0 _
                    refine x_goto (tgt := 40) rfl rfl ?_
                    exact jX.sub jsb_n (ct_X12_worth_r125_40 hD hQ  v106 h (jr_of rfl (by omega)) J Sm)
            ·
              refine x_iconst (v := 3) rfl ki_3 ?_
              refine x_goto (tgt := 18) rfl rfl ?_
              refine x_iret rfl rfl ?_
              show jX m_X12_isMention 8 0 0 27 [(0, .ref 125), (1, .int a2)] [.int 3, .int v88] _ 0 0 _
              refine x_icge (tgt := 34) rfl rfl (ti_ge rfl jk_3 (br_f (by omega) ?_))
              refine x_iconst (v := 1) rfl ki_1 ?_
              refine x_goto (tgt := 35) rfl rfl ?_
              refine x_zret rfl rfl (by decide) ?_
              show jX m_X12_worth 9 0 0 18 [(0, .ref 125), (1, .int a1), (2, .int a2)] [.int 1] _ 0 0 _
              refine x_ifeq (tgt := 39) rfl rfl (ti_eq jk_1 jk_0 (br_f (by omega) ?_))
              refine x_aloadn (x := 125) rfl rfl ?_
              refine x_iloadn (x := a1) rfl rfl ?_
              refine x_iloadn (x := a2) rfl rfl ?_
              refine x_inv (N := m_X12_why) (As := [.int a1, .int a2]) (b := 125) (st := []) (d' := 6) (mc := 0) (ms := 0) (host := "") 12 rfl t_X12_why ⟨Or.inl q_12_368, i_X12_why.1, i_X12_why.2⟩ ⟨by decide, rfl⟩ (congrArg Prod.fst (J.1.1 125 (12, 92) rfl)) rfl (by decide) rfl rfl ⟨by decide, by decide⟩ (sf_X12_why_r125 (jr_of rfl (by omega)) (jr_of rfl (by omega)) hD J  (fun v108 h ev108 J S107 => ?_))
              have Sm := jSm_tr rfl Sm S107
              show jX m_X12_worth 9 0 0 27 [(0, .ref 125), (1, .int a1), (2, .int a2)] [.int v108] _ 0 0 _
              refine x_ifne (tgt := 39) rfl rfl (ti_ne rfl jk_0 ⟨fun c109 => ?_, fun c109 => ?_⟩)
              ·
                exact jX.sub jsb_n (ct_X12_worth_r125_39 hD hQ  h J Sm)
              ·
                refine x_aloadn (x := 125) rfl rfl ?_
                refine x_iloadn (x := a1) rfl rfl ?_
                refine x_iloadn (x := a2) rfl rfl ?_
                refine x_inv (N := m_X12_worthOf) (As := [.int a1, .int a2]) (b := 125) (st := []) (d' := 8) (mc := 0) (ms := 0) (host := "") 12 rfl t_X12_worthOf ⟨Or.inl q_12_374, i_X12_worthOf.1, i_X12_worthOf.2⟩ ⟨by decide, rfl⟩ (congrArg Prod.fst (J.1.1 125 (12, 92) rfl)) rfl (by decide) rfl rfl ⟨by decide, by decide⟩ (sf_X12_worthOf_r125 (jr_of rfl (by omega)) (jr_of rfl (by omega)) hD J  (fun v111 h ev111 J S110 => ?_))
                have Sm := jSm_tr rfl Sm S110
                show jX m_X12_worth 9 0 0 36 [(0, .ref 125), (1, .int a1), (2, .int a2)] [.int v111] _ 0 0 _
                refine x_goto (tgt := 40) rfl rfl ?_
                exact jX.sub jsb_n (ct_X12_worth_r125_40 hD hQ  v111 h (jr_of rfl (by omega)) J Sm)
