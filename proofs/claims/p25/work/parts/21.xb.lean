def fp_X0_combine : jFp := []
set_option maxRecDepth 100000 in
set_option maxHeartbeats 4000000 in
theorem ct_X0_combine_5000089 {Dy : jH → Prop} {h0 : jH} {Q : Option Value → jH → Prop} (hD : jDk Dy) (hQ : ∀ (v : Int64) hx9, jJ jSgX Dy hx9 → jSm fp_X0_combine h0 hx9 → Q (some (.long v)) hx9) : ∀ (h : jH), jJ jSgX Dy h → jSm fp_X0_combine h0 h → jX m_X0_combine 2 0 0 89 [] [.long (-2000000000000)] h 0 0 Q := by
  intro  h    J Sm
  refine x_lret rfl rfl ?_
  exact hQ _ _ J Sm
set_option maxRecDepth 100000 in
set_option maxHeartbeats 4000000 in
theorem ct_X0_combine_89 {Dy : jH → Prop} {h0 : jH} {Q : Option Value → jH → Prop} (hD : jDk Dy) (hQ : ∀ (v : Int64) hx9, jJ jSgX Dy hx9 → jSm fp_X0_combine h0 hx9 → Q (some (.long v)) hx9) : ∀ (s0 : Int64) (h : jH), jJ jSgX Dy h → jSm fp_X0_combine h0 h → jX m_X0_combine 2 0 0 89 [] [.long s0] h 0 0 Q := by
  intro s0 h    J Sm
  have es0 := jfullL s0
  refine x_lret rfl rfl ?_
  exact hQ _ _ J Sm
set_option maxRecDepth 100000 in
set_option maxHeartbeats 4000000 in
theorem ct_X0_combine_86 {Dy : jH → Prop} {h0 : jH} {Q : Option Value → jH → Prop} (hD : jDk Dy) (hQ : ∀ (v : Int64) hx9, jJ jSgX Dy hx9 → jSm fp_X0_combine h0 hx9 → Q (some (.long v)) hx9) : ∀ (l1 : Int64) (l3 : Int64) (h : jH), jJ jSgX Dy h → jSm fp_X0_combine h0 h → jX m_X0_combine 2 0 0 86 [(1, .long l1), (3, .long l3)] [] h 0 0 Q := by
  intro l1 l3 h    J Sm
  have el1 := jfullL l1
  have el3 := jfullL l3
  refine x_lloadn (x := l1) rfl rfl ?_
  refine x_lloadn (x := l3) rfl rfl ?_
  refine z_lmul0 rfl (fun v1 => ?_)
  have ev1 := jfullL v1
  exact jX.sub jsb_n (ct_X0_combine_89 hD hQ  v1 h J Sm)
set_option maxRecDepth 100000 in
set_option maxHeartbeats 4000000 in
theorem ct_X0_combine_105 {Dy : jH → Prop} {h0 : jH} {Q : Option Value → jH → Prop} (hD : jDk Dy) (hQ : ∀ (v : Int64) hx9, jJ jSgX Dy hx9 → jSm fp_X0_combine h0 hx9 → Q (some (.long v)) hx9) : ∀ (s0 : Int64) (h : jH), jJ jSgX Dy h → jSm fp_X0_combine h0 h → jX m_X0_combine 2 0 0 105 [] [.long s0] h 0 0 Q := by
  intro s0 h    J Sm
  have es0 := jfullL s0
  refine x_lret rfl rfl ?_
  exact hQ _ _ J Sm
set_option maxRecDepth 100000 in
set_option maxHeartbeats 4000000 in
theorem ct_X0_combine_5000105 {Dy : jH → Prop} {h0 : jH} {Q : Option Value → jH → Prop} (hD : jDk Dy) (hQ : ∀ (v : Int64) hx9, jJ jSgX Dy hx9 → jSm fp_X0_combine h0 hx9 → Q (some (.long v)) hx9) : ∀ (h : jH), jJ jSgX Dy h → jSm fp_X0_combine h0 h → jX m_X0_combine 2 0 0 105 [] [.long (-2000000000000)] h 0 0 Q := by
  intro  h    J Sm
  refine x_lret rfl rfl ?_
  exact hQ _ _ J Sm
set_option maxRecDepth 100000 in
set_option maxHeartbeats 4000000 in
theorem ct_X0_combine_5000117 {Dy : jH → Prop} {h0 : jH} {Q : Option Value → jH → Prop} (hD : jDk Dy) (hQ : ∀ (v : Int64) hx9, jJ jSgX Dy hx9 → jSm fp_X0_combine h0 hx9 → Q (some (.long v)) hx9) : ∀ (s0 : Int64) (h : jH), 0 ≤ s0.toInt ∧ s0.toInt ≤ 1 → jJ jSgX Dy h → jSm fp_X0_combine h0 h → jX m_X0_combine 2 0 0 117 [] [.long s0] h 0 0 Q := by
  intro s0 h y0   J Sm
  refine x_lret rfl rfl ?_
  exact hQ _ _ J Sm
set_option maxRecDepth 100000 in
set_option maxHeartbeats 4000000 in
theorem ct_X0_combine_5000129 {Dy : jH → Prop} {h0 : jH} {Q : Option Value → jH → Prop} (hD : jDk Dy) (hQ : ∀ (v : Int64) hx9, jJ jSgX Dy hx9 → jSm fp_X0_combine h0 hx9 → Q (some (.long v)) hx9) : ∀ (s0 : Int64) (h : jH), 0 ≤ s0.toInt ∧ s0.toInt ≤ 1 → jJ jSgX Dy h → jSm fp_X0_combine h0 h → jX m_X0_combine 2 0 0 129 [] [.long s0] h 0 0 Q := by
  intro s0 h y0   J Sm
  refine x_lret rfl rfl ?_
  exact hQ _ _ J Sm
set_option maxRecDepth 100000 in
set_option maxHeartbeats 4000000 in
theorem ct_X0_combine_5000141 {Dy : jH → Prop} {h0 : jH} {Q : Option Value → jH → Prop} (hD : jDk Dy) (hQ : ∀ (v : Int64) hx9, jJ jSgX Dy hx9 → jSm fp_X0_combine h0 hx9 → Q (some (.long v)) hx9) : ∀ (s0 : Int64) (h : jH), 0 ≤ s0.toInt ∧ s0.toInt ≤ 1 → jJ jSgX Dy h → jSm fp_X0_combine h0 h → jX m_X0_combine 2 0 0 141 [] [.long s0] h 0 0 Q := by
  intro s0 h y0   J Sm
  refine x_lret rfl rfl ?_
  exact hQ _ _ J Sm
set_option maxRecDepth 100000 in
set_option maxHeartbeats 4000000 in
theorem sf_X0_combine {Dy : jH → Prop} {h : jH} {Q : Option Value → jH → Prop} {a1 : Int32} {a2 : Int64} {a3 : Int64} (hD : jDk Dy) (J : jJ jSgX Dy h) (hQ : ∀ (v : Int64) hx9, jJ jSgX Dy hx9 → jSm fp_X0_combine h hx9 → Q (some (.long v)) hx9) : jC m_X0_combine 2 0 0 [.int a1, .long a2, .long a3] h Q := by
  refine jC.of rfl k_X0_combine rfl ?_
  have Sm := jSm_rf fp_X0_combine h
  have ea1 := jfull a1
  have ea2 := jfullL a2
  have ea3 := jfullL a3
  show jX m_X0_combine 2 0 0 0 [(0, .int a1), (1, .long a2), (3, .long a3)] [] _ 0 0 _
  refine x_iloadn (x := a1) rfl rfl ?_
  by_cases c1 : a1.toInt = 3
  ·
    refine x_tableIn (tgt := 44) 3 rfl c1 (by decide) (by decide) rfl rfl ?_
    refine x_lloadn (x := a2) rfl rfl ?_
    refine x_lloadn (x := a3) rfl rfl ?_
    refine z_ladd0 rfl (fun v2 => ?_)
    have ev2 := jfullL v2
    refine x_inst (N := m_X0_within) (As := [.long v2]) (st := []) (dx9 := 1) (mc := 0) (ms := 0) (host := "") rfl t_X0_within ⟨Or.inl q_0_206, s_X0_within⟩ rfl (by decide) rfl rfl ⟨by decide, by decide⟩ (jC.of rfl k_X0_within rfl ?_)
    show jX m_X0_within 1 0 0 0 [(0, .long v2)] [] _ 0 0 _
    refine x_lloadn (x := v2) rfl rfl ?_
    refine x_ldc2 (v := 1000000000000) rfl z_0_213 ?_
    refine z_lcmp rfl rfl jkl_1000000000000 (fun v3 ev3 => ?_)
    refine x_ifgt (tgt := 16) rfl rfl (ti_gt rfl jk_0 ⟨fun c4 => ?_, fun c4 => ?_⟩)
    ·
      refine x_ldc2 (v := (-2000000000000)) rfl z_0_193 ?_
      refine x_goto (tgt := 23) rfl rfl ?_
      refine x_lret rfl rfl ?_
      show jX m_X0_combine 2 0 0 50 [(0, .int a1), (1, .long a2), (3, .long a3)] [.long (-2000000000000)] _ 0 0 _
      refine x_lret rfl rfl ?_
      exact hQ _ _ J Sm
    ·
      refine x_lloadn (x := v2) rfl rfl ?_
      refine x_ldc2 (v := (-1000000000000)) rfl z_0_215 ?_
      refine z_lcmp rfl rfl jkl_m1000000000000 (fun v5 ev5 => ?_)
      refine x_ifge (tgt := 22) rfl rfl (ti_ge rfl jk_0 ⟨fun c6 => ?_, fun c6 => ?_⟩)
      ·
        refine x_lloadn (x := v2) rfl rfl ?_
        refine x_lret rfl rfl ?_
        show jX m_X0_combine 2 0 0 50 [(0, .int a1), (1, .long a2), (3, .long a3)] [.long v2] _ 0 0 _
        refine x_lret rfl rfl ?_
        exact hQ _ _ J Sm
      ·
        refine x_ldc2 (v := (-2000000000000)) rfl z_0_193 ?_
        refine x_goto (tgt := 23) rfl rfl ?_
        refine x_lret rfl rfl ?_
        show jX m_X0_combine 2 0 0 50 [(0, .int a1), (1, .long a2), (3, .long a3)] [.long (-2000000000000)] _ 0 0 _
        refine x_lret rfl rfl ?_
        exact hQ _ _ J Sm
  by_cases c7 : a1.toInt = 4
  ·
    refine x_tableIn (tgt := 51) 4 rfl c7 (by decide) (by decide) rfl rfl ?_
    refine x_lloadn (x := a2) rfl rfl ?_
    refine x_lloadn (x := a3) rfl rfl ?_
    refine z_lsub0 rfl (fun v8 => ?_)
    have ev8 := jfullL v8
    refine x_inst (N := m_X0_within) (As := [.long v8]) (st := []) (dx9 := 1) (mc := 0) (ms := 0) (host := "") rfl t_X0_within ⟨Or.inl q_0_206, s_X0_within⟩ rfl (by decide) rfl rfl ⟨by decide, by decide⟩ (jC.of rfl k_X0_within rfl ?_)
    show jX m_X0_within 1 0 0 0 [(0, .long v8)] [] _ 0 0 _
    refine x_lloadn (x := v8) rfl rfl ?_
    refine x_ldc2 (v := 1000000000000) rfl z_0_213 ?_
    refine z_lcmp rfl rfl jkl_1000000000000 (fun v9 ev9 => ?_)
    refine x_ifgt (tgt := 16) rfl rfl (ti_gt rfl jk_0 ⟨fun c10 => ?_, fun c10 => ?_⟩)
    ·
      refine x_ldc2 (v := (-2000000000000)) rfl z_0_193 ?_
      refine x_goto (tgt := 23) rfl rfl ?_
      refine x_lret rfl rfl ?_
      show jX m_X0_combine 2 0 0 57 [(0, .int a1), (1, .long a2), (3, .long a3)] [.long (-2000000000000)] _ 0 0 _
      refine x_lret rfl rfl ?_
      exact hQ _ _ J Sm
    ·
      refine x_lloadn (x := v8) rfl rfl ?_
      refine x_ldc2 (v := (-1000000000000)) rfl z_0_215 ?_
      refine z_lcmp rfl rfl jkl_m1000000000000 (fun v11 ev11 => ?_)
      refine x_ifge (tgt := 22) rfl rfl (ti_ge rfl jk_0 ⟨fun c12 => ?_, fun c12 => ?_⟩)
      ·
        refine x_lloadn (x := v8) rfl rfl ?_
        refine x_lret rfl rfl ?_
        show jX m_X0_combine 2 0 0 57 [(0, .int a1), (1, .long a2), (3, .long a3)] [.long v8] _ 0 0 _
        refine x_lret rfl rfl ?_
        exact hQ _ _ J Sm
      ·
        refine x_ldc2 (v := (-2000000000000)) rfl z_0_193 ?_
        refine x_goto (tgt := 23) rfl rfl ?_
        refine x_lret rfl rfl ?_
        show jX m_X0_combine 2 0 0 57 [(0, .int a1), (1, .long a2), (3, .long a3)] [.long (-2000000000000)] _ 0 0 _
        refine x_lret rfl rfl ?_
        exact hQ _ _ J Sm
  by_cases c13 : a1.toInt = 5
  ·
    refine x_tableIn (tgt := 58) 5 rfl c13 (by decide) (by decide) rfl rfl ?_
    refine x_lloadn (x := a2) rfl rfl ?_
    refine x_lconst (v := 0) rfl kl_0 ?_
    refine z_lcmp rfl rfl jkl_0 (fun v14 ev14 => ?_)
    refine x_ifeq (tgt := 86) rfl rfl (ti_eq rfl jk_0 ⟨fun c15 => ?_, fun c15 => ?_⟩)
    ·
      exact jX.sub (jsb_c rfl (jsb_c rfl jsb_n)) (ct_X0_combine_86 hD hQ  a2 a3 h J Sm)
    ·
      refine x_lloadn (x := a3) rfl rfl ?_
      refine z_labs0 rfl q_0_210 (by decide) rfl (fun v16 => ?_)
      have ev16 := jfullL v16
      refine x_ldc2 (v := 1000000000000) rfl z_0_213 ?_
      refine x_lloadn (x := a2) rfl rfl ?_
      refine z_labs1 rfl q_0_210 (by decide) rfl rfl (by omega) (fun v17 nv17 => ?_)
      have ev17 := jfullL v17
      refine z_ldiv0 rfl rfl (by omega) (fun v18 => ?_)
      have ev18 := jfullL v18
      refine z_lcmp rfl rfl rfl (fun v19 ev19 => ?_)
      refine x_ifle (tgt := 86) rfl rfl (ti_le rfl jk_0 ⟨fun c20 => ?_, fun c20 => ?_⟩)
      ·
        exact jX.sub (jsb_c rfl (jsb_c rfl jsb_n)) (ct_X0_combine_86 hD hQ  a2 a3 h J Sm)
      ·
        refine x_ldc2 (v := (-2000000000000)) rfl z_0_193 ?_
        refine x_goto (tgt := 89) rfl rfl ?_
        exact jX.sub jsb_n (ct_X0_combine_5000089 hD hQ  h J Sm)
  by_cases c21 : a1.toInt = 6
  ·
    refine x_tableIn (tgt := 90) 6 rfl c21 (by decide) (by decide) rfl rfl ?_
    refine x_lloadn (x := a3) rfl rfl ?_
    refine x_lconst (v := 0) rfl kl_0 ?_
    refine z_lcmp rfl rfl jkl_0 (fun v22 ev22 => ?_)
    refine x_ifne (tgt := 102) rfl rfl (ti_ne rfl jk_0 ⟨fun c23 => ?_, fun c23 => ?_⟩)
    ·
      refine x_lloadn (x := a2) rfl rfl ?_
      refine x_lloadn (x := a3) rfl rfl ?_
      refine z_ldiv0 rfl rfl (by omega) (fun v24 => ?_)
      have ev24 := jfullL v24
      exact jX.sub jsb_n (ct_X0_combine_105 hD hQ  v24 h J Sm)
    ·
      refine x_ldc2 (v := (-2000000000000)) rfl z_0_193 ?_
      refine x_goto (tgt := 105) rfl rfl ?_
      exact jX.sub jsb_n (ct_X0_combine_5000105 hD hQ  h J Sm)
  by_cases c25 : a1.toInt = 7
  ·
    refine x_tableIn (tgt := 106) 7 rfl c25 (by decide) (by decide) rfl rfl ?_
    refine x_lloadn (x := a2) rfl rfl ?_
    refine x_lloadn (x := a3) rfl rfl ?_
    refine z_lcmp rfl rfl rfl (fun v26 ev26 => ?_)
    refine x_ifge (tgt := 116) rfl rfl (ti_ge rfl jk_0 ⟨fun c27 => ?_, fun c27 => ?_⟩)
    ·
      refine x_lconst (v := 0) rfl kl_0 ?_
      exact jX.sub jsb_n (ct_X0_combine_5000117 hD hQ  0 h (jr_ofl jkl_0 (by omega)) J Sm)
    ·
      refine x_lconst (v := 1) rfl kl_1 ?_
      refine x_goto (tgt := 117) rfl rfl ?_
      exact jX.sub jsb_n (ct_X0_combine_5000117 hD hQ  1 h (jr_ofl jkl_1 (by omega)) J Sm)
  by_cases c28 : a1.toInt = 8
  ·
    refine x_tableIn (tgt := 118) 8 rfl c28 (by decide) (by decide) rfl rfl ?_
    refine x_lloadn (x := a2) rfl rfl ?_
    refine x_lloadn (x := a3) rfl rfl ?_
    refine z_lcmp rfl rfl rfl (fun v29 ev29 => ?_)
    refine x_ifle (tgt := 128) rfl rfl (ti_le rfl jk_0 ⟨fun c30 => ?_, fun c30 => ?_⟩)
    ·
      refine x_lconst (v := 0) rfl kl_0 ?_
      exact jX.sub jsb_n (ct_X0_combine_5000129 hD hQ  0 h (jr_ofl jkl_0 (by omega)) J Sm)
    ·
      refine x_lconst (v := 1) rfl kl_1 ?_
      refine x_goto (tgt := 129) rfl rfl ?_
      exact jX.sub jsb_n (ct_X0_combine_5000129 hD hQ  1 h (jr_ofl jkl_1 (by omega)) J Sm)
  by_cases c31 : a1.toInt = 9
  ·
    refine x_tableIn (tgt := 130) 9 rfl c31 (by decide) (by decide) rfl rfl ?_
    refine x_lloadn (x := a2) rfl rfl ?_
    refine x_lloadn (x := a3) rfl rfl ?_
    refine z_lcmp rfl rfl rfl (fun v32 ev32 => ?_)
    refine x_ifne (tgt := 140) rfl rfl (ti_ne rfl jk_0 ⟨fun c33 => ?_, fun c33 => ?_⟩)
    ·
      refine x_lconst (v := 0) rfl kl_0 ?_
      exact jX.sub jsb_n (ct_X0_combine_5000141 hD hQ  0 h (jr_ofl jkl_0 (by omega)) J Sm)
    ·
      refine x_lconst (v := 1) rfl kl_1 ?_
      refine x_goto (tgt := 141) rfl rfl ?_
      exact jX.sub jsb_n (ct_X0_combine_5000141 hD hQ  1 h (jr_ofl jkl_1 (by omega)) J Sm)
  refine x_tableOut (tgt := 142) rfl (by omega) rfl ?_
  refine x_ldc2 (v := (-2000000000000)) rfl z_0_193 ?_
  refine x_lret rfl rfl ?_
  exact hQ _ _ J Sm
def fp_X8_at_r43_c1 : jFp := []
set_option maxRecDepth 100000 in
set_option maxHeartbeats 4000000 in
theorem ct_X8_at_r43_c1_24 {Dy : jH → Prop} {h0 : jH} {Q : Option Value → jH → Prop} (hD : jDk Dy) (hQ : ∀ (v : Int32) hx9, 0 ≤ v.toInt ∧ v.toInt ≤ 146399 → jJ jSgX Dy hx9 → jSm fp_X8_at_r43_c1 h0 hx9 → Q (some (.int v)) hx9) : ∀ (h : jH), jJ jSgX Dy h → jSm fp_X8_at_r43_c1 h0 h → jX m_X8_at 1 0 0 24 [] [] h 0 0 Q := by
  intro  h    J Sm
  refine x_iconst (v := 0) rfl ki_0 ?_
  refine x_iret rfl rfl ?_
  exact hQ _ _ (jr_of jk_0 (by omega)) J Sm
set_option maxRecDepth 100000 in
set_option maxHeartbeats 4000000 in
theorem sf_X8_at_r43_c1 {Dy : jH → Prop} {h : jH} {Q : Option Value → jH → Prop} {a1 : Int32} (y1 : 0 ≤ a1.toInt ∧ a1.toInt ≤ 99) (hD : jDk Dy) (J : jJ jSgX Dy h) (hQ : ∀ (v : Int32) hx9, 0 ≤ v.toInt ∧ v.toInt ≤ 146399 → jJ jSgX Dy hx9 → jSm fp_X8_at_r43_c1 h hx9 → Q (some (.int v)) hx9) : jC m_X8_at 1 0 0 [.ref 43, .int a1, .int 1] h Q := by
  refine jC.of rfl k_X8_at rfl ?_
  have Sm := jSm_rf fp_X8_at_r43_c1 h
  show jX m_X8_at 1 0 0 0 [(0, .ref 43), (1, .int a1), (2, .int 1)] [] _ 0 0 _
  refine x_iloadn (x := a1) rfl rfl ?_
  refine x_iflt (tgt := 24) rfl rfl (ti_lt rfl jk_0 (br_f (by omega) ?_))
  refine x_iloadn (x := a1) rfl rfl ?_
  refine x_aloadn (x := 43) rfl rfl ?_
  refine z_getI (N := 4) 8 3 rfl f_8_7 rfl J rfl sg_43_3_4_1_0_1 (fun v1 qv1 ev1 => ?_)
  refine x_icge (tgt := 24) rfl rfl (ti_ge rfl rfl ⟨fun c2 => ?_, fun c2 => ?_⟩)
  ·
    exact jX.sub jsb_n (ct_X8_at_r43_c1_24 hD hQ  h J Sm)
  ·
    refine x_iloadn (x := 1) rfl rfl ?_
    refine x_iflt (tgt := 24) rfl rfl (ti_lt jk_1 jk_0 (br_f (by omega) ?_))
    refine x_iloadn (x := 1) rfl rfl ?_
    refine x_aloadn (x := 43) rfl rfl ?_
    refine z_getC (N := 4) (v := 6) 8 0 rfl f_8_19 rfl J rfl sg_43_0_1_1_0_1 jk_6 ?_
    refine x_iclt (tgt := 26) rfl rfl (ti_lt jk_1 jk_6 (br_t (by omega) ?_))
    refine x_aloadn (x := 43) rfl rfl ?_
    refine z_getR (N := 4) (b := 44) 8 2 rfl f_8_25 rfl J rfl 5506 ⟨rfl, rfl⟩ rfl ?_
    refine x_iloadn (x := a1) rfl rfl ?_
    refine x_aloadn (x := 43) rfl rfl ?_
    refine z_getC (N := 4) (v := 6) 8 0 rfl f_8_19 rfl J rfl sg_43_0_1_1_0_1 jk_6 ?_
    refine z_imul rfl rfl jk_6 (by omega) (fun v3 ev3 => ?_)
    refine x_iloadn (x := 1) rfl rfl ?_
    refine z_iadd rfl rfl jk_1 (by omega) (fun v4 ev4 => ?_)
    refine z_iald (N := 600) rfl J rfl sg_44_0_600_6_1_2 rfl (by omega) (fun v5 qv5 ev5 => ?_)
    refine x_iret rfl rfl ?_
    exact hQ _ _ (jr_of rfl (by omega)) J Sm
def fp_X8_at_r43_c2 : jFp := []
set_option maxRecDepth 100000 in
set_option maxHeartbeats 4000000 in
theorem ct_X8_at_r43_c2_24 {Dy : jH → Prop} {h0 : jH} {Q : Option Value → jH → Prop} (hD : jDk Dy) (hQ : ∀ (v : Int32) hx9, 0 ≤ v.toInt ∧ v.toInt ≤ 146399 → jJ jSgX Dy hx9 → jSm fp_X8_at_r43_c2 h0 hx9 → Q (some (.int v)) hx9) : ∀ (h : jH), jJ jSgX Dy h → jSm fp_X8_at_r43_c2 h0 h → jX m_X8_at 1 0 0 24 [] [] h 0 0 Q := by
  intro  h    J Sm
  refine x_iconst (v := 0) rfl ki_0 ?_
  refine x_iret rfl rfl ?_
  exact hQ _ _ (jr_of jk_0 (by omega)) J Sm
set_option maxRecDepth 100000 in
set_option maxHeartbeats 4000000 in
theorem sf_X8_at_r43_c2 {Dy : jH → Prop} {h : jH} {Q : Option Value → jH → Prop} {a1 : Int32} (y1 : 0 ≤ a1.toInt ∧ a1.toInt ≤ 99) (hD : jDk Dy) (J : jJ jSgX Dy h) (hQ : ∀ (v : Int32) hx9, 0 ≤ v.toInt ∧ v.toInt ≤ 146399 → jJ jSgX Dy hx9 → jSm fp_X8_at_r43_c2 h hx9 → Q (some (.int v)) hx9) : jC m_X8_at 1 0 0 [.ref 43, .int a1, .int 2] h Q := by
  refine jC.of rfl k_X8_at rfl ?_
  have Sm := jSm_rf fp_X8_at_r43_c2 h
  show jX m_X8_at 1 0 0 0 [(0, .ref 43), (1, .int a1), (2, .int 2)] [] _ 0 0 _
  refine x_iloadn (x := a1) rfl rfl ?_
  refine x_iflt (tgt := 24) rfl rfl (ti_lt rfl jk_0 (br_f (by omega) ?_))
  refine x_iloadn (x := a1) rfl rfl ?_
  refine x_aloadn (x := 43) rfl rfl ?_
  refine z_getI (N := 4) 8 3 rfl f_8_7 rfl J rfl sg_43_3_4_1_0_1 (fun v1 qv1 ev1 => ?_)
  refine x_icge (tgt := 24) rfl rfl (ti_ge rfl rfl ⟨fun c2 => ?_, fun c2 => ?_⟩)
  ·
    exact jX.sub jsb_n (ct_X8_at_r43_c2_24 hD hQ  h J Sm)
  ·
    refine x_iloadn (x := 2) rfl rfl ?_
    refine x_iflt (tgt := 24) rfl rfl (ti_lt jk_2 jk_0 (br_f (by omega) ?_))
    refine x_iloadn (x := 2) rfl rfl ?_
    refine x_aloadn (x := 43) rfl rfl ?_
    refine z_getC (N := 4) (v := 6) 8 0 rfl f_8_19 rfl J rfl sg_43_0_1_1_0_1 jk_6 ?_
    refine x_iclt (tgt := 26) rfl rfl (ti_lt jk_2 jk_6 (br_t (by omega) ?_))
    refine x_aloadn (x := 43) rfl rfl ?_
    refine z_getR (N := 4) (b := 44) 8 2 rfl f_8_25 rfl J rfl 5506 ⟨rfl, rfl⟩ rfl ?_
    refine x_iloadn (x := a1) rfl rfl ?_
    refine x_aloadn (x := 43) rfl rfl ?_
    refine z_getC (N := 4) (v := 6) 8 0 rfl f_8_19 rfl J rfl sg_43_0_1_1_0_1 jk_6 ?_
    refine z_imul rfl rfl jk_6 (by omega) (fun v3 ev3 => ?_)
    refine x_iloadn (x := 2) rfl rfl ?_
    refine z_iadd rfl rfl jk_2 (by omega) (fun v4 ev4 => ?_)
    refine z_iald (N := 600) rfl J rfl sg_44_0_600_6_2_3 rfl (by omega) (fun v5 qv5 ev5 => ?_)
    refine x_iret rfl rfl ?_
    exact hQ _ _ (jr_of rfl (by omega)) J Sm
def fp_X8_at_r43_c3 : jFp := []
set_option maxRecDepth 100000 in
set_option maxHeartbeats 4000000 in
theorem ct_X8_at_r43_c3_24 {Dy : jH → Prop} {h0 : jH} {Q : Option Value → jH → Prop} (hD : jDk Dy) (hQ : ∀ (v : Int32) hx9, 0 ≤ v.toInt ∧ v.toInt ≤ 599 → jJ jSgX Dy hx9 → jSm fp_X8_at_r43_c3 h0 hx9 → Q (some (.int v)) hx9) : ∀ (h : jH), jJ jSgX Dy h → jSm fp_X8_at_r43_c3 h0 h → jX m_X8_at 1 0 0 24 [] [] h 0 0 Q := by
  intro  h    J Sm
  refine x_iconst (v := 0) rfl ki_0 ?_
  refine x_iret rfl rfl ?_
  exact hQ _ _ (jr_of jk_0 (by omega)) J Sm
set_option maxRecDepth 100000 in
set_option maxHeartbeats 4000000 in
theorem sf_X8_at_r43_c3 {Dy : jH → Prop} {h : jH} {Q : Option Value → jH → Prop} {a1 : Int32} (y1 : 0 ≤ a1.toInt ∧ a1.toInt ≤ 99) (hD : jDk Dy) (J : jJ jSgX Dy h) (hQ : ∀ (v : Int32) hx9, 0 ≤ v.toInt ∧ v.toInt ≤ 599 → jJ jSgX Dy hx9 → jSm fp_X8_at_r43_c3 h hx9 → Q (some (.int v)) hx9) : jC m_X8_at 1 0 0 [.ref 43, .int a1, .int 3] h Q := by
  refine jC.of rfl k_X8_at rfl ?_
  have Sm := jSm_rf fp_X8_at_r43_c3 h
  show jX m_X8_at 1 0 0 0 [(0, .ref 43), (1, .int a1), (2, .int 3)] [] _ 0 0 _
  refine x_iloadn (x := a1) rfl rfl ?_
  refine x_iflt (tgt := 24) rfl rfl (ti_lt rfl jk_0 (br_f (by omega) ?_))
  refine x_iloadn (x := a1) rfl rfl ?_
  refine x_aloadn (x := 43) rfl rfl ?_
  refine z_getI (N := 4) 8 3 rfl f_8_7 rfl J rfl sg_43_3_4_1_0_1 (fun v1 qv1 ev1 => ?_)
  refine x_icge (tgt := 24) rfl rfl (ti_ge rfl rfl ⟨fun c2 => ?_, fun c2 => ?_⟩)
  ·
    exact jX.sub jsb_n (ct_X8_at_r43_c3_24 hD hQ  h J Sm)
  ·
    refine x_iloadn (x := 3) rfl rfl ?_
    refine x_iflt (tgt := 24) rfl rfl (ti_lt jk_3 jk_0 (br_f (by omega) ?_))
    refine x_iloadn (x := 3) rfl rfl ?_
    refine x_aloadn (x := 43) rfl rfl ?_
    refine z_getC (N := 4) (v := 6) 8 0 rfl f_8_19 rfl J rfl sg_43_0_1_1_0_1 jk_6 ?_
    refine x_iclt (tgt := 26) rfl rfl (ti_lt jk_3 jk_6 (br_t (by omega) ?_))
    refine x_aloadn (x := 43) rfl rfl ?_
    refine z_getR (N := 4) (b := 44) 8 2 rfl f_8_25 rfl J rfl 5506 ⟨rfl, rfl⟩ rfl ?_
    refine x_iloadn (x := a1) rfl rfl ?_
    refine x_aloadn (x := 43) rfl rfl ?_
    refine z_getC (N := 4) (v := 6) 8 0 rfl f_8_19 rfl J rfl sg_43_0_1_1_0_1 jk_6 ?_
    refine z_imul rfl rfl jk_6 (by omega) (fun v3 ev3 => ?_)
    refine x_iloadn (x := 3) rfl rfl ?_
    refine z_iadd rfl rfl jk_3 (by omega) (fun v4 ev4 => ?_)
    refine z_iald (N := 600) rfl J rfl sg_44_0_600_6_3_4 rfl (by omega) (fun v5 qv5 ev5 => ?_)
    refine x_iret rfl rfl ?_
    exact hQ _ _ (jr_of rfl (by omega)) J Sm
def fp_X8_at_r43_c4 : jFp := []
set_option maxRecDepth 100000 in
set_option maxHeartbeats 4000000 in
theorem ct_X8_at_r43_c4_24 {Dy : jH → Prop} {h0 : jH} {Q : Option Value → jH → Prop} (hD : jDk Dy) (hQ : ∀ (v : Int32) hx9, 0 ≤ v.toInt ∧ v.toInt ≤ 4 → jJ jSgX Dy hx9 → jSm fp_X8_at_r43_c4 h0 hx9 → Q (some (.int v)) hx9) : ∀ (h : jH), jJ jSgX Dy h → jSm fp_X8_at_r43_c4 h0 h → jX m_X8_at 1 0 0 24 [] [] h 0 0 Q := by
  intro  h    J Sm
  refine x_iconst (v := 0) rfl ki_0 ?_
  refine x_iret rfl rfl ?_
  exact hQ _ _ (jr_of jk_0 (by omega)) J Sm
set_option maxRecDepth 100000 in
set_option maxHeartbeats 4000000 in
theorem sf_X8_at_r43_c4 {Dy : jH → Prop} {h : jH} {Q : Option Value → jH → Prop} {a1 : Int32} (y1 : 0 ≤ a1.toInt ∧ a1.toInt ≤ 99) (hD : jDk Dy) (J : jJ jSgX Dy h) (hQ : ∀ (v : Int32) hx9, 0 ≤ v.toInt ∧ v.toInt ≤ 4 → jJ jSgX Dy hx9 → jSm fp_X8_at_r43_c4 h hx9 → Q (some (.int v)) hx9) : jC m_X8_at 1 0 0 [.ref 43, .int a1, .int 4] h Q := by
  refine jC.of rfl k_X8_at rfl ?_
  have Sm := jSm_rf fp_X8_at_r43_c4 h
  show jX m_X8_at 1 0 0 0 [(0, .ref 43), (1, .int a1), (2, .int 4)] [] _ 0 0 _
  refine x_iloadn (x := a1) rfl rfl ?_
  refine x_iflt (tgt := 24) rfl rfl (ti_lt rfl jk_0 (br_f (by omega) ?_))
  refine x_iloadn (x := a1) rfl rfl ?_
  refine x_aloadn (x := 43) rfl rfl ?_
  refine z_getI (N := 4) 8 3 rfl f_8_7 rfl J rfl sg_43_3_4_1_0_1 (fun v1 qv1 ev1 => ?_)
  refine x_icge (tgt := 24) rfl rfl (ti_ge rfl rfl ⟨fun c2 => ?_, fun c2 => ?_⟩)
  ·
    exact jX.sub jsb_n (ct_X8_at_r43_c4_24 hD hQ  h J Sm)
  ·
    refine x_iloadn (x := 4) rfl rfl ?_
    refine x_iflt (tgt := 24) rfl rfl (ti_lt jk_4 jk_0 (br_f (by omega) ?_))
    refine x_iloadn (x := 4) rfl rfl ?_
    refine x_aloadn (x := 43) rfl rfl ?_
    refine z_getC (N := 4) (v := 6) 8 0 rfl f_8_19 rfl J rfl sg_43_0_1_1_0_1 jk_6 ?_
    refine x_iclt (tgt := 26) rfl rfl (ti_lt jk_4 jk_6 (br_t (by omega) ?_))
    refine x_aloadn (x := 43) rfl rfl ?_
    refine z_getR (N := 4) (b := 44) 8 2 rfl f_8_25 rfl J rfl 5506 ⟨rfl, rfl⟩ rfl ?_
    refine x_iloadn (x := a1) rfl rfl ?_
    refine x_aloadn (x := 43) rfl rfl ?_
    refine z_getC (N := 4) (v := 6) 8 0 rfl f_8_19 rfl J rfl sg_43_0_1_1_0_1 jk_6 ?_
    refine z_imul rfl rfl jk_6 (by omega) (fun v3 ev3 => ?_)
    refine x_iloadn (x := 4) rfl rfl ?_
    refine z_iadd rfl rfl jk_4 (by omega) (fun v4 ev4 => ?_)
    refine z_iald (N := 600) rfl J rfl sg_44_0_600_6_4_5 rfl (by omega) (fun v5 qv5 ev5 => ?_)
    refine x_iret rfl rfl ?_
    exact hQ _ _ (jr_of rfl (by omega)) J Sm
def fp_X8_at_r43_c5 : jFp := []
set_option maxRecDepth 100000 in
set_option maxHeartbeats 4000000 in
theorem ct_X8_at_r43_c5_24 {Dy : jH → Prop} {h0 : jH} {Q : Option Value → jH → Prop} (hD : jDk Dy) (hQ : ∀ (v : Int32) hx9, 0 ≤ v.toInt ∧ v.toInt ≤ 11 → jJ jSgX Dy hx9 → jSm fp_X8_at_r43_c5 h0 hx9 → Q (some (.int v)) hx9) : ∀ (h : jH), jJ jSgX Dy h → jSm fp_X8_at_r43_c5 h0 h → jX m_X8_at 1 0 0 24 [] [] h 0 0 Q := by
  intro  h    J Sm
  refine x_iconst (v := 0) rfl ki_0 ?_
  refine x_iret rfl rfl ?_
  exact hQ _ _ (jr_of jk_0 (by omega)) J Sm
set_option maxRecDepth 100000 in
set_option maxHeartbeats 4000000 in
theorem sf_X8_at_r43_c5 {Dy : jH → Prop} {h : jH} {Q : Option Value → jH → Prop} {a1 : Int32} (y1 : 0 ≤ a1.toInt ∧ a1.toInt ≤ 99) (hD : jDk Dy) (J : jJ jSgX Dy h) (hQ : ∀ (v : Int32) hx9, 0 ≤ v.toInt ∧ v.toInt ≤ 11 → jJ jSgX Dy hx9 → jSm fp_X8_at_r43_c5 h hx9 → Q (some (.int v)) hx9) : jC m_X8_at 1 0 0 [.ref 43, .int a1, .int 5] h Q := by
  refine jC.of rfl k_X8_at rfl ?_
  have Sm := jSm_rf fp_X8_at_r43_c5 h
  show jX m_X8_at 1 0 0 0 [(0, .ref 43), (1, .int a1), (2, .int 5)] [] _ 0 0 _
  refine x_iloadn (x := a1) rfl rfl ?_
  refine x_iflt (tgt := 24) rfl rfl (ti_lt rfl jk_0 (br_f (by omega) ?_))
  refine x_iloadn (x := a1) rfl rfl ?_
  refine x_aloadn (x := 43) rfl rfl ?_
  refine z_getI (N := 4) 8 3 rfl f_8_7 rfl J rfl sg_43_3_4_1_0_1 (fun v1 qv1 ev1 => ?_)
  refine x_icge (tgt := 24) rfl rfl (ti_ge rfl rfl ⟨fun c2 => ?_, fun c2 => ?_⟩)
  ·
    exact jX.sub jsb_n (ct_X8_at_r43_c5_24 hD hQ  h J Sm)
  ·
    refine x_iloadn (x := 5) rfl rfl ?_
    refine x_iflt (tgt := 24) rfl rfl (ti_lt jk_5 jk_0 (br_f (by omega) ?_))
    refine x_iloadn (x := 5) rfl rfl ?_
    refine x_aloadn (x := 43) rfl rfl ?_
    refine z_getC (N := 4) (v := 6) 8 0 rfl f_8_19 rfl J rfl sg_43_0_1_1_0_1 jk_6 ?_
    refine x_iclt (tgt := 26) rfl rfl (ti_lt jk_5 jk_6 (br_t (by omega) ?_))
    refine x_aloadn (x := 43) rfl rfl ?_
    refine z_getR (N := 4) (b := 44) 8 2 rfl f_8_25 rfl J rfl 5506 ⟨rfl, rfl⟩ rfl ?_
    refine x_iloadn (x := a1) rfl rfl ?_
    refine x_aloadn (x := 43) rfl rfl ?_
    refine z_getC (N := 4) (v := 6) 8 0 rfl f_8_19 rfl J rfl sg_43_0_1_1_0_1 jk_6 ?_
    refine z_imul rfl rfl jk_6 (by omega) (fun v3 ev3 => ?_)
    refine x_iloadn (x := 5) rfl rfl ?_
    refine z_iadd rfl rfl jk_5 (by omega) (fun v4 ev4 => ?_)
    refine z_iald (N := 600) rfl J rfl sg_44_0_600_6_5_6 rfl (by omega) (fun v5 qv5 ev5 => ?_)
    refine x_iret rfl rfl ?_
    exact hQ _ _ (jr_of rfl (by omega)) J Sm
def fp_X8_isKnown_r43 : jFp := []
set_option maxRecDepth 100000 in
set_option maxHeartbeats 4000000 in
theorem ct_X8_isKnown_r43_300032 {Dy : jH → Prop} {h0 : jH} {Q : Option Value → jH → Prop} (hD : jDk Dy) (hQ : ∀ (v : Int32) hx9, 0 ≤ v.toInt ∧ v.toInt ≤ 1 → jJ jSgX Dy hx9 → jSm fp_X8_isKnown_r43 h0 hx9 → Q (some (.int v)) hx9) : ∀ (h : jH), jJ jSgX Dy h → jSm fp_X8_isKnown_r43 h0 h → jX m_X8_isKnown 1 0 0 32 [] [.int 1] h 0 0 Q := by
  intro  h    J Sm
  refine x_zret rfl rfl (by decide) ?_
  exact hQ _ _ (jr_of jk_1 (by omega)) J Sm
set_option maxRecDepth 100000 in
set_option maxHeartbeats 4000000 in
theorem ct_X8_isKnown_r43_200032 {Dy : jH → Prop} {h0 : jH} {Q : Option Value → jH → Prop} (hD : jDk Dy) (hQ : ∀ (v : Int32) hx9, 0 ≤ v.toInt ∧ v.toInt ≤ 1 → jJ jSgX Dy hx9 → jSm fp_X8_isKnown_r43 h0 hx9 → Q (some (.int v)) hx9) : ∀ (h : jH), jJ jSgX Dy h → jSm fp_X8_isKnown_r43 h0 h → jX m_X8_isKnown 1 0 0 32 [] [.int 0] h 0 0 Q := by
  intro  h    J Sm
  refine x_zret rfl rfl (by decide) ?_
  exact hQ _ _ (jr_of jk_0 (by omega)) J Sm
set_option maxRecDepth 100000 in
set_option maxHeartbeats 4000000 in
theorem ct_X8_isKnown_r43_31 {Dy : jH → Prop} {h0 : jH} {Q : Option Value → jH → Prop} (hD : jDk Dy) (hQ : ∀ (v : Int32) hx9, 0 ≤ v.toInt ∧ v.toInt ≤ 1 → jJ jSgX Dy hx9 → jSm fp_X8_isKnown_r43 h0 hx9 → Q (some (.int v)) hx9) : ∀ (h : jH), jJ jSgX Dy h → jSm fp_X8_isKnown_r43 h0 h → jX m_X8_isKnown 1 0 0 31 [] [] h 0 0 Q := by
  intro  h    J Sm
  refine x_iconst (v := 0) rfl ki_0 ?_
  exact jX.sub jsb_n (ct_X8_isKnown_r43_200032 hD hQ  h J Sm)
set_option maxRecDepth 100000 in
set_option maxHeartbeats 4000000 in
theorem sf_X8_isKnown_r43 {Dy : jH → Prop} {h : jH} {Q : Option Value → jH → Prop} {a1 : Int32} {a2 : Int32} (y1 : 0 ≤ a1.toInt ∧ a1.toInt ≤ 99) (y2 : 0 ≤ a2.toInt ∧ a2.toInt ≤ 146399) (hD : jDk Dy) (J : jJ jSgX Dy h) (hQ : ∀ (v : Int32) hx9, 0 ≤ v.toInt ∧ v.toInt ≤ 1 → jJ jSgX Dy hx9 → jSm fp_X8_isKnown_r43 h hx9 → Q (some (.int v)) hx9) : jC m_X8_isKnown 1 0 0 [.ref 43, .int a1, .int a2] h Q := by
  refine jC.of rfl k_X8_isKnown rfl ?_
  have Sm := jSm_rf fp_X8_isKnown_r43 h
  show jX m_X8_isKnown 1 0 0 0 [(0, .ref 43), (1, .int a1), (2, .int a2)] [] _ 0 0 _
  refine x_iloadn (x := a1) rfl rfl ?_
  refine x_iflt (tgt := 31) rfl rfl (ti_lt rfl jk_0 (br_f (by omega) ?_))
  refine x_iloadn (x := a1) rfl rfl ?_
  refine x_aloadn (x := 43) rfl rfl ?_
  refine z_getI (N := 4) 8 3 rfl f_8_7 rfl J rfl sg_43_3_4_1_0_1 (fun v1 qv1 ev1 => ?_)
  refine x_icge (tgt := 31) rfl rfl (ti_ge rfl rfl ⟨fun c2 => ?_, fun c2 => ?_⟩)
  ·
    exact jX.sub jsb_n (ct_X8_isKnown_r43_31 hD hQ  h J Sm)
  ·
    refine x_aloadn (x := 43) rfl rfl ?_
    refine z_getR (N := 4) (b := 44) 8 2 rfl f_8_25 rfl J rfl 5506 ⟨rfl, rfl⟩ rfl ?_
    refine x_iloadn (x := a1) rfl rfl ?_
    refine x_aloadn (x := 43) rfl rfl ?_
    refine z_getC (N := 4) (v := 6) 8 0 rfl f_8_19 rfl J rfl sg_43_0_1_1_0_1 jk_6 ?_
    refine z_imul rfl rfl jk_6 (by omega) (fun v3 ev3 => ?_)
    refine z_iald (N := 600) rfl J rfl sg_44_0_600_6_0_1 rfl (by omega) (fun v4 qv4 ev4 => ?_)
    refine x_iloadn (x := a2) rfl rfl ?_
    refine x_icgt (tgt := 31) rfl rfl (ti_gt rfl rfl ⟨fun c5 => ?_, fun c5 => ?_⟩)
    ·
      exact jX.sub jsb_n (ct_X8_isKnown_r43_31 hD hQ  h J Sm)
    ·
      refine x_iconst (v := 1) rfl ki_1 ?_
      refine x_goto (tgt := 32) rfl rfl ?_
      exact jX.sub jsb_n (ct_X8_isKnown_r43_300032 hD hQ  h J Sm)
def fp_X0_isCertified_r98 : jFp := []
set_option maxRecDepth 100000 in
set_option maxHeartbeats 4000000 in
theorem ct_X0_isCertified_r98_134 {Dy : jH → Prop} {h0 : jH} {Q : Option Value → jH → Prop} {R3 : Int} (hD : jDk Dy) (hQ : ∀ (v : Int32) hx9, 0 ≤ v.toInt ∧ v.toInt ≤ 1 → jJ jSgX Dy hx9 → jSm fp_X0_isCertified_r98 h0 hx9 → Q (some (.int v)) hx9) (k3 : ∀ (l1 : Int32) (l2 : Int32) (l3 : Int32) (l4 : Int32) (l5 : Int32) (h : jH), 100 - l5.toInt < R3 → (-1) ≤ l1.toInt ∧ l1.toInt ≤ 599 → (-1) ≤ l2.toInt ∧ l2.toInt ≤ 11 → 0 ≤ l3.toInt ∧ l3.toInt ≤ 146399 → 0 ≤ l4.toInt ∧ l4.toInt ≤ 146399 → 0 ≤ l5.toInt ∧ l5.toInt ≤ 100 → jJ jSgX Dy h → jSm fp_X0_isCertified_r98 h0 h → jX m_X0_isCertified 2 0 0 3 [(0, .ref 98), (1, .int l1), (2, .int l2), (3, .int l3), (4, .int l4), (5, .int l5)] [] h 0 0 Q) : ∀ (l1 : Int32) (l2 : Int32) (l3 : Int32) (l4 : Int32) (l5 : Int32) (h : jH), (-1) ≤ l1.toInt ∧ l1.toInt ≤ 599 → (-1) ≤ l2.toInt ∧ l2.toInt ≤ 11 → 0 ≤ l3.toInt ∧ l3.toInt ≤ 146399 → 0 ≤ l4.toInt ∧ l4.toInt ≤ 146399 → 0 ≤ l5.toInt ∧ l5.toInt ≤ 99 → 100 - l5.toInt ≤ R3 → jJ jSgX Dy h → jSm fp_X0_isCertified_r98 h0 h → jX m_X0_isCertified 2 0 0 134 [(0, .ref 98), (1, .int l1), (2, .int l2), (3, .int l3), (4, .int l4), (5, .int l5)] [] h 0 0 Q := by
  intro l1 l2 l3 l4 l5 h y0 y1 y2 y3 y4  m3 J Sm
  refine z_iinc (x := l5) (lsx9 := fun v1 => [(5, .int v1), (0, .ref 98), (1, .int l1), (2, .int l2), (3, .int l3), (4, .int l4)]) rfl rfl rfl jko_1 (by omega) rfl (fun _ => rfl) (fun v1 ev1 => ?_)
  refine x_goto (tgt := 3) rfl rfl ?_
  exact jX.sub (jsb_c rfl (jsb_c rfl (jsb_c rfl (jsb_c rfl (jsb_c rfl (jsb_c rfl jsb_n)))))) (k3 l1 l2 l3 l4 v1 h (by omega) (jr_of rfl (by omega)) (jr_of rfl (by omega)) (jr_of rfl (by omega)) (jr_of rfl (by omega)) (jr_of rfl (by omega)) J Sm)
set_option maxRecDepth 100000 in
set_option maxHeartbeats 4000000 in
theorem ct_X0_isCertified_r98_108 {Dy : jH → Prop} {h0 : jH} {Q : Option Value → jH → Prop} {R3 : Int} (hD : jDk Dy) (hQ : ∀ (v : Int32) hx9, 0 ≤ v.toInt ∧ v.toInt ≤ 1 → jJ jSgX Dy hx9 → jSm fp_X0_isCertified_r98 h0 hx9 → Q (some (.int v)) hx9) (k3 : ∀ (l1 : Int32) (l2 : Int32) (l3 : Int32) (l4 : Int32) (l5 : Int32) (h : jH), 100 - l5.toInt < R3 → (-1) ≤ l1.toInt ∧ l1.toInt ≤ 599 → (-1) ≤ l2.toInt ∧ l2.toInt ≤ 11 → 0 ≤ l3.toInt ∧ l3.toInt ≤ 146399 → 0 ≤ l4.toInt ∧ l4.toInt ≤ 146399 → 0 ≤ l5.toInt ∧ l5.toInt ≤ 100 → jJ jSgX Dy h → jSm fp_X0_isCertified_r98 h0 h → jX m_X0_isCertified 2 0 0 3 [(0, .ref 98), (1, .int l1), (2, .int l2), (3, .int l3), (4, .int l4), (5, .int l5)] [] h 0 0 Q) : ∀ (l1 : Int32) (l2 : Int32) (l3 : Int32) (l4 : Int32) (l5 : Int32) (h : jH), (-1) ≤ l1.toInt ∧ l1.toInt ≤ 599 → (-1) ≤ l2.toInt ∧ l2.toInt ≤ 11 → 0 ≤ l3.toInt ∧ l3.toInt ≤ 146399 → 0 ≤ l4.toInt ∧ l4.toInt ≤ 146399 → 0 ≤ l5.toInt ∧ l5.toInt ≤ 99 → 100 - l5.toInt ≤ R3 → jJ jSgX Dy h → jSm fp_X0_isCertified_r98 h0 h → jX m_X0_isCertified 2 0 0 108 [(0, .ref 98), (1, .int l1), (2, .int l2), (3, .int l3), (4, .int l4), (5, .int l5)] [] h 0 0 Q := by
  intro l1 l2 l3 l4 l5 h y0 y1 y2 y3 y4  m3 J Sm
  refine x_aloadn (x := 98) rfl rfl ?_
  refine z_getR (N := 16) (b := 78) 0 1 rfl f_0_61 rfl J rfl 12545 ⟨rfl, rfl⟩ rfl ?_
  refine x_aloadn (x := 98) rfl rfl ?_
  refine z_getR (N := 16) (b := 32) 0 0 rfl f_0_57 rfl J rfl 12544 ⟨rfl, rfl⟩ rfl ?_
  refine z_getR (N := 20) (b := 43) 1 5 rfl f_0_186 rfl J rfl 4101 ⟨rfl, rfl⟩ rfl ?_
  refine x_iload (x := l5) rfl rfl ?_
  refine x_iconst (v := 3) rfl ki_3 ?_
  refine x_inv (N := m_X8_at) (As := [.int l5, .int 3]) (b := 43) (st := [.ref 78]) (dx9 := 1) (mc := 0) (ms := 0) (host := "") 8 rfl t_X8_at ⟨Or.inl q_0_145, i_X8_at.1, i_X8_at.2⟩ ⟨by decide, rfl⟩ (congrArg Prod.fst (J.1.1 43 (8, 4) rfl)) rfl (by decide) rfl rfl ⟨by decide, by decide⟩ (sf_X8_at_r43_c3 (jr_of rfl (by omega)) hD J  (fun v2 h ev2 J S1 => ?_))
  have Sm := jSm_tr rfl Sm S1
  show jX m_X0_isCertified 2 0 0 125 [(0, .ref 98), (1, .int l1), (2, .int l2), (3, .int l3), (4, .int l4), (5, .int l5)] [.int v2, .ref 78] _ 0 0 _
  refine x_inv (N := m_X7_soulAt) (As := [.int v2]) (b := 78) (st := []) (dx9 := 1) (mc := 0) (ms := 0) (host := "") 7 rfl t_X7_soulAt ⟨Or.inl q_0_139, i_X7_soulAt.1, i_X7_soulAt.2⟩ ⟨by decide, rfl⟩ (congrArg Prod.fst (J.1.1 78 (7, 16) rfl)) rfl (by decide) rfl rfl ⟨by decide, by decide⟩ (jC.of rfl k_X7_soulAt rfl ?_)
  show jX m_X7_soulAt 1 0 0 0 [(0, .ref 78), (1, .int v2)] [] _ 0 0 _
  refine x_iloadn (x := v2) rfl rfl ?_
  refine x_iflt (tgt := 36) rfl rfl (ti_lt rfl jk_0 (br_f (by omega) ?_))
  refine x_iloadn (x := v2) rfl rfl ?_
  refine x_sipush (v := 600) rfl ks_600 ?_
  refine x_icge (tgt := 36) rfl rfl (ti_ge rfl jk_600 (br_f (by omega) ?_))
  refine x_iloadn (x := v2) rfl rfl ?_
  refine x_iconst (v := 3) rfl ki_3 ?_
  refine z_idiv rfl rfl jk_3 (by omega) (by omega) (fun v3 ev3 => ?_)
  refine x_aloadn (x := 78) rfl rfl ?_
  refine z_getR (N := 16) (b := 32) 7 0 rfl f_7_55 rfl J rfl 9984 ⟨rfl, rfl⟩ rfl ?_
  refine z_getR (N := 20) (b := 33) 1 0 rfl f_7_63 rfl J rfl 4096 ⟨rfl, rfl⟩ rfl ?_
  refine z_getI (N := 4) 8 3 rfl f_7_85 rfl J rfl sg_33_3_4_1_0_1 (fun v4 qv4 ev4 => ?_)
  refine x_icge (tgt := 36) rfl rfl (ti_ge rfl rfl ⟨fun c5 => ?_, fun c5 => ?_⟩)
  ·
    refine x_iconst (v := (-1)) rfl ki_m1 ?_
    refine x_iret rfl rfl ?_
    show jX m_X0_isCertified 2 0 0 128 [(0, .ref 98), (1, .int l1), (2, .int l2), (3, .int l3), (4, .int l4), (5, .int l5)] [.int (-1)] _ 0 0 _
    refine x_iloadn (x := l1) rfl rfl ?_
    refine x_icne (tgt := 134) rfl rfl (ti_ne jk_m1 rfl ⟨fun c6 => ?_, fun c6 => ?_⟩)
    ·
      exact jX.sub (jsb_c rfl (jsb_c rfl (jsb_c rfl (jsb_c rfl (jsb_c rfl (jsb_c rfl jsb_n)))))) (ct_X0_isCertified_r98_134 hD hQ k3 l1 l2 l3 l4 l5 h (jr_of rfl (by omega)) (jr_of rfl (by omega)) (jr_of rfl (by omega)) (jr_of rfl (by omega)) (jr_of rfl (by omega)) (by omega) J Sm)
    ·
      refine x_iconst (v := 1) rfl ki_1 ?_
      refine x_zret rfl rfl (by decide) ?_
      exact hQ _ _ (jr_of jk_1 (by omega)) J Sm
  ·
    refine x_aloadn (x := 78) rfl rfl ?_
    refine z_getR (N := 16) (b := 82) 7 10 rfl f_7_37 rfl J rfl 9994 ⟨rfl, rfl⟩ rfl ?_
    refine x_iloadn (x := v2) rfl rfl ?_
    refine z_iald (N := 600) rfl J rfl sg_82_0_600_1_0_1 rfl (by omega) (fun v7 qv7 ev7 => ?_)
    refine x_goto (tgt := 37) rfl rfl ?_
    refine x_iret rfl rfl ?_
    show jX m_X0_isCertified 2 0 0 128 [(0, .ref 98), (1, .int l1), (2, .int l2), (3, .int l3), (4, .int l4), (5, .int l5)] [.int v7] _ 0 0 _
    refine x_iloadn (x := l1) rfl rfl ?_
    refine x_icne (tgt := 134) rfl rfl (ti_ne rfl rfl ⟨fun c8 => ?_, fun c8 => ?_⟩)
    ·
      exact jX.sub (jsb_c rfl (jsb_c rfl (jsb_c rfl (jsb_c rfl (jsb_c rfl (jsb_c rfl jsb_n)))))) (ct_X0_isCertified_r98_134 hD hQ k3 l1 l2 l3 l4 l5 h (jr_of rfl (by omega)) (jr_of rfl (by omega)) (jr_of rfl (by omega)) (jr_of rfl (by omega)) (jr_of rfl (by omega)) (by omega) J Sm)
    ·
      refine x_iconst (v := 1) rfl ki_1 ?_
      refine x_zret rfl rfl (by decide) ?_
      exact hQ _ _ (jr_of jk_1 (by omega)) J Sm
set_option maxRecDepth 100000 in
set_option maxHeartbeats 4000000 in
theorem ct_X0_isCertified_r98_3 {Dy : jH → Prop} {h0 : jH} {Q : Option Value → jH → Prop} (hD : jDk Dy) (hQ : ∀ (v : Int32) hx9, 0 ≤ v.toInt ∧ v.toInt ≤ 1 → jJ jSgX Dy hx9 → jSm fp_X0_isCertified_r98 h0 hx9 → Q (some (.int v)) hx9) : ∀ r : Nat, ∀ (l1 : Int32) (l2 : Int32) (l3 : Int32) (l4 : Int32) (l5 : Int32) (h : jH), 100 - l5.toInt < (r : Int) → (-1) ≤ l1.toInt ∧ l1.toInt ≤ 599 → (-1) ≤ l2.toInt ∧ l2.toInt ≤ 11 → 0 ≤ l3.toInt ∧ l3.toInt ≤ 146399 → 0 ≤ l4.toInt ∧ l4.toInt ≤ 146399 → 0 ≤ l5.toInt ∧ l5.toInt ≤ 100 → jJ jSgX Dy h → jSm fp_X0_isCertified_r98 h0 h → jX m_X0_isCertified 2 0 0 3 [(0, .ref 98), (1, .int l1), (2, .int l2), (3, .int l3), (4, .int l4), (5, .int l5)] [] h 0 0 Q := by
  intro r
  induction r with
  | zero =>
    intro l1 l2 l3 l4 l5 h hm y0 y1 y2 y3 y4   J Sm
    exfalso
    omega
  | succ r ih =>
    intro l1 l2 l3 l4 l5 h hm y0 y1 y2 y3 y4   J Sm
    refine x_iload (x := l5) rfl rfl ?_
    refine x_aloadn (x := 98) rfl rfl ?_
    refine z_getR (N := 16) (b := 32) 0 0 rfl f_0_57 rfl J rfl 12544 ⟨rfl, rfl⟩ rfl ?_
    refine z_getR (N := 20) (b := 43) 1 5 rfl f_0_186 rfl J rfl 4101 ⟨rfl, rfl⟩ rfl ?_
    refine z_getI (N := 4) 8 3 rfl f_0_124 rfl J rfl sg_43_3_4_1_0_1 (fun v1 qv1 ev1 => ?_)
    refine x_icge (tgt := 140) rfl rfl (ti_ge rfl rfl ⟨fun c2 => ?_, fun c2 => ?_⟩)
    ·
      refine x_iconst (v := 0) rfl ki_0 ?_
      refine x_zret rfl rfl (by decide) ?_
      exact hQ _ _ (jr_of jk_0 (by omega)) J Sm
    ·
      refine x_aloadn (x := 98) rfl rfl ?_
      refine z_getR (N := 16) (b := 32) 0 0 rfl f_0_57 rfl J rfl 12544 ⟨rfl, rfl⟩ rfl ?_
      refine z_getR (N := 20) (b := 43) 1 5 rfl f_0_186 rfl J rfl 4101 ⟨rfl, rfl⟩ rfl ?_
      refine x_iload (x := l5) rfl rfl ?_
      refine x_iconst (v := 4) rfl ki_4 ?_
      refine x_inv (N := m_X8_at) (As := [.int l5, .int 4]) (b := 43) (st := []) (dx9 := 1) (mc := 0) (ms := 0) (host := "") 8 rfl t_X8_at ⟨Or.inl q_0_145, i_X8_at.1, i_X8_at.2⟩ ⟨by decide, rfl⟩ (congrArg Prod.fst (J.1.1 43 (8, 4) rfl)) rfl (by decide) rfl rfl ⟨by decide, by decide⟩ (sf_X8_at_r43_c4 (jr_of rfl (by omega)) hD J  (fun v4 h ev4 J S3 => ?_))
      have Sm := jSm_tr rfl Sm S3
      show jX m_X0_isCertified 2 0 0 31 [(0, .ref 98), (1, .int l1), (2, .int l2), (3, .int l3), (4, .int l4), (5, .int l5)] [.int v4] _ 0 0 _
      refine x_iconst (v := 4) rfl ki_4 ?_
      refine x_icne (tgt := 134) rfl rfl (ti_ne rfl jk_4 ⟨fun c5 => ?_, fun c5 => ?_⟩)
      ·
        exact jX.sub (jsb_c rfl (jsb_c rfl (jsb_c rfl (jsb_c rfl (jsb_c rfl (jsb_c rfl jsb_n)))))) (ct_X0_isCertified_r98_134 hD hQ ih l1 l2 l3 l4 l5 h (jr_of rfl (by omega)) (jr_of rfl (by omega)) (jr_of rfl (by omega)) (jr_of rfl (by omega)) (jr_of rfl (by omega)) (by omega) J Sm)
      ·
        refine x_aloadn (x := 98) rfl rfl ?_
        refine z_getR (N := 16) (b := 32) 0 0 rfl f_0_57 rfl J rfl 12544 ⟨rfl, rfl⟩ rfl ?_
        refine z_getR (N := 20) (b := 43) 1 5 rfl f_0_186 rfl J rfl 4101 ⟨rfl, rfl⟩ rfl ?_
        refine x_iload (x := l5) rfl rfl ?_
        refine x_iload (x := l4) rfl rfl ?_
        refine x_inv (N := m_X8_isKnown) (As := [.int l5, .int l4]) (b := 43) (st := []) (dx9 := 1) (mc := 0) (ms := 0) (host := "") 8 rfl t_X8_isKnown ⟨Or.inl q_0_151, i_X8_isKnown.1, i_X8_isKnown.2⟩ ⟨by decide, rfl⟩ (congrArg Prod.fst (J.1.1 43 (8, 4) rfl)) rfl (by decide) rfl rfl ⟨by decide, by decide⟩ (sf_X8_isKnown_r43 (jr_of rfl (by omega)) (jr_of rfl (by omega)) hD J  (fun v7 h ev7 J S6 => ?_))
        have Sm := jSm_tr rfl Sm S6
        show jX m_X0_isCertified 2 0 0 49 [(0, .ref 98), (1, .int l1), (2, .int l2), (3, .int l3), (4, .int l4), (5, .int l5)] [.int v7] _ 0 0 _
        refine x_ifeq (tgt := 134) rfl rfl (ti_eq rfl jk_0 ⟨fun c8 => ?_, fun c8 => ?_⟩)
        ·
          exact jX.sub (jsb_c rfl (jsb_c rfl (jsb_c rfl (jsb_c rfl (jsb_c rfl (jsb_c rfl jsb_n)))))) (ct_X0_isCertified_r98_134 hD hQ ih l1 l2 l3 l4 l5 h (jr_of rfl (by omega)) (jr_of rfl (by omega)) (jr_of rfl (by omega)) (jr_of rfl (by omega)) (jr_of rfl (by omega)) (by omega) J Sm)
        ·
          refine x_aloadn (x := 98) rfl rfl ?_
          refine z_getR (N := 16) (b := 32) 0 0 rfl f_0_57 rfl J rfl 12544 ⟨rfl, rfl⟩ rfl ?_
          refine z_getR (N := 20) (b := 43) 1 5 rfl f_0_186 rfl J rfl 4101 ⟨rfl, rfl⟩ rfl ?_
          refine x_iload (x := l5) rfl rfl ?_
          refine x_iconst (v := 1) rfl ki_1 ?_
          refine x_inv (N := m_X8_at) (As := [.int l5, .int 1]) (b := 43) (st := []) (dx9 := 1) (mc := 0) (ms := 0) (host := "") 8 rfl t_X8_at ⟨Or.inl q_0_145, i_X8_at.1, i_X8_at.2⟩ ⟨by decide, rfl⟩ (congrArg Prod.fst (J.1.1 43 (8, 4) rfl)) rfl (by decide) rfl rfl ⟨by decide, by decide⟩ (sf_X8_at_r43_c1 (jr_of rfl (by omega)) hD J  (fun v10 h ev10 J S9 => ?_))
          have Sm := jSm_tr rfl Sm S9
          show jX m_X0_isCertified 2 0 0 65 [(0, .ref 98), (1, .int l1), (2, .int l2), (3, .int l3), (4, .int l4), (5, .int l5)] [.int v10] _ 0 0 _
          refine x_iloadn (x := l3) rfl rfl ?_
          refine x_icgt (tgt := 134) rfl rfl (ti_gt rfl rfl ⟨fun c11 => ?_, fun c11 => ?_⟩)
          ·
            exact jX.sub (jsb_c rfl (jsb_c rfl (jsb_c rfl (jsb_c rfl (jsb_c rfl (jsb_c rfl jsb_n)))))) (ct_X0_isCertified_r98_134 hD hQ ih l1 l2 l3 l4 l5 h (jr_of rfl (by omega)) (jr_of rfl (by omega)) (jr_of rfl (by omega)) (jr_of rfl (by omega)) (jr_of rfl (by omega)) (by omega) J Sm)
          ·
            refine x_aloadn (x := 98) rfl rfl ?_
            refine z_getR (N := 16) (b := 32) 0 0 rfl f_0_57 rfl J rfl 12544 ⟨rfl, rfl⟩ rfl ?_
            refine z_getR (N := 20) (b := 43) 1 5 rfl f_0_186 rfl J rfl 4101 ⟨rfl, rfl⟩ rfl ?_
            refine x_iload (x := l5) rfl rfl ?_
            refine x_iconst (v := 2) rfl ki_2 ?_
            refine x_inv (N := m_X8_at) (As := [.int l5, .int 2]) (b := 43) (st := []) (dx9 := 1) (mc := 0) (ms := 0) (host := "") 8 rfl t_X8_at ⟨Or.inl q_0_145, i_X8_at.1, i_X8_at.2⟩ ⟨by decide, rfl⟩ (congrArg Prod.fst (J.1.1 43 (8, 4) rfl)) rfl (by decide) rfl rfl ⟨by decide, by decide⟩ (sf_X8_at_r43_c2 (jr_of rfl (by omega)) hD J  (fun v13 h ev13 J S12 => ?_))
            have Sm := jSm_tr rfl Sm S12
            show jX m_X0_isCertified 2 0 0 82 [(0, .ref 98), (1, .int l1), (2, .int l2), (3, .int l3), (4, .int l4), (5, .int l5)] [.int v13] _ 0 0 _
            refine x_iloadn (x := l3) rfl rfl ?_
            refine x_iclt (tgt := 134) rfl rfl (ti_lt rfl rfl ⟨fun c14 => ?_, fun c14 => ?_⟩)
            ·
              exact jX.sub (jsb_c rfl (jsb_c rfl (jsb_c rfl (jsb_c rfl (jsb_c rfl (jsb_c rfl jsb_n)))))) (ct_X0_isCertified_r98_134 hD hQ ih l1 l2 l3 l4 l5 h (jr_of rfl (by omega)) (jr_of rfl (by omega)) (jr_of rfl (by omega)) (jr_of rfl (by omega)) (jr_of rfl (by omega)) (by omega) J Sm)
            ·
              refine x_iloadn (x := l2) rfl rfl ?_
              refine x_iconst (v := (-1)) rfl ki_m1 ?_
              refine x_iceq (tgt := 108) rfl rfl (ti_eq rfl jk_m1 ⟨fun c15 => ?_, fun c15 => ?_⟩)
              ·
                exact jX.sub (jsb_c rfl (jsb_c rfl (jsb_c rfl (jsb_c rfl (jsb_c rfl (jsb_c rfl jsb_n)))))) (ct_X0_isCertified_r98_108 hD hQ ih l1 l2 l3 l4 l5 h (jr_of rfl (by omega)) (jr_of rfl (by omega)) (jr_of rfl (by omega)) (jr_of rfl (by omega)) (jr_of rfl (by omega)) (by omega) J Sm)
              ·
                refine x_aloadn (x := 98) rfl rfl ?_
                refine z_getR (N := 16) (b := 32) 0 0 rfl f_0_57 rfl J rfl 12544 ⟨rfl, rfl⟩ rfl ?_
                refine z_getR (N := 20) (b := 43) 1 5 rfl f_0_186 rfl J rfl 4101 ⟨rfl, rfl⟩ rfl ?_
                refine x_iload (x := l5) rfl rfl ?_
                refine x_iconst (v := 5) rfl ki_5 ?_
                refine x_inv (N := m_X8_at) (As := [.int l5, .int 5]) (b := 43) (st := []) (dx9 := 1) (mc := 0) (ms := 0) (host := "") 8 rfl t_X8_at ⟨Or.inl q_0_145, i_X8_at.1, i_X8_at.2⟩ ⟨by decide, rfl⟩ (congrArg Prod.fst (J.1.1 43 (8, 4) rfl)) rfl (by decide) rfl rfl ⟨by decide, by decide⟩ (sf_X8_at_r43_c5 (jr_of rfl (by omega)) hD J  (fun v17 h ev17 J S16 => ?_))
                have Sm := jSm_tr rfl Sm S16
                show jX m_X0_isCertified 2 0 0 104 [(0, .ref 98), (1, .int l1), (2, .int l2), (3, .int l3), (4, .int l4), (5, .int l5)] [.int v17] _ 0 0 _
                refine x_iloadn (x := l2) rfl rfl ?_
                refine x_icne (tgt := 134) rfl rfl (ti_ne rfl rfl ⟨fun c18 => ?_, fun c18 => ?_⟩)
                ·
                  exact jX.sub (jsb_c rfl (jsb_c rfl (jsb_c rfl (jsb_c rfl (jsb_c rfl (jsb_c rfl jsb_n)))))) (ct_X0_isCertified_r98_134 hD hQ ih l1 l2 l3 l4 l5 h (jr_of rfl (by omega)) (jr_of rfl (by omega)) (jr_of rfl (by omega)) (jr_of rfl (by omega)) (jr_of rfl (by omega)) (by omega) J Sm)
                ·
                  exact jX.sub (jsb_c rfl (jsb_c rfl (jsb_c rfl (jsb_c rfl (jsb_c rfl (jsb_c rfl jsb_n)))))) (ct_X0_isCertified_r98_108 hD hQ ih l1 l2 l3 l4 l5 h (jr_of rfl (by omega)) (jr_of rfl (by omega)) (jr_of rfl (by omega)) (jr_of rfl (by omega)) (jr_of rfl (by omega)) (by omega) J Sm)
set_option maxRecDepth 100000 in
set_option maxHeartbeats 4000000 in
theorem sf_X0_isCertified_r98 {Dy : jH → Prop} {h : jH} {Q : Option Value → jH → Prop} {a1 : Int32} {a2 : Int32} {a3 : Int32} {a4 : Int32} (y1 : (-1) ≤ a1.toInt ∧ a1.toInt ≤ 599) (y2 : (-1) ≤ a2.toInt ∧ a2.toInt ≤ 11) (y3 : 0 ≤ a3.toInt ∧ a3.toInt ≤ 146399) (y4 : 0 ≤ a4.toInt ∧ a4.toInt ≤ 146399) (hD : jDk Dy) (J : jJ jSgX Dy h) (hQ : ∀ (v : Int32) hx9, 0 ≤ v.toInt ∧ v.toInt ≤ 1 → jJ jSgX Dy hx9 → jSm fp_X0_isCertified_r98 h hx9 → Q (some (.int v)) hx9) : jC m_X0_isCertified 2 0 0 [.ref 98, .int a1, .int a2, .int a3, .int a4] h Q := by
  refine jC.of rfl k_X0_isCertified rfl ?_
  have Sm := jSm_rf fp_X0_isCertified_r98 h
  show jX m_X0_isCertified 2 0 0 0 [(0, .ref 98), (1, .int a1), (2, .int a2), (3, .int a3), (4, .int a4)] [] _ 0 0 _
  refine x_iconst (v := 0) rfl ki_0 ?_
  refine x_istore (lsx9 := [(5, .int 0), (0, .ref 98), (1, .int a1), (2, .int a2), (3, .int a3), (4, .int a4)]) rfl rfl rfl ?_
  exact jX.sub (jsb_c rfl (jsb_c rfl (jsb_c rfl (jsb_c rfl (jsb_c rfl (jsb_c rfl jsb_n)))))) (ct_X0_isCertified_r98_3 hD hQ  101 a1 a2 a3 a4 0 h (by have := jk_0; omega) (jr_of rfl (by omega)) (jr_of rfl (by omega)) (jr_of rfl (by omega)) (jr_of rfl (by omega)) (jr_of jk_0 (by omega)) J Sm)
def fp_X0_valueOf_r98 : jFp := []
set_option maxRecDepth 100000 in
set_option maxHeartbeats 4000000 in
theorem ct_X0_valueOf_r98_55 {Dy : jH → Prop} {h0 : jH} {Q : Option Value → jH → Prop} (hD : jDk Dy) (hQ : ∀ (v : Int64) hx9, jJ jSgX Dy hx9 → jSm fp_X0_valueOf_r98 h0 hx9 → Q (some (.long v)) hx9) : ∀ (l2 : Int64) (h : jH), jJ jSgX Dy h → jSm fp_X0_valueOf_r98 h0 h → jX m_X0_valueOf 1 0 0 55 [(2, .long l2)] [] h 0 0 Q := by
  intro l2 h    J Sm
  have el2 := jfullL l2
  refine x_lloadn (x := l2) rfl rfl ?_
  refine x_lret rfl rfl ?_
  exact hQ _ _ J Sm
set_option maxRecDepth 100000 in
set_option maxHeartbeats 4000000 in
theorem ct_X0_valueOf_r98_49 {Dy : jH → Prop} {h0 : jH} {Q : Option Value → jH → Prop} {R5 : Int} (hD : jDk Dy) (hQ : ∀ (v : Int64) hx9, jJ jSgX Dy hx9 → jSm fp_X0_valueOf_r98 h0 hx9 → Q (some (.long v)) hx9) (k5 : ∀ (l1 : Int32) (l2 : Int64) (l4 : Int32) (h : jH), 40 - l4.toInt < R5 → (-1) ≤ l1.toInt ∧ l1.toInt ≤ 599 → 0 ≤ l4.toInt ∧ l4.toInt ≤ 40 → jJ jSgX Dy h → jSm fp_X0_valueOf_r98 h0 h → jX m_X0_valueOf 1 0 0 5 [(0, .ref 98), (1, .int l1), (2, .long l2), (4, .int l4)] [] h 0 0 Q) : ∀ (l1 : Int32) (l2 : Int64) (l4 : Int32) (h : jH), (-1) ≤ l1.toInt ∧ l1.toInt ≤ 599 → 0 ≤ l4.toInt ∧ l4.toInt ≤ 39 → 40 - l4.toInt ≤ R5 → jJ jSgX Dy h → jSm fp_X0_valueOf_r98 h0 h → jX m_X0_valueOf 1 0 0 49 [(0, .ref 98), (1, .int l1), (2, .long l2), (4, .int l4)] [] h 0 0 Q := by
  intro l1 l2 l4 h y0 y1  m5 J Sm
  have el2 := jfullL l2
  refine z_iinc (x := l4) (lsx9 := fun v1 => [(4, .int v1), (0, .ref 98), (1, .int l1), (2, .long l2)]) rfl rfl rfl jko_1 (by omega) rfl (fun _ => rfl) (fun v1 ev1 => ?_)
  refine x_goto (tgt := 5) rfl rfl ?_
  exact jX.sub (jsb_c rfl (jsb_c rfl (jsb_c rfl (jsb_c rfl jsb_n)))) (k5 l1 l2 v1 h (by omega) (jr_of rfl (by omega)) (jr_of rfl (by omega)) J Sm)
set_option maxRecDepth 100000 in
set_option maxHeartbeats 4000000 in
theorem ct_X0_valueOf_r98_5 {Dy : jH → Prop} {h0 : jH} {Q : Option Value → jH → Prop} (hD : jDk Dy) (hQ : ∀ (v : Int64) hx9, jJ jSgX Dy hx9 → jSm fp_X0_valueOf_r98 h0 hx9 → Q (some (.long v)) hx9) : ∀ r : Nat, ∀ (l1 : Int32) (l2 : Int64) (l4 : Int32) (h : jH), 40 - l4.toInt < (r : Int) → (-1) ≤ l1.toInt ∧ l1.toInt ≤ 599 → 0 ≤ l4.toInt ∧ l4.toInt ≤ 40 → jJ jSgX Dy h → jSm fp_X0_valueOf_r98 h0 h → jX m_X0_valueOf 1 0 0 5 [(0, .ref 98), (1, .int l1), (2, .long l2), (4, .int l4)] [] h 0 0 Q := by
  intro r
  induction r with
  | zero =>
    intro l1 l2 l4 h hm y0 y1   J Sm
    exfalso
    have el2 := jfullL l2
    omega
  | succ r ih =>
    intro l1 l2 l4 h hm y0 y1   J Sm
    have el2 := jfullL l2
    refine x_iload (x := l4) rfl rfl ?_
    refine x_bipush (v := 40) rfl kb_40 ?_
    refine x_icge (tgt := 55) rfl rfl (ti_ge rfl jk_40 ⟨fun c1 => ?_, fun c1 => ?_⟩)
    ·
      exact jX.sub (jsb_c rfl jsb_n) (ct_X0_valueOf_r98_55 hD hQ  l2 h J Sm)
    ·
      refine x_iload (x := l4) rfl rfl ?_
      refine x_aloadn (x := 98) rfl rfl ?_
      refine z_getR (N := 16) (b := 32) 0 0 rfl f_0_57 rfl J rfl 12544 ⟨rfl, rfl⟩ rfl ?_
      refine z_getR (N := 20) (b := 49) 1 8 rfl f_0_120 rfl J rfl 4104 ⟨rfl, rfl⟩ rfl ?_
      refine z_getI (N := 4) 8 3 rfl f_0_124 rfl J rfl sg_49_3_4_1_0_1 (fun v2 qv2 ev2 => ?_)
      refine x_icge (tgt := 55) rfl rfl (ti_ge rfl rfl ⟨fun c3 => ?_, fun c3 => ?_⟩)
      ·
        exact jX.sub (jsb_c rfl jsb_n) (ct_X0_valueOf_r98_55 hD hQ  l2 h J Sm)
      ·
        refine x_aloadn (x := 98) rfl rfl ?_
        refine z_getR (N := 16) (b := 103) 0 6 rfl f_0_24 rfl J rfl 12550 ⟨rfl, rfl⟩ rfl ?_
        refine x_iload (x := l4) rfl rfl ?_
        refine z_iald (N := 40) rfl J rfl sg_103_0_40_1_0_1 rfl (by omega) (fun v4 qv4 ev4 => ?_)
        refine x_iloadn (x := l1) rfl rfl ?_
        refine x_icne (tgt := 49) rfl rfl (ti_ne rfl rfl ⟨fun c5 => ?_, fun c5 => ?_⟩)
        ·
          exact jX.sub (jsb_c rfl (jsb_c rfl (jsb_c rfl (jsb_c rfl jsb_n)))) (ct_X0_valueOf_r98_49 hD hQ ih l1 l2 l4 h (jr_of rfl (by omega)) (jr_of rfl (by omega)) (by omega) J Sm)
        ·
          refine x_lloadn (x := l2) rfl rfl ?_
          refine x_aloadn (x := 98) rfl rfl ?_
          refine z_getR (N := 16) (b := 102) 0 5 rfl f_0_21 rfl J rfl 12549 ⟨rfl, rfl⟩ rfl ?_
          refine x_iload (x := l4) rfl rfl ?_
          refine z_iald0 (N := 40) rfl J rfl rfl (by omega) (fun v6 qv6 => ?_)
          have ev6 := jfull v6
          refine z_i2l rfl rfl (fun v7 ev7 => ?_)
          refine z_ladd0 rfl (fun v8 => ?_)
          have ev8 := jfullL v8
          refine x_lstoren (lsx9 := [(2, .long v8), (0, .ref 98), (1, .int l1), (4, .int l4)]) rfl rfl rfl ?_
          exact jX.sub (jsb_c rfl (jsb_c rfl (jsb_c rfl (jsb_c rfl jsb_n)))) (ct_X0_valueOf_r98_49 hD hQ ih l1 v8 l4 h (jr_of rfl (by omega)) (jr_of rfl (by omega)) (by omega) J Sm)
set_option maxRecDepth 100000 in
set_option maxHeartbeats 4000000 in
theorem sf_X0_valueOf_r98 {Dy : jH → Prop} {h : jH} {Q : Option Value → jH → Prop} {a1 : Int32} (y1 : (-1) ≤ a1.toInt ∧ a1.toInt ≤ 599) (hD : jDk Dy) (J : jJ jSgX Dy h) (hQ : ∀ (v : Int64) hx9, jJ jSgX Dy hx9 → jSm fp_X0_valueOf_r98 h hx9 → Q (some (.long v)) hx9) : jC m_X0_valueOf 1 0 0 [.ref 98, .int a1] h Q := by
  refine jC.of rfl k_X0_valueOf rfl ?_
  have Sm := jSm_rf fp_X0_valueOf_r98 h
  show jX m_X0_valueOf 1 0 0 0 [(0, .ref 98), (1, .int a1)] [] _ 0 0 _
  refine x_lconst (v := 0) rfl kl_0 ?_
  refine x_lstoren (lsx9 := [(2, .long 0), (0, .ref 98), (1, .int a1)]) rfl rfl rfl ?_
  refine x_iconst (v := 0) rfl ki_0 ?_
  refine x_istore (lsx9 := [(4, .int 0), (2, .long 0), (0, .ref 98), (1, .int a1)]) rfl rfl rfl ?_
  exact jX.sub (jsb_c rfl (jsb_c rfl (jsb_c rfl (jsb_c rfl jsb_n)))) (ct_X0_valueOf_r98_5 hD hQ  41 a1 0 0 h (by have := jk_0; omega) (jr_of rfl (by omega)) (jr_of jk_0 (by omega)) J Sm)
def fp_X7_hasBy_r78 : jFp := []
set_option maxRecDepth 100000 in
set_option maxHeartbeats 4000000 in
theorem ct_X7_hasBy_r78_59 {Dy : jH → Prop} {h0 : jH} {Q : Option Value → jH → Prop} (hD : jDk Dy) (hQ : ∀ (v : Int32) hx9, 0 ≤ v.toInt ∧ v.toInt ≤ 1 → jJ jSgX Dy hx9 → jSm fp_X7_hasBy_r78 h0 hx9 → Q (some (.int v)) hx9) : ∀ (h : jH), jJ jSgX Dy h → jSm fp_X7_hasBy_r78 h0 h → jX m_X7_hasBy 1 0 0 59 [] [] h 0 0 Q := by
  intro  h    J Sm
  refine x_iconst (v := 0) rfl ki_0 ?_
  refine x_zret rfl rfl (by decide) ?_
  exact hQ _ _ (jr_of jk_0 (by omega)) J Sm
set_option maxRecDepth 100000 in
set_option maxHeartbeats 4000000 in
theorem ct_X7_hasBy_r78_44 {Dy : jH → Prop} {h0 : jH} {Q : Option Value → jH → Prop} {R6 : Int} (hD : jDk Dy) (hQ : ∀ (v : Int32) hx9, 0 ≤ v.toInt ∧ v.toInt ≤ 1 → jJ jSgX Dy hx9 → jSm fp_X7_hasBy_r78 h0 hx9 → Q (some (.int v)) hx9) (k6 : ∀ (l2 : Int32) (l3 : Int32) (l4 : Int32) (l5 : Int32) (h : jH), 600 - l5.toInt < R6 → 0 ≤ l2.toInt ∧ l2.toInt ≤ 5 → 0 ≤ l3.toInt ∧ l3.toInt ≤ 146399 → (-1) ≤ l4.toInt ∧ l4.toInt ≤ 599 → 0 ≤ l5.toInt ∧ l5.toInt ≤ 600 → jJ jSgX Dy h → jSm fp_X7_hasBy_r78 h0 h → jX m_X7_hasBy 1 0 0 6 [(0, .ref 78), (2, .int l2), (3, .int l3), (4, .int l4), (5, .int l5)] [] h 0 0 Q) : ∀ (l2 : Int32) (l3 : Int32) (l4 : Int32) (l5 : Int32) (h : jH), 0 ≤ l2.toInt ∧ l2.toInt ≤ 5 → 0 ≤ l3.toInt ∧ l3.toInt ≤ 146399 → 0 ≤ l4.toInt ∧ l4.toInt ≤ 599 → 0 ≤ l5.toInt ∧ l5.toInt ≤ 599 → 600 - l5.toInt ≤ R6 → jJ jSgX Dy h → jSm fp_X7_hasBy_r78 h0 h → jX m_X7_hasBy 1 0 0 44 [(0, .ref 78), (2, .int l2), (3, .int l3), (4, .int l4), (5, .int l5)] [] h 0 0 Q := by
  intro l2 l3 l4 l5 h y0 y1 y2 y3  m6 J Sm
  refine x_aloadn (x := 78) rfl rfl ?_
  refine z_getR (N := 16) (b := 83) 7 11 rfl f_7_40 rfl J rfl 9995 ⟨rfl, rfl⟩ rfl ?_
  refine x_iload (x := l4) rfl rfl ?_
  refine z_iald (N := 600) rfl J rfl sg_83_0_600_1_0_1 rfl (by omega) (fun v1 qv1 ev1 => ?_)
  refine x_istore (lsx9 := [(4, .int v1), (0, .ref 78), (2, .int l2), (3, .int l3), (5, .int l5)]) rfl rfl rfl ?_
  refine z_iinc (x := l5) (lsx9 := fun v2 => [(5, .int v2), (4, .int v1), (0, .ref 78), (2, .int l2), (3, .int l3)]) rfl rfl rfl jko_1 (by omega) rfl (fun _ => rfl) (fun v2 ev2 => ?_)
  refine x_goto (tgt := 6) rfl rfl ?_
  exact jX.sub (jsb_c rfl (jsb_c rfl (jsb_c rfl (jsb_c rfl (jsb_c rfl jsb_n))))) (k6 l2 l3 v1 v2 h (by omega) (jr_of rfl (by omega)) (jr_of rfl (by omega)) (jr_of rfl (by omega)) (jr_of rfl (by omega)) J Sm)
set_option maxRecDepth 100000 in
set_option maxHeartbeats 4000000 in
theorem ct_X7_hasBy_r78_6 {Dy : jH → Prop} {h0 : jH} {Q : Option Value → jH → Prop} (hD : jDk Dy) (hQ : ∀ (v : Int32) hx9, 0 ≤ v.toInt ∧ v.toInt ≤ 1 → jJ jSgX Dy hx9 → jSm fp_X7_hasBy_r78 h0 hx9 → Q (some (.int v)) hx9) : ∀ r : Nat, ∀ (l2 : Int32) (l3 : Int32) (l4 : Int32) (l5 : Int32) (h : jH), 600 - l5.toInt < (r : Int) → 0 ≤ l2.toInt ∧ l2.toInt ≤ 5 → 0 ≤ l3.toInt ∧ l3.toInt ≤ 146399 → (-1) ≤ l4.toInt ∧ l4.toInt ≤ 599 → 0 ≤ l5.toInt ∧ l5.toInt ≤ 600 → jJ jSgX Dy h → jSm fp_X7_hasBy_r78 h0 h → jX m_X7_hasBy 1 0 0 6 [(0, .ref 78), (2, .int l2), (3, .int l3), (4, .int l4), (5, .int l5)] [] h 0 0 Q := by
  intro r
  induction r with
  | zero =>
    intro l2 l3 l4 l5 h hm y0 y1 y2 y3   J Sm
    exfalso
    omega
  | succ r ih =>
    intro l2 l3 l4 l5 h hm y0 y1 y2 y3   J Sm
    refine x_iload (x := l4) rfl rfl ?_
    refine x_iconst (v := (-1)) rfl ki_m1 ?_
    refine x_iceq (tgt := 59) rfl rfl (ti_eq rfl jk_m1 ⟨fun c1 => ?_, fun c1 => ?_⟩)
    ·
      exact jX.sub jsb_n (ct_X7_hasBy_r78_59 hD hQ  h J Sm)
    ·
      refine x_iload (x := l5) rfl rfl ?_
      refine x_sipush (v := 600) rfl ks_600 ?_
      refine x_icge (tgt := 59) rfl rfl (ti_ge rfl jk_600 ⟨fun c2 => ?_, fun c2 => ?_⟩)
      ·
        exact jX.sub jsb_n (ct_X7_hasBy_r78_59 hD hQ  h J Sm)
      ·
        refine x_aloadn (x := 78) rfl rfl ?_
        refine z_getR (N := 16) (b := 79) 7 7 rfl f_7_27 rfl J rfl 9991 ⟨rfl, rfl⟩ rfl ?_
        refine x_iload (x := l4) rfl rfl ?_
        refine z_iald (N := 600) rfl J rfl sg_79_0_600_1_0_1 rfl (by omega) (fun v3 qv3 ev3 => ?_)
        refine x_iloadn (x := l2) rfl rfl ?_
        refine x_icne (tgt := 44) rfl rfl (ti_ne rfl rfl ⟨fun c4 => ?_, fun c4 => ?_⟩)
        ·
          exact jX.sub (jsb_c rfl (jsb_c rfl (jsb_c rfl (jsb_c rfl (jsb_c rfl jsb_n))))) (ct_X7_hasBy_r78_44 hD hQ ih l2 l3 l4 l5 h (jr_of rfl (by omega)) (jr_of rfl (by omega)) (jr_of rfl (by omega)) (jr_of rfl (by omega)) (by omega) J Sm)
        ·
          refine x_aloadn (x := 78) rfl rfl ?_
          refine z_getR (N := 16) (b := 80) 7 8 rfl f_7_31 rfl J rfl 9992 ⟨rfl, rfl⟩ rfl ?_
          refine x_iload (x := l4) rfl rfl ?_
          refine z_iald (N := 600) rfl J rfl sg_80_0_600_1_0_1 rfl (by omega) (fun v5 qv5 ev5 => ?_)
          refine x_iloadn (x := l3) rfl rfl ?_
          refine x_icgt (tgt := 44) rfl rfl (ti_gt rfl rfl ⟨fun c6 => ?_, fun c6 => ?_⟩)
          ·
            exact jX.sub (jsb_c rfl (jsb_c rfl (jsb_c rfl (jsb_c rfl (jsb_c rfl jsb_n))))) (ct_X7_hasBy_r78_44 hD hQ ih l2 l3 l4 l5 h (jr_of rfl (by omega)) (jr_of rfl (by omega)) (jr_of rfl (by omega)) (jr_of rfl (by omega)) (by omega) J Sm)
          ·
            refine x_iconst (v := 1) rfl ki_1 ?_
            refine x_zret rfl rfl (by decide) ?_
            exact hQ _ _ (jr_of jk_1 (by omega)) J Sm
set_option maxRecDepth 100000 in
set_option maxHeartbeats 4000000 in
theorem sf_X7_hasBy_r78 {Dy : jH → Prop} {h : jH} {Q : Option Value → jH → Prop} {a1 : Int32} {a2 : Int32} {a3 : Int32} (y1 : (-1) ≤ a1.toInt ∧ a1.toInt ≤ 599) (y2 : 0 ≤ a2.toInt ∧ a2.toInt ≤ 5) (y3 : 0 ≤ a3.toInt ∧ a3.toInt ≤ 146399) (hD : jDk Dy) (J : jJ jSgX Dy h) (hQ : ∀ (v : Int32) hx9, 0 ≤ v.toInt ∧ v.toInt ≤ 1 → jJ jSgX Dy hx9 → jSm fp_X7_hasBy_r78 h hx9 → Q (some (.int v)) hx9) : jC m_X7_hasBy 1 0 0 [.ref 78, .int a1, .int a2, .int a3] h Q := by
  refine jC.of rfl k_X7_hasBy rfl ?_
  have Sm := jSm_rf fp_X7_hasBy_r78 h
  show jX m_X7_hasBy 1 0 0 0 [(0, .ref 78), (1, .int a1), (2, .int a2), (3, .int a3)] [] _ 0 0 _
  refine x_iloadn (x := a1) rfl rfl ?_
  refine x_istore (lsx9 := [(4, .int a1), (0, .ref 78), (1, .int a1), (2, .int a2), (3, .int a3)]) rfl rfl rfl ?_
  refine x_iconst (v := 0) rfl ki_0 ?_
  refine x_istore (lsx9 := [(5, .int 0), (4, .int a1), (0, .ref 78), (1, .int a1), (2, .int a2), (3, .int a3)]) rfl rfl rfl ?_
  exact jX.sub (jsb_c rfl (jsb_c rfl (jsb_c rfl (jsb_c rfl (jsb_c rfl jsb_n))))) (ct_X7_hasBy_r78_6 hD hQ  601 a2 a3 a1 0 h (by have := jk_0; omega) (jr_of rfl (by omega)) (jr_of rfl (by omega)) (jr_of rfl (by omega)) (jr_of jk_0 (by omega)) J Sm)
def fp_X7_childrenOf_r78 : jFp := []
set_option maxRecDepth 100000 in
set_option maxHeartbeats 4000000 in
theorem ct_X7_childrenOf_r78_115 {Dy : jH → Prop} {h0 : jH} {Q : Option Value → jH → Prop} (hD : jDk Dy) (hQ : ∀ (v : Int32) hx9, jJ jSgX Dy hx9 → jSm fp_X7_childrenOf_r78 h0 hx9 → Q (some (.int v)) hx9) : ∀ (l3 : Int32) (h : jH), jJ jSgX Dy h → jSm fp_X7_childrenOf_r78 h0 h → jX m_X7_childrenOf 2 0 0 115 [(3, .int l3)] [] h 0 0 Q := by
  intro l3 h    J Sm
  have el3 := jfull l3
  refine x_iloadn (x := l3) rfl rfl ?_
  refine x_iret rfl rfl ?_
  exact hQ _ _ J Sm
set_option maxRecDepth 100000 in
set_option maxHeartbeats 4000000 in
theorem ct_X7_childrenOf_r78_109 {Dy : jH → Prop} {h0 : jH} {Q : Option Value → jH → Prop} {R5 : Int} (hD : jDk Dy) (hQ : ∀ (v : Int32) hx9, jJ jSgX Dy hx9 → jSm fp_X7_childrenOf_r78 h0 hx9 → Q (some (.int v)) hx9) (k5 : ∀ (l1 : Int32) (l2 : Int32) (l3 : Int32) (l4 : Int32) (h : jH), 600 - l4.toInt < R5 → (-1) ≤ l1.toInt ∧ l1.toInt ≤ 599 → 0 ≤ l2.toInt ∧ l2.toInt ≤ 146399 → 0 ≤ l4.toInt ∧ l4.toInt ≤ 600 → l4.toInt % 3 = 0 → jJ jSgX Dy h → jSm fp_X7_childrenOf_r78 h0 h → jX m_X7_childrenOf 2 0 0 5 [(0, .ref 78), (1, .int l1), (2, .int l2), (3, .int l3), (4, .int l4)] [] h 0 0 Q) : ∀ (l1 : Int32) (l2 : Int32) (l3 : Int32) (l4 : Int32) (h : jH), (-1) ≤ l1.toInt ∧ l1.toInt ≤ 599 → 0 ≤ l2.toInt ∧ l2.toInt ≤ 146399 → 0 ≤ l4.toInt ∧ l4.toInt ≤ 597 → l4.toInt % 3 = 0 → 600 - l4.toInt ≤ R5 → jJ jSgX Dy h → jSm fp_X7_childrenOf_r78 h0 h → jX m_X7_childrenOf 2 0 0 109 [(0, .ref 78), (1, .int l1), (2, .int l2), (3, .int l3), (4, .int l4)] [] h 0 0 Q := by
  intro l1 l2 l3 l4 h y0 y1 y2 y3  m5 J Sm
  have el3 := jfull l3
  refine z_iinc (x := l4) (lsx9 := fun v1 => [(4, .int v1), (0, .ref 78), (1, .int l1), (2, .int l2), (3, .int l3)]) rfl rfl rfl jko_3 (by omega) rfl (fun _ => rfl) (fun v1 ev1 => ?_)
  refine x_goto (tgt := 5) rfl rfl ?_
  exact jX.sub (jsb_c rfl (jsb_c rfl (jsb_c rfl (jsb_c rfl (jsb_c rfl jsb_n))))) (k5 l1 l2 l3 v1 h (by omega) (jr_of rfl (by omega)) (jr_of rfl (by omega)) (jr_of rfl (by omega)) (jr_mod rfl (by omega)) J Sm)
set_option maxRecDepth 100000 in
set_option maxHeartbeats 4000000 in
theorem ct_X7_childrenOf_r78_90 {Dy : jH → Prop} {h0 : jH} {Q : Option Value → jH → Prop} {R5 : Int} (hD : jDk Dy) (hQ : ∀ (v : Int32) hx9, jJ jSgX Dy hx9 → jSm fp_X7_childrenOf_r78 h0 hx9 → Q (some (.int v)) hx9) (k5 : ∀ (l1 : Int32) (l2 : Int32) (l3 : Int32) (l4 : Int32) (h : jH), 600 - l4.toInt < R5 → (-1) ≤ l1.toInt ∧ l1.toInt ≤ 599 → 0 ≤ l2.toInt ∧ l2.toInt ≤ 146399 → 0 ≤ l4.toInt ∧ l4.toInt ≤ 600 → l4.toInt % 3 = 0 → jJ jSgX Dy h → jSm fp_X7_childrenOf_r78 h0 h → jX m_X7_childrenOf 2 0 0 5 [(0, .ref 78), (1, .int l1), (2, .int l2), (3, .int l3), (4, .int l4)] [] h 0 0 Q) : ∀ (l1 : Int32) (l2 : Int32) (l3 : Int32) (l4 : Int32) (h : jH), (-1) ≤ l1.toInt ∧ l1.toInt ≤ 599 → 0 ≤ l2.toInt ∧ l2.toInt ≤ 146399 → 0 ≤ l4.toInt ∧ l4.toInt ≤ 597 → l4.toInt % 3 = 0 → 600 - l4.toInt ≤ R5 → jJ jSgX Dy h → jSm fp_X7_childrenOf_r78 h0 h → jX m_X7_childrenOf 2 0 0 90 [(0, .ref 78), (1, .int l1), (2, .int l2), (3, .int l3), (4, .int l4)] [] h 0 0 Q := by
  intro l1 l2 l3 l4 h y0 y1 y2 y3  m5 J Sm
  have el3 := jfull l3
  refine x_aloadn (x := 78) rfl rfl ?_
  refine x_aloadn (x := 78) rfl rfl ?_
  refine z_getR (N := 16) (b := 82) 7 10 rfl f_7_37 rfl J rfl 9994 ⟨rfl, rfl⟩ rfl ?_
  refine x_iload (x := l4) rfl rfl ?_
  refine z_iald (N := 600) rfl J rfl sg_82_0_600_1_0_1 rfl (by omega) (fun v1 qv1 ev1 => ?_)
  refine x_iconst (v := 5) rfl ki_5 ?_
  refine x_iloadn (x := l2) rfl rfl ?_
  refine x_inv (N := m_X7_hasBy) (As := [.int v1, .int 5, .int l2]) (b := 78) (st := []) (dx9 := 1) (mc := 0) (ms := 0) (host := "") 7 rfl t_X7_hasBy ⟨Or.inl q_7_182, i_X7_hasBy.1, i_X7_hasBy.2⟩ ⟨by decide, rfl⟩ (congrArg Prod.fst (J.1.1 78 (7, 16) rfl)) rfl (by decide) rfl rfl ⟨by decide, by decide⟩ (sf_X7_hasBy_r78 (jr_of rfl (by omega)) (jr_of jk_5 (by omega)) (jr_of rfl (by omega)) hD J  (fun v3 h ev3 J S2 => ?_))
  have Sm := jSm_tr rfl Sm S2
  show jX m_X7_childrenOf 2 0 0 103 [(0, .ref 78), (1, .int l1), (2, .int l2), (3, .int l3), (4, .int l4)] [.int v3] _ 0 0 _
  refine x_ifne (tgt := 109) rfl rfl (ti_ne rfl jk_0 ⟨fun c4 => ?_, fun c4 => ?_⟩)
  ·
    exact jX.sub (jsb_c rfl (jsb_c rfl (jsb_c rfl (jsb_c rfl (jsb_c rfl jsb_n))))) (ct_X7_childrenOf_r78_109 hD hQ k5 l1 l2 l3 l4 h (jr_of rfl (by omega)) (jr_of rfl (by omega)) (jr_of rfl (by omega)) (jr_mod rfl (by omega)) (by omega) J Sm)
  ·
    refine z_iinc0 (x := l3) (lsx9 := fun v5 => [(3, .int v5), (0, .ref 78), (1, .int l1), (2, .int l2), (4, .int l4)]) rfl rfl rfl (fun _ => rfl) (fun v5 => ?_)
    have ev5 := jfull v5
    exact jX.sub (jsb_c rfl (jsb_c rfl (jsb_c rfl (jsb_c rfl (jsb_c rfl jsb_n))))) (ct_X7_childrenOf_r78_109 hD hQ k5 l1 l2 v5 l4 h (jr_of rfl (by omega)) (jr_of rfl (by omega)) (jr_of rfl (by omega)) (jr_mod rfl (by omega)) (by omega) J Sm)
set_option maxRecDepth 100000 in
set_option maxHeartbeats 4000000 in
theorem ct_X7_childrenOf_r78_5 {Dy : jH → Prop} {h0 : jH} {Q : Option Value → jH → Prop} (hD : jDk Dy) (hQ : ∀ (v : Int32) hx9, jJ jSgX Dy hx9 → jSm fp_X7_childrenOf_r78 h0 hx9 → Q (some (.int v)) hx9) : ∀ r : Nat, ∀ (l1 : Int32) (l2 : Int32) (l3 : Int32) (l4 : Int32) (h : jH), 600 - l4.toInt < (r : Int) → (-1) ≤ l1.toInt ∧ l1.toInt ≤ 599 → 0 ≤ l2.toInt ∧ l2.toInt ≤ 146399 → 0 ≤ l4.toInt ∧ l4.toInt ≤ 600 → l4.toInt % 3 = 0 → jJ jSgX Dy h → jSm fp_X7_childrenOf_r78 h0 h → jX m_X7_childrenOf 2 0 0 5 [(0, .ref 78), (1, .int l1), (2, .int l2), (3, .int l3), (4, .int l4)] [] h 0 0 Q := by
  intro r
  induction r with
  | zero =>
    intro l1 l2 l3 l4 h hm y0 y1 y2 y3   J Sm
    exfalso
    have el3 := jfull l3
    omega
  | succ r ih =>
    intro l1 l2 l3 l4 h hm y0 y1 y2 y3   J Sm
    have el3 := jfull l3
    refine x_iload (x := l4) rfl rfl ?_
    refine x_aloadn (x := 78) rfl rfl ?_
    refine z_getR (N := 16) (b := 32) 7 0 rfl f_7_55 rfl J rfl 9984 ⟨rfl, rfl⟩ rfl ?_
    refine z_getR (N := 20) (b := 33) 1 0 rfl f_7_63 rfl J rfl 4096 ⟨rfl, rfl⟩ rfl ?_
    refine z_getI (N := 4) 8 3 rfl f_7_85 rfl J rfl sg_33_3_4_1_0_1 (fun v1 qv1 ev1 => ?_)
    refine x_iconst (v := 3) rfl ki_3 ?_
    refine z_imul rfl rfl jk_3 (by omega) (fun v2 ev2 => ?_)
    refine x_icge (tgt := 115) rfl rfl (ti_ge rfl rfl ⟨fun c3 => ?_, fun c3 => ?_⟩)
    ·
      exact jX.sub (jsb_c rfl jsb_n) (ct_X7_childrenOf_r78_115 hD hQ  l3 h J Sm)
    ·
      refine x_iload (x := l4) rfl rfl ?_
      refine x_iconst (v := 2) rfl ki_2 ?_
      refine z_iadd rfl rfl jk_2 (by omega) (fun v4 ev4 => ?_)
      refine x_sipush (v := 600) rfl ks_600 ?_
      refine x_icge (tgt := 115) rfl rfl (ti_ge rfl jk_600 (br_f (by omega) ?_))
      refine x_aloadn (x := 78) rfl rfl ?_
      refine z_getR (N := 16) (b := 79) 7 7 rfl f_7_27 rfl J rfl 9991 ⟨rfl, rfl⟩ rfl ?_
      refine x_iload (x := l4) rfl rfl ?_
      refine z_iald (N := 600) rfl J rfl sg_79_0_600_1_0_1 rfl (by omega) (fun v5 qv5 ev5 => ?_)
      refine x_ifne (tgt := 109) rfl rfl (ti_ne rfl jk_0 ⟨fun c6 => ?_, fun c6 => ?_⟩)
      ·
        exact jX.sub (jsb_c rfl (jsb_c rfl (jsb_c rfl (jsb_c rfl (jsb_c rfl jsb_n))))) (ct_X7_childrenOf_r78_109 hD hQ ih l1 l2 l3 l4 h (jr_of rfl (by omega)) (jr_of rfl (by omega)) (jr_of rfl (by omega)) (jr_mod rfl (by omega)) (by omega) J Sm)
      ·
        refine x_aloadn (x := 78) rfl rfl ?_
        refine z_getR (N := 16) (b := 82) 7 10 rfl f_7_37 rfl J rfl 9994 ⟨rfl, rfl⟩ rfl ?_
        refine x_iload (x := l4) rfl rfl ?_
        refine z_iald (N := 600) rfl J rfl sg_82_0_600_1_0_1 rfl (by omega) (fun v7 qv7 ev7 => ?_)
        refine x_iconst (v := (-1)) rfl ki_m1 ?_
        refine x_iceq (tgt := 109) rfl rfl (ti_eq rfl jk_m1 ⟨fun c8 => ?_, fun c8 => ?_⟩)
        ·
          exact jX.sub (jsb_c rfl (jsb_c rfl (jsb_c rfl (jsb_c rfl (jsb_c rfl jsb_n))))) (ct_X7_childrenOf_r78_109 hD hQ ih l1 l2 l3 l4 h (jr_of rfl (by omega)) (jr_of rfl (by omega)) (jr_of rfl (by omega)) (jr_mod rfl (by omega)) (by omega) J Sm)
        ·
          refine x_aloadn (x := 78) rfl rfl ?_
          refine z_getR (N := 16) (b := 80) 7 8 rfl f_7_31 rfl J rfl 9992 ⟨rfl, rfl⟩ rfl ?_
          refine x_iload (x := l4) rfl rfl ?_
          refine z_iald (N := 600) rfl J rfl sg_80_0_600_1_0_1 rfl (by omega) (fun v9 qv9 ev9 => ?_)
          refine x_iloadn (x := l2) rfl rfl ?_
          refine x_icgt (tgt := 109) rfl rfl (ti_gt rfl rfl ⟨fun c10 => ?_, fun c10 => ?_⟩)
          ·
            exact jX.sub (jsb_c rfl (jsb_c rfl (jsb_c rfl (jsb_c rfl (jsb_c rfl jsb_n))))) (ct_X7_childrenOf_r78_109 hD hQ ih l1 l2 l3 l4 h (jr_of rfl (by omega)) (jr_of rfl (by omega)) (jr_of rfl (by omega)) (jr_mod rfl (by omega)) (by omega) J Sm)
          ·
            refine x_aloadn (x := 78) rfl rfl ?_
            refine z_getR (N := 16) (b := 82) 7 10 rfl f_7_37 rfl J rfl 9994 ⟨rfl, rfl⟩ rfl ?_
            refine x_iload (x := l4) rfl rfl ?_
            refine x_iconst (v := 1) rfl ki_1 ?_
            refine z_iadd rfl rfl jk_1 (by omega) (fun v11 ev11 => ?_)
            refine z_iald (N := 600) rfl J rfl sg_82_0_600_1_0_1 rfl (by omega) (fun v12 qv12 ev12 => ?_)
            refine x_iloadn (x := l1) rfl rfl ?_
            refine x_iceq (tgt := 90) rfl rfl (ti_eq rfl rfl ⟨fun c13 => ?_, fun c13 => ?_⟩)
            ·
              exact jX.sub (jsb_c rfl (jsb_c rfl (jsb_c rfl (jsb_c rfl (jsb_c rfl jsb_n))))) (ct_X7_childrenOf_r78_90 hD hQ ih l1 l2 l3 l4 h (jr_of rfl (by omega)) (jr_of rfl (by omega)) (jr_of rfl (by omega)) (jr_mod rfl (by omega)) (by omega) J Sm)
            ·
              refine x_aloadn (x := 78) rfl rfl ?_
              refine z_getR (N := 16) (b := 82) 7 10 rfl f_7_37 rfl J rfl 9994 ⟨rfl, rfl⟩ rfl ?_
              refine x_iload (x := l4) rfl rfl ?_
              refine x_iconst (v := 2) rfl ki_2 ?_
              refine z_iadd rfl rfl jk_2 (by omega) (fun v14 ev14 => ?_)
              refine z_iald (N := 600) rfl J rfl sg_82_0_600_1_0_1 rfl (by omega) (fun v15 qv15 ev15 => ?_)
              refine x_iloadn (x := l1) rfl rfl ?_
              refine x_icne (tgt := 109) rfl rfl (ti_ne rfl rfl ⟨fun c16 => ?_, fun c16 => ?_⟩)
              ·
                exact jX.sub (jsb_c rfl (jsb_c rfl (jsb_c rfl (jsb_c rfl (jsb_c rfl jsb_n))))) (ct_X7_childrenOf_r78_109 hD hQ ih l1 l2 l3 l4 h (jr_of rfl (by omega)) (jr_of rfl (by omega)) (jr_of rfl (by omega)) (jr_mod rfl (by omega)) (by omega) J Sm)
              ·
                exact jX.sub (jsb_c rfl (jsb_c rfl (jsb_c rfl (jsb_c rfl (jsb_c rfl jsb_n))))) (ct_X7_childrenOf_r78_90 hD hQ ih l1 l2 l3 l4 h (jr_of rfl (by omega)) (jr_of rfl (by omega)) (jr_of rfl (by omega)) (jr_mod rfl (by omega)) (by omega) J Sm)
set_option maxRecDepth 100000 in
set_option maxHeartbeats 4000000 in
theorem sf_X7_childrenOf_r78 {Dy : jH → Prop} {h : jH} {Q : Option Value → jH → Prop} {a1 : Int32} {a2 : Int32} (y1 : (-1) ≤ a1.toInt ∧ a1.toInt ≤ 599) (y2 : 0 ≤ a2.toInt ∧ a2.toInt ≤ 146399) (hD : jDk Dy) (J : jJ jSgX Dy h) (hQ : ∀ (v : Int32) hx9, jJ jSgX Dy hx9 → jSm fp_X7_childrenOf_r78 h hx9 → Q (some (.int v)) hx9) : jC m_X7_childrenOf 2 0 0 [.ref 78, .int a1, .int a2] h Q := by
  refine jC.of rfl k_X7_childrenOf rfl ?_
  have Sm := jSm_rf fp_X7_childrenOf_r78 h
  show jX m_X7_childrenOf 2 0 0 0 [(0, .ref 78), (1, .int a1), (2, .int a2)] [] _ 0 0 _
  refine x_iconst (v := 0) rfl ki_0 ?_
  refine x_istoren (lsx9 := [(3, .int 0), (0, .ref 78), (1, .int a1), (2, .int a2)]) rfl rfl rfl ?_
  refine x_iconst (v := 0) rfl ki_0 ?_
  refine x_istore (lsx9 := [(4, .int 0), (3, .int 0), (0, .ref 78), (1, .int a1), (2, .int a2)]) rfl rfl rfl ?_
  exact jX.sub (jsb_c rfl (jsb_c rfl (jsb_c rfl (jsb_c rfl (jsb_c rfl jsb_n))))) (ct_X7_childrenOf_r78_5 hD hQ  601 a1 a2 0 0 h (by have := jk_0; omega) (jr_of rfl (by omega)) (jr_of rfl (by omega)) (jr_of jk_0 (by omega)) (jr_mod jk_0 (by omega)) J Sm)
def fp_X7_firstDay_r78 : jFp := []
set_option maxRecDepth 100000 in
set_option maxHeartbeats 4000000 in
theorem ct_X7_firstDay_r78_49 {Dy : jH → Prop} {h0 : jH} {Q : Option Value → jH → Prop} (hD : jDk Dy) (hQ : ∀ (v : Int32) hx9, 0 ≤ v.toInt ∧ v.toInt ≤ 146399 → jJ jSgX Dy hx9 → jSm fp_X7_firstDay_r78 h0 hx9 → Q (some (.int v)) hx9) : ∀ (l3 : Int32) (h : jH), 0 ≤ l3.toInt ∧ l3.toInt ≤ 146399 → jJ jSgX Dy h → jSm fp_X7_firstDay_r78 h0 h → jX m_X7_firstDay 1 0 0 49 [(3, .int l3)] [] h 0 0 Q := by
  intro l3 h y0   J Sm
  refine x_iloadn (x := l3) rfl rfl ?_
  refine x_iret rfl rfl ?_
  exact hQ _ _ (jr_of rfl (by omega)) J Sm
set_option maxRecDepth 100000 in
set_option maxHeartbeats 4000000 in
theorem ct_X7_firstDay_r78_8 {Dy : jH → Prop} {h0 : jH} {Q : Option Value → jH → Prop} (hD : jDk Dy) (hQ : ∀ (v : Int32) hx9, 0 ≤ v.toInt ∧ v.toInt ≤ 146399 → jJ jSgX Dy hx9 → jSm fp_X7_firstDay_r78 h0 hx9 → Q (some (.int v)) hx9) : ∀ r : Nat, ∀ (l3 : Int32) (l4 : Int32) (l5 : Int32) (h : jH), 600 - l5.toInt < (r : Int) → 0 ≤ l3.toInt ∧ l3.toInt ≤ 146399 → (-1) ≤ l4.toInt ∧ l4.toInt ≤ 599 → 0 ≤ l5.toInt ∧ l5.toInt ≤ 600 → jJ jSgX Dy h → jSm fp_X7_firstDay_r78 h0 h → jX m_X7_firstDay 1 0 0 8 [(0, .ref 78), (3, .int l3), (4, .int l4), (5, .int l5)] [] h 0 0 Q := by
  intro r
  induction r with
  | zero =>
    intro l3 l4 l5 h hm y0 y1 y2   J Sm
    exfalso
    omega
  | succ r ih =>
    intro l3 l4 l5 h hm y0 y1 y2   J Sm
    refine x_iload (x := l4) rfl rfl ?_
    refine x_iconst (v := (-1)) rfl ki_m1 ?_
    refine x_iceq (tgt := 49) rfl rfl (ti_eq rfl jk_m1 ⟨fun c1 => ?_, fun c1 => ?_⟩)
    ·
      exact jX.sub (jsb_c rfl jsb_n) (ct_X7_firstDay_r78_49 hD hQ  l3 h (jr_of rfl (by omega)) J Sm)
    ·
      refine x_iload (x := l5) rfl rfl ?_
      refine x_sipush (v := 600) rfl ks_600 ?_
      refine x_icge (tgt := 49) rfl rfl (ti_ge rfl jk_600 ⟨fun c2 => ?_, fun c2 => ?_⟩)
      ·
        exact jX.sub (jsb_c rfl jsb_n) (ct_X7_firstDay_r78_49 hD hQ  l3 h (jr_of rfl (by omega)) J Sm)
      ·
        refine x_iloadn (x := l3) rfl rfl ?_
        refine x_aloadn (x := 78) rfl rfl ?_
        refine z_getR (N := 16) (b := 80) 7 8 rfl f_7_31 rfl J rfl 9992 ⟨rfl, rfl⟩ rfl ?_
        refine x_iload (x := l4) rfl rfl ?_
        refine z_iald (N := 600) rfl J rfl sg_80_0_600_1_0_1 rfl (by omega) (fun v3 qv3 ev3 => ?_)
        refine z_mmin rfl q_7_163 (by decide) rfl rfl rfl (fun v4 ev4 => ?_)
        refine x_istoren (lsx9 := [(3, .int v4), (0, .ref 78), (4, .int l4), (5, .int l5)]) rfl rfl rfl ?_
        refine x_aloadn (x := 78) rfl rfl ?_
        refine z_getR (N := 16) (b := 83) 7 11 rfl f_7_40 rfl J rfl 9995 ⟨rfl, rfl⟩ rfl ?_
        refine x_iload (x := l4) rfl rfl ?_
        refine z_iald (N := 600) rfl J rfl sg_83_0_600_1_0_1 rfl (by omega) (fun v5 qv5 ev5 => ?_)
        refine x_istore (lsx9 := [(4, .int v5), (3, .int v4), (0, .ref 78), (5, .int l5)]) rfl rfl rfl ?_
        refine z_iinc (x := l5) (lsx9 := fun v6 => [(5, .int v6), (4, .int v5), (3, .int v4), (0, .ref 78)]) rfl rfl rfl jko_1 (by omega) rfl (fun _ => rfl) (fun v6 ev6 => ?_)
        refine x_goto (tgt := 8) rfl rfl ?_
        exact jX.sub (jsb_c rfl (jsb_c rfl (jsb_c rfl (jsb_c rfl jsb_n)))) (ih v4 v5 v6 h (by omega) (jr_of rfl (by omega)) (jr_of rfl (by omega)) (jr_of rfl (by omega)) J Sm)
set_option maxRecDepth 100000 in
set_option maxHeartbeats 4000000 in
theorem sf_X7_firstDay_r78 {Dy : jH → Prop} {h : jH} {Q : Option Value → jH → Prop} {a1 : Int32} {a2 : Int32} (y1 : (-1) ≤ a1.toInt ∧ a1.toInt ≤ 599) (y2 : 0 ≤ a2.toInt ∧ a2.toInt ≤ 146399) (hD : jDk Dy) (J : jJ jSgX Dy h) (hQ : ∀ (v : Int32) hx9, 0 ≤ v.toInt ∧ v.toInt ≤ 146399 → jJ jSgX Dy hx9 → jSm fp_X7_firstDay_r78 h hx9 → Q (some (.int v)) hx9) : jC m_X7_firstDay 1 0 0 [.ref 78, .int a1, .int a2] h Q := by
  refine jC.of rfl k_X7_firstDay rfl ?_
  have Sm := jSm_rf fp_X7_firstDay_r78 h
  show jX m_X7_firstDay 1 0 0 0 [(0, .ref 78), (1, .int a1), (2, .int a2)] [] _ 0 0 _
  refine x_iloadn (x := a2) rfl rfl ?_
  refine x_istoren (lsx9 := [(3, .int a2), (0, .ref 78), (1, .int a1), (2, .int a2)]) rfl rfl rfl ?_
  refine x_iloadn (x := a1) rfl rfl ?_
  refine x_istore (lsx9 := [(4, .int a1), (3, .int a2), (0, .ref 78), (1, .int a1), (2, .int a2)]) rfl rfl rfl ?_
  refine x_iconst (v := 0) rfl ki_0 ?_
  refine x_istore (lsx9 := [(5, .int 0), (4, .int a1), (3, .int a2), (0, .ref 78), (1, .int a1), (2, .int a2)]) rfl rfl rfl ?_
  exact jX.sub (jsb_c rfl (jsb_c rfl (jsb_c rfl (jsb_c rfl jsb_n)))) (ct_X7_firstDay_r78_8 hD hQ  601 a2 a1 0 h (by have := jk_0; omega) (jr_of rfl (by omega)) (jr_of rfl (by omega)) (jr_of jk_0 (by omega)) J Sm)
def fp_X7_readSpan_r78 : jFp := [(85, 0, 4)]
set_option maxRecDepth 100000 in
set_option maxHeartbeats 4000000 in
theorem ct_X7_readSpan_r78_301 {Dy : jH → Prop} {h0 : jH} {Q : Option Value → jH → Prop} (hD : jDk Dy) (hQ : ∀ hx9, jJ jSgX Dy hx9 → jSm fp_X7_readSpan_r78 h0 hx9 → Q none hx9) : ∀ r : Nat, ∀ (l6 : Int32) (h : jH), 4 - l6.toInt < (r : Int) → 0 ≤ l6.toInt ∧ l6.toInt ≤ 4 → jJ jSgX Dy h → jSm fp_X7_readSpan_r78 h0 h → jX m_X7_readSpan 1 0 0 301 [(0, .ref 78), (6, .int l6)] [] h 0 0 Q := by
  intro r
  induction r with
  | zero =>
    intro l6 h hm y0   J Sm
    exfalso
    omega
  | succ r ih =>
    intro l6 h hm y0   J Sm
    refine x_iload (x := l6) rfl rfl ?_
    refine x_iconst (v := 4) rfl ki_4 ?_
    refine x_icge (tgt := 336) rfl rfl (ti_ge rfl jk_4 ⟨fun c1 => ?_, fun c1 => ?_⟩)
    ·
      refine x_vret rfl rfl ?_
      exact hQ _ J Sm
    ·
      refine x_aloadn (x := 78) rfl rfl ?_
      refine z_getR (N := 16) (b := 85) 7 14 rfl f_7_49 rfl J rfl 9998 ⟨rfl, rfl⟩ rfl ?_
      refine x_iload (x := l6) rfl rfl ?_
      refine x_iconst (v := 0) rfl ki_0 ?_
      refine x_ldc (v := 146399) rfl z_7_185 ?_
      refine x_aloadn (x := 78) rfl rfl ?_
      refine z_getR (N := 16) (b := 85) 7 14 rfl f_7_49 rfl J rfl 9998 ⟨rfl, rfl⟩ rfl ?_
      refine x_iload (x := l6) rfl rfl ?_
      refine z_iald0 (N := 4) rfl J rfl rfl (by omega) (fun v2 qv2 => ?_)
      have ev2 := jfull v2
      refine z_mmin rfl q_7_163 (by decide) rfl jk_146399 rfl (fun v3 ev3 => ?_)
      refine z_mmax rfl q_7_166 (by decide) rfl jk_0 rfl (fun v4 ev4 => ?_)
      refine z_iast (N := 4) (l := 0) (u := 4) (w := v4.toInt) rfl hD J Sm rfl rfl rfl (by omega) rfl (wr_85) rfl (fun h w5 J Sm => ?_)
      refine z_iinc (x := l6) (lsx9 := fun v6 => [(6, .int v6), (0, .ref 78)]) rfl rfl rfl jko_1 (by omega) rfl (fun _ => rfl) (fun v6 ev6 => ?_)
      refine x_goto (tgt := 301) rfl rfl ?_
      exact jX.sub (jsb_c rfl (jsb_c rfl jsb_n)) (ih v6 h (by omega) (jr_of rfl (by omega)) J Sm)
set_option maxRecDepth 100000 in
set_option maxHeartbeats 4000000 in
theorem ct_X7_readSpan_r78_253 {Dy : jH → Prop} {h0 : jH} {Q : Option Value → jH → Prop} (hD : jDk Dy) (hQ : ∀ hx9, jJ jSgX Dy hx9 → jSm fp_X7_readSpan_r78 h0 hx9 → Q none hx9) : ∀ (l2 : Int32) (l3 : Int32) (l4 : Int32) (l5 : Int32) (h : jH), 0 ≤ l2.toInt ∧ l2.toInt ≤ 2147483647 → (-2147483648) ≤ l3.toInt ∧ l3.toInt ≤ 146399 → 0 ≤ l4.toInt ∧ l4.toInt ≤ 146399 → 0 ≤ l5.toInt ∧ l5.toInt ≤ 146399 → jJ jSgX Dy h → jSm fp_X7_readSpan_r78 h0 h → jX m_X7_readSpan 1 0 0 253 [(0, .ref 78), (2, .int l2), (3, .int l3), (4, .int l4), (5, .int l5)] [] h 0 0 Q := by
  intro l2 l3 l4 l5 h y0 y1 y2 y3   J Sm
  refine x_aloadn (x := 78) rfl rfl ?_
  refine z_getR (N := 16) (b := 85) 7 14 rfl f_7_49 rfl J rfl 9998 ⟨rfl, rfl⟩ rfl ?_
  refine x_iconst (v := 0) rfl ki_0 ?_
  refine x_iloadn (x := l2) rfl rfl ?_
  refine x_iload (x := l4) rfl rfl ?_
  refine x_ldc (v := 40260) rfl z_7_186 ?_
  refine z_isub rfl rfl jk_40260 (by omega) (fun v1 ev1 => ?_)
  refine z_mmax rfl q_7_166 (by decide) rfl rfl rfl (fun v2 ev2 => ?_)
  refine z_iast (N := 4) (l := 0) (u := 4) (w := v2.toInt) rfl hD J Sm rfl rfl jk_0 (by omega) rfl (wr_85) rfl (fun h w3 J Sm => ?_)
  refine x_aloadn (x := 78) rfl rfl ?_
  refine z_getR (N := 16) (b := 85) 7 14 rfl f_7_49 rfl J rfl 9998 ⟨rfl, rfl⟩ rfl ?_
  refine x_iconst (v := 1) rfl ki_1 ?_
  refine x_iloadn (x := l3) rfl rfl ?_
  refine z_iast (N := 4) (l := 0) (u := 4) (w := l3.toInt) rfl hD J Sm rfl rfl jk_1 (by omega) rfl (wr_85) rfl (fun h w4 J Sm => ?_)
  refine x_aloadn (x := 78) rfl rfl ?_
  refine z_getR (N := 16) (b := 85) 7 14 rfl f_7_49 rfl J rfl 9998 ⟨rfl, rfl⟩ rfl ?_
  refine x_iconst (v := 2) rfl ki_2 ?_
  refine x_iload (x := l4) rfl rfl ?_
  refine z_iast (N := 4) (l := 0) (u := 4) (w := l4.toInt) rfl hD J Sm rfl rfl jk_2 (by omega) rfl (wr_85) rfl (fun h w5 J Sm => ?_)
  refine x_aloadn (x := 78) rfl rfl ?_
  refine z_getR (N := 16) (b := 85) 7 14 rfl f_7_49 rfl J rfl 9998 ⟨rfl, rfl⟩ rfl ?_
  refine x_iconst (v := 3) rfl ki_3 ?_
  refine x_iload (x := l5) rfl rfl ?_
  refine x_iloadn (x := l3) rfl rfl ?_
  refine x_ldc (v := 40260) rfl z_7_186 ?_
  refine z_iadd rfl rfl jk_40260 (by omega) (fun v6 ev6 => ?_)
  refine z_mmin rfl q_7_163 (by decide) rfl rfl rfl (fun v7 ev7 => ?_)
  refine z_iast (N := 4) (l := 0) (u := 4) (w := v7.toInt) rfl hD J Sm rfl rfl jk_3 (by omega) rfl (wr_85) rfl (fun h w8 J Sm => ?_)
  refine x_iconst (v := 0) rfl ki_0 ?_
  refine x_istore (lsx9 := [(6, .int 0), (0, .ref 78), (2, .int l2), (3, .int l3), (4, .int l4), (5, .int l5)]) rfl rfl rfl ?_
  exact jX.sub (jsb_c rfl (jsb_c rfl jsb_n)) (ct_X7_readSpan_r78_301 hD hQ  5 0 h (by have := jk_0; omega) (jr_of jk_0 (by omega)) J Sm)
set_option maxRecDepth 100000 in
set_option maxHeartbeats 4000000 in
theorem ct_X7_readSpan_r78_238 {Dy : jH → Prop} {h0 : jH} {Q : Option Value → jH → Prop} {R18 : Int} (hD : jDk Dy) (hQ : ∀ hx9, jJ jSgX Dy hx9 → jSm fp_X7_readSpan_r78 h0 hx9 → Q none hx9) (k18 : ∀ (l2 : Int32) (l3 : Int32) (l4 : Int32) (l5 : Int32) (l6 : Int32) (l7 : Int32) (h : jH), 600 - l7.toInt < R18 → 0 ≤ l2.toInt ∧ l2.toInt ≤ 2147483647 → (-2147483648) ≤ l3.toInt ∧ l3.toInt ≤ 146399 → 0 ≤ l4.toInt ∧ l4.toInt ≤ 146399 → 0 ≤ l5.toInt ∧ l5.toInt ≤ 146399 → (-1) ≤ l6.toInt ∧ l6.toInt ≤ 599 → 0 ≤ l7.toInt ∧ l7.toInt ≤ 600 → jJ jSgX Dy h → jSm fp_X7_readSpan_r78 h0 h → jX m_X7_readSpan 1 0 0 18 [(0, .ref 78), (2, .int l2), (3, .int l3), (4, .int l4), (5, .int l5), (6, .int l6), (7, .int l7)] [] h 0 0 Q) : ∀ (l2 : Int32) (l3 : Int32) (l4 : Int32) (l5 : Int32) (l6 : Int32) (l7 : Int32) (h : jH), 0 ≤ l2.toInt ∧ l2.toInt ≤ 2147483647 → (-2147483648) ≤ l3.toInt ∧ l3.toInt ≤ 146399 → 0 ≤ l4.toInt ∧ l4.toInt ≤ 146399 → 0 ≤ l5.toInt ∧ l5.toInt ≤ 146399 → 0 ≤ l6.toInt ∧ l6.toInt ≤ 599 → 0 ≤ l7.toInt ∧ l7.toInt ≤ 599 → 600 - l7.toInt ≤ R18 → jJ jSgX Dy h → jSm fp_X7_readSpan_r78 h0 h → jX m_X7_readSpan 1 0 0 238 [(0, .ref 78), (2, .int l2), (3, .int l3), (4, .int l4), (5, .int l5), (6, .int l6), (7, .int l7)] [] h 0 0 Q := by
  intro l2 l3 l4 l5 l6 l7 h y0 y1 y2 y3 y4 y5  m18 J Sm
  refine x_aloadn (x := 78) rfl rfl ?_
  refine z_getR (N := 16) (b := 83) 7 11 rfl f_7_40 rfl J rfl 9995 ⟨rfl, rfl⟩ rfl ?_
  refine x_iload (x := l6) rfl rfl ?_
  refine z_iald (N := 600) rfl J rfl sg_83_0_600_1_0_1 rfl (by omega) (fun v1 qv1 ev1 => ?_)
  refine x_istore (lsx9 := [(6, .int v1), (0, .ref 78), (2, .int l2), (3, .int l3), (4, .int l4), (5, .int l5), (7, .int l7)]) rfl rfl rfl ?_
  refine z_iinc (x := l7) (lsx9 := fun v2 => [(7, .int v2), (6, .int v1), (0, .ref 78), (2, .int l2), (3, .int l3), (4, .int l4), (5, .int l5)]) rfl rfl rfl jko_1 (by omega) rfl (fun _ => rfl) (fun v2 ev2 => ?_)
  refine x_goto (tgt := 18) rfl rfl ?_
  exact jX.sub (jsb_c rfl (jsb_c rfl (jsb_c rfl (jsb_c rfl (jsb_c rfl (jsb_c rfl (jsb_c rfl jsb_n))))))) (k18 l2 l3 l4 l5 v1 v2 h (by omega) (jr_of rfl (by omega)) (jr_of rfl (by omega)) (jr_of rfl (by omega)) (jr_of rfl (by omega)) (jr_of rfl (by omega)) (jr_of rfl (by omega)) J Sm)
set_option maxRecDepth 100000 in
set_option maxHeartbeats 4000000 in
theorem ct_X7_readSpan_r78_103 {Dy : jH → Prop} {h0 : jH} {Q : Option Value → jH → Prop} {R18 : Int} (hD : jDk Dy) (hQ : ∀ hx9, jJ jSgX Dy hx9 → jSm fp_X7_readSpan_r78 h0 hx9 → Q none hx9) (k18 : ∀ (l2 : Int32) (l3 : Int32) (l4 : Int32) (l5 : Int32) (l6 : Int32) (l7 : Int32) (h : jH), 600 - l7.toInt < R18 → 0 ≤ l2.toInt ∧ l2.toInt ≤ 2147483647 → (-2147483648) ≤ l3.toInt ∧ l3.toInt ≤ 146399 → 0 ≤ l4.toInt ∧ l4.toInt ≤ 146399 → 0 ≤ l5.toInt ∧ l5.toInt ≤ 146399 → (-1) ≤ l6.toInt ∧ l6.toInt ≤ 599 → 0 ≤ l7.toInt ∧ l7.toInt ≤ 600 → jJ jSgX Dy h → jSm fp_X7_readSpan_r78 h0 h → jX m_X7_readSpan 1 0 0 18 [(0, .ref 78), (2, .int l2), (3, .int l3), (4, .int l4), (5, .int l5), (6, .int l6), (7, .int l7)] [] h 0 0 Q) : ∀ (l2 : Int32) (l3 : Int32) (l5 : Int32) (l6 : Int32) (l7 : Int32) (l8 : Int32) (s0 : Int32) (s1 : Int32) (h : jH), 0 ≤ l2.toInt ∧ l2.toInt ≤ 2147483647 → (-2147483648) ≤ l3.toInt ∧ l3.toInt ≤ 146399 → 0 ≤ l5.toInt ∧ l5.toInt ≤ 146399 → 0 ≤ l6.toInt ∧ l6.toInt ≤ 599 → 0 ≤ l7.toInt ∧ l7.toInt ≤ 599 → 0 ≤ l8.toInt ∧ l8.toInt ≤ 146399 → (-366) ≤ s0.toInt ∧ s0.toInt ≤ 146399 → 0 ≤ s1.toInt ∧ s1.toInt ≤ 146399 → 600 - l7.toInt ≤ R18 → jJ jSgX Dy h → jSm fp_X7_readSpan_r78 h0 h → jX m_X7_readSpan 1 0 0 103 [(0, .ref 78), (2, .int l2), (3, .int l3), (5, .int l5), (6, .int l6), (7, .int l7), (8, .int l8)] [.int s0, .int s1] h 0 0 Q := by
  intro l2 l3 l5 l6 l7 l8 s0 s1 h y0 y1 y2 y3 y4 y5 y6 y7  m18 J Sm
  refine z_mmax rfl q_7_166 (by decide) rfl rfl rfl (fun v1 ev1 => ?_)
  refine x_istore (lsx9 := [(4, .int v1), (0, .ref 78), (2, .int l2), (3, .int l3), (5, .int l5), (6, .int l6), (7, .int l7), (8, .int l8)]) rfl rfl rfl ?_
  refine x_aloadn (x := 78) rfl rfl ?_
  refine z_getR (N := 16) (b := 79) 7 7 rfl f_7_27 rfl J rfl 9991 ⟨rfl, rfl⟩ rfl ?_
  refine x_iload (x := l6) rfl rfl ?_
  refine z_iald (N := 600) rfl J rfl sg_79_0_600_1_0_1 rfl (by omega) (fun v2 qv2 ev2 => ?_)
  refine x_ifne (tgt := 128) rfl rfl (ti_ne rfl jk_0 ⟨fun c3 => ?_, fun c3 => ?_⟩)
  ·
    refine x_aloadn (x := 78) rfl rfl ?_
    refine z_getR (N := 16) (b := 79) 7 7 rfl f_7_27 rfl J rfl 9991 ⟨rfl, rfl⟩ rfl ?_
    refine x_iload (x := l6) rfl rfl ?_
    refine z_ialdM (N := 600) (v := v2) rfl J rfl rfl (by omega) qv2 ?_
    refine x_iconst (v := 2) rfl ki_2 ?_
    refine x_icne (tgt := 153) rfl rfl (ti_ne rfl jk_2 ⟨fun c4 => ?_, fun c4 => ?_⟩)
    ·
      refine x_aloadn (x := 78) rfl rfl ?_
      refine z_getR (N := 16) (b := 79) 7 7 rfl f_7_27 rfl J rfl 9991 ⟨rfl, rfl⟩ rfl ?_
      refine x_iload (x := l6) rfl rfl ?_
      refine z_ialdM (N := 600) (v := v2) rfl J rfl rfl (by omega) qv2 ?_
      refine x_iconst (v := 5) rfl ki_5 ?_
      refine x_icne (tgt := 238) rfl rfl (ti_ne rfl jk_5 ⟨fun c5 => ?_, fun c5 => ?_⟩)
      ·
        exact jX.sub (jsb_c rfl (jsb_c rfl (jsb_c rfl (jsb_c rfl (jsb_c rfl (jsb_c rfl (jsb_c rfl jsb_n))))))) (ct_X7_readSpan_r78_238 hD hQ k18 l2 l3 v1 l5 l6 l7 h (jr_of rfl (by omega)) (jr_of rfl (by omega)) (jr_of rfl (by omega)) (jr_of rfl (by omega)) (jr_of rfl (by omega)) (jr_of rfl (by omega)) (by omega) J Sm)
      ·
        refine x_iload (x := l5) rfl rfl ?_
        refine x_iload (x := l8) rfl rfl ?_
        refine z_mmin rfl q_7_163 (by decide) rfl rfl rfl (fun v6 ev6 => ?_)
        refine x_istore (lsx9 := [(5, .int v6), (4, .int v1), (0, .ref 78), (2, .int l2), (3, .int l3), (6, .int l6), (7, .int l7), (8, .int l8)]) rfl rfl rfl ?_
        refine x_aloadn (x := 78) rfl rfl ?_
        refine z_getR (N := 16) (b := 81) 7 9 rfl f_7_34 rfl J rfl 9993 ⟨rfl, rfl⟩ rfl ?_
        refine x_iload (x := l6) rfl rfl ?_
        refine z_iald0 (N := 600) rfl J rfl rfl (by omega) (fun v7 qv7 => ?_)
        have ev7 := jfull v7
        refine x_iconst (v := (-1)) rfl ki_m1 ?_
        refine x_iceq (tgt := 238) rfl rfl (ti_eq rfl jk_m1 ⟨fun c8 => ?_, fun c8 => ?_⟩)
        ·
          exact jX.sub (jsb_c rfl (jsb_c rfl (jsb_c rfl (jsb_c rfl (jsb_c rfl (jsb_c rfl (jsb_c rfl jsb_n))))))) (ct_X7_readSpan_r78_238 hD hQ k18 l2 l3 v1 v6 l6 l7 h (jr_of rfl (by omega)) (jr_of rfl (by omega)) (jr_of rfl (by omega)) (jr_of rfl (by omega)) (jr_of rfl (by omega)) (jr_of rfl (by omega)) (by omega) J Sm)
        ·
          refine x_iload (x := l8) rfl rfl ?_
          refine x_sipush (v := 366) rfl ks_366 ?_
          refine z_idiv rfl rfl jk_366 (by omega) (by omega) (fun v9 ev9 => ?_)
          refine x_aloadn (x := 78) rfl rfl ?_
          refine z_getR (N := 16) (b := 81) 7 9 rfl f_7_34 rfl J rfl 9993 ⟨rfl, rfl⟩ rfl ?_
          refine x_iload (x := l6) rfl rfl ?_
          refine z_ialdM (N := 600) (v := v7) rfl J rfl rfl (by omega) qv7 ?_
          refine z_isub0 rfl (fun v10 => ?_)
          have ev10 := jfull v10
          refine x_istore (lsx9 := [(9, .int v10), (5, .int v6), (4, .int v1), (0, .ref 78), (2, .int l2), (3, .int l3), (6, .int l6), (7, .int l7), (8, .int l8)]) rfl rfl rfl ?_
          refine x_iloadn (x := l2) rfl rfl ?_
          refine x_iload (x := v10) rfl rfl ?_
          refine x_aloadn (x := 78) rfl rfl ?_
          refine z_getI (N := 16) 7 6 rfl f_7_24 rfl J rfl sg_78_6_7_1_0_1 (fun v11 qv11 ev11 => ?_)
          refine z_isub0 rfl (fun v12 => ?_)
          have ev12 := jfull v12
          refine x_sipush (v := 366) rfl ks_366 ?_
          refine z_imul0 rfl (fun v13 => ?_)
          have ev13 := jfull v13
          refine z_mmax rfl q_7_166 (by decide) rfl rfl rfl (fun v14 ev14 => ?_)
          refine x_istoren (lsx9 := [(2, .int v14), (9, .int v10), (5, .int v6), (4, .int v1), (0, .ref 78), (3, .int l3), (6, .int l6), (7, .int l7), (8, .int l8)]) rfl rfl rfl ?_
          refine x_iloadn (x := l3) rfl rfl ?_
          refine x_iload (x := v10) rfl rfl ?_
          refine x_aloadn (x := 78) rfl rfl ?_
          refine z_getM (N := 16) (v := v11) 7 6 rfl f_7_24 rfl J rfl qv11 ?_
          refine z_iadd0 rfl (fun v15 => ?_)
          have ev15 := jfull v15
          refine x_sipush (v := 366) rfl ks_366 ?_
          refine z_imul0 rfl (fun v16 => ?_)
          have ev16 := jfull v16
          refine x_sipush (v := 366) rfl ks_366 ?_
          refine z_iadd0 rfl (fun v17 => ?_)
          have ev17 := jfull v17
          refine x_iconst (v := 1) rfl ki_1 ?_
          refine z_isub0 rfl (fun v18 => ?_)
          have ev18 := jfull v18
          refine z_mmin rfl q_7_163 (by decide) rfl rfl rfl (fun v19 ev19 => ?_)
          refine x_istoren (lsx9 := [(3, .int v19), (2, .int v14), (9, .int v10), (5, .int v6), (4, .int v1), (0, .ref 78), (6, .int l6), (7, .int l7), (8, .int l8)]) rfl rfl rfl ?_
          exact jX.sub (jsb_c rfl (jsb_c rfl (jsb_c rfl (jsb_c rfl (jsb_c rfl (jsb_c rfl (jsb_c rfl jsb_n))))))) (ct_X7_readSpan_r78_238 hD hQ k18 v14 v19 v1 v6 l6 l7 h (jr_of rfl (by omega)) (jr_of rfl (by omega)) (jr_of rfl (by omega)) (jr_of rfl (by omega)) (jr_of rfl (by omega)) (jr_of rfl (by omega)) (by omega) J Sm)
    ·
      refine x_iloadn (x := l2) rfl rfl ?_
      refine x_iload (x := l8) rfl rfl ?_
      refine x_sipush (v := 18300) rfl ks_18300 ?_
      refine z_isub rfl rfl jk_18300 (by omega) (fun v20 ev20 => ?_)
      refine z_mmax rfl q_7_166 (by decide) rfl rfl rfl (fun v21 ev21 => ?_)
      refine x_istoren (lsx9 := [(2, .int v21), (4, .int v1), (0, .ref 78), (3, .int l3), (5, .int l5), (6, .int l6), (7, .int l7), (8, .int l8)]) rfl rfl rfl ?_
      refine x_goto (tgt := 238) rfl rfl ?_
      exact jX.sub (jsb_c rfl (jsb_c rfl (jsb_c rfl (jsb_c rfl (jsb_c rfl (jsb_c rfl (jsb_c rfl jsb_n))))))) (ct_X7_readSpan_r78_238 hD hQ k18 v21 l3 v1 l5 l6 l7 h (jr_of rfl (by omega)) (jr_of rfl (by omega)) (jr_of rfl (by omega)) (jr_of rfl (by omega)) (jr_of rfl (by omega)) (jr_of rfl (by omega)) (by omega) J Sm)
  ·
    refine x_iloadn (x := l2) rfl rfl ?_
    refine x_iload (x := l8) rfl rfl ?_
    refine z_mmax rfl q_7_166 (by decide) rfl rfl rfl (fun v22 ev22 => ?_)
    refine x_istoren (lsx9 := [(2, .int v22), (4, .int v1), (0, .ref 78), (3, .int l3), (5, .int l5), (6, .int l6), (7, .int l7), (8, .int l8)]) rfl rfl rfl ?_
    refine x_goto (tgt := 238) rfl rfl ?_
    exact jX.sub (jsb_c rfl (jsb_c rfl (jsb_c rfl (jsb_c rfl (jsb_c rfl (jsb_c rfl (jsb_c rfl jsb_n))))))) (ct_X7_readSpan_r78_238 hD hQ k18 v22 l3 v1 l5 l6 l7 h (jr_of rfl (by omega)) (jr_of rfl (by omega)) (jr_of rfl (by omega)) (jr_of rfl (by omega)) (jr_of rfl (by omega)) (jr_of rfl (by omega)) (by omega) J Sm)
set_option maxRecDepth 100000 in
set_option maxHeartbeats 4000000 in
theorem ct_X7_readSpan_r78_75 {Dy : jH → Prop} {h0 : jH} {Q : Option Value → jH → Prop} {R18 : Int} (hD : jDk Dy) (hQ : ∀ hx9, jJ jSgX Dy hx9 → jSm fp_X7_readSpan_r78 h0 hx9 → Q none hx9) (k18 : ∀ (l2 : Int32) (l3 : Int32) (l4 : Int32) (l5 : Int32) (l6 : Int32) (l7 : Int32) (h : jH), 600 - l7.toInt < R18 → 0 ≤ l2.toInt ∧ l2.toInt ≤ 2147483647 → (-2147483648) ≤ l3.toInt ∧ l3.toInt ≤ 146399 → 0 ≤ l4.toInt ∧ l4.toInt ≤ 146399 → 0 ≤ l5.toInt ∧ l5.toInt ≤ 146399 → (-1) ≤ l6.toInt ∧ l6.toInt ≤ 599 → 0 ≤ l7.toInt ∧ l7.toInt ≤ 600 → jJ jSgX Dy h → jSm fp_X7_readSpan_r78 h0 h → jX m_X7_readSpan 1 0 0 18 [(0, .ref 78), (2, .int l2), (3, .int l3), (4, .int l4), (5, .int l5), (6, .int l6), (7, .int l7)] [] h 0 0 Q) : ∀ (l2 : Int32) (l4 : Int32) (l5 : Int32) (l6 : Int32) (l7 : Int32) (l8 : Int32) (s0 : Int32) (s1 : Int32) (h : jH), 0 ≤ l2.toInt ∧ l2.toInt ≤ 2147483647 → 0 ≤ l4.toInt ∧ l4.toInt ≤ 146399 → 0 ≤ l5.toInt ∧ l5.toInt ≤ 146399 → 0 ≤ l6.toInt ∧ l6.toInt ≤ 599 → 0 ≤ l7.toInt ∧ l7.toInt ≤ 599 → 0 ≤ l8.toInt ∧ l8.toInt ≤ 146399 → (-5124) ≤ s0.toInt ∧ s0.toInt ≤ 146399 → (-2147483648) ≤ s1.toInt ∧ s1.toInt ≤ 146399 → 600 - l7.toInt ≤ R18 → jJ jSgX Dy h → jSm fp_X7_readSpan_r78 h0 h → jX m_X7_readSpan 1 0 0 75 [(0, .ref 78), (2, .int l2), (4, .int l4), (5, .int l5), (6, .int l6), (7, .int l7), (8, .int l8)] [.int s0, .int s1] h 0 0 Q := by
  intro l2 l4 l5 l6 l7 l8 s0 s1 h y0 y1 y2 y3 y4 y5 y6 y7  m18 J Sm
  refine z_mmin rfl q_7_163 (by decide) rfl rfl rfl (fun v1 ev1 => ?_)
  refine x_istoren (lsx9 := [(3, .int v1), (0, .ref 78), (2, .int l2), (4, .int l4), (5, .int l5), (6, .int l6), (7, .int l7), (8, .int l8)]) rfl rfl rfl ?_
  refine x_iload (x := l4) rfl rfl ?_
  refine x_aloadn (x := 78) rfl rfl ?_
  refine z_getR (N := 16) (b := 79) 7 7 rfl f_7_27 rfl J rfl 9991 ⟨rfl, rfl⟩ rfl ?_
  refine x_iload (x := l6) rfl rfl ?_
  refine z_iald (N := 600) rfl J rfl sg_79_0_600_1_0_1 rfl (by omega) (fun v2 qv2 ev2 => ?_)
  refine x_iconst (v := 1) rfl ki_1 ?_
  refine x_icne (tgt := 101) rfl rfl (ti_ne rfl jk_1 ⟨fun c3 => ?_, fun c3 => ?_⟩)
  ·
    refine x_iload (x := l8) rfl rfl ?_
    exact jX.sub (jsb_c rfl (jsb_c rfl (jsb_c rfl (jsb_c rfl (jsb_c rfl (jsb_c rfl (jsb_c rfl jsb_n))))))) (ct_X7_readSpan_r78_103 hD hQ k18 l2 v1 l5 l6 l7 l8 l8 l4 h (jr_of rfl (by omega)) (jr_of rfl (by omega)) (jr_of rfl (by omega)) (jr_of rfl (by omega)) (jr_of rfl (by omega)) (jr_of rfl (by omega)) (jr_of rfl (by omega)) (jr_of rfl (by omega)) (by omega) J Sm)
  ·
    refine x_iload (x := l8) rfl rfl ?_
    refine x_sipush (v := 366) rfl ks_366 ?_
    refine z_isub rfl rfl jk_366 (by omega) (fun v4 ev4 => ?_)
    refine x_goto (tgt := 103) rfl rfl ?_
    exact jX.sub (jsb_c rfl (jsb_c rfl (jsb_c rfl (jsb_c rfl (jsb_c rfl (jsb_c rfl (jsb_c rfl jsb_n))))))) (ct_X7_readSpan_r78_103 hD hQ k18 l2 v1 l5 l6 l7 l8 v4 l4 h (jr_of rfl (by omega)) (jr_of rfl (by omega)) (jr_of rfl (by omega)) (jr_of rfl (by omega)) (jr_of rfl (by omega)) (jr_of rfl (by omega)) (jr_of rfl (by omega)) (jr_of rfl (by omega)) (by omega) J Sm)
set_option maxRecDepth 100000 in
set_option maxHeartbeats 4000000 in
theorem ct_X7_readSpan_r78_73 {Dy : jH → Prop} {h0 : jH} {Q : Option Value → jH → Prop} {R18 : Int} (hD : jDk Dy) (hQ : ∀ hx9, jJ jSgX Dy hx9 → jSm fp_X7_readSpan_r78 h0 hx9 → Q none hx9) (k18 : ∀ (l2 : Int32) (l3 : Int32) (l4 : Int32) (l5 : Int32) (l6 : Int32) (l7 : Int32) (h : jH), 600 - l7.toInt < R18 → 0 ≤ l2.toInt ∧ l2.toInt ≤ 2147483647 → (-2147483648) ≤ l3.toInt ∧ l3.toInt ≤ 146399 → 0 ≤ l4.toInt ∧ l4.toInt ≤ 146399 → 0 ≤ l5.toInt ∧ l5.toInt ≤ 146399 → (-1) ≤ l6.toInt ∧ l6.toInt ≤ 599 → 0 ≤ l7.toInt ∧ l7.toInt ≤ 600 → jJ jSgX Dy h → jSm fp_X7_readSpan_r78 h0 h → jX m_X7_readSpan 1 0 0 18 [(0, .ref 78), (2, .int l2), (3, .int l3), (4, .int l4), (5, .int l5), (6, .int l6), (7, .int l7)] [] h 0 0 Q) : ∀ (l2 : Int32) (l4 : Int32) (l5 : Int32) (l6 : Int32) (l7 : Int32) (l8 : Int32) (s0 : Int32) (h : jH), 0 ≤ l2.toInt ∧ l2.toInt ≤ 2147483647 → 0 ≤ l4.toInt ∧ l4.toInt ≤ 146399 → 0 ≤ l5.toInt ∧ l5.toInt ≤ 146399 → 0 ≤ l6.toInt ∧ l6.toInt ≤ 599 → 0 ≤ l7.toInt ∧ l7.toInt ≤ 599 → 0 ≤ l8.toInt ∧ l8.toInt ≤ 146399 → (-2147483648) ≤ s0.toInt ∧ s0.toInt ≤ 146399 → 600 - l7.toInt ≤ R18 → jJ jSgX Dy h → jSm fp_X7_readSpan_r78 h0 h → jX m_X7_readSpan 1 0 0 73 [(0, .ref 78), (2, .int l2), (4, .int l4), (5, .int l5), (6, .int l6), (7, .int l7), (8, .int l8)] [.int s0] h 0 0 Q := by
  intro l2 l4 l5 l6 l7 l8 s0 h y0 y1 y2 y3 y4 y5 y6  m18 J Sm
  refine x_iload (x := l8) rfl rfl ?_
  exact jX.sub (jsb_c rfl (jsb_c rfl (jsb_c rfl (jsb_c rfl (jsb_c rfl (jsb_c rfl (jsb_c rfl jsb_n))))))) (ct_X7_readSpan_r78_75 hD hQ k18 l2 l4 l5 l6 l7 l8 l8 s0 h (jr_of rfl (by omega)) (jr_of rfl (by omega)) (jr_of rfl (by omega)) (jr_of rfl (by omega)) (jr_of rfl (by omega)) (jr_of rfl (by omega)) (jr_of rfl (by omega)) (jr_of rfl (by omega)) (by omega) J Sm)
set_option maxRecDepth 100000 in
set_option maxHeartbeats 4000000 in
theorem ct_X7_readSpan_r78_18 {Dy : jH → Prop} {h0 : jH} {Q : Option Value → jH → Prop} (hD : jDk Dy) (hQ : ∀ hx9, jJ jSgX Dy hx9 → jSm fp_X7_readSpan_r78 h0 hx9 → Q none hx9) : ∀ r : Nat, ∀ (l2 : Int32) (l3 : Int32) (l4 : Int32) (l5 : Int32) (l6 : Int32) (l7 : Int32) (h : jH), 600 - l7.toInt < (r : Int) → 0 ≤ l2.toInt ∧ l2.toInt ≤ 2147483647 → (-2147483648) ≤ l3.toInt ∧ l3.toInt ≤ 146399 → 0 ≤ l4.toInt ∧ l4.toInt ≤ 146399 → 0 ≤ l5.toInt ∧ l5.toInt ≤ 146399 → (-1) ≤ l6.toInt ∧ l6.toInt ≤ 599 → 0 ≤ l7.toInt ∧ l7.toInt ≤ 600 → jJ jSgX Dy h → jSm fp_X7_readSpan_r78 h0 h → jX m_X7_readSpan 1 0 0 18 [(0, .ref 78), (2, .int l2), (3, .int l3), (4, .int l4), (5, .int l5), (6, .int l6), (7, .int l7)] [] h 0 0 Q := by
  intro r
  induction r with
  | zero =>
    intro l2 l3 l4 l5 l6 l7 h hm y0 y1 y2 y3 y4 y5   J Sm
    exfalso
    omega
  | succ r ih =>
    intro l2 l3 l4 l5 l6 l7 h hm y0 y1 y2 y3 y4 y5   J Sm
    refine x_iload (x := l6) rfl rfl ?_
    refine x_iconst (v := (-1)) rfl ki_m1 ?_
    refine x_iceq (tgt := 253) rfl rfl (ti_eq rfl jk_m1 ⟨fun c1 => ?_, fun c1 => ?_⟩)
    ·
      exact jX.sub (jsb_c rfl (jsb_c rfl (jsb_c rfl (jsb_c rfl (jsb_c rfl jsb_n))))) (ct_X7_readSpan_r78_253 hD hQ  l2 l3 l4 l5 h (jr_of rfl (by omega)) (jr_of rfl (by omega)) (jr_of rfl (by omega)) (jr_of rfl (by omega)) J Sm)
    ·
      refine x_iload (x := l7) rfl rfl ?_
      refine x_sipush (v := 600) rfl ks_600 ?_
      refine x_icge (tgt := 253) rfl rfl (ti_ge rfl jk_600 ⟨fun c2 => ?_, fun c2 => ?_⟩)
      ·
        exact jX.sub (jsb_c rfl (jsb_c rfl (jsb_c rfl (jsb_c rfl (jsb_c rfl jsb_n))))) (ct_X7_readSpan_r78_253 hD hQ  l2 l3 l4 l5 h (jr_of rfl (by omega)) (jr_of rfl (by omega)) (jr_of rfl (by omega)) (jr_of rfl (by omega)) J Sm)
      ·
        refine x_aloadn (x := 78) rfl rfl ?_
        refine z_getR (N := 16) (b := 80) 7 8 rfl f_7_31 rfl J rfl 9992 ⟨rfl, rfl⟩ rfl ?_
        refine x_iload (x := l6) rfl rfl ?_
        refine z_iald (N := 600) rfl J rfl sg_80_0_600_1_0_1 rfl (by omega) (fun v3 qv3 ev3 => ?_)
        refine x_istore (lsx9 := [(8, .int v3), (0, .ref 78), (2, .int l2), (3, .int l3), (4, .int l4), (5, .int l5), (6, .int l6), (7, .int l7)]) rfl rfl rfl ?_
        refine x_iloadn (x := l3) rfl rfl ?_
        refine x_aloadn (x := 78) rfl rfl ?_
        refine z_getR (N := 16) (b := 79) 7 7 rfl f_7_27 rfl J rfl 9991 ⟨rfl, rfl⟩ rfl ?_
        refine x_iload (x := l6) rfl rfl ?_
        refine z_iald (N := 600) rfl J rfl sg_79_0_600_1_0_1 rfl (by omega) (fun v4 qv4 ev4 => ?_)
        refine x_iconst (v := 1) rfl ki_1 ?_
        refine x_iclt (tgt := 73) rfl rfl (ti_lt rfl jk_1 ⟨fun c5 => ?_, fun c5 => ?_⟩)
        ·
          exact jX.sub (jsb_c rfl (jsb_c rfl (jsb_c rfl (jsb_c rfl (jsb_c rfl (jsb_c rfl (jsb_c rfl jsb_n))))))) (ct_X7_readSpan_r78_73 hD hQ ih l2 l4 l5 l6 l7 v3 l3 h (jr_of rfl (by omega)) (jr_of rfl (by omega)) (jr_of rfl (by omega)) (jr_of rfl (by omega)) (jr_of rfl (by omega)) (jr_of rfl (by omega)) (jr_of rfl (by omega)) (by omega) J Sm)
        ·
          refine x_aloadn (x := 78) rfl rfl ?_
          refine z_getR (N := 16) (b := 79) 7 7 rfl f_7_27 rfl J rfl 9991 ⟨rfl, rfl⟩ rfl ?_
          refine x_iload (x := l6) rfl rfl ?_
          refine z_ialdM (N := 600) (v := v4) rfl J rfl rfl (by omega) qv4 ?_
          refine x_iconst (v := 4) rfl ki_4 ?_
          refine x_icgt (tgt := 73) rfl rfl (ti_gt rfl jk_4 ⟨fun c6 => ?_, fun c6 => ?_⟩)
          ·
            exact jX.sub (jsb_c rfl (jsb_c rfl (jsb_c rfl (jsb_c rfl (jsb_c rfl (jsb_c rfl (jsb_c rfl jsb_n))))))) (ct_X7_readSpan_r78_73 hD hQ ih l2 l4 l5 l6 l7 v3 l3 h (jr_of rfl (by omega)) (jr_of rfl (by omega)) (jr_of rfl (by omega)) (jr_of rfl (by omega)) (jr_of rfl (by omega)) (jr_of rfl (by omega)) (jr_of rfl (by omega)) (by omega) J Sm)
          ·
            refine x_iload (x := v3) rfl rfl ?_
            refine x_sipush (v := 5124) rfl ks_5124 ?_
            refine z_isub rfl rfl jk_5124 (by omega) (fun v7 ev7 => ?_)
            refine x_goto (tgt := 75) rfl rfl ?_
            exact jX.sub (jsb_c rfl (jsb_c rfl (jsb_c rfl (jsb_c rfl (jsb_c rfl (jsb_c rfl (jsb_c rfl jsb_n))))))) (ct_X7_readSpan_r78_75 hD hQ ih l2 l4 l5 l6 l7 v3 v7 l3 h (jr_of rfl (by omega)) (jr_of rfl (by omega)) (jr_of rfl (by omega)) (jr_of rfl (by omega)) (jr_of rfl (by omega)) (jr_of rfl (by omega)) (jr_of rfl (by omega)) (jr_of rfl (by omega)) (by omega) J Sm)
set_option maxRecDepth 100000 in
set_option maxHeartbeats 4000000 in
theorem sf_X7_readSpan_r78 {Dy : jH → Prop} {h : jH} {Q : Option Value → jH → Prop} {a1 : Int32} (y1 : (-1) ≤ a1.toInt ∧ a1.toInt ≤ 599) (hD : jDk Dy) (J : jJ jSgX Dy h) (hQ : ∀ hx9, jJ jSgX Dy hx9 → jSm fp_X7_readSpan_r78 h hx9 → Q none hx9) : jC m_X7_readSpan 1 0 0 [.ref 78, .int a1] h Q := by
  refine jC.of rfl k_X7_readSpan rfl ?_
  have Sm := jSm_rf fp_X7_readSpan_r78 h
  show jX m_X7_readSpan 1 0 0 0 [(0, .ref 78), (1, .int a1)] [] _ 0 0 _
  refine x_iconst (v := 0) rfl ki_0 ?_
  refine x_istoren (lsx9 := [(2, .int 0), (0, .ref 78), (1, .int a1)]) rfl rfl rfl ?_
  refine x_ldc (v := 146399) rfl z_7_185 ?_
  refine x_istoren (lsx9 := [(3, .int 146399), (2, .int 0), (0, .ref 78), (1, .int a1)]) rfl rfl rfl ?_
  refine x_iconst (v := 0) rfl ki_0 ?_
  refine x_istore (lsx9 := [(4, .int 0), (3, .int 146399), (2, .int 0), (0, .ref 78), (1, .int a1)]) rfl rfl rfl ?_
  refine x_ldc (v := 146399) rfl z_7_185 ?_
  refine x_istore (lsx9 := [(5, .int 146399), (4, .int 0), (3, .int 146399), (2, .int 0), (0, .ref 78), (1, .int a1)]) rfl rfl rfl ?_
  refine x_iloadn (x := a1) rfl rfl ?_
  refine x_istore (lsx9 := [(6, .int a1), (5, .int 146399), (4, .int 0), (3, .int 146399), (2, .int 0), (0, .ref 78), (1, .int a1)]) rfl rfl rfl ?_
  refine x_iconst (v := 0) rfl ki_0 ?_
  refine x_istore (lsx9 := [(7, .int 0), (6, .int a1), (5, .int 146399), (4, .int 0), (3, .int 146399), (2, .int 0), (0, .ref 78), (1, .int a1)]) rfl rfl rfl ?_
  exact jX.sub (jsb_c rfl (jsb_c rfl (jsb_c rfl (jsb_c rfl (jsb_c rfl (jsb_c rfl (jsb_c rfl jsb_n))))))) (ct_X7_readSpan_r78_18 hD hQ  601 0 146399 0 146399 a1 0 h (by have := jk_0; omega) (jr_of jk_0 (by omega)) (jr_of jk_146399 (by omega)) (jr_of jk_0 (by omega)) (jr_of jk_146399 (by omega)) (jr_of rfl (by omega)) (jr_of jk_0 (by omega)) J Sm)
def fp_X7_reliefOf_r78 : jFp := []
set_option maxRecDepth 100000 in
set_option maxHeartbeats 4000000 in
theorem ct_X7_reliefOf_r78_84 {Dy : jH → Prop} {h0 : jH} {Q : Option Value → jH → Prop} (hD : jDk Dy) (hQ : ∀ (v : Int32) hx9, jJ jSgX Dy hx9 → jSm fp_X7_reliefOf_r78 h0 hx9 → Q (some (.int v)) hx9) : ∀ (l4 : Int32) (h : jH), jJ jSgX Dy h → jSm fp_X7_reliefOf_r78 h0 h → jX m_X7_reliefOf 1 0 0 84 [(4, .int l4)] [] h 0 0 Q := by
  intro l4 h    J Sm
  have el4 := jfull l4
  refine x_iload (x := l4) rfl rfl ?_
  refine x_iret rfl rfl ?_
  exact hQ _ _ J Sm
set_option maxRecDepth 100000 in
set_option maxHeartbeats 4000000 in
theorem ct_X7_reliefOf_r78_69 {Dy : jH → Prop} {h0 : jH} {Q : Option Value → jH → Prop} {R9 : Int} (hD : jDk Dy) (hQ : ∀ (v : Int32) hx9, jJ jSgX Dy hx9 → jSm fp_X7_reliefOf_r78 h0 hx9 → Q (some (.int v)) hx9) (k9 : ∀ (l2 : Int32) (l3 : Int32) (l4 : Int32) (l5 : Int32) (l6 : Int32) (h : jH), 600 - l6.toInt < R9 → (-365) ≤ l2.toInt ∧ l2.toInt ≤ 146399 → 0 ≤ l3.toInt ∧ l3.toInt ≤ 146399 → (-1) ≤ l5.toInt ∧ l5.toInt ≤ 599 → 0 ≤ l6.toInt ∧ l6.toInt ≤ 600 → jJ jSgX Dy h → jSm fp_X7_reliefOf_r78 h0 h → jX m_X7_reliefOf 1 0 0 9 [(0, .ref 78), (2, .int l2), (3, .int l3), (4, .int l4), (5, .int l5), (6, .int l6)] [] h 0 0 Q) : ∀ (l2 : Int32) (l3 : Int32) (l4 : Int32) (l5 : Int32) (l6 : Int32) (h : jH), (-365) ≤ l2.toInt ∧ l2.toInt ≤ 146399 → 0 ≤ l3.toInt ∧ l3.toInt ≤ 146399 → 0 ≤ l5.toInt ∧ l5.toInt ≤ 599 → 0 ≤ l6.toInt ∧ l6.toInt ≤ 599 → 600 - l6.toInt ≤ R9 → jJ jSgX Dy h → jSm fp_X7_reliefOf_r78 h0 h → jX m_X7_reliefOf 1 0 0 69 [(0, .ref 78), (2, .int l2), (3, .int l3), (4, .int l4), (5, .int l5), (6, .int l6)] [] h 0 0 Q := by
  intro l2 l3 l4 l5 l6 h y0 y1 y2 y3  m9 J Sm
  have el4 := jfull l4
  refine x_aloadn (x := 78) rfl rfl ?_
  refine z_getR (N := 16) (b := 83) 7 11 rfl f_7_40 rfl J rfl 9995 ⟨rfl, rfl⟩ rfl ?_
  refine x_iload (x := l5) rfl rfl ?_
  refine z_iald (N := 600) rfl J rfl sg_83_0_600_1_0_1 rfl (by omega) (fun v1 qv1 ev1 => ?_)
  refine x_istore (lsx9 := [(5, .int v1), (0, .ref 78), (2, .int l2), (3, .int l3), (4, .int l4), (6, .int l6)]) rfl rfl rfl ?_
  refine z_iinc (x := l6) (lsx9 := fun v2 => [(6, .int v2), (5, .int v1), (0, .ref 78), (2, .int l2), (3, .int l3), (4, .int l4)]) rfl rfl rfl jko_1 (by omega) rfl (fun _ => rfl) (fun v2 ev2 => ?_)
  refine x_goto (tgt := 9) rfl rfl ?_
  exact jX.sub (jsb_c rfl (jsb_c rfl (jsb_c rfl (jsb_c rfl (jsb_c rfl (jsb_c rfl jsb_n)))))) (k9 l2 l3 l4 v1 v2 h (by omega) (jr_of rfl (by omega)) (jr_of rfl (by omega)) (jr_of rfl (by omega)) (jr_of rfl (by omega)) J Sm)
set_option maxRecDepth 100000 in
set_option maxHeartbeats 4000000 in
theorem ct_X7_reliefOf_r78_9 {Dy : jH → Prop} {h0 : jH} {Q : Option Value → jH → Prop} (hD : jDk Dy) (hQ : ∀ (v : Int32) hx9, jJ jSgX Dy hx9 → jSm fp_X7_reliefOf_r78 h0 hx9 → Q (some (.int v)) hx9) : ∀ r : Nat, ∀ (l2 : Int32) (l3 : Int32) (l4 : Int32) (l5 : Int32) (l6 : Int32) (h : jH), 600 - l6.toInt < (r : Int) → (-365) ≤ l2.toInt ∧ l2.toInt ≤ 146399 → 0 ≤ l3.toInt ∧ l3.toInt ≤ 146399 → (-1) ≤ l5.toInt ∧ l5.toInt ≤ 599 → 0 ≤ l6.toInt ∧ l6.toInt ≤ 600 → jJ jSgX Dy h → jSm fp_X7_reliefOf_r78 h0 h → jX m_X7_reliefOf 1 0 0 9 [(0, .ref 78), (2, .int l2), (3, .int l3), (4, .int l4), (5, .int l5), (6, .int l6)] [] h 0 0 Q := by
  intro r
  induction r with
  | zero =>
    intro l2 l3 l4 l5 l6 h hm y0 y1 y2 y3   J Sm
    exfalso
    have el4 := jfull l4
    omega
  | succ r ih =>
    intro l2 l3 l4 l5 l6 h hm y0 y1 y2 y3   J Sm
    have el4 := jfull l4
    refine x_iload (x := l5) rfl rfl ?_
    refine x_iconst (v := (-1)) rfl ki_m1 ?_
    refine x_iceq (tgt := 84) rfl rfl (ti_eq rfl jk_m1 ⟨fun c1 => ?_, fun c1 => ?_⟩)
    ·
      exact jX.sub (jsb_c rfl jsb_n) (ct_X7_reliefOf_r78_84 hD hQ  l4 h J Sm)
    ·
      refine x_iload (x := l6) rfl rfl ?_
      refine x_sipush (v := 600) rfl ks_600 ?_
      refine x_icge (tgt := 84) rfl rfl (ti_ge rfl jk_600 ⟨fun c2 => ?_, fun c2 => ?_⟩)
      ·
        exact jX.sub (jsb_c rfl jsb_n) (ct_X7_reliefOf_r78_84 hD hQ  l4 h J Sm)
      ·
        refine x_aloadn (x := 78) rfl rfl ?_
        refine z_getR (N := 16) (b := 79) 7 7 rfl f_7_27 rfl J rfl 9991 ⟨rfl, rfl⟩ rfl ?_
        refine x_iload (x := l5) rfl rfl ?_
        refine z_iald (N := 600) rfl J rfl sg_79_0_600_1_0_1 rfl (by omega) (fun v3 qv3 ev3 => ?_)
        refine x_bipush (v := 7) rfl kb_7 ?_
        refine x_icne (tgt := 69) rfl rfl (ti_ne rfl jk_7 ⟨fun c4 => ?_, fun c4 => ?_⟩)
        ·
          exact jX.sub (jsb_c rfl (jsb_c rfl (jsb_c rfl (jsb_c rfl (jsb_c rfl (jsb_c rfl jsb_n)))))) (ct_X7_reliefOf_r78_69 hD hQ ih l2 l3 l4 l5 l6 h (jr_of rfl (by omega)) (jr_of rfl (by omega)) (jr_of rfl (by omega)) (jr_of rfl (by omega)) (by omega) J Sm)
        ·
          refine x_aloadn (x := 78) rfl rfl ?_
          refine z_getR (N := 16) (b := 80) 7 8 rfl f_7_31 rfl J rfl 9992 ⟨rfl, rfl⟩ rfl ?_
          refine x_iload (x := l5) rfl rfl ?_
          refine z_iald (N := 600) rfl J rfl sg_80_0_600_1_0_1 rfl (by omega) (fun v5 qv5 ev5 => ?_)
          refine x_iloadn (x := l2) rfl rfl ?_
          refine x_iclt (tgt := 69) rfl rfl (ti_lt rfl rfl ⟨fun c6 => ?_, fun c6 => ?_⟩)
          ·
            exact jX.sub (jsb_c rfl (jsb_c rfl (jsb_c rfl (jsb_c rfl (jsb_c rfl (jsb_c rfl jsb_n)))))) (ct_X7_reliefOf_r78_69 hD hQ ih l2 l3 l4 l5 l6 h (jr_of rfl (by omega)) (jr_of rfl (by omega)) (jr_of rfl (by omega)) (jr_of rfl (by omega)) (by omega) J Sm)
          ·
            refine x_aloadn (x := 78) rfl rfl ?_
            refine z_getR (N := 16) (b := 80) 7 8 rfl f_7_31 rfl J rfl 9992 ⟨rfl, rfl⟩ rfl ?_
            refine x_iload (x := l5) rfl rfl ?_
            refine z_ialdM (N := 600) (v := v5) rfl J rfl rfl (by omega) qv5 ?_
            refine x_iloadn (x := l3) rfl rfl ?_
            refine x_icgt (tgt := 69) rfl rfl (ti_gt rfl rfl ⟨fun c7 => ?_, fun c7 => ?_⟩)
            ·
              exact jX.sub (jsb_c rfl (jsb_c rfl (jsb_c rfl (jsb_c rfl (jsb_c rfl (jsb_c rfl jsb_n)))))) (ct_X7_reliefOf_r78_69 hD hQ ih l2 l3 l4 l5 l6 h (jr_of rfl (by omega)) (jr_of rfl (by omega)) (jr_of rfl (by omega)) (jr_of rfl (by omega)) (by omega) J Sm)
            ·
              refine x_iload (x := l4) rfl rfl ?_
              refine x_aloadn (x := 78) rfl rfl ?_
              refine z_getR (N := 16) (b := 81) 7 9 rfl f_7_34 rfl J rfl 9993 ⟨rfl, rfl⟩ rfl ?_
              refine x_iload (x := l5) rfl rfl ?_
              refine z_iald0 (N := 600) rfl J rfl rfl (by omega) (fun v8 qv8 => ?_)
              have ev8 := jfull v8
              refine z_iadd0 rfl (fun v9 => ?_)
              have ev9 := jfull v9
              refine x_istore (lsx9 := [(4, .int v9), (0, .ref 78), (2, .int l2), (3, .int l3), (5, .int l5), (6, .int l6)]) rfl rfl rfl ?_
              exact jX.sub (jsb_c rfl (jsb_c rfl (jsb_c rfl (jsb_c rfl (jsb_c rfl (jsb_c rfl jsb_n)))))) (ct_X7_reliefOf_r78_69 hD hQ ih l2 l3 v9 l5 l6 h (jr_of rfl (by omega)) (jr_of rfl (by omega)) (jr_of rfl (by omega)) (jr_of rfl (by omega)) (by omega) J Sm)
set_option maxRecDepth 100000 in
set_option maxHeartbeats 4000000 in
theorem sf_X7_reliefOf_r78 {Dy : jH → Prop} {h : jH} {Q : Option Value → jH → Prop} {a1 : Int32} {a2 : Int32} {a3 : Int32} (y1 : (-1) ≤ a1.toInt ∧ a1.toInt ≤ 599) (y2 : (-365) ≤ a2.toInt ∧ a2.toInt ≤ 146399) (y3 : 0 ≤ a3.toInt ∧ a3.toInt ≤ 146399) (hD : jDk Dy) (J : jJ jSgX Dy h) (hQ : ∀ (v : Int32) hx9, jJ jSgX Dy hx9 → jSm fp_X7_reliefOf_r78 h hx9 → Q (some (.int v)) hx9) : jC m_X7_reliefOf 1 0 0 [.ref 78, .int a1, .int a2, .int a3] h Q := by
  refine jC.of rfl k_X7_reliefOf rfl ?_
  have Sm := jSm_rf fp_X7_reliefOf_r78 h
  show jX m_X7_reliefOf 1 0 0 0 [(0, .ref 78), (1, .int a1), (2, .int a2), (3, .int a3)] [] _ 0 0 _
  refine x_iconst (v := 0) rfl ki_0 ?_
  refine x_istore (lsx9 := [(4, .int 0), (0, .ref 78), (1, .int a1), (2, .int a2), (3, .int a3)]) rfl rfl rfl ?_
  refine x_iloadn (x := a1) rfl rfl ?_
  refine x_istore (lsx9 := [(5, .int a1), (4, .int 0), (0, .ref 78), (1, .int a1), (2, .int a2), (3, .int a3)]) rfl rfl rfl ?_
  refine x_iconst (v := 0) rfl ki_0 ?_
  refine x_istore (lsx9 := [(6, .int 0), (5, .int a1), (4, .int 0), (0, .ref 78), (1, .int a1), (2, .int a2), (3, .int a3)]) rfl rfl rfl ?_
  exact jX.sub (jsb_c rfl (jsb_c rfl (jsb_c rfl (jsb_c rfl (jsb_c rfl (jsb_c rfl jsb_n)))))) (ct_X7_reliefOf_r78_9 hD hQ  601 a2 a3 0 a1 0 h (by have := jk_0; omega) (jr_of rfl (by omega)) (jr_of rfl (by omega)) (jr_of rfl (by omega)) (jr_of jk_0 (by omega)) J Sm)
def fp_X0_quantity_r98 : jFp := [(85, 0, 4)]
set_option maxRecDepth 100000 in
set_option maxHeartbeats 4000000 in
theorem ct_X0_quantity_r98_5000186 {Dy : jH → Prop} {h0 : jH} {Q : Option Value → jH → Prop} (hD : jDk Dy) (hQ : ∀ (v : Int64) hx9, jJ jSgX Dy hx9 → jSm fp_X0_quantity_r98 h0 hx9 → Q (some (.long v)) hx9) : ∀ (s0 : Int64) (h : jH), 0 ≤ s0.toInt ∧ s0.toInt ≤ 1 → jJ jSgX Dy h → jSm fp_X0_quantity_r98 h0 h → jX m_X0_quantity 3 0 0 186 [] [.long s0] h 0 0 Q := by
  intro s0 h y0   J Sm
  refine x_lret rfl rfl ?_
  exact hQ _ _ J Sm
set_option maxRecDepth 100000 in
set_option maxHeartbeats 4000000 in
theorem ct_X0_quantity_r98_181 {Dy : jH → Prop} {h0 : jH} {Q : Option Value → jH → Prop} (hD : jDk Dy) (hQ : ∀ (v : Int64) hx9, jJ jSgX Dy hx9 → jSm fp_X0_quantity_r98 h0 hx9 → Q (some (.long v)) hx9) : ∀ (h : jH), jJ jSgX Dy h → jSm fp_X0_quantity_r98 h0 h → jX m_X0_quantity 3 0 0 181 [] [] h 0 0 Q := by
  intro  h    J Sm
  refine x_lconst (v := 1) rfl kl_1 ?_
  refine x_goto (tgt := 186) rfl rfl ?_
  exact jX.sub jsb_n (ct_X0_quantity_r98_5000186 hD hQ  1 h (jr_ofl jkl_1 (by omega)) J Sm)
set_option maxRecDepth 100000 in
set_option maxHeartbeats 4000000 in
theorem ct_X0_quantity_r98_5000208 {Dy : jH → Prop} {h0 : jH} {Q : Option Value → jH → Prop} (hD : jDk Dy) (hQ : ∀ (v : Int64) hx9, jJ jSgX Dy hx9 → jSm fp_X0_quantity_r98 h0 hx9 → Q (some (.long v)) hx9) : ∀ (s0 : Int64) (h : jH), 0 ≤ s0.toInt ∧ s0.toInt ≤ 1 → jJ jSgX Dy h → jSm fp_X0_quantity_r98 h0 h → jX m_X0_quantity 3 0 0 208 [] [.long s0] h 0 0 Q := by
  intro s0 h y0   J Sm
  refine x_lret rfl rfl ?_
  exact hQ _ _ J Sm
set_option maxRecDepth 100000 in
set_option maxHeartbeats 4000000 in
theorem ct_X0_quantity_r98_5000237 {Dy : jH → Prop} {h0 : jH} {Q : Option Value → jH → Prop} (hD : jDk Dy) (hQ : ∀ (v : Int64) hx9, jJ jSgX Dy hx9 → jSm fp_X0_quantity_r98 h0 hx9 → Q (some (.long v)) hx9) : ∀ (s0 : Int64) (h : jH), 0 ≤ s0.toInt ∧ s0.toInt ≤ 1 → jJ jSgX Dy h → jSm fp_X0_quantity_r98 h0 h → jX m_X0_quantity 3 0 0 237 [] [.long s0] h 0 0 Q := by
  intro s0 h y0   J Sm
  refine x_lret rfl rfl ?_
  exact hQ _ _ J Sm
set_option maxRecDepth 100000 in
set_option maxHeartbeats 4000000 in
theorem ct_X0_quantity_r98_5000253 {Dy : jH → Prop} {h0 : jH} {Q : Option Value → jH → Prop} (hD : jDk Dy) (hQ : ∀ (v : Int64) hx9, jJ jSgX Dy hx9 → jSm fp_X0_quantity_r98 h0 hx9 → Q (some (.long v)) hx9) : ∀ (s0 : Int64) (h : jH), 0 ≤ s0.toInt ∧ s0.toInt ≤ 1 → jJ jSgX Dy h → jSm fp_X0_quantity_r98 h0 h → jX m_X0_quantity 3 0 0 253 [] [.long s0] h 0 0 Q := by
  intro s0 h y0   J Sm
  refine x_lret rfl rfl ?_
  exact hQ _ _ J Sm
set_option maxRecDepth 100000 in
set_option maxHeartbeats 4000000 in
theorem ct_X0_quantity_r98_5000276 {Dy : jH → Prop} {h0 : jH} {Q : Option Value → jH → Prop} (hD : jDk Dy) (hQ : ∀ (v : Int64) hx9, jJ jSgX Dy hx9 → jSm fp_X0_quantity_r98 h0 hx9 → Q (some (.long v)) hx9) : ∀ (s0 : Int64) (h : jH), 0 ≤ s0.toInt ∧ s0.toInt ≤ 1 → jJ jSgX Dy h → jSm fp_X0_quantity_r98 h0 h → jX m_X0_quantity 3 0 0 276 [] [.long s0] h 0 0 Q := by
  intro s0 h y0   J Sm
  refine x_lret rfl rfl ?_
  exact hQ _ _ J Sm
set_option maxRecDepth 100000 in
set_option maxHeartbeats 4000000 in
theorem sf_X0_quantity_r98 {Dy : jH → Prop} {h : jH} {Q : Option Value → jH → Prop} {a1 : Int32} {a2 : Int32} (y2 : (-1) ≤ a2.toInt ∧ a2.toInt ≤ 599) (hD : jDk Dy) (J : jJ jSgX Dy h) (hQ : ∀ (v : Int64) hx9, jJ jSgX Dy hx9 → jSm fp_X0_quantity_r98 h hx9 → Q (some (.long v)) hx9) : jC m_X0_quantity 3 0 0 [.ref 98, .int a1, .int a2] h Q := by
  refine jC.of rfl k_X0_quantity rfl ?_
  have Sm := jSm_rf fp_X0_quantity_r98 h
  have ea1 := jfull a1
  show jX m_X0_quantity 3 0 0 0 [(0, .ref 98), (1, .int a1), (2, .int a2)] [] _ 0 0 _
  refine x_iloadn (x := a1) rfl rfl ?_
  by_cases c1 : a1.toInt = 0
  ·
    refine x_tableIn (tgt := 52) 0 rfl c1 (by decide) (by decide) rfl rfl ?_
    refine x_aloadn (x := 98) rfl rfl ?_
    refine z_getR (N := 16) (b := 78) 0 1 rfl f_0_61 rfl J rfl 12545 ⟨rfl, rfl⟩ rfl ?_
    refine x_iloadn (x := a2) rfl rfl ?_
    refine x_inv (N := m_X7_readSpan) (As := [.int a2]) (b := 78) (st := []) (dx9 := 1) (mc := 0) (ms := 0) (host := "") 7 rfl t_X7_readSpan ⟨Or.inl q_0_154, i_X7_readSpan.1, i_X7_readSpan.2⟩ ⟨by decide, rfl⟩ (congrArg Prod.fst (J.1.1 78 (7, 16) rfl)) rfl (by decide) rfl rfl ⟨by decide, by decide⟩ (sf_X7_readSpan_r78 (jr_of rfl (by omega)) hD J  (fun h J S2 => ?_))
    have Sm := jSm_tr rfl Sm S2
    show jX m_X0_quantity 3 0 0 60 [(0, .ref 98), (1, .int a1), (2, .int a2)] [] _ 0 0 _
    refine x_iconst (v := 0) rfl ki_0 ?_
    refine x_aloadn (x := 98) rfl rfl ?_
    refine z_getI (N := 16) 0 10 rfl f_0_37 rfl J rfl sg_98_10_11_1_0_1 (fun v3 qv3 ev3 => ?_)
    refine x_aloadn (x := 98) rfl rfl ?_
    refine z_getR (N := 16) (b := 78) 0 1 rfl f_0_61 rfl J rfl 12545 ⟨rfl, rfl⟩ rfl ?_
    refine z_getR (N := 16) (b := 85) 7 14 rfl f_0_158 rfl J rfl 9998 ⟨rfl, rfl⟩ rfl ?_
    refine x_iconst (v := 1) rfl ki_1 ?_
    refine z_iald0 (N := 4) rfl J rfl jk_1 (by omega) (fun v4 qv4 => ?_)
    have ev4 := jfull v4
    refine z_isub0 rfl (fun v5 => ?_)
    have ev5 := jfull v5
    refine z_mmax rfl q_0_161 (by decide) rfl jk_0 rfl (fun v6 ev6 => ?_)
    refine x_sipush (v := 366) rfl ks_366 ?_
    refine z_idiv rfl rfl jk_366 (by omega) (by omega) (fun v7 ev7 => ?_)
    refine z_i2l rfl rfl (fun v8 ev8 => ?_)
    refine x_lret rfl rfl ?_
    exact hQ _ _ J Sm
  by_cases c9 : a1.toInt = 1
  ·
    refine x_tableIn (tgt := 84) 1 rfl c9 (by decide) (by decide) rfl rfl ?_
    refine x_aloadn (x := 98) rfl rfl ?_
    refine z_getR (N := 16) (b := 78) 0 1 rfl f_0_61 rfl J rfl 12545 ⟨rfl, rfl⟩ rfl ?_
    refine x_iloadn (x := a2) rfl rfl ?_
    refine x_aloadn (x := 98) rfl rfl ?_
    refine z_getI (N := 16) 0 10 rfl f_0_37 rfl J rfl sg_98_10_11_1_0_1 (fun v10 qv10 ev10 => ?_)
    refine x_inv (N := m_X7_childrenOf) (As := [.int a2, .int v10]) (b := 78) (st := []) (dx9 := 2) (mc := 0) (ms := 0) (host := "") 7 rfl t_X7_childrenOf ⟨Or.inl q_0_164, i_X7_childrenOf.1, i_X7_childrenOf.2⟩ ⟨by decide, rfl⟩ (congrArg Prod.fst (J.1.1 78 (7, 16) rfl)) rfl (by decide) rfl rfl ⟨by decide, by decide⟩ (sf_X7_childrenOf_r78 (jr_of rfl (by omega)) (jr_of rfl (by omega)) hD J  (fun v12 h J S11 => ?_))
    have ev12 := jfull v12
    have Sm := jSm_tr rfl Sm S11
    show jX m_X0_quantity 3 0 0 96 [(0, .ref 98), (1, .int a1), (2, .int a2)] [.int v12] _ 0 0 _
    refine z_i2l rfl rfl (fun v13 ev13 => ?_)
    refine x_lret rfl rfl ?_
    exact hQ _ _ J Sm
  by_cases c14 : a1.toInt = 2
  ·
    refine x_tableIn (tgt := 98) 2 rfl c14 (by decide) (by decide) rfl rfl ?_
    refine x_aloadn (x := 98) rfl rfl ?_
    refine x_iloadn (x := a2) rfl rfl ?_
    refine x_inv (N := m_X0_valueOf) (As := [.int a2]) (b := 98) (st := []) (dx9 := 1) (mc := 0) (ms := 0) (host := "") 0 rfl t_X0_valueOf ⟨Or.inl q_0_167, i_X0_valueOf.1, i_X0_valueOf.2⟩ ⟨by decide, rfl⟩ (congrArg Prod.fst (J.1.1 98 (0, 16) rfl)) rfl (by decide) rfl rfl ⟨by decide, by decide⟩ (sf_X0_valueOf_r98 (jr_of rfl (by omega)) hD J  (fun v16 h J S15 => ?_))
    have ev16 := jfullL v16
    have Sm := jSm_tr rfl Sm S15
    show jX m_X0_quantity 3 0 0 103 [(0, .ref 98), (1, .int a1), (2, .int a2)] [.long v16] _ 0 0 _
    refine x_lret rfl rfl ?_
    exact hQ _ _ J Sm
  by_cases c17 : a1.toInt = 3
  ·
    refine x_tableIn (tgt := 104) 3 rfl c17 (by decide) (by decide) rfl rfl ?_
    refine x_aloadn (x := 98) rfl rfl ?_
    refine z_getI (N := 16) 0 10 rfl f_0_37 rfl J rfl sg_98_10_11_1_0_1 (fun v18 qv18 ev18 => ?_)
    refine x_aloadn (x := 98) rfl rfl ?_
    refine z_getR (N := 16) (b := 78) 0 1 rfl f_0_61 rfl J rfl 12545 ⟨rfl, rfl⟩ rfl ?_
    refine x_iloadn (x := a2) rfl rfl ?_
    refine x_aloadn (x := 98) rfl rfl ?_
    refine z_getM (N := 16) (v := v18) 0 10 rfl f_0_37 rfl J rfl qv18 ?_
    refine x_inv (N := m_X7_firstDay) (As := [.int a2, .int v18]) (b := 78) (st := [.int v18]) (dx9 := 1) (mc := 0) (ms := 0) (host := "") 7 rfl t_X7_firstDay ⟨Or.inl q_0_171, i_X7_firstDay.1, i_X7_firstDay.2⟩ ⟨by decide, rfl⟩ (congrArg Prod.fst (J.1.1 78 (7, 16) rfl)) rfl (by decide) rfl rfl ⟨by decide, by decide⟩ (sf_X7_firstDay_r78 (jr_of rfl (by omega)) (jr_of rfl (by omega)) hD J  (fun v20 h ev20 J S19 => ?_))
    have Sm := jSm_tr rfl Sm S19
    show jX m_X0_quantity 3 0 0 120 [(0, .ref 98), (1, .int a1), (2, .int a2)] [.int v20, .int v18] _ 0 0 _
    refine z_isub rfl rfl rfl (by omega) (fun v21 ev21 => ?_)
    refine x_sipush (v := 366) rfl ks_366 ?_
    refine z_idiv0 rfl jk_366 (by omega) (fun v22 => ?_)
    have ev22 := jfull v22
    refine z_i2l rfl rfl (fun v23 ev23 => ?_)
    refine x_lret rfl rfl ?_
    exact hQ _ _ J Sm
  by_cases c24 : a1.toInt = 4
  ·
    refine x_tableIn (tgt := 127) 4 rfl c24 (by decide) (by decide) rfl rfl ?_
    refine x_aloadn (x := 98) rfl rfl ?_
    refine z_getR (N := 16) (b := 78) 0 1 rfl f_0_61 rfl J rfl 12545 ⟨rfl, rfl⟩ rfl ?_
    refine x_iloadn (x := a2) rfl rfl ?_
    refine x_aloadn (x := 98) rfl rfl ?_
    refine z_getI (N := 16) 0 10 rfl f_0_37 rfl J rfl sg_98_10_11_1_0_1 (fun v25 qv25 ev25 => ?_)
    refine x_sipush (v := 365) rfl ks_365 ?_
    refine z_isub rfl rfl jk_365 (by omega) (fun v26 ev26 => ?_)
    refine x_aloadn (x := 98) rfl rfl ?_
    refine z_getM (N := 16) (v := v25) 0 10 rfl f_0_37 rfl J rfl qv25 ?_
    refine x_inv (N := m_X7_reliefOf) (As := [.int a2, .int v26, .int v25]) (b := 78) (st := []) (dx9 := 1) (mc := 0) (ms := 0) (host := "") 7 rfl t_X7_reliefOf ⟨Or.inl q_0_174, i_X7_reliefOf.1, i_X7_reliefOf.2⟩ ⟨by decide, rfl⟩ (congrArg Prod.fst (J.1.1 78 (7, 16) rfl)) rfl (by decide) rfl rfl ⟨by decide, by decide⟩ (sf_X7_reliefOf_r78 (jr_of rfl (by omega)) (jr_of rfl (by omega)) (jr_of rfl (by omega)) hD J  (fun v28 h J S27 => ?_))
    have ev28 := jfull v28
    have Sm := jSm_tr rfl Sm S27
    show jX m_X0_quantity 3 0 0 147 [(0, .ref 98), (1, .int a1), (2, .int a2)] [.int v28] _ 0 0 _
    refine z_i2l rfl rfl (fun v29 ev29 => ?_)
    refine x_lret rfl rfl ?_
    exact hQ _ _ J Sm
  by_cases c30 : a1.toInt = 5
  ·
    refine x_tableIn (tgt := 149) 5 rfl c30 (by decide) (by decide) rfl rfl ?_
    refine x_aloadn (x := 98) rfl rfl ?_
    refine z_getR (N := 16) (b := 78) 0 1 rfl f_0_61 rfl J rfl 12545 ⟨rfl, rfl⟩ rfl ?_
    refine x_iloadn (x := a2) rfl rfl ?_
    refine x_iconst (v := 3) rfl ki_3 ?_
    refine x_aloadn (x := 98) rfl rfl ?_
    refine z_getI (N := 16) 0 10 rfl f_0_37 rfl J rfl sg_98_10_11_1_0_1 (fun v31 qv31 ev31 => ?_)
    refine x_inv (N := m_X7_hasBy) (As := [.int a2, .int 3, .int v31]) (b := 78) (st := []) (dx9 := 1) (mc := 0) (ms := 0) (host := "") 7 rfl t_X7_hasBy ⟨Or.inl q_0_178, i_X7_hasBy.1, i_X7_hasBy.2⟩ ⟨by decide, rfl⟩ (congrArg Prod.fst (J.1.1 78 (7, 16) rfl)) rfl (by decide) rfl rfl ⟨by decide, by decide⟩ (sf_X7_hasBy_r78 (jr_of rfl (by omega)) (jr_of jk_3 (by omega)) (jr_of rfl (by omega)) hD J  (fun v33 h ev33 J S32 => ?_))
    have Sm := jSm_tr rfl Sm S32
    show jX m_X0_quantity 3 0 0 162 [(0, .ref 98), (1, .int a1), (2, .int a2)] [.int v33] _ 0 0 _
    refine x_ifne (tgt := 181) rfl rfl (ti_ne rfl jk_0 ⟨fun c34 => ?_, fun c34 => ?_⟩)
    ·
      exact jX.sub jsb_n (ct_X0_quantity_r98_181 hD hQ  h J Sm)
    ·
      refine x_aloadn (x := 98) rfl rfl ?_
      refine z_getR (N := 16) (b := 78) 0 1 rfl f_0_61 rfl J rfl 12545 ⟨rfl, rfl⟩ rfl ?_
      refine x_iloadn (x := a2) rfl rfl ?_
      refine x_iconst (v := 4) rfl ki_4 ?_
      refine x_aloadn (x := 98) rfl rfl ?_
      refine z_getM (N := 16) (v := v31) 0 10 rfl f_0_37 rfl J rfl (jmc S32 rfl qv31) ?_
      refine x_inv (N := m_X7_hasBy) (As := [.int a2, .int 4, .int v31]) (b := 78) (st := []) (dx9 := 1) (mc := 0) (ms := 0) (host := "") 7 rfl t_X7_hasBy ⟨Or.inl q_0_178, i_X7_hasBy.1, i_X7_hasBy.2⟩ ⟨by decide, rfl⟩ (congrArg Prod.fst (J.1.1 78 (7, 16) rfl)) rfl (by decide) rfl rfl ⟨by decide, by decide⟩ (sf_X7_hasBy_r78 (jr_of rfl (by omega)) (jr_of jk_4 (by omega)) (jr_of rfl (by omega)) hD J  (fun v36 h ev36 J S35 => ?_))
      have Sm := jSm_tr rfl Sm S35
      show jX m_X0_quantity 3 0 0 178 [(0, .ref 98), (1, .int a1), (2, .int a2)] [.int v36] _ 0 0 _
      refine x_ifeq (tgt := 185) rfl rfl (ti_eq rfl jk_0 ⟨fun c37 => ?_, fun c37 => ?_⟩)
      ·
        refine x_lconst (v := 0) rfl kl_0 ?_
        exact jX.sub jsb_n (ct_X0_quantity_r98_5000186 hD hQ  0 h (jr_ofl jkl_0 (by omega)) J Sm)
      ·
        exact jX.sub jsb_n (ct_X0_quantity_r98_181 hD hQ  h J Sm)
  by_cases c38 : a1.toInt = 6
  ·
    refine x_tableIn (tgt := 187) 6 rfl c38 (by decide) (by decide) rfl rfl ?_
    refine x_aloadn (x := 98) rfl rfl ?_
    refine z_getR (N := 16) (b := 78) 0 1 rfl f_0_61 rfl J rfl 12545 ⟨rfl, rfl⟩ rfl ?_
    refine x_iloadn (x := a2) rfl rfl ?_
    refine x_iconst (v := 5) rfl ki_5 ?_
    refine x_aloadn (x := 98) rfl rfl ?_
    refine z_getI (N := 16) 0 10 rfl f_0_37 rfl J rfl sg_98_10_11_1_0_1 (fun v39 qv39 ev39 => ?_)
    refine x_inv (N := m_X7_hasBy) (As := [.int a2, .int 5, .int v39]) (b := 78) (st := []) (dx9 := 1) (mc := 0) (ms := 0) (host := "") 7 rfl t_X7_hasBy ⟨Or.inl q_0_178, i_X7_hasBy.1, i_X7_hasBy.2⟩ ⟨by decide, rfl⟩ (congrArg Prod.fst (J.1.1 78 (7, 16) rfl)) rfl (by decide) rfl rfl ⟨by decide, by decide⟩ (sf_X7_hasBy_r78 (jr_of rfl (by omega)) (jr_of jk_5 (by omega)) (jr_of rfl (by omega)) hD J  (fun v41 h ev41 J S40 => ?_))
    have Sm := jSm_tr rfl Sm S40
    show jX m_X0_quantity 3 0 0 200 [(0, .ref 98), (1, .int a1), (2, .int a2)] [.int v41] _ 0 0 _
    refine x_ifeq (tgt := 207) rfl rfl (ti_eq rfl jk_0 ⟨fun c42 => ?_, fun c42 => ?_⟩)
    ·
      refine x_lconst (v := 0) rfl kl_0 ?_
      exact jX.sub jsb_n (ct_X0_quantity_r98_5000208 hD hQ  0 h (jr_ofl jkl_0 (by omega)) J Sm)
    ·
      refine x_lconst (v := 1) rfl kl_1 ?_
      refine x_goto (tgt := 208) rfl rfl ?_
      exact jX.sub jsb_n (ct_X0_quantity_r98_5000208 hD hQ  1 h (jr_ofl jkl_1 (by omega)) J Sm)
  by_cases c43 : a1.toInt = 7
  ·
    refine x_tableIn (tgt := 209) 7 rfl c43 (by decide) (by decide) rfl rfl ?_
    refine x_aloadn (x := 98) rfl rfl ?_
    refine z_getR (N := 16) (b := 78) 0 1 rfl f_0_61 rfl J rfl 12545 ⟨rfl, rfl⟩ rfl ?_
    refine x_iloadn (x := a2) rfl rfl ?_
    refine x_aloadn (x := 98) rfl rfl ?_
    refine z_getI (N := 16) 0 10 rfl f_0_37 rfl J rfl sg_98_10_11_1_0_1 (fun v44 qv44 ev44 => ?_)
    refine x_sipush (v := 365) rfl ks_365 ?_
    refine z_isub rfl rfl jk_365 (by omega) (fun v45 ev45 => ?_)
    refine x_aloadn (x := 98) rfl rfl ?_
    refine z_getM (N := 16) (v := v44) 0 10 rfl f_0_37 rfl J rfl qv44 ?_
    refine x_inv (N := m_X7_reliefOf) (As := [.int a2, .int v45, .int v44]) (b := 78) (st := []) (dx9 := 1) (mc := 0) (ms := 0) (host := "") 7 rfl t_X7_reliefOf ⟨Or.inl q_0_174, i_X7_reliefOf.1, i_X7_reliefOf.2⟩ ⟨by decide, rfl⟩ (congrArg Prod.fst (J.1.1 78 (7, 16) rfl)) rfl (by decide) rfl rfl ⟨by decide, by decide⟩ (sf_X7_reliefOf_r78 (jr_of rfl (by omega)) (jr_of rfl (by omega)) (jr_of rfl (by omega)) hD J  (fun v47 h J S46 => ?_))
    have ev47 := jfull v47
    have Sm := jSm_tr rfl Sm S46
    show jX m_X0_quantity 3 0 0 229 [(0, .ref 98), (1, .int a1), (2, .int a2)] [.int v47] _ 0 0 _
    refine x_ifle (tgt := 236) rfl rfl (ti_le rfl jk_0 ⟨fun c48 => ?_, fun c48 => ?_⟩)
    ·
      refine x_lconst (v := 0) rfl kl_0 ?_
      exact jX.sub jsb_n (ct_X0_quantity_r98_5000237 hD hQ  0 h (jr_ofl jkl_0 (by omega)) J Sm)
    ·
      refine x_lconst (v := 1) rfl kl_1 ?_
      refine x_goto (tgt := 237) rfl rfl ?_
      exact jX.sub jsb_n (ct_X0_quantity_r98_5000237 hD hQ  1 h (jr_ofl jkl_1 (by omega)) J Sm)
  by_cases c49 : a1.toInt = 8
  ·
    refine x_tableIn (tgt := 238) 8 rfl c49 (by decide) (by decide) rfl rfl ?_
    refine x_aloadn (x := 98) rfl rfl ?_
    refine x_iloadn (x := a2) rfl rfl ?_
    refine x_inv (N := m_X0_valueOf) (As := [.int a2]) (b := 98) (st := []) (dx9 := 1) (mc := 0) (ms := 0) (host := "") 0 rfl t_X0_valueOf ⟨Or.inl q_0_167, i_X0_valueOf.1, i_X0_valueOf.2⟩ ⟨by decide, rfl⟩ (congrArg Prod.fst (J.1.1 98 (0, 16) rfl)) rfl (by decide) rfl rfl ⟨by decide, by decide⟩ (sf_X0_valueOf_r98 (jr_of rfl (by omega)) hD J  (fun v51 h J S50 => ?_))
    have ev51 := jfullL v51
    have Sm := jSm_tr rfl Sm S50
    show jX m_X0_quantity 3 0 0 243 [(0, .ref 98), (1, .int a1), (2, .int a2)] [.long v51] _ 0 0 _
    refine x_lconst (v := 0) rfl kl_0 ?_
    refine z_lcmp rfl rfl jkl_0 (fun v52 ev52 => ?_)
    refine x_ifle (tgt := 252) rfl rfl (ti_le rfl jk_0 ⟨fun c53 => ?_, fun c53 => ?_⟩)
    ·
      refine x_lconst (v := 0) rfl kl_0 ?_
      exact jX.sub jsb_n (ct_X0_quantity_r98_5000253 hD hQ  0 h (jr_ofl jkl_0 (by omega)) J Sm)
    ·
      refine x_lconst (v := 1) rfl kl_1 ?_
      refine x_goto (tgt := 253) rfl rfl ?_
      exact jX.sub jsb_n (ct_X0_quantity_r98_5000253 hD hQ  1 h (jr_ofl jkl_1 (by omega)) J Sm)
  refine x_tableOut (tgt := 254) rfl (by omega) rfl ?_
  refine x_aloadn (x := 98) rfl rfl ?_
  refine x_iloadn (x := a2) rfl rfl ?_
  refine x_iconst (v := (-1)) rfl ki_m1 ?_
  refine x_aloadn (x := 98) rfl rfl ?_
  refine z_getI (N := 16) 0 10 rfl f_0_37 rfl J rfl sg_98_10_11_1_0_1 (fun v54 qv54 ev54 => ?_)
  refine x_aloadn (x := 98) rfl rfl ?_
  refine z_getI (N := 16) 0 11 rfl f_0_41 rfl J rfl sg_98_11_12_1_0_1 (fun v55 qv55 ev55 => ?_)
  refine x_inv (N := m_X0_isCertified) (As := [.int a2, .int (-1), .int v54, .int v55]) (b := 98) (st := []) (dx9 := 2) (mc := 0) (ms := 0) (host := "") 0 rfl t_X0_isCertified ⟨Or.inl q_0_182, i_X0_isCertified.1, i_X0_isCertified.2⟩ ⟨by decide, rfl⟩ (congrArg Prod.fst (J.1.1 98 (0, 16) rfl)) rfl (by decide) rfl rfl ⟨by decide, by decide⟩ (sf_X0_isCertified_r98 (jr_of rfl (by omega)) (jr_of jk_m1 (by omega)) (jr_of rfl (by omega)) (jr_of rfl (by omega)) hD J  (fun v57 h ev57 J S56 => ?_))
  have Sm := jSm_tr rfl Sm S56
  show jX m_X0_quantity 3 0 0 268 [(0, .ref 98), (1, .int a1), (2, .int a2)] [.int v57] _ 0 0 _
  refine x_ifeq (tgt := 275) rfl rfl (ti_eq rfl jk_0 ⟨fun c58 => ?_, fun c58 => ?_⟩)
  ·
    refine x_lconst (v := 0) rfl kl_0 ?_
    exact jX.sub jsb_n (ct_X0_quantity_r98_5000276 hD hQ  0 h (jr_ofl jkl_0 (by omega)) J Sm)
  ·
    refine x_lconst (v := 1) rfl kl_1 ?_
    refine x_goto (tgt := 276) rfl rfl ?_
    exact jX.sub jsb_n (ct_X0_quantity_r98_5000276 hD hQ  1 h (jr_ofl jkl_1 (by omega)) J Sm)
def fp_X0_workOut_r98 : jFp := [(85, 0, 4), (106, 0, 100)]
set_option maxRecDepth 100000 in
set_option maxHeartbeats 4000000 in
theorem ct_X0_workOut_r98_319 {Dy : jH → Prop} {h0 : jH} {Q : Option Value → jH → Prop} (hD : jDk Dy) (hQ : ∀ (v : Int64) hx9, jJ jSgX Dy hx9 → jSm fp_X0_workOut_r98 h0 hx9 → Q (some (.long v)) hx9) : ∀ (h : jH), jJ jSgX Dy h → jSm fp_X0_workOut_r98 h0 h → jX m_X0_workOut 4 0 0 319 [] [] h 0 0 Q := by
  intro  h    J Sm
  refine x_ldc2 (v := (-2000000000000)) rfl z_0_193 ?_
  refine x_lret rfl rfl ?_
  exact hQ _ _ J Sm
set_option maxRecDepth 100000 in
set_option maxHeartbeats 4000000 in
theorem ct_X0_workOut_r98_313 {Dy : jH → Prop} {h0 : jH} {Q : Option Value → jH → Prop} {R15 : Int} (hD : jDk Dy) (hQ : ∀ (v : Int64) hx9, jJ jSgX Dy hx9 → jSm fp_X0_workOut_r98 h0 hx9 → Q (some (.long v)) hx9) (k15 : ∀ (l3 : Int32) (l4 : Nat) (nl4 : Nat) (l5 : Int32) (l6 : Int32) (l7 : Int32) (h : jH), 1200 - l7.toInt < R15 → (-1) ≤ l3.toInt ∧ l3.toInt ≤ 599 → 0 ≤ l6.toInt ∧ l6.toInt ≤ 100 → 0 ≤ l7.toInt ∧ l7.toInt ≤ 1200 → jTa h l4 nl4 → jJ jSgX Dy h → jSm fp_X0_workOut_r98 h0 h → jX m_X0_workOut 4 0 0 15 [(0, .ref 98), (3, .int l3), (4, .ref l4), (5, .int l5), (6, .int l6), (7, .int l7)] [] h 0 0 Q) : ∀ (l3 : Int32) (l4 : Nat) (nl4 : Nat) (l5 : Int32) (l6 : Int32) (l7 : Int32) (h : jH), (-1) ≤ l3.toInt ∧ l3.toInt ≤ 599 → 0 ≤ l6.toInt ∧ l6.toInt ≤ 100 → 0 ≤ l7.toInt ∧ l7.toInt ≤ 1199 → jTa h l4 nl4 → 1200 - l7.toInt ≤ R15 → jJ jSgX Dy h → jSm fp_X0_workOut_r98 h0 h → jX m_X0_workOut 4 0 0 313 [(0, .ref 98), (3, .int l3), (4, .ref l4), (5, .int l5), (6, .int l6), (7, .int l7)] [] h 0 0 Q := by
  intro l3 l4 nl4 l5 l6 l7 h y0 y1 y2 Tl4  m15 J Sm
  have el5 := jfull l5
  refine z_iinc (x := l7) (lsx9 := fun v1 => [(7, .int v1), (0, .ref 98), (3, .int l3), (4, .ref l4), (5, .int l5), (6, .int l6)]) rfl rfl rfl jko_1 (by omega) rfl (fun _ => rfl) (fun v1 ev1 => ?_)
  refine x_goto (tgt := 15) rfl rfl ?_
  exact jX.sub (jsb_c rfl (jsb_c rfl (jsb_c rfl (jsb_c rfl (jsb_c rfl (jsb_c rfl jsb_n)))))) (k15 l3 l4 nl4 l5 l6 v1 h (by omega) (jr_of rfl (by omega)) (jr_of rfl (by omega)) (jr_of rfl (by omega)) Tl4 J Sm)
set_option maxRecDepth 100000 in
set_option maxHeartbeats 4000000 in
theorem ct_X0_workOut_r98_113 {Dy : jH → Prop} {h0 : jH} {Q : Option Value → jH → Prop} {R15 : Int} (hD : jDk Dy) (hQ : ∀ (v : Int64) hx9, jJ jSgX Dy hx9 → jSm fp_X0_workOut_r98 h0 hx9 → Q (some (.long v)) hx9) (k15 : ∀ (l3 : Int32) (l4 : Nat) (nl4 : Nat) (l5 : Int32) (l6 : Int32) (l7 : Int32) (h : jH), 1200 - l7.toInt < R15 → (-1) ≤ l3.toInt ∧ l3.toInt ≤ 599 → 0 ≤ l6.toInt ∧ l6.toInt ≤ 100 → 0 ≤ l7.toInt ∧ l7.toInt ≤ 1200 → jTa h l4 nl4 → jJ jSgX Dy h → jSm fp_X0_workOut_r98 h0 h → jX m_X0_workOut 4 0 0 15 [(0, .ref 98), (3, .int l3), (4, .ref l4), (5, .int l5), (6, .int l6), (7, .int l7)] [] h 0 0 Q) : ∀ (l3 : Int32) (l4 : Nat) (nl4 : Nat) (l5 : Int32) (l6 : Int32) (l7 : Int32) (s0 : Int64) (s1 : Int32) (h : jH), (-1) ≤ l3.toInt ∧ l3.toInt ≤ 599 → 0 ≤ l5.toInt ∧ l5.toInt ≤ 1199 → 0 ≤ l6.toInt ∧ l6.toInt ≤ 99 → 0 ≤ l7.toInt ∧ l7.toInt ≤ 1199 → 0 ≤ s1.toInt ∧ s1.toInt ≤ 99 → jTa h l4 nl4 → 1200 - l7.toInt ≤ R15 → jJ jSgX Dy h → jSm fp_X0_workOut_r98 h0 h → jX m_X0_workOut 4 0 0 113 [(0, .ref 98), (3, .int l3), (4, .ref l4), (5, .int l5), (6, .int l6), (7, .int l7)] [.long s0, .int s1, .ref 106] h 0 0 Q := by
  intro l3 l4 nl4 l5 l6 l7 s0 s1 h y0 y1 y2 y3 y4 Tl4  m15 J Sm
  have es0 := jfullL s0
  refine z_last (N := 100) (l := 0) (u := 100) rfl hD J Sm rfl rfl rfl (by omega) rfl (fun h w1 J Sm => ?_)
  have Tl4 := jTa_l w1 Tl4
  refine z_iinc (x := l6) (lsx9 := fun v2 => [(6, .int v2), (0, .ref 98), (3, .int l3), (4, .ref l4), (5, .int l5), (7, .int l7)]) rfl rfl rfl jko_1 (by omega) rfl (fun _ => rfl) (fun v2 ev2 => ?_)
  refine z_iinc (x := l5) (lsx9 := fun v3 => [(5, .int v3), (6, .int v2), (0, .ref 98), (3, .int l3), (4, .ref l4), (7, .int l7)]) rfl rfl rfl jko_2 (by omega) rfl (fun _ => rfl) (fun v3 ev3 => ?_)
  refine x_goto (tgt := 313) rfl rfl ?_
  exact jX.sub (jsb_c rfl (jsb_c rfl (jsb_c rfl (jsb_c rfl (jsb_c rfl (jsb_c rfl jsb_n)))))) (ct_X0_workOut_r98_313 hD hQ k15 l3 l4 nl4 v3 v2 l7 h (jr_of rfl (by omega)) (jr_of rfl (by omega)) (jr_of rfl (by omega)) Tl4 (by omega) J Sm)
set_option maxRecDepth 100000 in
set_option maxHeartbeats 4000000 in
theorem ct_X0_workOut_r98_88 {Dy : jH → Prop} {h0 : jH} {Q : Option Value → jH → Prop} {R15 : Int} (hD : jDk Dy) (hQ : ∀ (v : Int64) hx9, jJ jSgX Dy hx9 → jSm fp_X0_workOut_r98 h0 hx9 → Q (some (.long v)) hx9) (k15 : ∀ (l3 : Int32) (l4 : Nat) (nl4 : Nat) (l5 : Int32) (l6 : Int32) (l7 : Int32) (h : jH), 1200 - l7.toInt < R15 → (-1) ≤ l3.toInt ∧ l3.toInt ≤ 599 → 0 ≤ l6.toInt ∧ l6.toInt ≤ 100 → 0 ≤ l7.toInt ∧ l7.toInt ≤ 1200 → jTa h l4 nl4 → jJ jSgX Dy h → jSm fp_X0_workOut_r98 h0 h → jX m_X0_workOut 4 0 0 15 [(0, .ref 98), (3, .int l3), (4, .ref l4), (5, .int l5), (6, .int l6), (7, .int l7)] [] h 0 0 Q) : ∀ (l3 : Int32) (l4 : Nat) (nl4 : Nat) (l5 : Int32) (l6 : Int32) (l7 : Int32) (l8 : Int32) (l9 : Int32) (h : jH), (-1) ≤ l3.toInt ∧ l3.toInt ≤ 599 → 0 ≤ l5.toInt ∧ l5.toInt ≤ 1199 → 0 ≤ l6.toInt ∧ l6.toInt ≤ 99 → 0 ≤ l7.toInt ∧ l7.toInt ≤ 1199 → 1 ≤ l8.toInt ∧ l8.toInt ≤ 2 → jTa h l4 nl4 → 1200 - l7.toInt ≤ R15 → jJ jSgX Dy h → jSm fp_X0_workOut_r98 h0 h → jX m_X0_workOut 4 0 0 88 [(0, .ref 98), (3, .int l3), (4, .ref l4), (5, .int l5), (6, .int l6), (7, .int l7), (8, .int l8), (9, .int l9)] [] h 0 0 Q := by
  intro l3 l4 nl4 l5 l6 l7 l8 l9 h y0 y1 y2 y3 y4 Tl4  m15 J Sm
  have el9 := jfull l9
  refine x_aloadn (x := 98) rfl rfl ?_
  refine z_getR (N := 16) (b := 106) 0 9 rfl f_0_33 rfl J rfl 12553 ⟨rfl, rfl⟩ rfl ?_
  refine x_iload (x := l6) rfl rfl ?_
  refine x_iload (x := l8) rfl rfl ?_
  refine x_iconst (v := 1) rfl ki_1 ?_
  refine x_icne (tgt := 106) rfl rfl (ti_ne rfl jk_1 ⟨fun c1 => ?_, fun c1 => ?_⟩)
  ·
    refine x_aloadn (x := 98) rfl rfl ?_
    refine x_iload (x := l9) rfl rfl ?_
    refine x_iloadn (x := l3) rfl rfl ?_
    refine x_inv (N := m_X0_quantity) (As := [.int l9, .int l3]) (b := 98) (st := [.int l6, .ref 106]) (dx9 := 3) (mc := 0) (ms := 0) (host := "") 0 rfl t_X0_quantity ⟨Or.inl q_0_198, i_X0_quantity.1, i_X0_quantity.2⟩ ⟨by decide, rfl⟩ (congrArg Prod.fst (J.1.1 98 (0, 16) rfl)) rfl (by decide) rfl rfl ⟨by decide, by decide⟩ (sf_X0_quantity_r98 (jr_of rfl (by omega)) hD J  (fun v3 h J S2 => ?_))
    have ev3 := jfullL v3
    have Sm := jSm_tr rfl Sm S2
    have Tl4 := jTa_m S2 Tl4
    show jX m_X0_workOut 4 0 0 113 [(0, .ref 98), (3, .int l3), (4, .ref l4), (5, .int l5), (6, .int l6), (7, .int l7), (8, .int l8), (9, .int l9)] [.long v3, .int l6, .ref 106] _ 0 0 _
    exact jX.sub (jsb_c rfl (jsb_c rfl (jsb_c rfl (jsb_c rfl (jsb_c rfl (jsb_c rfl jsb_n)))))) (ct_X0_workOut_r98_113 hD hQ k15 l3 l4 nl4 l5 l6 l7 v3 l6 h (jr_of rfl (by omega)) (jr_of rfl (by omega)) (jr_of rfl (by omega)) (jr_of rfl (by omega)) (jr_of rfl (by omega)) Tl4 (by omega) J Sm)
  ·
    refine x_iload (x := l9) rfl rfl ?_
    refine z_i2l rfl rfl (fun v4 ev4 => ?_)
    refine x_goto (tgt := 113) rfl rfl ?_
    exact jX.sub (jsb_c rfl (jsb_c rfl (jsb_c rfl (jsb_c rfl (jsb_c rfl (jsb_c rfl jsb_n)))))) (ct_X0_workOut_r98_113 hD hQ k15 l3 l4 nl4 l5 l6 l7 v4 l6 h (jr_of rfl (by omega)) (jr_of rfl (by omega)) (jr_of rfl (by omega)) (jr_of rfl (by omega)) (jr_of rfl (by omega)) Tl4 (by omega) J Sm)
set_option maxRecDepth 100000 in
set_option maxHeartbeats 4000000 in
theorem ct_X0_workOut_r98_248 {Dy : jH → Prop} {h0 : jH} {Q : Option Value → jH → Prop} {R15 : Int} (hD : jDk Dy) (hQ : ∀ (v : Int64) hx9, jJ jSgX Dy hx9 → jSm fp_X0_workOut_r98 h0 hx9 → Q (some (.long v)) hx9) (k15 : ∀ (l3 : Int32) (l4 : Nat) (nl4 : Nat) (l5 : Int32) (l6 : Int32) (l7 : Int32) (h : jH), 1200 - l7.toInt < R15 → (-1) ≤ l3.toInt ∧ l3.toInt ≤ 599 → 0 ≤ l6.toInt ∧ l6.toInt ≤ 100 → 0 ≤ l7.toInt ∧ l7.toInt ≤ 1200 → jTa h l4 nl4 → jJ jSgX Dy h → jSm fp_X0_workOut_r98 h0 h → jX m_X0_workOut 4 0 0 15 [(0, .ref 98), (3, .int l3), (4, .ref l4), (5, .int l5), (6, .int l6), (7, .int l7)] [] h 0 0 Q) : ∀ (l3 : Int32) (l4 : Nat) (nl4 : Nat) (l5 : Int32) (l7 : Int32) (s0 : Int32) (h : jH), (-1) ≤ l3.toInt ∧ l3.toInt ≤ 599 → 0 ≤ l7.toInt ∧ l7.toInt ≤ 1199 → 0 ≤ s0.toInt ∧ s0.toInt ≤ 99 → jTa h l4 nl4 → 1200 - l7.toInt ≤ R15 → jJ jSgX Dy h → jSm fp_X0_workOut_r98 h0 h → jX m_X0_workOut 4 0 0 248 [(0, .ref 98), (3, .int l3), (4, .ref l4), (5, .int l5), (7, .int l7)] [.int s0] h 0 0 Q := by
  intro l3 l4 nl4 l5 l7 s0 h y0 y1 y2 Tl4  m15 J Sm
  have el5 := jfull l5
  refine x_istore (lsx9 := [(6, .int s0), (0, .ref 98), (3, .int l3), (4, .ref l4), (5, .int l5), (7, .int l7)]) rfl rfl rfl ?_
  refine x_goto (tgt := 313) rfl rfl ?_
  exact jX.sub (jsb_c rfl (jsb_c rfl (jsb_c rfl (jsb_c rfl (jsb_c rfl (jsb_c rfl jsb_n)))))) (ct_X0_workOut_r98_313 hD hQ k15 l3 l4 nl4 l5 s0 l7 h (jr_of rfl (by omega)) (jr_of rfl (by omega)) (jr_of rfl (by omega)) Tl4 (by omega) J Sm)
set_option maxRecDepth 100000 in
set_option maxHeartbeats 4000000 in
theorem ct_X0_workOut_r98_232 {Dy : jH → Prop} {h0 : jH} {Q : Option Value → jH → Prop} {R15 : Int} (hD : jDk Dy) (hQ : ∀ (v : Int64) hx9, jJ jSgX Dy hx9 → jSm fp_X0_workOut_r98 h0 hx9 → Q (some (.long v)) hx9) (k15 : ∀ (l3 : Int32) (l4 : Nat) (nl4 : Nat) (l5 : Int32) (l6 : Int32) (l7 : Int32) (h : jH), 1200 - l7.toInt < R15 → (-1) ≤ l3.toInt ∧ l3.toInt ≤ 599 → 0 ≤ l6.toInt ∧ l6.toInt ≤ 100 → 0 ≤ l7.toInt ∧ l7.toInt ≤ 1200 → jTa h l4 nl4 → jJ jSgX Dy h → jSm fp_X0_workOut_r98 h0 h → jX m_X0_workOut 4 0 0 15 [(0, .ref 98), (3, .int l3), (4, .ref l4), (5, .int l5), (6, .int l6), (7, .int l7)] [] h 0 0 Q) : ∀ (l3 : Int32) (l4 : Nat) (nl4 : Nat) (l6 : Int32) (l7 : Int32) (l12 : Int32) (s0 : Int32) (h : jH), (-1) ≤ l3.toInt ∧ l3.toInt ≤ 599 → 1 ≤ l6.toInt ∧ l6.toInt ≤ 99 → 0 ≤ l7.toInt ∧ l7.toInt ≤ 1199 → 0 ≤ l12.toInt ∧ l12.toInt ≤ 1 → jTa h l4 nl4 → 1200 - l7.toInt ≤ R15 → jJ jSgX Dy h → jSm fp_X0_workOut_r98 h0 h → jX m_X0_workOut 4 0 0 232 [(0, .ref 98), (3, .int l3), (4, .ref l4), (6, .int l6), (7, .int l7), (12, .int l12)] [.int s0] h 0 0 Q := by
  intro l3 l4 nl4 l6 l7 l12 s0 h y0 y1 y2 y3 Tl4  m15 J Sm
  have es0 := jfull s0
  refine x_istore (lsx9 := [(5, .int s0), (0, .ref 98), (3, .int l3), (4, .ref l4), (6, .int l6), (7, .int l7), (12, .int l12)]) rfl rfl rfl ?_
  refine x_iload (x := l12) rfl rfl ?_
  refine x_ifeq (tgt := 244) rfl rfl (ti_eq rfl jk_0 ⟨fun c1 => ?_, fun c1 => ?_⟩)
  ·
    refine x_iload (x := l6) rfl rfl ?_
    refine x_iconst (v := 1) rfl ki_1 ?_
    refine z_isub rfl rfl jk_1 (by omega) (fun v2 ev2 => ?_)
    exact jX.sub (jsb_c rfl (jsb_c rfl (jsb_c rfl (jsb_c rfl (jsb_c rfl jsb_n))))) (ct_X0_workOut_r98_248 hD hQ k15 l3 l4 nl4 s0 l7 v2 h (jr_of rfl (by omega)) (jr_of rfl (by omega)) (jr_of rfl (by omega)) Tl4 (by omega) J Sm)
  ·
    refine x_iload (x := l6) rfl rfl ?_
    refine x_goto (tgt := 248) rfl rfl ?_
    exact jX.sub (jsb_c rfl (jsb_c rfl (jsb_c rfl (jsb_c rfl (jsb_c rfl jsb_n))))) (ct_X0_workOut_r98_248 hD hQ k15 l3 l4 nl4 s0 l7 l6 h (jr_of rfl (by omega)) (jr_of rfl (by omega)) (jr_of rfl (by omega)) Tl4 (by omega) J Sm)
set_option maxRecDepth 100000 in
set_option maxHeartbeats 4000000 in
theorem ct_X0_workOut_r98_200216 {Dy : jH → Prop} {h0 : jH} {Q : Option Value → jH → Prop} {R15 : Int} (hD : jDk Dy) (hQ : ∀ (v : Int64) hx9, jJ jSgX Dy hx9 → jSm fp_X0_workOut_r98 h0 hx9 → Q (some (.long v)) hx9) (k15 : ∀ (l3 : Int32) (l4 : Nat) (nl4 : Nat) (l5 : Int32) (l6 : Int32) (l7 : Int32) (h : jH), 1200 - l7.toInt < R15 → (-1) ≤ l3.toInt ∧ l3.toInt ≤ 599 → 0 ≤ l6.toInt ∧ l6.toInt ≤ 100 → 0 ≤ l7.toInt ∧ l7.toInt ≤ 1200 → jTa h l4 nl4 → jJ jSgX Dy h → jSm fp_X0_workOut_r98 h0 h → jX m_X0_workOut 4 0 0 15 [(0, .ref 98), (3, .int l3), (4, .ref l4), (5, .int l5), (6, .int l6), (7, .int l7)] [] h 0 0 Q) : ∀ (l3 : Int32) (l4 : Nat) (nl4 : Nat) (l5 : Int32) (l6 : Int32) (l7 : Int32) (l9 : Int32) (h : jH), (-1) ≤ l3.toInt ∧ l3.toInt ≤ 599 → 0 ≤ l5.toInt ∧ l5.toInt ≤ 1199 → 1 ≤ l6.toInt ∧ l6.toInt ≤ 99 → 0 ≤ l7.toInt ∧ l7.toInt ≤ 1199 → jTa h l4 nl4 → 1200 - l7.toInt ≤ R15 → jJ jSgX Dy h → jSm fp_X0_workOut_r98 h0 h → jX m_X0_workOut 4 0 0 216 [(0, .ref 98), (3, .int l3), (4, .ref l4), (5, .int l5), (6, .int l6), (7, .int l7), (9, .int l9)] [.int 0] h 0 0 Q := by
  intro l3 l4 nl4 l5 l6 l7 l9 h y0 y1 y2 y3 Tl4  m15 J Sm
  have el9 := jfull l9
  refine x_istore (lsx9 := [(12, .int 0), (0, .ref 98), (3, .int l3), (4, .ref l4), (5, .int l5), (6, .int l6), (7, .int l7), (9, .int l9)]) rfl rfl rfl ?_
  refine x_iload (x := 0) rfl rfl ?_
  refine x_ifeq (tgt := 228) rfl rfl (ti_eq jk_0 jk_0 (br_t (by omega) ?_))
  refine x_iload (x := l5) rfl rfl ?_
  refine x_iconst (v := 2) rfl ki_2 ?_
  refine z_iadd rfl rfl jk_2 (by omega) (fun v1 ev1 => ?_)
  exact jX.sub (jsb_c rfl (jsb_c rfl (jsb_c rfl (jsb_c rfl (jsb_c rfl (jsb_c rfl jsb_n)))))) (ct_X0_workOut_r98_232 hD hQ k15 l3 l4 nl4 l6 l7 0 v1 h (jr_of rfl (by omega)) (jr_of rfl (by omega)) (jr_of rfl (by omega)) (jr_of jk_0 (by omega)) Tl4 (by omega) J Sm)
set_option maxRecDepth 100000 in
set_option maxHeartbeats 4000000 in
theorem ct_X0_workOut_r98_300216 {Dy : jH → Prop} {h0 : jH} {Q : Option Value → jH → Prop} {R15 : Int} (hD : jDk Dy) (hQ : ∀ (v : Int64) hx9, jJ jSgX Dy hx9 → jSm fp_X0_workOut_r98 h0 hx9 → Q (some (.long v)) hx9) (k15 : ∀ (l3 : Int32) (l4 : Nat) (nl4 : Nat) (l5 : Int32) (l6 : Int32) (l7 : Int32) (h : jH), 1200 - l7.toInt < R15 → (-1) ≤ l3.toInt ∧ l3.toInt ≤ 599 → 0 ≤ l6.toInt ∧ l6.toInt ≤ 100 → 0 ≤ l7.toInt ∧ l7.toInt ≤ 1200 → jTa h l4 nl4 → jJ jSgX Dy h → jSm fp_X0_workOut_r98 h0 h → jX m_X0_workOut 4 0 0 15 [(0, .ref 98), (3, .int l3), (4, .ref l4), (5, .int l5), (6, .int l6), (7, .int l7)] [] h 0 0 Q) : ∀ (l3 : Int32) (l4 : Nat) (nl4 : Nat) (l5 : Int32) (l6 : Int32) (l7 : Int32) (l9 : Int32) (h : jH), (-1) ≤ l3.toInt ∧ l3.toInt ≤ 599 → 0 ≤ l5.toInt ∧ l5.toInt ≤ 1199 → 1 ≤ l6.toInt ∧ l6.toInt ≤ 99 → 0 ≤ l7.toInt ∧ l7.toInt ≤ 1199 → jTa h l4 nl4 → 1200 - l7.toInt ≤ R15 → jJ jSgX Dy h → jSm fp_X0_workOut_r98 h0 h → jX m_X0_workOut 4 0 0 216 [(0, .ref 98), (3, .int l3), (4, .ref l4), (5, .int l5), (6, .int l6), (7, .int l7), (9, .int l9)] [.int 1] h 0 0 Q := by
  intro l3 l4 nl4 l5 l6 l7 l9 h y0 y1 y2 y3 Tl4  m15 J Sm
  have el9 := jfull l9
  refine x_istore (lsx9 := [(12, .int 1), (0, .ref 98), (3, .int l3), (4, .ref l4), (5, .int l5), (6, .int l6), (7, .int l7), (9, .int l9)]) rfl rfl rfl ?_
  refine x_iload (x := 1) rfl rfl ?_
  refine x_ifeq (tgt := 228) rfl rfl (ti_eq jk_1 jk_0 (br_f (by omega) ?_))
  refine x_iload (x := l9) rfl rfl ?_
  refine x_goto (tgt := 232) rfl rfl ?_
  exact jX.sub (jsb_c rfl (jsb_c rfl (jsb_c rfl (jsb_c rfl (jsb_c rfl (jsb_c rfl jsb_n)))))) (ct_X0_workOut_r98_232 hD hQ k15 l3 l4 nl4 l6 l7 1 l9 h (jr_of rfl (by omega)) (jr_of rfl (by omega)) (jr_of rfl (by omega)) (jr_of jk_1 (by omega)) Tl4 (by omega) J Sm)
set_option maxRecDepth 100000 in
set_option maxHeartbeats 4000000 in
theorem ct_X0_workOut_r98_200206 {Dy : jH → Prop} {h0 : jH} {Q : Option Value → jH → Prop} {R15 : Int} (hD : jDk Dy) (hQ : ∀ (v : Int64) hx9, jJ jSgX Dy hx9 → jSm fp_X0_workOut_r98 h0 hx9 → Q (some (.long v)) hx9) (k15 : ∀ (l3 : Int32) (l4 : Nat) (nl4 : Nat) (l5 : Int32) (l6 : Int32) (l7 : Int32) (h : jH), 1200 - l7.toInt < R15 → (-1) ≤ l3.toInt ∧ l3.toInt ≤ 599 → 0 ≤ l6.toInt ∧ l6.toInt ≤ 100 → 0 ≤ l7.toInt ∧ l7.toInt ≤ 1200 → jTa h l4 nl4 → jJ jSgX Dy h → jSm fp_X0_workOut_r98 h0 h → jX m_X0_workOut 4 0 0 15 [(0, .ref 98), (3, .int l3), (4, .ref l4), (5, .int l5), (6, .int l6), (7, .int l7)] [] h 0 0 Q) : ∀ (l3 : Int32) (l4 : Nat) (nl4 : Nat) (l5 : Int32) (l6 : Int32) (l7 : Int32) (l9 : Int32) (s1 : Int64) (h : jH), (-1) ≤ l3.toInt ∧ l3.toInt ≤ 599 → 0 ≤ l5.toInt ∧ l5.toInt ≤ 1199 → 1 ≤ l6.toInt ∧ l6.toInt ≤ 99 → 0 ≤ l7.toInt ∧ l7.toInt ≤ 1199 → jTa h l4 nl4 → 1200 - l7.toInt ≤ R15 → jJ jSgX Dy h → jSm fp_X0_workOut_r98 h0 h → jX m_X0_workOut 4 0 0 206 [(0, .ref 98), (3, .int l3), (4, .ref l4), (5, .int l5), (6, .int l6), (7, .int l7), (9, .int l9)] [.int 0, .long s1] h 0 0 Q := by
  intro l3 l4 nl4 l5 l6 l7 l9 s1 h y0 y1 y2 y3 Tl4  m15 J Sm
  have el9 := jfull l9
  have es1 := jfullL s1
  refine z_i2l rfl jk_0 (fun v1 ev1 => ?_)
  refine z_lcmp rfl rfl rfl (fun v2 ev2 => ?_)
  refine x_ifne (tgt := 215) rfl rfl (ti_ne rfl jk_0 ⟨fun c3 => ?_, fun c3 => ?_⟩)
  ·
    refine x_iconst (v := 0) rfl ki_0 ?_
    exact jX.sub (jsb_c rfl (jsb_c rfl (jsb_c rfl (jsb_c rfl (jsb_c rfl (jsb_c rfl (jsb_c rfl jsb_n))))))) (ct_X0_workOut_r98_200216 hD hQ k15 l3 l4 nl4 l5 l6 l7 l9 h (jr_of rfl (by omega)) (jr_of rfl (by omega)) (jr_of rfl (by omega)) (jr_of rfl (by omega)) Tl4 (by omega) J Sm)
  ·
    refine x_iconst (v := 1) rfl ki_1 ?_
    refine x_goto (tgt := 216) rfl rfl ?_
    exact jX.sub (jsb_c rfl (jsb_c rfl (jsb_c rfl (jsb_c rfl (jsb_c rfl (jsb_c rfl (jsb_c rfl jsb_n))))))) (ct_X0_workOut_r98_300216 hD hQ k15 l3 l4 nl4 l5 l6 l7 l9 h (jr_of rfl (by omega)) (jr_of rfl (by omega)) (jr_of rfl (by omega)) (jr_of rfl (by omega)) Tl4 (by omega) J Sm)
set_option maxRecDepth 100000 in
set_option maxHeartbeats 4000000 in
theorem ct_X0_workOut_r98_300206 {Dy : jH → Prop} {h0 : jH} {Q : Option Value → jH → Prop} {R15 : Int} (hD : jDk Dy) (hQ : ∀ (v : Int64) hx9, jJ jSgX Dy hx9 → jSm fp_X0_workOut_r98 h0 hx9 → Q (some (.long v)) hx9) (k15 : ∀ (l3 : Int32) (l4 : Nat) (nl4 : Nat) (l5 : Int32) (l6 : Int32) (l7 : Int32) (h : jH), 1200 - l7.toInt < R15 → (-1) ≤ l3.toInt ∧ l3.toInt ≤ 599 → 0 ≤ l6.toInt ∧ l6.toInt ≤ 100 → 0 ≤ l7.toInt ∧ l7.toInt ≤ 1200 → jTa h l4 nl4 → jJ jSgX Dy h → jSm fp_X0_workOut_r98 h0 h → jX m_X0_workOut 4 0 0 15 [(0, .ref 98), (3, .int l3), (4, .ref l4), (5, .int l5), (6, .int l6), (7, .int l7)] [] h 0 0 Q) : ∀ (l3 : Int32) (l4 : Nat) (nl4 : Nat) (l5 : Int32) (l6 : Int32) (l7 : Int32) (l9 : Int32) (s1 : Int64) (h : jH), (-1) ≤ l3.toInt ∧ l3.toInt ≤ 599 → 0 ≤ l5.toInt ∧ l5.toInt ≤ 1199 → 1 ≤ l6.toInt ∧ l6.toInt ≤ 99 → 0 ≤ l7.toInt ∧ l7.toInt ≤ 1199 → jTa h l4 nl4 → 1200 - l7.toInt ≤ R15 → jJ jSgX Dy h → jSm fp_X0_workOut_r98 h0 h → jX m_X0_workOut 4 0 0 206 [(0, .ref 98), (3, .int l3), (4, .ref l4), (5, .int l5), (6, .int l6), (7, .int l7), (9, .int l9)] [.int 1, .long s1] h 0 0 Q := by
  intro l3 l4 nl4 l5 l6 l7 l9 s1 h y0 y1 y2 y3 Tl4  m15 J Sm
  have el9 := jfull l9
  have es1 := jfullL s1
  refine z_i2l rfl jk_1 (fun v1 ev1 => ?_)
  refine z_lcmp rfl rfl rfl (fun v2 ev2 => ?_)
  refine x_ifne (tgt := 215) rfl rfl (ti_ne rfl jk_0 ⟨fun c3 => ?_, fun c3 => ?_⟩)
  ·
    refine x_iconst (v := 0) rfl ki_0 ?_
    exact jX.sub (jsb_c rfl (jsb_c rfl (jsb_c rfl (jsb_c rfl (jsb_c rfl (jsb_c rfl (jsb_c rfl jsb_n))))))) (ct_X0_workOut_r98_200216 hD hQ k15 l3 l4 nl4 l5 l6 l7 l9 h (jr_of rfl (by omega)) (jr_of rfl (by omega)) (jr_of rfl (by omega)) (jr_of rfl (by omega)) Tl4 (by omega) J Sm)
  ·
    refine x_iconst (v := 1) rfl ki_1 ?_
    refine x_goto (tgt := 216) rfl rfl ?_
    exact jX.sub (jsb_c rfl (jsb_c rfl (jsb_c rfl (jsb_c rfl (jsb_c rfl (jsb_c rfl (jsb_c rfl jsb_n))))))) (ct_X0_workOut_r98_300216 hD hQ k15 l3 l4 nl4 l5 l6 l7 l9 h (jr_of rfl (by omega)) (jr_of rfl (by omega)) (jr_of rfl (by omega)) (jr_of rfl (by omega)) Tl4 (by omega) J Sm)
set_option maxRecDepth 100000 in
set_option maxHeartbeats 4000000 in
theorem ct_X0_workOut_r98_192 {Dy : jH → Prop} {h0 : jH} {Q : Option Value → jH → Prop} {R15 : Int} (hD : jDk Dy) (hQ : ∀ (v : Int64) hx9, jJ jSgX Dy hx9 → jSm fp_X0_workOut_r98 h0 hx9 → Q (some (.long v)) hx9) (k15 : ∀ (l3 : Int32) (l4 : Nat) (nl4 : Nat) (l5 : Int32) (l6 : Int32) (l7 : Int32) (h : jH), 1200 - l7.toInt < R15 → (-1) ≤ l3.toInt ∧ l3.toInt ≤ 599 → 0 ≤ l6.toInt ∧ l6.toInt ≤ 100 → 0 ≤ l7.toInt ∧ l7.toInt ≤ 1200 → jTa h l4 nl4 → jJ jSgX Dy h → jSm fp_X0_workOut_r98 h0 h → jX m_X0_workOut 4 0 0 15 [(0, .ref 98), (3, .int l3), (4, .ref l4), (5, .int l5), (6, .int l6), (7, .int l7)] [] h 0 0 Q) : ∀ (l3 : Int32) (l4 : Nat) (nl4 : Nat) (l5 : Int32) (l6 : Int32) (l7 : Int32) (l8 : Int32) (l9 : Int32) (l10 : Int64) (h : jH), (-1) ≤ l3.toInt ∧ l3.toInt ≤ 599 → 0 ≤ l5.toInt ∧ l5.toInt ≤ 1199 → 1 ≤ l6.toInt ∧ l6.toInt ≤ 99 → 0 ≤ l7.toInt ∧ l7.toInt ≤ 1199 → 11 ≤ l8.toInt ∧ l8.toInt ≤ 12 → l8.toInt ≠ 0 → jTa h l4 nl4 → 1200 - l7.toInt ≤ R15 → jJ jSgX Dy h → jSm fp_X0_workOut_r98 h0 h → jX m_X0_workOut 4 0 0 192 [(0, .ref 98), (3, .int l3), (4, .ref l4), (5, .int l5), (6, .int l6), (7, .int l7), (8, .int l8), (9, .int l9), (10, .long l10)] [] h 0 0 Q := by
  intro l3 l4 nl4 l5 l6 l7 l8 l9 l10 h y0 y1 y2 y3 y4 y5 Tl4  m15 J Sm
  have el9 := jfull l9
  have el10 := jfullL l10
  refine x_lload (x := l10) rfl rfl ?_
  refine x_iload (x := l8) rfl rfl ?_
  refine x_bipush (v := 11) rfl kb_11 ?_
  refine x_icne (tgt := 205) rfl rfl (ti_ne rfl jk_11 ⟨fun c1 => ?_, fun c1 => ?_⟩)
  ·
    refine x_iconst (v := 0) rfl ki_0 ?_
    exact jX.sub (jsb_c rfl (jsb_c rfl (jsb_c rfl (jsb_c rfl (jsb_c rfl (jsb_c rfl (jsb_c rfl jsb_n))))))) (ct_X0_workOut_r98_200206 hD hQ k15 l3 l4 nl4 l5 l6 l7 l9 l10 h (jr_of rfl (by omega)) (jr_of rfl (by omega)) (jr_of rfl (by omega)) (jr_of rfl (by omega)) Tl4 (by omega) J Sm)
  ·
    refine x_iconst (v := 1) rfl ki_1 ?_
    refine x_goto (tgt := 206) rfl rfl ?_
    exact jX.sub (jsb_c rfl (jsb_c rfl (jsb_c rfl (jsb_c rfl (jsb_c rfl (jsb_c rfl (jsb_c rfl jsb_n))))))) (ct_X0_workOut_r98_300206 hD hQ k15 l3 l4 nl4 l5 l6 l7 l9 l10 h (jr_of rfl (by omega)) (jr_of rfl (by omega)) (jr_of rfl (by omega)) (jr_of rfl (by omega)) Tl4 (by omega) J Sm)
set_option maxRecDepth 100000 in
set_option maxHeartbeats 4000000 in
theorem ct_X0_workOut_r98_5000281 {Dy : jH → Prop} {h0 : jH} {Q : Option Value → jH → Prop} {R15 : Int} (hD : jDk Dy) (hQ : ∀ (v : Int64) hx9, jJ jSgX Dy hx9 → jSm fp_X0_workOut_r98 h0 hx9 → Q (some (.long v)) hx9) (k15 : ∀ (l3 : Int32) (l4 : Nat) (nl4 : Nat) (l5 : Int32) (l6 : Int32) (l7 : Int32) (h : jH), 1200 - l7.toInt < R15 → (-1) ≤ l3.toInt ∧ l3.toInt ≤ 599 → 0 ≤ l6.toInt ∧ l6.toInt ≤ 100 → 0 ≤ l7.toInt ∧ l7.toInt ≤ 1200 → jTa h l4 nl4 → jJ jSgX Dy h → jSm fp_X0_workOut_r98 h0 h → jX m_X0_workOut 4 0 0 15 [(0, .ref 98), (3, .int l3), (4, .ref l4), (5, .int l5), (6, .int l6), (7, .int l7)] [] h 0 0 Q) : ∀ (l3 : Int32) (l4 : Nat) (nl4 : Nat) (l5 : Int32) (l6 : Int32) (l7 : Int32) (h : jH), (-1) ≤ l3.toInt ∧ l3.toInt ≤ 599 → 0 ≤ l5.toInt ∧ l5.toInt ≤ 1199 → 1 ≤ l6.toInt ∧ l6.toInt ≤ 1 → 0 ≤ l7.toInt ∧ l7.toInt ≤ 1199 → jTa h l4 nl4 → 1200 - l7.toInt ≤ R15 → jJ jSgX Dy h → jSm fp_X0_workOut_r98 h0 h → jX m_X0_workOut 4 0 0 281 [(0, .ref 98), (3, .int l3), (4, .ref l4), (5, .int l5), (6, .int l6), (7, .int l7)] [.long (-2000000000000)] h 0 0 Q := by
  intro l3 l4 nl4 l5 l6 l7 h y0 y1 y2 y3 Tl4  m15 J Sm
  refine x_lstore (lsx9 := [(12, .long (-2000000000000)), (0, .ref 98), (3, .int l3), (4, .ref l4), (5, .int l5), (6, .int l6), (7, .int l7)]) rfl rfl rfl ?_
  refine x_lload (x := (-2000000000000)) rfl rfl ?_
  refine x_ldc2 (v := (-2000000000000)) rfl z_0_193 ?_
  refine z_lcmp rfl jkl_m2000000000000 jkl_m2000000000000 (fun v1 ev1 => ?_)
  refine x_ifne (tgt := 296) rfl rfl (ti_ne rfl jk_0 (bn_f (by omega) ?_))
  refine x_ldc2 (v := (-2000000000000)) rfl z_0_193 ?_
  refine x_lret rfl rfl ?_
  exact hQ _ _ J Sm
set_option maxRecDepth 100000 in
set_option maxHeartbeats 4000000 in
theorem ct_X0_workOut_r98_281 {Dy : jH → Prop} {h0 : jH} {Q : Option Value → jH → Prop} {R15 : Int} (hD : jDk Dy) (hQ : ∀ (v : Int64) hx9, jJ jSgX Dy hx9 → jSm fp_X0_workOut_r98 h0 hx9 → Q (some (.long v)) hx9) (k15 : ∀ (l3 : Int32) (l4 : Nat) (nl4 : Nat) (l5 : Int32) (l6 : Int32) (l7 : Int32) (h : jH), 1200 - l7.toInt < R15 → (-1) ≤ l3.toInt ∧ l3.toInt ≤ 599 → 0 ≤ l6.toInt ∧ l6.toInt ≤ 100 → 0 ≤ l7.toInt ∧ l7.toInt ≤ 1200 → jTa h l4 nl4 → jJ jSgX Dy h → jSm fp_X0_workOut_r98 h0 h → jX m_X0_workOut 4 0 0 15 [(0, .ref 98), (3, .int l3), (4, .ref l4), (5, .int l5), (6, .int l6), (7, .int l7)] [] h 0 0 Q) : ∀ (l3 : Int32) (l4 : Nat) (nl4 : Nat) (l5 : Int32) (l6 : Int32) (l7 : Int32) (s0 : Int64) (h : jH), (-1) ≤ l3.toInt ∧ l3.toInt ≤ 599 → 0 ≤ l5.toInt ∧ l5.toInt ≤ 1199 → 2 ≤ l6.toInt ∧ l6.toInt ≤ 99 → 0 ≤ l7.toInt ∧ l7.toInt ≤ 1199 → jTa h l4 nl4 → 1200 - l7.toInt ≤ R15 → jJ jSgX Dy h → jSm fp_X0_workOut_r98 h0 h → jX m_X0_workOut 4 0 0 281 [(0, .ref 98), (3, .int l3), (4, .ref l4), (5, .int l5), (6, .int l6), (7, .int l7)] [.long s0] h 0 0 Q := by
  intro l3 l4 nl4 l5 l6 l7 s0 h y0 y1 y2 y3 Tl4  m15 J Sm
  have es0 := jfullL s0
  refine x_lstore (lsx9 := [(12, .long s0), (0, .ref 98), (3, .int l3), (4, .ref l4), (5, .int l5), (6, .int l6), (7, .int l7)]) rfl rfl rfl ?_
  refine x_lload (x := s0) rfl rfl ?_
  refine x_ldc2 (v := (-2000000000000)) rfl z_0_193 ?_
  refine z_lcmp rfl rfl jkl_m2000000000000 (fun v1 ev1 => ?_)
  refine x_ifne (tgt := 296) rfl rfl (ti_ne rfl jk_0 ⟨fun c2 => ?_, fun c2 => ?_⟩)
  ·
    refine z_iinc (x := l6) (lsx9 := fun v3 => [(6, .int v3), (12, .long s0), (0, .ref 98), (3, .int l3), (4, .ref l4), (5, .int l5), (7, .int l7)]) rfl rfl rfl jko_m1 (by omega) rfl (fun _ => rfl) (fun v3 ev3 => ?_)
    refine x_aloadn (x := 98) rfl rfl ?_
    refine z_getR (N := 16) (b := 106) 0 9 rfl f_0_33 rfl J rfl 12553 ⟨rfl, rfl⟩ rfl ?_
    refine x_iload (x := v3) rfl rfl ?_
    refine x_iconst (v := 1) rfl ki_1 ?_
    refine z_isub rfl rfl jk_1 (by omega) (fun v4 ev4 => ?_)
    refine x_lload (x := s0) rfl rfl ?_
    refine z_last (N := 100) (l := 0) (u := 100) rfl hD J Sm rfl rfl rfl (by omega) rfl (fun h w5 J Sm => ?_)
    have Tl4 := jTa_l w5 Tl4
    refine z_iinc (x := l5) (lsx9 := fun v6 => [(5, .int v6), (6, .int v3), (12, .long s0), (0, .ref 98), (3, .int l3), (4, .ref l4), (7, .int l7)]) rfl rfl rfl jko_1 (by omega) rfl (fun _ => rfl) (fun v6 ev6 => ?_)
    exact jX.sub (jsb_c rfl (jsb_c rfl (jsb_c rfl (jsb_c rfl (jsb_c rfl (jsb_c rfl jsb_n)))))) (ct_X0_workOut_r98_313 hD hQ k15 l3 l4 nl4 v6 v3 l7 h (jr_of rfl (by omega)) (jr_of rfl (by omega)) (jr_of rfl (by omega)) Tl4 (by omega) J Sm)
  ·
    refine x_ldc2 (v := (-2000000000000)) rfl z_0_193 ?_
    refine x_lret rfl rfl ?_
    exact hQ _ _ J Sm
set_option maxRecDepth 100000 in
set_option maxHeartbeats 4000000 in
theorem ct_X0_workOut_r98_200074 {Dy : jH → Prop} {h0 : jH} {Q : Option Value → jH → Prop} {R15 : Int} (hD : jDk Dy) (hQ : ∀ (v : Int64) hx9, jJ jSgX Dy hx9 → jSm fp_X0_workOut_r98 h0 hx9 → Q (some (.long v)) hx9) (k15 : ∀ (l3 : Int32) (l4 : Nat) (nl4 : Nat) (l5 : Int32) (l6 : Int32) (l7 : Int32) (h : jH), 1200 - l7.toInt < R15 → (-1) ≤ l3.toInt ∧ l3.toInt ≤ 599 → 0 ≤ l6.toInt ∧ l6.toInt ≤ 100 → 0 ≤ l7.toInt ∧ l7.toInt ≤ 1200 → jTa h l4 nl4 → jJ jSgX Dy h → jSm fp_X0_workOut_r98 h0 h → jX m_X0_workOut 4 0 0 15 [(0, .ref 98), (3, .int l3), (4, .ref l4), (5, .int l5), (6, .int l6), (7, .int l7)] [] h 0 0 Q) : ∀ (l3 : Int32) (l4 : Nat) (nl4 : Nat) (l5 : Int32) (l6 : Int32) (l7 : Int32) (l8 : Int32) (h : jH), (-1) ≤ l3.toInt ∧ l3.toInt ≤ 599 → 0 ≤ l5.toInt ∧ l5.toInt ≤ 1199 → 0 ≤ l6.toInt ∧ l6.toInt ≤ 99 → 0 ≤ l7.toInt ∧ l7.toInt ≤ 1199 → jTa h l4 nl4 → 1200 - l7.toInt ≤ R15 → jJ jSgX Dy h → jSm fp_X0_workOut_r98 h0 h → jX m_X0_workOut 4 0 0 74 [(0, .ref 98), (3, .int l3), (4, .ref l4), (5, .int l5), (6, .int l6), (7, .int l7), (8, .int l8)] [.int 0] h 0 0 Q := by
  intro l3 l4 nl4 l5 l6 l7 l8 h y0 y1 y2 y3 Tl4  m15 J Sm
  have el8 := jfull l8
  refine x_istore (lsx9 := [(9, .int 0), (0, .ref 98), (3, .int l3), (4, .ref l4), (5, .int l5), (6, .int l6), (7, .int l7), (8, .int l8)]) rfl rfl rfl ?_
  refine x_iload (x := l8) rfl rfl ?_
  refine x_iconst (v := 1) rfl ki_1 ?_
  refine x_iceq (tgt := 88) rfl rfl (ti_eq rfl jk_1 ⟨fun c1 => ?_, fun c1 => ?_⟩)
  ·
    exact jX.sub (jsb_c rfl (jsb_c rfl (jsb_c rfl (jsb_c rfl (jsb_c rfl (jsb_c rfl (jsb_c rfl (jsb_c rfl jsb_n)))))))) (ct_X0_workOut_r98_88 hD hQ k15 l3 l4 nl4 l5 l6 l7 l8 0 h (jr_of rfl (by omega)) (jr_of rfl (by omega)) (jr_of rfl (by omega)) (jr_of rfl (by omega)) (jr_of rfl (by omega)) Tl4 (by omega) J Sm)
  ·
    refine x_iload (x := l8) rfl rfl ?_
    refine x_iconst (v := 2) rfl ki_2 ?_
    refine x_icne (tgt := 123) rfl rfl (ti_ne rfl jk_2 ⟨fun c2 => ?_, fun c2 => ?_⟩)
    ·
      refine x_iload (x := l6) rfl rfl ?_
      refine x_iconst (v := 1) rfl ki_1 ?_
      refine x_icge (tgt := 133) rfl rfl (ti_ge rfl jk_1 ⟨fun c3 => ?_, fun c3 => ?_⟩)
      ·
        refine x_aloadn (x := 98) rfl rfl ?_
        refine z_getR (N := 16) (b := 106) 0 9 rfl f_0_33 rfl J rfl 12553 ⟨rfl, rfl⟩ rfl ?_
        refine x_iload (x := l6) rfl rfl ?_
        refine x_iconst (v := 1) rfl ki_1 ?_
        refine z_isub rfl rfl jk_1 (by omega) (fun v4 ev4 => ?_)
        refine z_lald0 (N := 100) rfl J rfl rfl (by omega) (fun v5 => ?_)
        have ev5 := jfullL v5
        refine x_lstore (lsx9 := [(10, .long v5), (9, .int 0), (0, .ref 98), (3, .int l3), (4, .ref l4), (5, .int l5), (6, .int l6), (7, .int l7), (8, .int l8)]) rfl rfl rfl ?_
        refine x_iload (x := l8) rfl rfl ?_
        refine x_ifne (tgt := 152) rfl rfl (ti_ne rfl jk_0 ⟨fun c6 => ?_, fun c6 => ?_⟩)
        ·
          refine x_iload (x := l8) rfl rfl ?_
          refine x_bipush (v := 10) rfl kb_10 ?_
          refine x_icne (tgt := 178) rfl rfl (ti_ne rfl jk_10 ⟨fun c7 => ?_, fun c7 => ?_⟩)
          ·
            refine x_iload (x := l8) rfl rfl ?_
            refine x_bipush (v := 11) rfl kb_11 ?_
            refine x_iceq (tgt := 192) rfl rfl (ti_eq rfl jk_11 ⟨fun c8 => ?_, fun c8 => ?_⟩)
            ·
              exact jX.sub (jsb_c rfl (jsb_c rfl (jsb_c rfl (jsb_c rfl (jsb_c rfl (jsb_c rfl (jsb_c rfl (jsb_c rfl (jsb_c rfl jsb_n))))))))) (ct_X0_workOut_r98_192 hD hQ k15 l3 l4 nl4 l5 l6 l7 l8 0 v5 h (jr_of rfl (by omega)) (jr_of rfl (by omega)) (jr_of rfl (by omega)) (jr_of rfl (by omega)) (jr_of rfl (by omega)) (by omega) Tl4 (by omega) J Sm)
            ·
              refine x_iload (x := l8) rfl rfl ?_
              refine x_bipush (v := 12) rfl kb_12 ?_
              refine x_icne (tgt := 253) rfl rfl (ti_ne rfl jk_12 ⟨fun c9 => ?_, fun c9 => ?_⟩)
              ·
                refine x_iload (x := l6) rfl rfl ?_
                refine x_iconst (v := 2) rfl ki_2 ?_
                refine x_icge (tgt := 265) rfl rfl (ti_ge rfl jk_2 ⟨fun c10 => ?_, fun c10 => ?_⟩)
                ·
                  refine x_iload (x := l8) rfl rfl ?_
                  refine x_aloadn (x := 98) rfl rfl ?_
                  refine z_getR (N := 16) (b := 106) 0 9 rfl f_0_33 rfl J rfl 12553 ⟨rfl, rfl⟩ rfl ?_
                  refine x_iload (x := l6) rfl rfl ?_
                  refine x_iconst (v := 2) rfl ki_2 ?_
                  refine z_isub rfl rfl jk_2 (by omega) (fun v11 ev11 => ?_)
                  refine z_lald0 (N := 100) rfl J rfl rfl (by omega) (fun v12 => ?_)
                  have ev12 := jfullL v12
                  refine x_lload (x := v5) rfl rfl ?_
                  refine x_inst (N := m_X0_combine) (As := [.int l8, .long v12, .long v5]) (st := []) (dx9 := 2) (mc := 0) (ms := 0) (host := "") rfl t_X0_combine ⟨Or.inl q_0_202, s_X0_combine⟩ rfl (by decide) rfl rfl ⟨by decide, by decide⟩ (sf_X0_combine  hD J  (fun v14 h J S13 => ?_))
                  have ev14 := jfullL v14
                  have Sm := jSm_tr rfl Sm S13
                  have Tl4 := jTa_m S13 Tl4
                  show jX m_X0_workOut 4 0 0 281 [(10, .long v5), (9, .int 0), (0, .ref 98), (3, .int l3), (4, .ref l4), (5, .int l5), (6, .int l6), (7, .int l7), (8, .int l8)] [.long v14] _ 0 0 _
                  exact jX.sub (jsb_c rfl (jsb_c rfl (jsb_c rfl (jsb_c rfl (jsb_c rfl (jsb_c rfl jsb_n)))))) (ct_X0_workOut_r98_281 hD hQ k15 l3 l4 nl4 l5 l6 l7 v14 h (jr_of rfl (by omega)) (jr_of rfl (by omega)) (jr_of rfl (by omega)) (jr_of rfl (by omega)) Tl4 (by omega) J Sm)
                ·
                  refine x_ldc2 (v := (-2000000000000)) rfl z_0_193 ?_
                  refine x_goto (tgt := 281) rfl rfl ?_
                  exact jX.sub (jsb_c rfl (jsb_c rfl (jsb_c rfl (jsb_c rfl (jsb_c rfl (jsb_c rfl jsb_n)))))) (ct_X0_workOut_r98_5000281 hD hQ k15 l3 l4 nl4 l5 l6 l7 h (jr_of rfl (by omega)) (jr_of rfl (by omega)) (jr_of rfl (by omega)) (jr_of rfl (by omega)) Tl4 (by omega) J Sm)
              ·
                exact jX.sub (jsb_c rfl (jsb_c rfl (jsb_c rfl (jsb_c rfl (jsb_c rfl (jsb_c rfl (jsb_c rfl (jsb_c rfl (jsb_c rfl jsb_n))))))))) (ct_X0_workOut_r98_192 hD hQ k15 l3 l4 nl4 l5 l6 l7 l8 0 v5 h (jr_of rfl (by omega)) (jr_of rfl (by omega)) (jr_of rfl (by omega)) (jr_of rfl (by omega)) (jr_of rfl (by omega)) (by omega) Tl4 (by omega) J Sm)
          ·
            refine x_aloadn (x := 98) rfl rfl ?_
            refine z_getR (N := 16) (b := 106) 0 9 rfl f_0_33 rfl J rfl 12553 ⟨rfl, rfl⟩ rfl ?_
            refine x_iload (x := l6) rfl rfl ?_
            refine x_iconst (v := 1) rfl ki_1 ?_
            refine z_isub rfl rfl jk_1 (by omega) (fun v15 ev15 => ?_)
            refine x_lconst (v := 1) rfl kl_1 ?_
            refine x_lload (x := v5) rfl rfl ?_
            refine z_lsub0 rfl (fun v16 => ?_)
            have ev16 := jfullL v16
            refine z_last (N := 100) (l := 0) (u := 100) rfl hD J Sm rfl rfl rfl (by omega) rfl (fun h w17 J Sm => ?_)
            have Tl4 := jTa_l w17 Tl4
            refine z_iinc (x := l5) (lsx9 := fun v18 => [(5, .int v18), (10, .long v5), (9, .int 0), (0, .ref 98), (3, .int l3), (4, .ref l4), (6, .int l6), (7, .int l7), (8, .int l8)]) rfl rfl rfl jko_1 (by omega) rfl (fun _ => rfl) (fun v18 ev18 => ?_)
            refine x_goto (tgt := 313) rfl rfl ?_
            exact jX.sub (jsb_c rfl (jsb_c rfl (jsb_c rfl (jsb_c rfl (jsb_c rfl (jsb_c rfl jsb_n)))))) (ct_X0_workOut_r98_313 hD hQ k15 l3 l4 nl4 v18 l6 l7 h (jr_of rfl (by omega)) (jr_of rfl (by omega)) (jr_of rfl (by omega)) Tl4 (by omega) J Sm)
        ·
          refine x_lload (x := v5) rfl rfl ?_
          refine x_lret rfl rfl ?_
          exact hQ _ _ J Sm
      ·
        refine x_ldc2 (v := (-2000000000000)) rfl z_0_193 ?_
        refine x_lret rfl rfl ?_
        exact hQ _ _ J Sm
    ·
      exact jX.sub (jsb_c rfl (jsb_c rfl (jsb_c rfl (jsb_c rfl (jsb_c rfl (jsb_c rfl (jsb_c rfl (jsb_c rfl jsb_n)))))))) (ct_X0_workOut_r98_88 hD hQ k15 l3 l4 nl4 l5 l6 l7 l8 0 h (jr_of rfl (by omega)) (jr_of rfl (by omega)) (jr_of rfl (by omega)) (jr_of rfl (by omega)) (jr_of rfl (by omega)) Tl4 (by omega) J Sm)
set_option maxRecDepth 100000 in
set_option maxHeartbeats 4000000 in
theorem ct_X0_workOut_r98_74 {Dy : jH → Prop} {h0 : jH} {Q : Option Value → jH → Prop} {R15 : Int} (hD : jDk Dy) (hQ : ∀ (v : Int64) hx9, jJ jSgX Dy hx9 → jSm fp_X0_workOut_r98 h0 hx9 → Q (some (.long v)) hx9) (k15 : ∀ (l3 : Int32) (l4 : Nat) (nl4 : Nat) (l5 : Int32) (l6 : Int32) (l7 : Int32) (h : jH), 1200 - l7.toInt < R15 → (-1) ≤ l3.toInt ∧ l3.toInt ≤ 599 → 0 ≤ l6.toInt ∧ l6.toInt ≤ 100 → 0 ≤ l7.toInt ∧ l7.toInt ≤ 1200 → jTa h l4 nl4 → jJ jSgX Dy h → jSm fp_X0_workOut_r98 h0 h → jX m_X0_workOut 4 0 0 15 [(0, .ref 98), (3, .int l3), (4, .ref l4), (5, .int l5), (6, .int l6), (7, .int l7)] [] h 0 0 Q) : ∀ (l3 : Int32) (l4 : Nat) (nl4 : Nat) (l5 : Int32) (l6 : Int32) (l7 : Int32) (l8 : Int32) (s0 : Int32) (h : jH), (-1) ≤ l3.toInt ∧ l3.toInt ≤ 599 → 0 ≤ l5.toInt ∧ l5.toInt ≤ 1198 → 0 ≤ l6.toInt ∧ l6.toInt ≤ 99 → 0 ≤ l7.toInt ∧ l7.toInt ≤ 1199 → jTa h l4 nl4 → 1200 - l7.toInt ≤ R15 → jJ jSgX Dy h → jSm fp_X0_workOut_r98 h0 h → jX m_X0_workOut 4 0 0 74 [(0, .ref 98), (3, .int l3), (4, .ref l4), (5, .int l5), (6, .int l6), (7, .int l7), (8, .int l8)] [.int s0] h 0 0 Q := by
  intro l3 l4 nl4 l5 l6 l7 l8 s0 h y0 y1 y2 y3 Tl4  m15 J Sm
  have el8 := jfull l8
  have es0 := jfull s0
  refine x_istore (lsx9 := [(9, .int s0), (0, .ref 98), (3, .int l3), (4, .ref l4), (5, .int l5), (6, .int l6), (7, .int l7), (8, .int l8)]) rfl rfl rfl ?_
  refine x_iload (x := l8) rfl rfl ?_
  refine x_iconst (v := 1) rfl ki_1 ?_
  refine x_iceq (tgt := 88) rfl rfl (ti_eq rfl jk_1 ⟨fun c1 => ?_, fun c1 => ?_⟩)
  ·
    exact jX.sub (jsb_c rfl (jsb_c rfl (jsb_c rfl (jsb_c rfl (jsb_c rfl (jsb_c rfl (jsb_c rfl (jsb_c rfl jsb_n)))))))) (ct_X0_workOut_r98_88 hD hQ k15 l3 l4 nl4 l5 l6 l7 l8 s0 h (jr_of rfl (by omega)) (jr_of rfl (by omega)) (jr_of rfl (by omega)) (jr_of rfl (by omega)) (jr_of rfl (by omega)) Tl4 (by omega) J Sm)
  ·
    refine x_iload (x := l8) rfl rfl ?_
    refine x_iconst (v := 2) rfl ki_2 ?_
    refine x_icne (tgt := 123) rfl rfl (ti_ne rfl jk_2 ⟨fun c2 => ?_, fun c2 => ?_⟩)
    ·
      refine x_iload (x := l6) rfl rfl ?_
      refine x_iconst (v := 1) rfl ki_1 ?_
      refine x_icge (tgt := 133) rfl rfl (ti_ge rfl jk_1 ⟨fun c3 => ?_, fun c3 => ?_⟩)
      ·
        refine x_aloadn (x := 98) rfl rfl ?_
        refine z_getR (N := 16) (b := 106) 0 9 rfl f_0_33 rfl J rfl 12553 ⟨rfl, rfl⟩ rfl ?_
        refine x_iload (x := l6) rfl rfl ?_
        refine x_iconst (v := 1) rfl ki_1 ?_
        refine z_isub rfl rfl jk_1 (by omega) (fun v4 ev4 => ?_)
        refine z_lald0 (N := 100) rfl J rfl rfl (by omega) (fun v5 => ?_)
        have ev5 := jfullL v5
        refine x_lstore (lsx9 := [(10, .long v5), (9, .int s0), (0, .ref 98), (3, .int l3), (4, .ref l4), (5, .int l5), (6, .int l6), (7, .int l7), (8, .int l8)]) rfl rfl rfl ?_
        refine x_iload (x := l8) rfl rfl ?_
        refine x_ifne (tgt := 152) rfl rfl (ti_ne rfl jk_0 ⟨fun c6 => ?_, fun c6 => ?_⟩)
        ·
          refine x_iload (x := l8) rfl rfl ?_
          refine x_bipush (v := 10) rfl kb_10 ?_
          refine x_icne (tgt := 178) rfl rfl (ti_ne rfl jk_10 ⟨fun c7 => ?_, fun c7 => ?_⟩)
          ·
            refine x_iload (x := l8) rfl rfl ?_
            refine x_bipush (v := 11) rfl kb_11 ?_
            refine x_iceq (tgt := 192) rfl rfl (ti_eq rfl jk_11 ⟨fun c8 => ?_, fun c8 => ?_⟩)
            ·
              exact jX.sub (jsb_c rfl (jsb_c rfl (jsb_c rfl (jsb_c rfl (jsb_c rfl (jsb_c rfl (jsb_c rfl (jsb_c rfl (jsb_c rfl jsb_n))))))))) (ct_X0_workOut_r98_192 hD hQ k15 l3 l4 nl4 l5 l6 l7 l8 s0 v5 h (jr_of rfl (by omega)) (jr_of rfl (by omega)) (jr_of rfl (by omega)) (jr_of rfl (by omega)) (jr_of rfl (by omega)) (by omega) Tl4 (by omega) J Sm)
            ·
              refine x_iload (x := l8) rfl rfl ?_
              refine x_bipush (v := 12) rfl kb_12 ?_
              refine x_icne (tgt := 253) rfl rfl (ti_ne rfl jk_12 ⟨fun c9 => ?_, fun c9 => ?_⟩)
              ·
                refine x_iload (x := l6) rfl rfl ?_
                refine x_iconst (v := 2) rfl ki_2 ?_
                refine x_icge (tgt := 265) rfl rfl (ti_ge rfl jk_2 ⟨fun c10 => ?_, fun c10 => ?_⟩)
                ·
                  refine x_iload (x := l8) rfl rfl ?_
                  refine x_aloadn (x := 98) rfl rfl ?_
                  refine z_getR (N := 16) (b := 106) 0 9 rfl f_0_33 rfl J rfl 12553 ⟨rfl, rfl⟩ rfl ?_
                  refine x_iload (x := l6) rfl rfl ?_
                  refine x_iconst (v := 2) rfl ki_2 ?_
                  refine z_isub rfl rfl jk_2 (by omega) (fun v11 ev11 => ?_)
                  refine z_lald0 (N := 100) rfl J rfl rfl (by omega) (fun v12 => ?_)
                  have ev12 := jfullL v12
                  refine x_lload (x := v5) rfl rfl ?_
                  refine x_inst (N := m_X0_combine) (As := [.int l8, .long v12, .long v5]) (st := []) (dx9 := 2) (mc := 0) (ms := 0) (host := "") rfl t_X0_combine ⟨Or.inl q_0_202, s_X0_combine⟩ rfl (by decide) rfl rfl ⟨by decide, by decide⟩ (sf_X0_combine  hD J  (fun v14 h J S13 => ?_))
                  have ev14 := jfullL v14
                  have Sm := jSm_tr rfl Sm S13
                  have Tl4 := jTa_m S13 Tl4
                  show jX m_X0_workOut 4 0 0 281 [(10, .long v5), (9, .int s0), (0, .ref 98), (3, .int l3), (4, .ref l4), (5, .int l5), (6, .int l6), (7, .int l7), (8, .int l8)] [.long v14] _ 0 0 _
                  exact jX.sub (jsb_c rfl (jsb_c rfl (jsb_c rfl (jsb_c rfl (jsb_c rfl (jsb_c rfl jsb_n)))))) (ct_X0_workOut_r98_281 hD hQ k15 l3 l4 nl4 l5 l6 l7 v14 h (jr_of rfl (by omega)) (jr_of rfl (by omega)) (jr_of rfl (by omega)) (jr_of rfl (by omega)) Tl4 (by omega) J Sm)
                ·
                  refine x_ldc2 (v := (-2000000000000)) rfl z_0_193 ?_
                  refine x_goto (tgt := 281) rfl rfl ?_
                  exact jX.sub (jsb_c rfl (jsb_c rfl (jsb_c rfl (jsb_c rfl (jsb_c rfl (jsb_c rfl jsb_n)))))) (ct_X0_workOut_r98_5000281 hD hQ k15 l3 l4 nl4 l5 l6 l7 h (jr_of rfl (by omega)) (jr_of rfl (by omega)) (jr_of rfl (by omega)) (jr_of rfl (by omega)) Tl4 (by omega) J Sm)
              ·
                exact jX.sub (jsb_c rfl (jsb_c rfl (jsb_c rfl (jsb_c rfl (jsb_c rfl (jsb_c rfl (jsb_c rfl (jsb_c rfl (jsb_c rfl jsb_n))))))))) (ct_X0_workOut_r98_192 hD hQ k15 l3 l4 nl4 l5 l6 l7 l8 s0 v5 h (jr_of rfl (by omega)) (jr_of rfl (by omega)) (jr_of rfl (by omega)) (jr_of rfl (by omega)) (jr_of rfl (by omega)) (by omega) Tl4 (by omega) J Sm)
          ·
            refine x_aloadn (x := 98) rfl rfl ?_
            refine z_getR (N := 16) (b := 106) 0 9 rfl f_0_33 rfl J rfl 12553 ⟨rfl, rfl⟩ rfl ?_
            refine x_iload (x := l6) rfl rfl ?_
            refine x_iconst (v := 1) rfl ki_1 ?_
            refine z_isub rfl rfl jk_1 (by omega) (fun v15 ev15 => ?_)
            refine x_lconst (v := 1) rfl kl_1 ?_
            refine x_lload (x := v5) rfl rfl ?_
            refine z_lsub0 rfl (fun v16 => ?_)
            have ev16 := jfullL v16
            refine z_last (N := 100) (l := 0) (u := 100) rfl hD J Sm rfl rfl rfl (by omega) rfl (fun h w17 J Sm => ?_)
            have Tl4 := jTa_l w17 Tl4
            refine z_iinc (x := l5) (lsx9 := fun v18 => [(5, .int v18), (10, .long v5), (9, .int s0), (0, .ref 98), (3, .int l3), (4, .ref l4), (6, .int l6), (7, .int l7), (8, .int l8)]) rfl rfl rfl jko_1 (by omega) rfl (fun _ => rfl) (fun v18 ev18 => ?_)
            refine x_goto (tgt := 313) rfl rfl ?_
            exact jX.sub (jsb_c rfl (jsb_c rfl (jsb_c rfl (jsb_c rfl (jsb_c rfl (jsb_c rfl jsb_n)))))) (ct_X0_workOut_r98_313 hD hQ k15 l3 l4 nl4 v18 l6 l7 h (jr_of rfl (by omega)) (jr_of rfl (by omega)) (jr_of rfl (by omega)) Tl4 (by omega) J Sm)
        ·
          refine x_lload (x := v5) rfl rfl ?_
          refine x_lret rfl rfl ?_
          exact hQ _ _ J Sm
      ·
        refine x_ldc2 (v := (-2000000000000)) rfl z_0_193 ?_
        refine x_lret rfl rfl ?_
        exact hQ _ _ J Sm
    ·
      exact jX.sub (jsb_c rfl (jsb_c rfl (jsb_c rfl (jsb_c rfl (jsb_c rfl (jsb_c rfl (jsb_c rfl (jsb_c rfl jsb_n)))))))) (ct_X0_workOut_r98_88 hD hQ k15 l3 l4 nl4 l5 l6 l7 l8 s0 h (jr_of rfl (by omega)) (jr_of rfl (by omega)) (jr_of rfl (by omega)) (jr_of rfl (by omega)) (jr_of rfl (by omega)) Tl4 (by omega) J Sm)
set_option maxRecDepth 100000 in
set_option maxHeartbeats 4000000 in
theorem ct_X0_workOut_r98_15 {Dy : jH → Prop} {h0 : jH} {Q : Option Value → jH → Prop} (hD : jDk Dy) (hQ : ∀ (v : Int64) hx9, jJ jSgX Dy hx9 → jSm fp_X0_workOut_r98 h0 hx9 → Q (some (.long v)) hx9) : ∀ r : Nat, ∀ (l3 : Int32) (l4 : Nat) (nl4 : Nat) (l5 : Int32) (l6 : Int32) (l7 : Int32) (h : jH), 1200 - l7.toInt < (r : Int) → (-1) ≤ l3.toInt ∧ l3.toInt ≤ 599 → 0 ≤ l6.toInt ∧ l6.toInt ≤ 100 → 0 ≤ l7.toInt ∧ l7.toInt ≤ 1200 → jTa h l4 nl4 → jJ jSgX Dy h → jSm fp_X0_workOut_r98 h0 h → jX m_X0_workOut 4 0 0 15 [(0, .ref 98), (3, .int l3), (4, .ref l4), (5, .int l5), (6, .int l6), (7, .int l7)] [] h 0 0 Q := by
  intro r
  induction r with
  | zero =>
    intro l3 l4 nl4 l5 l6 l7 h hm y0 y1 y2 Tl4   J Sm
    exfalso
    have el5 := jfull l5
    omega
  | succ r ih =>
    intro l3 l4 nl4 l5 l6 l7 h hm y0 y1 y2 Tl4   J Sm
    have el5 := jfull l5
    refine x_iload (x := l7) rfl rfl ?_
    refine x_aload (x := l4) rfl rfl ?_
    refine z_alenT rfl Tl4 (fun v1 ev1 => ?_)
    refine x_icge (tgt := 319) rfl rfl (ti_ge rfl rfl ⟨fun c2 => ?_, fun c2 => ?_⟩)
    ·
      exact jX.sub jsb_n (ct_X0_workOut_r98_319 hD hQ  h J Sm)
    ·
      refine x_iload (x := l5) rfl rfl ?_
      refine x_iflt (tgt := 319) rfl rfl (ti_lt rfl jk_0 ⟨fun c3 => ?_, fun c3 => ?_⟩)
      ·
        exact jX.sub jsb_n (ct_X0_workOut_r98_319 hD hQ  h J Sm)
      ·
        refine x_iload (x := l5) rfl rfl ?_
        refine x_aload (x := l4) rfl rfl ?_
        refine z_alenT rfl Tl4 (fun v4 ev4 => ?_)
        refine x_icge (tgt := 319) rfl rfl (ti_ge rfl rfl ⟨fun c5 => ?_, fun c5 => ?_⟩)
        ·
          exact jX.sub jsb_n (ct_X0_workOut_r98_319 hD hQ  h J Sm)
        ·
          refine x_iload (x := l6) rfl rfl ?_
          refine x_aloadn (x := 98) rfl rfl ?_
          refine z_getR (N := 16) (b := 106) 0 9 rfl f_0_33 rfl J rfl 12553 ⟨rfl, rfl⟩ rfl ?_
          refine z_alen (N := 100) (v := 100) rfl J rfl rfl (by decide) ?_
          refine x_icge (tgt := 319) rfl rfl (ti_ge rfl jk_100 ⟨fun c6 => ?_, fun c6 => ?_⟩)
          ·
            exact jX.sub jsb_n (ct_X0_workOut_r98_319 hD hQ  h J Sm)
          ·
            refine x_aload (x := l4) rfl rfl ?_
            refine x_iload (x := l5) rfl rfl ?_
            refine z_ialdT rfl Tl4 rfl (by omega) (fun v7 => ?_)
            have ev7 := jfull v7
            refine x_istore (lsx9 := [(8, .int v7), (0, .ref 98), (3, .int l3), (4, .ref l4), (5, .int l5), (6, .int l6), (7, .int l7)]) rfl rfl rfl ?_
            refine x_iload (x := l5) rfl rfl ?_
            refine x_iconst (v := 1) rfl ki_1 ?_
            refine z_iadd rfl rfl jk_1 (by omega) (fun v8 ev8 => ?_)
            refine x_aload (x := l4) rfl rfl ?_
            refine z_alenT rfl Tl4 (fun v9 ev9 => ?_)
            refine x_icge (tgt := 73) rfl rfl (ti_ge rfl rfl ⟨fun c10 => ?_, fun c10 => ?_⟩)
            ·
              refine x_iconst (v := 0) rfl ki_0 ?_
              exact jX.sub (jsb_c rfl (jsb_c rfl (jsb_c rfl (jsb_c rfl (jsb_c rfl (jsb_c rfl (jsb_c rfl jsb_n))))))) (ct_X0_workOut_r98_200074 hD hQ ih l3 l4 nl4 l5 l6 l7 v7 h (jr_of rfl (by omega)) (jr_of rfl (by omega)) (jr_of rfl (by omega)) (jr_of rfl (by omega)) Tl4 (by omega) J Sm)
            ·
              refine x_aload (x := l4) rfl rfl ?_
              refine x_iload (x := l5) rfl rfl ?_
              refine x_iconst (v := 1) rfl ki_1 ?_
              refine z_iadd rfl rfl jk_1 (by omega) (fun v11 ev11 => ?_)
              refine z_ialdT rfl Tl4 rfl (by omega) (fun v12 => ?_)
              have ev12 := jfull v12
              refine x_goto (tgt := 74) rfl rfl ?_
              exact jX.sub (jsb_c rfl (jsb_c rfl (jsb_c rfl (jsb_c rfl (jsb_c rfl (jsb_c rfl (jsb_c rfl jsb_n))))))) (ct_X0_workOut_r98_74 hD hQ ih l3 l4 nl4 l5 l6 l7 v7 v12 h (jr_of rfl (by omega)) (jr_of rfl (by omega)) (jr_of rfl (by omega)) (jr_of rfl (by omega)) Tl4 (by omega) J Sm)
set_option maxRecDepth 100000 in
set_option maxHeartbeats 4000000 in
theorem sf_X0_workOut_r98 {Dy : jH → Prop} {h : jH} {Q : Option Value → jH → Prop} {a1 : Int32} {a2 : Int32} {t1 : Nat} (y2 : (-1) ≤ a2.toInt ∧ a2.toInt ≤ 599) (hD : jDk Dy) (J : jJ jSgX Dy h) (Tt1 : jTx h t1) (hQ : ∀ (v : Int64) hx9, jJ jSgX Dy hx9 → jSm fp_X0_workOut_r98 h hx9 → Q (some (.long v)) hx9) : jC m_X0_workOut 4 0 0 [.ref 98, .ref t1, .int a1, .int a2] h Q := by
  refine jC.of rfl k_X0_workOut rfl ?_
  have Sm := jSm_rf fp_X0_workOut_r98 h
  have ea1 := jfull a1
  show jX m_X0_workOut 4 0 0 0 [(0, .ref 98), (1, .ref t1), (2, .int a1), (3, .int a2)] [] _ 0 0 _
  refine x_aloadn (x := t1) rfl rfl ?_
  refine z_getTr rfl f_0_195 Tt1 (fun b1 nb2 Tb1 => ?_)
  refine x_astore (lsx9 := [(4, .ref b1), (0, .ref 98), (1, .ref t1), (2, .int a1), (3, .int a2)]) rfl rfl rfl ?_
  refine x_iloadn (x := a1) rfl rfl ?_
  refine x_istore (lsx9 := [(5, .int a1), (4, .ref b1), (0, .ref 98), (1, .ref t1), (2, .int a1), (3, .int a2)]) rfl rfl rfl ?_
  refine x_iconst (v := 0) rfl ki_0 ?_
  refine x_istore (lsx9 := [(6, .int 0), (5, .int a1), (4, .ref b1), (0, .ref 98), (1, .ref t1), (2, .int a1), (3, .int a2)]) rfl rfl rfl ?_
  refine x_iconst (v := 0) rfl ki_0 ?_
  refine x_istore (lsx9 := [(7, .int 0), (6, .int 0), (5, .int a1), (4, .ref b1), (0, .ref 98), (1, .ref t1), (2, .int a1), (3, .int a2)]) rfl rfl rfl ?_
  exact jX.sub (jsb_c rfl (jsb_c rfl (jsb_c rfl (jsb_c rfl (jsb_c rfl (jsb_c rfl jsb_n)))))) (ct_X0_workOut_r98_15 hD hQ  1201 a2 b1 nb2 a1 0 0 h (by have := jk_0; omega) (jr_of rfl (by omega)) (jr_of jk_0 (by omega)) (jr_of jk_0 (by omega)) Tb1 J Sm)
def fp_X0_holdsFor_r98 : jFp := [(85, 0, 4), (98, 12, 13), (106, 0, 100)]
set_option maxRecDepth 100000 in
set_option maxHeartbeats 4000000 in
theorem ct_X0_holdsFor_r98_38 {Dy : jH → Prop} {h0 : jH} {Q : Option Value → jH → Prop} (hD : jDk Dy) (hQ : ∀ (v : Int32) hx9, 0 ≤ v.toInt ∧ v.toInt ≤ 1 → jJ jSgX Dy hx9 → jSm fp_X0_holdsFor_r98 h0 hx9 → Q (some (.int v)) hx9) : ∀ (h : jH), jJ jSgX Dy h → jSm fp_X0_holdsFor_r98 h0 h → jX m_X0_holdsFor 5 0 0 38 [] [] h 0 0 Q := by
  intro  h    J Sm
  refine x_iconst (v := 0) rfl ki_0 ?_
  refine x_zret rfl rfl (by decide) ?_
  exact hQ _ _ (jr_of jk_0 (by omega)) J Sm
set_option maxRecDepth 100000 in
set_option maxHeartbeats 4000000 in
theorem ct_X0_holdsFor_r98_200146 {Dy : jH → Prop} {h0 : jH} {Q : Option Value → jH → Prop} (hD : jDk Dy) (hQ : ∀ (v : Int32) hx9, 0 ≤ v.toInt ∧ v.toInt ≤ 1 → jJ jSgX Dy hx9 → jSm fp_X0_holdsFor_r98 h0 hx9 → Q (some (.int v)) hx9) : ∀ (h : jH), jJ jSgX Dy h → jSm fp_X0_holdsFor_r98 h0 h → jX m_X0_holdsFor 5 0 0 146 [] [.int 0] h 0 0 Q := by
  intro  h    J Sm
  refine x_zret rfl rfl (by decide) ?_
  exact hQ _ _ (jr_of jk_0 (by omega)) J Sm
set_option maxRecDepth 100000 in
set_option maxHeartbeats 4000000 in
theorem ct_X0_holdsFor_r98_300146 {Dy : jH → Prop} {h0 : jH} {Q : Option Value → jH → Prop} (hD : jDk Dy) (hQ : ∀ (v : Int32) hx9, 0 ≤ v.toInt ∧ v.toInt ≤ 1 → jJ jSgX Dy hx9 → jSm fp_X0_holdsFor_r98 h0 hx9 → Q (some (.int v)) hx9) : ∀ (h : jH), jJ jSgX Dy h → jSm fp_X0_holdsFor_r98 h0 h → jX m_X0_holdsFor 5 0 0 146 [] [.int 1] h 0 0 Q := by
  intro  h    J Sm
  refine x_zret rfl rfl (by decide) ?_
  exact hQ _ _ (jr_of jk_1 (by omega)) J Sm
set_option maxRecDepth 100000 in
set_option maxHeartbeats 4000000 in
theorem ct_X0_holdsFor_r98_130 {Dy : jH → Prop} {h0 : jH} {Q : Option Value → jH → Prop} (hD : jDk Dy) (hQ : ∀ (v : Int32) hx9, 0 ≤ v.toInt ∧ v.toInt ≤ 1 → jJ jSgX Dy hx9 → jSm fp_X0_holdsFor_r98 h0 hx9 → Q (some (.int v)) hx9) : ∀ (h : jH), jJ jSgX Dy h → jSm fp_X0_holdsFor_r98 h0 h → jX m_X0_holdsFor 5 0 0 130 [(0, .ref 98)] [] h 0 0 Q := by
  intro  h    J Sm
  refine x_aloadn (x := 98) rfl rfl ?_
  refine z_getL0 (N := 16) 0 12 rfl f_0_44 rfl J rfl (fun v1 => ?_)
  have ev1 := jfullL v1
  refine x_ldc2 (v := (-2000000000000)) rfl z_0_193 ?_
  refine z_lcmp rfl rfl jkl_m2000000000000 (fun v2 ev2 => ?_)
  refine x_ifeq (tgt := 145) rfl rfl (ti_eq rfl jk_0 ⟨fun c3 => ?_, fun c3 => ?_⟩)
  ·
    refine x_iconst (v := 0) rfl ki_0 ?_
    exact jX.sub jsb_n (ct_X0_holdsFor_r98_200146 hD hQ  h J Sm)
  ·
    refine x_iconst (v := 1) rfl ki_1 ?_
    refine x_goto (tgt := 146) rfl rfl ?_
    exact jX.sub jsb_n (ct_X0_holdsFor_r98_300146 hD hQ  h J Sm)
set_option maxRecDepth 100000 in
set_option maxHeartbeats 4000000 in
theorem ct_X0_holdsFor_r98_102 {Dy : jH → Prop} {h0 : jH} {Q : Option Value → jH → Prop} (hD : jDk Dy) (hQ : ∀ (v : Int32) hx9, 0 ≤ v.toInt ∧ v.toInt ≤ 1 → jJ jSgX Dy hx9 → jSm fp_X0_holdsFor_r98 h0 hx9 → Q (some (.int v)) hx9) : ∀ (l2 : Int32) (l3 : Int32) (l4 : Nat) (h : jH), 0 ≤ l2.toInt ∧ l2.toInt ≤ 11 → (-1) ≤ l3.toInt ∧ l3.toInt ≤ 599 → jTx h l4 → jJ jSgX Dy h → jSm fp_X0_holdsFor_r98 h0 h → jX m_X0_holdsFor 5 0 0 102 [(0, .ref 98), (2, .int l2), (3, .int l3), (4, .ref l4)] [] h 0 0 Q := by
  intro l2 l3 l4 h y0 y1 Tl4   J Sm
  refine x_aload (x := l4) rfl rfl ?_
  refine x_iloadn (x := l2) rfl rfl ?_
  refine x_iconst (v := 3) rfl ki_3 ?_
  refine x_inv (N := m_X10_head) (As := [.int l2, .int 3]) (b := l4) (st := []) (dx9 := 1) (mc := 0) (ms := 0) (host := "") 10 rfl t_X10_head ⟨Or.inl q_0_111, i_X10_head.1, i_X10_head.2⟩ ⟨by decide, rfl⟩ (congrArg Prod.fst Tl4.1.2.2) rfl (by decide) rfl rfl ⟨by decide, by decide⟩ (c_head Tl4 (fun v1 => ?_))
  have ev1 := jfull v1
  show jX m_X0_holdsFor 5 0 0 109 [(0, .ref 98), (2, .int l2), (3, .int l3), (4, .ref l4)] [.int v1] _ 0 0 _
  refine x_istore (lsx9 := [(5, .int v1), (0, .ref 98), (2, .int l2), (3, .int l3), (4, .ref l4)]) rfl rfl rfl ?_
  refine x_iload (x := v1) rfl rfl ?_
  refine x_iconst (v := (-1)) rfl ki_m1 ?_
  refine x_iceq (tgt := 130) rfl rfl (ti_eq rfl jk_m1 ⟨fun c2 => ?_, fun c2 => ?_⟩)
  ·
    exact jX.sub (jsb_c rfl jsb_n) (ct_X0_holdsFor_r98_130 hD hQ  h J Sm)
  ·
    refine x_aloadn (x := 98) rfl rfl ?_
    refine x_aloadn (x := 98) rfl rfl ?_
    refine x_aload (x := l4) rfl rfl ?_
    refine x_iload (x := v1) rfl rfl ?_
    refine x_iloadn (x := l3) rfl rfl ?_
    refine x_inv (N := m_X0_workOut) (As := [.ref l4, .int v1, .int l3]) (b := 98) (st := [.ref 98]) (dx9 := 4) (mc := 0) (ms := 0) (host := "") 0 rfl t_X0_workOut ⟨Or.inl q_0_189, i_X0_workOut.1, i_X0_workOut.2⟩ ⟨by decide, rfl⟩ (congrArg Prod.fst (J.1.1 98 (0, 16) rfl)) rfl (by decide) rfl rfl ⟨by decide, by decide⟩ (sf_X0_workOut_r98 (jr_of rfl (by omega)) hD J Tl4  (fun v4 h J S3 => ?_))
    have ev4 := jfullL v4
    have Sm := jSm_tr rfl Sm S3
    have Tl4 := jTx_m S3 rfl Tl4
    show jX m_X0_holdsFor 5 0 0 127 [(5, .int v1), (0, .ref 98), (2, .int l2), (3, .int l3), (4, .ref l4)] [.long v4, .ref 98] _ 0 0 _
    refine z_putL (N := 16) 0 12 rfl f_0_44 rfl (jfin_no TX0 RX0 16 rfl rfl) hD J Sm rfl rfl rfl (fun h w5 J Sm => ?_)
    have Tl4 := jTx_l w5 rfl Tl4
    exact jX.sub (jsb_c rfl jsb_n) (ct_X0_holdsFor_r98_130 hD hQ  h J Sm)
set_option maxRecDepth 100000 in
set_option maxHeartbeats 4000000 in
theorem ct_X0_holdsFor_r98_71 {Dy : jH → Prop} {h0 : jH} {Q : Option Value → jH → Prop} (hD : jDk Dy) (hQ : ∀ (v : Int32) hx9, 0 ≤ v.toInt ∧ v.toInt ≤ 1 → jJ jSgX Dy hx9 → jSm fp_X0_holdsFor_r98 h0 hx9 → Q (some (.int v)) hx9) : ∀ (l2 : Int32) (l3 : Int32) (l4 : Nat) (h : jH), 0 ≤ l2.toInt ∧ l2.toInt ≤ 11 → (-1) ≤ l3.toInt ∧ l3.toInt ≤ 599 → jTx h l4 → jJ jSgX Dy h → jSm fp_X0_holdsFor_r98 h0 h → jX m_X0_holdsFor 5 0 0 71 [(0, .ref 98), (2, .int l2), (3, .int l3), (4, .ref l4)] [] h 0 0 Q := by
  intro l2 l3 l4 h y0 y1 Tl4   J Sm
  refine x_aload (x := l4) rfl rfl ?_
  refine x_iloadn (x := l2) rfl rfl ?_
  refine x_iconst (v := 5) rfl ki_5 ?_
  refine x_inv (N := m_X10_head) (As := [.int l2, .int 5]) (b := l4) (st := []) (dx9 := 1) (mc := 0) (ms := 0) (host := "") 10 rfl t_X10_head ⟨Or.inl q_0_111, i_X10_head.1, i_X10_head.2⟩ ⟨by decide, rfl⟩ (congrArg Prod.fst Tl4.1.2.2) rfl (by decide) rfl rfl ⟨by decide, by decide⟩ (c_head Tl4 (fun v1 => ?_))
  have ev1 := jfull v1
  show jX m_X0_holdsFor 5 0 0 78 [(0, .ref 98), (2, .int l2), (3, .int l3), (4, .ref l4)] [.int v1] _ 0 0 _
  refine x_istore (lsx9 := [(5, .int v1), (0, .ref 98), (2, .int l2), (3, .int l3), (4, .ref l4)]) rfl rfl rfl ?_
  refine x_iload (x := v1) rfl rfl ?_
  refine x_iconst (v := (-1)) rfl ki_m1 ?_
  refine x_iceq (tgt := 102) rfl rfl (ti_eq rfl jk_m1 ⟨fun c2 => ?_, fun c2 => ?_⟩)
  ·
    exact jX.sub (jsb_c rfl (jsb_c rfl (jsb_c rfl (jsb_c rfl jsb_n)))) (ct_X0_holdsFor_r98_102 hD hQ  l2 l3 l4 h (jr_of rfl (by omega)) (jr_of rfl (by omega)) Tl4 J Sm)
  ·
    refine x_aloadn (x := 98) rfl rfl ?_
    refine x_aload (x := l4) rfl rfl ?_
    refine x_iload (x := v1) rfl rfl ?_
    refine x_iloadn (x := l3) rfl rfl ?_
    refine x_inv (N := m_X0_workOut) (As := [.ref l4, .int v1, .int l3]) (b := 98) (st := []) (dx9 := 4) (mc := 0) (ms := 0) (host := "") 0 rfl t_X0_workOut ⟨Or.inl q_0_189, i_X0_workOut.1, i_X0_workOut.2⟩ ⟨by decide, rfl⟩ (congrArg Prod.fst (J.1.1 98 (0, 16) rfl)) rfl (by decide) rfl rfl ⟨by decide, by decide⟩ (sf_X0_workOut_r98 (jr_of rfl (by omega)) hD J Tl4  (fun v4 h J S3 => ?_))
    have ev4 := jfullL v4
    have Sm := jSm_tr rfl Sm S3
    have Tl4 := jTx_m S3 rfl Tl4
    show jX m_X0_holdsFor 5 0 0 95 [(5, .int v1), (0, .ref 98), (2, .int l2), (3, .int l3), (4, .ref l4)] [.long v4] _ 0 0 _
    refine x_lconst (v := 0) rfl kl_0 ?_
    refine z_lcmp rfl rfl jkl_0 (fun v5 ev5 => ?_)
    refine x_ifeq (tgt := 102) rfl rfl (ti_eq rfl jk_0 ⟨fun c6 => ?_, fun c6 => ?_⟩)
    ·
      exact jX.sub (jsb_c rfl (jsb_c rfl (jsb_c rfl (jsb_c rfl jsb_n)))) (ct_X0_holdsFor_r98_102 hD hQ  l2 l3 l4 h (jr_of rfl (by omega)) (jr_of rfl (by omega)) Tl4 J Sm)
    ·
      refine x_iconst (v := 0) rfl ki_0 ?_
      refine x_zret rfl rfl (by decide) ?_
      exact hQ _ _ (jr_of jk_0 (by omega)) J Sm
set_option maxRecDepth 100000 in
set_option maxHeartbeats 4000000 in
theorem sf_X0_holdsFor_r98 {Dy : jH → Prop} {h : jH} {Q : Option Value → jH → Prop} {a1 : Int32} {a2 : Int32} {a3 : Int32} (y1 : 0 ≤ a1.toInt ∧ a1.toInt ≤ 29) (y2 : 0 ≤ a2.toInt ∧ a2.toInt ≤ 11) (y3 : (-1) ≤ a3.toInt ∧ a3.toInt ≤ 599) (hD : jDk Dy) (J : jJ jSgX Dy h) (hQ : ∀ (v : Int32) hx9, 0 ≤ v.toInt ∧ v.toInt ≤ 1 → jJ jSgX Dy hx9 → jSm fp_X0_holdsFor_r98 h hx9 → Q (some (.int v)) hx9) : jC m_X0_holdsFor 5 0 0 [.ref 98, .int a1, .int a2, .int a3] h Q := by
  refine jC.of rfl k_X0_holdsFor rfl ?_
  have Sm := jSm_rf fp_X0_holdsFor_r98 h
  show jX m_X0_holdsFor 5 0 0 0 [(0, .ref 98), (1, .int a1), (2, .int a2), (3, .int a3)] [] _ 0 0 _
  refine x_aloadn (x := 98) rfl rfl ?_
  refine x_lconst (v := 0) rfl kl_0 ?_
  refine z_putL (N := 16) 0 12 rfl f_0_44 rfl (jfin_no TX0 RX0 16 rfl rfl) hD J Sm rfl rfl rfl (fun h w1 J Sm => ?_)
  refine x_aloadn (x := 98) rfl rfl ?_
  refine x_iloadn (x := a1) rfl rfl ?_
  refine x_inv (N := m_X0_textAt) (As := [.int a1]) (b := 98) (st := []) (dx9 := 4) (mc := 0) (ms := 0) (host := "") 0 rfl t_X0_textAt ⟨Or.inl q_0_94, i_X0_textAt.1, i_X0_textAt.2⟩ ⟨by decide, rfl⟩ (congrArg Prod.fst (J.1.1 98 (0, 16) rfl)) rfl (by decide) rfl rfl ⟨by decide, by decide⟩ (jC.of rfl k_X0_textAt rfl ?_)
  show jX m_X0_textAt 4 0 0 0 [(0, .ref 98), (1, .int a1)] [] _ 0 0 _
  refine x_iloadn (x := a1) rfl rfl ?_
  refine x_iflt (tgt := 33) rfl rfl (ti_lt rfl jk_0 (br_f (by omega) ?_))
  refine x_iloadn (x := a1) rfl rfl ?_
  refine x_aloadn (x := 98) rfl rfl ?_
  refine z_getR (N := 16) (b := 32) 0 0 rfl f_0_57 rfl J rfl 12544 ⟨rfl, rfl⟩ rfl ?_
  refine z_getI (N := 20) 1 18 rfl f_0_72 rfl J rfl sg_32_18_19_1_0_1 (fun v2 qv2 ev2 => ?_)
  refine x_icge (tgt := 33) rfl rfl (ti_ge rfl rfl ⟨fun c3 => ?_, fun c3 => ?_⟩)
  ·
    refine x_null rfl ?_
    refine x_aret rfl rfl rfl (Or.inl rfl) ?_
    show jX m_X0_holdsFor 5 0 0 10 [(0, .ref 98), (1, .int a1), (2, .int a2), (3, .int a3)] [.null] _ 0 0 _
    refine x_astoreN (lsx9 := [(4, .null), (0, .ref 98), (1, .int a1), (2, .int a2), (3, .int a3)]) rfl rfl rfl ?_
    refine x_aloadN rfl rfl ?_
    refine x_ifnullN (tgt := 38) rfl rfl ?_
    exact jX.sub jsb_n (ct_X0_holdsFor_r98_38 hD hQ  h J Sm)
  ·
    refine x_iloadn (x := a1) rfl rfl ?_
    refine x_bipush (v := 30) rfl kb_30 ?_
    refine x_icge (tgt := 33) rfl rfl (ti_ge rfl jk_30 (br_f (by omega) ?_))
    refine x_aloadn (x := 98) rfl rfl ?_
    refine z_getR (N := 16) (b := 32) 0 0 rfl f_0_57 rfl J rfl 12544 ⟨rfl, rfl⟩ rfl ?_
    refine z_getR (N := 20) (b := 66) 1 17 rfl f_0_77 rfl J rfl 4113 ⟨rfl, rfl⟩ rfl ?_
    refine x_iloadn (x := a1) rfl rfl ?_
    refine z_aaldT rfl hD J rfl rfl (by omega) ⟨?_, fun b4 Tb4 => ?_⟩
    ·
      refine x_goto (tgt := 34) rfl rfl ?_
      refine x_aret rfl rfl rfl (Or.inl rfl) ?_
      show jX m_X0_holdsFor 5 0 0 10 [(0, .ref 98), (1, .int a1), (2, .int a2), (3, .int a3)] [.null] _ 0 0 _
      refine x_astoreN (lsx9 := [(4, .null), (0, .ref 98), (1, .int a1), (2, .int a2), (3, .int a3)]) rfl rfl rfl ?_
      refine x_aloadN rfl rfl ?_
      refine x_ifnullN (tgt := 38) rfl rfl ?_
      exact jX.sub jsb_n (ct_X0_holdsFor_r98_38 hD hQ  h J Sm)
    ·
      refine x_goto (tgt := 34) rfl rfl ?_
      refine x_aret rfl rfl rfl (Or.inr ⟨_, rfl⟩) ?_
      show jX m_X0_holdsFor 5 0 0 10 [(0, .ref 98), (1, .int a1), (2, .int a2), (3, .int a3)] [.ref b4] _ 0 0 _
      refine x_astore (lsx9 := [(4, .ref b4), (0, .ref 98), (1, .int a1), (2, .int a2), (3, .int a3)]) rfl rfl rfl ?_
      refine x_aload (x := b4) rfl rfl ?_
      refine x_ifnull rfl ?_
      refine x_aloadn (x := 98) rfl rfl ?_
      refine x_iloadn (x := a1) rfl rfl ?_
      refine x_iloadn (x := a2) rfl rfl ?_
      refine x_inv (N := m_X0_isInForce) (As := [.int a1, .int a2]) (b := 98) (st := []) (dx9 := 4) (mc := 0) (ms := 0) (host := "") 0 rfl t_X0_isInForce ⟨Or.inl q_0_116, i_X0_isInForce.1, i_X0_isInForce.2⟩ ⟨by decide, rfl⟩ (congrArg Prod.fst (J.1.1 98 (0, 16) rfl)) rfl (by decide) rfl rfl ⟨by decide, by decide⟩ (jC.of rfl k_X0_isInForce rfl ?_)
      show jX m_X0_isInForce 4 0 0 0 [(0, .ref 98), (1, .int a1), (2, .int a2)] [] _ 0 0 _
      refine x_iloadn (x := a1) rfl rfl ?_
      refine x_iflt (tgt := 39) rfl rfl (ti_lt rfl jk_0 (br_f (by omega) ?_))
      refine x_iloadn (x := a1) rfl rfl ?_
      refine x_bipush (v := 30) rfl kb_30 ?_
      refine x_icge (tgt := 39) rfl rfl (ti_ge rfl jk_30 (br_f (by omega) ?_))
      refine x_iloadn (x := a1) rfl rfl ?_
      refine x_aloadn (x := 98) rfl rfl ?_
      refine z_getR (N := 16) (b := 32) 0 0 rfl f_0_57 rfl J rfl 12544 ⟨rfl, rfl⟩ rfl ?_
      refine z_getM (N := 20) (v := v2) 1 18 rfl f_0_72 rfl J rfl qv2 ?_
      refine x_icge (tgt := 39) rfl rfl (ti_ge rfl rfl ⟨fun c5 => ?_, fun c5 => ?_⟩)
      ·
        refine x_iconst (v := 0) rfl ki_0 ?_
        refine x_zret rfl rfl (by decide) ?_
        show jX m_X0_holdsFor 5 0 0 23 [(4, .ref b4), (0, .ref 98), (1, .int a1), (2, .int a2), (3, .int a3)] [.int 0] _ 0 0 _
        refine x_ifeq (tgt := 38) rfl rfl (ti_eq jk_0 jk_0 (br_t (by omega) ?_))
        exact jX.sub jsb_n (ct_X0_holdsFor_r98_38 hD hQ  h J Sm)
      ·
        refine x_aloadn (x := 98) rfl rfl ?_
        refine z_getR (N := 16) (b := 99) 0 2 rfl f_0_9 rfl J rfl 12546 ⟨rfl, rfl⟩ rfl ?_
        refine x_iloadn (x := a1) rfl rfl ?_
        refine z_iald0 (N := 30) rfl J rfl rfl (by omega) (fun v6 qv6 => ?_)
        have ev6 := jfull v6
        refine x_iloadn (x := a2) rfl rfl ?_
        refine z_ishr0 rfl (fun v7 => ?_)
        have ev7 := jfull v7
        refine x_iconst (v := 1) rfl ki_1 ?_
        refine z_iand rfl jk_1 (by decide) (fun v8 ev8 => ?_)
        refine x_iconst (v := 1) rfl ki_1 ?_
        refine x_icne (tgt := 39) rfl rfl (ti_ne rfl jk_1 ⟨fun c9 => ?_, fun c9 => ?_⟩)
        ·
          refine x_iconst (v := 0) rfl ki_0 ?_
          refine x_zret rfl rfl (by decide) ?_
          show jX m_X0_holdsFor 5 0 0 23 [(4, .ref b4), (0, .ref 98), (1, .int a1), (2, .int a2), (3, .int a3)] [.int 0] _ 0 0 _
          refine x_ifeq (tgt := 38) rfl rfl (ti_eq jk_0 jk_0 (br_t (by omega) ?_))
          exact jX.sub jsb_n (ct_X0_holdsFor_r98_38 hD hQ  h J Sm)
        ·
          refine x_iconst (v := 1) rfl ki_1 ?_
          refine x_goto (tgt := 40) rfl rfl ?_
          refine x_zret rfl rfl (by decide) ?_
          show jX m_X0_holdsFor 5 0 0 23 [(4, .ref b4), (0, .ref 98), (1, .int a1), (2, .int a2), (3, .int a3)] [.int 1] _ 0 0 _
          refine x_ifeq (tgt := 38) rfl rfl (ti_eq jk_1 jk_0 (br_f (by omega) ?_))
          refine x_aload (x := b4) rfl rfl ?_
          refine x_iloadn (x := a2) rfl rfl ?_
          refine x_iconst (v := 0) rfl ki_0 ?_
          refine x_inv (N := m_X10_head) (As := [.int a2, .int 0]) (b := b4) (st := []) (dx9 := 1) (mc := 0) (ms := 0) (host := "") 10 rfl t_X10_head ⟨Or.inl q_0_111, i_X10_head.1, i_X10_head.2⟩ ⟨by decide, rfl⟩ (congrArg Prod.fst Tb4.1.2.2) rfl (by decide) rfl rfl ⟨by decide, by decide⟩ (c_head Tb4 (fun v10 => ?_))
          have ev10 := jfull v10
          show jX m_X0_holdsFor 5 0 0 33 [(4, .ref b4), (0, .ref 98), (1, .int a1), (2, .int a2), (3, .int a3)] [.int v10] _ 0 0 _
          refine x_bipush (v := 8) rfl kb_8 ?_
          refine x_icne (tgt := 40) rfl rfl (ti_ne rfl jk_8 ⟨fun c11 => ?_, fun c11 => ?_⟩)
          ·
            refine x_aload (x := b4) rfl rfl ?_
            refine x_iloadn (x := a2) rfl rfl ?_
            refine x_iconst (v := 4) rfl ki_4 ?_
            refine x_inv (N := m_X10_head) (As := [.int a2, .int 4]) (b := b4) (st := []) (dx9 := 1) (mc := 0) (ms := 0) (host := "") 10 rfl t_X10_head ⟨Or.inl q_0_111, i_X10_head.1, i_X10_head.2⟩ ⟨by decide, rfl⟩ (congrArg Prod.fst Tb4.1.2.2) rfl (by decide) rfl rfl ⟨by decide, by decide⟩ (c_head Tb4 (fun v12 => ?_))
            have ev12 := jfull v12
            show jX m_X0_holdsFor 5 0 0 47 [(4, .ref b4), (0, .ref 98), (1, .int a1), (2, .int a2), (3, .int a3)] [.int v12] _ 0 0 _
            refine x_istore (lsx9 := [(5, .int v12), (4, .ref b4), (0, .ref 98), (1, .int a1), (2, .int a2), (3, .int a3)]) rfl rfl rfl ?_
            refine x_iload (x := v12) rfl rfl ?_
            refine x_iconst (v := (-1)) rfl ki_m1 ?_
            refine x_iceq (tgt := 71) rfl rfl (ti_eq rfl jk_m1 ⟨fun c13 => ?_, fun c13 => ?_⟩)
            ·
              exact jX.sub (jsb_c rfl (jsb_c rfl (jsb_c rfl (jsb_c rfl jsb_n)))) (ct_X0_holdsFor_r98_71 hD hQ  a2 a3 b4 h (jr_of rfl (by omega)) (jr_of rfl (by omega)) Tb4 J Sm)
            ·
              refine x_aloadn (x := 98) rfl rfl ?_
              refine x_aload (x := b4) rfl rfl ?_
              refine x_iload (x := v12) rfl rfl ?_
              refine x_iloadn (x := a3) rfl rfl ?_
              refine x_inv (N := m_X0_workOut) (As := [.ref b4, .int v12, .int a3]) (b := 98) (st := []) (dx9 := 4) (mc := 0) (ms := 0) (host := "") 0 rfl t_X0_workOut ⟨Or.inl q_0_189, i_X0_workOut.1, i_X0_workOut.2⟩ ⟨by decide, rfl⟩ (congrArg Prod.fst (J.1.1 98 (0, 16) rfl)) rfl (by decide) rfl rfl ⟨by decide, by decide⟩ (sf_X0_workOut_r98 (jr_of rfl (by omega)) hD J Tb4  (fun v15 h J S14 => ?_))
              have ev15 := jfullL v15
              have Sm := jSm_tr rfl Sm S14
              have Tb4 := jTx_m S14 rfl Tb4
              show jX m_X0_holdsFor 5 0 0 64 [(5, .int v12), (4, .ref b4), (0, .ref 98), (1, .int a1), (2, .int a2), (3, .int a3)] [.long v15] _ 0 0 _
              refine x_lconst (v := 1) rfl kl_1 ?_
              refine z_lcmp rfl rfl jkl_1 (fun v16 ev16 => ?_)
              refine x_ifeq (tgt := 71) rfl rfl (ti_eq rfl jk_0 ⟨fun c17 => ?_, fun c17 => ?_⟩)
              ·
                exact jX.sub (jsb_c rfl (jsb_c rfl (jsb_c rfl (jsb_c rfl jsb_n)))) (ct_X0_holdsFor_r98_71 hD hQ  a2 a3 b4 h (jr_of rfl (by omega)) (jr_of rfl (by omega)) Tb4 J Sm)
              ·
                refine x_iconst (v := 0) rfl ki_0 ?_
                refine x_zret rfl rfl (by decide) ?_
                exact hQ _ _ (jr_of jk_0 (by omega)) J Sm
          ·
            exact jX.sub jsb_n (ct_X0_holdsFor_r98_38 hD hQ  h J Sm)
def fp_X0_lastTurn_r98 : jFp := []
set_option maxRecDepth 100000 in
set_option maxHeartbeats 4000000 in
theorem ct_X0_lastTurn_r98_94 {Dy : jH → Prop} {h0 : jH} {Q : Option Value → jH → Prop} {R2 : Int} {R16 : Int} (hD : jDk Dy) (hQ : ∀ (v : Int32) hx9, (-1) ≤ v.toInt ∧ v.toInt ≤ 359 → jJ jSgX Dy hx9 → jSm fp_X0_lastTurn_r98 h0 hx9 → Q (some (.int v)) hx9) (k2 : ∀ (l1 : Int32) (l2 : Int32) (h : jH), l2.toInt - (-1) < R2 → 0 ≤ l1.toInt ∧ l1.toInt ≤ 3 → (-1) ≤ l2.toInt ∧ l2.toInt ≤ 1 → jJ jSgX Dy h → jSm fp_X0_lastTurn_r98 h0 h → jX m_X0_lastTurn 3 0 0 2 [(0, .ref 98), (1, .int l1), (2, .int l2)] [] h 0 0 Q) (k16 : ∀ (l1 : Int32) (l2 : Int32) (l3 : Int32) (g0 : Int32) (h : jH), l3.toInt - (-1) < R16 → 0 ≤ l1.toInt ∧ l1.toInt ≤ 3 → 0 ≤ l2.toInt ∧ l2.toInt ≤ 1 → (-1) ≤ l3.toInt ∧ l3.toInt ≤ 29 → 0 ≤ g0.toInt ∧ g0.toInt ≤ 30 → jiv h 32 18 = g0 → l2.toInt - (-1) ≤ R2 → jJ jSgX Dy h → jSm fp_X0_lastTurn_r98 h0 h → jX m_X0_lastTurn 3 0 0 16 [(0, .ref 98), (1, .int l1), (2, .int l2), (3, .int l3)] [] h 0 0 Q) : ∀ (l1 : Int32) (l2 : Int32) (l3 : Int32) (g0 : Int32) (h : jH), 0 ≤ l1.toInt ∧ l1.toInt ≤ 3 → 0 ≤ l2.toInt ∧ l2.toInt ≤ 1 → 0 ≤ l3.toInt ∧ l3.toInt ≤ 29 → 0 ≤ g0.toInt ∧ g0.toInt ≤ 30 → jiv h 32 18 = g0 → l2.toInt - (-1) ≤ R2 → l3.toInt - (-1) ≤ R16 → jJ jSgX Dy h → jSm fp_X0_lastTurn_r98 h0 h → jX m_X0_lastTurn 3 0 0 94 [(0, .ref 98), (1, .int l1), (2, .int l2), (3, .int l3)] [] h 0 0 Q := by
  intro l1 l2 l3 g0 h y0 y1 y2 y3 z0 m2 m16 J Sm
  refine z_iinc (x := l3) (lsx9 := fun v1 => [(3, .int v1), (0, .ref 98), (1, .int l1), (2, .int l2)]) rfl rfl rfl jko_m1 (by omega) rfl (fun _ => rfl) (fun v1 ev1 => ?_)
  refine x_goto (tgt := 16) rfl rfl ?_
  exact jX.sub (jsb_c rfl (jsb_c rfl (jsb_c rfl (jsb_c rfl jsb_n)))) (k16 l1 l2 v1 g0 h (by omega) (jr_of rfl (by omega)) (jr_of rfl (by omega)) (jr_of rfl (by omega)) (jr_of rfl (by omega)) z0 (by omega) J Sm)
set_option maxRecDepth 100000 in
set_option maxHeartbeats 4000000 in
theorem ct_X0_lastTurn_r98_88 {Dy : jH → Prop} {h0 : jH} {Q : Option Value → jH → Prop} {R2 : Int} {R16 : Int} {R53 : Int} (hD : jDk Dy) (hQ : ∀ (v : Int32) hx9, (-1) ≤ v.toInt ∧ v.toInt ≤ 359 → jJ jSgX Dy hx9 → jSm fp_X0_lastTurn_r98 h0 hx9 → Q (some (.int v)) hx9) (k2 : ∀ (l1 : Int32) (l2 : Int32) (h : jH), l2.toInt - (-1) < R2 → 0 ≤ l1.toInt ∧ l1.toInt ≤ 3 → (-1) ≤ l2.toInt ∧ l2.toInt ≤ 1 → jJ jSgX Dy h → jSm fp_X0_lastTurn_r98 h0 h → jX m_X0_lastTurn 3 0 0 2 [(0, .ref 98), (1, .int l1), (2, .int l2)] [] h 0 0 Q) (k16 : ∀ (l1 : Int32) (l2 : Int32) (l3 : Int32) (g0 : Int32) (h : jH), l3.toInt - (-1) < R16 → 0 ≤ l1.toInt ∧ l1.toInt ≤ 3 → 0 ≤ l2.toInt ∧ l2.toInt ≤ 1 → (-1) ≤ l3.toInt ∧ l3.toInt ≤ 29 → 0 ≤ g0.toInt ∧ g0.toInt ≤ 30 → jiv h 32 18 = g0 → l2.toInt - (-1) ≤ R2 → jJ jSgX Dy h → jSm fp_X0_lastTurn_r98 h0 h → jX m_X0_lastTurn 3 0 0 16 [(0, .ref 98), (1, .int l1), (2, .int l2), (3, .int l3)] [] h 0 0 Q) (k53 : ∀ (l1 : Int32) (l2 : Int32) (l3 : Int32) (l4 : Nat) (l5 : Int32) (g0 : Int32) (h : jH), l5.toInt - (-1) < R53 → 0 ≤ l1.toInt ∧ l1.toInt ≤ 3 → 0 ≤ l2.toInt ∧ l2.toInt ≤ 1 → 0 ≤ l3.toInt ∧ l3.toInt ≤ 29 → (-1) ≤ l5.toInt ∧ l5.toInt ≤ 11 → 1 ≤ g0.toInt ∧ g0.toInt ≤ 30 → jTx h l4 → jiv h 32 18 = g0 → l2.toInt - (-1) ≤ R2 → l3.toInt - (-1) ≤ R16 → jJ jSgX Dy h → jSm fp_X0_lastTurn_r98 h0 h → jX m_X0_lastTurn 3 0 0 53 [(0, .ref 98), (1, .int l1), (2, .int l2), (3, .int l3), (4, .ref l4), (5, .int l5)] [] h 0 0 Q) : ∀ (l1 : Int32) (l2 : Int32) (l3 : Int32) (l4 : Nat) (l5 : Int32) (g0 : Int32) (h : jH), 0 ≤ l1.toInt ∧ l1.toInt ≤ 3 → 0 ≤ l2.toInt ∧ l2.toInt ≤ 1 → 0 ≤ l3.toInt ∧ l3.toInt ≤ 29 → 0 ≤ l5.toInt ∧ l5.toInt ≤ 11 → 1 ≤ g0.toInt ∧ g0.toInt ≤ 30 → jTx h l4 → jiv h 32 18 = g0 → l2.toInt - (-1) ≤ R2 → l3.toInt - (-1) ≤ R16 → l5.toInt - (-1) ≤ R53 → jJ jSgX Dy h → jSm fp_X0_lastTurn_r98 h0 h → jX m_X0_lastTurn 3 0 0 88 [(0, .ref 98), (1, .int l1), (2, .int l2), (3, .int l3), (4, .ref l4), (5, .int l5)] [] h 0 0 Q := by
  intro l1 l2 l3 l4 l5 g0 h y0 y1 y2 y3 y4 Tl4 z0 m2 m16 m53 J Sm
  refine z_iinc (x := l5) (lsx9 := fun v1 => [(5, .int v1), (0, .ref 98), (1, .int l1), (2, .int l2), (3, .int l3), (4, .ref l4)]) rfl rfl rfl jko_m1 (by omega) rfl (fun _ => rfl) (fun v1 ev1 => ?_)
  refine x_goto (tgt := 53) rfl rfl ?_
  exact jX.sub (jsb_c rfl (jsb_c rfl (jsb_c rfl (jsb_c rfl (jsb_c rfl (jsb_c rfl jsb_n)))))) (k53 l1 l2 l3 l4 v1 g0 h (by omega) (jr_of rfl (by omega)) (jr_of rfl (by omega)) (jr_of rfl (by omega)) (jr_of rfl (by omega)) (jr_of rfl (by omega)) Tl4 z0 (by omega) (by omega) J Sm)
set_option maxRecDepth 100000 in
set_option maxHeartbeats 4000000 in
theorem ct_X0_lastTurn_r98_53 {Dy : jH → Prop} {h0 : jH} {Q : Option Value → jH → Prop} {R2 : Int} {R16 : Int} (hD : jDk Dy) (hQ : ∀ (v : Int32) hx9, (-1) ≤ v.toInt ∧ v.toInt ≤ 359 → jJ jSgX Dy hx9 → jSm fp_X0_lastTurn_r98 h0 hx9 → Q (some (.int v)) hx9) (k2 : ∀ (l1 : Int32) (l2 : Int32) (h : jH), l2.toInt - (-1) < R2 → 0 ≤ l1.toInt ∧ l1.toInt ≤ 3 → (-1) ≤ l2.toInt ∧ l2.toInt ≤ 1 → jJ jSgX Dy h → jSm fp_X0_lastTurn_r98 h0 h → jX m_X0_lastTurn 3 0 0 2 [(0, .ref 98), (1, .int l1), (2, .int l2)] [] h 0 0 Q) (k16 : ∀ (l1 : Int32) (l2 : Int32) (l3 : Int32) (g0 : Int32) (h : jH), l3.toInt - (-1) < R16 → 0 ≤ l1.toInt ∧ l1.toInt ≤ 3 → 0 ≤ l2.toInt ∧ l2.toInt ≤ 1 → (-1) ≤ l3.toInt ∧ l3.toInt ≤ 29 → 0 ≤ g0.toInt ∧ g0.toInt ≤ 30 → jiv h 32 18 = g0 → l2.toInt - (-1) ≤ R2 → jJ jSgX Dy h → jSm fp_X0_lastTurn_r98 h0 h → jX m_X0_lastTurn 3 0 0 16 [(0, .ref 98), (1, .int l1), (2, .int l2), (3, .int l3)] [] h 0 0 Q) : ∀ r : Nat, ∀ (l1 : Int32) (l2 : Int32) (l3 : Int32) (l4 : Nat) (l5 : Int32) (g0 : Int32) (h : jH), l5.toInt - (-1) < (r : Int) → 0 ≤ l1.toInt ∧ l1.toInt ≤ 3 → 0 ≤ l2.toInt ∧ l2.toInt ≤ 1 → 0 ≤ l3.toInt ∧ l3.toInt ≤ 29 → (-1) ≤ l5.toInt ∧ l5.toInt ≤ 11 → 1 ≤ g0.toInt ∧ g0.toInt ≤ 30 → jTx h l4 → jiv h 32 18 = g0 → l2.toInt - (-1) ≤ R2 → l3.toInt - (-1) ≤ R16 → jJ jSgX Dy h → jSm fp_X0_lastTurn_r98 h0 h → jX m_X0_lastTurn 3 0 0 53 [(0, .ref 98), (1, .int l1), (2, .int l2), (3, .int l3), (4, .ref l4), (5, .int l5)] [] h 0 0 Q := by
  intro r
  induction r with
  | zero =>
    intro l1 l2 l3 l4 l5 g0 h hm y0 y1 y2 y3 y4 Tl4 z0 m2 m16 J Sm
    exfalso
    omega
  | succ r ih =>
    intro l1 l2 l3 l4 l5 g0 h hm y0 y1 y2 y3 y4 Tl4 z0 m2 m16 J Sm
    refine x_iload (x := l5) rfl rfl ?_
    refine x_iflt (tgt := 94) rfl rfl (ti_lt rfl jk_0 ⟨fun c1 => ?_, fun c1 => ?_⟩)
    ·
      exact jX.sub (jsb_c rfl (jsb_c rfl (jsb_c rfl (jsb_c rfl jsb_n)))) (ct_X0_lastTurn_r98_94 hD hQ k2 k16 l1 l2 l3 g0 h (jr_of rfl (by omega)) (jr_of rfl (by omega)) (jr_of rfl (by omega)) (jr_of rfl (by omega)) z0 (by omega) (by omega) J Sm)
    ·
      refine x_aload (x := l4) rfl rfl ?_
      refine x_iload (x := l5) rfl rfl ?_
      refine x_iconst (v := 5) rfl ki_5 ?_
      refine x_iloadn (x := l1) rfl rfl ?_
      refine x_inv (N := m_X10_isOf) (As := [.int l5, .int 5, .int l1]) (b := l4) (st := []) (dx9 := 2) (mc := 0) (ms := 0) (host := "") 10 rfl t_X10_isOf ⟨Or.inl q_0_220, i_X10_isOf.1, i_X10_isOf.2⟩ ⟨by decide, rfl⟩ (congrArg Prod.fst Tl4.1.2.2) rfl (by decide) rfl rfl ⟨by decide, by decide⟩ (jC.of rfl k_X10_isOf rfl ?_)
      show jX m_X10_isOf 2 0 0 0 [(0, .ref l4), (1, .int l5), (2, .int 5), (3, .int l1)] [] _ 0 0 _
      refine x_aloadn (x := l4) rfl rfl ?_
      refine x_iloadn (x := l5) rfl rfl ?_
      refine x_iconst (v := 0) rfl ki_0 ?_
      refine x_inv (N := m_X10_head) (As := [.int l5, .int 0]) (b := l4) (st := []) (dx9 := 1) (mc := 0) (ms := 0) (host := "") 10 rfl t_X10_head ⟨Or.inl q_10_37, i_X10_head.1, i_X10_head.2⟩ ⟨by decide, rfl⟩ (congrArg Prod.fst Tl4.1.2.2) rfl (by decide) rfl rfl ⟨by decide, by decide⟩ (c_head Tl4 (fun v2 => ?_))
      have ev2 := jfull v2
      show jX m_X10_isOf 2 0 0 6 [(0, .ref l4), (1, .int l5), (2, .int 5), (3, .int l1)] [.int v2] _ 0 0 _
      refine x_iloadn (x := 5) rfl rfl ?_
      refine x_icne (tgt := 24) rfl rfl (ti_ne rfl jk_5 ⟨fun c3 => ?_, fun c3 => ?_⟩)
      ·
        refine x_iconst (v := 0) rfl ki_0 ?_
        refine x_zret rfl rfl (by decide) ?_
        show jX m_X0_lastTurn 3 0 0 67 [(0, .ref 98), (1, .int l1), (2, .int l2), (3, .int l3), (4, .ref l4), (5, .int l5)] [.int 0] _ 0 0 _
        refine x_ifeq (tgt := 88) rfl rfl (ti_eq jk_0 jk_0 (br_t (by omega) ?_))
        exact jX.sub (jsb_c rfl (jsb_c rfl (jsb_c rfl (jsb_c rfl (jsb_c rfl (jsb_c rfl jsb_n)))))) (ct_X0_lastTurn_r98_88 hD hQ k2 k16 ih l1 l2 l3 l4 l5 g0 h (jr_of rfl (by omega)) (jr_of rfl (by omega)) (jr_of rfl (by omega)) (jr_of rfl (by omega)) (jr_of rfl (by omega)) Tl4 z0 (by omega) (by omega) (by omega) J Sm)
      ·
        refine x_aloadn (x := l4) rfl rfl ?_
        refine x_iloadn (x := l5) rfl rfl ?_
        refine x_iconst (v := 1) rfl ki_1 ?_
        refine x_inv (N := m_X10_head) (As := [.int l5, .int 1]) (b := l4) (st := []) (dx9 := 1) (mc := 0) (ms := 0) (host := "") 10 rfl t_X10_head ⟨Or.inl q_10_37, i_X10_head.1, i_X10_head.2⟩ ⟨by decide, rfl⟩ (congrArg Prod.fst Tl4.1.2.2) rfl (by decide) rfl rfl ⟨by decide, by decide⟩ (c_head Tl4 (fun v4 => ?_))
        have ev4 := jfull v4
        show jX m_X10_isOf 2 0 0 16 [(0, .ref l4), (1, .int l5), (2, .int 5), (3, .int l1)] [.int v4] _ 0 0 _
        refine x_iloadn (x := l1) rfl rfl ?_
        refine x_icne (tgt := 24) rfl rfl (ti_ne rfl rfl ⟨fun c5 => ?_, fun c5 => ?_⟩)
        ·
          refine x_iconst (v := 0) rfl ki_0 ?_
          refine x_zret rfl rfl (by decide) ?_
          show jX m_X0_lastTurn 3 0 0 67 [(0, .ref 98), (1, .int l1), (2, .int l2), (3, .int l3), (4, .ref l4), (5, .int l5)] [.int 0] _ 0 0 _
          refine x_ifeq (tgt := 88) rfl rfl (ti_eq jk_0 jk_0 (br_t (by omega) ?_))
          exact jX.sub (jsb_c rfl (jsb_c rfl (jsb_c rfl (jsb_c rfl (jsb_c rfl (jsb_c rfl jsb_n)))))) (ct_X0_lastTurn_r98_88 hD hQ k2 k16 ih l1 l2 l3 l4 l5 g0 h (jr_of rfl (by omega)) (jr_of rfl (by omega)) (jr_of rfl (by omega)) (jr_of rfl (by omega)) (jr_of rfl (by omega)) Tl4 z0 (by omega) (by omega) (by omega) J Sm)
        ·
          refine x_iconst (v := 1) rfl ki_1 ?_
          refine x_goto (tgt := 25) rfl rfl ?_
          refine x_zret rfl rfl (by decide) ?_
          show jX m_X0_lastTurn 3 0 0 67 [(0, .ref 98), (1, .int l1), (2, .int l2), (3, .int l3), (4, .ref l4), (5, .int l5)] [.int 1] _ 0 0 _
          refine x_ifeq (tgt := 88) rfl rfl (ti_eq jk_1 jk_0 (br_f (by omega) ?_))
          refine x_aloadn (x := 98) rfl rfl ?_
          refine x_iloadn (x := l3) rfl rfl ?_
          refine x_iload (x := l5) rfl rfl ?_
          refine x_inv (N := m_X0_isInForce) (As := [.int l3, .int l5]) (b := 98) (st := []) (dx9 := 2) (mc := 0) (ms := 0) (host := "") 0 rfl t_X0_isInForce ⟨Or.inl q_0_116, i_X0_isInForce.1, i_X0_isInForce.2⟩ ⟨by decide, rfl⟩ (congrArg Prod.fst (J.1.1 98 (0, 16) rfl)) rfl (by decide) rfl rfl ⟨by decide, by decide⟩ (jC.of rfl k_X0_isInForce rfl ?_)
          show jX m_X0_isInForce 2 0 0 0 [(0, .ref 98), (1, .int l3), (2, .int l5)] [] _ 0 0 _
          refine x_iloadn (x := l3) rfl rfl ?_
          refine x_iflt (tgt := 39) rfl rfl (ti_lt rfl jk_0 (br_f (by omega) ?_))
          refine x_iloadn (x := l3) rfl rfl ?_
          refine x_bipush (v := 30) rfl kb_30 ?_
          refine x_icge (tgt := 39) rfl rfl (ti_ge rfl jk_30 (br_f (by omega) ?_))
          refine x_iloadn (x := l3) rfl rfl ?_
          refine x_aloadn (x := 98) rfl rfl ?_
          refine z_getR (N := 16) (b := 32) 0 0 rfl f_0_57 rfl J rfl 12544 ⟨rfl, rfl⟩ rfl ?_
          refine z_getM (N := 20) (v := g0) 1 18 rfl f_0_72 rfl J rfl z0 ?_
          refine x_icge (tgt := 39) rfl rfl (ti_ge rfl rfl ⟨fun c6 => ?_, fun c6 => ?_⟩)
          ·
            refine x_iconst (v := 0) rfl ki_0 ?_
            refine x_zret rfl rfl (by decide) ?_
            show jX m_X0_lastTurn 3 0 0 77 [(0, .ref 98), (1, .int l1), (2, .int l2), (3, .int l3), (4, .ref l4), (5, .int l5)] [.int 0] _ 0 0 _
            refine x_ifeq (tgt := 88) rfl rfl (ti_eq jk_0 jk_0 (br_t (by omega) ?_))
            exact jX.sub (jsb_c rfl (jsb_c rfl (jsb_c rfl (jsb_c rfl (jsb_c rfl (jsb_c rfl jsb_n)))))) (ct_X0_lastTurn_r98_88 hD hQ k2 k16 ih l1 l2 l3 l4 l5 g0 h (jr_of rfl (by omega)) (jr_of rfl (by omega)) (jr_of rfl (by omega)) (jr_of rfl (by omega)) (jr_of rfl (by omega)) Tl4 z0 (by omega) (by omega) (by omega) J Sm)
          ·
            refine x_aloadn (x := 98) rfl rfl ?_
            refine z_getR (N := 16) (b := 99) 0 2 rfl f_0_9 rfl J rfl 12546 ⟨rfl, rfl⟩ rfl ?_
            refine x_iloadn (x := l3) rfl rfl ?_
            refine z_iald0 (N := 30) rfl J rfl rfl (by omega) (fun v7 qv7 => ?_)
            have ev7 := jfull v7
            refine x_iloadn (x := l5) rfl rfl ?_
            refine z_ishr0 rfl (fun v8 => ?_)
            have ev8 := jfull v8
            refine x_iconst (v := 1) rfl ki_1 ?_
            refine z_iand rfl jk_1 (by decide) (fun v9 ev9 => ?_)
            refine x_iconst (v := 1) rfl ki_1 ?_
            refine x_icne (tgt := 39) rfl rfl (ti_ne rfl jk_1 ⟨fun c10 => ?_, fun c10 => ?_⟩)
            ·
              refine x_iconst (v := 0) rfl ki_0 ?_
              refine x_zret rfl rfl (by decide) ?_
              show jX m_X0_lastTurn 3 0 0 77 [(0, .ref 98), (1, .int l1), (2, .int l2), (3, .int l3), (4, .ref l4), (5, .int l5)] [.int 0] _ 0 0 _
              refine x_ifeq (tgt := 88) rfl rfl (ti_eq jk_0 jk_0 (br_t (by omega) ?_))
              exact jX.sub (jsb_c rfl (jsb_c rfl (jsb_c rfl (jsb_c rfl (jsb_c rfl (jsb_c rfl jsb_n)))))) (ct_X0_lastTurn_r98_88 hD hQ k2 k16 ih l1 l2 l3 l4 l5 g0 h (jr_of rfl (by omega)) (jr_of rfl (by omega)) (jr_of rfl (by omega)) (jr_of rfl (by omega)) (jr_of rfl (by omega)) Tl4 z0 (by omega) (by omega) (by omega) J Sm)
            ·
              refine x_iconst (v := 1) rfl ki_1 ?_
              refine x_goto (tgt := 40) rfl rfl ?_
              refine x_zret rfl rfl (by decide) ?_
              show jX m_X0_lastTurn 3 0 0 77 [(0, .ref 98), (1, .int l1), (2, .int l2), (3, .int l3), (4, .ref l4), (5, .int l5)] [.int 1] _ 0 0 _
              refine x_ifeq (tgt := 88) rfl rfl (ti_eq jk_1 jk_0 (br_f (by omega) ?_))
              refine x_iloadn (x := l3) rfl rfl ?_
              refine x_bipush (v := 12) rfl kb_12 ?_
              refine z_imul rfl rfl jk_12 (by omega) (fun v11 ev11 => ?_)
              refine x_iload (x := l5) rfl rfl ?_
              refine z_iadd rfl rfl rfl (by omega) (fun v12 ev12 => ?_)
              refine x_iret rfl rfl ?_
              exact hQ _ _ (jr_of rfl (by omega)) J Sm
set_option maxRecDepth 100000 in
set_option maxHeartbeats 4000000 in
theorem ct_X0_lastTurn_r98_16 {Dy : jH → Prop} {h0 : jH} {Q : Option Value → jH → Prop} {R2 : Int} (hD : jDk Dy) (hQ : ∀ (v : Int32) hx9, (-1) ≤ v.toInt ∧ v.toInt ≤ 359 → jJ jSgX Dy hx9 → jSm fp_X0_lastTurn_r98 h0 hx9 → Q (some (.int v)) hx9) (k2 : ∀ (l1 : Int32) (l2 : Int32) (h : jH), l2.toInt - (-1) < R2 → 0 ≤ l1.toInt ∧ l1.toInt ≤ 3 → (-1) ≤ l2.toInt ∧ l2.toInt ≤ 1 → jJ jSgX Dy h → jSm fp_X0_lastTurn_r98 h0 h → jX m_X0_lastTurn 3 0 0 2 [(0, .ref 98), (1, .int l1), (2, .int l2)] [] h 0 0 Q) : ∀ r : Nat, ∀ (l1 : Int32) (l2 : Int32) (l3 : Int32) (g0 : Int32) (h : jH), l3.toInt - (-1) < (r : Int) → 0 ≤ l1.toInt ∧ l1.toInt ≤ 3 → 0 ≤ l2.toInt ∧ l2.toInt ≤ 1 → (-1) ≤ l3.toInt ∧ l3.toInt ≤ 29 → 0 ≤ g0.toInt ∧ g0.toInt ≤ 30 → jiv h 32 18 = g0 → l2.toInt - (-1) ≤ R2 → jJ jSgX Dy h → jSm fp_X0_lastTurn_r98 h0 h → jX m_X0_lastTurn 3 0 0 16 [(0, .ref 98), (1, .int l1), (2, .int l2), (3, .int l3)] [] h 0 0 Q := by
  intro r
  induction r with
  | zero =>
    intro l1 l2 l3 g0 h hm y0 y1 y2 y3 z0 m2 J Sm
    exfalso
    omega
  | succ r ih =>
    intro l1 l2 l3 g0 h hm y0 y1 y2 y3 z0 m2 J Sm
    refine x_iloadn (x := l3) rfl rfl ?_
    refine x_iflt (tgt := 100) rfl rfl (ti_lt rfl jk_0 ⟨fun c1 => ?_, fun c1 => ?_⟩)
    ·
      refine z_iinc (x := l2) (lsx9 := fun v2 => [(2, .int v2), (0, .ref 98), (1, .int l1), (3, .int l3)]) rfl rfl rfl jko_m1 (by omega) rfl (fun _ => rfl) (fun v2 ev2 => ?_)
      refine x_goto (tgt := 2) rfl rfl ?_
      exact jX.sub (jsb_c rfl (jsb_c rfl (jsb_c rfl jsb_n))) (k2 l1 v2 h (by omega) (jr_of rfl (by omega)) (jr_of rfl (by omega)) J Sm)
    ·
      refine x_aloadn (x := 98) rfl rfl ?_
      refine x_iloadn (x := l3) rfl rfl ?_
      refine x_inv (N := m_X0_textAt) (As := [.int l3]) (b := 98) (st := []) (dx9 := 2) (mc := 0) (ms := 0) (host := "") 0 rfl t_X0_textAt ⟨Or.inl q_0_94, i_X0_textAt.1, i_X0_textAt.2⟩ ⟨by decide, rfl⟩ (congrArg Prod.fst (J.1.1 98 (0, 16) rfl)) rfl (by decide) rfl rfl ⟨by decide, by decide⟩ (jC.of rfl k_X0_textAt rfl ?_)
      show jX m_X0_textAt 2 0 0 0 [(0, .ref 98), (1, .int l3)] [] _ 0 0 _
      refine x_iloadn (x := l3) rfl rfl ?_
      refine x_iflt (tgt := 33) rfl rfl (ti_lt rfl jk_0 (br_f (by omega) ?_))
      refine x_iloadn (x := l3) rfl rfl ?_
      refine x_aloadn (x := 98) rfl rfl ?_
      refine z_getR (N := 16) (b := 32) 0 0 rfl f_0_57 rfl J rfl 12544 ⟨rfl, rfl⟩ rfl ?_
      refine z_getM (N := 20) (v := g0) 1 18 rfl f_0_72 rfl J rfl z0 ?_
      refine x_icge (tgt := 33) rfl rfl (ti_ge rfl rfl ⟨fun c3 => ?_, fun c3 => ?_⟩)
      ·
        refine x_null rfl ?_
        refine x_aret rfl rfl rfl (Or.inl rfl) ?_
        show jX m_X0_lastTurn 3 0 0 25 [(0, .ref 98), (1, .int l1), (2, .int l2), (3, .int l3)] [.null] _ 0 0 _
        refine x_astoreN (lsx9 := [(4, .null), (0, .ref 98), (1, .int l1), (2, .int l2), (3, .int l3)]) rfl rfl rfl ?_
        refine x_aloadN rfl rfl ?_
        refine x_ifnullN (tgt := 94) rfl rfl ?_
        exact jX.sub (jsb_c rfl (jsb_c rfl (jsb_c rfl (jsb_c rfl jsb_n)))) (ct_X0_lastTurn_r98_94 hD hQ k2 ih l1 l2 l3 g0 h (jr_of rfl (by omega)) (jr_of rfl (by omega)) (jr_of rfl (by omega)) (jr_of rfl (by omega)) z0 (by omega) (by omega) J Sm)
      ·
        refine x_iloadn (x := l3) rfl rfl ?_
        refine x_bipush (v := 30) rfl kb_30 ?_
        refine x_icge (tgt := 33) rfl rfl (ti_ge rfl jk_30 (br_f (by omega) ?_))
        refine x_aloadn (x := 98) rfl rfl ?_
        refine z_getR (N := 16) (b := 32) 0 0 rfl f_0_57 rfl J rfl 12544 ⟨rfl, rfl⟩ rfl ?_
        refine z_getR (N := 20) (b := 66) 1 17 rfl f_0_77 rfl J rfl 4113 ⟨rfl, rfl⟩ rfl ?_
        refine x_iloadn (x := l3) rfl rfl ?_
        refine z_aaldT rfl hD J rfl rfl (by omega) ⟨?_, fun b4 Tb4 => ?_⟩
        ·
          refine x_goto (tgt := 34) rfl rfl ?_
          refine x_aret rfl rfl rfl (Or.inl rfl) ?_
          show jX m_X0_lastTurn 3 0 0 25 [(0, .ref 98), (1, .int l1), (2, .int l2), (3, .int l3)] [.null] _ 0 0 _
          refine x_astoreN (lsx9 := [(4, .null), (0, .ref 98), (1, .int l1), (2, .int l2), (3, .int l3)]) rfl rfl rfl ?_
          refine x_aloadN rfl rfl ?_
          refine x_ifnullN (tgt := 94) rfl rfl ?_
          exact jX.sub (jsb_c rfl (jsb_c rfl (jsb_c rfl (jsb_c rfl jsb_n)))) (ct_X0_lastTurn_r98_94 hD hQ k2 ih l1 l2 l3 g0 h (jr_of rfl (by omega)) (jr_of rfl (by omega)) (jr_of rfl (by omega)) (jr_of rfl (by omega)) z0 (by omega) (by omega) J Sm)
        ·
          refine x_goto (tgt := 34) rfl rfl ?_
          refine x_aret rfl rfl rfl (Or.inr ⟨_, rfl⟩) ?_
          show jX m_X0_lastTurn 3 0 0 25 [(0, .ref 98), (1, .int l1), (2, .int l2), (3, .int l3)] [.ref b4] _ 0 0 _
          refine x_astore (lsx9 := [(4, .ref b4), (0, .ref 98), (1, .int l1), (2, .int l2), (3, .int l3)]) rfl rfl rfl ?_
          refine x_aload (x := b4) rfl rfl ?_
          refine x_ifnull rfl ?_
          refine x_aload (x := b4) rfl rfl ?_
          refine z_getT 0 rfl f_0_217 rfl Tb4 (fun v5 => ?_)
          have ev5 := jfull v5
          refine x_iloadn (x := l2) rfl rfl ?_
          refine x_iceq (tgt := 44) rfl rfl (ti_eq rfl rfl ⟨fun c6 => ?_, fun c6 => ?_⟩)
          ·
            refine x_aload (x := b4) rfl rfl ?_
            refine z_getTc rfl f_0_104 Tb4 (fun v7 ev7 => ?_)
            refine x_iconst (v := 1) rfl ki_1 ?_
            refine z_isub rfl rfl jk_1 (by omega) (fun v8 ev8 => ?_)
            refine x_istore (lsx9 := [(5, .int v8), (4, .ref b4), (0, .ref 98), (1, .int l1), (2, .int l2), (3, .int l3)]) rfl rfl rfl ?_
            exact jX.sub (jsb_c rfl (jsb_c rfl (jsb_c rfl (jsb_c rfl (jsb_c rfl (jsb_c rfl jsb_n)))))) (ct_X0_lastTurn_r98_53 hD hQ k2 ih 13 l1 l2 l3 b4 v8 g0 h (by omega) (jr_of rfl (by omega)) (jr_of rfl (by omega)) (jr_of rfl (by omega)) (jr_of rfl (by omega)) (jr_of rfl (by omega)) Tb4 z0 (by omega) (by omega) J Sm)
          ·
            refine x_goto (tgt := 94) rfl rfl ?_
            exact jX.sub (jsb_c rfl (jsb_c rfl (jsb_c rfl (jsb_c rfl jsb_n)))) (ct_X0_lastTurn_r98_94 hD hQ k2 ih l1 l2 l3 g0 h (jr_of rfl (by omega)) (jr_of rfl (by omega)) (jr_of rfl (by omega)) (jr_of rfl (by omega)) z0 (by omega) (by omega) J Sm)
set_option maxRecDepth 100000 in
set_option maxHeartbeats 4000000 in
theorem ct_X0_lastTurn_r98_2 {Dy : jH → Prop} {h0 : jH} {Q : Option Value → jH → Prop} (hD : jDk Dy) (hQ : ∀ (v : Int32) hx9, (-1) ≤ v.toInt ∧ v.toInt ≤ 359 → jJ jSgX Dy hx9 → jSm fp_X0_lastTurn_r98 h0 hx9 → Q (some (.int v)) hx9) : ∀ r : Nat, ∀ (l1 : Int32) (l2 : Int32) (h : jH), l2.toInt - (-1) < (r : Int) → 0 ≤ l1.toInt ∧ l1.toInt ≤ 3 → (-1) ≤ l2.toInt ∧ l2.toInt ≤ 1 → jJ jSgX Dy h → jSm fp_X0_lastTurn_r98 h0 h → jX m_X0_lastTurn 3 0 0 2 [(0, .ref 98), (1, .int l1), (2, .int l2)] [] h 0 0 Q := by
  intro r
  induction r with
  | zero =>
    intro l1 l2 h hm y0 y1   J Sm
    exfalso
    omega
  | succ r ih =>
    intro l1 l2 h hm y0 y1   J Sm
    refine x_iloadn (x := l2) rfl rfl ?_
    refine x_iflt (tgt := 106) rfl rfl (ti_lt rfl jk_0 ⟨fun c1 => ?_, fun c1 => ?_⟩)
    ·
      refine x_iconst (v := (-1)) rfl ki_m1 ?_
      refine x_iret rfl rfl ?_
      exact hQ _ _ (jr_of jk_m1 (by omega)) J Sm
    ·
      refine x_aloadn (x := 98) rfl rfl ?_
      refine z_getR (N := 16) (b := 32) 0 0 rfl f_0_57 rfl J rfl 12544 ⟨rfl, rfl⟩ rfl ?_
      refine z_getI (N := 20) 1 18 rfl f_0_72 rfl J rfl sg_32_18_19_1_0_1 (fun v2 qv2 ev2 => ?_)
      refine x_iconst (v := 1) rfl ki_1 ?_
      refine z_isub rfl rfl jk_1 (by omega) (fun v3 ev3 => ?_)
      refine x_istoren (lsx9 := [(3, .int v3), (0, .ref 98), (1, .int l1), (2, .int l2)]) rfl rfl rfl ?_
      exact jX.sub (jsb_c rfl (jsb_c rfl (jsb_c rfl (jsb_c rfl jsb_n)))) (ct_X0_lastTurn_r98_16 hD hQ ih 31 l1 l2 v3 v2 h (by omega) (jr_of rfl (by omega)) (jr_of rfl (by omega)) (jr_of rfl (by omega)) (jr_of rfl (by omega)) qv2 (by omega) J Sm)
set_option maxRecDepth 100000 in
set_option maxHeartbeats 4000000 in
theorem sf_X0_lastTurn_r98 {Dy : jH → Prop} {h : jH} {Q : Option Value → jH → Prop} {a1 : Int32} (y1 : 0 ≤ a1.toInt ∧ a1.toInt ≤ 3) (hD : jDk Dy) (J : jJ jSgX Dy h) (hQ : ∀ (v : Int32) hx9, (-1) ≤ v.toInt ∧ v.toInt ≤ 359 → jJ jSgX Dy hx9 → jSm fp_X0_lastTurn_r98 h hx9 → Q (some (.int v)) hx9) : jC m_X0_lastTurn 3 0 0 [.ref 98, .int a1] h Q := by
  refine jC.of rfl k_X0_lastTurn rfl ?_
  have Sm := jSm_rf fp_X0_lastTurn_r98 h
  show jX m_X0_lastTurn 3 0 0 0 [(0, .ref 98), (1, .int a1)] [] _ 0 0 _
  refine x_iconst (v := 1) rfl ki_1 ?_
  refine x_istoren (lsx9 := [(2, .int 1), (0, .ref 98), (1, .int a1)]) rfl rfl rfl ?_
  exact jX.sub (jsb_c rfl (jsb_c rfl (jsb_c rfl jsb_n))) (ct_X0_lastTurn_r98_2 hD hQ  3 a1 1 h (by have := jk_1; omega) (jr_of rfl (by omega)) (jr_of jk_1 (by omega)) J Sm)
def fp_X8_at_r47 : jFp := []
set_option maxRecDepth 100000 in
set_option maxHeartbeats 4000000 in
theorem ct_X8_at_r47_24 {Dy : jH → Prop} {h0 : jH} {Q : Option Value → jH → Prop} (hD : jDk Dy) (hQ : ∀ (v : Int32) hx9, 0 ≤ v.toInt ∧ v.toInt ≤ 10000 → jJ jSgX Dy hx9 → jSm fp_X8_at_r47 h0 hx9 → Q (some (.int v)) hx9) : ∀ (h : jH), jJ jSgX Dy h → jSm fp_X8_at_r47 h0 h → jX m_X8_at 1 0 0 24 [] [] h 0 0 Q := by
  intro  h    J Sm
  refine x_iconst (v := 0) rfl ki_0 ?_
  refine x_iret rfl rfl ?_
  exact hQ _ _ (jr_of jk_0 (by omega)) J Sm
set_option maxRecDepth 100000 in
set_option maxHeartbeats 4000000 in
theorem sf_X8_at_r47 {Dy : jH → Prop} {h : jH} {Q : Option Value → jH → Prop} {a1 : Int32} {a2 : Int32} (y1 : 0 ≤ a1.toInt ∧ a1.toInt ≤ 99) (y2 : 3 ≤ a2.toInt ∧ a2.toInt ≤ 3) (hD : jDk Dy) (J : jJ jSgX Dy h) (hQ : ∀ (v : Int32) hx9, 0 ≤ v.toInt ∧ v.toInt ≤ 10000 → jJ jSgX Dy hx9 → jSm fp_X8_at_r47 h hx9 → Q (some (.int v)) hx9) : jC m_X8_at 1 0 0 [.ref 47, .int a1, .int a2] h Q := by
  refine jC.of rfl k_X8_at rfl ?_
  have Sm := jSm_rf fp_X8_at_r47 h
  show jX m_X8_at 1 0 0 0 [(0, .ref 47), (1, .int a1), (2, .int a2)] [] _ 0 0 _
  refine x_iloadn (x := a1) rfl rfl ?_
  refine x_iflt (tgt := 24) rfl rfl (ti_lt rfl jk_0 (br_f (by omega) ?_))
  refine x_iloadn (x := a1) rfl rfl ?_
  refine x_aloadn (x := 47) rfl rfl ?_
  refine z_getI (N := 4) 8 3 rfl f_8_7 rfl J rfl sg_47_3_4_1_0_1 (fun v1 qv1 ev1 => ?_)
  refine x_icge (tgt := 24) rfl rfl (ti_ge rfl rfl ⟨fun c2 => ?_, fun c2 => ?_⟩)
  ·
    exact jX.sub jsb_n (ct_X8_at_r47_24 hD hQ  h J Sm)
  ·
    refine x_iloadn (x := a2) rfl rfl ?_
    refine x_iflt (tgt := 24) rfl rfl (ti_lt rfl jk_0 (br_f (by omega) ?_))
    refine x_iloadn (x := a2) rfl rfl ?_
    refine x_aloadn (x := 47) rfl rfl ?_
    refine z_getC (N := 4) (v := 4) 8 0 rfl f_8_19 rfl J rfl sg_47_0_1_1_0_1 jk_4 ?_
    refine x_iclt (tgt := 26) rfl rfl (ti_lt rfl jk_4 (br_t (by omega) ?_))
    refine x_aloadn (x := 47) rfl rfl ?_
    refine z_getR (N := 4) (b := 48) 8 2 rfl f_8_25 rfl J rfl 6018 ⟨rfl, rfl⟩ rfl ?_
    refine x_iloadn (x := a1) rfl rfl ?_
    refine x_aloadn (x := 47) rfl rfl ?_
    refine z_getC (N := 4) (v := 4) 8 0 rfl f_8_19 rfl J rfl sg_47_0_1_1_0_1 jk_4 ?_
    refine z_imul rfl rfl jk_4 (by omega) (fun v3 ev3 => ?_)
    refine x_iloadn (x := a2) rfl rfl ?_
    refine z_iadd rfl rfl rfl (by omega) (fun v4 ev4 => ?_)
    refine z_iald (N := 400) rfl J rfl sg_48_0_400_4_3_4 rfl (by omega) (fun v5 qv5 ev5 => ?_)
    refine x_iret rfl rfl ?_
    exact hQ _ _ (jr_of rfl (by omega)) J Sm
def fp_X8_at_r47_c1 : jFp := []
set_option maxRecDepth 100000 in
set_option maxHeartbeats 4000000 in
theorem ct_X8_at_r47_c1_24 {Dy : jH → Prop} {h0 : jH} {Q : Option Value → jH → Prop} (hD : jDk Dy) (hQ : ∀ (v : Int32) hx9, 0 ≤ v.toInt ∧ v.toInt ≤ 146399 → jJ jSgX Dy hx9 → jSm fp_X8_at_r47_c1 h0 hx9 → Q (some (.int v)) hx9) : ∀ (h : jH), jJ jSgX Dy h → jSm fp_X8_at_r47_c1 h0 h → jX m_X8_at 1 0 0 24 [] [] h 0 0 Q := by
  intro  h    J Sm
  refine x_iconst (v := 0) rfl ki_0 ?_
  refine x_iret rfl rfl ?_
  exact hQ _ _ (jr_of jk_0 (by omega)) J Sm
set_option maxRecDepth 100000 in
set_option maxHeartbeats 4000000 in
theorem sf_X8_at_r47_c1 {Dy : jH → Prop} {h : jH} {Q : Option Value → jH → Prop} {a1 : Int32} (y1 : 0 ≤ a1.toInt ∧ a1.toInt ≤ 99) (hD : jDk Dy) (J : jJ jSgX Dy h) (hQ : ∀ (v : Int32) hx9, 0 ≤ v.toInt ∧ v.toInt ≤ 146399 → jJ jSgX Dy hx9 → jSm fp_X8_at_r47_c1 h hx9 → Q (some (.int v)) hx9) : jC m_X8_at 1 0 0 [.ref 47, .int a1, .int 1] h Q := by
  refine jC.of rfl k_X8_at rfl ?_
  have Sm := jSm_rf fp_X8_at_r47_c1 h
  show jX m_X8_at 1 0 0 0 [(0, .ref 47), (1, .int a1), (2, .int 1)] [] _ 0 0 _
  refine x_iloadn (x := a1) rfl rfl ?_
  refine x_iflt (tgt := 24) rfl rfl (ti_lt rfl jk_0 (br_f (by omega) ?_))
  refine x_iloadn (x := a1) rfl rfl ?_
  refine x_aloadn (x := 47) rfl rfl ?_
  refine z_getI (N := 4) 8 3 rfl f_8_7 rfl J rfl sg_47_3_4_1_0_1 (fun v1 qv1 ev1 => ?_)
  refine x_icge (tgt := 24) rfl rfl (ti_ge rfl rfl ⟨fun c2 => ?_, fun c2 => ?_⟩)
  ·
    exact jX.sub jsb_n (ct_X8_at_r47_c1_24 hD hQ  h J Sm)
  ·
    refine x_iloadn (x := 1) rfl rfl ?_
    refine x_iflt (tgt := 24) rfl rfl (ti_lt jk_1 jk_0 (br_f (by omega) ?_))
    refine x_iloadn (x := 1) rfl rfl ?_
    refine x_aloadn (x := 47) rfl rfl ?_
    refine z_getC (N := 4) (v := 4) 8 0 rfl f_8_19 rfl J rfl sg_47_0_1_1_0_1 jk_4 ?_
    refine x_iclt (tgt := 26) rfl rfl (ti_lt jk_1 jk_4 (br_t (by omega) ?_))
    refine x_aloadn (x := 47) rfl rfl ?_
    refine z_getR (N := 4) (b := 48) 8 2 rfl f_8_25 rfl J rfl 6018 ⟨rfl, rfl⟩ rfl ?_
    refine x_iloadn (x := a1) rfl rfl ?_
    refine x_aloadn (x := 47) rfl rfl ?_
    refine z_getC (N := 4) (v := 4) 8 0 rfl f_8_19 rfl J rfl sg_47_0_1_1_0_1 jk_4 ?_
    refine z_imul rfl rfl jk_4 (by omega) (fun v3 ev3 => ?_)
    refine x_iloadn (x := 1) rfl rfl ?_
    refine z_iadd rfl rfl jk_1 (by omega) (fun v4 ev4 => ?_)
    refine z_iald (N := 400) rfl J rfl sg_48_0_400_4_1_2 rfl (by omega) (fun v5 qv5 ev5 => ?_)
    refine x_iret rfl rfl ?_
    exact hQ _ _ (jr_of rfl (by omega)) J Sm
def fp_X8_at_r47_c2 : jFp := []
set_option maxRecDepth 100000 in
set_option maxHeartbeats 4000000 in
theorem ct_X8_at_r47_c2_24 {Dy : jH → Prop} {h0 : jH} {Q : Option Value → jH → Prop} (hD : jDk Dy) (hQ : ∀ (v : Int32) hx9, 0 ≤ v.toInt ∧ v.toInt ≤ 39 → jJ jSgX Dy hx9 → jSm fp_X8_at_r47_c2 h0 hx9 → Q (some (.int v)) hx9) : ∀ (h : jH), jJ jSgX Dy h → jSm fp_X8_at_r47_c2 h0 h → jX m_X8_at 1 0 0 24 [] [] h 0 0 Q := by
  intro  h    J Sm
  refine x_iconst (v := 0) rfl ki_0 ?_
  refine x_iret rfl rfl ?_
  exact hQ _ _ (jr_of jk_0 (by omega)) J Sm
set_option maxRecDepth 100000 in
set_option maxHeartbeats 4000000 in
theorem sf_X8_at_r47_c2 {Dy : jH → Prop} {h : jH} {Q : Option Value → jH → Prop} {a1 : Int32} (y1 : 0 ≤ a1.toInt ∧ a1.toInt ≤ 99) (hD : jDk Dy) (J : jJ jSgX Dy h) (hQ : ∀ (v : Int32) hx9, 0 ≤ v.toInt ∧ v.toInt ≤ 39 → jJ jSgX Dy hx9 → jSm fp_X8_at_r47_c2 h hx9 → Q (some (.int v)) hx9) : jC m_X8_at 1 0 0 [.ref 47, .int a1, .int 2] h Q := by
  refine jC.of rfl k_X8_at rfl ?_
  have Sm := jSm_rf fp_X8_at_r47_c2 h
  show jX m_X8_at 1 0 0 0 [(0, .ref 47), (1, .int a1), (2, .int 2)] [] _ 0 0 _
  refine x_iloadn (x := a1) rfl rfl ?_
  refine x_iflt (tgt := 24) rfl rfl (ti_lt rfl jk_0 (br_f (by omega) ?_))
  refine x_iloadn (x := a1) rfl rfl ?_
  refine x_aloadn (x := 47) rfl rfl ?_
  refine z_getI (N := 4) 8 3 rfl f_8_7 rfl J rfl sg_47_3_4_1_0_1 (fun v1 qv1 ev1 => ?_)
  refine x_icge (tgt := 24) rfl rfl (ti_ge rfl rfl ⟨fun c2 => ?_, fun c2 => ?_⟩)
  ·
    exact jX.sub jsb_n (ct_X8_at_r47_c2_24 hD hQ  h J Sm)
  ·
    refine x_iloadn (x := 2) rfl rfl ?_
    refine x_iflt (tgt := 24) rfl rfl (ti_lt jk_2 jk_0 (br_f (by omega) ?_))
    refine x_iloadn (x := 2) rfl rfl ?_
    refine x_aloadn (x := 47) rfl rfl ?_
    refine z_getC (N := 4) (v := 4) 8 0 rfl f_8_19 rfl J rfl sg_47_0_1_1_0_1 jk_4 ?_
    refine x_iclt (tgt := 26) rfl rfl (ti_lt jk_2 jk_4 (br_t (by omega) ?_))
    refine x_aloadn (x := 47) rfl rfl ?_
    refine z_getR (N := 4) (b := 48) 8 2 rfl f_8_25 rfl J rfl 6018 ⟨rfl, rfl⟩ rfl ?_
    refine x_iloadn (x := a1) rfl rfl ?_
    refine x_aloadn (x := 47) rfl rfl ?_
    refine z_getC (N := 4) (v := 4) 8 0 rfl f_8_19 rfl J rfl sg_47_0_1_1_0_1 jk_4 ?_
    refine z_imul rfl rfl jk_4 (by omega) (fun v3 ev3 => ?_)
    refine x_iloadn (x := 2) rfl rfl ?_
    refine z_iadd rfl rfl jk_2 (by omega) (fun v4 ev4 => ?_)
    refine z_iald (N := 400) rfl J rfl sg_48_0_400_4_2_3 rfl (by omega) (fun v5 qv5 ev5 => ?_)
    refine x_iret rfl rfl ?_
    exact hQ _ _ (jr_of rfl (by omega)) J Sm
def fp_X8_isKnown_r47 : jFp := []
set_option maxRecDepth 100000 in
set_option maxHeartbeats 4000000 in
theorem ct_X8_isKnown_r47_300032 {Dy : jH → Prop} {h0 : jH} {Q : Option Value → jH → Prop} (hD : jDk Dy) (hQ : ∀ (v : Int32) hx9, 0 ≤ v.toInt ∧ v.toInt ≤ 1 → jJ jSgX Dy hx9 → jSm fp_X8_isKnown_r47 h0 hx9 → Q (some (.int v)) hx9) : ∀ (h : jH), jJ jSgX Dy h → jSm fp_X8_isKnown_r47 h0 h → jX m_X8_isKnown 1 0 0 32 [] [.int 1] h 0 0 Q := by
  intro  h    J Sm
  refine x_zret rfl rfl (by decide) ?_
  exact hQ _ _ (jr_of jk_1 (by omega)) J Sm
set_option maxRecDepth 100000 in
set_option maxHeartbeats 4000000 in
theorem ct_X8_isKnown_r47_200032 {Dy : jH → Prop} {h0 : jH} {Q : Option Value → jH → Prop} (hD : jDk Dy) (hQ : ∀ (v : Int32) hx9, 0 ≤ v.toInt ∧ v.toInt ≤ 1 → jJ jSgX Dy hx9 → jSm fp_X8_isKnown_r47 h0 hx9 → Q (some (.int v)) hx9) : ∀ (h : jH), jJ jSgX Dy h → jSm fp_X8_isKnown_r47 h0 h → jX m_X8_isKnown 1 0 0 32 [] [.int 0] h 0 0 Q := by
  intro  h    J Sm
  refine x_zret rfl rfl (by decide) ?_
  exact hQ _ _ (jr_of jk_0 (by omega)) J Sm
set_option maxRecDepth 100000 in
set_option maxHeartbeats 4000000 in
theorem ct_X8_isKnown_r47_31 {Dy : jH → Prop} {h0 : jH} {Q : Option Value → jH → Prop} (hD : jDk Dy) (hQ : ∀ (v : Int32) hx9, 0 ≤ v.toInt ∧ v.toInt ≤ 1 → jJ jSgX Dy hx9 → jSm fp_X8_isKnown_r47 h0 hx9 → Q (some (.int v)) hx9) : ∀ (h : jH), jJ jSgX Dy h → jSm fp_X8_isKnown_r47 h0 h → jX m_X8_isKnown 1 0 0 31 [] [] h 0 0 Q := by
  intro  h    J Sm
  refine x_iconst (v := 0) rfl ki_0 ?_
  exact jX.sub jsb_n (ct_X8_isKnown_r47_200032 hD hQ  h J Sm)
set_option maxRecDepth 100000 in
set_option maxHeartbeats 4000000 in
theorem sf_X8_isKnown_r47 {Dy : jH → Prop} {h : jH} {Q : Option Value → jH → Prop} {a1 : Int32} {a2 : Int32} (y1 : 0 ≤ a1.toInt ∧ a1.toInt ≤ 99) (y2 : 0 ≤ a2.toInt ∧ a2.toInt ≤ 146399) (hD : jDk Dy) (J : jJ jSgX Dy h) (hQ : ∀ (v : Int32) hx9, 0 ≤ v.toInt ∧ v.toInt ≤ 1 → jJ jSgX Dy hx9 → jSm fp_X8_isKnown_r47 h hx9 → Q (some (.int v)) hx9) : jC m_X8_isKnown 1 0 0 [.ref 47, .int a1, .int a2] h Q := by
  refine jC.of rfl k_X8_isKnown rfl ?_
  have Sm := jSm_rf fp_X8_isKnown_r47 h
  show jX m_X8_isKnown 1 0 0 0 [(0, .ref 47), (1, .int a1), (2, .int a2)] [] _ 0 0 _
  refine x_iloadn (x := a1) rfl rfl ?_
  refine x_iflt (tgt := 31) rfl rfl (ti_lt rfl jk_0 (br_f (by omega) ?_))
  refine x_iloadn (x := a1) rfl rfl ?_
  refine x_aloadn (x := 47) rfl rfl ?_
  refine z_getI (N := 4) 8 3 rfl f_8_7 rfl J rfl sg_47_3_4_1_0_1 (fun v1 qv1 ev1 => ?_)
  refine x_icge (tgt := 31) rfl rfl (ti_ge rfl rfl ⟨fun c2 => ?_, fun c2 => ?_⟩)
  ·
    exact jX.sub jsb_n (ct_X8_isKnown_r47_31 hD hQ  h J Sm)
  ·
    refine x_aloadn (x := 47) rfl rfl ?_
    refine z_getR (N := 4) (b := 48) 8 2 rfl f_8_25 rfl J rfl 6018 ⟨rfl, rfl⟩ rfl ?_
    refine x_iloadn (x := a1) rfl rfl ?_
    refine x_aloadn (x := 47) rfl rfl ?_
    refine z_getC (N := 4) (v := 4) 8 0 rfl f_8_19 rfl J rfl sg_47_0_1_1_0_1 jk_4 ?_
    refine z_imul rfl rfl jk_4 (by omega) (fun v3 ev3 => ?_)
    refine z_iald (N := 400) rfl J rfl sg_48_0_400_4_0_1 rfl (by omega) (fun v4 qv4 ev4 => ?_)
    refine x_iloadn (x := a2) rfl rfl ?_
    refine x_icgt (tgt := 31) rfl rfl (ti_gt rfl rfl ⟨fun c5 => ?_, fun c5 => ?_⟩)
    ·
      exact jX.sub jsb_n (ct_X8_isKnown_r47_31 hD hQ  h J Sm)
    ·
      refine x_iconst (v := 1) rfl ki_1 ?_
      refine x_goto (tgt := 32) rfl rfl ?_
      exact jX.sub jsb_n (ct_X8_isKnown_r47_300032 hD hQ  h J Sm)
def fp_X0_readLatest_r98_r47_r102 : jFp := [(102, 0, 40), (104, 0, 40)]
set_option maxRecDepth 100000 in
set_option maxHeartbeats 4000000 in
theorem ct_X0_readLatest_r98_r47_r102_155 {Dy : jH → Prop} {h0 : jH} {Q : Option Value → jH → Prop} {R55 : Int} (hD : jDk Dy) (hQ : ∀ hx9, jJ jSgX Dy hx9 → jSm fp_X0_readLatest_r98_r47_r102 h0 hx9 → Q none hx9) (k55 : ∀ (l2 : Int32) (l5 : Int32) (h : jH), 100 - l5.toInt < R55 → 3 ≤ l2.toInt ∧ l2.toInt ≤ 3 → 0 ≤ l5.toInt ∧ l5.toInt ≤ 100 → jJ jSgX Dy h → jSm fp_X0_readLatest_r98_r47_r102 h0 h → jX m_X0_readLatest 2 0 0 55 [(0, .ref 98), (1, .ref 47), (2, .int l2), (3, .ref 102), (5, .int l5)] [] h 0 0 Q) : ∀ (l2 : Int32) (l5 : Int32) (h : jH), 3 ≤ l2.toInt ∧ l2.toInt ≤ 3 → 0 ≤ l5.toInt ∧ l5.toInt ≤ 99 → 100 - l5.toInt ≤ R55 → jJ jSgX Dy h → jSm fp_X0_readLatest_r98_r47_r102 h0 h → jX m_X0_readLatest 2 0 0 155 [(0, .ref 98), (1, .ref 47), (2, .int l2), (3, .ref 102), (5, .int l5)] [] h 0 0 Q := by
  intro l2 l5 h y0 y1  m55 J Sm
  refine z_iinc (x := l5) (lsx9 := fun v1 => [(5, .int v1), (0, .ref 98), (1, .ref 47), (2, .int l2), (3, .ref 102)]) rfl rfl rfl jko_1 (by omega) rfl (fun _ => rfl) (fun v1 ev1 => ?_)
  refine x_goto (tgt := 55) rfl rfl ?_
  exact jX.sub (jsb_c rfl (jsb_c rfl (jsb_c rfl (jsb_c rfl (jsb_c rfl jsb_n))))) (k55 l2 v1 h (by omega) (jr_of rfl (by omega)) (jr_of rfl (by omega)) J Sm)
set_option maxRecDepth 100000 in
set_option maxHeartbeats 4000000 in
theorem ct_X0_readLatest_r98_r47_r102_55 {Dy : jH → Prop} {h0 : jH} {Q : Option Value → jH → Prop} (hD : jDk Dy) (hQ : ∀ hx9, jJ jSgX Dy hx9 → jSm fp_X0_readLatest_r98_r47_r102 h0 hx9 → Q none hx9) : ∀ r : Nat, ∀ (l2 : Int32) (l5 : Int32) (h : jH), 100 - l5.toInt < (r : Int) → 3 ≤ l2.toInt ∧ l2.toInt ≤ 3 → 0 ≤ l5.toInt ∧ l5.toInt ≤ 100 → jJ jSgX Dy h → jSm fp_X0_readLatest_r98_r47_r102 h0 h → jX m_X0_readLatest 2 0 0 55 [(0, .ref 98), (1, .ref 47), (2, .int l2), (3, .ref 102), (5, .int l5)] [] h 0 0 Q := by
  intro r
  induction r with
  | zero =>
    intro l2 l5 h hm y0 y1   J Sm
    exfalso
    omega
  | succ r ih =>
    intro l2 l5 h hm y0 y1   J Sm
    refine x_iload (x := l5) rfl rfl ?_
    refine x_aloadn (x := 47) rfl rfl ?_
    refine z_getI (N := 4) 8 3 rfl f_0_124 rfl J rfl sg_47_3_4_1_0_1 (fun v1 qv1 ev1 => ?_)
    refine x_icge (tgt := 161) rfl rfl (ti_ge rfl rfl ⟨fun c2 => ?_, fun c2 => ?_⟩)
    ·
      refine x_vret rfl rfl ?_
      exact hQ _ J Sm
    ·
      refine x_aloadn (x := 47) rfl rfl ?_
      refine x_iload (x := l5) rfl rfl ?_
      refine x_iconst (v := 2) rfl ki_2 ?_
      refine x_inv (N := m_X8_at) (As := [.int l5, .int 2]) (b := 47) (st := []) (dx9 := 1) (mc := 0) (ms := 0) (host := "") 8 rfl t_X8_at ⟨Or.inl q_0_145, i_X8_at.1, i_X8_at.2⟩ ⟨by decide, rfl⟩ (congrArg Prod.fst (J.1.1 47 (8, 4) rfl)) rfl (by decide) rfl rfl ⟨by decide, by decide⟩ (sf_X8_at_r47_c2 (jr_of rfl (by omega)) hD J  (fun v4 h ev4 J S3 => ?_))
      have Sm := jSm_tr rfl Sm S3
      show jX m_X0_readLatest 2 0 0 71 [(0, .ref 98), (1, .ref 47), (2, .int l2), (3, .ref 102), (5, .int l5)] [.int v4] _ 0 0 _
      refine x_istore (lsx9 := [(6, .int v4), (0, .ref 98), (1, .ref 47), (2, .int l2), (3, .ref 102), (5, .int l5)]) rfl rfl rfl ?_
      refine x_aloadn (x := 47) rfl rfl ?_
      refine x_iload (x := l5) rfl rfl ?_
      refine x_iconst (v := 1) rfl ki_1 ?_
      refine x_inv (N := m_X8_at) (As := [.int l5, .int 1]) (b := 47) (st := []) (dx9 := 1) (mc := 0) (ms := 0) (host := "") 8 rfl t_X8_at ⟨Or.inl q_0_145, i_X8_at.1, i_X8_at.2⟩ ⟨by decide, rfl⟩ (congrArg Prod.fst (J.1.1 47 (8, 4) rfl)) rfl (by decide) rfl rfl ⟨by decide, by decide⟩ (sf_X8_at_r47_c1 (jr_of rfl (by omega)) hD J  (fun v6 h ev6 J S5 => ?_))
      have Sm := jSm_tr rfl Sm S5
      show jX m_X0_readLatest 2 0 0 80 [(6, .int v4), (0, .ref 98), (1, .ref 47), (2, .int l2), (3, .ref 102), (5, .int l5)] [.int v6] _ 0 0 _
      refine x_istore (lsx9 := [(7, .int v6), (6, .int v4), (0, .ref 98), (1, .ref 47), (2, .int l2), (3, .ref 102), (5, .int l5)]) rfl rfl rfl ?_
      refine x_aloadn (x := 47) rfl rfl ?_
      refine x_iload (x := l5) rfl rfl ?_
      refine x_aloadn (x := 98) rfl rfl ?_
      refine z_getI (N := 16) 0 11 rfl f_0_41 rfl J rfl sg_98_11_12_1_0_1 (fun v7 qv7 ev7 => ?_)
      refine x_inv (N := m_X8_isKnown) (As := [.int l5, .int v7]) (b := 47) (st := []) (dx9 := 1) (mc := 0) (ms := 0) (host := "") 8 rfl t_X8_isKnown ⟨Or.inl q_0_151, i_X8_isKnown.1, i_X8_isKnown.2⟩ ⟨by decide, rfl⟩ (congrArg Prod.fst (J.1.1 47 (8, 4) rfl)) rfl (by decide) rfl rfl ⟨by decide, by decide⟩ (sf_X8_isKnown_r47 (jr_of rfl (by omega)) (jr_of rfl (by omega)) hD J  (fun v9 h ev9 J S8 => ?_))
      have Sm := jSm_tr rfl Sm S8
      show jX m_X0_readLatest 2 0 0 92 [(7, .int v6), (6, .int v4), (0, .ref 98), (1, .ref 47), (2, .int l2), (3, .ref 102), (5, .int l5)] [.int v9] _ 0 0 _
      refine x_ifeq (tgt := 155) rfl rfl (ti_eq rfl jk_0 ⟨fun c10 => ?_, fun c10 => ?_⟩)
      ·
        exact jX.sub (jsb_c rfl (jsb_c rfl (jsb_c rfl (jsb_c rfl (jsb_c rfl jsb_n))))) (ct_X0_readLatest_r98_r47_r102_155 hD hQ ih l2 l5 h (jr_of rfl (by omega)) (jr_of rfl (by omega)) (by omega) J Sm)
      ·
        refine x_iload (x := v6) rfl rfl ?_
        refine x_aloadn (x := 98) rfl rfl ?_
        refine z_getI (N := 16) 0 10 rfl f_0_37 rfl J rfl sg_98_10_11_1_0_1 (fun v11 qv11 ev11 => ?_)
        refine x_icgt (tgt := 155) rfl rfl (ti_gt rfl rfl ⟨fun c12 => ?_, fun c12 => ?_⟩)
        ·
          exact jX.sub (jsb_c rfl (jsb_c rfl (jsb_c rfl (jsb_c rfl (jsb_c rfl jsb_n))))) (ct_X0_readLatest_r98_r47_r102_155 hD hQ ih l2 l5 h (jr_of rfl (by omega)) (jr_of rfl (by omega)) (by omega) J Sm)
        ·
          refine x_iload (x := v4) rfl rfl ?_
          refine x_iflt (tgt := 155) rfl rfl (ti_lt rfl jk_0 (br_f (by omega) ?_))
          refine x_iload (x := v4) rfl rfl ?_
          refine x_bipush (v := 40) rfl kb_40 ?_
          refine x_icge (tgt := 155) rfl rfl (ti_ge rfl jk_40 (br_f (by omega) ?_))
          refine x_iload (x := v4) rfl rfl ?_
          refine x_aloadn (x := 102) rfl rfl ?_
          refine z_alen (N := 40) (v := 40) rfl J rfl rfl (by decide) ?_
          refine x_icge (tgt := 155) rfl rfl (ti_ge rfl jk_40 (br_f (by omega) ?_))
          refine x_iload (x := v6) rfl rfl ?_
          refine x_aloadn (x := 98) rfl rfl ?_
          refine z_getR (N := 16) (b := 104) 0 7 rfl f_0_27 rfl J rfl 12551 ⟨rfl, rfl⟩ rfl ?_
          refine x_iload (x := v4) rfl rfl ?_
          refine z_iald (N := 40) rfl J rfl sg_104_0_40_1_0_1 rfl (by omega) (fun v13 qv13 ev13 => ?_)
          refine x_iclt (tgt := 155) rfl rfl (ti_lt rfl rfl ⟨fun c14 => ?_, fun c14 => ?_⟩)
          ·
            exact jX.sub (jsb_c rfl (jsb_c rfl (jsb_c rfl (jsb_c rfl (jsb_c rfl jsb_n))))) (ct_X0_readLatest_r98_r47_r102_155 hD hQ ih l2 l5 h (jr_of rfl (by omega)) (jr_of rfl (by omega)) (by omega) J Sm)
          ·
            refine x_aloadn (x := 98) rfl rfl ?_
            refine z_getR (N := 16) (b := 104) 0 7 rfl f_0_27 rfl J rfl 12551 ⟨rfl, rfl⟩ rfl ?_
            refine x_iload (x := v4) rfl rfl ?_
            refine x_iload (x := v6) rfl rfl ?_
            refine z_iast (N := 40) (l := 0) (u := 40) (w := v6.toInt) rfl hD J Sm rfl rfl rfl (by omega) rfl (wr_104 (fun q1 q2 q3 q4 => by omega)) rfl (fun h w15 J Sm => ?_)
            refine x_aloadn (x := 102) rfl rfl ?_
            refine x_iload (x := v4) rfl rfl ?_
            refine x_aloadn (x := 47) rfl rfl ?_
            refine x_iload (x := l5) rfl rfl ?_
            refine x_iloadn (x := l2) rfl rfl ?_
            refine x_inv (N := m_X8_at) (As := [.int l5, .int l2]) (b := 47) (st := [.int v4, .ref 102]) (dx9 := 1) (mc := 0) (ms := 0) (host := "") 8 rfl t_X8_at ⟨Or.inl q_0_145, i_X8_at.1, i_X8_at.2⟩ ⟨by decide, rfl⟩ (congrArg Prod.fst (J.1.1 47 (8, 4) rfl)) rfl (by decide) rfl rfl ⟨by decide, by decide⟩ (sf_X8_at_r47 (jr_of rfl (by omega)) (jr_of rfl (by omega)) hD J  (fun v17 h ev17 J S16 => ?_))
            have Sm := jSm_tr rfl Sm S16
            show jX m_X0_readLatest 2 0 0 154 [(7, .int v6), (6, .int v4), (0, .ref 98), (1, .ref 47), (2, .int l2), (3, .ref 102), (5, .int l5)] [.int v17, .int v4, .ref 102] _ 0 0 _
            refine z_iast (N := 40) (l := 0) (u := 40) (w := v17.toInt) rfl hD J Sm rfl rfl rfl (by omega) rfl (wr_102) rfl (fun h w18 J Sm => ?_)
            exact jX.sub (jsb_c rfl (jsb_c rfl (jsb_c rfl (jsb_c rfl (jsb_c rfl jsb_n))))) (ct_X0_readLatest_r98_r47_r102_155 hD hQ ih l2 l5 h (jr_of rfl (by omega)) (jr_of rfl (by omega)) (by omega) J Sm)
set_option maxRecDepth 100000 in
set_option maxHeartbeats 4000000 in
theorem ct_X0_readLatest_r98_r47_r102_52 {Dy : jH → Prop} {h0 : jH} {Q : Option Value → jH → Prop} (hD : jDk Dy) (hQ : ∀ hx9, jJ jSgX Dy hx9 → jSm fp_X0_readLatest_r98_r47_r102 h0 hx9 → Q none hx9) : ∀ (l2 : Int32) (h : jH), 3 ≤ l2.toInt ∧ l2.toInt ≤ 3 → jJ jSgX Dy h → jSm fp_X0_readLatest_r98_r47_r102 h0 h → jX m_X0_readLatest 2 0 0 52 [(0, .ref 98), (1, .ref 47), (2, .int l2), (3, .ref 102)] [] h 0 0 Q := by
  intro l2 h y0   J Sm
  refine x_iconst (v := 0) rfl ki_0 ?_
  refine x_istore (lsx9 := [(5, .int 0), (0, .ref 98), (1, .ref 47), (2, .int l2), (3, .ref 102)]) rfl rfl rfl ?_
  exact jX.sub (jsb_c rfl (jsb_c rfl (jsb_c rfl (jsb_c rfl (jsb_c rfl jsb_n))))) (ct_X0_readLatest_r98_r47_r102_55 hD hQ  101 l2 0 h (by have := jk_0; omega) (jr_of rfl (by omega)) (jr_of jk_0 (by omega)) J Sm)
set_option maxRecDepth 100000 in
set_option maxHeartbeats 4000000 in
theorem ct_X0_readLatest_r98_r47_r102_3 {Dy : jH → Prop} {h0 : jH} {Q : Option Value → jH → Prop} (hD : jDk Dy) (hQ : ∀ hx9, jJ jSgX Dy hx9 → jSm fp_X0_readLatest_r98_r47_r102 h0 hx9 → Q none hx9) : ∀ r : Nat, ∀ (l2 : Int32) (l4 : Int32) (l5 : Int32) (h : jH), 40 - l5.toInt < (r : Int) → 3 ≤ l2.toInt ∧ l2.toInt ≤ 3 → 0 ≤ l4.toInt ∧ l4.toInt ≤ 0 → 0 ≤ l5.toInt ∧ l5.toInt ≤ 40 → jJ jSgX Dy h → jSm fp_X0_readLatest_r98_r47_r102 h0 h → jX m_X0_readLatest 2 0 0 3 [(0, .ref 98), (1, .ref 47), (2, .int l2), (3, .ref 102), (4, .int l4), (5, .int l5)] [] h 0 0 Q := by
  intro r
  induction r with
  | zero =>
    intro l2 l4 l5 h hm y0 y1 y2   J Sm
    exfalso
    omega
  | succ r ih =>
    intro l2 l4 l5 h hm y0 y1 y2   J Sm
    refine x_iload (x := l5) rfl rfl ?_
    refine x_bipush (v := 40) rfl kb_40 ?_
    refine x_icge (tgt := 52) rfl rfl (ti_ge rfl jk_40 ⟨fun c1 => ?_, fun c1 => ?_⟩)
    ·
      exact jX.sub (jsb_c rfl (jsb_c rfl (jsb_c rfl (jsb_c rfl jsb_n)))) (ct_X0_readLatest_r98_r47_r102_52 hD hQ  l2 h (jr_of rfl (by omega)) J Sm)
    ·
      refine x_iload (x := l5) rfl rfl ?_
      refine x_aloadn (x := 98) rfl rfl ?_
      refine z_getR (N := 16) (b := 32) 0 0 rfl f_0_57 rfl J rfl 12544 ⟨rfl, rfl⟩ rfl ?_
      refine z_getR (N := 20) (b := 49) 1 8 rfl f_0_120 rfl J rfl 4104 ⟨rfl, rfl⟩ rfl ?_
      refine z_getI (N := 4) 8 3 rfl f_0_124 rfl J rfl sg_49_3_4_1_0_1 (fun v2 qv2 ev2 => ?_)
      refine x_icge (tgt := 52) rfl rfl (ti_ge rfl rfl ⟨fun c3 => ?_, fun c3 => ?_⟩)
      ·
        exact jX.sub (jsb_c rfl (jsb_c rfl (jsb_c rfl (jsb_c rfl jsb_n)))) (ct_X0_readLatest_r98_r47_r102_52 hD hQ  l2 h (jr_of rfl (by omega)) J Sm)
      ·
        refine x_iload (x := l5) rfl rfl ?_
        refine x_aloadn (x := 102) rfl rfl ?_
        refine z_alen (N := 40) (v := 40) rfl J rfl rfl (by decide) ?_
        refine x_icge (tgt := 52) rfl rfl (ti_ge rfl jk_40 (br_f (by omega) ?_))
        refine x_aloadn (x := 102) rfl rfl ?_
        refine x_iload (x := l5) rfl rfl ?_
        refine x_iload (x := l4) rfl rfl ?_
        refine z_iast (N := 40) (l := 0) (u := 40) (w := l4.toInt) rfl hD J Sm rfl rfl rfl (by omega) rfl (wr_102) rfl (fun h w4 J Sm => ?_)
        refine x_aloadn (x := 98) rfl rfl ?_
        refine z_getR (N := 16) (b := 104) 0 7 rfl f_0_27 rfl J rfl 12551 ⟨rfl, rfl⟩ rfl ?_
        refine x_iload (x := l5) rfl rfl ?_
        refine x_iconst (v := (-1)) rfl ki_m1 ?_
        refine z_iast (N := 40) (l := 0) (u := 40) (w := (-1)) rfl hD J Sm rfl rfl rfl (by omega) jk_m1 (wr_104 (fun q1 q2 q3 q4 => by omega)) rfl (fun h w5 J Sm => ?_)
        refine z_iinc (x := l5) (lsx9 := fun v6 => [(5, .int v6), (0, .ref 98), (1, .ref 47), (2, .int l2), (3, .ref 102), (4, .int l4)]) rfl rfl rfl jko_1 (by omega) rfl (fun _ => rfl) (fun v6 ev6 => ?_)
        refine x_goto (tgt := 3) rfl rfl ?_
        exact jX.sub (jsb_c rfl (jsb_c rfl (jsb_c rfl (jsb_c rfl (jsb_c rfl (jsb_c rfl jsb_n)))))) (ih l2 l4 v6 h (by omega) (jr_of rfl (by omega)) (jr_of rfl (by omega)) (jr_of rfl (by omega)) J Sm)
set_option maxRecDepth 100000 in
set_option maxHeartbeats 4000000 in
theorem sf_X0_readLatest_r98_r47_r102 {Dy : jH → Prop} {h : jH} {Q : Option Value → jH → Prop} {a1 : Int32} {a2 : Int32} (y1 : 3 ≤ a1.toInt ∧ a1.toInt ≤ 3) (y2 : 0 ≤ a2.toInt ∧ a2.toInt ≤ 0) (hD : jDk Dy) (J : jJ jSgX Dy h) (hQ : ∀ hx9, jJ jSgX Dy hx9 → jSm fp_X0_readLatest_r98_r47_r102 h hx9 → Q none hx9) : jC m_X0_readLatest 2 0 0 [.ref 98, .ref 47, .int a1, .ref 102, .int a2] h Q := by
  refine jC.of rfl k_X0_readLatest rfl ?_
  have Sm := jSm_rf fp_X0_readLatest_r98_r47_r102 h
  show jX m_X0_readLatest 2 0 0 0 [(0, .ref 98), (1, .ref 47), (2, .int a1), (3, .ref 102), (4, .int a2)] [] _ 0 0 _
  refine x_iconst (v := 0) rfl ki_0 ?_
  refine x_istore (lsx9 := [(5, .int 0), (0, .ref 98), (1, .ref 47), (2, .int a1), (3, .ref 102), (4, .int a2)]) rfl rfl rfl ?_
  exact jX.sub (jsb_c rfl (jsb_c rfl (jsb_c rfl (jsb_c rfl (jsb_c rfl (jsb_c rfl jsb_n)))))) (ct_X0_readLatest_r98_r47_r102_3 hD hQ  41 a1 a2 0 h (by have := jk_0; omega) (jr_of rfl (by omega)) (jr_of rfl (by omega)) (jr_of jk_0 (by omega)) J Sm)
def fp_X8_at_r51 : jFp := []
set_option maxRecDepth 100000 in
set_option maxHeartbeats 4000000 in
theorem ct_X8_at_r51_24 {Dy : jH → Prop} {h0 : jH} {Q : Option Value → jH → Prop} (hD : jDk Dy) (hQ : ∀ (v : Int32) hx9, (-1) ≤ v.toInt ∧ v.toInt ≤ 599 → jJ jSgX Dy hx9 → jSm fp_X8_at_r51 h0 hx9 → Q (some (.int v)) hx9) : ∀ (h : jH), jJ jSgX Dy h → jSm fp_X8_at_r51 h0 h → jX m_X8_at 1 0 0 24 [] [] h 0 0 Q := by
  intro  h    J Sm
  refine x_iconst (v := 0) rfl ki_0 ?_
  refine x_iret rfl rfl ?_
  exact hQ _ _ (jr_of jk_0 (by omega)) J Sm
set_option maxRecDepth 100000 in
set_option maxHeartbeats 4000000 in
theorem sf_X8_at_r51 {Dy : jH → Prop} {h : jH} {Q : Option Value → jH → Prop} {a1 : Int32} {a2 : Int32} (y1 : 0 ≤ a1.toInt ∧ a1.toInt ≤ 99) (y2 : 3 ≤ a2.toInt ∧ a2.toInt ≤ 3) (hD : jDk Dy) (J : jJ jSgX Dy h) (hQ : ∀ (v : Int32) hx9, (-1) ≤ v.toInt ∧ v.toInt ≤ 599 → jJ jSgX Dy hx9 → jSm fp_X8_at_r51 h hx9 → Q (some (.int v)) hx9) : jC m_X8_at 1 0 0 [.ref 51, .int a1, .int a2] h Q := by
  refine jC.of rfl k_X8_at rfl ?_
  have Sm := jSm_rf fp_X8_at_r51 h
  show jX m_X8_at 1 0 0 0 [(0, .ref 51), (1, .int a1), (2, .int a2)] [] _ 0 0 _
  refine x_iloadn (x := a1) rfl rfl ?_
  refine x_iflt (tgt := 24) rfl rfl (ti_lt rfl jk_0 (br_f (by omega) ?_))
  refine x_iloadn (x := a1) rfl rfl ?_
  refine x_aloadn (x := 51) rfl rfl ?_
  refine z_getI (N := 4) 8 3 rfl f_8_7 rfl J rfl sg_51_3_4_1_0_1 (fun v1 qv1 ev1 => ?_)
  refine x_icge (tgt := 24) rfl rfl (ti_ge rfl rfl ⟨fun c2 => ?_, fun c2 => ?_⟩)
  ·
    exact jX.sub jsb_n (ct_X8_at_r51_24 hD hQ  h J Sm)
  ·
    refine x_iloadn (x := a2) rfl rfl ?_
    refine x_iflt (tgt := 24) rfl rfl (ti_lt rfl jk_0 (br_f (by omega) ?_))
    refine x_iloadn (x := a2) rfl rfl ?_
    refine x_aloadn (x := 51) rfl rfl ?_
    refine z_getC (N := 4) (v := 4) 8 0 rfl f_8_19 rfl J rfl sg_51_0_1_1_0_1 jk_4 ?_
    refine x_iclt (tgt := 26) rfl rfl (ti_lt rfl jk_4 (br_t (by omega) ?_))
    refine x_aloadn (x := 51) rfl rfl ?_
    refine z_getR (N := 4) (b := 52) 8 2 rfl f_8_25 rfl J rfl 6530 ⟨rfl, rfl⟩ rfl ?_
    refine x_iloadn (x := a1) rfl rfl ?_
    refine x_aloadn (x := 51) rfl rfl ?_
    refine z_getC (N := 4) (v := 4) 8 0 rfl f_8_19 rfl J rfl sg_51_0_1_1_0_1 jk_4 ?_
    refine z_imul rfl rfl jk_4 (by omega) (fun v3 ev3 => ?_)
    refine x_iloadn (x := a2) rfl rfl ?_
    refine z_iadd rfl rfl rfl (by omega) (fun v4 ev4 => ?_)
    refine z_iald (N := 400) rfl J rfl sg_52_0_400_4_3_4 rfl (by omega) (fun v5 qv5 ev5 => ?_)
    refine x_iret rfl rfl ?_
    exact hQ _ _ (jr_of rfl (by omega)) J Sm
def fp_X8_at_r51_c1 : jFp := []
set_option maxRecDepth 100000 in
set_option maxHeartbeats 4000000 in
theorem ct_X8_at_r51_c1_24 {Dy : jH → Prop} {h0 : jH} {Q : Option Value → jH → Prop} (hD : jDk Dy) (hQ : ∀ (v : Int32) hx9, 0 ≤ v.toInt ∧ v.toInt ≤ 146399 → jJ jSgX Dy hx9 → jSm fp_X8_at_r51_c1 h0 hx9 → Q (some (.int v)) hx9) : ∀ (h : jH), jJ jSgX Dy h → jSm fp_X8_at_r51_c1 h0 h → jX m_X8_at 1 0 0 24 [] [] h 0 0 Q := by
  intro  h    J Sm
  refine x_iconst (v := 0) rfl ki_0 ?_
  refine x_iret rfl rfl ?_
  exact hQ _ _ (jr_of jk_0 (by omega)) J Sm
set_option maxRecDepth 100000 in
set_option maxHeartbeats 4000000 in
theorem sf_X8_at_r51_c1 {Dy : jH → Prop} {h : jH} {Q : Option Value → jH → Prop} {a1 : Int32} (y1 : 0 ≤ a1.toInt ∧ a1.toInt ≤ 99) (hD : jDk Dy) (J : jJ jSgX Dy h) (hQ : ∀ (v : Int32) hx9, 0 ≤ v.toInt ∧ v.toInt ≤ 146399 → jJ jSgX Dy hx9 → jSm fp_X8_at_r51_c1 h hx9 → Q (some (.int v)) hx9) : jC m_X8_at 1 0 0 [.ref 51, .int a1, .int 1] h Q := by
  refine jC.of rfl k_X8_at rfl ?_
  have Sm := jSm_rf fp_X8_at_r51_c1 h
  show jX m_X8_at 1 0 0 0 [(0, .ref 51), (1, .int a1), (2, .int 1)] [] _ 0 0 _
  refine x_iloadn (x := a1) rfl rfl ?_
  refine x_iflt (tgt := 24) rfl rfl (ti_lt rfl jk_0 (br_f (by omega) ?_))
  refine x_iloadn (x := a1) rfl rfl ?_
  refine x_aloadn (x := 51) rfl rfl ?_
  refine z_getI (N := 4) 8 3 rfl f_8_7 rfl J rfl sg_51_3_4_1_0_1 (fun v1 qv1 ev1 => ?_)
  refine x_icge (tgt := 24) rfl rfl (ti_ge rfl rfl ⟨fun c2 => ?_, fun c2 => ?_⟩)
  ·
    exact jX.sub jsb_n (ct_X8_at_r51_c1_24 hD hQ  h J Sm)
  ·
    refine x_iloadn (x := 1) rfl rfl ?_
    refine x_iflt (tgt := 24) rfl rfl (ti_lt jk_1 jk_0 (br_f (by omega) ?_))
    refine x_iloadn (x := 1) rfl rfl ?_
    refine x_aloadn (x := 51) rfl rfl ?_
    refine z_getC (N := 4) (v := 4) 8 0 rfl f_8_19 rfl J rfl sg_51_0_1_1_0_1 jk_4 ?_
    refine x_iclt (tgt := 26) rfl rfl (ti_lt jk_1 jk_4 (br_t (by omega) ?_))
    refine x_aloadn (x := 51) rfl rfl ?_
    refine z_getR (N := 4) (b := 52) 8 2 rfl f_8_25 rfl J rfl 6530 ⟨rfl, rfl⟩ rfl ?_
    refine x_iloadn (x := a1) rfl rfl ?_
    refine x_aloadn (x := 51) rfl rfl ?_
    refine z_getC (N := 4) (v := 4) 8 0 rfl f_8_19 rfl J rfl sg_51_0_1_1_0_1 jk_4 ?_
    refine z_imul rfl rfl jk_4 (by omega) (fun v3 ev3 => ?_)
    refine x_iloadn (x := 1) rfl rfl ?_
    refine z_iadd rfl rfl jk_1 (by omega) (fun v4 ev4 => ?_)
    refine z_iald (N := 400) rfl J rfl sg_52_0_400_4_1_2 rfl (by omega) (fun v5 qv5 ev5 => ?_)
    refine x_iret rfl rfl ?_
    exact hQ _ _ (jr_of rfl (by omega)) J Sm
def fp_X8_at_r51_c2 : jFp := []
set_option maxRecDepth 100000 in
set_option maxHeartbeats 4000000 in
theorem ct_X8_at_r51_c2_24 {Dy : jH → Prop} {h0 : jH} {Q : Option Value → jH → Prop} (hD : jDk Dy) (hQ : ∀ (v : Int32) hx9, 0 ≤ v.toInt ∧ v.toInt ≤ 39 → jJ jSgX Dy hx9 → jSm fp_X8_at_r51_c2 h0 hx9 → Q (some (.int v)) hx9) : ∀ (h : jH), jJ jSgX Dy h → jSm fp_X8_at_r51_c2 h0 h → jX m_X8_at 1 0 0 24 [] [] h 0 0 Q := by
  intro  h    J Sm
  refine x_iconst (v := 0) rfl ki_0 ?_
  refine x_iret rfl rfl ?_
  exact hQ _ _ (jr_of jk_0 (by omega)) J Sm
set_option maxRecDepth 100000 in
set_option maxHeartbeats 4000000 in
theorem sf_X8_at_r51_c2 {Dy : jH → Prop} {h : jH} {Q : Option Value → jH → Prop} {a1 : Int32} (y1 : 0 ≤ a1.toInt ∧ a1.toInt ≤ 99) (hD : jDk Dy) (J : jJ jSgX Dy h) (hQ : ∀ (v : Int32) hx9, 0 ≤ v.toInt ∧ v.toInt ≤ 39 → jJ jSgX Dy hx9 → jSm fp_X8_at_r51_c2 h hx9 → Q (some (.int v)) hx9) : jC m_X8_at 1 0 0 [.ref 51, .int a1, .int 2] h Q := by
  refine jC.of rfl k_X8_at rfl ?_
  have Sm := jSm_rf fp_X8_at_r51_c2 h
  show jX m_X8_at 1 0 0 0 [(0, .ref 51), (1, .int a1), (2, .int 2)] [] _ 0 0 _
  refine x_iloadn (x := a1) rfl rfl ?_
  refine x_iflt (tgt := 24) rfl rfl (ti_lt rfl jk_0 (br_f (by omega) ?_))
  refine x_iloadn (x := a1) rfl rfl ?_
  refine x_aloadn (x := 51) rfl rfl ?_
  refine z_getI (N := 4) 8 3 rfl f_8_7 rfl J rfl sg_51_3_4_1_0_1 (fun v1 qv1 ev1 => ?_)
  refine x_icge (tgt := 24) rfl rfl (ti_ge rfl rfl ⟨fun c2 => ?_, fun c2 => ?_⟩)
  ·
    exact jX.sub jsb_n (ct_X8_at_r51_c2_24 hD hQ  h J Sm)
  ·
    refine x_iloadn (x := 2) rfl rfl ?_
    refine x_iflt (tgt := 24) rfl rfl (ti_lt jk_2 jk_0 (br_f (by omega) ?_))
    refine x_iloadn (x := 2) rfl rfl ?_
    refine x_aloadn (x := 51) rfl rfl ?_
    refine z_getC (N := 4) (v := 4) 8 0 rfl f_8_19 rfl J rfl sg_51_0_1_1_0_1 jk_4 ?_
    refine x_iclt (tgt := 26) rfl rfl (ti_lt jk_2 jk_4 (br_t (by omega) ?_))
    refine x_aloadn (x := 51) rfl rfl ?_
    refine z_getR (N := 4) (b := 52) 8 2 rfl f_8_25 rfl J rfl 6530 ⟨rfl, rfl⟩ rfl ?_
    refine x_iloadn (x := a1) rfl rfl ?_
    refine x_aloadn (x := 51) rfl rfl ?_
    refine z_getC (N := 4) (v := 4) 8 0 rfl f_8_19 rfl J rfl sg_51_0_1_1_0_1 jk_4 ?_
    refine z_imul rfl rfl jk_4 (by omega) (fun v3 ev3 => ?_)
    refine x_iloadn (x := 2) rfl rfl ?_
    refine z_iadd rfl rfl jk_2 (by omega) (fun v4 ev4 => ?_)
    refine z_iald (N := 400) rfl J rfl sg_52_0_400_4_2_3 rfl (by omega) (fun v5 qv5 ev5 => ?_)
    refine x_iret rfl rfl ?_
    exact hQ _ _ (jr_of rfl (by omega)) J Sm
def fp_X8_isKnown_r51 : jFp := []
set_option maxRecDepth 100000 in
set_option maxHeartbeats 4000000 in
theorem ct_X8_isKnown_r51_300032 {Dy : jH → Prop} {h0 : jH} {Q : Option Value → jH → Prop} (hD : jDk Dy) (hQ : ∀ (v : Int32) hx9, 0 ≤ v.toInt ∧ v.toInt ≤ 1 → jJ jSgX Dy hx9 → jSm fp_X8_isKnown_r51 h0 hx9 → Q (some (.int v)) hx9) : ∀ (h : jH), jJ jSgX Dy h → jSm fp_X8_isKnown_r51 h0 h → jX m_X8_isKnown 1 0 0 32 [] [.int 1] h 0 0 Q := by
  intro  h    J Sm
  refine x_zret rfl rfl (by decide) ?_
  exact hQ _ _ (jr_of jk_1 (by omega)) J Sm
set_option maxRecDepth 100000 in
set_option maxHeartbeats 4000000 in
theorem ct_X8_isKnown_r51_200032 {Dy : jH → Prop} {h0 : jH} {Q : Option Value → jH → Prop} (hD : jDk Dy) (hQ : ∀ (v : Int32) hx9, 0 ≤ v.toInt ∧ v.toInt ≤ 1 → jJ jSgX Dy hx9 → jSm fp_X8_isKnown_r51 h0 hx9 → Q (some (.int v)) hx9) : ∀ (h : jH), jJ jSgX Dy h → jSm fp_X8_isKnown_r51 h0 h → jX m_X8_isKnown 1 0 0 32 [] [.int 0] h 0 0 Q := by
  intro  h    J Sm
  refine x_zret rfl rfl (by decide) ?_
  exact hQ _ _ (jr_of jk_0 (by omega)) J Sm
set_option maxRecDepth 100000 in
set_option maxHeartbeats 4000000 in
theorem ct_X8_isKnown_r51_31 {Dy : jH → Prop} {h0 : jH} {Q : Option Value → jH → Prop} (hD : jDk Dy) (hQ : ∀ (v : Int32) hx9, 0 ≤ v.toInt ∧ v.toInt ≤ 1 → jJ jSgX Dy hx9 → jSm fp_X8_isKnown_r51 h0 hx9 → Q (some (.int v)) hx9) : ∀ (h : jH), jJ jSgX Dy h → jSm fp_X8_isKnown_r51 h0 h → jX m_X8_isKnown 1 0 0 31 [] [] h 0 0 Q := by
  intro  h    J Sm
  refine x_iconst (v := 0) rfl ki_0 ?_
  exact jX.sub jsb_n (ct_X8_isKnown_r51_200032 hD hQ  h J Sm)
set_option maxRecDepth 100000 in
set_option maxHeartbeats 4000000 in
theorem sf_X8_isKnown_r51 {Dy : jH → Prop} {h : jH} {Q : Option Value → jH → Prop} {a1 : Int32} {a2 : Int32} (y1 : 0 ≤ a1.toInt ∧ a1.toInt ≤ 99) (y2 : 0 ≤ a2.toInt ∧ a2.toInt ≤ 146399) (hD : jDk Dy) (J : jJ jSgX Dy h) (hQ : ∀ (v : Int32) hx9, 0 ≤ v.toInt ∧ v.toInt ≤ 1 → jJ jSgX Dy hx9 → jSm fp_X8_isKnown_r51 h hx9 → Q (some (.int v)) hx9) : jC m_X8_isKnown 1 0 0 [.ref 51, .int a1, .int a2] h Q := by
  refine jC.of rfl k_X8_isKnown rfl ?_
  have Sm := jSm_rf fp_X8_isKnown_r51 h
  show jX m_X8_isKnown 1 0 0 0 [(0, .ref 51), (1, .int a1), (2, .int a2)] [] _ 0 0 _
  refine x_iloadn (x := a1) rfl rfl ?_
  refine x_iflt (tgt := 31) rfl rfl (ti_lt rfl jk_0 (br_f (by omega) ?_))
  refine x_iloadn (x := a1) rfl rfl ?_
  refine x_aloadn (x := 51) rfl rfl ?_
  refine z_getI (N := 4) 8 3 rfl f_8_7 rfl J rfl sg_51_3_4_1_0_1 (fun v1 qv1 ev1 => ?_)
  refine x_icge (tgt := 31) rfl rfl (ti_ge rfl rfl ⟨fun c2 => ?_, fun c2 => ?_⟩)
  ·
    exact jX.sub jsb_n (ct_X8_isKnown_r51_31 hD hQ  h J Sm)
  ·
    refine x_aloadn (x := 51) rfl rfl ?_
    refine z_getR (N := 4) (b := 52) 8 2 rfl f_8_25 rfl J rfl 6530 ⟨rfl, rfl⟩ rfl ?_
    refine x_iloadn (x := a1) rfl rfl ?_
    refine x_aloadn (x := 51) rfl rfl ?_
    refine z_getC (N := 4) (v := 4) 8 0 rfl f_8_19 rfl J rfl sg_51_0_1_1_0_1 jk_4 ?_
    refine z_imul rfl rfl jk_4 (by omega) (fun v3 ev3 => ?_)
    refine z_iald (N := 400) rfl J rfl sg_52_0_400_4_0_1 rfl (by omega) (fun v4 qv4 ev4 => ?_)
    refine x_iloadn (x := a2) rfl rfl ?_
    refine x_icgt (tgt := 31) rfl rfl (ti_gt rfl rfl ⟨fun c5 => ?_, fun c5 => ?_⟩)
    ·
      exact jX.sub jsb_n (ct_X8_isKnown_r51_31 hD hQ  h J Sm)
    ·
      refine x_iconst (v := 1) rfl ki_1 ?_
      refine x_goto (tgt := 32) rfl rfl ?_
      exact jX.sub jsb_n (ct_X8_isKnown_r51_300032 hD hQ  h J Sm)
def fp_X0_readLatest_r98_r51_r103 : jFp := [(103, 0, 40), (104, 0, 40)]
set_option maxRecDepth 100000 in
set_option maxHeartbeats 4000000 in
theorem ct_X0_readLatest_r98_r51_r103_155 {Dy : jH → Prop} {h0 : jH} {Q : Option Value → jH → Prop} {R55 : Int} (hD : jDk Dy) (hQ : ∀ hx9, jJ jSgX Dy hx9 → jSm fp_X0_readLatest_r98_r51_r103 h0 hx9 → Q none hx9) (k55 : ∀ (l2 : Int32) (l5 : Int32) (h : jH), 100 - l5.toInt < R55 → 3 ≤ l2.toInt ∧ l2.toInt ≤ 3 → 0 ≤ l5.toInt ∧ l5.toInt ≤ 100 → jJ jSgX Dy h → jSm fp_X0_readLatest_r98_r51_r103 h0 h → jX m_X0_readLatest 2 0 0 55 [(0, .ref 98), (1, .ref 51), (2, .int l2), (3, .ref 103), (5, .int l5)] [] h 0 0 Q) : ∀ (l2 : Int32) (l5 : Int32) (h : jH), 3 ≤ l2.toInt ∧ l2.toInt ≤ 3 → 0 ≤ l5.toInt ∧ l5.toInt ≤ 99 → 100 - l5.toInt ≤ R55 → jJ jSgX Dy h → jSm fp_X0_readLatest_r98_r51_r103 h0 h → jX m_X0_readLatest 2 0 0 155 [(0, .ref 98), (1, .ref 51), (2, .int l2), (3, .ref 103), (5, .int l5)] [] h 0 0 Q := by
  intro l2 l5 h y0 y1  m55 J Sm
  refine z_iinc (x := l5) (lsx9 := fun v1 => [(5, .int v1), (0, .ref 98), (1, .ref 51), (2, .int l2), (3, .ref 103)]) rfl rfl rfl jko_1 (by omega) rfl (fun _ => rfl) (fun v1 ev1 => ?_)
  refine x_goto (tgt := 55) rfl rfl ?_
  exact jX.sub (jsb_c rfl (jsb_c rfl (jsb_c rfl (jsb_c rfl (jsb_c rfl jsb_n))))) (k55 l2 v1 h (by omega) (jr_of rfl (by omega)) (jr_of rfl (by omega)) J Sm)
set_option maxRecDepth 100000 in
set_option maxHeartbeats 4000000 in
theorem ct_X0_readLatest_r98_r51_r103_55 {Dy : jH → Prop} {h0 : jH} {Q : Option Value → jH → Prop} (hD : jDk Dy) (hQ : ∀ hx9, jJ jSgX Dy hx9 → jSm fp_X0_readLatest_r98_r51_r103 h0 hx9 → Q none hx9) : ∀ r : Nat, ∀ (l2 : Int32) (l5 : Int32) (h : jH), 100 - l5.toInt < (r : Int) → 3 ≤ l2.toInt ∧ l2.toInt ≤ 3 → 0 ≤ l5.toInt ∧ l5.toInt ≤ 100 → jJ jSgX Dy h → jSm fp_X0_readLatest_r98_r51_r103 h0 h → jX m_X0_readLatest 2 0 0 55 [(0, .ref 98), (1, .ref 51), (2, .int l2), (3, .ref 103), (5, .int l5)] [] h 0 0 Q := by
  intro r
  induction r with
  | zero =>
    intro l2 l5 h hm y0 y1   J Sm
    exfalso
    omega
  | succ r ih =>
    intro l2 l5 h hm y0 y1   J Sm
    refine x_iload (x := l5) rfl rfl ?_
    refine x_aloadn (x := 51) rfl rfl ?_
    refine z_getI (N := 4) 8 3 rfl f_0_124 rfl J rfl sg_51_3_4_1_0_1 (fun v1 qv1 ev1 => ?_)
    refine x_icge (tgt := 161) rfl rfl (ti_ge rfl rfl ⟨fun c2 => ?_, fun c2 => ?_⟩)
    ·
      refine x_vret rfl rfl ?_
      exact hQ _ J Sm
    ·
      refine x_aloadn (x := 51) rfl rfl ?_
      refine x_iload (x := l5) rfl rfl ?_
      refine x_iconst (v := 2) rfl ki_2 ?_
      refine x_inv (N := m_X8_at) (As := [.int l5, .int 2]) (b := 51) (st := []) (dx9 := 1) (mc := 0) (ms := 0) (host := "") 8 rfl t_X8_at ⟨Or.inl q_0_145, i_X8_at.1, i_X8_at.2⟩ ⟨by decide, rfl⟩ (congrArg Prod.fst (J.1.1 51 (8, 4) rfl)) rfl (by decide) rfl rfl ⟨by decide, by decide⟩ (sf_X8_at_r51_c2 (jr_of rfl (by omega)) hD J  (fun v4 h ev4 J S3 => ?_))
      have Sm := jSm_tr rfl Sm S3
      show jX m_X0_readLatest 2 0 0 71 [(0, .ref 98), (1, .ref 51), (2, .int l2), (3, .ref 103), (5, .int l5)] [.int v4] _ 0 0 _
      refine x_istore (lsx9 := [(6, .int v4), (0, .ref 98), (1, .ref 51), (2, .int l2), (3, .ref 103), (5, .int l5)]) rfl rfl rfl ?_
      refine x_aloadn (x := 51) rfl rfl ?_
      refine x_iload (x := l5) rfl rfl ?_
      refine x_iconst (v := 1) rfl ki_1 ?_
      refine x_inv (N := m_X8_at) (As := [.int l5, .int 1]) (b := 51) (st := []) (dx9 := 1) (mc := 0) (ms := 0) (host := "") 8 rfl t_X8_at ⟨Or.inl q_0_145, i_X8_at.1, i_X8_at.2⟩ ⟨by decide, rfl⟩ (congrArg Prod.fst (J.1.1 51 (8, 4) rfl)) rfl (by decide) rfl rfl ⟨by decide, by decide⟩ (sf_X8_at_r51_c1 (jr_of rfl (by omega)) hD J  (fun v6 h ev6 J S5 => ?_))
      have Sm := jSm_tr rfl Sm S5
      show jX m_X0_readLatest 2 0 0 80 [(6, .int v4), (0, .ref 98), (1, .ref 51), (2, .int l2), (3, .ref 103), (5, .int l5)] [.int v6] _ 0 0 _
      refine x_istore (lsx9 := [(7, .int v6), (6, .int v4), (0, .ref 98), (1, .ref 51), (2, .int l2), (3, .ref 103), (5, .int l5)]) rfl rfl rfl ?_
      refine x_aloadn (x := 51) rfl rfl ?_
      refine x_iload (x := l5) rfl rfl ?_
      refine x_aloadn (x := 98) rfl rfl ?_
      refine z_getI (N := 16) 0 11 rfl f_0_41 rfl J rfl sg_98_11_12_1_0_1 (fun v7 qv7 ev7 => ?_)
      refine x_inv (N := m_X8_isKnown) (As := [.int l5, .int v7]) (b := 51) (st := []) (dx9 := 1) (mc := 0) (ms := 0) (host := "") 8 rfl t_X8_isKnown ⟨Or.inl q_0_151, i_X8_isKnown.1, i_X8_isKnown.2⟩ ⟨by decide, rfl⟩ (congrArg Prod.fst (J.1.1 51 (8, 4) rfl)) rfl (by decide) rfl rfl ⟨by decide, by decide⟩ (sf_X8_isKnown_r51 (jr_of rfl (by omega)) (jr_of rfl (by omega)) hD J  (fun v9 h ev9 J S8 => ?_))
      have Sm := jSm_tr rfl Sm S8
      show jX m_X0_readLatest 2 0 0 92 [(7, .int v6), (6, .int v4), (0, .ref 98), (1, .ref 51), (2, .int l2), (3, .ref 103), (5, .int l5)] [.int v9] _ 0 0 _
      refine x_ifeq (tgt := 155) rfl rfl (ti_eq rfl jk_0 ⟨fun c10 => ?_, fun c10 => ?_⟩)
      ·
        exact jX.sub (jsb_c rfl (jsb_c rfl (jsb_c rfl (jsb_c rfl (jsb_c rfl jsb_n))))) (ct_X0_readLatest_r98_r51_r103_155 hD hQ ih l2 l5 h (jr_of rfl (by omega)) (jr_of rfl (by omega)) (by omega) J Sm)
      ·
        refine x_iload (x := v6) rfl rfl ?_
        refine x_aloadn (x := 98) rfl rfl ?_
        refine z_getI (N := 16) 0 10 rfl f_0_37 rfl J rfl sg_98_10_11_1_0_1 (fun v11 qv11 ev11 => ?_)
        refine x_icgt (tgt := 155) rfl rfl (ti_gt rfl rfl ⟨fun c12 => ?_, fun c12 => ?_⟩)
        ·
          exact jX.sub (jsb_c rfl (jsb_c rfl (jsb_c rfl (jsb_c rfl (jsb_c rfl jsb_n))))) (ct_X0_readLatest_r98_r51_r103_155 hD hQ ih l2 l5 h (jr_of rfl (by omega)) (jr_of rfl (by omega)) (by omega) J Sm)
        ·
          refine x_iload (x := v4) rfl rfl ?_
          refine x_iflt (tgt := 155) rfl rfl (ti_lt rfl jk_0 (br_f (by omega) ?_))
          refine x_iload (x := v4) rfl rfl ?_
          refine x_bipush (v := 40) rfl kb_40 ?_
          refine x_icge (tgt := 155) rfl rfl (ti_ge rfl jk_40 (br_f (by omega) ?_))
          refine x_iload (x := v4) rfl rfl ?_
          refine x_aloadn (x := 103) rfl rfl ?_
          refine z_alen (N := 40) (v := 40) rfl J rfl rfl (by decide) ?_
          refine x_icge (tgt := 155) rfl rfl (ti_ge rfl jk_40 (br_f (by omega) ?_))
          refine x_iload (x := v6) rfl rfl ?_
          refine x_aloadn (x := 98) rfl rfl ?_
          refine z_getR (N := 16) (b := 104) 0 7 rfl f_0_27 rfl J rfl 12551 ⟨rfl, rfl⟩ rfl ?_
          refine x_iload (x := v4) rfl rfl ?_
          refine z_iald (N := 40) rfl J rfl sg_104_0_40_1_0_1 rfl (by omega) (fun v13 qv13 ev13 => ?_)
          refine x_iclt (tgt := 155) rfl rfl (ti_lt rfl rfl ⟨fun c14 => ?_, fun c14 => ?_⟩)
          ·
            exact jX.sub (jsb_c rfl (jsb_c rfl (jsb_c rfl (jsb_c rfl (jsb_c rfl jsb_n))))) (ct_X0_readLatest_r98_r51_r103_155 hD hQ ih l2 l5 h (jr_of rfl (by omega)) (jr_of rfl (by omega)) (by omega) J Sm)
          ·
            refine x_aloadn (x := 98) rfl rfl ?_
            refine z_getR (N := 16) (b := 104) 0 7 rfl f_0_27 rfl J rfl 12551 ⟨rfl, rfl⟩ rfl ?_
            refine x_iload (x := v4) rfl rfl ?_
            refine x_iload (x := v6) rfl rfl ?_
            refine z_iast (N := 40) (l := 0) (u := 40) (w := v6.toInt) rfl hD J Sm rfl rfl rfl (by omega) rfl (wr_104 (fun q1 q2 q3 q4 => by omega)) rfl (fun h w15 J Sm => ?_)
            refine x_aloadn (x := 103) rfl rfl ?_
            refine x_iload (x := v4) rfl rfl ?_
            refine x_aloadn (x := 51) rfl rfl ?_
            refine x_iload (x := l5) rfl rfl ?_
            refine x_iloadn (x := l2) rfl rfl ?_
            refine x_inv (N := m_X8_at) (As := [.int l5, .int l2]) (b := 51) (st := [.int v4, .ref 103]) (dx9 := 1) (mc := 0) (ms := 0) (host := "") 8 rfl t_X8_at ⟨Or.inl q_0_145, i_X8_at.1, i_X8_at.2⟩ ⟨by decide, rfl⟩ (congrArg Prod.fst (J.1.1 51 (8, 4) rfl)) rfl (by decide) rfl rfl ⟨by decide, by decide⟩ (sf_X8_at_r51 (jr_of rfl (by omega)) (jr_of rfl (by omega)) hD J  (fun v17 h ev17 J S16 => ?_))
            have Sm := jSm_tr rfl Sm S16
            show jX m_X0_readLatest 2 0 0 154 [(7, .int v6), (6, .int v4), (0, .ref 98), (1, .ref 51), (2, .int l2), (3, .ref 103), (5, .int l5)] [.int v17, .int v4, .ref 103] _ 0 0 _
            refine z_iast (N := 40) (l := 0) (u := 40) (w := v17.toInt) rfl hD J Sm rfl rfl rfl (by omega) rfl (wr_103 (fun q1 q2 q3 q4 => by omega)) rfl (fun h w18 J Sm => ?_)
            exact jX.sub (jsb_c rfl (jsb_c rfl (jsb_c rfl (jsb_c rfl (jsb_c rfl jsb_n))))) (ct_X0_readLatest_r98_r51_r103_155 hD hQ ih l2 l5 h (jr_of rfl (by omega)) (jr_of rfl (by omega)) (by omega) J Sm)
set_option maxRecDepth 100000 in
set_option maxHeartbeats 4000000 in
theorem ct_X0_readLatest_r98_r51_r103_52 {Dy : jH → Prop} {h0 : jH} {Q : Option Value → jH → Prop} (hD : jDk Dy) (hQ : ∀ hx9, jJ jSgX Dy hx9 → jSm fp_X0_readLatest_r98_r51_r103 h0 hx9 → Q none hx9) : ∀ (l2 : Int32) (h : jH), 3 ≤ l2.toInt ∧ l2.toInt ≤ 3 → jJ jSgX Dy h → jSm fp_X0_readLatest_r98_r51_r103 h0 h → jX m_X0_readLatest 2 0 0 52 [(0, .ref 98), (1, .ref 51), (2, .int l2), (3, .ref 103)] [] h 0 0 Q := by
  intro l2 h y0   J Sm
  refine x_iconst (v := 0) rfl ki_0 ?_
  refine x_istore (lsx9 := [(5, .int 0), (0, .ref 98), (1, .ref 51), (2, .int l2), (3, .ref 103)]) rfl rfl rfl ?_
  exact jX.sub (jsb_c rfl (jsb_c rfl (jsb_c rfl (jsb_c rfl (jsb_c rfl jsb_n))))) (ct_X0_readLatest_r98_r51_r103_55 hD hQ  101 l2 0 h (by have := jk_0; omega) (jr_of rfl (by omega)) (jr_of jk_0 (by omega)) J Sm)
set_option maxRecDepth 100000 in
set_option maxHeartbeats 4000000 in
theorem ct_X0_readLatest_r98_r51_r103_3 {Dy : jH → Prop} {h0 : jH} {Q : Option Value → jH → Prop} (hD : jDk Dy) (hQ : ∀ hx9, jJ jSgX Dy hx9 → jSm fp_X0_readLatest_r98_r51_r103 h0 hx9 → Q none hx9) : ∀ r : Nat, ∀ (l2 : Int32) (l4 : Int32) (l5 : Int32) (h : jH), 40 - l5.toInt < (r : Int) → 3 ≤ l2.toInt ∧ l2.toInt ≤ 3 → (-1) ≤ l4.toInt ∧ l4.toInt ≤ (-1) → 0 ≤ l5.toInt ∧ l5.toInt ≤ 40 → jJ jSgX Dy h → jSm fp_X0_readLatest_r98_r51_r103 h0 h → jX m_X0_readLatest 2 0 0 3 [(0, .ref 98), (1, .ref 51), (2, .int l2), (3, .ref 103), (4, .int l4), (5, .int l5)] [] h 0 0 Q := by
  intro r
  induction r with
  | zero =>
    intro l2 l4 l5 h hm y0 y1 y2   J Sm
    exfalso
    omega
  | succ r ih =>
    intro l2 l4 l5 h hm y0 y1 y2   J Sm
    refine x_iload (x := l5) rfl rfl ?_
    refine x_bipush (v := 40) rfl kb_40 ?_
    refine x_icge (tgt := 52) rfl rfl (ti_ge rfl jk_40 ⟨fun c1 => ?_, fun c1 => ?_⟩)
    ·
      exact jX.sub (jsb_c rfl (jsb_c rfl (jsb_c rfl (jsb_c rfl jsb_n)))) (ct_X0_readLatest_r98_r51_r103_52 hD hQ  l2 h (jr_of rfl (by omega)) J Sm)
    ·
      refine x_iload (x := l5) rfl rfl ?_
      refine x_aloadn (x := 98) rfl rfl ?_
      refine z_getR (N := 16) (b := 32) 0 0 rfl f_0_57 rfl J rfl 12544 ⟨rfl, rfl⟩ rfl ?_
      refine z_getR (N := 20) (b := 49) 1 8 rfl f_0_120 rfl J rfl 4104 ⟨rfl, rfl⟩ rfl ?_
      refine z_getI (N := 4) 8 3 rfl f_0_124 rfl J rfl sg_49_3_4_1_0_1 (fun v2 qv2 ev2 => ?_)
      refine x_icge (tgt := 52) rfl rfl (ti_ge rfl rfl ⟨fun c3 => ?_, fun c3 => ?_⟩)
      ·
        exact jX.sub (jsb_c rfl (jsb_c rfl (jsb_c rfl (jsb_c rfl jsb_n)))) (ct_X0_readLatest_r98_r51_r103_52 hD hQ  l2 h (jr_of rfl (by omega)) J Sm)
      ·
        refine x_iload (x := l5) rfl rfl ?_
        refine x_aloadn (x := 103) rfl rfl ?_
        refine z_alen (N := 40) (v := 40) rfl J rfl rfl (by decide) ?_
        refine x_icge (tgt := 52) rfl rfl (ti_ge rfl jk_40 (br_f (by omega) ?_))
        refine x_aloadn (x := 103) rfl rfl ?_
        refine x_iload (x := l5) rfl rfl ?_
        refine x_iload (x := l4) rfl rfl ?_
        refine z_iast (N := 40) (l := 0) (u := 40) (w := l4.toInt) rfl hD J Sm rfl rfl rfl (by omega) rfl (wr_103 (fun q1 q2 q3 q4 => by omega)) rfl (fun h w4 J Sm => ?_)
        refine x_aloadn (x := 98) rfl rfl ?_
        refine z_getR (N := 16) (b := 104) 0 7 rfl f_0_27 rfl J rfl 12551 ⟨rfl, rfl⟩ rfl ?_
        refine x_iload (x := l5) rfl rfl ?_
        refine x_iconst (v := (-1)) rfl ki_m1 ?_
        refine z_iast (N := 40) (l := 0) (u := 40) (w := (-1)) rfl hD J Sm rfl rfl rfl (by omega) jk_m1 (wr_104 (fun q1 q2 q3 q4 => by omega)) rfl (fun h w5 J Sm => ?_)
        refine z_iinc (x := l5) (lsx9 := fun v6 => [(5, .int v6), (0, .ref 98), (1, .ref 51), (2, .int l2), (3, .ref 103), (4, .int l4)]) rfl rfl rfl jko_1 (by omega) rfl (fun _ => rfl) (fun v6 ev6 => ?_)
        refine x_goto (tgt := 3) rfl rfl ?_
        exact jX.sub (jsb_c rfl (jsb_c rfl (jsb_c rfl (jsb_c rfl (jsb_c rfl (jsb_c rfl jsb_n)))))) (ih l2 l4 v6 h (by omega) (jr_of rfl (by omega)) (jr_of rfl (by omega)) (jr_of rfl (by omega)) J Sm)
set_option maxRecDepth 100000 in
set_option maxHeartbeats 4000000 in
theorem sf_X0_readLatest_r98_r51_r103 {Dy : jH → Prop} {h : jH} {Q : Option Value → jH → Prop} {a1 : Int32} {a2 : Int32} (y1 : 3 ≤ a1.toInt ∧ a1.toInt ≤ 3) (y2 : (-1) ≤ a2.toInt ∧ a2.toInt ≤ (-1)) (hD : jDk Dy) (J : jJ jSgX Dy h) (hQ : ∀ hx9, jJ jSgX Dy hx9 → jSm fp_X0_readLatest_r98_r51_r103 h hx9 → Q none hx9) : jC m_X0_readLatest 2 0 0 [.ref 98, .ref 51, .int a1, .ref 103, .int a2] h Q := by
  refine jC.of rfl k_X0_readLatest rfl ?_
  have Sm := jSm_rf fp_X0_readLatest_r98_r51_r103 h
  show jX m_X0_readLatest 2 0 0 0 [(0, .ref 98), (1, .ref 51), (2, .int a1), (3, .ref 103), (4, .int a2)] [] _ 0 0 _
  refine x_iconst (v := 0) rfl ki_0 ?_
  refine x_istore (lsx9 := [(5, .int 0), (0, .ref 98), (1, .ref 51), (2, .int a1), (3, .ref 103), (4, .int a2)]) rfl rfl rfl ?_
  exact jX.sub (jsb_c rfl (jsb_c rfl (jsb_c rfl (jsb_c rfl (jsb_c rfl (jsb_c rfl jsb_n)))))) (ct_X0_readLatest_r98_r51_r103_3 hD hQ  41 a1 a2 0 h (by have := jk_0; omega) (jr_of rfl (by omega)) (jr_of rfl (by omega)) (jr_of jk_0 (by omega)) J Sm)
def fp_X8_at_r49_c1 : jFp := []
set_option maxRecDepth 100000 in
set_option maxHeartbeats 4000000 in
theorem ct_X8_at_r49_c1_24 {Dy : jH → Prop} {h0 : jH} {Q : Option Value → jH → Prop} (hD : jDk Dy) (hQ : ∀ (v : Int32) hx9, 0 ≤ v.toInt ∧ v.toInt ≤ 146399 → jJ jSgX Dy hx9 → jSm fp_X8_at_r49_c1 h0 hx9 → Q (some (.int v)) hx9) : ∀ (h : jH), jJ jSgX Dy h → jSm fp_X8_at_r49_c1 h0 h → jX m_X8_at 1 0 0 24 [] [] h 0 0 Q := by
  intro  h    J Sm
  refine x_iconst (v := 0) rfl ki_0 ?_
  refine x_iret rfl rfl ?_
  exact hQ _ _ (jr_of jk_0 (by omega)) J Sm
set_option maxRecDepth 100000 in
set_option maxHeartbeats 4000000 in
theorem sf_X8_at_r49_c1 {Dy : jH → Prop} {h : jH} {Q : Option Value → jH → Prop} {a1 : Int32} (y1 : 1 ≤ a1.toInt ∧ a1.toInt ≤ 39) (hD : jDk Dy) (J : jJ jSgX Dy h) (hQ : ∀ (v : Int32) hx9, 0 ≤ v.toInt ∧ v.toInt ≤ 146399 → jJ jSgX Dy hx9 → jSm fp_X8_at_r49_c1 h hx9 → Q (some (.int v)) hx9) : jC m_X8_at 1 0 0 [.ref 49, .int a1, .int 1] h Q := by
  refine jC.of rfl k_X8_at rfl ?_
  have Sm := jSm_rf fp_X8_at_r49_c1 h
  show jX m_X8_at 1 0 0 0 [(0, .ref 49), (1, .int a1), (2, .int 1)] [] _ 0 0 _
  refine x_iloadn (x := a1) rfl rfl ?_
  refine x_iflt (tgt := 24) rfl rfl (ti_lt rfl jk_0 (br_f (by omega) ?_))
  refine x_iloadn (x := a1) rfl rfl ?_
  refine x_aloadn (x := 49) rfl rfl ?_
  refine z_getI (N := 4) 8 3 rfl f_8_7 rfl J rfl sg_49_3_4_1_0_1 (fun v1 qv1 ev1 => ?_)
  refine x_icge (tgt := 24) rfl rfl (ti_ge rfl rfl ⟨fun c2 => ?_, fun c2 => ?_⟩)
  ·
    exact jX.sub jsb_n (ct_X8_at_r49_c1_24 hD hQ  h J Sm)
  ·
    refine x_iloadn (x := 1) rfl rfl ?_
    refine x_iflt (tgt := 24) rfl rfl (ti_lt jk_1 jk_0 (br_f (by omega) ?_))
    refine x_iloadn (x := 1) rfl rfl ?_
    refine x_aloadn (x := 49) rfl rfl ?_
    refine z_getC (N := 4) (v := 5) 8 0 rfl f_8_19 rfl J rfl sg_49_0_1_1_0_1 jk_5 ?_
    refine x_iclt (tgt := 26) rfl rfl (ti_lt jk_1 jk_5 (br_t (by omega) ?_))
    refine x_aloadn (x := 49) rfl rfl ?_
    refine z_getR (N := 4) (b := 50) 8 2 rfl f_8_25 rfl J rfl 6274 ⟨rfl, rfl⟩ rfl ?_
    refine x_iloadn (x := a1) rfl rfl ?_
    refine x_aloadn (x := 49) rfl rfl ?_
    refine z_getC (N := 4) (v := 5) 8 0 rfl f_8_19 rfl J rfl sg_49_0_1_1_0_1 jk_5 ?_
    refine z_imul rfl rfl jk_5 (by omega) (fun v3 ev3 => ?_)
    refine x_iloadn (x := 1) rfl rfl ?_
    refine z_iadd rfl rfl jk_1 (by omega) (fun v4 ev4 => ?_)
    refine z_iald (N := 200) rfl J rfl sg_50_0_200_5_1_2 rfl (by omega) (fun v5 qv5 ev5 => ?_)
    refine x_iret rfl rfl ?_
    exact hQ _ _ (jr_of rfl (by omega)) J Sm
def fp_X8_at_r49_c3 : jFp := []
set_option maxRecDepth 100000 in
set_option maxHeartbeats 4000000 in
theorem ct_X8_at_r49_c3_24 {Dy : jH → Prop} {h0 : jH} {Q : Option Value → jH → Prop} (hD : jDk Dy) (hQ : ∀ (v : Int32) hx9, 0 ≤ v.toInt ∧ v.toInt ≤ 99 → jJ jSgX Dy hx9 → jSm fp_X8_at_r49_c3 h0 hx9 → Q (some (.int v)) hx9) : ∀ (h : jH), jJ jSgX Dy h → jSm fp_X8_at_r49_c3 h0 h → jX m_X8_at 1 0 0 24 [] [] h 0 0 Q := by
  intro  h    J Sm
  refine x_iconst (v := 0) rfl ki_0 ?_
  refine x_iret rfl rfl ?_
  exact hQ _ _ (jr_of jk_0 (by omega)) J Sm
set_option maxRecDepth 100000 in
set_option maxHeartbeats 4000000 in
theorem sf_X8_at_r49_c3 {Dy : jH → Prop} {h : jH} {Q : Option Value → jH → Prop} {a1 : Int32} (y1 : 1 ≤ a1.toInt ∧ a1.toInt ≤ 39) (hD : jDk Dy) (J : jJ jSgX Dy h) (hQ : ∀ (v : Int32) hx9, 0 ≤ v.toInt ∧ v.toInt ≤ 99 → jJ jSgX Dy hx9 → jSm fp_X8_at_r49_c3 h hx9 → Q (some (.int v)) hx9) : jC m_X8_at 1 0 0 [.ref 49, .int a1, .int 3] h Q := by
  refine jC.of rfl k_X8_at rfl ?_
  have Sm := jSm_rf fp_X8_at_r49_c3 h
  show jX m_X8_at 1 0 0 0 [(0, .ref 49), (1, .int a1), (2, .int 3)] [] _ 0 0 _
  refine x_iloadn (x := a1) rfl rfl ?_
  refine x_iflt (tgt := 24) rfl rfl (ti_lt rfl jk_0 (br_f (by omega) ?_))
  refine x_iloadn (x := a1) rfl rfl ?_
  refine x_aloadn (x := 49) rfl rfl ?_
  refine z_getI (N := 4) 8 3 rfl f_8_7 rfl J rfl sg_49_3_4_1_0_1 (fun v1 qv1 ev1 => ?_)
  refine x_icge (tgt := 24) rfl rfl (ti_ge rfl rfl ⟨fun c2 => ?_, fun c2 => ?_⟩)
  ·
    exact jX.sub jsb_n (ct_X8_at_r49_c3_24 hD hQ  h J Sm)
  ·
    refine x_iloadn (x := 3) rfl rfl ?_
    refine x_iflt (tgt := 24) rfl rfl (ti_lt jk_3 jk_0 (br_f (by omega) ?_))
    refine x_iloadn (x := 3) rfl rfl ?_
    refine x_aloadn (x := 49) rfl rfl ?_
    refine z_getC (N := 4) (v := 5) 8 0 rfl f_8_19 rfl J rfl sg_49_0_1_1_0_1 jk_5 ?_
    refine x_iclt (tgt := 26) rfl rfl (ti_lt jk_3 jk_5 (br_t (by omega) ?_))
    refine x_aloadn (x := 49) rfl rfl ?_
    refine z_getR (N := 4) (b := 50) 8 2 rfl f_8_25 rfl J rfl 6274 ⟨rfl, rfl⟩ rfl ?_
    refine x_iloadn (x := a1) rfl rfl ?_
    refine x_aloadn (x := 49) rfl rfl ?_
    refine z_getC (N := 4) (v := 5) 8 0 rfl f_8_19 rfl J rfl sg_49_0_1_1_0_1 jk_5 ?_
    refine z_imul rfl rfl jk_5 (by omega) (fun v3 ev3 => ?_)
    refine x_iloadn (x := 3) rfl rfl ?_
    refine z_iadd rfl rfl jk_3 (by omega) (fun v4 ev4 => ?_)
    refine z_iald (N := 200) rfl J rfl sg_50_0_200_5_3_4 rfl (by omega) (fun v5 qv5 ev5 => ?_)
    refine x_iret rfl rfl ?_
    exact hQ _ _ (jr_of rfl (by omega)) J Sm
def fp_X8_at_r49_c4 : jFp := []
set_option maxRecDepth 100000 in
set_option maxHeartbeats 4000000 in
theorem ct_X8_at_r49_c4_24 {Dy : jH → Prop} {h0 : jH} {Q : Option Value → jH → Prop} (hD : jDk Dy) (hQ : ∀ (v : Int32) hx9, 0 ≤ v.toInt ∧ v.toInt ≤ 100 → jJ jSgX Dy hx9 → jSm fp_X8_at_r49_c4 h0 hx9 → Q (some (.int v)) hx9) : ∀ (h : jH), jJ jSgX Dy h → jSm fp_X8_at_r49_c4 h0 h → jX m_X8_at 1 0 0 24 [] [] h 0 0 Q := by
  intro  h    J Sm
  refine x_iconst (v := 0) rfl ki_0 ?_
  refine x_iret rfl rfl ?_
  exact hQ _ _ (jr_of jk_0 (by omega)) J Sm
set_option maxRecDepth 100000 in
set_option maxHeartbeats 4000000 in
theorem sf_X8_at_r49_c4 {Dy : jH → Prop} {h : jH} {Q : Option Value → jH → Prop} {a1 : Int32} (y1 : 1 ≤ a1.toInt ∧ a1.toInt ≤ 39) (hD : jDk Dy) (J : jJ jSgX Dy h) (hQ : ∀ (v : Int32) hx9, 0 ≤ v.toInt ∧ v.toInt ≤ 100 → jJ jSgX Dy hx9 → jSm fp_X8_at_r49_c4 h hx9 → Q (some (.int v)) hx9) : jC m_X8_at 1 0 0 [.ref 49, .int a1, .int 4] h Q := by
  refine jC.of rfl k_X8_at rfl ?_
  have Sm := jSm_rf fp_X8_at_r49_c4 h
  show jX m_X8_at 1 0 0 0 [(0, .ref 49), (1, .int a1), (2, .int 4)] [] _ 0 0 _
  refine x_iloadn (x := a1) rfl rfl ?_
  refine x_iflt (tgt := 24) rfl rfl (ti_lt rfl jk_0 (br_f (by omega) ?_))
  refine x_iloadn (x := a1) rfl rfl ?_
  refine x_aloadn (x := 49) rfl rfl ?_
  refine z_getI (N := 4) 8 3 rfl f_8_7 rfl J rfl sg_49_3_4_1_0_1 (fun v1 qv1 ev1 => ?_)
  refine x_icge (tgt := 24) rfl rfl (ti_ge rfl rfl ⟨fun c2 => ?_, fun c2 => ?_⟩)
  ·
    exact jX.sub jsb_n (ct_X8_at_r49_c4_24 hD hQ  h J Sm)
  ·
    refine x_iloadn (x := 4) rfl rfl ?_
    refine x_iflt (tgt := 24) rfl rfl (ti_lt jk_4 jk_0 (br_f (by omega) ?_))
    refine x_iloadn (x := 4) rfl rfl ?_
    refine x_aloadn (x := 49) rfl rfl ?_
    refine z_getC (N := 4) (v := 5) 8 0 rfl f_8_19 rfl J rfl sg_49_0_1_1_0_1 jk_5 ?_
    refine x_iclt (tgt := 26) rfl rfl (ti_lt jk_4 jk_5 (br_t (by omega) ?_))
    refine x_aloadn (x := 49) rfl rfl ?_
    refine z_getR (N := 4) (b := 50) 8 2 rfl f_8_25 rfl J rfl 6274 ⟨rfl, rfl⟩ rfl ?_
    refine x_iloadn (x := a1) rfl rfl ?_
    refine x_aloadn (x := 49) rfl rfl ?_
    refine z_getC (N := 4) (v := 5) 8 0 rfl f_8_19 rfl J rfl sg_49_0_1_1_0_1 jk_5 ?_
    refine z_imul rfl rfl jk_5 (by omega) (fun v3 ev3 => ?_)
    refine x_iloadn (x := 4) rfl rfl ?_
    refine z_iadd rfl rfl jk_4 (by omega) (fun v4 ev4 => ?_)
    refine z_iald (N := 200) rfl J rfl sg_50_0_200_5_4_5 rfl (by omega) (fun v5 qv5 ev5 => ?_)
    refine x_iret rfl rfl ?_
    exact hQ _ _ (jr_of rfl (by omega)) J Sm
def fp_X8_isKnown_r49 : jFp := []
set_option maxRecDepth 100000 in
set_option maxHeartbeats 4000000 in
theorem ct_X8_isKnown_r49_300032 {Dy : jH → Prop} {h0 : jH} {Q : Option Value → jH → Prop} (hD : jDk Dy) (hQ : ∀ (v : Int32) hx9, 0 ≤ v.toInt ∧ v.toInt ≤ 1 → jJ jSgX Dy hx9 → jSm fp_X8_isKnown_r49 h0 hx9 → Q (some (.int v)) hx9) : ∀ (h : jH), jJ jSgX Dy h → jSm fp_X8_isKnown_r49 h0 h → jX m_X8_isKnown 1 0 0 32 [] [.int 1] h 0 0 Q := by
  intro  h    J Sm
  refine x_zret rfl rfl (by decide) ?_
  exact hQ _ _ (jr_of jk_1 (by omega)) J Sm
set_option maxRecDepth 100000 in
set_option maxHeartbeats 4000000 in
theorem ct_X8_isKnown_r49_200032 {Dy : jH → Prop} {h0 : jH} {Q : Option Value → jH → Prop} (hD : jDk Dy) (hQ : ∀ (v : Int32) hx9, 0 ≤ v.toInt ∧ v.toInt ≤ 1 → jJ jSgX Dy hx9 → jSm fp_X8_isKnown_r49 h0 hx9 → Q (some (.int v)) hx9) : ∀ (h : jH), jJ jSgX Dy h → jSm fp_X8_isKnown_r49 h0 h → jX m_X8_isKnown 1 0 0 32 [] [.int 0] h 0 0 Q := by
  intro  h    J Sm
  refine x_zret rfl rfl (by decide) ?_
  exact hQ _ _ (jr_of jk_0 (by omega)) J Sm
set_option maxRecDepth 100000 in
set_option maxHeartbeats 4000000 in
theorem ct_X8_isKnown_r49_31 {Dy : jH → Prop} {h0 : jH} {Q : Option Value → jH → Prop} (hD : jDk Dy) (hQ : ∀ (v : Int32) hx9, 0 ≤ v.toInt ∧ v.toInt ≤ 1 → jJ jSgX Dy hx9 → jSm fp_X8_isKnown_r49 h0 hx9 → Q (some (.int v)) hx9) : ∀ (h : jH), jJ jSgX Dy h → jSm fp_X8_isKnown_r49 h0 h → jX m_X8_isKnown 1 0 0 31 [] [] h 0 0 Q := by
  intro  h    J Sm
  refine x_iconst (v := 0) rfl ki_0 ?_
  exact jX.sub jsb_n (ct_X8_isKnown_r49_200032 hD hQ  h J Sm)
set_option maxRecDepth 100000 in
set_option maxHeartbeats 4000000 in
theorem sf_X8_isKnown_r49 {Dy : jH → Prop} {h : jH} {Q : Option Value → jH → Prop} {a1 : Int32} {a2 : Int32} (y1 : 1 ≤ a1.toInt ∧ a1.toInt ≤ 39) (y2 : 0 ≤ a2.toInt ∧ a2.toInt ≤ 146399) (hD : jDk Dy) (J : jJ jSgX Dy h) (hQ : ∀ (v : Int32) hx9, 0 ≤ v.toInt ∧ v.toInt ≤ 1 → jJ jSgX Dy hx9 → jSm fp_X8_isKnown_r49 h hx9 → Q (some (.int v)) hx9) : jC m_X8_isKnown 1 0 0 [.ref 49, .int a1, .int a2] h Q := by
  refine jC.of rfl k_X8_isKnown rfl ?_
  have Sm := jSm_rf fp_X8_isKnown_r49 h
  show jX m_X8_isKnown 1 0 0 0 [(0, .ref 49), (1, .int a1), (2, .int a2)] [] _ 0 0 _
  refine x_iloadn (x := a1) rfl rfl ?_
  refine x_iflt (tgt := 31) rfl rfl (ti_lt rfl jk_0 (br_f (by omega) ?_))
  refine x_iloadn (x := a1) rfl rfl ?_
  refine x_aloadn (x := 49) rfl rfl ?_
  refine z_getI (N := 4) 8 3 rfl f_8_7 rfl J rfl sg_49_3_4_1_0_1 (fun v1 qv1 ev1 => ?_)
  refine x_icge (tgt := 31) rfl rfl (ti_ge rfl rfl ⟨fun c2 => ?_, fun c2 => ?_⟩)
  ·
    exact jX.sub jsb_n (ct_X8_isKnown_r49_31 hD hQ  h J Sm)
  ·
    refine x_aloadn (x := 49) rfl rfl ?_
    refine z_getR (N := 4) (b := 50) 8 2 rfl f_8_25 rfl J rfl 6274 ⟨rfl, rfl⟩ rfl ?_
    refine x_iloadn (x := a1) rfl rfl ?_
    refine x_aloadn (x := 49) rfl rfl ?_
    refine z_getC (N := 4) (v := 5) 8 0 rfl f_8_19 rfl J rfl sg_49_0_1_1_0_1 jk_5 ?_
    refine z_imul rfl rfl jk_5 (by omega) (fun v3 ev3 => ?_)
    refine z_iald (N := 200) rfl J rfl sg_50_0_200_5_0_1 rfl (by omega) (fun v4 qv4 ev4 => ?_)
    refine x_iloadn (x := a2) rfl rfl ?_
    refine x_icgt (tgt := 31) rfl rfl (ti_gt rfl rfl ⟨fun c5 => ?_, fun c5 => ?_⟩)
    ·
      exact jX.sub jsb_n (ct_X8_isKnown_r49_31 hD hQ  h J Sm)
    ·
      refine x_iconst (v := 1) rfl ki_1 ?_
      refine x_goto (tgt := 32) rfl rfl ?_
      exact jX.sub jsb_n (ct_X8_isKnown_r49_300032 hD hQ  h J Sm)
def fp_X0_splitOff_r98 : jFp := [(102, 0, 40), (103, 0, 40)]
set_option maxRecDepth 100000 in
set_option maxHeartbeats 4000000 in
theorem ct_X0_splitOff_r98_118 {Dy : jH → Prop} {h0 : jH} {Q : Option Value → jH → Prop} (hD : jDk Dy) (hQ : ∀ hx9, jJ jSgX Dy hx9 → jSm fp_X0_splitOff_r98 h0 hx9 → Q none hx9) : ∀ (h : jH), jJ jSgX Dy h → jSm fp_X0_splitOff_r98 h0 h → jX m_X0_splitOff 2 0 0 118 [] [] h 0 0 Q := by
  intro  h    J Sm
  refine x_vret rfl rfl ?_
  exact hQ _ J Sm
set_option maxRecDepth 100000 in
set_option maxHeartbeats 4000000 in
theorem ct_X0_splitOff_r98_96 {Dy : jH → Prop} {h0 : jH} {Q : Option Value → jH → Prop} (hD : jDk Dy) (hQ : ∀ hx9, jJ jSgX Dy hx9 → jSm fp_X0_splitOff_r98 h0 hx9 → Q none hx9) : ∀ (l1 : Int32) (l2 : Int32) (h : jH), 1 ≤ l1.toInt ∧ l1.toInt ≤ 39 → 0 ≤ l2.toInt ∧ l2.toInt ≤ 39 → jJ jSgX Dy h → jSm fp_X0_splitOff_r98 h0 h → jX m_X0_splitOff 2 0 0 96 [(0, .ref 98), (1, .int l1), (2, .int l2)] [] h 0 0 Q := by
  intro l1 l2 h y0 y1   J Sm
  refine x_aloadn (x := 98) rfl rfl ?_
  refine z_getR (N := 16) (b := 104) 0 7 rfl f_0_27 rfl J rfl 12551 ⟨rfl, rfl⟩ rfl ?_
  refine x_iloadn (x := l1) rfl rfl ?_
  refine z_iald (N := 40) rfl J rfl sg_104_0_40_1_0_1 rfl (by omega) (fun v1 qv1 ev1 => ?_)
  refine x_iconst (v := (-1)) rfl ki_m1 ?_
  refine x_icne (tgt := 118) rfl rfl (ti_ne rfl jk_m1 ⟨fun c2 => ?_, fun c2 => ?_⟩)
  ·
    exact jX.sub jsb_n (ct_X0_splitOff_r98_118 hD hQ  h J Sm)
  ·
    refine x_aloadn (x := 98) rfl rfl ?_
    refine z_getR (N := 16) (b := 103) 0 6 rfl f_0_24 rfl J rfl 12550 ⟨rfl, rfl⟩ rfl ?_
    refine x_iloadn (x := l1) rfl rfl ?_
    refine x_aloadn (x := 98) rfl rfl ?_
    refine z_getR (N := 16) (b := 103) 0 6 rfl f_0_24 rfl J rfl 12550 ⟨rfl, rfl⟩ rfl ?_
    refine x_iloadn (x := l2) rfl rfl ?_
    refine z_iald (N := 40) rfl J rfl sg_103_0_40_1_0_1 rfl (by omega) (fun v3 qv3 ev3 => ?_)
    refine z_iast (N := 40) (l := 0) (u := 40) (w := v3.toInt) rfl hD J Sm rfl rfl rfl (by omega) rfl (wr_103 (fun q1 q2 q3 q4 => by omega)) rfl (fun h w4 J Sm => ?_)
    exact jX.sub jsb_n (ct_X0_splitOff_r98_118 hD hQ  h J Sm)
set_option maxRecDepth 100000 in
set_option maxHeartbeats 4000000 in
theorem sf_X0_splitOff_r98 {Dy : jH → Prop} {h : jH} {Q : Option Value → jH → Prop} {a1 : Int32} {a2 : Int32} (y1 : 1 ≤ a1.toInt ∧ a1.toInt ≤ 39) (y2 : 0 ≤ a2.toInt ∧ a2.toInt ≤ 39) (hD : jDk Dy) (J : jJ jSgX Dy h) (hQ : ∀ hx9, jJ jSgX Dy hx9 → jSm fp_X0_splitOff_r98 h hx9 → Q none hx9) : jC m_X0_splitOff 2 0 0 [.ref 98, .int a1, .int a2] h Q := by
  refine jC.of rfl k_X0_splitOff rfl ?_
  have Sm := jSm_rf fp_X0_splitOff_r98 h
  show jX m_X0_splitOff 2 0 0 0 [(0, .ref 98), (1, .int a1), (2, .int a2)] [] _ 0 0 _
  refine x_aloadn (x := 98) rfl rfl ?_
  refine z_getR (N := 16) (b := 32) 0 0 rfl f_0_57 rfl J rfl 12544 ⟨rfl, rfl⟩ rfl ?_
  refine z_getR (N := 20) (b := 49) 1 8 rfl f_0_120 rfl J rfl 4104 ⟨rfl, rfl⟩ rfl ?_
  refine x_iloadn (x := a1) rfl rfl ?_
  refine x_iconst (v := 4) rfl ki_4 ?_
  refine x_inv (N := m_X8_at) (As := [.int a1, .int 4]) (b := 49) (st := []) (dx9 := 1) (mc := 0) (ms := 0) (host := "") 8 rfl t_X8_at ⟨Or.inl q_0_145, i_X8_at.1, i_X8_at.2⟩ ⟨by decide, rfl⟩ (congrArg Prod.fst (J.1.1 49 (8, 4) rfl)) rfl (by decide) rfl rfl ⟨by decide, by decide⟩ (sf_X8_at_r49_c4 (jr_of rfl (by omega)) hD J  (fun v2 h ev2 J S1 => ?_))
  have Sm := jSm_tr rfl Sm S1
  show jX m_X0_splitOff 2 0 0 12 [(0, .ref 98), (1, .int a1), (2, .int a2)] [.int v2] _ 0 0 _
  refine x_istoren (lsx9 := [(3, .int v2), (0, .ref 98), (1, .int a1), (2, .int a2)]) rfl rfl rfl ?_
  refine x_iloadn (x := v2) rfl rfl ?_
  refine x_ifle (tgt := 96) rfl rfl (ti_le rfl jk_0 ⟨fun c3 => ?_, fun c3 => ?_⟩)
  ·
    exact jX.sub (jsb_c rfl (jsb_c rfl (jsb_c rfl jsb_n))) (ct_X0_splitOff_r98_96 hD hQ  a1 a2 h (jr_of rfl (by omega)) (jr_of rfl (by omega)) J Sm)
  ·
    refine x_aloadn (x := 98) rfl rfl ?_
    refine z_getR (N := 16) (b := 32) 0 0 rfl f_0_57 rfl J rfl 12544 ⟨rfl, rfl⟩ rfl ?_
    refine z_getR (N := 20) (b := 49) 1 8 rfl f_0_120 rfl J rfl 4104 ⟨rfl, rfl⟩ rfl ?_
    refine x_iloadn (x := a1) rfl rfl ?_
    refine x_aloadn (x := 98) rfl rfl ?_
    refine z_getI (N := 16) 0 11 rfl f_0_41 rfl J rfl sg_98_11_12_1_0_1 (fun v4 qv4 ev4 => ?_)
    refine x_inv (N := m_X8_isKnown) (As := [.int a1, .int v4]) (b := 49) (st := []) (dx9 := 1) (mc := 0) (ms := 0) (host := "") 8 rfl t_X8_isKnown ⟨Or.inl q_0_151, i_X8_isKnown.1, i_X8_isKnown.2⟩ ⟨by decide, rfl⟩ (congrArg Prod.fst (J.1.1 49 (8, 4) rfl)) rfl (by decide) rfl rfl ⟨by decide, by decide⟩ (sf_X8_isKnown_r49 (jr_of rfl (by omega)) (jr_of rfl (by omega)) hD J  (fun v6 h ev6 J S5 => ?_))
    have Sm := jSm_tr rfl Sm S5
    show jX m_X0_splitOff 2 0 0 32 [(3, .int v2), (0, .ref 98), (1, .int a1), (2, .int a2)] [.int v6] _ 0 0 _
    refine x_ifeq (tgt := 96) rfl rfl (ti_eq rfl jk_0 ⟨fun c7 => ?_, fun c7 => ?_⟩)
    ·
      exact jX.sub (jsb_c rfl (jsb_c rfl (jsb_c rfl jsb_n))) (ct_X0_splitOff_r98_96 hD hQ  a1 a2 h (jr_of rfl (by omega)) (jr_of rfl (by omega)) J Sm)
    ·
      refine x_aloadn (x := 98) rfl rfl ?_
      refine z_getR (N := 16) (b := 32) 0 0 rfl f_0_57 rfl J rfl 12544 ⟨rfl, rfl⟩ rfl ?_
      refine z_getR (N := 20) (b := 49) 1 8 rfl f_0_120 rfl J rfl 4104 ⟨rfl, rfl⟩ rfl ?_
      refine x_iloadn (x := a1) rfl rfl ?_
      refine x_iconst (v := 1) rfl ki_1 ?_
      refine x_inv (N := m_X8_at) (As := [.int a1, .int 1]) (b := 49) (st := []) (dx9 := 1) (mc := 0) (ms := 0) (host := "") 8 rfl t_X8_at ⟨Or.inl q_0_145, i_X8_at.1, i_X8_at.2⟩ ⟨by decide, rfl⟩ (congrArg Prod.fst (J.1.1 49 (8, 4) rfl)) rfl (by decide) rfl rfl ⟨by decide, by decide⟩ (sf_X8_at_r49_c1 (jr_of rfl (by omega)) hD J  (fun v9 h ev9 J S8 => ?_))
      have Sm := jSm_tr rfl Sm S8
      show jX m_X0_splitOff 2 0 0 47 [(3, .int v2), (0, .ref 98), (1, .int a1), (2, .int a2)] [.int v9] _ 0 0 _
      refine x_aloadn (x := 98) rfl rfl ?_
      refine z_getI (N := 16) 0 10 rfl f_0_37 rfl J rfl sg_98_10_11_1_0_1 (fun v10 qv10 ev10 => ?_)
      refine x_icgt (tgt := 96) rfl rfl (ti_gt rfl rfl ⟨fun c11 => ?_, fun c11 => ?_⟩)
      ·
        exact jX.sub (jsb_c rfl (jsb_c rfl (jsb_c rfl jsb_n))) (ct_X0_splitOff_r98_96 hD hQ  a1 a2 h (jr_of rfl (by omega)) (jr_of rfl (by omega)) J Sm)
      ·
        refine x_aloadn (x := 98) rfl rfl ?_
        refine z_getR (N := 16) (b := 102) 0 5 rfl f_0_21 rfl J rfl 12549 ⟨rfl, rfl⟩ rfl ?_
        refine x_iloadn (x := a2) rfl rfl ?_
        refine z_iald0 (N := 40) rfl J rfl rfl (by omega) (fun v12 qv12 => ?_)
        have ev12 := jfull v12
        refine x_aloadn (x := 98) rfl rfl ?_
        refine z_getR (N := 16) (b := 32) 0 0 rfl f_0_57 rfl J rfl 12544 ⟨rfl, rfl⟩ rfl ?_
        refine z_getR (N := 20) (b := 49) 1 8 rfl f_0_120 rfl J rfl 4104 ⟨rfl, rfl⟩ rfl ?_
        refine x_iloadn (x := a1) rfl rfl ?_
        refine x_iconst (v := 3) rfl ki_3 ?_
        refine x_inv (N := m_X8_at) (As := [.int a1, .int 3]) (b := 49) (st := [.int v12]) (dx9 := 1) (mc := 0) (ms := 0) (host := "") 8 rfl t_X8_at ⟨Or.inl q_0_145, i_X8_at.1, i_X8_at.2⟩ ⟨by decide, rfl⟩ (congrArg Prod.fst (J.1.1 49 (8, 4) rfl)) rfl (by decide) rfl rfl ⟨by decide, by decide⟩ (sf_X8_at_r49_c3 (jr_of rfl (by omega)) hD J  (fun v14 h ev14 J S13 => ?_))
        have Sm := jSm_tr rfl Sm S13
        show jX m_X0_splitOff 2 0 0 72 [(3, .int v2), (0, .ref 98), (1, .int a1), (2, .int a2)] [.int v14, .int v12] _ 0 0 _
        refine z_imul0 rfl (fun v15 => ?_)
        have ev15 := jfull v15
        refine x_iloadn (x := v2) rfl rfl ?_
        refine z_idiv0 rfl rfl (by omega) (fun v16 => ?_)
        have ev16 := jfull v16
        refine x_istore (lsx9 := [(4, .int v16), (3, .int v2), (0, .ref 98), (1, .int a1), (2, .int a2)]) rfl rfl rfl ?_
        refine x_aloadn (x := 98) rfl rfl ?_
        refine z_getR (N := 16) (b := 102) 0 5 rfl f_0_21 rfl J rfl 12549 ⟨rfl, rfl⟩ rfl ?_
        refine x_iloadn (x := a1) rfl rfl ?_
        refine x_iload (x := v16) rfl rfl ?_
        refine z_iast (N := 40) (l := 0) (u := 40) (w := v16.toInt) rfl hD J Sm rfl rfl rfl (by omega) rfl (wr_102) rfl (fun h w17 J Sm => ?_)
        refine x_aloadn (x := 98) rfl rfl ?_
        refine z_getR (N := 16) (b := 102) 0 5 rfl f_0_21 rfl J rfl 12549 ⟨rfl, rfl⟩ rfl ?_
        refine x_iloadn (x := a2) rfl rfl ?_
        refine x_dup2 rfl rfl rfl ?_
        refine z_iald0 (N := 40) rfl J rfl rfl (by omega) (fun v18 qv18 => ?_)
        have ev18 := jfull v18
        refine x_iload (x := v16) rfl rfl ?_
        refine z_isub0 rfl (fun v19 => ?_)
        have ev19 := jfull v19
        refine z_iast (N := 40) (l := 0) (u := 40) (w := v19.toInt) rfl hD J Sm rfl rfl rfl (by omega) rfl (wr_102) rfl (fun h w20 J Sm => ?_)
        exact jX.sub (jsb_c rfl (jsb_c rfl (jsb_c rfl jsb_n))) (ct_X0_splitOff_r98_96 hD hQ  a1 a2 h (jr_of rfl (by omega)) (jr_of rfl (by omega)) J Sm)
def fp_X8_at_r49_c2 : jFp := []
set_option maxRecDepth 100000 in
set_option maxHeartbeats 4000000 in
theorem ct_X8_at_r49_c2_24 {Dy : jH → Prop} {h0 : jH} {Q : Option Value → jH → Prop} (hD : jDk Dy) (hQ : ∀ (v : Int32) hx9, (-1) ≤ v.toInt ∧ v.toInt ≤ 39 → jJ jSgX Dy hx9 → jSm fp_X8_at_r49_c2 h0 hx9 → Q (some (.int v)) hx9) : ∀ (h : jH), jJ jSgX Dy h → jSm fp_X8_at_r49_c2 h0 h → jX m_X8_at 1 0 0 24 [] [] h 0 0 Q := by
  intro  h    J Sm
  refine x_iconst (v := 0) rfl ki_0 ?_
  refine x_iret rfl rfl ?_
  exact hQ _ _ (jr_of jk_0 (by omega)) J Sm
set_option maxRecDepth 100000 in
set_option maxHeartbeats 4000000 in
theorem sf_X8_at_r49_c2 {Dy : jH → Prop} {h : jH} {Q : Option Value → jH → Prop} {a1 : Int32} (y1 : 0 ≤ a1.toInt ∧ a1.toInt ≤ 39) (hD : jDk Dy) (J : jJ jSgX Dy h) (hQ : ∀ (v : Int32) hx9, (-1) ≤ v.toInt ∧ v.toInt ≤ 39 → jJ jSgX Dy hx9 → jSm fp_X8_at_r49_c2 h hx9 → Q (some (.int v)) hx9) : jC m_X8_at 1 0 0 [.ref 49, .int a1, .int 2] h Q := by
  refine jC.of rfl k_X8_at rfl ?_
  have Sm := jSm_rf fp_X8_at_r49_c2 h
  show jX m_X8_at 1 0 0 0 [(0, .ref 49), (1, .int a1), (2, .int 2)] [] _ 0 0 _
  refine x_iloadn (x := a1) rfl rfl ?_
  refine x_iflt (tgt := 24) rfl rfl (ti_lt rfl jk_0 (br_f (by omega) ?_))
  refine x_iloadn (x := a1) rfl rfl ?_
  refine x_aloadn (x := 49) rfl rfl ?_
  refine z_getI (N := 4) 8 3 rfl f_8_7 rfl J rfl sg_49_3_4_1_0_1 (fun v1 qv1 ev1 => ?_)
  refine x_icge (tgt := 24) rfl rfl (ti_ge rfl rfl ⟨fun c2 => ?_, fun c2 => ?_⟩)
  ·
    exact jX.sub jsb_n (ct_X8_at_r49_c2_24 hD hQ  h J Sm)
  ·
    refine x_iloadn (x := 2) rfl rfl ?_
    refine x_iflt (tgt := 24) rfl rfl (ti_lt jk_2 jk_0 (br_f (by omega) ?_))
    refine x_iloadn (x := 2) rfl rfl ?_
    refine x_aloadn (x := 49) rfl rfl ?_
    refine z_getC (N := 4) (v := 5) 8 0 rfl f_8_19 rfl J rfl sg_49_0_1_1_0_1 jk_5 ?_
    refine x_iclt (tgt := 26) rfl rfl (ti_lt jk_2 jk_5 (br_t (by omega) ?_))
    refine x_aloadn (x := 49) rfl rfl ?_
    refine z_getR (N := 4) (b := 50) 8 2 rfl f_8_25 rfl J rfl 6274 ⟨rfl, rfl⟩ rfl ?_
    refine x_iloadn (x := a1) rfl rfl ?_
    refine x_aloadn (x := 49) rfl rfl ?_
    refine z_getC (N := 4) (v := 5) 8 0 rfl f_8_19 rfl J rfl sg_49_0_1_1_0_1 jk_5 ?_
    refine z_imul rfl rfl jk_5 (by omega) (fun v3 ev3 => ?_)
    refine x_iloadn (x := 2) rfl rfl ?_
    refine z_iadd rfl rfl jk_2 (by omega) (fun v4 ev4 => ?_)
    refine z_iald (N := 200) rfl J rfl sg_50_0_200_5_2_3 rfl (by omega) (fun v5 qv5 ev5 => ?_)
    refine x_iret rfl rfl ?_
    exact hQ _ _ (jr_of rfl (by omega)) J Sm
def fp_X0_readHouses_r98 : jFp := [(98, 10, 11), (98, 11, 12), (102, 0, 40), (103, 0, 40), (104, 0, 40), (105, 0, 3)]
set_option maxRecDepth 100000 in
set_option maxHeartbeats 4000000 in
theorem ct_X0_readHouses_r98_166 {Dy : jH → Prop} {h0 : jH} {Q : Option Value → jH → Prop} {R89 : Int} (hD : jDk Dy) (hQ : ∀ hx9, jJ jSgX Dy hx9 → jSm fp_X0_readHouses_r98 h0 hx9 → Q none hx9) (k89 : ∀ (l3 : Int32) (l4 : Int32) (h : jH), 40 - l4.toInt < R89 → 0 ≤ l3.toInt ∧ l3.toInt ≤ 40 → 0 ≤ l4.toInt ∧ l4.toInt ≤ 40 → jJ jSgX Dy h → jSm fp_X0_readHouses_r98 h0 h → jX m_X0_readHouses 3 0 0 89 [(0, .ref 98), (3, .int l3), (4, .int l4)] [] h 0 0 Q) : ∀ (l3 : Int32) (l4 : Int32) (h : jH), 1 ≤ l3.toInt ∧ l3.toInt ≤ 40 → 0 ≤ l4.toInt ∧ l4.toInt ≤ 39 → 40 - l4.toInt ≤ R89 → jJ jSgX Dy h → jSm fp_X0_readHouses_r98 h0 h → jX m_X0_readHouses 3 0 0 166 [(0, .ref 98), (3, .int l3), (4, .int l4)] [] h 0 0 Q := by
  intro l3 l4 h y0 y1  m89 J Sm
  refine z_iinc (x := l4) (lsx9 := fun v1 => [(4, .int v1), (0, .ref 98), (3, .int l3)]) rfl rfl rfl jko_1 (by omega) rfl (fun _ => rfl) (fun v1 ev1 => ?_)
  refine x_goto (tgt := 89) rfl rfl ?_
  exact jX.sub (jsb_c rfl (jsb_c rfl (jsb_c rfl jsb_n))) (k89 l3 v1 h (by omega) (jr_of rfl (by omega)) (jr_of rfl (by omega)) J Sm)
set_option maxRecDepth 100000 in
set_option maxHeartbeats 4000000 in
theorem ct_X0_readHouses_r98_100130 {Dy : jH → Prop} {h0 : jH} {Q : Option Value → jH → Prop} {R89 : Int} (hD : jDk Dy) (hQ : ∀ hx9, jJ jSgX Dy hx9 → jSm fp_X0_readHouses_r98 h0 hx9 → Q none hx9) (k89 : ∀ (l3 : Int32) (l4 : Int32) (h : jH), 40 - l4.toInt < R89 → 0 ≤ l3.toInt ∧ l3.toInt ≤ 40 → 0 ≤ l4.toInt ∧ l4.toInt ≤ 40 → jJ jSgX Dy h → jSm fp_X0_readHouses_r98 h0 h → jX m_X0_readHouses 3 0 0 89 [(0, .ref 98), (3, .int l3), (4, .int l4)] [] h 0 0 Q) : ∀ (l3 : Int32) (l4 : Int32) (s1 : Int32) (h : jH), 1 ≤ l3.toInt ∧ l3.toInt ≤ 40 → 0 ≤ l4.toInt ∧ l4.toInt ≤ 39 → 0 ≤ s1.toInt ∧ s1.toInt ≤ 39 → 40 - l4.toInt ≤ R89 → jJ jSgX Dy h → jSm fp_X0_readHouses_r98 h0 h → jX m_X0_readHouses 3 0 0 130 [(0, .ref 98), (3, .int l3), (4, .int l4)] [.int (-1), .int s1, .ref 103] h 0 0 Q := by
  intro l3 l4 s1 h y0 y1 y2  m89 J Sm
  refine z_iast (N := 40) (l := 0) (u := 40) (w := (-1)) rfl hD J Sm rfl rfl rfl (by omega) jk_m1 (wr_103 (fun q1 q2 q3 q4 => by omega)) rfl (fun h w1 J Sm => ?_)
  refine x_aloadn (x := 98) rfl rfl ?_
  refine z_getR (N := 16) (b := 32) 0 0 rfl f_0_57 rfl J rfl 12544 ⟨rfl, rfl⟩ rfl ?_
  refine z_getR (N := 20) (b := 49) 1 8 rfl f_0_120 rfl J rfl 4104 ⟨rfl, rfl⟩ rfl ?_
  refine x_iload (x := l4) rfl rfl ?_
  refine x_iconst (v := 2) rfl ki_2 ?_
  refine x_inv (N := m_X8_at) (As := [.int l4, .int 2]) (b := 49) (st := []) (dx9 := 1) (mc := 0) (ms := 0) (host := "") 8 rfl t_X8_at ⟨Or.inl q_0_145, i_X8_at.1, i_X8_at.2⟩ ⟨by decide, rfl⟩ (congrArg Prod.fst (J.1.1 49 (8, 4) rfl)) rfl (by decide) rfl rfl ⟨by decide, by decide⟩ (sf_X8_at_r49_c2 (jr_of rfl (by omega)) hD J  (fun v3 h ev3 J S2 => ?_))
  have Sm := jSm_tr rfl Sm S2
  show jX m_X0_readHouses 3 0 0 144 [(0, .ref 98), (3, .int l3), (4, .int l4)] [.int v3] _ 0 0 _
  refine x_istore (lsx9 := [(5, .int v3), (0, .ref 98), (3, .int l3), (4, .int l4)]) rfl rfl rfl ?_
  refine x_iload (x := v3) rfl rfl ?_
  refine x_iflt (tgt := 166) rfl rfl (ti_lt rfl jk_0 ⟨fun c4 => ?_, fun c4 => ?_⟩)
  ·
    exact jX.sub (jsb_c rfl (jsb_c rfl (jsb_c rfl jsb_n))) (ct_X0_readHouses_r98_166 hD hQ k89 l3 l4 h (jr_of rfl (by omega)) (jr_of rfl (by omega)) (by omega) J Sm)
  ·
    refine x_iload (x := v3) rfl rfl ?_
    refine x_iload (x := l4) rfl rfl ?_
    refine x_icge (tgt := 166) rfl rfl (ti_ge rfl rfl ⟨fun c5 => ?_, fun c5 => ?_⟩)
    ·
      exact jX.sub (jsb_c rfl (jsb_c rfl (jsb_c rfl jsb_n))) (ct_X0_readHouses_r98_166 hD hQ k89 l3 l4 h (jr_of rfl (by omega)) (jr_of rfl (by omega)) (by omega) J Sm)
    ·
      refine x_aloadn (x := 98) rfl rfl ?_
      refine x_iload (x := l4) rfl rfl ?_
      refine x_iload (x := v3) rfl rfl ?_
      refine x_inv (N := m_X0_splitOff) (As := [.int l4, .int v3]) (b := 98) (st := []) (dx9 := 2) (mc := 0) (ms := 0) (host := "") 0 rfl t_X0_splitOff ⟨Or.inl q_0_148, i_X0_splitOff.1, i_X0_splitOff.2⟩ ⟨by decide, rfl⟩ (congrArg Prod.fst (J.1.1 98 (0, 16) rfl)) rfl (by decide) rfl rfl ⟨by decide, by decide⟩ (sf_X0_splitOff_r98 (jr_of rfl (by omega)) (jr_of rfl (by omega)) hD J  (fun h J S6 => ?_))
      have Sm := jSm_tr rfl Sm S6
      show jX m_X0_readHouses 3 0 0 166 [(5, .int v3), (0, .ref 98), (3, .int l3), (4, .int l4)] [] _ 0 0 _
      exact jX.sub (jsb_c rfl (jsb_c rfl (jsb_c rfl jsb_n))) (ct_X0_readHouses_r98_166 hD hQ k89 l3 l4 h (jr_of rfl (by omega)) (jr_of rfl (by omega)) (by omega) J Sm)
set_option maxRecDepth 100000 in
set_option maxHeartbeats 4000000 in
theorem ct_X0_readHouses_r98_130 {Dy : jH → Prop} {h0 : jH} {Q : Option Value → jH → Prop} {R89 : Int} (hD : jDk Dy) (hQ : ∀ hx9, jJ jSgX Dy hx9 → jSm fp_X0_readHouses_r98 h0 hx9 → Q none hx9) (k89 : ∀ (l3 : Int32) (l4 : Int32) (h : jH), 40 - l4.toInt < R89 → 0 ≤ l3.toInt ∧ l3.toInt ≤ 40 → 0 ≤ l4.toInt ∧ l4.toInt ≤ 40 → jJ jSgX Dy h → jSm fp_X0_readHouses_r98 h0 h → jX m_X0_readHouses 3 0 0 89 [(0, .ref 98), (3, .int l3), (4, .int l4)] [] h 0 0 Q) : ∀ (l3 : Int32) (l4 : Int32) (s0 : Int32) (s1 : Int32) (h : jH), 1 ≤ l3.toInt ∧ l3.toInt ≤ 40 → 0 ≤ l4.toInt ∧ l4.toInt ≤ 39 → (-1) ≤ s0.toInt ∧ s0.toInt ≤ 599 → 0 ≤ s1.toInt ∧ s1.toInt ≤ 39 → 40 - l4.toInt ≤ R89 → jJ jSgX Dy h → jSm fp_X0_readHouses_r98 h0 h → jX m_X0_readHouses 3 0 0 130 [(0, .ref 98), (3, .int l3), (4, .int l4)] [.int s0, .int s1, .ref 103] h 0 0 Q := by
  intro l3 l4 s0 s1 h y0 y1 y2 y3  m89 J Sm
  refine z_iast (N := 40) (l := 0) (u := 40) (w := s0.toInt) rfl hD J Sm rfl rfl rfl (by omega) rfl (wr_103 (fun q1 q2 q3 q4 => by omega)) rfl (fun h w1 J Sm => ?_)
  refine x_aloadn (x := 98) rfl rfl ?_
  refine z_getR (N := 16) (b := 32) 0 0 rfl f_0_57 rfl J rfl 12544 ⟨rfl, rfl⟩ rfl ?_
  refine z_getR (N := 20) (b := 49) 1 8 rfl f_0_120 rfl J rfl 4104 ⟨rfl, rfl⟩ rfl ?_
  refine x_iload (x := l4) rfl rfl ?_
  refine x_iconst (v := 2) rfl ki_2 ?_
  refine x_inv (N := m_X8_at) (As := [.int l4, .int 2]) (b := 49) (st := []) (dx9 := 1) (mc := 0) (ms := 0) (host := "") 8 rfl t_X8_at ⟨Or.inl q_0_145, i_X8_at.1, i_X8_at.2⟩ ⟨by decide, rfl⟩ (congrArg Prod.fst (J.1.1 49 (8, 4) rfl)) rfl (by decide) rfl rfl ⟨by decide, by decide⟩ (sf_X8_at_r49_c2 (jr_of rfl (by omega)) hD J  (fun v3 h ev3 J S2 => ?_))
  have Sm := jSm_tr rfl Sm S2
  show jX m_X0_readHouses 3 0 0 144 [(0, .ref 98), (3, .int l3), (4, .int l4)] [.int v3] _ 0 0 _
  refine x_istore (lsx9 := [(5, .int v3), (0, .ref 98), (3, .int l3), (4, .int l4)]) rfl rfl rfl ?_
  refine x_iload (x := v3) rfl rfl ?_
  refine x_iflt (tgt := 166) rfl rfl (ti_lt rfl jk_0 ⟨fun c4 => ?_, fun c4 => ?_⟩)
  ·
    exact jX.sub (jsb_c rfl (jsb_c rfl (jsb_c rfl jsb_n))) (ct_X0_readHouses_r98_166 hD hQ k89 l3 l4 h (jr_of rfl (by omega)) (jr_of rfl (by omega)) (by omega) J Sm)
  ·
    refine x_iload (x := v3) rfl rfl ?_
    refine x_iload (x := l4) rfl rfl ?_
    refine x_icge (tgt := 166) rfl rfl (ti_ge rfl rfl ⟨fun c5 => ?_, fun c5 => ?_⟩)
    ·
      exact jX.sub (jsb_c rfl (jsb_c rfl (jsb_c rfl jsb_n))) (ct_X0_readHouses_r98_166 hD hQ k89 l3 l4 h (jr_of rfl (by omega)) (jr_of rfl (by omega)) (by omega) J Sm)
    ·
      refine x_aloadn (x := 98) rfl rfl ?_
      refine x_iload (x := l4) rfl rfl ?_
      refine x_iload (x := v3) rfl rfl ?_
      refine x_inv (N := m_X0_splitOff) (As := [.int l4, .int v3]) (b := 98) (st := []) (dx9 := 2) (mc := 0) (ms := 0) (host := "") 0 rfl t_X0_splitOff ⟨Or.inl q_0_148, i_X0_splitOff.1, i_X0_splitOff.2⟩ ⟨by decide, rfl⟩ (congrArg Prod.fst (J.1.1 98 (0, 16) rfl)) rfl (by decide) rfl rfl ⟨by decide, by decide⟩ (sf_X0_splitOff_r98 (jr_of rfl (by omega)) (jr_of rfl (by omega)) hD J  (fun h J S6 => ?_))
      have Sm := jSm_tr rfl Sm S6
      show jX m_X0_readHouses 3 0 0 166 [(5, .int v3), (0, .ref 98), (3, .int l3), (4, .int l4)] [] _ 0 0 _
      exact jX.sub (jsb_c rfl (jsb_c rfl (jsb_c rfl jsb_n))) (ct_X0_readHouses_r98_166 hD hQ k89 l3 l4 h (jr_of rfl (by omega)) (jr_of rfl (by omega)) (by omega) J Sm)
set_option maxRecDepth 100000 in
set_option maxHeartbeats 4000000 in
theorem ct_X0_readHouses_r98_89 {Dy : jH → Prop} {h0 : jH} {Q : Option Value → jH → Prop} (hD : jDk Dy) (hQ : ∀ hx9, jJ jSgX Dy hx9 → jSm fp_X0_readHouses_r98 h0 hx9 → Q none hx9) : ∀ r : Nat, ∀ (l3 : Int32) (l4 : Int32) (h : jH), 40 - l4.toInt < (r : Int) → 0 ≤ l3.toInt ∧ l3.toInt ≤ 40 → 0 ≤ l4.toInt ∧ l4.toInt ≤ 40 → jJ jSgX Dy h → jSm fp_X0_readHouses_r98 h0 h → jX m_X0_readHouses 3 0 0 89 [(0, .ref 98), (3, .int l3), (4, .int l4)] [] h 0 0 Q := by
  intro r
  induction r with
  | zero =>
    intro l3 l4 h hm y0 y1   J Sm
    exfalso
    omega
  | succ r ih =>
    intro l3 l4 h hm y0 y1   J Sm
    refine x_iload (x := l4) rfl rfl ?_
    refine x_iloadn (x := l3) rfl rfl ?_
    refine x_icge (tgt := 172) rfl rfl (ti_ge rfl rfl ⟨fun c1 => ?_, fun c1 => ?_⟩)
    ·
      refine x_vret rfl rfl ?_
      exact hQ _ J Sm
    ·
      refine x_aloadn (x := 98) rfl rfl ?_
      refine z_getR (N := 16) (b := 103) 0 6 rfl f_0_24 rfl J rfl 12550 ⟨rfl, rfl⟩ rfl ?_
      refine x_iload (x := l4) rfl rfl ?_
      refine x_aloadn (x := 98) rfl rfl ?_
      refine z_getR (N := 16) (b := 103) 0 6 rfl f_0_24 rfl J rfl 12550 ⟨rfl, rfl⟩ rfl ?_
      refine x_iload (x := l4) rfl rfl ?_
      refine z_iald (N := 40) rfl J rfl sg_103_0_40_1_0_1 rfl (by omega) (fun v2 qv2 ev2 => ?_)
      refine x_iconst (v := (-1)) rfl ki_m1 ?_
      refine x_icne (tgt := 116) rfl rfl (ti_ne rfl jk_m1 ⟨fun c3 => ?_, fun c3 => ?_⟩)
      ·
        refine x_aloadn (x := 98) rfl rfl ?_
        refine z_getR (N := 16) (b := 78) 0 1 rfl f_0_61 rfl J rfl 12545 ⟨rfl, rfl⟩ rfl ?_
        refine x_aloadn (x := 98) rfl rfl ?_
        refine z_getR (N := 16) (b := 103) 0 6 rfl f_0_24 rfl J rfl 12550 ⟨rfl, rfl⟩ rfl ?_
        refine x_iload (x := l4) rfl rfl ?_
        refine z_ialdM (N := 40) (v := v2) rfl J rfl rfl (by omega) qv2 ?_
        refine x_inv (N := m_X7_soulAt) (As := [.int v2]) (b := 78) (st := [.int l4, .ref 103]) (dx9 := 2) (mc := 0) (ms := 0) (host := "") 7 rfl t_X7_soulAt ⟨Or.inl q_0_139, i_X7_soulAt.1, i_X7_soulAt.2⟩ ⟨by decide, rfl⟩ (congrArg Prod.fst (J.1.1 78 (7, 16) rfl)) rfl (by decide) rfl rfl ⟨by decide, by decide⟩ (jC.of rfl k_X7_soulAt rfl ?_)
        show jX m_X7_soulAt 2 0 0 0 [(0, .ref 78), (1, .int v2)] [] _ 0 0 _
        refine x_iloadn (x := v2) rfl rfl ?_
        refine x_iflt (tgt := 36) rfl rfl (ti_lt rfl jk_0 (br_f (by omega) ?_))
        refine x_iloadn (x := v2) rfl rfl ?_
        refine x_sipush (v := 600) rfl ks_600 ?_
        refine x_icge (tgt := 36) rfl rfl (ti_ge rfl jk_600 (br_f (by omega) ?_))
        refine x_iloadn (x := v2) rfl rfl ?_
        refine x_iconst (v := 3) rfl ki_3 ?_
        refine z_idiv rfl rfl jk_3 (by omega) (by omega) (fun v4 ev4 => ?_)
        refine x_aloadn (x := 78) rfl rfl ?_
        refine z_getR (N := 16) (b := 32) 7 0 rfl f_7_55 rfl J rfl 9984 ⟨rfl, rfl⟩ rfl ?_
        refine z_getR (N := 20) (b := 33) 1 0 rfl f_7_63 rfl J rfl 4096 ⟨rfl, rfl⟩ rfl ?_
        refine z_getI (N := 4) 8 3 rfl f_7_85 rfl J rfl sg_33_3_4_1_0_1 (fun v5 qv5 ev5 => ?_)
        refine x_icge (tgt := 36) rfl rfl (ti_ge rfl rfl ⟨fun c6 => ?_, fun c6 => ?_⟩)
        ·
          refine x_iconst (v := (-1)) rfl ki_m1 ?_
          refine x_iret rfl rfl ?_
          show jX m_X0_readHouses 3 0 0 130 [(0, .ref 98), (3, .int l3), (4, .int l4)] [.int (-1), .int l4, .ref 103] _ 0 0 _
          exact jX.sub (jsb_c rfl (jsb_c rfl (jsb_c rfl jsb_n))) (ct_X0_readHouses_r98_100130 hD hQ ih l3 l4 l4 h (jr_of rfl (by omega)) (jr_of rfl (by omega)) (jr_of rfl (by omega)) (by omega) J Sm)
        ·
          refine x_aloadn (x := 78) rfl rfl ?_
          refine z_getR (N := 16) (b := 82) 7 10 rfl f_7_37 rfl J rfl 9994 ⟨rfl, rfl⟩ rfl ?_
          refine x_iloadn (x := v2) rfl rfl ?_
          refine z_iald (N := 600) rfl J rfl sg_82_0_600_1_0_1 rfl (by omega) (fun v7 qv7 ev7 => ?_)
          refine x_goto (tgt := 37) rfl rfl ?_
          refine x_iret rfl rfl ?_
          show jX m_X0_readHouses 3 0 0 130 [(0, .ref 98), (3, .int l3), (4, .int l4)] [.int v7, .int l4, .ref 103] _ 0 0 _
          exact jX.sub (jsb_c rfl (jsb_c rfl (jsb_c rfl jsb_n))) (ct_X0_readHouses_r98_130 hD hQ ih l3 l4 v7 l4 h (jr_of rfl (by omega)) (jr_of rfl (by omega)) (jr_of rfl (by omega)) (jr_of rfl (by omega)) (by omega) J Sm)
      ·
        refine x_iconst (v := (-1)) rfl ki_m1 ?_
        refine x_goto (tgt := 130) rfl rfl ?_
        exact jX.sub (jsb_c rfl (jsb_c rfl (jsb_c rfl jsb_n))) (ct_X0_readHouses_r98_100130 hD hQ ih l3 l4 l4 h (jr_of rfl (by omega)) (jr_of rfl (by omega)) (jr_of rfl (by omega)) (by omega) J Sm)
set_option maxRecDepth 100000 in
set_option maxHeartbeats 4000000 in
theorem sf_X0_readHouses_r98 {Dy : jH → Prop} {h : jH} {Q : Option Value → jH → Prop} {a1 : Int32} {a2 : Int32} (y1 : 0 ≤ a1.toInt ∧ a1.toInt ≤ 146399) (y2 : 0 ≤ a2.toInt ∧ a2.toInt ≤ 146399) (hD : jDk Dy) (J : jJ jSgX Dy h) (hQ : ∀ hx9, jJ jSgX Dy hx9 → jSm fp_X0_readHouses_r98 h hx9 → Q none hx9) : jC m_X0_readHouses 3 0 0 [.ref 98, .int a1, .int a2] h Q := by
  refine jC.of rfl k_X0_readHouses rfl ?_
  have Sm := jSm_rf fp_X0_readHouses_r98 h
  show jX m_X0_readHouses 3 0 0 0 [(0, .ref 98), (1, .int a1), (2, .int a2)] [] _ 0 0 _
  refine x_aloadn (x := 98) rfl rfl ?_
  refine x_iloadn (x := a1) rfl rfl ?_
  refine z_putI (N := 16) (w := a1.toInt) 0 10 rfl f_0_37 rfl (jfin_no TX0 RX0 16 rfl rfl) hD J Sm rfl rfl rfl (pw_98_10 (by omega)) rfl (fun h w1 J Sm => ?_)
  refine x_aloadn (x := 98) rfl rfl ?_
  refine x_iloadn (x := a2) rfl rfl ?_
  refine z_putI (N := 16) (w := a2.toInt) 0 11 rfl f_0_41 rfl (jfin_no TX0 RX0 16 rfl rfl) hD J Sm rfl rfl rfl (pw_98_11 (by omega)) rfl (fun h w2 J Sm => ?_)
  refine x_aloadn (x := 98) rfl rfl ?_
  refine z_getR (N := 16) (b := 105) 0 8 rfl f_0_30 rfl J rfl 12552 ⟨rfl, rfl⟩ rfl ?_
  refine x_aloadn (x := 98) rfl rfl ?_
  refine z_getM (N := 16) (v := a1) 0 10 rfl f_0_37 rfl J rfl (jmo w2 rfl (jmw w1)) ?_
  refine x_aloadn (x := 98) rfl rfl ?_
  refine z_getM (N := 16) (v := a2) 0 11 rfl f_0_41 rfl J rfl (jmw w2) ?_
  refine x_aloadn (x := 98) rfl rfl ?_
  refine z_getR (N := 16) (b := 32) 0 0 rfl f_0_57 rfl J rfl 12544 ⟨rfl, rfl⟩ rfl ?_
  refine z_getI0 (N := 20) 1 19 rfl f_0_81 rfl J rfl (fun v3 qv3 => ?_)
  have ev3 := jfull v3
  refine x_inst (N := m_X11_isFresh) (As := [.ref 105, .int a1, .int a2, .int v3]) (st := []) (dx9 := 2) (mc := 0) (ms := 0) (host := "ParishChest") rfl t_X11_isFresh ⟨Or.inr q_0_84, s_X11_isFresh⟩ rfl (by decide) rfl rfl ⟨by decide, by decide⟩ (jC.of rfl k_X11_isFresh rfl ?_)
  show jX m_X11_isFresh 2 0 0 0 [(0, .ref 105), (1, .int a1), (2, .int a2), (3, .int v3)] [] _ 0 0 _
  refine x_aloadn (x := 105) rfl rfl ?_
  refine z_alen (N := 3) (v := 3) rfl J rfl rfl (by decide) ?_
  refine x_iconst (v := 3) rfl ki_3 ?_
  refine x_icge (tgt := 8) rfl rfl (ti_ge jk_3 jk_3 (br_t (by omega) ?_))
  refine x_aloadn (x := 105) rfl rfl ?_
  refine x_iconst (v := 0) rfl ki_0 ?_
  refine z_iald0 (N := 3) rfl J rfl jk_0 (by omega) (fun v4 qv4 => ?_)
  have ev4 := jfull v4
  refine x_iloadn (x := a1) rfl rfl ?_
  refine x_icne (tgt := 33) rfl rfl (ti_ne rfl rfl ⟨fun c5 => ?_, fun c5 => ?_⟩)
  ·
    refine x_iconst (v := 0) rfl ki_0 ?_
    refine x_istore (lsx9 := [(4, .int 0), (0, .ref 105), (1, .int a1), (2, .int a2), (3, .int v3)]) rfl rfl rfl ?_
    refine x_aloadn (x := 105) rfl rfl ?_
    refine x_iconst (v := 0) rfl ki_0 ?_
    refine x_iloadn (x := a1) rfl rfl ?_
    refine z_iast (N := 3) (l := 0) (u := 3) (w := a1.toInt) rfl hD J Sm rfl rfl jk_0 (by omega) rfl (wr_105) rfl (fun h w6 J Sm => ?_)
    refine x_aloadn (x := 105) rfl rfl ?_
    refine x_iconst (v := 1) rfl ki_1 ?_
    refine x_iloadn (x := a2) rfl rfl ?_
    refine z_iast (N := 3) (l := 0) (u := 3) (w := a2.toInt) rfl hD J Sm rfl rfl jk_1 (by omega) rfl (wr_105) rfl (fun h w7 J Sm => ?_)
    refine x_aloadn (x := 105) rfl rfl ?_
    refine x_iconst (v := 2) rfl ki_2 ?_
    refine x_iloadn (x := v3) rfl rfl ?_
    refine z_iast (N := 3) (l := 0) (u := 3) (w := v3.toInt) rfl hD J Sm rfl rfl jk_2 (by omega) rfl (wr_105) rfl (fun h w8 J Sm => ?_)
    refine x_iload (x := 0) rfl rfl ?_
    refine x_zret rfl rfl (by decide) ?_
    show jX m_X0_readHouses 3 0 0 32 [(0, .ref 98), (1, .int a1), (2, .int a2)] [.int 0] _ 0 0 _
    refine x_ifeq (tgt := 36) rfl rfl (ti_eq jk_0 jk_0 (br_t (by omega) ?_))
    refine x_bipush (v := 40) rfl kb_40 ?_
    refine x_aloadn (x := 98) rfl rfl ?_
    refine z_getR (N := 16) (b := 32) 0 0 rfl f_0_57 rfl J rfl 12544 ⟨rfl, rfl⟩ rfl ?_
    refine z_getR (N := 20) (b := 49) 1 8 rfl f_0_120 rfl J rfl 4104 ⟨rfl, rfl⟩ rfl ?_
    refine z_getI (N := 4) 8 3 rfl f_0_124 rfl J rfl sg_49_3_4_1_0_1 (fun v9 qv9 ev9 => ?_)
    refine z_mmin rfl q_0_88 (by decide) rfl jk_40 rfl (fun v10 ev10 => ?_)
    refine x_istoren (lsx9 := [(3, .int v10), (0, .ref 98), (1, .int a1), (2, .int a2)]) rfl rfl rfl ?_
    refine x_aloadn (x := 98) rfl rfl ?_
    refine x_aloadn (x := 98) rfl rfl ?_
    refine z_getR (N := 16) (b := 32) 0 0 rfl f_0_57 rfl J rfl 12544 ⟨rfl, rfl⟩ rfl ?_
    refine z_getR (N := 20) (b := 47) 1 7 rfl f_0_129 rfl J rfl 4103 ⟨rfl, rfl⟩ rfl ?_
    refine x_iconst (v := 3) rfl ki_3 ?_
    refine x_aloadn (x := 98) rfl rfl ?_
    refine z_getR (N := 16) (b := 102) 0 5 rfl f_0_21 rfl J rfl 12549 ⟨rfl, rfl⟩ rfl ?_
    refine x_iconst (v := 0) rfl ki_0 ?_
    refine x_inv (N := m_X0_readLatest) (As := [.ref 47, .int 3, .ref 102, .int 0]) (b := 98) (st := []) (dx9 := 2) (mc := 0) (ms := 0) (host := "") 0 rfl t_X0_readLatest ⟨Or.inl q_0_132, i_X0_readLatest.1, i_X0_readLatest.2⟩ ⟨by decide, rfl⟩ (congrArg Prod.fst (J.1.1 98 (0, 16) rfl)) rfl (by decide) rfl rfl ⟨by decide, by decide⟩ (sf_X0_readLatest_r98_r47_r102 (jr_of jk_3 (by omega)) (jr_of jk_0 (by omega)) hD J  (fun h J S11 => ?_))
    have Sm := jSm_tr rfl Sm S11
    show jX m_X0_readHouses 3 0 0 69 [(3, .int v10), (0, .ref 98), (1, .int a1), (2, .int a2)] [] _ 0 0 _
    refine x_aloadn (x := 98) rfl rfl ?_
    refine x_aloadn (x := 98) rfl rfl ?_
    refine z_getR (N := 16) (b := 32) 0 0 rfl f_0_57 rfl J rfl 12544 ⟨rfl, rfl⟩ rfl ?_
    refine z_getR (N := 20) (b := 51) 1 9 rfl f_0_136 rfl J rfl 4105 ⟨rfl, rfl⟩ rfl ?_
    refine x_iconst (v := 3) rfl ki_3 ?_
    refine x_aloadn (x := 98) rfl rfl ?_
    refine z_getR (N := 16) (b := 103) 0 6 rfl f_0_24 rfl J rfl 12550 ⟨rfl, rfl⟩ rfl ?_
    refine x_iconst (v := (-1)) rfl ki_m1 ?_
    refine x_inv (N := m_X0_readLatest) (As := [.ref 51, .int 3, .ref 103, .int (-1)]) (b := 98) (st := []) (dx9 := 2) (mc := 0) (ms := 0) (host := "") 0 rfl t_X0_readLatest ⟨Or.inl q_0_132, i_X0_readLatest.1, i_X0_readLatest.2⟩ ⟨by decide, rfl⟩ (congrArg Prod.fst (J.1.1 98 (0, 16) rfl)) rfl (by decide) rfl rfl ⟨by decide, by decide⟩ (sf_X0_readLatest_r98_r51_r103 (jr_of jk_3 (by omega)) (jr_of jk_m1 (by omega)) hD J  (fun h J S12 => ?_))
    have Sm := jSm_tr rfl Sm S12
    show jX m_X0_readHouses 3 0 0 86 [(3, .int v10), (0, .ref 98), (1, .int a1), (2, .int a2)] [] _ 0 0 _
    refine x_iconst (v := 0) rfl ki_0 ?_
    refine x_istore (lsx9 := [(4, .int 0), (3, .int v10), (0, .ref 98), (1, .int a1), (2, .int a2)]) rfl rfl rfl ?_
    exact jX.sub (jsb_c rfl (jsb_c rfl (jsb_c rfl jsb_n))) (ct_X0_readHouses_r98_89 hD hQ  41 v10 0 h (by have := jk_0; omega) (jr_of rfl (by omega)) (jr_of jk_0 (by omega)) J Sm)
  ·
    refine x_aloadn (x := 105) rfl rfl ?_
    refine x_iconst (v := 1) rfl ki_1 ?_
    refine z_iald0 (N := 3) rfl J rfl jk_1 (by omega) (fun v13 qv13 => ?_)
    have ev13 := jfull v13
    refine x_iloadn (x := a2) rfl rfl ?_
    refine x_icne (tgt := 33) rfl rfl (ti_ne rfl rfl ⟨fun c14 => ?_, fun c14 => ?_⟩)
    ·
      refine x_iconst (v := 0) rfl ki_0 ?_
      refine x_istore (lsx9 := [(4, .int 0), (0, .ref 105), (1, .int a1), (2, .int a2), (3, .int v3)]) rfl rfl rfl ?_
      refine x_aloadn (x := 105) rfl rfl ?_
      refine x_iconst (v := 0) rfl ki_0 ?_
      refine x_iloadn (x := a1) rfl rfl ?_
      refine z_iast (N := 3) (l := 0) (u := 3) (w := a1.toInt) rfl hD J Sm rfl rfl jk_0 (by omega) rfl (wr_105) rfl (fun h w15 J Sm => ?_)
      refine x_aloadn (x := 105) rfl rfl ?_
      refine x_iconst (v := 1) rfl ki_1 ?_
      refine x_iloadn (x := a2) rfl rfl ?_
      refine z_iast (N := 3) (l := 0) (u := 3) (w := a2.toInt) rfl hD J Sm rfl rfl jk_1 (by omega) rfl (wr_105) rfl (fun h w16 J Sm => ?_)
      refine x_aloadn (x := 105) rfl rfl ?_
      refine x_iconst (v := 2) rfl ki_2 ?_
      refine x_iloadn (x := v3) rfl rfl ?_
      refine z_iast (N := 3) (l := 0) (u := 3) (w := v3.toInt) rfl hD J Sm rfl rfl jk_2 (by omega) rfl (wr_105) rfl (fun h w17 J Sm => ?_)
      refine x_iload (x := 0) rfl rfl ?_
      refine x_zret rfl rfl (by decide) ?_
      show jX m_X0_readHouses 3 0 0 32 [(0, .ref 98), (1, .int a1), (2, .int a2)] [.int 0] _ 0 0 _
      refine x_ifeq (tgt := 36) rfl rfl (ti_eq jk_0 jk_0 (br_t (by omega) ?_))
      refine x_bipush (v := 40) rfl kb_40 ?_
      refine x_aloadn (x := 98) rfl rfl ?_
      refine z_getR (N := 16) (b := 32) 0 0 rfl f_0_57 rfl J rfl 12544 ⟨rfl, rfl⟩ rfl ?_
      refine z_getR (N := 20) (b := 49) 1 8 rfl f_0_120 rfl J rfl 4104 ⟨rfl, rfl⟩ rfl ?_
      refine z_getI (N := 4) 8 3 rfl f_0_124 rfl J rfl sg_49_3_4_1_0_1 (fun v18 qv18 ev18 => ?_)
      refine z_mmin rfl q_0_88 (by decide) rfl jk_40 rfl (fun v19 ev19 => ?_)
      refine x_istoren (lsx9 := [(3, .int v19), (0, .ref 98), (1, .int a1), (2, .int a2)]) rfl rfl rfl ?_
      refine x_aloadn (x := 98) rfl rfl ?_
      refine x_aloadn (x := 98) rfl rfl ?_
      refine z_getR (N := 16) (b := 32) 0 0 rfl f_0_57 rfl J rfl 12544 ⟨rfl, rfl⟩ rfl ?_
      refine z_getR (N := 20) (b := 47) 1 7 rfl f_0_129 rfl J rfl 4103 ⟨rfl, rfl⟩ rfl ?_
      refine x_iconst (v := 3) rfl ki_3 ?_
      refine x_aloadn (x := 98) rfl rfl ?_
      refine z_getR (N := 16) (b := 102) 0 5 rfl f_0_21 rfl J rfl 12549 ⟨rfl, rfl⟩ rfl ?_
      refine x_iconst (v := 0) rfl ki_0 ?_
      refine x_inv (N := m_X0_readLatest) (As := [.ref 47, .int 3, .ref 102, .int 0]) (b := 98) (st := []) (dx9 := 2) (mc := 0) (ms := 0) (host := "") 0 rfl t_X0_readLatest ⟨Or.inl q_0_132, i_X0_readLatest.1, i_X0_readLatest.2⟩ ⟨by decide, rfl⟩ (congrArg Prod.fst (J.1.1 98 (0, 16) rfl)) rfl (by decide) rfl rfl ⟨by decide, by decide⟩ (sf_X0_readLatest_r98_r47_r102 (jr_of jk_3 (by omega)) (jr_of jk_0 (by omega)) hD J  (fun h J S20 => ?_))
      have Sm := jSm_tr rfl Sm S20
      show jX m_X0_readHouses 3 0 0 69 [(3, .int v19), (0, .ref 98), (1, .int a1), (2, .int a2)] [] _ 0 0 _
      refine x_aloadn (x := 98) rfl rfl ?_
      refine x_aloadn (x := 98) rfl rfl ?_
      refine z_getR (N := 16) (b := 32) 0 0 rfl f_0_57 rfl J rfl 12544 ⟨rfl, rfl⟩ rfl ?_
      refine z_getR (N := 20) (b := 51) 1 9 rfl f_0_136 rfl J rfl 4105 ⟨rfl, rfl⟩ rfl ?_
      refine x_iconst (v := 3) rfl ki_3 ?_
      refine x_aloadn (x := 98) rfl rfl ?_
      refine z_getR (N := 16) (b := 103) 0 6 rfl f_0_24 rfl J rfl 12550 ⟨rfl, rfl⟩ rfl ?_
      refine x_iconst (v := (-1)) rfl ki_m1 ?_
      refine x_inv (N := m_X0_readLatest) (As := [.ref 51, .int 3, .ref 103, .int (-1)]) (b := 98) (st := []) (dx9 := 2) (mc := 0) (ms := 0) (host := "") 0 rfl t_X0_readLatest ⟨Or.inl q_0_132, i_X0_readLatest.1, i_X0_readLatest.2⟩ ⟨by decide, rfl⟩ (congrArg Prod.fst (J.1.1 98 (0, 16) rfl)) rfl (by decide) rfl rfl ⟨by decide, by decide⟩ (sf_X0_readLatest_r98_r51_r103 (jr_of jk_3 (by omega)) (jr_of jk_m1 (by omega)) hD J  (fun h J S21 => ?_))
      have Sm := jSm_tr rfl Sm S21
      show jX m_X0_readHouses 3 0 0 86 [(3, .int v19), (0, .ref 98), (1, .int a1), (2, .int a2)] [] _ 0 0 _
      refine x_iconst (v := 0) rfl ki_0 ?_
      refine x_istore (lsx9 := [(4, .int 0), (3, .int v19), (0, .ref 98), (1, .int a1), (2, .int a2)]) rfl rfl rfl ?_
      exact jX.sub (jsb_c rfl (jsb_c rfl (jsb_c rfl jsb_n))) (ct_X0_readHouses_r98_89 hD hQ  41 v19 0 h (by have := jk_0; omega) (jr_of rfl (by omega)) (jr_of jk_0 (by omega)) J Sm)
    ·
      refine x_aloadn (x := 105) rfl rfl ?_
      refine x_iconst (v := 2) rfl ki_2 ?_
      refine z_iald0 (N := 3) rfl J rfl jk_2 (by omega) (fun v22 qv22 => ?_)
      have ev22 := jfull v22
      refine x_iloadn (x := v3) rfl rfl ?_
      refine x_icne (tgt := 33) rfl rfl (ti_ne rfl rfl ⟨fun c23 => ?_, fun c23 => ?_⟩)
      ·
        refine x_iconst (v := 0) rfl ki_0 ?_
        refine x_istore (lsx9 := [(4, .int 0), (0, .ref 105), (1, .int a1), (2, .int a2), (3, .int v3)]) rfl rfl rfl ?_
        refine x_aloadn (x := 105) rfl rfl ?_
        refine x_iconst (v := 0) rfl ki_0 ?_
        refine x_iloadn (x := a1) rfl rfl ?_
        refine z_iast (N := 3) (l := 0) (u := 3) (w := a1.toInt) rfl hD J Sm rfl rfl jk_0 (by omega) rfl (wr_105) rfl (fun h w24 J Sm => ?_)
        refine x_aloadn (x := 105) rfl rfl ?_
        refine x_iconst (v := 1) rfl ki_1 ?_
        refine x_iloadn (x := a2) rfl rfl ?_
        refine z_iast (N := 3) (l := 0) (u := 3) (w := a2.toInt) rfl hD J Sm rfl rfl jk_1 (by omega) rfl (wr_105) rfl (fun h w25 J Sm => ?_)
        refine x_aloadn (x := 105) rfl rfl ?_
        refine x_iconst (v := 2) rfl ki_2 ?_
        refine x_iloadn (x := v3) rfl rfl ?_
        refine z_iast (N := 3) (l := 0) (u := 3) (w := v3.toInt) rfl hD J Sm rfl rfl jk_2 (by omega) rfl (wr_105) rfl (fun h w26 J Sm => ?_)
        refine x_iload (x := 0) rfl rfl ?_
        refine x_zret rfl rfl (by decide) ?_
        show jX m_X0_readHouses 3 0 0 32 [(0, .ref 98), (1, .int a1), (2, .int a2)] [.int 0] _ 0 0 _
        refine x_ifeq (tgt := 36) rfl rfl (ti_eq jk_0 jk_0 (br_t (by omega) ?_))
        refine x_bipush (v := 40) rfl kb_40 ?_
        refine x_aloadn (x := 98) rfl rfl ?_
        refine z_getR (N := 16) (b := 32) 0 0 rfl f_0_57 rfl J rfl 12544 ⟨rfl, rfl⟩ rfl ?_
        refine z_getR (N := 20) (b := 49) 1 8 rfl f_0_120 rfl J rfl 4104 ⟨rfl, rfl⟩ rfl ?_
        refine z_getI (N := 4) 8 3 rfl f_0_124 rfl J rfl sg_49_3_4_1_0_1 (fun v27 qv27 ev27 => ?_)
        refine z_mmin rfl q_0_88 (by decide) rfl jk_40 rfl (fun v28 ev28 => ?_)
        refine x_istoren (lsx9 := [(3, .int v28), (0, .ref 98), (1, .int a1), (2, .int a2)]) rfl rfl rfl ?_
        refine x_aloadn (x := 98) rfl rfl ?_
        refine x_aloadn (x := 98) rfl rfl ?_
        refine z_getR (N := 16) (b := 32) 0 0 rfl f_0_57 rfl J rfl 12544 ⟨rfl, rfl⟩ rfl ?_
        refine z_getR (N := 20) (b := 47) 1 7 rfl f_0_129 rfl J rfl 4103 ⟨rfl, rfl⟩ rfl ?_
        refine x_iconst (v := 3) rfl ki_3 ?_
        refine x_aloadn (x := 98) rfl rfl ?_
        refine z_getR (N := 16) (b := 102) 0 5 rfl f_0_21 rfl J rfl 12549 ⟨rfl, rfl⟩ rfl ?_
        refine x_iconst (v := 0) rfl ki_0 ?_
        refine x_inv (N := m_X0_readLatest) (As := [.ref 47, .int 3, .ref 102, .int 0]) (b := 98) (st := []) (dx9 := 2) (mc := 0) (ms := 0) (host := "") 0 rfl t_X0_readLatest ⟨Or.inl q_0_132, i_X0_readLatest.1, i_X0_readLatest.2⟩ ⟨by decide, rfl⟩ (congrArg Prod.fst (J.1.1 98 (0, 16) rfl)) rfl (by decide) rfl rfl ⟨by decide, by decide⟩ (sf_X0_readLatest_r98_r47_r102 (jr_of jk_3 (by omega)) (jr_of jk_0 (by omega)) hD J  (fun h J S29 => ?_))
        have Sm := jSm_tr rfl Sm S29
        show jX m_X0_readHouses 3 0 0 69 [(3, .int v28), (0, .ref 98), (1, .int a1), (2, .int a2)] [] _ 0 0 _
        refine x_aloadn (x := 98) rfl rfl ?_
        refine x_aloadn (x := 98) rfl rfl ?_
        refine z_getR (N := 16) (b := 32) 0 0 rfl f_0_57 rfl J rfl 12544 ⟨rfl, rfl⟩ rfl ?_
        refine z_getR (N := 20) (b := 51) 1 9 rfl f_0_136 rfl J rfl 4105 ⟨rfl, rfl⟩ rfl ?_
        refine x_iconst (v := 3) rfl ki_3 ?_
        refine x_aloadn (x := 98) rfl rfl ?_
        refine z_getR (N := 16) (b := 103) 0 6 rfl f_0_24 rfl J rfl 12550 ⟨rfl, rfl⟩ rfl ?_
        refine x_iconst (v := (-1)) rfl ki_m1 ?_
        refine x_inv (N := m_X0_readLatest) (As := [.ref 51, .int 3, .ref 103, .int (-1)]) (b := 98) (st := []) (dx9 := 2) (mc := 0) (ms := 0) (host := "") 0 rfl t_X0_readLatest ⟨Or.inl q_0_132, i_X0_readLatest.1, i_X0_readLatest.2⟩ ⟨by decide, rfl⟩ (congrArg Prod.fst (J.1.1 98 (0, 16) rfl)) rfl (by decide) rfl rfl ⟨by decide, by decide⟩ (sf_X0_readLatest_r98_r51_r103 (jr_of jk_3 (by omega)) (jr_of jk_m1 (by omega)) hD J  (fun h J S30 => ?_))
        have Sm := jSm_tr rfl Sm S30
        show jX m_X0_readHouses 3 0 0 86 [(3, .int v28), (0, .ref 98), (1, .int a1), (2, .int a2)] [] _ 0 0 _
        refine x_iconst (v := 0) rfl ki_0 ?_
        refine x_istore (lsx9 := [(4, .int 0), (3, .int v28), (0, .ref 98), (1, .int a1), (2, .int a2)]) rfl rfl rfl ?_
        exact jX.sub (jsb_c rfl (jsb_c rfl (jsb_c rfl jsb_n))) (ct_X0_readHouses_r98_89 hD hQ  41 v28 0 h (by have := jk_0; omega) (jr_of rfl (by omega)) (jr_of jk_0 (by omega)) J Sm)
      ·
        refine x_iconst (v := 1) rfl ki_1 ?_
        refine x_goto (tgt := 34) rfl rfl ?_
        refine x_istore (lsx9 := [(4, .int 1), (0, .ref 105), (1, .int a1), (2, .int a2), (3, .int v3)]) rfl rfl rfl ?_
        refine x_aloadn (x := 105) rfl rfl ?_
        refine x_iconst (v := 0) rfl ki_0 ?_
        refine x_iloadn (x := a1) rfl rfl ?_
        refine z_iast (N := 3) (l := 0) (u := 3) (w := a1.toInt) rfl hD J Sm rfl rfl jk_0 (by omega) rfl (wr_105) rfl (fun h w31 J Sm => ?_)
        refine x_aloadn (x := 105) rfl rfl ?_
        refine x_iconst (v := 1) rfl ki_1 ?_
        refine x_iloadn (x := a2) rfl rfl ?_
        refine z_iast (N := 3) (l := 0) (u := 3) (w := a2.toInt) rfl hD J Sm rfl rfl jk_1 (by omega) rfl (wr_105) rfl (fun h w32 J Sm => ?_)
        refine x_aloadn (x := 105) rfl rfl ?_
        refine x_iconst (v := 2) rfl ki_2 ?_
        refine x_iloadn (x := v3) rfl rfl ?_
        refine z_iast (N := 3) (l := 0) (u := 3) (w := v3.toInt) rfl hD J Sm rfl rfl jk_2 (by omega) rfl (wr_105) rfl (fun h w33 J Sm => ?_)
        refine x_iload (x := 1) rfl rfl ?_
        refine x_zret rfl rfl (by decide) ?_
        show jX m_X0_readHouses 3 0 0 32 [(0, .ref 98), (1, .int a1), (2, .int a2)] [.int 1] _ 0 0 _
        refine x_ifeq (tgt := 36) rfl rfl (ti_eq jk_1 jk_0 (br_f (by omega) ?_))
        refine x_vret rfl rfl ?_
        exact hQ _ J Sm
def fp_X0_strikeBy_r98 : jFp := [(100, 0, 30)]
set_option maxRecDepth 100000 in
set_option maxHeartbeats 4000000 in
theorem ct_X0_strikeBy_r98_67 {Dy : jH → Prop} {h0 : jH} {Q : Option Value → jH → Prop} {R2 : Int} (hD : jDk Dy) (hQ : ∀ hx9, jJ jSgX Dy hx9 → jSm fp_X0_strikeBy_r98 h0 hx9 → Q none hx9) (k2 : ∀ (l1 : Int32) (l2 : Nat) (l3 : Int32) (h : jH), 12 - l3.toInt < R2 → 0 ≤ l1.toInt ∧ l1.toInt ≤ 29 → 0 ≤ l3.toInt ∧ l3.toInt ≤ 12 → jTx h l2 → jJ jSgX Dy h → jSm fp_X0_strikeBy_r98 h0 h → jX m_X0_strikeBy 2 0 0 2 [(0, .ref 98), (1, .int l1), (2, .ref l2), (3, .int l3)] [] h 0 0 Q) : ∀ (l1 : Int32) (l2 : Nat) (l3 : Int32) (h : jH), 0 ≤ l1.toInt ∧ l1.toInt ≤ 29 → 0 ≤ l3.toInt ∧ l3.toInt ≤ 11 → jTx h l2 → 12 - l3.toInt ≤ R2 → jJ jSgX Dy h → jSm fp_X0_strikeBy_r98 h0 h → jX m_X0_strikeBy 2 0 0 67 [(0, .ref 98), (1, .int l1), (2, .ref l2), (3, .int l3)] [] h 0 0 Q := by
  intro l1 l2 l3 h y0 y1 Tl2  m2 J Sm
  refine z_iinc (x := l3) (lsx9 := fun v1 => [(3, .int v1), (0, .ref 98), (1, .int l1), (2, .ref l2)]) rfl rfl rfl jko_1 (by omega) rfl (fun _ => rfl) (fun v1 ev1 => ?_)
  refine x_goto (tgt := 2) rfl rfl ?_
  exact jX.sub (jsb_c rfl (jsb_c rfl (jsb_c rfl (jsb_c rfl jsb_n)))) (k2 l1 l2 v1 h (by omega) (jr_of rfl (by omega)) (jr_of rfl (by omega)) Tl2 J Sm)
set_option maxRecDepth 100000 in
set_option maxHeartbeats 4000000 in
theorem ct_X0_strikeBy_r98_2 {Dy : jH → Prop} {h0 : jH} {Q : Option Value → jH → Prop} (hD : jDk Dy) (hQ : ∀ hx9, jJ jSgX Dy hx9 → jSm fp_X0_strikeBy_r98 h0 hx9 → Q none hx9) : ∀ r : Nat, ∀ (l1 : Int32) (l2 : Nat) (l3 : Int32) (h : jH), 12 - l3.toInt < (r : Int) → 0 ≤ l1.toInt ∧ l1.toInt ≤ 29 → 0 ≤ l3.toInt ∧ l3.toInt ≤ 12 → jTx h l2 → jJ jSgX Dy h → jSm fp_X0_strikeBy_r98 h0 h → jX m_X0_strikeBy 2 0 0 2 [(0, .ref 98), (1, .int l1), (2, .ref l2), (3, .int l3)] [] h 0 0 Q := by
  intro r
  induction r with
  | zero =>
    intro l1 l2 l3 h hm y0 y1 Tl2   J Sm
    exfalso
    omega
  | succ r ih =>
    intro l1 l2 l3 h hm y0 y1 Tl2   J Sm
    refine x_iloadn (x := l3) rfl rfl ?_
    refine x_aloadn (x := l2) rfl rfl ?_
    refine z_getTc rfl f_0_104 Tl2 (fun v1 ev1 => ?_)
    refine x_icge (tgt := 73) rfl rfl (ti_ge rfl rfl ⟨fun c2 => ?_, fun c2 => ?_⟩)
    ·
      refine x_vret rfl rfl ?_
      exact hQ _ J Sm
    ·
      refine x_aloadn (x := l2) rfl rfl ?_
      refine x_iloadn (x := l3) rfl rfl ?_
      refine x_iconst (v := 1) rfl ki_1 ?_
      refine x_inv (N := m_X10_head) (As := [.int l3, .int 1]) (b := l2) (st := []) (dx9 := 1) (mc := 0) (ms := 0) (host := "") 10 rfl t_X10_head ⟨Or.inl q_0_111, i_X10_head.1, i_X10_head.2⟩ ⟨by decide, rfl⟩ (congrArg Prod.fst Tl2.1.2.2) rfl (by decide) rfl rfl ⟨by decide, by decide⟩ (c_head Tl2 (fun v3 => ?_))
      have ev3 := jfull v3
      show jX m_X0_strikeBy 2 0 0 16 [(0, .ref 98), (1, .int l1), (2, .ref l2), (3, .int l3)] [.int v3] _ 0 0 _
      refine x_istore (lsx9 := [(4, .int v3), (0, .ref 98), (1, .int l1), (2, .ref l2), (3, .int l3)]) rfl rfl rfl ?_
      refine x_aloadn (x := l2) rfl rfl ?_
      refine x_iloadn (x := l3) rfl rfl ?_
      refine x_iconst (v := 0) rfl ki_0 ?_
      refine x_inv (N := m_X10_head) (As := [.int l3, .int 0]) (b := l2) (st := []) (dx9 := 1) (mc := 0) (ms := 0) (host := "") 10 rfl t_X10_head ⟨Or.inl q_0_111, i_X10_head.1, i_X10_head.2⟩ ⟨by decide, rfl⟩ (congrArg Prod.fst Tl2.1.2.2) rfl (by decide) rfl rfl ⟨by decide, by decide⟩ (c_head Tl2 (fun v4 => ?_))
      have ev4 := jfull v4
      show jX m_X0_strikeBy 2 0 0 24 [(4, .int v3), (0, .ref 98), (1, .int l1), (2, .ref l2), (3, .int l3)] [.int v4] _ 0 0 _
      refine x_bipush (v := 8) rfl kb_8 ?_
      refine x_icne (tgt := 67) rfl rfl (ti_ne rfl jk_8 ⟨fun c5 => ?_, fun c5 => ?_⟩)
      ·
        exact jX.sub (jsb_c rfl (jsb_c rfl (jsb_c rfl (jsb_c rfl jsb_n)))) (ct_X0_strikeBy_r98_67 hD hQ ih l1 l2 l3 h (jr_of rfl (by omega)) (jr_of rfl (by omega)) Tl2 (by omega) J Sm)
      ·
        refine x_aloadn (x := 98) rfl rfl ?_
        refine x_iloadn (x := l1) rfl rfl ?_
        refine x_iloadn (x := l3) rfl rfl ?_
        refine x_inv (N := m_X0_isInForce) (As := [.int l1, .int l3]) (b := 98) (st := []) (dx9 := 1) (mc := 0) (ms := 0) (host := "") 0 rfl t_X0_isInForce ⟨Or.inl q_0_116, i_X0_isInForce.1, i_X0_isInForce.2⟩ ⟨by decide, rfl⟩ (congrArg Prod.fst (J.1.1 98 (0, 16) rfl)) rfl (by decide) rfl rfl ⟨by decide, by decide⟩ (jC.of rfl k_X0_isInForce rfl ?_)
        show jX m_X0_isInForce 1 0 0 0 [(0, .ref 98), (1, .int l1), (2, .int l3)] [] _ 0 0 _
        refine x_iloadn (x := l1) rfl rfl ?_
        refine x_iflt (tgt := 39) rfl rfl (ti_lt rfl jk_0 (br_f (by omega) ?_))
        refine x_iloadn (x := l1) rfl rfl ?_
        refine x_bipush (v := 30) rfl kb_30 ?_
        refine x_icge (tgt := 39) rfl rfl (ti_ge rfl jk_30 (br_f (by omega) ?_))
        refine x_iloadn (x := l1) rfl rfl ?_
        refine x_aloadn (x := 98) rfl rfl ?_
        refine z_getR (N := 16) (b := 32) 0 0 rfl f_0_57 rfl J rfl 12544 ⟨rfl, rfl⟩ rfl ?_
        refine z_getI (N := 20) 1 18 rfl f_0_72 rfl J rfl sg_32_18_19_1_0_1 (fun v6 qv6 ev6 => ?_)
        refine x_icge (tgt := 39) rfl rfl (ti_ge rfl rfl ⟨fun c7 => ?_, fun c7 => ?_⟩)
        ·
          refine x_iconst (v := 0) rfl ki_0 ?_
          refine x_zret rfl rfl (by decide) ?_
          show jX m_X0_strikeBy 2 0 0 35 [(4, .int v3), (0, .ref 98), (1, .int l1), (2, .ref l2), (3, .int l3)] [.int 0] _ 0 0 _
          refine x_ifeq (tgt := 67) rfl rfl (ti_eq jk_0 jk_0 (br_t (by omega) ?_))
          exact jX.sub (jsb_c rfl (jsb_c rfl (jsb_c rfl (jsb_c rfl jsb_n)))) (ct_X0_strikeBy_r98_67 hD hQ ih l1 l2 l3 h (jr_of rfl (by omega)) (jr_of rfl (by omega)) Tl2 (by omega) J Sm)
        ·
          refine x_aloadn (x := 98) rfl rfl ?_
          refine z_getR (N := 16) (b := 99) 0 2 rfl f_0_9 rfl J rfl 12546 ⟨rfl, rfl⟩ rfl ?_
          refine x_iloadn (x := l1) rfl rfl ?_
          refine z_iald0 (N := 30) rfl J rfl rfl (by omega) (fun v8 qv8 => ?_)
          have ev8 := jfull v8
          refine x_iloadn (x := l3) rfl rfl ?_
          refine z_ishr0 rfl (fun v9 => ?_)
          have ev9 := jfull v9
          refine x_iconst (v := 1) rfl ki_1 ?_
          refine z_iand rfl jk_1 (by decide) (fun v10 ev10 => ?_)
          refine x_iconst (v := 1) rfl ki_1 ?_
          refine x_icne (tgt := 39) rfl rfl (ti_ne rfl jk_1 ⟨fun c11 => ?_, fun c11 => ?_⟩)
          ·
            refine x_iconst (v := 0) rfl ki_0 ?_
            refine x_zret rfl rfl (by decide) ?_
            show jX m_X0_strikeBy 2 0 0 35 [(4, .int v3), (0, .ref 98), (1, .int l1), (2, .ref l2), (3, .int l3)] [.int 0] _ 0 0 _
            refine x_ifeq (tgt := 67) rfl rfl (ti_eq jk_0 jk_0 (br_t (by omega) ?_))
            exact jX.sub (jsb_c rfl (jsb_c rfl (jsb_c rfl (jsb_c rfl jsb_n)))) (ct_X0_strikeBy_r98_67 hD hQ ih l1 l2 l3 h (jr_of rfl (by omega)) (jr_of rfl (by omega)) Tl2 (by omega) J Sm)
          ·
            refine x_iconst (v := 1) rfl ki_1 ?_
            refine x_goto (tgt := 40) rfl rfl ?_
            refine x_zret rfl rfl (by decide) ?_
            show jX m_X0_strikeBy 2 0 0 35 [(4, .int v3), (0, .ref 98), (1, .int l1), (2, .ref l2), (3, .int l3)] [.int 1] _ 0 0 _
            refine x_ifeq (tgt := 67) rfl rfl (ti_eq jk_1 jk_0 (br_f (by omega) ?_))
            refine x_iload (x := v3) rfl rfl ?_
            refine x_iflt (tgt := 67) rfl rfl (ti_lt rfl jk_0 ⟨fun c12 => ?_, fun c12 => ?_⟩)
            ·
              exact jX.sub (jsb_c rfl (jsb_c rfl (jsb_c rfl (jsb_c rfl jsb_n)))) (ct_X0_strikeBy_r98_67 hD hQ ih l1 l2 l3 h (jr_of rfl (by omega)) (jr_of rfl (by omega)) Tl2 (by omega) J Sm)
            ·
              refine x_iload (x := v3) rfl rfl ?_
              refine x_iloadn (x := l1) rfl rfl ?_
              refine x_icge (tgt := 67) rfl rfl (ti_ge rfl rfl ⟨fun c13 => ?_, fun c13 => ?_⟩)
              ·
                exact jX.sub (jsb_c rfl (jsb_c rfl (jsb_c rfl (jsb_c rfl jsb_n)))) (ct_X0_strikeBy_r98_67 hD hQ ih l1 l2 l3 h (jr_of rfl (by omega)) (jr_of rfl (by omega)) Tl2 (by omega) J Sm)
              ·
                refine x_aloadn (x := 98) rfl rfl ?_
                refine z_getR (N := 16) (b := 100) 0 3 rfl f_0_15 rfl J rfl 12547 ⟨rfl, rfl⟩ rfl ?_
                refine x_iload (x := v3) rfl rfl ?_
                refine x_dup2 rfl rfl rfl ?_
                refine z_iald0 (N := 30) rfl J rfl rfl (by omega) (fun v14 qv14 => ?_)
                have ev14 := jfull v14
                refine x_iconst (v := 1) rfl ki_1 ?_
                refine x_aloadn (x := l2) rfl rfl ?_
                refine x_iloadn (x := l3) rfl rfl ?_
                refine x_iconst (v := 2) rfl ki_2 ?_
                refine x_inv (N := m_X10_head) (As := [.int l3, .int 2]) (b := l2) (st := [.int 1, .int v14, .int v3, .ref 100]) (dx9 := 1) (mc := 0) (ms := 0) (host := "") 10 rfl t_X10_head ⟨Or.inl q_0_111, i_X10_head.1, i_X10_head.2⟩ ⟨by decide, rfl⟩ (congrArg Prod.fst Tl2.1.2.2) rfl (by decide) rfl rfl ⟨by decide, by decide⟩ (c_head Tl2 (fun v15 => ?_))
                have ev15 := jfull v15
                show jX m_X0_strikeBy 2 0 0 64 [(4, .int v3), (0, .ref 98), (1, .int l1), (2, .ref l2), (3, .int l3)] [.int v15, .int 1, .int v14, .int v3, .ref 100] _ 0 0 _
                refine z_ishl0 rfl (fun v16 => ?_)
                have ev16 := jfull v16
                refine z_ior0 rfl (fun v17 => ?_)
                have ev17 := jfull v17
                refine z_iast (N := 30) (l := 0) (u := 30) (w := v17.toInt) rfl hD J Sm rfl rfl rfl (by omega) rfl (wr_100) rfl (fun h w18 J Sm => ?_)
                have Tl2 := jTx_i w18 rfl Tl2
                exact jX.sub (jsb_c rfl (jsb_c rfl (jsb_c rfl (jsb_c rfl jsb_n)))) (ct_X0_strikeBy_r98_67 hD hQ ih l1 l2 l3 h (jr_of rfl (by omega)) (jr_of rfl (by omega)) Tl2 (by omega) J Sm)
set_option maxRecDepth 100000 in
set_option maxHeartbeats 4000000 in
theorem sf_X0_strikeBy_r98 {Dy : jH → Prop} {h : jH} {Q : Option Value → jH → Prop} {a1 : Int32} {t2 : Nat} (y1 : 0 ≤ a1.toInt ∧ a1.toInt ≤ 29) (hD : jDk Dy) (J : jJ jSgX Dy h) (Tt2 : jTx h t2) (hQ : ∀ hx9, jJ jSgX Dy hx9 → jSm fp_X0_strikeBy_r98 h hx9 → Q none hx9) : jC m_X0_strikeBy 2 0 0 [.ref 98, .int a1, .ref t2] h Q := by
  refine jC.of rfl k_X0_strikeBy rfl ?_
  have Sm := jSm_rf fp_X0_strikeBy_r98 h
  show jX m_X0_strikeBy 2 0 0 0 [(0, .ref 98), (1, .int a1), (2, .ref t2)] [] _ 0 0 _
  refine x_iconst (v := 0) rfl ki_0 ?_
  refine x_istoren (lsx9 := [(3, .int 0), (0, .ref 98), (1, .int a1), (2, .ref t2)]) rfl rfl rfl ?_
  exact jX.sub (jsb_c rfl (jsb_c rfl (jsb_c rfl (jsb_c rfl jsb_n)))) (ct_X0_strikeBy_r98_2 hD hQ  13 a1 t2 0 h (by have := jk_0; omega) (jr_of rfl (by omega)) (jr_of jk_0 (by omega)) Tt2 J Sm)
def fp_X0_readLaws_r98 : jFp := [(98, 10, 11), (98, 11, 12), (99, 0, 30), (100, 0, 30), (101, 0, 3)]
set_option maxRecDepth 100000 in
set_option maxHeartbeats 4000000 in
theorem ct_X0_readLaws_r98_161 {Dy : jH → Prop} {h0 : jH} {Q : Option Value → jH → Prop} {R85 : Int} (hD : jDk Dy) (hQ : ∀ hx9, jJ jSgX Dy hx9 → jSm fp_X0_readLaws_r98 h0 hx9 → Q none hx9) (k85 : ∀ (l4 : Int32) (g0 : Int32) (g1 : Int32) (g2 : Int32) (h : jH), l4.toInt - (-1) < R85 → (-1) ≤ l4.toInt ∧ l4.toInt ≤ 29 → 0 ≤ g0.toInt ∧ g0.toInt ≤ 30 → 0 ≤ g1.toInt ∧ g1.toInt ≤ 146399 → 0 ≤ g2.toInt ∧ g2.toInt ≤ 146399 → jiv h 32 18 = g0 → jiv h 98 10 = g1 → jiv h 98 11 = g2 → jJ jSgX Dy h → jSm fp_X0_readLaws_r98 h0 h → jX m_X0_readLaws 3 0 0 85 [(0, .ref 98), (4, .int l4)] [] h 0 0 Q) : ∀ (l4 : Int32) (g0 : Int32) (g1 : Int32) (g2 : Int32) (h : jH), 0 ≤ l4.toInt ∧ l4.toInt ≤ 29 → 0 ≤ g0.toInt ∧ g0.toInt ≤ 30 → 0 ≤ g1.toInt ∧ g1.toInt ≤ 146399 → 0 ≤ g2.toInt ∧ g2.toInt ≤ 146399 → jiv h 32 18 = g0 → jiv h 98 10 = g1 → jiv h 98 11 = g2 → l4.toInt - (-1) ≤ R85 → jJ jSgX Dy h → jSm fp_X0_readLaws_r98 h0 h → jX m_X0_readLaws 3 0 0 161 [(0, .ref 98), (4, .int l4)] [] h 0 0 Q := by
  intro l4 g0 g1 g2 h y0 y1 y2 y3 z0 z1 z2 m85 J Sm
  refine z_iinc (x := l4) (lsx9 := fun v1 => [(4, .int v1), (0, .ref 98)]) rfl rfl rfl jko_m1 (by omega) rfl (fun _ => rfl) (fun v1 ev1 => ?_)
  refine x_goto (tgt := 85) rfl rfl ?_
  exact jX.sub (jsb_c rfl (jsb_c rfl jsb_n)) (k85 v1 g0 g1 g2 h (by omega) (jr_of rfl (by omega)) (jr_of rfl (by omega)) (jr_of rfl (by omega)) (jr_of rfl (by omega)) z0 z1 z2 J Sm)
set_option maxRecDepth 100000 in
set_option maxHeartbeats 4000000 in
theorem ct_X0_readLaws_r98_85 {Dy : jH → Prop} {h0 : jH} {Q : Option Value → jH → Prop} (hD : jDk Dy) (hQ : ∀ hx9, jJ jSgX Dy hx9 → jSm fp_X0_readLaws_r98 h0 hx9 → Q none hx9) : ∀ r : Nat, ∀ (l4 : Int32) (g0 : Int32) (g1 : Int32) (g2 : Int32) (h : jH), l4.toInt - (-1) < (r : Int) → (-1) ≤ l4.toInt ∧ l4.toInt ≤ 29 → 0 ≤ g0.toInt ∧ g0.toInt ≤ 30 → 0 ≤ g1.toInt ∧ g1.toInt ≤ 146399 → 0 ≤ g2.toInt ∧ g2.toInt ≤ 146399 → jiv h 32 18 = g0 → jiv h 98 10 = g1 → jiv h 98 11 = g2 → jJ jSgX Dy h → jSm fp_X0_readLaws_r98 h0 h → jX m_X0_readLaws 3 0 0 85 [(0, .ref 98), (4, .int l4)] [] h 0 0 Q := by
  intro r
  induction r with
  | zero =>
    intro l4 g0 g1 g2 h hm y0 y1 y2 y3 z0 z1 z2  J Sm
    exfalso
    omega
  | succ r ih =>
    intro l4 g0 g1 g2 h hm y0 y1 y2 y3 z0 z1 z2  J Sm
    refine x_iload (x := l4) rfl rfl ?_
    refine x_iflt (tgt := 167) rfl rfl (ti_lt rfl jk_0 ⟨fun c1 => ?_, fun c1 => ?_⟩)
    ·
      refine x_vret rfl rfl ?_
      exact hQ _ J Sm
    ·
      refine x_aloadn (x := 98) rfl rfl ?_
      refine x_iload (x := l4) rfl rfl ?_
      refine x_inv (N := m_X0_textAt) (As := [.int l4]) (b := 98) (st := []) (dx9 := 2) (mc := 0) (ms := 0) (host := "") 0 rfl t_X0_textAt ⟨Or.inl q_0_94, i_X0_textAt.1, i_X0_textAt.2⟩ ⟨by decide, rfl⟩ (congrArg Prod.fst (J.1.1 98 (0, 16) rfl)) rfl (by decide) rfl rfl ⟨by decide, by decide⟩ (jC.of rfl k_X0_textAt rfl ?_)
      show jX m_X0_textAt 2 0 0 0 [(0, .ref 98), (1, .int l4)] [] _ 0 0 _
      refine x_iloadn (x := l4) rfl rfl ?_
      refine x_iflt (tgt := 33) rfl rfl (ti_lt rfl jk_0 (br_f (by omega) ?_))
      refine x_iloadn (x := l4) rfl rfl ?_
      refine x_aloadn (x := 98) rfl rfl ?_
      refine z_getR (N := 16) (b := 32) 0 0 rfl f_0_57 rfl J rfl 12544 ⟨rfl, rfl⟩ rfl ?_
      refine z_getM (N := 20) (v := g0) 1 18 rfl f_0_72 rfl J rfl z0 ?_
      refine x_icge (tgt := 33) rfl rfl (ti_ge rfl rfl ⟨fun c2 => ?_, fun c2 => ?_⟩)
      ·
        refine x_null rfl ?_
        refine x_aret rfl rfl rfl (Or.inl rfl) ?_
        show jX m_X0_readLaws 3 0 0 96 [(0, .ref 98), (4, .int l4)] [.null] _ 0 0 _
        refine x_astoreN (lsx9 := [(5, .null), (0, .ref 98), (4, .int l4)]) rfl rfl rfl ?_
        refine x_aloadN rfl rfl ?_
        refine x_ifnullN (tgt := 161) rfl rfl ?_
        exact jX.sub (jsb_c rfl (jsb_c rfl jsb_n)) (ct_X0_readLaws_r98_161 hD hQ ih l4 g0 g1 g2 h (jr_of rfl (by omega)) (jr_of rfl (by omega)) (jr_of rfl (by omega)) (jr_of rfl (by omega)) z0 z1 z2 (by omega) J Sm)
      ·
        refine x_iloadn (x := l4) rfl rfl ?_
        refine x_bipush (v := 30) rfl kb_30 ?_
        refine x_icge (tgt := 33) rfl rfl (ti_ge rfl jk_30 (br_f (by omega) ?_))
        refine x_aloadn (x := 98) rfl rfl ?_
        refine z_getR (N := 16) (b := 32) 0 0 rfl f_0_57 rfl J rfl 12544 ⟨rfl, rfl⟩ rfl ?_
        refine z_getR (N := 20) (b := 66) 1 17 rfl f_0_77 rfl J rfl 4113 ⟨rfl, rfl⟩ rfl ?_
        refine x_iloadn (x := l4) rfl rfl ?_
        refine z_aaldT rfl hD J rfl rfl (by omega) ⟨?_, fun b3 Tb3 => ?_⟩
        ·
          refine x_goto (tgt := 34) rfl rfl ?_
          refine x_aret rfl rfl rfl (Or.inl rfl) ?_
          show jX m_X0_readLaws 3 0 0 96 [(0, .ref 98), (4, .int l4)] [.null] _ 0 0 _
          refine x_astoreN (lsx9 := [(5, .null), (0, .ref 98), (4, .int l4)]) rfl rfl rfl ?_
          refine x_aloadN rfl rfl ?_
          refine x_ifnullN (tgt := 161) rfl rfl ?_
          exact jX.sub (jsb_c rfl (jsb_c rfl jsb_n)) (ct_X0_readLaws_r98_161 hD hQ ih l4 g0 g1 g2 h (jr_of rfl (by omega)) (jr_of rfl (by omega)) (jr_of rfl (by omega)) (jr_of rfl (by omega)) z0 z1 z2 (by omega) J Sm)
        ·
          refine x_goto (tgt := 34) rfl rfl ?_
          refine x_aret rfl rfl rfl (Or.inr ⟨_, rfl⟩) ?_
          show jX m_X0_readLaws 3 0 0 96 [(0, .ref 98), (4, .int l4)] [.ref b3] _ 0 0 _
          refine x_astore (lsx9 := [(5, .ref b3), (0, .ref 98), (4, .int l4)]) rfl rfl rfl ?_
          refine x_aload (x := b3) rfl rfl ?_
          refine x_ifnull rfl ?_
          refine x_aload (x := b3) rfl rfl ?_
          refine z_getT 2 rfl f_0_98 rfl Tb3 (fun v4 => ?_)
          have ev4 := jfull v4
          refine x_aloadn (x := 98) rfl rfl ?_
          refine z_getM (N := 16) (v := g2) 0 11 rfl f_0_41 rfl J rfl z2 ?_
          refine x_icgt (tgt := 161) rfl rfl (ti_gt rfl rfl ⟨fun c5 => ?_, fun c5 => ?_⟩)
          ·
            exact jX.sub (jsb_c rfl (jsb_c rfl jsb_n)) (ct_X0_readLaws_r98_161 hD hQ ih l4 g0 g1 g2 h (jr_of rfl (by omega)) (jr_of rfl (by omega)) (jr_of rfl (by omega)) (jr_of rfl (by omega)) z0 z1 z2 (by omega) J Sm)
          ·
            refine x_aload (x := b3) rfl rfl ?_
            refine z_getT 1 rfl f_0_101 rfl Tb3 (fun v6 => ?_)
            have ev6 := jfull v6
            refine x_aloadn (x := 98) rfl rfl ?_
            refine z_getM (N := 16) (v := g1) 0 10 rfl f_0_37 rfl J rfl z1 ?_
            refine x_icgt (tgt := 161) rfl rfl (ti_gt rfl rfl ⟨fun c7 => ?_, fun c7 => ?_⟩)
            ·
              exact jX.sub (jsb_c rfl (jsb_c rfl jsb_n)) (ct_X0_readLaws_r98_161 hD hQ ih l4 g0 g1 g2 h (jr_of rfl (by omega)) (jr_of rfl (by omega)) (jr_of rfl (by omega)) (jr_of rfl (by omega)) z0 z1 z2 (by omega) J Sm)
            ·
              refine x_aloadn (x := 98) rfl rfl ?_
              refine z_getR (N := 16) (b := 99) 0 2 rfl f_0_9 rfl J rfl 12546 ⟨rfl, rfl⟩ rfl ?_
              refine x_iload (x := l4) rfl rfl ?_
              refine x_iconst (v := 1) rfl ki_1 ?_
              refine x_aload (x := b3) rfl rfl ?_
              refine z_getTc rfl f_0_104 Tb3 (fun v8 ev8 => ?_)
              refine z_ishl0 rfl (fun v9 => ?_)
              have ev9 := jfull v9
              refine x_iconst (v := 1) rfl ki_1 ?_
              refine z_isub0 rfl (fun v10 => ?_)
              have ev10 := jfull v10
              refine x_aloadn (x := 98) rfl rfl ?_
              refine z_getR (N := 16) (b := 100) 0 3 rfl f_0_15 rfl J rfl 12547 ⟨rfl, rfl⟩ rfl ?_
              refine x_iload (x := l4) rfl rfl ?_
              refine z_iald0 (N := 30) rfl J rfl rfl (by omega) (fun v11 qv11 => ?_)
              have ev11 := jfull v11
              refine x_iconst (v := (-1)) rfl ki_m1 ?_
              refine z_ixor0 rfl (fun v12 => ?_)
              have ev12 := jfull v12
              refine z_iand0 rfl (fun v13 => ?_)
              have ev13 := jfull v13
              refine z_iast (N := 30) (l := 0) (u := 30) (w := v13.toInt) rfl hD J Sm rfl rfl rfl (by omega) rfl (wr_99) rfl (fun h w14 J Sm => ?_)
              have Tb3 := jTx_i w14 rfl Tb3
              refine x_aloadn (x := 98) rfl rfl ?_
              refine x_iload (x := l4) rfl rfl ?_
              refine x_aload (x := b3) rfl rfl ?_
              refine x_inv (N := m_X0_strikeBy) (As := [.int l4, .ref b3]) (b := 98) (st := []) (dx9 := 2) (mc := 0) (ms := 0) (host := "") 0 rfl t_X0_strikeBy ⟨Or.inl q_0_107, i_X0_strikeBy.1, i_X0_strikeBy.2⟩ ⟨by decide, rfl⟩ (congrArg Prod.fst (J.1.1 98 (0, 16) rfl)) rfl (by decide) rfl rfl ⟨by decide, by decide⟩ (sf_X0_strikeBy_r98 (jr_of rfl (by omega)) hD J Tb3  (fun h J S15 => ?_))
              have Sm := jSm_tr rfl Sm S15
              have Tb3 := jTx_m S15 rfl Tb3
              show jX m_X0_readLaws 3 0 0 161 [(5, .ref b3), (0, .ref 98), (4, .int l4)] [] _ 0 0 _
              exact jX.sub (jsb_c rfl (jsb_c rfl jsb_n)) (ct_X0_readLaws_r98_161 hD hQ ih l4 g0 g1 g2 h (jr_of rfl (by omega)) (jr_of rfl (by omega)) (jr_of rfl (by omega)) (jr_of rfl (by omega)) (jmc S15 rfl (jmo w14 rfl z0)) (jmc S15 rfl (jmo w14 rfl z1)) (jmc S15 rfl (jmo w14 rfl z2)) (by omega) J Sm)
set_option maxRecDepth 100000 in
set_option maxHeartbeats 4000000 in
theorem ct_X0_readLaws_r98_52 {Dy : jH → Prop} {h0 : jH} {Q : Option Value → jH → Prop} (hD : jDk Dy) (hQ : ∀ hx9, jJ jSgX Dy hx9 → jSm fp_X0_readLaws_r98 h0 hx9 → Q none hx9) : ∀ r : Nat, ∀ (l3 : Int32) (l4 : Int32) (g0 : Int32) (g1 : Int32) (g2 : Int32) (h : jH), 30 - l4.toInt < (r : Int) → 0 ≤ l3.toInt ∧ l3.toInt ≤ 30 → 0 ≤ l4.toInt ∧ l4.toInt ≤ 30 → 0 ≤ g0.toInt ∧ g0.toInt ≤ 30 → 0 ≤ g1.toInt ∧ g1.toInt ≤ 146399 → 0 ≤ g2.toInt ∧ g2.toInt ≤ 146399 → jiv h 32 18 = g0 → jiv h 98 10 = g1 → jiv h 98 11 = g2 → jJ jSgX Dy h → jSm fp_X0_readLaws_r98 h0 h → jX m_X0_readLaws 3 0 0 52 [(0, .ref 98), (3, .int l3), (4, .int l4)] [] h 0 0 Q := by
  intro r
  induction r with
  | zero =>
    intro l3 l4 g0 g1 g2 h hm y0 y1 y2 y3 y4 z0 z1 z2  J Sm
    exfalso
    omega
  | succ r ih =>
    intro l3 l4 g0 g1 g2 h hm y0 y1 y2 y3 y4 z0 z1 z2  J Sm
    refine x_iload (x := l4) rfl rfl ?_
    refine x_iloadn (x := l3) rfl rfl ?_
    refine x_icge (tgt := 80) rfl rfl (ti_ge rfl rfl ⟨fun c1 => ?_, fun c1 => ?_⟩)
    ·
      refine x_iloadn (x := l3) rfl rfl ?_
      refine x_iconst (v := 1) rfl ki_1 ?_
      refine z_isub rfl rfl jk_1 (by omega) (fun v2 ev2 => ?_)
      refine x_istore (lsx9 := [(4, .int v2), (0, .ref 98), (3, .int l3)]) rfl rfl rfl ?_
      exact jX.sub (jsb_c rfl (jsb_c rfl jsb_n)) (ct_X0_readLaws_r98_85 hD hQ  31 v2 g0 g1 g2 h (by omega) (jr_of rfl (by omega)) (jr_of rfl (by omega)) (jr_of rfl (by omega)) (jr_of rfl (by omega)) z0 z1 z2 J Sm)
    ·
      refine x_aloadn (x := 98) rfl rfl ?_
      refine z_getR (N := 16) (b := 100) 0 3 rfl f_0_15 rfl J rfl 12547 ⟨rfl, rfl⟩ rfl ?_
      refine x_iload (x := l4) rfl rfl ?_
      refine x_iconst (v := 0) rfl ki_0 ?_
      refine z_iast (N := 30) (l := 0) (u := 30) (w := 0) rfl hD J Sm rfl rfl rfl (by omega) jk_0 (wr_100) rfl (fun h w3 J Sm => ?_)
      refine x_aloadn (x := 98) rfl rfl ?_
      refine z_getR (N := 16) (b := 99) 0 2 rfl f_0_9 rfl J rfl 12546 ⟨rfl, rfl⟩ rfl ?_
      refine x_iload (x := l4) rfl rfl ?_
      refine x_iconst (v := 0) rfl ki_0 ?_
      refine z_iast (N := 30) (l := 0) (u := 30) (w := 0) rfl hD J Sm rfl rfl rfl (by omega) jk_0 (wr_99) rfl (fun h w4 J Sm => ?_)
      refine z_iinc (x := l4) (lsx9 := fun v5 => [(4, .int v5), (0, .ref 98), (3, .int l3)]) rfl rfl rfl jko_1 (by omega) rfl (fun _ => rfl) (fun v5 ev5 => ?_)
      refine x_goto (tgt := 52) rfl rfl ?_
      exact jX.sub (jsb_c rfl (jsb_c rfl (jsb_c rfl jsb_n))) (ih l3 v5 g0 g1 g2 h (by omega) (jr_of rfl (by omega)) (jr_of rfl (by omega)) (jr_of rfl (by omega)) (jr_of rfl (by omega)) (jr_of rfl (by omega)) (jmo w4 rfl (jmo w3 rfl z0)) (jmo w4 rfl (jmo w3 rfl z1)) (jmo w4 rfl (jmo w3 rfl z2)) J Sm)
set_option maxRecDepth 100000 in
set_option maxHeartbeats 4000000 in
theorem sf_X0_readLaws_r98 {Dy : jH → Prop} {h : jH} {Q : Option Value → jH → Prop} {a1 : Int32} {a2 : Int32} (y1 : 0 ≤ a1.toInt ∧ a1.toInt ≤ 146399) (y2 : 0 ≤ a2.toInt ∧ a2.toInt ≤ 146399) (hD : jDk Dy) (J : jJ jSgX Dy h) (hQ : ∀ hx9, jJ jSgX Dy hx9 → jSm fp_X0_readLaws_r98 h hx9 → Q none hx9) : jC m_X0_readLaws 3 0 0 [.ref 98, .int a1, .int a2] h Q := by
  refine jC.of rfl k_X0_readLaws rfl ?_
  have Sm := jSm_rf fp_X0_readLaws_r98 h
  show jX m_X0_readLaws 3 0 0 0 [(0, .ref 98), (1, .int a1), (2, .int a2)] [] _ 0 0 _
  refine x_aloadn (x := 98) rfl rfl ?_
  refine x_iloadn (x := a1) rfl rfl ?_
  refine z_putI (N := 16) (w := a1.toInt) 0 10 rfl f_0_37 rfl (jfin_no TX0 RX0 16 rfl rfl) hD J Sm rfl rfl rfl (pw_98_10 (by omega)) rfl (fun h w1 J Sm => ?_)
  refine x_aloadn (x := 98) rfl rfl ?_
  refine x_iloadn (x := a2) rfl rfl ?_
  refine z_putI (N := 16) (w := a2.toInt) 0 11 rfl f_0_41 rfl (jfin_no TX0 RX0 16 rfl rfl) hD J Sm rfl rfl rfl (pw_98_11 (by omega)) rfl (fun h w2 J Sm => ?_)
  refine x_aloadn (x := 98) rfl rfl ?_
  refine z_getR (N := 16) (b := 101) 0 4 rfl f_0_18 rfl J rfl 12548 ⟨rfl, rfl⟩ rfl ?_
  refine x_aloadn (x := 98) rfl rfl ?_
  refine z_getM (N := 16) (v := a1) 0 10 rfl f_0_37 rfl J rfl (jmo w2 rfl (jmw w1)) ?_
  refine x_aloadn (x := 98) rfl rfl ?_
  refine z_getM (N := 16) (v := a2) 0 11 rfl f_0_41 rfl J rfl (jmw w2) ?_
  refine x_aloadn (x := 98) rfl rfl ?_
  refine z_getR (N := 16) (b := 32) 0 0 rfl f_0_57 rfl J rfl 12544 ⟨rfl, rfl⟩ rfl ?_
  refine z_getI0 (N := 20) 1 19 rfl f_0_81 rfl J rfl (fun v3 qv3 => ?_)
  have ev3 := jfull v3
  refine x_inst (N := m_X11_isFresh) (As := [.ref 101, .int a1, .int a2, .int v3]) (st := []) (dx9 := 2) (mc := 0) (ms := 0) (host := "ParishChest") rfl t_X11_isFresh ⟨Or.inr q_0_84, s_X11_isFresh⟩ rfl (by decide) rfl rfl ⟨by decide, by decide⟩ (jC.of rfl k_X11_isFresh rfl ?_)
  show jX m_X11_isFresh 2 0 0 0 [(0, .ref 101), (1, .int a1), (2, .int a2), (3, .int v3)] [] _ 0 0 _
  refine x_aloadn (x := 101) rfl rfl ?_
  refine z_alen (N := 3) (v := 3) rfl J rfl rfl (by decide) ?_
  refine x_iconst (v := 3) rfl ki_3 ?_
  refine x_icge (tgt := 8) rfl rfl (ti_ge jk_3 jk_3 (br_t (by omega) ?_))
  refine x_aloadn (x := 101) rfl rfl ?_
  refine x_iconst (v := 0) rfl ki_0 ?_
  refine z_iald0 (N := 3) rfl J rfl jk_0 (by omega) (fun v4 qv4 => ?_)
  have ev4 := jfull v4
  refine x_iloadn (x := a1) rfl rfl ?_
  refine x_icne (tgt := 33) rfl rfl (ti_ne rfl rfl ⟨fun c5 => ?_, fun c5 => ?_⟩)
  ·
    refine x_iconst (v := 0) rfl ki_0 ?_
    refine x_istore (lsx9 := [(4, .int 0), (0, .ref 101), (1, .int a1), (2, .int a2), (3, .int v3)]) rfl rfl rfl ?_
    refine x_aloadn (x := 101) rfl rfl ?_
    refine x_iconst (v := 0) rfl ki_0 ?_
    refine x_iloadn (x := a1) rfl rfl ?_
    refine z_iast (N := 3) (l := 0) (u := 3) (w := a1.toInt) rfl hD J Sm rfl rfl jk_0 (by omega) rfl (wr_101) rfl (fun h w6 J Sm => ?_)
    refine x_aloadn (x := 101) rfl rfl ?_
    refine x_iconst (v := 1) rfl ki_1 ?_
    refine x_iloadn (x := a2) rfl rfl ?_
    refine z_iast (N := 3) (l := 0) (u := 3) (w := a2.toInt) rfl hD J Sm rfl rfl jk_1 (by omega) rfl (wr_101) rfl (fun h w7 J Sm => ?_)
    refine x_aloadn (x := 101) rfl rfl ?_
    refine x_iconst (v := 2) rfl ki_2 ?_
    refine x_iloadn (x := v3) rfl rfl ?_
    refine z_iast (N := 3) (l := 0) (u := 3) (w := v3.toInt) rfl hD J Sm rfl rfl jk_2 (by omega) rfl (wr_101) rfl (fun h w8 J Sm => ?_)
    refine x_iload (x := 0) rfl rfl ?_
    refine x_zret rfl rfl (by decide) ?_
    show jX m_X0_readLaws 3 0 0 32 [(0, .ref 98), (1, .int a1), (2, .int a2)] [.int 0] _ 0 0 _
    refine x_ifeq (tgt := 36) rfl rfl (ti_eq jk_0 jk_0 (br_t (by omega) ?_))
    refine x_bipush (v := 30) rfl kb_30 ?_
    refine x_aloadn (x := 98) rfl rfl ?_
    refine z_getR (N := 16) (b := 32) 0 0 rfl f_0_57 rfl J rfl 12544 ⟨rfl, rfl⟩ rfl ?_
    refine z_getI (N := 20) 1 18 rfl f_0_72 rfl J rfl sg_32_18_19_1_0_1 (fun v9 qv9 ev9 => ?_)
    refine z_mmin rfl q_0_88 (by decide) rfl jk_30 rfl (fun v10 ev10 => ?_)
    refine x_istoren (lsx9 := [(3, .int v10), (0, .ref 98), (1, .int a1), (2, .int a2)]) rfl rfl rfl ?_
    refine x_iconst (v := 0) rfl ki_0 ?_
    refine x_istore (lsx9 := [(4, .int 0), (3, .int v10), (0, .ref 98), (1, .int a1), (2, .int a2)]) rfl rfl rfl ?_
    exact jX.sub (jsb_c rfl (jsb_c rfl (jsb_c rfl jsb_n))) (ct_X0_readLaws_r98_52 hD hQ  31 v10 0 v9 a1 a2 h (by have := jk_0; omega) (jr_of rfl (by omega)) (jr_of jk_0 (by omega)) (jr_of rfl (by omega)) (jr_of rfl (by omega)) (jr_of rfl (by omega)) qv9 (jmo w8 rfl (jmo w7 rfl (jmo w6 rfl (jmo w2 rfl (jmw w1))))) (jmo w8 rfl (jmo w7 rfl (jmo w6 rfl (jmw w2)))) J Sm)
  ·
    refine x_aloadn (x := 101) rfl rfl ?_
    refine x_iconst (v := 1) rfl ki_1 ?_
    refine z_iald0 (N := 3) rfl J rfl jk_1 (by omega) (fun v11 qv11 => ?_)
    have ev11 := jfull v11
    refine x_iloadn (x := a2) rfl rfl ?_
    refine x_icne (tgt := 33) rfl rfl (ti_ne rfl rfl ⟨fun c12 => ?_, fun c12 => ?_⟩)
    ·
      refine x_iconst (v := 0) rfl ki_0 ?_
      refine x_istore (lsx9 := [(4, .int 0), (0, .ref 101), (1, .int a1), (2, .int a2), (3, .int v3)]) rfl rfl rfl ?_
      refine x_aloadn (x := 101) rfl rfl ?_
      refine x_iconst (v := 0) rfl ki_0 ?_
      refine x_iloadn (x := a1) rfl rfl ?_
      refine z_iast (N := 3) (l := 0) (u := 3) (w := a1.toInt) rfl hD J Sm rfl rfl jk_0 (by omega) rfl (wr_101) rfl (fun h w13 J Sm => ?_)
      refine x_aloadn (x := 101) rfl rfl ?_
      refine x_iconst (v := 1) rfl ki_1 ?_
      refine x_iloadn (x := a2) rfl rfl ?_
      refine z_iast (N := 3) (l := 0) (u := 3) (w := a2.toInt) rfl hD J Sm rfl rfl jk_1 (by omega) rfl (wr_101) rfl (fun h w14 J Sm => ?_)
      refine x_aloadn (x := 101) rfl rfl ?_
      refine x_iconst (v := 2) rfl ki_2 ?_
      refine x_iloadn (x := v3) rfl rfl ?_
      refine z_iast (N := 3) (l := 0) (u := 3) (w := v3.toInt) rfl hD J Sm rfl rfl jk_2 (by omega) rfl (wr_101) rfl (fun h w15 J Sm => ?_)
      refine x_iload (x := 0) rfl rfl ?_
      refine x_zret rfl rfl (by decide) ?_
      show jX m_X0_readLaws 3 0 0 32 [(0, .ref 98), (1, .int a1), (2, .int a2)] [.int 0] _ 0 0 _
      refine x_ifeq (tgt := 36) rfl rfl (ti_eq jk_0 jk_0 (br_t (by omega) ?_))
      refine x_bipush (v := 30) rfl kb_30 ?_
      refine x_aloadn (x := 98) rfl rfl ?_
      refine z_getR (N := 16) (b := 32) 0 0 rfl f_0_57 rfl J rfl 12544 ⟨rfl, rfl⟩ rfl ?_
      refine z_getI (N := 20) 1 18 rfl f_0_72 rfl J rfl sg_32_18_19_1_0_1 (fun v16 qv16 ev16 => ?_)
      refine z_mmin rfl q_0_88 (by decide) rfl jk_30 rfl (fun v17 ev17 => ?_)
      refine x_istoren (lsx9 := [(3, .int v17), (0, .ref 98), (1, .int a1), (2, .int a2)]) rfl rfl rfl ?_
      refine x_iconst (v := 0) rfl ki_0 ?_
      refine x_istore (lsx9 := [(4, .int 0), (3, .int v17), (0, .ref 98), (1, .int a1), (2, .int a2)]) rfl rfl rfl ?_
      exact jX.sub (jsb_c rfl (jsb_c rfl (jsb_c rfl jsb_n))) (ct_X0_readLaws_r98_52 hD hQ  31 v17 0 v16 a1 a2 h (by have := jk_0; omega) (jr_of rfl (by omega)) (jr_of jk_0 (by omega)) (jr_of rfl (by omega)) (jr_of rfl (by omega)) (jr_of rfl (by omega)) qv16 (jmo w15 rfl (jmo w14 rfl (jmo w13 rfl (jmo w2 rfl (jmw w1))))) (jmo w15 rfl (jmo w14 rfl (jmo w13 rfl (jmw w2)))) J Sm)
    ·
      refine x_aloadn (x := 101) rfl rfl ?_
      refine x_iconst (v := 2) rfl ki_2 ?_
      refine z_iald0 (N := 3) rfl J rfl jk_2 (by omega) (fun v18 qv18 => ?_)
      have ev18 := jfull v18
      refine x_iloadn (x := v3) rfl rfl ?_
      refine x_icne (tgt := 33) rfl rfl (ti_ne rfl rfl ⟨fun c19 => ?_, fun c19 => ?_⟩)
      ·
        refine x_iconst (v := 0) rfl ki_0 ?_
        refine x_istore (lsx9 := [(4, .int 0), (0, .ref 101), (1, .int a1), (2, .int a2), (3, .int v3)]) rfl rfl rfl ?_
        refine x_aloadn (x := 101) rfl rfl ?_
        refine x_iconst (v := 0) rfl ki_0 ?_
        refine x_iloadn (x := a1) rfl rfl ?_
        refine z_iast (N := 3) (l := 0) (u := 3) (w := a1.toInt) rfl hD J Sm rfl rfl jk_0 (by omega) rfl (wr_101) rfl (fun h w20 J Sm => ?_)
        refine x_aloadn (x := 101) rfl rfl ?_
        refine x_iconst (v := 1) rfl ki_1 ?_
        refine x_iloadn (x := a2) rfl rfl ?_
        refine z_iast (N := 3) (l := 0) (u := 3) (w := a2.toInt) rfl hD J Sm rfl rfl jk_1 (by omega) rfl (wr_101) rfl (fun h w21 J Sm => ?_)
        refine x_aloadn (x := 101) rfl rfl ?_
        refine x_iconst (v := 2) rfl ki_2 ?_
        refine x_iloadn (x := v3) rfl rfl ?_
        refine z_iast (N := 3) (l := 0) (u := 3) (w := v3.toInt) rfl hD J Sm rfl rfl jk_2 (by omega) rfl (wr_101) rfl (fun h w22 J Sm => ?_)
        refine x_iload (x := 0) rfl rfl ?_
        refine x_zret rfl rfl (by decide) ?_
        show jX m_X0_readLaws 3 0 0 32 [(0, .ref 98), (1, .int a1), (2, .int a2)] [.int 0] _ 0 0 _
        refine x_ifeq (tgt := 36) rfl rfl (ti_eq jk_0 jk_0 (br_t (by omega) ?_))
        refine x_bipush (v := 30) rfl kb_30 ?_
        refine x_aloadn (x := 98) rfl rfl ?_
        refine z_getR (N := 16) (b := 32) 0 0 rfl f_0_57 rfl J rfl 12544 ⟨rfl, rfl⟩ rfl ?_
        refine z_getI (N := 20) 1 18 rfl f_0_72 rfl J rfl sg_32_18_19_1_0_1 (fun v23 qv23 ev23 => ?_)
        refine z_mmin rfl q_0_88 (by decide) rfl jk_30 rfl (fun v24 ev24 => ?_)
        refine x_istoren (lsx9 := [(3, .int v24), (0, .ref 98), (1, .int a1), (2, .int a2)]) rfl rfl rfl ?_
        refine x_iconst (v := 0) rfl ki_0 ?_
        refine x_istore (lsx9 := [(4, .int 0), (3, .int v24), (0, .ref 98), (1, .int a1), (2, .int a2)]) rfl rfl rfl ?_
        exact jX.sub (jsb_c rfl (jsb_c rfl (jsb_c rfl jsb_n))) (ct_X0_readLaws_r98_52 hD hQ  31 v24 0 v23 a1 a2 h (by have := jk_0; omega) (jr_of rfl (by omega)) (jr_of jk_0 (by omega)) (jr_of rfl (by omega)) (jr_of rfl (by omega)) (jr_of rfl (by omega)) qv23 (jmo w22 rfl (jmo w21 rfl (jmo w20 rfl (jmo w2 rfl (jmw w1))))) (jmo w22 rfl (jmo w21 rfl (jmo w20 rfl (jmw w2)))) J Sm)
      ·
        refine x_iconst (v := 1) rfl ki_1 ?_
        refine x_goto (tgt := 34) rfl rfl ?_
        refine x_istore (lsx9 := [(4, .int 1), (0, .ref 101), (1, .int a1), (2, .int a2), (3, .int v3)]) rfl rfl rfl ?_
        refine x_aloadn (x := 101) rfl rfl ?_
        refine x_iconst (v := 0) rfl ki_0 ?_
        refine x_iloadn (x := a1) rfl rfl ?_
        refine z_iast (N := 3) (l := 0) (u := 3) (w := a1.toInt) rfl hD J Sm rfl rfl jk_0 (by omega) rfl (wr_101) rfl (fun h w25 J Sm => ?_)
        refine x_aloadn (x := 101) rfl rfl ?_
        refine x_iconst (v := 1) rfl ki_1 ?_
        refine x_iloadn (x := a2) rfl rfl ?_
        refine z_iast (N := 3) (l := 0) (u := 3) (w := a2.toInt) rfl hD J Sm rfl rfl jk_1 (by omega) rfl (wr_101) rfl (fun h w26 J Sm => ?_)
        refine x_aloadn (x := 101) rfl rfl ?_
        refine x_iconst (v := 2) rfl ki_2 ?_
        refine x_iloadn (x := v3) rfl rfl ?_
        refine z_iast (N := 3) (l := 0) (u := 3) (w := v3.toInt) rfl hD J Sm rfl rfl jk_2 (by omega) rfl (wr_101) rfl (fun h w27 J Sm => ?_)
        refine x_iload (x := 1) rfl rfl ?_
        refine x_zret rfl rfl (by decide) ?_
        show jX m_X0_readLaws 3 0 0 32 [(0, .ref 98), (1, .int a1), (2, .int a2)] [.int 1] _ 0 0 _
        refine x_ifeq (tgt := 36) rfl rfl (ti_eq jk_1 jk_0 (br_f (by omega) ?_))
        refine x_vret rfl rfl ?_
        exact hQ _ J Sm
def fp_X0_weigh_r98 : jFp := [(85, 0, 4), (98, 12, 13), (98, 13, 14), (98, 14, 15), (98, 15, 16), (106, 0, 100)]
set_option maxRecDepth 100000 in
set_option maxHeartbeats 4000000 in
theorem ct_X0_weigh_r98_200142 {Dy : jH → Prop} {h0 : jH} {Q : Option Value → jH → Prop} (hD : jDk Dy) (hQ : ∀ (v : Int32) hx9, 0 ≤ v.toInt ∧ v.toInt ≤ 1 → jJ jSgX Dy hx9 → jSm fp_X0_weigh_r98 h0 hx9 → Q (some (.int v)) hx9) : ∀ (h : jH), jJ jSgX Dy h → jSm fp_X0_weigh_r98 h0 h → jX m_X0_weigh 6 0 0 142 [] [.int 0] h 0 0 Q := by
  intro  h    J Sm
  refine x_zret rfl rfl (by decide) ?_
  exact hQ _ _ (jr_of jk_0 (by omega)) J Sm
set_option maxRecDepth 100000 in
set_option maxHeartbeats 4000000 in
theorem ct_X0_weigh_r98_300142 {Dy : jH → Prop} {h0 : jH} {Q : Option Value → jH → Prop} (hD : jDk Dy) (hQ : ∀ (v : Int32) hx9, 0 ≤ v.toInt ∧ v.toInt ≤ 1 → jJ jSgX Dy hx9 → jSm fp_X0_weigh_r98 h0 hx9 → Q (some (.int v)) hx9) : ∀ (h : jH), jJ jSgX Dy h → jSm fp_X0_weigh_r98 h0 h → jX m_X0_weigh 6 0 0 142 [] [.int 1] h 0 0 Q := by
  intro  h    J Sm
  refine x_zret rfl rfl (by decide) ?_
  exact hQ _ _ (jr_of jk_1 (by omega)) J Sm
set_option maxRecDepth 100000 in
set_option maxHeartbeats 4000000 in
theorem ct_X0_weigh_r98_117 {Dy : jH → Prop} {h0 : jH} {Q : Option Value → jH → Prop} {R18 : Int} {R34 : Int} (hD : jDk Dy) (hQ : ∀ (v : Int32) hx9, 0 ≤ v.toInt ∧ v.toInt ≤ 1 → jJ jSgX Dy hx9 → jSm fp_X0_weigh_r98 h0 hx9 → Q (some (.int v)) hx9) (k18 : ∀ (l1 : Int32) (l2 : Int32) (l3 : Int32) (l4 : Int32) (g0 : Int32) (g1 : Int32) (h : jH), l4.toInt - (-1) < R18 → 1 ≤ l1.toInt ∧ l1.toInt ≤ 7 → 0 ≤ l2.toInt ∧ l2.toInt ≤ 2 → (-1) ≤ l3.toInt ∧ l3.toInt ≤ 599 → (-1) ≤ l4.toInt ∧ l4.toInt ≤ 1 → (-1) ≤ g0.toInt ∧ g0.toInt ≤ 359 → jiv h 98 13 = g0 → jiv h 98 15 = g1 → jJ jSgX Dy h → jSm fp_X0_weigh_r98 h0 h → jX m_X0_weigh 6 0 0 18 [(0, .ref 98), (1, .int l1), (2, .int l2), (3, .int l3), (4, .int l4)] [] h 0 0 Q) (k34 : ∀ (l1 : Int32) (l2 : Int32) (l3 : Int32) (l4 : Int32) (l5 : Int32) (g0 : Int32) (g1 : Int32) (g2 : Int32) (h : jH), l5.toInt - (-1) < R34 → 1 ≤ l1.toInt ∧ l1.toInt ≤ 7 → 0 ≤ l2.toInt ∧ l2.toInt ≤ 2 → (-1) ≤ l3.toInt ∧ l3.toInt ≤ 599 → 0 ≤ l4.toInt ∧ l4.toInt ≤ 1 → (-1) ≤ l5.toInt ∧ l5.toInt ≤ 29 → 0 ≤ g0.toInt ∧ g0.toInt ≤ 30 → (-1) ≤ g1.toInt ∧ g1.toInt ≤ 359 → jiv h 32 18 = g0 → jiv h 98 13 = g1 → jiv h 98 15 = g2 → l4.toInt - (-1) ≤ R18 → jJ jSgX Dy h → jSm fp_X0_weigh_r98 h0 h → jX m_X0_weigh 6 0 0 34 [(0, .ref 98), (1, .int l1), (2, .int l2), (3, .int l3), (4, .int l4), (5, .int l5)] [] h 0 0 Q) : ∀ (l1 : Int32) (l2 : Int32) (l3 : Int32) (l4 : Int32) (l5 : Int32) (g0 : Int32) (g1 : Int32) (g2 : Int32) (h : jH), 1 ≤ l1.toInt ∧ l1.toInt ≤ 7 → 0 ≤ l2.toInt ∧ l2.toInt ≤ 2 → (-1) ≤ l3.toInt ∧ l3.toInt ≤ 599 → 0 ≤ l4.toInt ∧ l4.toInt ≤ 1 → 0 ≤ l5.toInt ∧ l5.toInt ≤ 29 → 0 ≤ g0.toInt ∧ g0.toInt ≤ 30 → (-1) ≤ g1.toInt ∧ g1.toInt ≤ 359 → jiv h 32 18 = g0 → jiv h 98 13 = g1 → jiv h 98 15 = g2 → l4.toInt - (-1) ≤ R18 → l5.toInt - (-1) ≤ R34 → jJ jSgX Dy h → jSm fp_X0_weigh_r98 h0 h → jX m_X0_weigh 6 0 0 117 [(0, .ref 98), (1, .int l1), (2, .int l2), (3, .int l3), (4, .int l4), (5, .int l5)] [] h 0 0 Q := by
  intro l1 l2 l3 l4 l5 g0 g1 g2 h y0 y1 y2 y3 y4 y5 y6 z0 z1 z2 m18 m34 J Sm
  have eg2 := jfull g2
  refine z_iinc (x := l5) (lsx9 := fun v1 => [(5, .int v1), (0, .ref 98), (1, .int l1), (2, .int l2), (3, .int l3), (4, .int l4)]) rfl rfl rfl jko_m1 (by omega) rfl (fun _ => rfl) (fun v1 ev1 => ?_)
  refine x_goto (tgt := 34) rfl rfl ?_
  exact jX.sub (jsb_c rfl (jsb_c rfl (jsb_c rfl (jsb_c rfl (jsb_c rfl (jsb_c rfl jsb_n)))))) (k34 l1 l2 l3 l4 v1 g0 g1 g2 h (by omega) (jr_of rfl (by omega)) (jr_of rfl (by omega)) (jr_of rfl (by omega)) (jr_of rfl (by omega)) (jr_of rfl (by omega)) (jr_of rfl (by omega)) (jr_of rfl (by omega)) z0 z1 z2 (by omega) J Sm)
set_option maxRecDepth 100000 in
set_option maxHeartbeats 4000000 in
theorem ct_X0_weigh_r98_111 {Dy : jH → Prop} {h0 : jH} {Q : Option Value → jH → Prop} {R18 : Int} {R34 : Int} {R74 : Int} (hD : jDk Dy) (hQ : ∀ (v : Int32) hx9, 0 ≤ v.toInt ∧ v.toInt ≤ 1 → jJ jSgX Dy hx9 → jSm fp_X0_weigh_r98 h0 hx9 → Q (some (.int v)) hx9) (k18 : ∀ (l1 : Int32) (l2 : Int32) (l3 : Int32) (l4 : Int32) (g0 : Int32) (g1 : Int32) (h : jH), l4.toInt - (-1) < R18 → 1 ≤ l1.toInt ∧ l1.toInt ≤ 7 → 0 ≤ l2.toInt ∧ l2.toInt ≤ 2 → (-1) ≤ l3.toInt ∧ l3.toInt ≤ 599 → (-1) ≤ l4.toInt ∧ l4.toInt ≤ 1 → (-1) ≤ g0.toInt ∧ g0.toInt ≤ 359 → jiv h 98 13 = g0 → jiv h 98 15 = g1 → jJ jSgX Dy h → jSm fp_X0_weigh_r98 h0 h → jX m_X0_weigh 6 0 0 18 [(0, .ref 98), (1, .int l1), (2, .int l2), (3, .int l3), (4, .int l4)] [] h 0 0 Q) (k34 : ∀ (l1 : Int32) (l2 : Int32) (l3 : Int32) (l4 : Int32) (l5 : Int32) (g0 : Int32) (g1 : Int32) (g2 : Int32) (h : jH), l5.toInt - (-1) < R34 → 1 ≤ l1.toInt ∧ l1.toInt ≤ 7 → 0 ≤ l2.toInt ∧ l2.toInt ≤ 2 → (-1) ≤ l3.toInt ∧ l3.toInt ≤ 599 → 0 ≤ l4.toInt ∧ l4.toInt ≤ 1 → (-1) ≤ l5.toInt ∧ l5.toInt ≤ 29 → 0 ≤ g0.toInt ∧ g0.toInt ≤ 30 → (-1) ≤ g1.toInt ∧ g1.toInt ≤ 359 → jiv h 32 18 = g0 → jiv h 98 13 = g1 → jiv h 98 15 = g2 → l4.toInt - (-1) ≤ R18 → jJ jSgX Dy h → jSm fp_X0_weigh_r98 h0 h → jX m_X0_weigh 6 0 0 34 [(0, .ref 98), (1, .int l1), (2, .int l2), (3, .int l3), (4, .int l4), (5, .int l5)] [] h 0 0 Q) (k74 : ∀ (l1 : Int32) (l2 : Int32) (l3 : Int32) (l4 : Int32) (l5 : Int32) (l6 : Nat) (l7 : Int32) (g0 : Int32) (g1 : Int32) (g2 : Int32) (h : jH), l7.toInt - (-1) < R74 → 1 ≤ l1.toInt ∧ l1.toInt ≤ 7 → 0 ≤ l2.toInt ∧ l2.toInt ≤ 2 → (-1) ≤ l3.toInt ∧ l3.toInt ≤ 599 → 0 ≤ l4.toInt ∧ l4.toInt ≤ 1 → 0 ≤ l5.toInt ∧ l5.toInt ≤ 29 → (-1) ≤ l7.toInt ∧ l7.toInt ≤ 11 → 1 ≤ g0.toInt ∧ g0.toInt ≤ 30 → (-1) ≤ g1.toInt ∧ g1.toInt ≤ 359 → jTx h l6 → jiv h 32 18 = g0 → jiv h 98 13 = g1 → jiv h 98 15 = g2 → l4.toInt - (-1) ≤ R18 → l5.toInt - (-1) ≤ R34 → jJ jSgX Dy h → jSm fp_X0_weigh_r98 h0 h → jX m_X0_weigh 6 0 0 74 [(0, .ref 98), (1, .int l1), (2, .int l2), (3, .int l3), (4, .int l4), (5, .int l5), (6, .ref l6), (7, .int l7)] [] h 0 0 Q) : ∀ (l1 : Int32) (l2 : Int32) (l3 : Int32) (l4 : Int32) (l5 : Int32) (l6 : Nat) (l7 : Int32) (g0 : Int32) (g1 : Int32) (g2 : Int32) (h : jH), 1 ≤ l1.toInt ∧ l1.toInt ≤ 7 → 0 ≤ l2.toInt ∧ l2.toInt ≤ 2 → (-1) ≤ l3.toInt ∧ l3.toInt ≤ 599 → 0 ≤ l4.toInt ∧ l4.toInt ≤ 1 → 0 ≤ l5.toInt ∧ l5.toInt ≤ 29 → 0 ≤ l7.toInt ∧ l7.toInt ≤ 11 → 1 ≤ g0.toInt ∧ g0.toInt ≤ 30 → (-1) ≤ g1.toInt ∧ g1.toInt ≤ 359 → jTx h l6 → jiv h 32 18 = g0 → jiv h 98 13 = g1 → jiv h 98 15 = g2 → l4.toInt - (-1) ≤ R18 → l5.toInt - (-1) ≤ R34 → l7.toInt - (-1) ≤ R74 → jJ jSgX Dy h → jSm fp_X0_weigh_r98 h0 h → jX m_X0_weigh 6 0 0 111 [(0, .ref 98), (1, .int l1), (2, .int l2), (3, .int l3), (4, .int l4), (5, .int l5), (6, .ref l6), (7, .int l7)] [] h 0 0 Q := by
  intro l1 l2 l3 l4 l5 l6 l7 g0 g1 g2 h y0 y1 y2 y3 y4 y5 y6 y7 Tl6 z0 z1 z2 m18 m34 m74 J Sm
  have eg2 := jfull g2
  refine z_iinc (x := l7) (lsx9 := fun v1 => [(7, .int v1), (0, .ref 98), (1, .int l1), (2, .int l2), (3, .int l3), (4, .int l4), (5, .int l5), (6, .ref l6)]) rfl rfl rfl jko_m1 (by omega) rfl (fun _ => rfl) (fun v1 ev1 => ?_)
  refine x_goto (tgt := 74) rfl rfl ?_
  exact jX.sub (jsb_c rfl (jsb_c rfl (jsb_c rfl (jsb_c rfl (jsb_c rfl (jsb_c rfl (jsb_c rfl (jsb_c rfl jsb_n)))))))) (k74 l1 l2 l3 l4 l5 l6 v1 g0 g1 g2 h (by omega) (jr_of rfl (by omega)) (jr_of rfl (by omega)) (jr_of rfl (by omega)) (jr_of rfl (by omega)) (jr_of rfl (by omega)) (jr_of rfl (by omega)) (jr_of rfl (by omega)) (jr_of rfl (by omega)) Tl6 z0 z1 z2 (by omega) (by omega) J Sm)
set_option maxRecDepth 100000 in
set_option maxHeartbeats 4000000 in
theorem ct_X0_weigh_r98_74 {Dy : jH → Prop} {h0 : jH} {Q : Option Value → jH → Prop} {R18 : Int} {R34 : Int} (hD : jDk Dy) (hQ : ∀ (v : Int32) hx9, 0 ≤ v.toInt ∧ v.toInt ≤ 1 → jJ jSgX Dy hx9 → jSm fp_X0_weigh_r98 h0 hx9 → Q (some (.int v)) hx9) (k18 : ∀ (l1 : Int32) (l2 : Int32) (l3 : Int32) (l4 : Int32) (g0 : Int32) (g1 : Int32) (h : jH), l4.toInt - (-1) < R18 → 1 ≤ l1.toInt ∧ l1.toInt ≤ 7 → 0 ≤ l2.toInt ∧ l2.toInt ≤ 2 → (-1) ≤ l3.toInt ∧ l3.toInt ≤ 599 → (-1) ≤ l4.toInt ∧ l4.toInt ≤ 1 → (-1) ≤ g0.toInt ∧ g0.toInt ≤ 359 → jiv h 98 13 = g0 → jiv h 98 15 = g1 → jJ jSgX Dy h → jSm fp_X0_weigh_r98 h0 h → jX m_X0_weigh 6 0 0 18 [(0, .ref 98), (1, .int l1), (2, .int l2), (3, .int l3), (4, .int l4)] [] h 0 0 Q) (k34 : ∀ (l1 : Int32) (l2 : Int32) (l3 : Int32) (l4 : Int32) (l5 : Int32) (g0 : Int32) (g1 : Int32) (g2 : Int32) (h : jH), l5.toInt - (-1) < R34 → 1 ≤ l1.toInt ∧ l1.toInt ≤ 7 → 0 ≤ l2.toInt ∧ l2.toInt ≤ 2 → (-1) ≤ l3.toInt ∧ l3.toInt ≤ 599 → 0 ≤ l4.toInt ∧ l4.toInt ≤ 1 → (-1) ≤ l5.toInt ∧ l5.toInt ≤ 29 → 0 ≤ g0.toInt ∧ g0.toInt ≤ 30 → (-1) ≤ g1.toInt ∧ g1.toInt ≤ 359 → jiv h 32 18 = g0 → jiv h 98 13 = g1 → jiv h 98 15 = g2 → l4.toInt - (-1) ≤ R18 → jJ jSgX Dy h → jSm fp_X0_weigh_r98 h0 h → jX m_X0_weigh 6 0 0 34 [(0, .ref 98), (1, .int l1), (2, .int l2), (3, .int l3), (4, .int l4), (5, .int l5)] [] h 0 0 Q) : ∀ r : Nat, ∀ (l1 : Int32) (l2 : Int32) (l3 : Int32) (l4 : Int32) (l5 : Int32) (l6 : Nat) (l7 : Int32) (g0 : Int32) (g1 : Int32) (g2 : Int32) (h : jH), l7.toInt - (-1) < (r : Int) → 1 ≤ l1.toInt ∧ l1.toInt ≤ 7 → 0 ≤ l2.toInt ∧ l2.toInt ≤ 2 → (-1) ≤ l3.toInt ∧ l3.toInt ≤ 599 → 0 ≤ l4.toInt ∧ l4.toInt ≤ 1 → 0 ≤ l5.toInt ∧ l5.toInt ≤ 29 → (-1) ≤ l7.toInt ∧ l7.toInt ≤ 11 → 1 ≤ g0.toInt ∧ g0.toInt ≤ 30 → (-1) ≤ g1.toInt ∧ g1.toInt ≤ 359 → jTx h l6 → jiv h 32 18 = g0 → jiv h 98 13 = g1 → jiv h 98 15 = g2 → l4.toInt - (-1) ≤ R18 → l5.toInt - (-1) ≤ R34 → jJ jSgX Dy h → jSm fp_X0_weigh_r98 h0 h → jX m_X0_weigh 6 0 0 74 [(0, .ref 98), (1, .int l1), (2, .int l2), (3, .int l3), (4, .int l4), (5, .int l5), (6, .ref l6), (7, .int l7)] [] h 0 0 Q := by
  intro r
  induction r with
  | zero =>
    intro l1 l2 l3 l4 l5 l6 l7 g0 g1 g2 h hm y0 y1 y2 y3 y4 y5 y6 y7 Tl6 z0 z1 z2 m18 m34 J Sm
    exfalso
    have eg2 := jfull g2
    omega
  | succ r ih =>
    intro l1 l2 l3 l4 l5 l6 l7 g0 g1 g2 h hm y0 y1 y2 y3 y4 y5 y6 y7 Tl6 z0 z1 z2 m18 m34 J Sm
    have eg2 := jfull g2
    refine x_iload (x := l7) rfl rfl ?_
    refine x_iflt (tgt := 117) rfl rfl (ti_lt rfl jk_0 ⟨fun c1 => ?_, fun c1 => ?_⟩)
    ·
      exact jX.sub (jsb_c rfl (jsb_c rfl (jsb_c rfl (jsb_c rfl (jsb_c rfl (jsb_c rfl jsb_n)))))) (ct_X0_weigh_r98_117 hD hQ k18 k34 l1 l2 l3 l4 l5 g0 g1 g2 h (jr_of rfl (by omega)) (jr_of rfl (by omega)) (jr_of rfl (by omega)) (jr_of rfl (by omega)) (jr_of rfl (by omega)) (jr_of rfl (by omega)) (jr_of rfl (by omega)) z0 z1 z2 (by omega) (by omega) J Sm)
    ·
      refine x_aload (x := l6) rfl rfl ?_
      refine x_iload (x := l7) rfl rfl ?_
      refine x_iloadn (x := l1) rfl rfl ?_
      refine x_iloadn (x := l2) rfl rfl ?_
      refine x_inv (N := m_X10_isOf) (As := [.int l7, .int l1, .int l2]) (b := l6) (st := []) (dx9 := 5) (mc := 0) (ms := 0) (host := "") 10 rfl t_X10_isOf ⟨Or.inl q_0_220, i_X10_isOf.1, i_X10_isOf.2⟩ ⟨by decide, rfl⟩ (congrArg Prod.fst Tl6.1.2.2) rfl (by decide) rfl rfl ⟨by decide, by decide⟩ (jC.of rfl k_X10_isOf rfl ?_)
      show jX m_X10_isOf 5 0 0 0 [(0, .ref l6), (1, .int l7), (2, .int l1), (3, .int l2)] [] _ 0 0 _
      refine x_aloadn (x := l6) rfl rfl ?_
      refine x_iloadn (x := l7) rfl rfl ?_
      refine x_iconst (v := 0) rfl ki_0 ?_
      refine x_inv (N := m_X10_head) (As := [.int l7, .int 0]) (b := l6) (st := []) (dx9 := 1) (mc := 0) (ms := 0) (host := "") 10 rfl t_X10_head ⟨Or.inl q_10_37, i_X10_head.1, i_X10_head.2⟩ ⟨by decide, rfl⟩ (congrArg Prod.fst Tl6.1.2.2) rfl (by decide) rfl rfl ⟨by decide, by decide⟩ (c_head Tl6 (fun v2 => ?_))
      have ev2 := jfull v2
      show jX m_X10_isOf 5 0 0 6 [(0, .ref l6), (1, .int l7), (2, .int l1), (3, .int l2)] [.int v2] _ 0 0 _
      refine x_iloadn (x := l1) rfl rfl ?_
      refine x_icne (tgt := 24) rfl rfl (ti_ne rfl rfl ⟨fun c3 => ?_, fun c3 => ?_⟩)
      ·
        refine x_iconst (v := 0) rfl ki_0 ?_
        refine x_zret rfl rfl (by decide) ?_
        show jX m_X0_weigh 6 0 0 88 [(0, .ref 98), (1, .int l1), (2, .int l2), (3, .int l3), (4, .int l4), (5, .int l5), (6, .ref l6), (7, .int l7)] [.int 0] _ 0 0 _
        refine x_ifeq (tgt := 111) rfl rfl (ti_eq jk_0 jk_0 (br_t (by omega) ?_))
        exact jX.sub (jsb_c rfl (jsb_c rfl (jsb_c rfl (jsb_c rfl (jsb_c rfl (jsb_c rfl (jsb_c rfl (jsb_c rfl jsb_n)))))))) (ct_X0_weigh_r98_111 hD hQ k18 k34 ih l1 l2 l3 l4 l5 l6 l7 g0 g1 g2 h (jr_of rfl (by omega)) (jr_of rfl (by omega)) (jr_of rfl (by omega)) (jr_of rfl (by omega)) (jr_of rfl (by omega)) (jr_of rfl (by omega)) (jr_of rfl (by omega)) (jr_of rfl (by omega)) Tl6 z0 z1 z2 (by omega) (by omega) (by omega) J Sm)
      ·
        refine x_aloadn (x := l6) rfl rfl ?_
        refine x_iloadn (x := l7) rfl rfl ?_
        refine x_iconst (v := 1) rfl ki_1 ?_
        refine x_inv (N := m_X10_head) (As := [.int l7, .int 1]) (b := l6) (st := []) (dx9 := 1) (mc := 0) (ms := 0) (host := "") 10 rfl t_X10_head ⟨Or.inl q_10_37, i_X10_head.1, i_X10_head.2⟩ ⟨by decide, rfl⟩ (congrArg Prod.fst Tl6.1.2.2) rfl (by decide) rfl rfl ⟨by decide, by decide⟩ (c_head Tl6 (fun v4 => ?_))
        have ev4 := jfull v4
        show jX m_X10_isOf 5 0 0 16 [(0, .ref l6), (1, .int l7), (2, .int l1), (3, .int l2)] [.int v4] _ 0 0 _
        refine x_iloadn (x := l2) rfl rfl ?_
        refine x_icne (tgt := 24) rfl rfl (ti_ne rfl rfl ⟨fun c5 => ?_, fun c5 => ?_⟩)
        ·
          refine x_iconst (v := 0) rfl ki_0 ?_
          refine x_zret rfl rfl (by decide) ?_
          show jX m_X0_weigh 6 0 0 88 [(0, .ref 98), (1, .int l1), (2, .int l2), (3, .int l3), (4, .int l4), (5, .int l5), (6, .ref l6), (7, .int l7)] [.int 0] _ 0 0 _
          refine x_ifeq (tgt := 111) rfl rfl (ti_eq jk_0 jk_0 (br_t (by omega) ?_))
          exact jX.sub (jsb_c rfl (jsb_c rfl (jsb_c rfl (jsb_c rfl (jsb_c rfl (jsb_c rfl (jsb_c rfl (jsb_c rfl jsb_n)))))))) (ct_X0_weigh_r98_111 hD hQ k18 k34 ih l1 l2 l3 l4 l5 l6 l7 g0 g1 g2 h (jr_of rfl (by omega)) (jr_of rfl (by omega)) (jr_of rfl (by omega)) (jr_of rfl (by omega)) (jr_of rfl (by omega)) (jr_of rfl (by omega)) (jr_of rfl (by omega)) (jr_of rfl (by omega)) Tl6 z0 z1 z2 (by omega) (by omega) (by omega) J Sm)
        ·
          refine x_iconst (v := 1) rfl ki_1 ?_
          refine x_goto (tgt := 25) rfl rfl ?_
          refine x_zret rfl rfl (by decide) ?_
          show jX m_X0_weigh 6 0 0 88 [(0, .ref 98), (1, .int l1), (2, .int l2), (3, .int l3), (4, .int l4), (5, .int l5), (6, .ref l6), (7, .int l7)] [.int 1] _ 0 0 _
          refine x_ifeq (tgt := 111) rfl rfl (ti_eq jk_1 jk_0 (br_f (by omega) ?_))
          refine x_aloadn (x := 98) rfl rfl ?_
          refine x_iload (x := l5) rfl rfl ?_
          refine x_iload (x := l7) rfl rfl ?_
          refine x_iloadn (x := l3) rfl rfl ?_
          refine x_inv (N := m_X0_holdsFor) (As := [.int l5, .int l7, .int l3]) (b := 98) (st := []) (dx9 := 5) (mc := 0) (ms := 0) (host := "") 0 rfl t_X0_holdsFor ⟨Or.inl q_0_223, i_X0_holdsFor.1, i_X0_holdsFor.2⟩ ⟨by decide, rfl⟩ (congrArg Prod.fst (J.1.1 98 (0, 16) rfl)) rfl (by decide) rfl rfl ⟨by decide, by decide⟩ (sf_X0_holdsFor_r98 (jr_of rfl (by omega)) (jr_of rfl (by omega)) (jr_of rfl (by omega)) hD J  (fun v7 h ev7 J S6 => ?_))
          have Sm := jSm_tr rfl Sm S6
          have Tl6 := jTx_m S6 rfl Tl6
          show jX m_X0_weigh 6 0 0 100 [(0, .ref 98), (1, .int l1), (2, .int l2), (3, .int l3), (4, .int l4), (5, .int l5), (6, .ref l6), (7, .int l7)] [.int v7] _ 0 0 _
          refine x_ifeq (tgt := 111) rfl rfl (ti_eq rfl jk_0 ⟨fun c8 => ?_, fun c8 => ?_⟩)
          ·
            exact jX.sub (jsb_c rfl (jsb_c rfl (jsb_c rfl (jsb_c rfl (jsb_c rfl (jsb_c rfl (jsb_c rfl (jsb_c rfl jsb_n)))))))) (ct_X0_weigh_r98_111 hD hQ k18 k34 ih l1 l2 l3 l4 l5 l6 l7 g0 g1 g2 h (jr_of rfl (by omega)) (jr_of rfl (by omega)) (jr_of rfl (by omega)) (jr_of rfl (by omega)) (jr_of rfl (by omega)) (jr_of rfl (by omega)) (jr_of rfl (by omega)) (jr_of rfl (by omega)) Tl6 (jmc S6 rfl z0) (jmc S6 rfl z1) (jmc S6 rfl z2) (by omega) (by omega) (by omega) J Sm)
          ·
            refine x_aloadn (x := 98) rfl rfl ?_
            refine x_iload (x := l5) rfl rfl ?_
            refine x_iload (x := l7) rfl rfl ?_
            refine x_inv (N := m_X0_noteHolding) (As := [.int l5, .int l7]) (b := 98) (st := []) (dx9 := 5) (mc := 0) (ms := 0) (host := "") 0 rfl t_X0_noteHolding ⟨Or.inl q_0_226, i_X0_noteHolding.1, i_X0_noteHolding.2⟩ ⟨by decide, rfl⟩ (congrArg Prod.fst (J.1.1 98 (0, 16) rfl)) rfl (by decide) rfl rfl ⟨by decide, by decide⟩ (jC.of rfl k_X0_noteHolding rfl ?_)
            show jX m_X0_noteHolding 5 0 0 0 [(0, .ref 98), (1, .int l5), (2, .int l7)] [] _ 0 0 _
            refine x_aloadn (x := 98) rfl rfl ?_
            refine z_getM (N := 16) (v := g1) 0 13 rfl f_0_48 rfl J rfl (jmc S6 rfl z1) ?_
            refine x_iconst (v := (-1)) rfl ki_m1 ?_
            refine x_icne (tgt := 29) rfl rfl (ti_ne rfl jk_m1 ⟨fun c9 => ?_, fun c9 => ?_⟩)
            ·
              refine x_aloadn (x := 98) rfl rfl ?_
              refine z_getL0 (N := 16) 0 12 rfl f_0_44 rfl J rfl (fun v10 => ?_)
              have ev10 := jfullL v10
              refine x_aloadn (x := 98) rfl rfl ?_
              refine z_getL0 (N := 16) 0 14 rfl f_0_51 rfl J rfl (fun v11 => ?_)
              have ev11 := jfullL v11
              refine z_lcmp rfl rfl rfl (fun v12 ev12 => ?_)
              refine x_ifeq (tgt := 51) rfl rfl (ti_eq rfl jk_0 ⟨fun c13 => ?_, fun c13 => ?_⟩)
              ·
                refine x_vret rfl rfl ?_
                show jX m_X0_weigh 6 0 0 111 [(0, .ref 98), (1, .int l1), (2, .int l2), (3, .int l3), (4, .int l4), (5, .int l5), (6, .ref l6), (7, .int l7)] [] _ 0 0 _
                exact jX.sub (jsb_c rfl (jsb_c rfl (jsb_c rfl (jsb_c rfl (jsb_c rfl (jsb_c rfl (jsb_c rfl (jsb_c rfl jsb_n)))))))) (ct_X0_weigh_r98_111 hD hQ k18 k34 ih l1 l2 l3 l4 l5 l6 l7 g0 g1 g2 h (jr_of rfl (by omega)) (jr_of rfl (by omega)) (jr_of rfl (by omega)) (jr_of rfl (by omega)) (jr_of rfl (by omega)) (jr_of rfl (by omega)) (jr_of rfl (by omega)) (jr_of rfl (by omega)) Tl6 (jmc S6 rfl z0) (jmc S6 rfl z1) (jmc S6 rfl z2) (by omega) (by omega) (by omega) J Sm)
              ·
                refine x_aloadn (x := 98) rfl rfl ?_
                refine x_dup rfl rfl ?_
                refine z_getM (N := 16) (v := g2) 0 15 rfl f_0_54 rfl J rfl (jmc S6 rfl z2) ?_
                refine x_iconst (v := 1) rfl ki_1 ?_
                refine z_iadd0 rfl (fun v14 => ?_)
                have ev14 := jfull v14
                refine z_putI (N := 16) (w := v14.toInt) 0 15 rfl f_0_54 rfl (jfin_no TX0 RX0 16 rfl rfl) hD J Sm rfl rfl rfl (pw_98_15 trivial) rfl (fun h w15 J Sm => ?_)
                have Tl6 := jTx_i w15 rfl Tl6
                refine x_vret rfl rfl ?_
                show jX m_X0_weigh 6 0 0 111 [(0, .ref 98), (1, .int l1), (2, .int l2), (3, .int l3), (4, .int l4), (5, .int l5), (6, .ref l6), (7, .int l7)] [] _ 0 0 _
                exact jX.sub (jsb_c rfl (jsb_c rfl (jsb_c rfl (jsb_c rfl (jsb_c rfl (jsb_c rfl (jsb_c rfl (jsb_c rfl jsb_n)))))))) (ct_X0_weigh_r98_111 hD hQ k18 k34 ih l1 l2 l3 l4 l5 l6 l7 g0 g1 v14 h (jr_of rfl (by omega)) (jr_of rfl (by omega)) (jr_of rfl (by omega)) (jr_of rfl (by omega)) (jr_of rfl (by omega)) (jr_of rfl (by omega)) (jr_of rfl (by omega)) (jr_of rfl (by omega)) Tl6 (jmo w15 rfl (jmc S6 rfl z0)) (jmo w15 rfl (jmc S6 rfl z1)) (jmw w15) (by omega) (by omega) (by omega) J Sm)
            ·
              refine x_aloadn (x := 98) rfl rfl ?_
              refine x_iloadn (x := l5) rfl rfl ?_
              refine x_bipush (v := 12) rfl kb_12 ?_
              refine z_imul rfl rfl jk_12 (by omega) (fun v16 ev16 => ?_)
              refine x_iloadn (x := l7) rfl rfl ?_
              refine z_iadd rfl rfl rfl (by omega) (fun v17 ev17 => ?_)
              refine z_putI (N := 16) (w := v17.toInt) 0 13 rfl f_0_48 rfl (jfin_no TX0 RX0 16 rfl rfl) hD J Sm rfl rfl rfl (pw_98_13 (by omega)) rfl (fun h w18 J Sm => ?_)
              have Tl6 := jTx_i w18 rfl Tl6
              refine x_aloadn (x := 98) rfl rfl ?_
              refine x_aloadn (x := 98) rfl rfl ?_
              refine z_getL0 (N := 16) 0 12 rfl f_0_44 rfl J rfl (fun v19 => ?_)
              have ev19 := jfullL v19
              refine z_putL (N := 16) 0 14 rfl f_0_51 rfl (jfin_no TX0 RX0 16 rfl rfl) hD J Sm rfl rfl rfl (fun h w20 J Sm => ?_)
              have Tl6 := jTx_l w20 rfl Tl6
              refine x_goto (tgt := 51) rfl rfl ?_
              refine x_vret rfl rfl ?_
              show jX m_X0_weigh 6 0 0 111 [(0, .ref 98), (1, .int l1), (2, .int l2), (3, .int l3), (4, .int l4), (5, .int l5), (6, .ref l6), (7, .int l7)] [] _ 0 0 _
              exact jX.sub (jsb_c rfl (jsb_c rfl (jsb_c rfl (jsb_c rfl (jsb_c rfl (jsb_c rfl (jsb_c rfl (jsb_c rfl jsb_n)))))))) (ct_X0_weigh_r98_111 hD hQ k18 k34 ih l1 l2 l3 l4 l5 l6 l7 g0 v17 g2 h (jr_of rfl (by omega)) (jr_of rfl (by omega)) (jr_of rfl (by omega)) (jr_of rfl (by omega)) (jr_of rfl (by omega)) (jr_of rfl (by omega)) (jr_of rfl (by omega)) (jr_of rfl (by omega)) Tl6 (jml w20 (jmo w18 rfl (jmc S6 rfl z0))) (jml w20 (jmw w18)) (jml w20 (jmo w18 rfl (jmc S6 rfl z2))) (by omega) (by omega) (by omega) J Sm)
set_option maxRecDepth 100000 in
set_option maxHeartbeats 4000000 in
theorem ct_X0_weigh_r98_34 {Dy : jH → Prop} {h0 : jH} {Q : Option Value → jH → Prop} {R18 : Int} (hD : jDk Dy) (hQ : ∀ (v : Int32) hx9, 0 ≤ v.toInt ∧ v.toInt ≤ 1 → jJ jSgX Dy hx9 → jSm fp_X0_weigh_r98 h0 hx9 → Q (some (.int v)) hx9) (k18 : ∀ (l1 : Int32) (l2 : Int32) (l3 : Int32) (l4 : Int32) (g0 : Int32) (g1 : Int32) (h : jH), l4.toInt - (-1) < R18 → 1 ≤ l1.toInt ∧ l1.toInt ≤ 7 → 0 ≤ l2.toInt ∧ l2.toInt ≤ 2 → (-1) ≤ l3.toInt ∧ l3.toInt ≤ 599 → (-1) ≤ l4.toInt ∧ l4.toInt ≤ 1 → (-1) ≤ g0.toInt ∧ g0.toInt ≤ 359 → jiv h 98 13 = g0 → jiv h 98 15 = g1 → jJ jSgX Dy h → jSm fp_X0_weigh_r98 h0 h → jX m_X0_weigh 6 0 0 18 [(0, .ref 98), (1, .int l1), (2, .int l2), (3, .int l3), (4, .int l4)] [] h 0 0 Q) : ∀ r : Nat, ∀ (l1 : Int32) (l2 : Int32) (l3 : Int32) (l4 : Int32) (l5 : Int32) (g0 : Int32) (g1 : Int32) (g2 : Int32) (h : jH), l5.toInt - (-1) < (r : Int) → 1 ≤ l1.toInt ∧ l1.toInt ≤ 7 → 0 ≤ l2.toInt ∧ l2.toInt ≤ 2 → (-1) ≤ l3.toInt ∧ l3.toInt ≤ 599 → 0 ≤ l4.toInt ∧ l4.toInt ≤ 1 → (-1) ≤ l5.toInt ∧ l5.toInt ≤ 29 → 0 ≤ g0.toInt ∧ g0.toInt ≤ 30 → (-1) ≤ g1.toInt ∧ g1.toInt ≤ 359 → jiv h 32 18 = g0 → jiv h 98 13 = g1 → jiv h 98 15 = g2 → l4.toInt - (-1) ≤ R18 → jJ jSgX Dy h → jSm fp_X0_weigh_r98 h0 h → jX m_X0_weigh 6 0 0 34 [(0, .ref 98), (1, .int l1), (2, .int l2), (3, .int l3), (4, .int l4), (5, .int l5)] [] h 0 0 Q := by
  intro r
  induction r with
  | zero =>
    intro l1 l2 l3 l4 l5 g0 g1 g2 h hm y0 y1 y2 y3 y4 y5 y6 z0 z1 z2 m18 J Sm
    exfalso
    have eg2 := jfull g2
    omega
  | succ r ih =>
    intro l1 l2 l3 l4 l5 g0 g1 g2 h hm y0 y1 y2 y3 y4 y5 y6 z0 z1 z2 m18 J Sm
    have eg2 := jfull g2
    refine x_iload (x := l5) rfl rfl ?_
    refine x_iflt (tgt := 123) rfl rfl (ti_lt rfl jk_0 ⟨fun c1 => ?_, fun c1 => ?_⟩)
    ·
      refine z_iinc (x := l4) (lsx9 := fun v2 => [(4, .int v2), (0, .ref 98), (1, .int l1), (2, .int l2), (3, .int l3), (5, .int l5)]) rfl rfl rfl jko_m1 (by omega) rfl (fun _ => rfl) (fun v2 ev2 => ?_)
      refine x_goto (tgt := 18) rfl rfl ?_
      exact jX.sub (jsb_c rfl (jsb_c rfl (jsb_c rfl (jsb_c rfl (jsb_c rfl jsb_n))))) (k18 l1 l2 l3 v2 g1 g2 h (by omega) (jr_of rfl (by omega)) (jr_of rfl (by omega)) (jr_of rfl (by omega)) (jr_of rfl (by omega)) (jr_of rfl (by omega)) z1 z2 J Sm)
    ·
      refine x_aloadn (x := 98) rfl rfl ?_
      refine x_iload (x := l5) rfl rfl ?_
      refine x_inv (N := m_X0_textAt) (As := [.int l5]) (b := 98) (st := []) (dx9 := 5) (mc := 0) (ms := 0) (host := "") 0 rfl t_X0_textAt ⟨Or.inl q_0_94, i_X0_textAt.1, i_X0_textAt.2⟩ ⟨by decide, rfl⟩ (congrArg Prod.fst (J.1.1 98 (0, 16) rfl)) rfl (by decide) rfl rfl ⟨by decide, by decide⟩ (jC.of rfl k_X0_textAt rfl ?_)
      show jX m_X0_textAt 5 0 0 0 [(0, .ref 98), (1, .int l5)] [] _ 0 0 _
      refine x_iloadn (x := l5) rfl rfl ?_
      refine x_iflt (tgt := 33) rfl rfl (ti_lt rfl jk_0 (br_f (by omega) ?_))
      refine x_iloadn (x := l5) rfl rfl ?_
      refine x_aloadn (x := 98) rfl rfl ?_
      refine z_getR (N := 16) (b := 32) 0 0 rfl f_0_57 rfl J rfl 12544 ⟨rfl, rfl⟩ rfl ?_
      refine z_getM (N := 20) (v := g0) 1 18 rfl f_0_72 rfl J rfl z0 ?_
      refine x_icge (tgt := 33) rfl rfl (ti_ge rfl rfl ⟨fun c3 => ?_, fun c3 => ?_⟩)
      ·
        refine x_null rfl ?_
        refine x_aret rfl rfl rfl (Or.inl rfl) ?_
        show jX m_X0_weigh 6 0 0 45 [(0, .ref 98), (1, .int l1), (2, .int l2), (3, .int l3), (4, .int l4), (5, .int l5)] [.null] _ 0 0 _
        refine x_astoreN (lsx9 := [(6, .null), (0, .ref 98), (1, .int l1), (2, .int l2), (3, .int l3), (4, .int l4), (5, .int l5)]) rfl rfl rfl ?_
        refine x_aloadN rfl rfl ?_
        refine x_ifnullN (tgt := 117) rfl rfl ?_
        exact jX.sub (jsb_c rfl (jsb_c rfl (jsb_c rfl (jsb_c rfl (jsb_c rfl (jsb_c rfl jsb_n)))))) (ct_X0_weigh_r98_117 hD hQ k18 ih l1 l2 l3 l4 l5 g0 g1 g2 h (jr_of rfl (by omega)) (jr_of rfl (by omega)) (jr_of rfl (by omega)) (jr_of rfl (by omega)) (jr_of rfl (by omega)) (jr_of rfl (by omega)) (jr_of rfl (by omega)) z0 z1 z2 (by omega) (by omega) J Sm)
      ·
        refine x_iloadn (x := l5) rfl rfl ?_
        refine x_bipush (v := 30) rfl kb_30 ?_
        refine x_icge (tgt := 33) rfl rfl (ti_ge rfl jk_30 (br_f (by omega) ?_))
        refine x_aloadn (x := 98) rfl rfl ?_
        refine z_getR (N := 16) (b := 32) 0 0 rfl f_0_57 rfl J rfl 12544 ⟨rfl, rfl⟩ rfl ?_
        refine z_getR (N := 20) (b := 66) 1 17 rfl f_0_77 rfl J rfl 4113 ⟨rfl, rfl⟩ rfl ?_
        refine x_iloadn (x := l5) rfl rfl ?_
        refine z_aaldT rfl hD J rfl rfl (by omega) ⟨?_, fun b4 Tb4 => ?_⟩
        ·
          refine x_goto (tgt := 34) rfl rfl ?_
          refine x_aret rfl rfl rfl (Or.inl rfl) ?_
          show jX m_X0_weigh 6 0 0 45 [(0, .ref 98), (1, .int l1), (2, .int l2), (3, .int l3), (4, .int l4), (5, .int l5)] [.null] _ 0 0 _
          refine x_astoreN (lsx9 := [(6, .null), (0, .ref 98), (1, .int l1), (2, .int l2), (3, .int l3), (4, .int l4), (5, .int l5)]) rfl rfl rfl ?_
          refine x_aloadN rfl rfl ?_
          refine x_ifnullN (tgt := 117) rfl rfl ?_
          exact jX.sub (jsb_c rfl (jsb_c rfl (jsb_c rfl (jsb_c rfl (jsb_c rfl (jsb_c rfl jsb_n)))))) (ct_X0_weigh_r98_117 hD hQ k18 ih l1 l2 l3 l4 l5 g0 g1 g2 h (jr_of rfl (by omega)) (jr_of rfl (by omega)) (jr_of rfl (by omega)) (jr_of rfl (by omega)) (jr_of rfl (by omega)) (jr_of rfl (by omega)) (jr_of rfl (by omega)) z0 z1 z2 (by omega) (by omega) J Sm)
        ·
          refine x_goto (tgt := 34) rfl rfl ?_
          refine x_aret rfl rfl rfl (Or.inr ⟨_, rfl⟩) ?_
          show jX m_X0_weigh 6 0 0 45 [(0, .ref 98), (1, .int l1), (2, .int l2), (3, .int l3), (4, .int l4), (5, .int l5)] [.ref b4] _ 0 0 _
          refine x_astore (lsx9 := [(6, .ref b4), (0, .ref 98), (1, .int l1), (2, .int l2), (3, .int l3), (4, .int l4), (5, .int l5)]) rfl rfl rfl ?_
          refine x_aload (x := b4) rfl rfl ?_
          refine x_ifnull rfl ?_
          refine x_aload (x := b4) rfl rfl ?_
          refine z_getT 0 rfl f_0_217 rfl Tb4 (fun v5 => ?_)
          have ev5 := jfull v5
          refine x_iload (x := l4) rfl rfl ?_
          refine x_iceq (tgt := 65) rfl rfl (ti_eq rfl rfl ⟨fun c6 => ?_, fun c6 => ?_⟩)
          ·
            refine x_aload (x := b4) rfl rfl ?_
            refine z_getTc rfl f_0_104 Tb4 (fun v7 ev7 => ?_)
            refine x_iconst (v := 1) rfl ki_1 ?_
            refine z_isub rfl rfl jk_1 (by omega) (fun v8 ev8 => ?_)
            refine x_istore (lsx9 := [(7, .int v8), (6, .ref b4), (0, .ref 98), (1, .int l1), (2, .int l2), (3, .int l3), (4, .int l4), (5, .int l5)]) rfl rfl rfl ?_
            exact jX.sub (jsb_c rfl (jsb_c rfl (jsb_c rfl (jsb_c rfl (jsb_c rfl (jsb_c rfl (jsb_c rfl (jsb_c rfl jsb_n)))))))) (ct_X0_weigh_r98_74 hD hQ k18 ih 13 l1 l2 l3 l4 l5 b4 v8 g0 g1 g2 h (by omega) (jr_of rfl (by omega)) (jr_of rfl (by omega)) (jr_of rfl (by omega)) (jr_of rfl (by omega)) (jr_of rfl (by omega)) (jr_of rfl (by omega)) (jr_of rfl (by omega)) (jr_of rfl (by omega)) Tb4 z0 z1 z2 (by omega) (by omega) J Sm)
          ·
            refine x_goto (tgt := 117) rfl rfl ?_
            exact jX.sub (jsb_c rfl (jsb_c rfl (jsb_c rfl (jsb_c rfl (jsb_c rfl (jsb_c rfl jsb_n)))))) (ct_X0_weigh_r98_117 hD hQ k18 ih l1 l2 l3 l4 l5 g0 g1 g2 h (jr_of rfl (by omega)) (jr_of rfl (by omega)) (jr_of rfl (by omega)) (jr_of rfl (by omega)) (jr_of rfl (by omega)) (jr_of rfl (by omega)) (jr_of rfl (by omega)) z0 z1 z2 (by omega) (by omega) J Sm)
set_option maxRecDepth 100000 in
set_option maxHeartbeats 4000000 in
theorem ct_X0_weigh_r98_18 {Dy : jH → Prop} {h0 : jH} {Q : Option Value → jH → Prop} (hD : jDk Dy) (hQ : ∀ (v : Int32) hx9, 0 ≤ v.toInt ∧ v.toInt ≤ 1 → jJ jSgX Dy hx9 → jSm fp_X0_weigh_r98 h0 hx9 → Q (some (.int v)) hx9) : ∀ r : Nat, ∀ (l1 : Int32) (l2 : Int32) (l3 : Int32) (l4 : Int32) (g0 : Int32) (g1 : Int32) (h : jH), l4.toInt - (-1) < (r : Int) → 1 ≤ l1.toInt ∧ l1.toInt ≤ 7 → 0 ≤ l2.toInt ∧ l2.toInt ≤ 2 → (-1) ≤ l3.toInt ∧ l3.toInt ≤ 599 → (-1) ≤ l4.toInt ∧ l4.toInt ≤ 1 → (-1) ≤ g0.toInt ∧ g0.toInt ≤ 359 → jiv h 98 13 = g0 → jiv h 98 15 = g1 → jJ jSgX Dy h → jSm fp_X0_weigh_r98 h0 h → jX m_X0_weigh 6 0 0 18 [(0, .ref 98), (1, .int l1), (2, .int l2), (3, .int l3), (4, .int l4)] [] h 0 0 Q := by
  intro r
  induction r with
  | zero =>
    intro l1 l2 l3 l4 g0 g1 h hm y0 y1 y2 y3 y4 z0 z1  J Sm
    exfalso
    have eg1 := jfull g1
    omega
  | succ r ih =>
    intro l1 l2 l3 l4 g0 g1 h hm y0 y1 y2 y3 y4 z0 z1  J Sm
    have eg1 := jfull g1
    refine x_iload (x := l4) rfl rfl ?_
    refine x_iflt (tgt := 129) rfl rfl (ti_lt rfl jk_0 ⟨fun c1 => ?_, fun c1 => ?_⟩)
    ·
      refine x_aloadn (x := 98) rfl rfl ?_
      refine z_getM (N := 16) (v := g0) 0 13 rfl f_0_48 rfl J rfl z0 ?_
      refine x_iconst (v := (-1)) rfl ki_m1 ?_
      refine x_iceq (tgt := 141) rfl rfl (ti_eq rfl jk_m1 ⟨fun c2 => ?_, fun c2 => ?_⟩)
      ·
        refine x_iconst (v := 0) rfl ki_0 ?_
        exact jX.sub jsb_n (ct_X0_weigh_r98_200142 hD hQ  h J Sm)
      ·
        refine x_iconst (v := 1) rfl ki_1 ?_
        refine x_goto (tgt := 142) rfl rfl ?_
        exact jX.sub jsb_n (ct_X0_weigh_r98_300142 hD hQ  h J Sm)
    ·
      refine x_aloadn (x := 98) rfl rfl ?_
      refine z_getR (N := 16) (b := 32) 0 0 rfl f_0_57 rfl J rfl 12544 ⟨rfl, rfl⟩ rfl ?_
      refine z_getI (N := 20) 1 18 rfl f_0_72 rfl J rfl sg_32_18_19_1_0_1 (fun v3 qv3 ev3 => ?_)
      refine x_iconst (v := 1) rfl ki_1 ?_
      refine z_isub rfl rfl jk_1 (by omega) (fun v4 ev4 => ?_)
      refine x_istore (lsx9 := [(5, .int v4), (0, .ref 98), (1, .int l1), (2, .int l2), (3, .int l3), (4, .int l4)]) rfl rfl rfl ?_
      exact jX.sub (jsb_c rfl (jsb_c rfl (jsb_c rfl (jsb_c rfl (jsb_c rfl (jsb_c rfl jsb_n)))))) (ct_X0_weigh_r98_34 hD hQ ih 31 l1 l2 l3 l4 v4 v3 g0 g1 h (by omega) (jr_of rfl (by omega)) (jr_of rfl (by omega)) (jr_of rfl (by omega)) (jr_of rfl (by omega)) (jr_of rfl (by omega)) (jr_of rfl (by omega)) (jr_of rfl (by omega)) qv3 z0 z1 (by omega) J Sm)
set_option maxRecDepth 100000 in
set_option maxHeartbeats 4000000 in
theorem sf_X0_weigh_r98 {Dy : jH → Prop} {h : jH} {Q : Option Value → jH → Prop} {a1 : Int32} {a2 : Int32} {a3 : Int32} (y1 : 1 ≤ a1.toInt ∧ a1.toInt ≤ 7) (y2 : 0 ≤ a2.toInt ∧ a2.toInt ≤ 2) (y3 : (-1) ≤ a3.toInt ∧ a3.toInt ≤ 599) (hD : jDk Dy) (J : jJ jSgX Dy h) (hQ : ∀ (v : Int32) hx9, 0 ≤ v.toInt ∧ v.toInt ≤ 1 → jJ jSgX Dy hx9 → jSm fp_X0_weigh_r98 h hx9 → Q (some (.int v)) hx9) : jC m_X0_weigh 6 0 0 [.ref 98, .int a1, .int a2, .int a3] h Q := by
  refine jC.of rfl k_X0_weigh rfl ?_
  have Sm := jSm_rf fp_X0_weigh_r98 h
  show jX m_X0_weigh 6 0 0 0 [(0, .ref 98), (1, .int a1), (2, .int a2), (3, .int a3)] [] _ 0 0 _
  refine x_aloadn (x := 98) rfl rfl ?_
  refine x_iconst (v := (-1)) rfl ki_m1 ?_
  refine z_putI (N := 16) (w := (-1)) 0 13 rfl f_0_48 rfl (jfin_no TX0 RX0 16 rfl rfl) hD J Sm rfl rfl jk_m1 (pw_98_13 (by omega)) rfl (fun h w1 J Sm => ?_)
  refine x_aloadn (x := 98) rfl rfl ?_
  refine x_lconst (v := 0) rfl kl_0 ?_
  refine z_putL (N := 16) 0 14 rfl f_0_51 rfl (jfin_no TX0 RX0 16 rfl rfl) hD J Sm rfl rfl rfl (fun h w2 J Sm => ?_)
  refine x_aloadn (x := 98) rfl rfl ?_
  refine x_iconst (v := 0) rfl ki_0 ?_
  refine z_putI (N := 16) (w := 0) 0 15 rfl f_0_54 rfl (jfin_no TX0 RX0 16 rfl rfl) hD J Sm rfl rfl jk_0 (pw_98_15 trivial) rfl (fun h w3 J Sm => ?_)
  refine x_iconst (v := 1) rfl ki_1 ?_
  refine x_istore (lsx9 := [(4, .int 1), (0, .ref 98), (1, .int a1), (2, .int a2), (3, .int a3)]) rfl rfl rfl ?_
  exact jX.sub (jsb_c rfl (jsb_c rfl (jsb_c rfl (jsb_c rfl (jsb_c rfl jsb_n))))) (ct_X0_weigh_r98_18 hD hQ  3 a1 a2 a3 1 (-1) 0 h (by have := jk_1; omega) (jr_of rfl (by omega)) (jr_of rfl (by omega)) (jr_of rfl (by omega)) (jr_of jk_1 (by omega)) (jr_of jk_m1 (by omega)) (jmo w3 rfl (jml w2 (jmw w1))) (jmw w3) J Sm)
def fp_X5_differ_r70 : jFp := []
set_option maxRecDepth 100000 in
set_option maxHeartbeats 4000000 in
theorem ct_X5_differ_r70_70 {Dy : jH → Prop} {h0 : jH} {Q : Option Value → jH → Prop} (hD : jDk Dy) (hQ : ∀ (v : Int32) hx9, 0 ≤ v.toInt ∧ v.toInt ≤ 1 → jJ jSgX Dy hx9 → jSm fp_X5_differ_r70 h0 hx9 → Q (some (.int v)) hx9) : ∀ (h : jH), jJ jSgX Dy h → jSm fp_X5_differ_r70 h0 h → jX m_X5_differ 1 0 0 70 [] [] h 0 0 Q := by
  intro  h    J Sm
  refine x_iconst (v := 0) rfl ki_0 ?_
  refine x_zret rfl rfl (by decide) ?_
  exact hQ _ _ (jr_of jk_0 (by omega)) J Sm
set_option maxRecDepth 100000 in
set_option maxHeartbeats 4000000 in
theorem ct_X5_differ_r70_120 {Dy : jH → Prop} {h0 : jH} {Q : Option Value → jH → Prop} (hD : jDk Dy) (hQ : ∀ (v : Int32) hx9, 0 ≤ v.toInt ∧ v.toInt ≤ 1 → jJ jSgX Dy hx9 → jSm fp_X5_differ_r70 h0 hx9 → Q (some (.int v)) hx9) : ∀ r : Nat, ∀ (l4 : Int32) (l5 : Int32) (l8 : Int32) (l9 : Int32) (h : jH), 36 - l9.toInt < (r : Int) → 0 ≤ l4.toInt ∧ l4.toInt ≤ 1199 → 0 ≤ l5.toInt ∧ l5.toInt ≤ 1199 → 0 ≤ l8.toInt ∧ l8.toInt ≤ 36 → 0 ≤ l9.toInt ∧ l9.toInt ≤ 36 → jJ jSgX Dy h → jSm fp_X5_differ_r70 h0 h → jX m_X5_differ 1 0 0 120 [(0, .ref 70), (4, .int l4), (5, .int l5), (8, .int l8), (9, .int l9)] [] h 0 0 Q := by
  intro r
  induction r with
  | zero =>
    intro l4 l5 l8 l9 h hm y0 y1 y2 y3   J Sm
    exfalso
    omega
  | succ r ih =>
    intro l4 l5 l8 l9 h hm y0 y1 y2 y3   J Sm
    refine x_iload (x := l9) rfl rfl ?_
    refine x_iload (x := l8) rfl rfl ?_
    refine x_icge (tgt := 164) rfl rfl (ti_ge rfl rfl ⟨fun c1 => ?_, fun c1 => ?_⟩)
    ·
      refine x_iconst (v := 0) rfl ki_0 ?_
      refine x_zret rfl rfl (by decide) ?_
      exact hQ _ _ (jr_of jk_0 (by omega)) J Sm
    ·
      refine x_aloadn (x := 70) rfl rfl ?_
      refine z_getR (N := 9) (b := 75) 5 6 rfl f_5_25 rfl J rfl 8966 ⟨rfl, rfl⟩ rfl ?_
      refine x_iload (x := l4) rfl rfl ?_
      refine x_bipush (v := 36) rfl kb_36 ?_
      refine z_imul rfl rfl jk_36 (by omega) (fun v2 ev2 => ?_)
      refine x_iload (x := l9) rfl rfl ?_
      refine z_iadd rfl rfl rfl (by omega) (fun v3 ev3 => ?_)
      refine z_iald0 (N := 43200) rfl J rfl rfl (by omega) (fun v4 qv4 => ?_)
      have ev4 := jfull v4
      refine x_aloadn (x := 70) rfl rfl ?_
      refine z_getR (N := 9) (b := 75) 5 6 rfl f_5_25 rfl J rfl 8966 ⟨rfl, rfl⟩ rfl ?_
      refine x_iload (x := l5) rfl rfl ?_
      refine x_bipush (v := 36) rfl kb_36 ?_
      refine z_imul rfl rfl jk_36 (by omega) (fun v5 ev5 => ?_)
      refine x_iload (x := l9) rfl rfl ?_
      refine z_iadd rfl rfl rfl (by omega) (fun v6 ev6 => ?_)
      refine z_iald0 (N := 43200) rfl J rfl rfl (by omega) (fun v7 qv7 => ?_)
      have ev7 := jfull v7
      refine x_iceq (tgt := 158) rfl rfl (ti_eq rfl rfl ⟨fun c8 => ?_, fun c8 => ?_⟩)
      ·
        refine z_iinc (x := l9) (lsx9 := fun v9 => [(9, .int v9), (0, .ref 70), (4, .int l4), (5, .int l5), (8, .int l8)]) rfl rfl rfl jko_1 (by omega) rfl (fun _ => rfl) (fun v9 ev9 => ?_)
        refine x_goto (tgt := 120) rfl rfl ?_
        exact jX.sub (jsb_c rfl (jsb_c rfl (jsb_c rfl (jsb_c rfl (jsb_c rfl jsb_n))))) (ih l4 l5 l8 v9 h (by omega) (jr_of rfl (by omega)) (jr_of rfl (by omega)) (jr_of rfl (by omega)) (jr_of rfl (by omega)) J Sm)
      ·
        refine x_iconst (v := 1) rfl ki_1 ?_
        refine x_zret rfl rfl (by decide) ?_
        exact hQ _ _ (jr_of jk_1 (by omega)) J Sm
set_option maxRecDepth 100000 in
set_option maxHeartbeats 4000000 in
theorem ct_X5_differ_r70_108 {Dy : jH → Prop} {h0 : jH} {Q : Option Value → jH → Prop} (hD : jDk Dy) (hQ : ∀ (v : Int32) hx9, 0 ≤ v.toInt ∧ v.toInt ≤ 1 → jJ jSgX Dy hx9 → jSm fp_X5_differ_r70 h0 hx9 → Q (some (.int v)) hx9) : ∀ (l4 : Int32) (l5 : Int32) (l6 : Int32) (l7 : Int32) (h : jH), 0 ≤ l4.toInt ∧ l4.toInt ≤ 1199 → 0 ≤ l5.toInt ∧ l5.toInt ≤ 1199 → 0 ≤ l6.toInt ∧ l6.toInt ≤ 36 → 0 ≤ l7.toInt ∧ l7.toInt ≤ 36 → jJ jSgX Dy h → jSm fp_X5_differ_r70 h0 h → jX m_X5_differ 1 0 0 108 [(0, .ref 70), (4, .int l4), (5, .int l5), (6, .int l6), (7, .int l7)] [] h 0 0 Q := by
  intro l4 l5 l6 l7 h y0 y1 y2 y3   J Sm
  refine x_iload (x := l6) rfl rfl ?_
  refine x_iload (x := l7) rfl rfl ?_
  refine z_mmin rfl q_5_125 (by decide) rfl rfl rfl (fun v1 ev1 => ?_)
  refine x_istore (lsx9 := [(8, .int v1), (0, .ref 70), (4, .int l4), (5, .int l5), (6, .int l6), (7, .int l7)]) rfl rfl rfl ?_
  refine x_iconst (v := 0) rfl ki_0 ?_
  refine x_istore (lsx9 := [(9, .int 0), (8, .int v1), (0, .ref 70), (4, .int l4), (5, .int l5), (6, .int l6), (7, .int l7)]) rfl rfl rfl ?_
  exact jX.sub (jsb_c rfl (jsb_c rfl (jsb_c rfl (jsb_c rfl (jsb_c rfl jsb_n))))) (ct_X5_differ_r70_120 hD hQ  37 l4 l5 v1 0 h (by have := jk_0; omega) (jr_of rfl (by omega)) (jr_of rfl (by omega)) (jr_of rfl (by omega)) (jr_of jk_0 (by omega)) J Sm)
set_option maxRecDepth 100000 in
set_option maxHeartbeats 4000000 in
theorem ct_X5_differ_r70_106 {Dy : jH → Prop} {h0 : jH} {Q : Option Value → jH → Prop} (hD : jDk Dy) (hQ : ∀ (v : Int32) hx9, 0 ≤ v.toInt ∧ v.toInt ≤ 1 → jJ jSgX Dy hx9 → jSm fp_X5_differ_r70 h0 hx9 → Q (some (.int v)) hx9) : ∀ (h : jH), jJ jSgX Dy h → jSm fp_X5_differ_r70 h0 h → jX m_X5_differ 1 0 0 106 [] [] h 0 0 Q := by
  intro  h    J Sm
  refine x_iconst (v := 1) rfl ki_1 ?_
  refine x_zret rfl rfl (by decide) ?_
  exact hQ _ _ (jr_of jk_1 (by omega)) J Sm
set_option maxRecDepth 100000 in
set_option maxHeartbeats 4000000 in
theorem ct_X5_differ_r70_89 {Dy : jH → Prop} {h0 : jH} {Q : Option Value → jH → Prop} (hD : jDk Dy) (hQ : ∀ (v : Int32) hx9, 0 ≤ v.toInt ∧ v.toInt ≤ 1 → jJ jSgX Dy hx9 → jSm fp_X5_differ_r70 h0 hx9 → Q (some (.int v)) hx9) : ∀ (l4 : Int32) (l5 : Int32) (l6 : Int32) (l7 : Int32) (h : jH), 0 ≤ l4.toInt ∧ l4.toInt ≤ 1199 → 0 ≤ l5.toInt ∧ l5.toInt ≤ 1199 → 0 ≤ l6.toInt ∧ l6.toInt ≤ 36 → 0 ≤ l7.toInt ∧ l7.toInt ≤ 36 → jJ jSgX Dy h → jSm fp_X5_differ_r70 h0 h → jX m_X5_differ 1 0 0 89 [(0, .ref 70), (4, .int l4), (5, .int l5), (6, .int l6), (7, .int l7)] [] h 0 0 Q := by
  intro l4 l5 l6 l7 h y0 y1 y2 y3   J Sm
  refine x_aloadn (x := 70) rfl rfl ?_
  refine z_getR (N := 9) (b := 77) 5 8 rfl f_5_31 rfl J rfl 8968 ⟨rfl, rfl⟩ rfl ?_
  refine x_iload (x := l5) rfl rfl ?_
  refine z_zald (N := 1200) rfl J rfl sg_77_0_1200_1_0_1 rfl (by omega) (fun v1 qv1 ev1 => ?_)
  refine x_ifne (tgt := 108) rfl rfl (ti_ne rfl jk_0 ⟨fun c2 => ?_, fun c2 => ?_⟩)
  ·
    exact jX.sub (jsb_c rfl (jsb_c rfl (jsb_c rfl (jsb_c rfl (jsb_c rfl jsb_n))))) (ct_X5_differ_r70_108 hD hQ  l4 l5 l6 l7 h (jr_of rfl (by omega)) (jr_of rfl (by omega)) (jr_of rfl (by omega)) (jr_of rfl (by omega)) J Sm)
  ·
    refine x_iload (x := l6) rfl rfl ?_
    refine x_iload (x := l7) rfl rfl ?_
    refine x_icle (tgt := 108) rfl rfl (ti_le rfl rfl ⟨fun c3 => ?_, fun c3 => ?_⟩)
    ·
      exact jX.sub (jsb_c rfl (jsb_c rfl (jsb_c rfl (jsb_c rfl (jsb_c rfl jsb_n))))) (ct_X5_differ_r70_108 hD hQ  l4 l5 l6 l7 h (jr_of rfl (by omega)) (jr_of rfl (by omega)) (jr_of rfl (by omega)) (jr_of rfl (by omega)) J Sm)
    ·
      exact jX.sub jsb_n (ct_X5_differ_r70_106 hD hQ  h J Sm)
set_option maxRecDepth 100000 in
set_option maxHeartbeats 4000000 in
theorem sf_X5_differ_r70 {Dy : jH → Prop} {h : jH} {Q : Option Value → jH → Prop} {a1 : Int32} {a2 : Int32} {a3 : Int32} (y1 : 0 ≤ a1.toInt ∧ a1.toInt ≤ 599) (y2 : 0 ≤ a2.toInt ∧ a2.toInt ≤ 599) (y3 : 0 ≤ a3.toInt ∧ a3.toInt ≤ 1) (hD : jDk Dy) (J : jJ jSgX Dy h) (hQ : ∀ (v : Int32) hx9, 0 ≤ v.toInt ∧ v.toInt ≤ 1 → jJ jSgX Dy hx9 → jSm fp_X5_differ_r70 h hx9 → Q (some (.int v)) hx9) : jC m_X5_differ 1 0 0 [.ref 70, .int a1, .int a2, .int a3] h Q := by
  refine jC.of rfl k_X5_differ rfl ?_
  have Sm := jSm_rf fp_X5_differ_r70 h
  show jX m_X5_differ 1 0 0 0 [(0, .ref 70), (1, .int a1), (2, .int a2), (3, .int a3)] [] _ 0 0 _
  refine x_iloadn (x := a1) rfl rfl ?_
  refine x_iconst (v := 2) rfl ki_2 ?_
  refine z_imul rfl rfl jk_2 (by omega) (fun v1 ev1 => ?_)
  refine x_iloadn (x := a3) rfl rfl ?_
  refine z_iadd rfl rfl rfl (by omega) (fun v2 ev2 => ?_)
  refine x_istore (lsx9 := [(4, .int v2), (0, .ref 70), (1, .int a1), (2, .int a2), (3, .int a3)]) rfl rfl rfl ?_
  refine x_iloadn (x := a2) rfl rfl ?_
  refine x_iconst (v := 2) rfl ki_2 ?_
  refine z_imul rfl rfl jk_2 (by omega) (fun v3 ev3 => ?_)
  refine x_iloadn (x := a3) rfl rfl ?_
  refine z_iadd rfl rfl rfl (by omega) (fun v4 ev4 => ?_)
  refine x_istore (lsx9 := [(5, .int v4), (4, .int v2), (0, .ref 70), (1, .int a1), (2, .int a2), (3, .int a3)]) rfl rfl rfl ?_
  refine x_iload (x := v2) rfl rfl ?_
  refine x_iflt (tgt := 40) rfl rfl (ti_lt rfl jk_0 (br_f (by omega) ?_))
  refine x_iload (x := v4) rfl rfl ?_
  refine x_iflt (tgt := 40) rfl rfl (ti_lt rfl jk_0 (br_f (by omega) ?_))
  refine x_iload (x := v2) rfl rfl ?_
  refine x_sipush (v := 1200) rfl ks_1200 ?_
  refine x_icge (tgt := 40) rfl rfl (ti_ge rfl jk_1200 (br_f (by omega) ?_))
  refine x_iload (x := v4) rfl rfl ?_
  refine x_sipush (v := 1200) rfl ks_1200 ?_
  refine x_iclt (tgt := 42) rfl rfl (ti_lt rfl jk_1200 (br_t (by omega) ?_))
  refine x_aloadn (x := 70) rfl rfl ?_
  refine z_getR (N := 9) (b := 76) 5 7 rfl f_5_28 rfl J rfl 8967 ⟨rfl, rfl⟩ rfl ?_
  refine x_iload (x := v2) rfl rfl ?_
  refine z_iald (N := 1200) rfl J rfl sg_76_0_1200_1_0_1 rfl (by omega) (fun v5 qv5 ev5 => ?_)
  refine x_istore (lsx9 := [(6, .int v5), (5, .int v4), (4, .int v2), (0, .ref 70), (1, .int a1), (2, .int a2), (3, .int a3)]) rfl rfl rfl ?_
  refine x_aloadn (x := 70) rfl rfl ?_
  refine z_getR (N := 9) (b := 76) 5 7 rfl f_5_28 rfl J rfl 8967 ⟨rfl, rfl⟩ rfl ?_
  refine x_iload (x := v4) rfl rfl ?_
  refine z_iald (N := 1200) rfl J rfl sg_76_0_1200_1_0_1 rfl (by omega) (fun v6 qv6 ev6 => ?_)
  refine x_istore (lsx9 := [(7, .int v6), (6, .int v5), (5, .int v4), (4, .int v2), (0, .ref 70), (1, .int a1), (2, .int a2), (3, .int a3)]) rfl rfl rfl ?_
  refine x_iload (x := v5) rfl rfl ?_
  refine x_iflt (tgt := 70) rfl rfl (ti_lt rfl jk_0 ⟨fun c7 => ?_, fun c7 => ?_⟩)
  ·
    exact jX.sub jsb_n (ct_X5_differ_r70_70 hD hQ  h J Sm)
  ·
    refine x_iload (x := v6) rfl rfl ?_
    refine x_ifge (tgt := 72) rfl rfl (ti_ge rfl jk_0 ⟨fun c8 => ?_, fun c8 => ?_⟩)
    ·
      refine x_aloadn (x := 70) rfl rfl ?_
      refine z_getR (N := 9) (b := 77) 5 8 rfl f_5_31 rfl J rfl 8968 ⟨rfl, rfl⟩ rfl ?_
      refine x_iload (x := v2) rfl rfl ?_
      refine z_zald (N := 1200) rfl J rfl sg_77_0_1200_1_0_1 rfl (by omega) (fun v9 qv9 ev9 => ?_)
      refine x_ifne (tgt := 89) rfl rfl (ti_ne rfl jk_0 ⟨fun c10 => ?_, fun c10 => ?_⟩)
      ·
        exact jX.sub (jsb_c rfl (jsb_c rfl (jsb_c rfl (jsb_c rfl (jsb_c rfl jsb_n))))) (ct_X5_differ_r70_89 hD hQ  v2 v4 v5 v6 h (jr_of rfl (by omega)) (jr_of rfl (by omega)) (jr_of rfl (by omega)) (jr_of rfl (by omega)) J Sm)
      ·
        refine x_iload (x := v6) rfl rfl ?_
        refine x_iload (x := v5) rfl rfl ?_
        refine x_icgt (tgt := 106) rfl rfl (ti_gt rfl rfl ⟨fun c11 => ?_, fun c11 => ?_⟩)
        ·
          exact jX.sub jsb_n (ct_X5_differ_r70_106 hD hQ  h J Sm)
        ·
          exact jX.sub (jsb_c rfl (jsb_c rfl (jsb_c rfl (jsb_c rfl (jsb_c rfl jsb_n))))) (ct_X5_differ_r70_89 hD hQ  v2 v4 v5 v6 h (jr_of rfl (by omega)) (jr_of rfl (by omega)) (jr_of rfl (by omega)) (jr_of rfl (by omega)) J Sm)
    ·
      exact jX.sub jsb_n (ct_X5_differ_r70_70 hD hQ  h J Sm)
def fp_X8_at_r37_c0 : jFp := []
set_option maxRecDepth 100000 in
set_option maxHeartbeats 4000000 in
theorem ct_X8_at_r37_c0_24 {Dy : jH → Prop} {h0 : jH} {Q : Option Value → jH → Prop} (hD : jDk Dy) (hQ : ∀ (v : Int32) hx9, 0 ≤ v.toInt ∧ v.toInt ≤ 599 → jJ jSgX Dy hx9 → jSm fp_X8_at_r37_c0 h0 hx9 → Q (some (.int v)) hx9) : ∀ (h : jH), jJ jSgX Dy h → jSm fp_X8_at_r37_c0 h0 h → jX m_X8_at 1 0 0 24 [] [] h 0 0 Q := by
  intro  h    J Sm
  refine x_iconst (v := 0) rfl ki_0 ?_
  refine x_iret rfl rfl ?_
  exact hQ _ _ (jr_of jk_0 (by omega)) J Sm
set_option maxRecDepth 100000 in
set_option maxHeartbeats 4000000 in
theorem sf_X8_at_r37_c0 {Dy : jH → Prop} {h : jH} {Q : Option Value → jH → Prop} {a1 : Int32} (y1 : 0 ≤ a1.toInt ∧ a1.toInt ≤ 59) (hD : jDk Dy) (J : jJ jSgX Dy h) (hQ : ∀ (v : Int32) hx9, 0 ≤ v.toInt ∧ v.toInt ≤ 599 → jJ jSgX Dy hx9 → jSm fp_X8_at_r37_c0 h hx9 → Q (some (.int v)) hx9) : jC m_X8_at 1 0 0 [.ref 37, .int a1, .int 0] h Q := by
  refine jC.of rfl k_X8_at rfl ?_
  have Sm := jSm_rf fp_X8_at_r37_c0 h
  show jX m_X8_at 1 0 0 0 [(0, .ref 37), (1, .int a1), (2, .int 0)] [] _ 0 0 _
  refine x_iloadn (x := a1) rfl rfl ?_
  refine x_iflt (tgt := 24) rfl rfl (ti_lt rfl jk_0 (br_f (by omega) ?_))
  refine x_iloadn (x := a1) rfl rfl ?_
  refine x_aloadn (x := 37) rfl rfl ?_
  refine z_getI (N := 4) 8 3 rfl f_8_7 rfl J rfl sg_37_3_4_1_0_1 (fun v1 qv1 ev1 => ?_)
  refine x_icge (tgt := 24) rfl rfl (ti_ge rfl rfl ⟨fun c2 => ?_, fun c2 => ?_⟩)
  ·
    exact jX.sub jsb_n (ct_X8_at_r37_c0_24 hD hQ  h J Sm)
  ·
    refine x_iloadn (x := 0) rfl rfl ?_
    refine x_iflt (tgt := 24) rfl rfl (ti_lt jk_0 jk_0 (br_f (by omega) ?_))
    refine x_iloadn (x := 0) rfl rfl ?_
    refine x_aloadn (x := 37) rfl rfl ?_
    refine z_getC (N := 4) (v := 2) 8 0 rfl f_8_19 rfl J rfl sg_37_0_1_1_0_1 jk_2 ?_
    refine x_iclt (tgt := 26) rfl rfl (ti_lt jk_0 jk_2 (br_t (by omega) ?_))
    refine x_aloadn (x := 37) rfl rfl ?_
    refine z_getR (N := 4) (b := 38) 8 2 rfl f_8_25 rfl J rfl 4738 ⟨rfl, rfl⟩ rfl ?_
    refine x_iloadn (x := a1) rfl rfl ?_
    refine x_aloadn (x := 37) rfl rfl ?_
    refine z_getC (N := 4) (v := 2) 8 0 rfl f_8_19 rfl J rfl sg_37_0_1_1_0_1 jk_2 ?_
    refine z_imul rfl rfl jk_2 (by omega) (fun v3 ev3 => ?_)
    refine x_iloadn (x := 0) rfl rfl ?_
    refine z_iadd rfl rfl jk_0 (by omega) (fun v4 ev4 => ?_)
    refine z_iald (N := 120) rfl J rfl sg_38_0_120_2_0_1 rfl (by omega) (fun v5 qv5 ev5 => ?_)
    refine x_iret rfl rfl ?_
    exact hQ _ _ (jr_of rfl (by omega)) J Sm
def fp_X8_at_r37_c1 : jFp := []
set_option maxRecDepth 100000 in
set_option maxHeartbeats 4000000 in
theorem ct_X8_at_r37_c1_24 {Dy : jH → Prop} {h0 : jH} {Q : Option Value → jH → Prop} (hD : jDk Dy) (hQ : ∀ (v : Int32) hx9, 0 ≤ v.toInt ∧ v.toInt ≤ 599 → jJ jSgX Dy hx9 → jSm fp_X8_at_r37_c1 h0 hx9 → Q (some (.int v)) hx9) : ∀ (h : jH), jJ jSgX Dy h → jSm fp_X8_at_r37_c1 h0 h → jX m_X8_at 1 0 0 24 [] [] h 0 0 Q := by
  intro  h    J Sm
  refine x_iconst (v := 0) rfl ki_0 ?_
  refine x_iret rfl rfl ?_
  exact hQ _ _ (jr_of jk_0 (by omega)) J Sm
set_option maxRecDepth 100000 in
set_option maxHeartbeats 4000000 in
theorem sf_X8_at_r37_c1 {Dy : jH → Prop} {h : jH} {Q : Option Value → jH → Prop} {a1 : Int32} (y1 : 0 ≤ a1.toInt ∧ a1.toInt ≤ 59) (hD : jDk Dy) (J : jJ jSgX Dy h) (hQ : ∀ (v : Int32) hx9, 0 ≤ v.toInt ∧ v.toInt ≤ 599 → jJ jSgX Dy hx9 → jSm fp_X8_at_r37_c1 h hx9 → Q (some (.int v)) hx9) : jC m_X8_at 1 0 0 [.ref 37, .int a1, .int 1] h Q := by
  refine jC.of rfl k_X8_at rfl ?_
  have Sm := jSm_rf fp_X8_at_r37_c1 h
  show jX m_X8_at 1 0 0 0 [(0, .ref 37), (1, .int a1), (2, .int 1)] [] _ 0 0 _
  refine x_iloadn (x := a1) rfl rfl ?_
  refine x_iflt (tgt := 24) rfl rfl (ti_lt rfl jk_0 (br_f (by omega) ?_))
  refine x_iloadn (x := a1) rfl rfl ?_
  refine x_aloadn (x := 37) rfl rfl ?_
  refine z_getI (N := 4) 8 3 rfl f_8_7 rfl J rfl sg_37_3_4_1_0_1 (fun v1 qv1 ev1 => ?_)
  refine x_icge (tgt := 24) rfl rfl (ti_ge rfl rfl ⟨fun c2 => ?_, fun c2 => ?_⟩)
  ·
    exact jX.sub jsb_n (ct_X8_at_r37_c1_24 hD hQ  h J Sm)
  ·
    refine x_iloadn (x := 1) rfl rfl ?_
    refine x_iflt (tgt := 24) rfl rfl (ti_lt jk_1 jk_0 (br_f (by omega) ?_))
    refine x_iloadn (x := 1) rfl rfl ?_
    refine x_aloadn (x := 37) rfl rfl ?_
    refine z_getC (N := 4) (v := 2) 8 0 rfl f_8_19 rfl J rfl sg_37_0_1_1_0_1 jk_2 ?_
    refine x_iclt (tgt := 26) rfl rfl (ti_lt jk_1 jk_2 (br_t (by omega) ?_))
    refine x_aloadn (x := 37) rfl rfl ?_
    refine z_getR (N := 4) (b := 38) 8 2 rfl f_8_25 rfl J rfl 4738 ⟨rfl, rfl⟩ rfl ?_
    refine x_iloadn (x := a1) rfl rfl ?_
    refine x_aloadn (x := 37) rfl rfl ?_
    refine z_getC (N := 4) (v := 2) 8 0 rfl f_8_19 rfl J rfl sg_37_0_1_1_0_1 jk_2 ?_
    refine z_imul rfl rfl jk_2 (by omega) (fun v3 ev3 => ?_)
    refine x_iloadn (x := 1) rfl rfl ?_
    refine z_iadd rfl rfl jk_1 (by omega) (fun v4 ev4 => ?_)
    refine z_iald (N := 120) rfl J rfl sg_38_0_120_2_1_2 rfl (by omega) (fun v5 qv5 ev5 => ?_)
    refine x_iret rfl rfl ?_
    exact hQ _ _ (jr_of rfl (by omega)) J Sm
def fp_X7_areApart_r78 : jFp := []
set_option maxRecDepth 100000 in
set_option maxHeartbeats 4000000 in
theorem ct_X7_areApart_r78_70 {Dy : jH → Prop} {h0 : jH} {Q : Option Value → jH → Prop} {R2 : Int} (hD : jDk Dy) (hQ : ∀ (v : Int32) hx9, 0 ≤ v.toInt ∧ v.toInt ≤ 1 → jJ jSgX Dy hx9 → jSm fp_X7_areApart_r78 h0 hx9 → Q (some (.int v)) hx9) (k2 : ∀ (l1 : Int32) (l2 : Int32) (l3 : Int32) (h : jH), 60 - l3.toInt < R2 → 0 ≤ l1.toInt ∧ l1.toInt ≤ 599 → 0 ≤ l2.toInt ∧ l2.toInt ≤ 599 → 0 ≤ l3.toInt ∧ l3.toInt ≤ 60 → jJ jSgX Dy h → jSm fp_X7_areApart_r78 h0 h → jX m_X7_areApart 2 0 0 2 [(0, .ref 78), (1, .int l1), (2, .int l2), (3, .int l3)] [] h 0 0 Q) : ∀ (l1 : Int32) (l2 : Int32) (l3 : Int32) (h : jH), 0 ≤ l1.toInt ∧ l1.toInt ≤ 599 → 0 ≤ l2.toInt ∧ l2.toInt ≤ 599 → 0 ≤ l3.toInt ∧ l3.toInt ≤ 59 → 60 - l3.toInt ≤ R2 → jJ jSgX Dy h → jSm fp_X7_areApart_r78 h0 h → jX m_X7_areApart 2 0 0 70 [(0, .ref 78), (1, .int l1), (2, .int l2), (3, .int l3)] [] h 0 0 Q := by
  intro l1 l2 l3 h y0 y1 y2  m2 J Sm
  refine z_iinc (x := l3) (lsx9 := fun v1 => [(3, .int v1), (0, .ref 78), (1, .int l1), (2, .int l2)]) rfl rfl rfl jko_1 (by omega) rfl (fun _ => rfl) (fun v1 ev1 => ?_)
  refine x_goto (tgt := 2) rfl rfl ?_
  exact jX.sub (jsb_c rfl (jsb_c rfl (jsb_c rfl (jsb_c rfl jsb_n)))) (k2 l1 l2 v1 h (by omega) (jr_of rfl (by omega)) (jr_of rfl (by omega)) (jr_of rfl (by omega)) J Sm)
set_option maxRecDepth 100000 in
set_option maxHeartbeats 4000000 in
theorem ct_X7_areApart_r78_68 {Dy : jH → Prop} {h0 : jH} {Q : Option Value → jH → Prop} (hD : jDk Dy) (hQ : ∀ (v : Int32) hx9, 0 ≤ v.toInt ∧ v.toInt ≤ 1 → jJ jSgX Dy hx9 → jSm fp_X7_areApart_r78 h0 hx9 → Q (some (.int v)) hx9) : ∀ (h : jH), jJ jSgX Dy h → jSm fp_X7_areApart_r78 h0 h → jX m_X7_areApart 2 0 0 68 [] [] h 0 0 Q := by
  intro  h    J Sm
  refine x_iconst (v := 1) rfl ki_1 ?_
  refine x_zret rfl rfl (by decide) ?_
  exact hQ _ _ (jr_of jk_1 (by omega)) J Sm
set_option maxRecDepth 100000 in
set_option maxHeartbeats 4000000 in
theorem ct_X7_areApart_r78_56 {Dy : jH → Prop} {h0 : jH} {Q : Option Value → jH → Prop} {R2 : Int} (hD : jDk Dy) (hQ : ∀ (v : Int32) hx9, 0 ≤ v.toInt ∧ v.toInt ≤ 1 → jJ jSgX Dy hx9 → jSm fp_X7_areApart_r78 h0 hx9 → Q (some (.int v)) hx9) (k2 : ∀ (l1 : Int32) (l2 : Int32) (l3 : Int32) (h : jH), 60 - l3.toInt < R2 → 0 ≤ l1.toInt ∧ l1.toInt ≤ 599 → 0 ≤ l2.toInt ∧ l2.toInt ≤ 599 → 0 ≤ l3.toInt ∧ l3.toInt ≤ 60 → jJ jSgX Dy h → jSm fp_X7_areApart_r78 h0 h → jX m_X7_areApart 2 0 0 2 [(0, .ref 78), (1, .int l1), (2, .int l2), (3, .int l3)] [] h 0 0 Q) : ∀ (l1 : Int32) (l2 : Int32) (l3 : Int32) (l4 : Int32) (l5 : Int32) (h : jH), 0 ≤ l1.toInt ∧ l1.toInt ≤ 599 → 0 ≤ l2.toInt ∧ l2.toInt ≤ 599 → 0 ≤ l3.toInt ∧ l3.toInt ≤ 59 → 0 ≤ l4.toInt ∧ l4.toInt ≤ 599 → 0 ≤ l5.toInt ∧ l5.toInt ≤ 599 → 60 - l3.toInt ≤ R2 → jJ jSgX Dy h → jSm fp_X7_areApart_r78 h0 h → jX m_X7_areApart 2 0 0 56 [(0, .ref 78), (1, .int l1), (2, .int l2), (3, .int l3), (4, .int l4), (5, .int l5)] [] h 0 0 Q := by
  intro l1 l2 l3 l4 l5 h y0 y1 y2 y3 y4  m2 J Sm
  refine x_iload (x := l4) rfl rfl ?_
  refine x_iloadn (x := l2) rfl rfl ?_
  refine x_icne (tgt := 70) rfl rfl (ti_ne rfl rfl ⟨fun c1 => ?_, fun c1 => ?_⟩)
  ·
    exact jX.sub (jsb_c rfl (jsb_c rfl (jsb_c rfl (jsb_c rfl jsb_n)))) (ct_X7_areApart_r78_70 hD hQ k2 l1 l2 l3 h (jr_of rfl (by omega)) (jr_of rfl (by omega)) (jr_of rfl (by omega)) (by omega) J Sm)
  ·
    refine x_iload (x := l5) rfl rfl ?_
    refine x_iloadn (x := l1) rfl rfl ?_
    refine x_icne (tgt := 70) rfl rfl (ti_ne rfl rfl ⟨fun c2 => ?_, fun c2 => ?_⟩)
    ·
      exact jX.sub (jsb_c rfl (jsb_c rfl (jsb_c rfl (jsb_c rfl jsb_n)))) (ct_X7_areApart_r78_70 hD hQ k2 l1 l2 l3 h (jr_of rfl (by omega)) (jr_of rfl (by omega)) (jr_of rfl (by omega)) (by omega) J Sm)
    ·
      exact jX.sub jsb_n (ct_X7_areApart_r78_68 hD hQ  h J Sm)
set_option maxRecDepth 100000 in
set_option maxHeartbeats 4000000 in
theorem ct_X7_areApart_r78_2 {Dy : jH → Prop} {h0 : jH} {Q : Option Value → jH → Prop} (hD : jDk Dy) (hQ : ∀ (v : Int32) hx9, 0 ≤ v.toInt ∧ v.toInt ≤ 1 → jJ jSgX Dy hx9 → jSm fp_X7_areApart_r78 h0 hx9 → Q (some (.int v)) hx9) : ∀ r : Nat, ∀ (l1 : Int32) (l2 : Int32) (l3 : Int32) (h : jH), 60 - l3.toInt < (r : Int) → 0 ≤ l1.toInt ∧ l1.toInt ≤ 599 → 0 ≤ l2.toInt ∧ l2.toInt ≤ 599 → 0 ≤ l3.toInt ∧ l3.toInt ≤ 60 → jJ jSgX Dy h → jSm fp_X7_areApart_r78 h0 h → jX m_X7_areApart 2 0 0 2 [(0, .ref 78), (1, .int l1), (2, .int l2), (3, .int l3)] [] h 0 0 Q := by
  intro r
  induction r with
  | zero =>
    intro l1 l2 l3 h hm y0 y1 y2   J Sm
    exfalso
    omega
  | succ r ih =>
    intro l1 l2 l3 h hm y0 y1 y2   J Sm
    refine x_iloadn (x := l3) rfl rfl ?_
    refine x_aloadn (x := 78) rfl rfl ?_
    refine z_getR (N := 16) (b := 32) 7 0 rfl f_7_55 rfl J rfl 9984 ⟨rfl, rfl⟩ rfl ?_
    refine z_getR (N := 20) (b := 37) 1 2 rfl f_7_113 rfl J rfl 4098 ⟨rfl, rfl⟩ rfl ?_
    refine z_getI (N := 4) 8 3 rfl f_7_85 rfl J rfl sg_37_3_4_1_0_1 (fun v1 qv1 ev1 => ?_)
    refine x_icge (tgt := 76) rfl rfl (ti_ge rfl rfl ⟨fun c2 => ?_, fun c2 => ?_⟩)
    ·
      refine x_iconst (v := 0) rfl ki_0 ?_
      refine x_zret rfl rfl (by decide) ?_
      exact hQ _ _ (jr_of jk_0 (by omega)) J Sm
    ·
      refine x_aloadn (x := 78) rfl rfl ?_
      refine z_getR (N := 16) (b := 32) 7 0 rfl f_7_55 rfl J rfl 9984 ⟨rfl, rfl⟩ rfl ?_
      refine z_getR (N := 20) (b := 37) 1 2 rfl f_7_113 rfl J rfl 4098 ⟨rfl, rfl⟩ rfl ?_
      refine x_iloadn (x := l3) rfl rfl ?_
      refine x_iconst (v := 0) rfl ki_0 ?_
      refine x_inv (N := m_X8_at) (As := [.int l3, .int 0]) (b := 37) (st := []) (dx9 := 1) (mc := 0) (ms := 0) (host := "") 8 rfl t_X8_at ⟨Or.inl q_7_69, i_X8_at.1, i_X8_at.2⟩ ⟨by decide, rfl⟩ (congrArg Prod.fst (J.1.1 37 (8, 4) rfl)) rfl (by decide) rfl rfl ⟨by decide, by decide⟩ (sf_X8_at_r37_c0 (jr_of rfl (by omega)) hD J  (fun v4 h ev4 J S3 => ?_))
      have Sm := jSm_tr rfl Sm S3
      show jX m_X7_areApart 2 0 0 28 [(0, .ref 78), (1, .int l1), (2, .int l2), (3, .int l3)] [.int v4] _ 0 0 _
      refine x_istore (lsx9 := [(4, .int v4), (0, .ref 78), (1, .int l1), (2, .int l2), (3, .int l3)]) rfl rfl rfl ?_
      refine x_aloadn (x := 78) rfl rfl ?_
      refine z_getR (N := 16) (b := 32) 7 0 rfl f_7_55 rfl J rfl 9984 ⟨rfl, rfl⟩ rfl ?_
      refine z_getR (N := 20) (b := 37) 1 2 rfl f_7_113 rfl J rfl 4098 ⟨rfl, rfl⟩ rfl ?_
      refine x_iloadn (x := l3) rfl rfl ?_
      refine x_iconst (v := 1) rfl ki_1 ?_
      refine x_inv (N := m_X8_at) (As := [.int l3, .int 1]) (b := 37) (st := []) (dx9 := 1) (mc := 0) (ms := 0) (host := "") 8 rfl t_X8_at ⟨Or.inl q_7_69, i_X8_at.1, i_X8_at.2⟩ ⟨by decide, rfl⟩ (congrArg Prod.fst (J.1.1 37 (8, 4) rfl)) rfl (by decide) rfl rfl ⟨by decide, by decide⟩ (sf_X8_at_r37_c1 (jr_of rfl (by omega)) hD J  (fun v6 h ev6 J S5 => ?_))
      have Sm := jSm_tr rfl Sm S5
      show jX m_X7_areApart 2 0 0 42 [(4, .int v4), (0, .ref 78), (1, .int l1), (2, .int l2), (3, .int l3)] [.int v6] _ 0 0 _
      refine x_istore (lsx9 := [(5, .int v6), (4, .int v4), (0, .ref 78), (1, .int l1), (2, .int l2), (3, .int l3)]) rfl rfl rfl ?_
      refine x_iload (x := v4) rfl rfl ?_
      refine x_iloadn (x := l1) rfl rfl ?_
      refine x_icne (tgt := 56) rfl rfl (ti_ne rfl rfl ⟨fun c7 => ?_, fun c7 => ?_⟩)
      ·
        exact jX.sub (jsb_c rfl (jsb_c rfl (jsb_c rfl (jsb_c rfl (jsb_c rfl (jsb_c rfl jsb_n)))))) (ct_X7_areApart_r78_56 hD hQ ih l1 l2 l3 v4 v6 h (jr_of rfl (by omega)) (jr_of rfl (by omega)) (jr_of rfl (by omega)) (jr_of rfl (by omega)) (jr_of rfl (by omega)) (by omega) J Sm)
      ·
        refine x_iload (x := v6) rfl rfl ?_
        refine x_iloadn (x := l2) rfl rfl ?_
        refine x_iceq (tgt := 68) rfl rfl (ti_eq rfl rfl ⟨fun c8 => ?_, fun c8 => ?_⟩)
        ·
          exact jX.sub jsb_n (ct_X7_areApart_r78_68 hD hQ  h J Sm)
        ·
          exact jX.sub (jsb_c rfl (jsb_c rfl (jsb_c rfl (jsb_c rfl (jsb_c rfl (jsb_c rfl jsb_n)))))) (ct_X7_areApart_r78_56 hD hQ ih l1 l2 l3 v4 v6 h (jr_of rfl (by omega)) (jr_of rfl (by omega)) (jr_of rfl (by omega)) (jr_of rfl (by omega)) (jr_of rfl (by omega)) (by omega) J Sm)
set_option maxRecDepth 100000 in
set_option maxHeartbeats 4000000 in
theorem sf_X7_areApart_r78 {Dy : jH → Prop} {h : jH} {Q : Option Value → jH → Prop} {a1 : Int32} {a2 : Int32} (y1 : 0 ≤ a1.toInt ∧ a1.toInt ≤ 599) (y2 : 0 ≤ a2.toInt ∧ a2.toInt ≤ 599) (hD : jDk Dy) (J : jJ jSgX Dy h) (hQ : ∀ (v : Int32) hx9, 0 ≤ v.toInt ∧ v.toInt ≤ 1 → jJ jSgX Dy hx9 → jSm fp_X7_areApart_r78 h hx9 → Q (some (.int v)) hx9) : jC m_X7_areApart 2 0 0 [.ref 78, .int a1, .int a2] h Q := by
  refine jC.of rfl k_X7_areApart rfl ?_
  have Sm := jSm_rf fp_X7_areApart_r78 h
  show jX m_X7_areApart 2 0 0 0 [(0, .ref 78), (1, .int a1), (2, .int a2)] [] _ 0 0 _
  refine x_iconst (v := 0) rfl ki_0 ?_
  refine x_istoren (lsx9 := [(3, .int 0), (0, .ref 78), (1, .int a1), (2, .int a2)]) rfl rfl rfl ?_
  exact jX.sub (jsb_c rfl (jsb_c rfl (jsb_c rfl (jsb_c rfl jsb_n)))) (ct_X7_areApart_r78_2 hD hQ  61 a1 a2 0 h (by have := jk_0; omega) (jr_of rfl (by omega)) (jr_of rfl (by omega)) (jr_of jk_0 (by omega)) J Sm)
def fp_X7_isOutOfLife_r78 : jFp := []
set_option maxRecDepth 100000 in
set_option maxHeartbeats 4000000 in
theorem ct_X7_isOutOfLife_r78_200113 {Dy : jH → Prop} {h0 : jH} {Q : Option Value → jH → Prop} (hD : jDk Dy) (hQ : ∀ (v : Int32) hx9, 0 ≤ v.toInt ∧ v.toInt ≤ 1 → jJ jSgX Dy hx9 → jSm fp_X7_isOutOfLife_r78 h0 hx9 → Q (some (.int v)) hx9) : ∀ (h : jH), jJ jSgX Dy h → jSm fp_X7_isOutOfLife_r78 h0 h → jX m_X7_isOutOfLife 2 0 0 113 [] [.int 0] h 0 0 Q := by
  intro  h    J Sm
  refine x_zret rfl rfl (by decide) ?_
  exact hQ _ _ (jr_of jk_0 (by omega)) J Sm
set_option maxRecDepth 100000 in
set_option maxHeartbeats 4000000 in
theorem ct_X7_isOutOfLife_r78_300113 {Dy : jH → Prop} {h0 : jH} {Q : Option Value → jH → Prop} (hD : jDk Dy) (hQ : ∀ (v : Int32) hx9, 0 ≤ v.toInt ∧ v.toInt ≤ 1 → jJ jSgX Dy hx9 → jSm fp_X7_isOutOfLife_r78 h0 hx9 → Q (some (.int v)) hx9) : ∀ (h : jH), jJ jSgX Dy h → jSm fp_X7_isOutOfLife_r78 h0 h → jX m_X7_isOutOfLife 2 0 0 113 [] [.int 1] h 0 0 Q := by
  intro  h    J Sm
  refine x_zret rfl rfl (by decide) ?_
  exact hQ _ _ (jr_of jk_1 (by omega)) J Sm
set_option maxRecDepth 100000 in
set_option maxHeartbeats 4000000 in
theorem ct_X7_isOutOfLife_r78_112 {Dy : jH → Prop} {h0 : jH} {Q : Option Value → jH → Prop} (hD : jDk Dy) (hQ : ∀ (v : Int32) hx9, 0 ≤ v.toInt ∧ v.toInt ≤ 1 → jJ jSgX Dy hx9 → jSm fp_X7_isOutOfLife_r78 h0 hx9 → Q (some (.int v)) hx9) : ∀ (h : jH), jJ jSgX Dy h → jSm fp_X7_isOutOfLife_r78 h0 h → jX m_X7_isOutOfLife 2 0 0 112 [] [] h 0 0 Q := by
  intro  h    J Sm
  refine x_iconst (v := 0) rfl ki_0 ?_
  exact jX.sub jsb_n (ct_X7_isOutOfLife_r78_200113 hD hQ  h J Sm)
set_option maxRecDepth 100000 in
set_option maxHeartbeats 4000000 in
theorem ct_X7_isOutOfLife_r78_200105 {Dy : jH → Prop} {h0 : jH} {Q : Option Value → jH → Prop} (hD : jDk Dy) (hQ : ∀ (v : Int32) hx9, 0 ≤ v.toInt ∧ v.toInt ≤ 1 → jJ jSgX Dy hx9 → jSm fp_X7_isOutOfLife_r78 h0 hx9 → Q (some (.int v)) hx9) : ∀ (s1 : Int32) (h : jH), (-146399) ≤ s1.toInt ∧ s1.toInt ≤ 146399 → jJ jSgX Dy h → jSm fp_X7_isOutOfLife_r78 h0 h → jX m_X7_isOutOfLife 2 0 0 105 [] [.int 0, .int s1] h 0 0 Q := by
  intro s1 h y0   J Sm
  refine x_icle (tgt := 112) rfl rfl (ti_le rfl jk_0 ⟨fun c1 => ?_, fun c1 => ?_⟩)
  ·
    exact jX.sub jsb_n (ct_X7_isOutOfLife_r78_112 hD hQ  h J Sm)
  ·
    refine x_iconst (v := 1) rfl ki_1 ?_
    refine x_goto (tgt := 113) rfl rfl ?_
    exact jX.sub jsb_n (ct_X7_isOutOfLife_r78_300113 hD hQ  h J Sm)
set_option maxRecDepth 100000 in
set_option maxHeartbeats 4000000 in
theorem ct_X7_isOutOfLife_r78_105 {Dy : jH → Prop} {h0 : jH} {Q : Option Value → jH → Prop} (hD : jDk Dy) (hQ : ∀ (v : Int32) hx9, 0 ≤ v.toInt ∧ v.toInt ≤ 1 → jJ jSgX Dy hx9 → jSm fp_X7_isOutOfLife_r78 h0 hx9 → Q (some (.int v)) hx9) : ∀ (s1 : Int32) (h : jH), (-146399) ≤ s1.toInt ∧ s1.toInt ≤ 146399 → jJ jSgX Dy h → jSm fp_X7_isOutOfLife_r78 h0 h → jX m_X7_isOutOfLife 2 0 0 105 [] [.int 366, .int s1] h 0 0 Q := by
  intro s1 h y0   J Sm
  refine x_icle (tgt := 112) rfl rfl (ti_le rfl jk_366 ⟨fun c1 => ?_, fun c1 => ?_⟩)
  ·
    exact jX.sub jsb_n (ct_X7_isOutOfLife_r78_112 hD hQ  h J Sm)
  ·
    refine x_iconst (v := 1) rfl ki_1 ?_
    refine x_goto (tgt := 113) rfl rfl ?_
    exact jX.sub jsb_n (ct_X7_isOutOfLife_r78_300113 hD hQ  h J Sm)
set_option maxRecDepth 100000 in
set_option maxHeartbeats 4000000 in
theorem ct_X7_isOutOfLife_r78_200076 {Dy : jH → Prop} {h0 : jH} {Q : Option Value → jH → Prop} (hD : jDk Dy) (hQ : ∀ (v : Int32) hx9, 0 ≤ v.toInt ∧ v.toInt ≤ 1 → jJ jSgX Dy hx9 → jSm fp_X7_isOutOfLife_r78 h0 hx9 → Q (some (.int v)) hx9) : ∀ (h : jH), jJ jSgX Dy h → jSm fp_X7_isOutOfLife_r78 h0 h → jX m_X7_isOutOfLife 2 0 0 76 [] [.int 0] h 0 0 Q := by
  intro  h    J Sm
  refine x_zret rfl rfl (by decide) ?_
  exact hQ _ _ (jr_of jk_0 (by omega)) J Sm
set_option maxRecDepth 100000 in
set_option maxHeartbeats 4000000 in
theorem ct_X7_isOutOfLife_r78_300076 {Dy : jH → Prop} {h0 : jH} {Q : Option Value → jH → Prop} (hD : jDk Dy) (hQ : ∀ (v : Int32) hx9, 0 ≤ v.toInt ∧ v.toInt ≤ 1 → jJ jSgX Dy hx9 → jSm fp_X7_isOutOfLife_r78 h0 hx9 → Q (some (.int v)) hx9) : ∀ (h : jH), jJ jSgX Dy h → jSm fp_X7_isOutOfLife_r78 h0 h → jX m_X7_isOutOfLife 2 0 0 76 [] [.int 1] h 0 0 Q := by
  intro  h    J Sm
  refine x_zret rfl rfl (by decide) ?_
  exact hQ _ _ (jr_of jk_1 (by omega)) J Sm
set_option maxRecDepth 100000 in
set_option maxHeartbeats 4000000 in
theorem ct_X7_isOutOfLife_r78_71 {Dy : jH → Prop} {h0 : jH} {Q : Option Value → jH → Prop} (hD : jDk Dy) (hQ : ∀ (v : Int32) hx9, 0 ≤ v.toInt ∧ v.toInt ≤ 1 → jJ jSgX Dy hx9 → jSm fp_X7_isOutOfLife_r78 h0 hx9 → Q (some (.int v)) hx9) : ∀ (h : jH), jJ jSgX Dy h → jSm fp_X7_isOutOfLife_r78 h0 h → jX m_X7_isOutOfLife 2 0 0 71 [] [] h 0 0 Q := by
  intro  h    J Sm
  refine x_iconst (v := 1) rfl ki_1 ?_
  refine x_goto (tgt := 76) rfl rfl ?_
  exact jX.sub jsb_n (ct_X7_isOutOfLife_r78_300076 hD hQ  h J Sm)
set_option maxRecDepth 100000 in
set_option maxHeartbeats 4000000 in
theorem ct_X7_isOutOfLife_r78_75 {Dy : jH → Prop} {h0 : jH} {Q : Option Value → jH → Prop} (hD : jDk Dy) (hQ : ∀ (v : Int32) hx9, 0 ≤ v.toInt ∧ v.toInt ≤ 1 → jJ jSgX Dy hx9 → jSm fp_X7_isOutOfLife_r78 h0 hx9 → Q (some (.int v)) hx9) : ∀ (h : jH), jJ jSgX Dy h → jSm fp_X7_isOutOfLife_r78 h0 h → jX m_X7_isOutOfLife 2 0 0 75 [] [] h 0 0 Q := by
  intro  h    J Sm
  refine x_iconst (v := 0) rfl ki_0 ?_
  exact jX.sub jsb_n (ct_X7_isOutOfLife_r78_200076 hD hQ  h J Sm)
set_option maxRecDepth 100000 in
set_option maxHeartbeats 4000000 in
theorem ct_X7_isOutOfLife_r78_200046 {Dy : jH → Prop} {h0 : jH} {Q : Option Value → jH → Prop} (hD : jDk Dy) (hQ : ∀ (v : Int32) hx9, 0 ≤ v.toInt ∧ v.toInt ≤ 1 → jJ jSgX Dy hx9 → jSm fp_X7_isOutOfLife_r78 h0 hx9 → Q (some (.int v)) hx9) : ∀ (l2 : Int32) (l3 : Int32) (h : jH), 0 ≤ l2.toInt ∧ l2.toInt ≤ 599 → (-146399) ≤ l3.toInt ∧ l3.toInt ≤ 146399 → jJ jSgX Dy h → jSm fp_X7_isOutOfLife_r78 h0 h → jX m_X7_isOutOfLife 2 0 0 46 [(0, .ref 78), (2, .int l2), (3, .int l3)] [.int 0] h 0 0 Q := by
  intro l2 l3 h y0 y1   J Sm
  refine x_istore (lsx9 := [(4, .int 0), (0, .ref 78), (2, .int l2), (3, .int l3)]) rfl rfl rfl ?_
  refine x_iloadn (x := l3) rfl rfl ?_
  refine x_iload (x := 0) rfl rfl ?_
  refine x_iclt (tgt := 71) rfl rfl (ti_lt rfl jk_0 ⟨fun c1 => ?_, fun c1 => ?_⟩)
  ·
    exact jX.sub jsb_n (ct_X7_isOutOfLife_r78_71 hD hQ  h J Sm)
  ·
    refine x_aloadn (x := 78) rfl rfl ?_
    refine z_getR (N := 16) (b := 79) 7 7 rfl f_7_27 rfl J rfl 9991 ⟨rfl, rfl⟩ rfl ?_
    refine x_iloadn (x := l2) rfl rfl ?_
    refine z_iald (N := 600) rfl J rfl sg_79_0_600_1_0_1 rfl (by omega) (fun v2 qv2 ev2 => ?_)
    refine x_iconst (v := 2) rfl ki_2 ?_
    refine x_icne (tgt := 75) rfl rfl (ti_ne rfl jk_2 ⟨fun c3 => ?_, fun c3 => ?_⟩)
    ·
      exact jX.sub jsb_n (ct_X7_isOutOfLife_r78_75 hD hQ  h J Sm)
    ·
      refine x_iloadn (x := l3) rfl rfl ?_
      refine x_sipush (v := 18300) rfl ks_18300 ?_
      refine x_icle (tgt := 75) rfl rfl (ti_le rfl jk_18300 ⟨fun c4 => ?_, fun c4 => ?_⟩)
      ·
        exact jX.sub jsb_n (ct_X7_isOutOfLife_r78_75 hD hQ  h J Sm)
      ·
        exact jX.sub jsb_n (ct_X7_isOutOfLife_r78_71 hD hQ  h J Sm)
set_option maxRecDepth 100000 in
set_option maxHeartbeats 4000000 in
theorem ct_X7_isOutOfLife_r78_46 {Dy : jH → Prop} {h0 : jH} {Q : Option Value → jH → Prop} (hD : jDk Dy) (hQ : ∀ (v : Int32) hx9, 0 ≤ v.toInt ∧ v.toInt ≤ 1 → jJ jSgX Dy hx9 → jSm fp_X7_isOutOfLife_r78 h0 hx9 → Q (some (.int v)) hx9) : ∀ (l2 : Int32) (l3 : Int32) (h : jH), 0 ≤ l2.toInt ∧ l2.toInt ≤ 599 → (-146399) ≤ l3.toInt ∧ l3.toInt ≤ 146399 → jJ jSgX Dy h → jSm fp_X7_isOutOfLife_r78 h0 h → jX m_X7_isOutOfLife 2 0 0 46 [(0, .ref 78), (2, .int l2), (3, .int l3)] [.int 5124] h 0 0 Q := by
  intro l2 l3 h y0 y1   J Sm
  refine x_istore (lsx9 := [(4, .int 5124), (0, .ref 78), (2, .int l2), (3, .int l3)]) rfl rfl rfl ?_
  refine x_iloadn (x := l3) rfl rfl ?_
  refine x_iload (x := 5124) rfl rfl ?_
  refine x_iclt (tgt := 71) rfl rfl (ti_lt rfl jk_5124 ⟨fun c1 => ?_, fun c1 => ?_⟩)
  ·
    exact jX.sub jsb_n (ct_X7_isOutOfLife_r78_71 hD hQ  h J Sm)
  ·
    refine x_aloadn (x := 78) rfl rfl ?_
    refine z_getR (N := 16) (b := 79) 7 7 rfl f_7_27 rfl J rfl 9991 ⟨rfl, rfl⟩ rfl ?_
    refine x_iloadn (x := l2) rfl rfl ?_
    refine z_iald (N := 600) rfl J rfl sg_79_0_600_1_0_1 rfl (by omega) (fun v2 qv2 ev2 => ?_)
    refine x_iconst (v := 2) rfl ki_2 ?_
    refine x_icne (tgt := 75) rfl rfl (ti_ne rfl jk_2 ⟨fun c3 => ?_, fun c3 => ?_⟩)
    ·
      exact jX.sub jsb_n (ct_X7_isOutOfLife_r78_75 hD hQ  h J Sm)
    ·
      refine x_iloadn (x := l3) rfl rfl ?_
      refine x_sipush (v := 18300) rfl ks_18300 ?_
      refine x_icle (tgt := 75) rfl rfl (ti_le rfl jk_18300 ⟨fun c4 => ?_, fun c4 => ?_⟩)
      ·
        exact jX.sub jsb_n (ct_X7_isOutOfLife_r78_75 hD hQ  h J Sm)
      ·
        exact jX.sub jsb_n (ct_X7_isOutOfLife_r78_71 hD hQ  h J Sm)
set_option maxRecDepth 100000 in
set_option maxHeartbeats 4000000 in
theorem ct_X7_isOutOfLife_r78_39 {Dy : jH → Prop} {h0 : jH} {Q : Option Value → jH → Prop} (hD : jDk Dy) (hQ : ∀ (v : Int32) hx9, 0 ≤ v.toInt ∧ v.toInt ≤ 1 → jJ jSgX Dy hx9 → jSm fp_X7_isOutOfLife_r78 h0 hx9 → Q (some (.int v)) hx9) : ∀ (l2 : Int32) (l3 : Int32) (h : jH), 0 ≤ l2.toInt ∧ l2.toInt ≤ 599 → (-146399) ≤ l3.toInt ∧ l3.toInt ≤ 146399 → jJ jSgX Dy h → jSm fp_X7_isOutOfLife_r78 h0 h → jX m_X7_isOutOfLife 2 0 0 39 [(0, .ref 78), (2, .int l2), (3, .int l3)] [] h 0 0 Q := by
  intro l2 l3 h y0 y1   J Sm
  refine x_sipush (v := 5124) rfl ks_5124 ?_
  refine x_goto (tgt := 46) rfl rfl ?_
  exact jX.sub (jsb_c rfl (jsb_c rfl (jsb_c rfl jsb_n))) (ct_X7_isOutOfLife_r78_46 hD hQ  l2 l3 h (jr_of rfl (by omega)) (jr_of rfl (by omega)) J Sm)
set_option maxRecDepth 100000 in
set_option maxHeartbeats 4000000 in
theorem sf_X7_isOutOfLife_r78 {Dy : jH → Prop} {h : jH} {Q : Option Value → jH → Prop} {a1 : Int32} {a2 : Int32} (y1 : 0 ≤ a1.toInt ∧ a1.toInt ≤ 599) (y2 : 0 ≤ a2.toInt ∧ a2.toInt ≤ 599) (hD : jDk Dy) (J : jJ jSgX Dy h) (hQ : ∀ (v : Int32) hx9, 0 ≤ v.toInt ∧ v.toInt ≤ 1 → jJ jSgX Dy hx9 → jSm fp_X7_isOutOfLife_r78 h hx9 → Q (some (.int v)) hx9) : jC m_X7_isOutOfLife 2 0 0 [.ref 78, .int a1, .int a2] h Q := by
  refine jC.of rfl k_X7_isOutOfLife rfl ?_
  have Sm := jSm_rf fp_X7_isOutOfLife_r78 h
  show jX m_X7_isOutOfLife 2 0 0 0 [(0, .ref 78), (1, .int a1), (2, .int a2)] [] _ 0 0 _
  refine x_aloadn (x := 78) rfl rfl ?_
  refine z_getR (N := 16) (b := 80) 7 8 rfl f_7_31 rfl J rfl 9992 ⟨rfl, rfl⟩ rfl ?_
  refine x_iloadn (x := a2) rfl rfl ?_
  refine z_iald (N := 600) rfl J rfl sg_80_0_600_1_0_1 rfl (by omega) (fun v1 qv1 ev1 => ?_)
  refine x_aloadn (x := 78) rfl rfl ?_
  refine z_getR (N := 16) (b := 80) 7 8 rfl f_7_31 rfl J rfl 9992 ⟨rfl, rfl⟩ rfl ?_
  refine x_iloadn (x := a1) rfl rfl ?_
  refine z_iald (N := 600) rfl J rfl sg_80_0_600_1_0_1 rfl (by omega) (fun v2 qv2 ev2 => ?_)
  refine z_isub rfl rfl rfl (by omega) (fun v3 ev3 => ?_)
  refine x_istoren (lsx9 := [(3, .int v3), (0, .ref 78), (1, .int a1), (2, .int a2)]) rfl rfl rfl ?_
  refine x_aloadn (x := 78) rfl rfl ?_
  refine z_getR (N := 16) (b := 79) 7 7 rfl f_7_27 rfl J rfl 9991 ⟨rfl, rfl⟩ rfl ?_
  refine x_iloadn (x := a1) rfl rfl ?_
  refine z_iald (N := 600) rfl J rfl sg_79_0_600_1_0_1 rfl (by omega) (fun v4 qv4 ev4 => ?_)
  refine x_ifne (tgt := 77) rfl rfl (ti_ne rfl jk_0 ⟨fun c5 => ?_, fun c5 => ?_⟩)
  ·
    refine x_aloadn (x := 78) rfl rfl ?_
    refine z_getR (N := 16) (b := 79) 7 7 rfl f_7_27 rfl J rfl 9991 ⟨rfl, rfl⟩ rfl ?_
    refine x_iloadn (x := a1) rfl rfl ?_
    refine z_ialdM (N := 600) (v := v4) rfl J rfl rfl (by omega) qv4 ?_
    refine x_iconst (v := 5) rfl ki_5 ?_
    refine x_icne (tgt := 112) rfl rfl (ti_ne rfl jk_5 ⟨fun c6 => ?_, fun c6 => ?_⟩)
    ·
      exact jX.sub jsb_n (ct_X7_isOutOfLife_r78_112 hD hQ  h J Sm)
    ·
      refine x_iloadn (x := v3) rfl rfl ?_
      refine x_aloadn (x := 78) rfl rfl ?_
      refine z_getR (N := 16) (b := 79) 7 7 rfl f_7_27 rfl J rfl 9991 ⟨rfl, rfl⟩ rfl ?_
      refine x_iloadn (x := a2) rfl rfl ?_
      refine z_iald (N := 600) rfl J rfl sg_79_0_600_1_0_1 rfl (by omega) (fun v7 qv7 ev7 => ?_)
      refine x_iconst (v := 1) rfl ki_1 ?_
      refine x_icne (tgt := 104) rfl rfl (ti_ne rfl jk_1 ⟨fun c8 => ?_, fun c8 => ?_⟩)
      ·
        refine x_iconst (v := 0) rfl ki_0 ?_
        exact jX.sub jsb_n (ct_X7_isOutOfLife_r78_200105 hD hQ  v3 h (jr_of rfl (by omega)) J Sm)
      ·
        refine x_sipush (v := 366) rfl ks_366 ?_
        refine x_goto (tgt := 105) rfl rfl ?_
        exact jX.sub jsb_n (ct_X7_isOutOfLife_r78_105 hD hQ  v3 h (jr_of rfl (by omega)) J Sm)
  ·
    refine x_aloadn (x := 78) rfl rfl ?_
    refine x_iloadn (x := a2) rfl rfl ?_
    refine x_inv (N := m_X7_isMan) (As := [.int a2]) (b := 78) (st := []) (dx9 := 1) (mc := 0) (ms := 0) (host := "") 7 rfl t_X7_isMan ⟨Or.inl q_7_104, i_X7_isMan.1, i_X7_isMan.2⟩ ⟨by decide, rfl⟩ (congrArg Prod.fst (J.1.1 78 (7, 16) rfl)) rfl (by decide) rfl rfl ⟨by decide, by decide⟩ (jC.of rfl k_X7_isMan rfl ?_)
    show jX m_X7_isMan 1 0 0 0 [(0, .ref 78), (1, .int a2)] [] _ 0 0 _
    refine x_aloadn (x := 78) rfl rfl ?_
    refine z_getR (N := 16) (b := 79) 7 7 rfl f_7_27 rfl J rfl 9991 ⟨rfl, rfl⟩ rfl ?_
    refine x_iloadn (x := a2) rfl rfl ?_
    refine z_iald (N := 600) rfl J rfl sg_79_0_600_1_0_1 rfl (by omega) (fun v9 qv9 ev9 => ?_)
    refine x_iconst (v := 3) rfl ki_3 ?_
    refine x_iceq (tgt := 20) rfl rfl (ti_eq rfl jk_3 ⟨fun c10 => ?_, fun c10 => ?_⟩)
    ·
      refine x_iconst (v := 1) rfl ki_1 ?_
      refine x_goto (tgt := 25) rfl rfl ?_
      refine x_zret rfl rfl (by decide) ?_
      show jX m_X7_isOutOfLife 2 0 0 28 [(3, .int v3), (0, .ref 78), (1, .int a1), (2, .int a2)] [.int 1] _ 0 0 _
      refine x_ifne (tgt := 39) rfl rfl (ti_ne jk_1 jk_0 (bn_t (by omega) ?_))
      exact jX.sub (jsb_c rfl (jsb_c rfl (jsb_c rfl jsb_n))) (ct_X7_isOutOfLife_r78_39 hD hQ  a2 v3 h (jr_of rfl (by omega)) (jr_of rfl (by omega)) J Sm)
    ·
      refine x_aloadn (x := 78) rfl rfl ?_
      refine z_getR (N := 16) (b := 79) 7 7 rfl f_7_27 rfl J rfl 9991 ⟨rfl, rfl⟩ rfl ?_
      refine x_iloadn (x := a2) rfl rfl ?_
      refine z_ialdM (N := 600) (v := v9) rfl J rfl rfl (by omega) qv9 ?_
      refine x_iconst (v := 1) rfl ki_1 ?_
      refine x_icne (tgt := 24) rfl rfl (ti_ne rfl jk_1 ⟨fun c11 => ?_, fun c11 => ?_⟩)
      ·
        refine x_iconst (v := 0) rfl ki_0 ?_
        refine x_zret rfl rfl (by decide) ?_
        show jX m_X7_isOutOfLife 2 0 0 28 [(3, .int v3), (0, .ref 78), (1, .int a1), (2, .int a2)] [.int 0] _ 0 0 _
        refine x_ifne (tgt := 39) rfl rfl (ti_ne jk_0 jk_0 (bn_f (by omega) ?_))
        refine x_aloadn (x := 78) rfl rfl ?_
        refine x_iloadn (x := a2) rfl rfl ?_
        refine x_inv (N := m_X7_isWoman) (As := [.int a2]) (b := 78) (st := []) (dx9 := 1) (mc := 0) (ms := 0) (host := "") 7 rfl t_X7_isWoman ⟨Or.inl q_7_98, i_X7_isWoman.1, i_X7_isWoman.2⟩ ⟨by decide, rfl⟩ (congrArg Prod.fst (J.1.1 78 (7, 16) rfl)) rfl (by decide) rfl rfl ⟨by decide, by decide⟩ (jC.of rfl k_X7_isWoman rfl ?_)
        show jX m_X7_isWoman 1 0 0 0 [(0, .ref 78), (1, .int a2)] [] _ 0 0 _
        refine x_aloadn (x := 78) rfl rfl ?_
        refine z_getR (N := 16) (b := 79) 7 7 rfl f_7_27 rfl J rfl 9991 ⟨rfl, rfl⟩ rfl ?_
        refine x_iloadn (x := a2) rfl rfl ?_
        refine z_ialdM (N := 600) (v := v9) rfl J rfl rfl (by omega) qv9 ?_
        refine x_iconst (v := 4) rfl ki_4 ?_
        refine x_iceq (tgt := 20) rfl rfl (ti_eq rfl jk_4 ⟨fun c12 => ?_, fun c12 => ?_⟩)
        ·
          refine x_iconst (v := 1) rfl ki_1 ?_
          refine x_goto (tgt := 25) rfl rfl ?_
          refine x_zret rfl rfl (by decide) ?_
          show jX m_X7_isOutOfLife 2 0 0 36 [(3, .int v3), (0, .ref 78), (1, .int a1), (2, .int a2)] [.int 1] _ 0 0 _
          refine x_ifeq (tgt := 45) rfl rfl (ti_eq jk_1 jk_0 (br_f (by omega) ?_))
          exact jX.sub (jsb_c rfl (jsb_c rfl (jsb_c rfl jsb_n))) (ct_X7_isOutOfLife_r78_39 hD hQ  a2 v3 h (jr_of rfl (by omega)) (jr_of rfl (by omega)) J Sm)
        ·
          refine x_aloadn (x := 78) rfl rfl ?_
          refine z_getR (N := 16) (b := 79) 7 7 rfl f_7_27 rfl J rfl 9991 ⟨rfl, rfl⟩ rfl ?_
          refine x_iloadn (x := a2) rfl rfl ?_
          refine z_ialdM (N := 600) (v := v9) rfl J rfl rfl (by omega) qv9 ?_
          refine x_iconst (v := 2) rfl ki_2 ?_
          refine x_icne (tgt := 24) rfl rfl (ti_ne rfl jk_2 ⟨fun c13 => ?_, fun c13 => ?_⟩)
          ·
            refine x_iconst (v := 0) rfl ki_0 ?_
            refine x_zret rfl rfl (by decide) ?_
            show jX m_X7_isOutOfLife 2 0 0 36 [(3, .int v3), (0, .ref 78), (1, .int a1), (2, .int a2)] [.int 0] _ 0 0 _
            refine x_ifeq (tgt := 45) rfl rfl (ti_eq jk_0 jk_0 (br_t (by omega) ?_))
            refine x_iconst (v := 0) rfl ki_0 ?_
            exact jX.sub (jsb_c rfl (jsb_c rfl (jsb_c rfl jsb_n))) (ct_X7_isOutOfLife_r78_200046 hD hQ  a2 v3 h (jr_of rfl (by omega)) (jr_of rfl (by omega)) J Sm)
          ·
            refine x_iconst (v := 1) rfl ki_1 ?_
            refine x_goto (tgt := 25) rfl rfl ?_
            refine x_zret rfl rfl (by decide) ?_
            show jX m_X7_isOutOfLife 2 0 0 36 [(3, .int v3), (0, .ref 78), (1, .int a1), (2, .int a2)] [.int 1] _ 0 0 _
            refine x_ifeq (tgt := 45) rfl rfl (ti_eq jk_1 jk_0 (br_f (by omega) ?_))
            exact jX.sub (jsb_c rfl (jsb_c rfl (jsb_c rfl jsb_n))) (ct_X7_isOutOfLife_r78_39 hD hQ  a2 v3 h (jr_of rfl (by omega)) (jr_of rfl (by omega)) J Sm)
      ·
        refine x_iconst (v := 1) rfl ki_1 ?_
        refine x_goto (tgt := 25) rfl rfl ?_
        refine x_zret rfl rfl (by decide) ?_
        show jX m_X7_isOutOfLife 2 0 0 28 [(3, .int v3), (0, .ref 78), (1, .int a1), (2, .int a2)] [.int 1] _ 0 0 _
        refine x_ifne (tgt := 39) rfl rfl (ti_ne jk_1 jk_0 (bn_t (by omega) ?_))
        exact jX.sub (jsb_c rfl (jsb_c rfl (jsb_c rfl jsb_n))) (ct_X7_isOutOfLife_r78_39 hD hQ  a2 v3 h (jr_of rfl (by omega)) (jr_of rfl (by omega)) J Sm)
