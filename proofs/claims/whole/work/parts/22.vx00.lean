def fp_X0_combined : jFp := []
set_option maxRecDepth 100000 in
set_option maxHeartbeats 4000000 in
theorem ct_X0_combined_5000089 {Dy : jH → Prop} {h0 : jH} {Q : Option Value → jH → Prop} {dr : Int} (hD : jDk Dy) (hQ : ∀ (v : Int64) hx9, jJ jSgX Dy hx9 → jSm fp_X0_combined h0 hx9 → dr = v.toInt → vw hx9 = vw h0 → Q (some (.long v)) hx9) : ∀ (h : jH), jJ jSgX Dy h → jSm fp_X0_combined h0 h → d_X0_combined_5000089  (vw h) = dr → vw h = vw h0 → jX m_X0_combine 2 0 0 89 [] [.long (-2000000000000)] h 0 0 Q := by
  intro  h    J Sm D EV
  unfold d_X0_combined_5000089 at D
  refine x_lret rfl rfl ?_
  exact hQ _ _ J Sm (D.symm.trans (show (-2000000000000) = ((-2000000000000) : Int64).toInt from by have := jkl_m2000000000000; omega)) EV
set_option maxRecDepth 100000 in
set_option maxHeartbeats 4000000 in
theorem ct_X0_combined_89 {Dy : jH → Prop} {h0 : jH} {Q : Option Value → jH → Prop} {dr : Int} (hD : jDk Dy) (hQ : ∀ (v : Int64) hx9, jJ jSgX Dy hx9 → jSm fp_X0_combined h0 hx9 → dr = v.toInt → vw hx9 = vw h0 → Q (some (.long v)) hx9) : ∀ (s0 : Int64) (h : jH), jJ jSgX Dy h → jSm fp_X0_combined h0 h → d_X0_combined_89  s0.toInt (vw h) = dr → vw h = vw h0 → jX m_X0_combine 2 0 0 89 [] [.long s0] h 0 0 Q := by
  intro s0 h    J Sm D EV
  have es0 := jfullL s0
  unfold d_X0_combined_89 at D
  refine x_lret rfl rfl ?_
  exact hQ _ _ J Sm (D.symm.trans (show s0.toInt = s0.toInt from by omega)) EV
set_option maxRecDepth 100000 in
set_option maxHeartbeats 4000000 in
theorem ct_X0_combined_86 {Dy : jH → Prop} {h0 : jH} {Q : Option Value → jH → Prop} {dr : Int} (hD : jDk Dy) (hQ : ∀ (v : Int64) hx9, jJ jSgX Dy hx9 → jSm fp_X0_combined h0 hx9 → dr = v.toInt → vw hx9 = vw h0 → Q (some (.long v)) hx9) : ∀ (l1 : Int64) (l3 : Int64) (h : jH), jJ jSgX Dy h → jSm fp_X0_combined h0 h → d_X0_combined_86  l1.toInt l3.toInt (vw h) = dr → vw h = vw h0 → jX m_X0_combine 2 0 0 86 [(1, .long l1), (3, .long l3)] [] h 0 0 Q := by
  intro l1 l3 h    J Sm D EV
  have el1 := jfullL l1
  have el3 := jfullL l3
  unfold d_X0_combined_86 at D
  refine x_lloadn (x := l1) rfl rfl ?_
  refine x_lloadn (x := l3) rfl rfl ?_
  refine z_lmulW rfl rfl rfl (fun v1 ev1 => ?_)
  have fv1 := jfullL v1
  try rw [← ev1] at D
  exact jX.sub jsb_n (ct_X0_combined_89 hD hQ  v1 h J Sm D EV)
set_option maxRecDepth 100000 in
set_option maxHeartbeats 4000000 in
theorem ct_X0_combined_105 {Dy : jH → Prop} {h0 : jH} {Q : Option Value → jH → Prop} {dr : Int} (hD : jDk Dy) (hQ : ∀ (v : Int64) hx9, jJ jSgX Dy hx9 → jSm fp_X0_combined h0 hx9 → dr = v.toInt → vw hx9 = vw h0 → Q (some (.long v)) hx9) : ∀ (s0 : Int64) (h : jH), jJ jSgX Dy h → jSm fp_X0_combined h0 h → d_X0_combined_105  s0.toInt (vw h) = dr → vw h = vw h0 → jX m_X0_combine 2 0 0 105 [] [.long s0] h 0 0 Q := by
  intro s0 h    J Sm D EV
  have es0 := jfullL s0
  unfold d_X0_combined_105 at D
  refine x_lret rfl rfl ?_
  exact hQ _ _ J Sm (D.symm.trans (show s0.toInt = s0.toInt from by omega)) EV
set_option maxRecDepth 100000 in
set_option maxHeartbeats 4000000 in
theorem ct_X0_combined_5000105 {Dy : jH → Prop} {h0 : jH} {Q : Option Value → jH → Prop} {dr : Int} (hD : jDk Dy) (hQ : ∀ (v : Int64) hx9, jJ jSgX Dy hx9 → jSm fp_X0_combined h0 hx9 → dr = v.toInt → vw hx9 = vw h0 → Q (some (.long v)) hx9) : ∀ (h : jH), jJ jSgX Dy h → jSm fp_X0_combined h0 h → d_X0_combined_5000105  (vw h) = dr → vw h = vw h0 → jX m_X0_combine 2 0 0 105 [] [.long (-2000000000000)] h 0 0 Q := by
  intro  h    J Sm D EV
  unfold d_X0_combined_5000105 at D
  refine x_lret rfl rfl ?_
  exact hQ _ _ J Sm (D.symm.trans (show (-2000000000000) = ((-2000000000000) : Int64).toInt from by have := jkl_m2000000000000; omega)) EV
set_option maxRecDepth 100000 in
set_option maxHeartbeats 4000000 in
theorem ct_X0_combined_5000117 {Dy : jH → Prop} {h0 : jH} {Q : Option Value → jH → Prop} {dr : Int} (hD : jDk Dy) (hQ : ∀ (v : Int64) hx9, jJ jSgX Dy hx9 → jSm fp_X0_combined h0 hx9 → dr = v.toInt → vw hx9 = vw h0 → Q (some (.long v)) hx9) : ∀ (s0 : Int64) (h : jH), 0 ≤ s0.toInt ∧ s0.toInt ≤ 1 → jJ jSgX Dy h → jSm fp_X0_combined h0 h → d_X0_combined_5000117  s0.toInt (vw h) = dr → vw h = vw h0 → jX m_X0_combine 2 0 0 117 [] [.long s0] h 0 0 Q := by
  intro s0 h y0   J Sm D EV
  unfold d_X0_combined_5000117 at D
  refine x_lret rfl rfl ?_
  exact hQ _ _ J Sm (D.symm.trans (show s0.toInt = s0.toInt from by omega)) EV
set_option maxRecDepth 100000 in
set_option maxHeartbeats 4000000 in
theorem ct_X0_combined_5000129 {Dy : jH → Prop} {h0 : jH} {Q : Option Value → jH → Prop} {dr : Int} (hD : jDk Dy) (hQ : ∀ (v : Int64) hx9, jJ jSgX Dy hx9 → jSm fp_X0_combined h0 hx9 → dr = v.toInt → vw hx9 = vw h0 → Q (some (.long v)) hx9) : ∀ (s0 : Int64) (h : jH), 0 ≤ s0.toInt ∧ s0.toInt ≤ 1 → jJ jSgX Dy h → jSm fp_X0_combined h0 h → d_X0_combined_5000129  s0.toInt (vw h) = dr → vw h = vw h0 → jX m_X0_combine 2 0 0 129 [] [.long s0] h 0 0 Q := by
  intro s0 h y0   J Sm D EV
  unfold d_X0_combined_5000129 at D
  refine x_lret rfl rfl ?_
  exact hQ _ _ J Sm (D.symm.trans (show s0.toInt = s0.toInt from by omega)) EV
set_option maxRecDepth 100000 in
set_option maxHeartbeats 4000000 in
theorem ct_X0_combined_5000141 {Dy : jH → Prop} {h0 : jH} {Q : Option Value → jH → Prop} {dr : Int} (hD : jDk Dy) (hQ : ∀ (v : Int64) hx9, jJ jSgX Dy hx9 → jSm fp_X0_combined h0 hx9 → dr = v.toInt → vw hx9 = vw h0 → Q (some (.long v)) hx9) : ∀ (s0 : Int64) (h : jH), 0 ≤ s0.toInt ∧ s0.toInt ≤ 1 → jJ jSgX Dy h → jSm fp_X0_combined h0 h → d_X0_combined_5000141  s0.toInt (vw h) = dr → vw h = vw h0 → jX m_X0_combine 2 0 0 141 [] [.long s0] h 0 0 Q := by
  intro s0 h y0   J Sm D EV
  unfold d_X0_combined_5000141 at D
  refine x_lret rfl rfl ?_
  exact hQ _ _ J Sm (D.symm.trans (show s0.toInt = s0.toInt from by omega)) EV
set_option maxRecDepth 100000 in
set_option maxHeartbeats 4000000 in
theorem sf_X0_combined {Dy : jH → Prop} {h : jH} {Q : Option Value → jH → Prop} {dr : Int} {a1 : Int32} {a2 : Int64} {a3 : Int64} (hD : jDk Dy) (J : jJ jSgX Dy h) (D : d_X0_combined a1.toInt a2.toInt a3.toInt (vw h) = dr) (hQ : ∀ (v : Int64) hx9, jJ jSgX Dy hx9 → jSm fp_X0_combined h hx9 → dr = v.toInt → vw hx9 = vw h → Q (some (.long v)) hx9) : jC m_X0_combine 2 0 0 [.int a1, .long a2, .long a3] h Q := by
  refine jC.of rfl k_X0_combine rfl ?_
  have Sm := jSm_rf fp_X0_combined h
  have ea1 := jfull a1
  have ea2 := jfullL a2
  have ea3 := jfullL a3
  show jX m_X0_combine 2 0 0 0 [(0, .int a1), (1, .long a2), (3, .long a3)] [] _ 0 0 _
  unfold d_X0_combined at D
  have EV : vw h = vw h := rfl
  refine x_iloadn (x := a1) rfl rfl ?_
  by_cases c1 : a1.toInt = 3
  ·
    refine x_tableIn (tgt := 44) 3 rfl c1 (by decide) (by decide) rfl rfl ?_
    rw [if_pos c1] at D
    refine x_lloadn (x := a2) rfl rfl ?_
    refine x_lloadn (x := a3) rfl rfl ?_
    refine z_laddW rfl rfl rfl (fun v2 ev2 => ?_)
    have fv2 := jfullL v2
    try rw [← ev2] at D
    refine x_inst (N := m_X0_within) (As := [.long v2]) (st := []) (dx9 := 1) (mc := 0) (ms := 0) (host := "") rfl t_X0_within ⟨Or.inl q_0_206, s_X0_within⟩ rfl (by decide) rfl rfl ⟨by decide, by decide⟩ (jC.of rfl k_X0_within rfl ?_)
    show jX m_X0_within 1 0 0 0 [(0, .long v2)] [] _ 0 0 _
    refine x_lloadn (x := v2) rfl rfl ?_
    refine x_ldc2 (v := 1000000000000) rfl z_0_213 ?_
    refine z_lcmp rfl rfl jkl_1000000000000 (fun v3 ev3 => ?_)
    refine x_ifgt (tgt := 16) rfl rfl (ti_gt rfl jk_0 ⟨fun c4 => ?_, fun c4 => ?_⟩)
    ·
      rw [if_pos (by omega)] at D
      refine x_ldc2 (v := (-2000000000000)) rfl z_0_193 ?_
      refine x_goto (tgt := 23) rfl rfl ?_
      refine x_lret rfl rfl ?_
      show jX m_X0_combine 2 0 0 50 [(0, .int a1), (1, .long a2), (3, .long a3)] [.long (-2000000000000)] _ 0 0 _
      refine x_lret rfl rfl ?_
      exact hQ _ _ J Sm (D.symm.trans (show (-2000000000000) = ((-2000000000000) : Int64).toInt from by have := jkl_m2000000000000; omega)) EV
    ·
      rw [if_neg (by omega)] at D
      refine x_lloadn (x := v2) rfl rfl ?_
      refine x_ldc2 (v := (-1000000000000)) rfl z_0_215 ?_
      refine z_lcmp rfl rfl jkl_m1000000000000 (fun v5 ev5 => ?_)
      refine x_ifge (tgt := 22) rfl rfl (ti_ge rfl jk_0 ⟨fun c6 => ?_, fun c6 => ?_⟩)
      ·
        rw [if_pos (by omega)] at D
        refine x_lloadn (x := v2) rfl rfl ?_
        refine x_lret rfl rfl ?_
        show jX m_X0_combine 2 0 0 50 [(0, .int a1), (1, .long a2), (3, .long a3)] [.long v2] _ 0 0 _
        refine x_lret rfl rfl ?_
        exact hQ _ _ J Sm (D.symm.trans (show v2.toInt = v2.toInt from by omega)) EV
      ·
        rw [if_neg (by omega)] at D
        refine x_ldc2 (v := (-2000000000000)) rfl z_0_193 ?_
        refine x_goto (tgt := 23) rfl rfl ?_
        refine x_lret rfl rfl ?_
        show jX m_X0_combine 2 0 0 50 [(0, .int a1), (1, .long a2), (3, .long a3)] [.long (-2000000000000)] _ 0 0 _
        refine x_lret rfl rfl ?_
        exact hQ _ _ J Sm (D.symm.trans (show (-2000000000000) = ((-2000000000000) : Int64).toInt from by have := jkl_m2000000000000; omega)) EV
  rw [if_neg c1] at D
  by_cases c7 : a1.toInt = 4
  ·
    refine x_tableIn (tgt := 51) 4 rfl c7 (by decide) (by decide) rfl rfl ?_
    rw [if_pos c7] at D
    refine x_lloadn (x := a2) rfl rfl ?_
    refine x_lloadn (x := a3) rfl rfl ?_
    refine z_lsubW rfl rfl rfl (fun v8 ev8 => ?_)
    have fv8 := jfullL v8
    try rw [← ev8] at D
    refine x_inst (N := m_X0_within) (As := [.long v8]) (st := []) (dx9 := 1) (mc := 0) (ms := 0) (host := "") rfl t_X0_within ⟨Or.inl q_0_206, s_X0_within⟩ rfl (by decide) rfl rfl ⟨by decide, by decide⟩ (jC.of rfl k_X0_within rfl ?_)
    show jX m_X0_within 1 0 0 0 [(0, .long v8)] [] _ 0 0 _
    refine x_lloadn (x := v8) rfl rfl ?_
    refine x_ldc2 (v := 1000000000000) rfl z_0_213 ?_
    refine z_lcmp rfl rfl jkl_1000000000000 (fun v9 ev9 => ?_)
    refine x_ifgt (tgt := 16) rfl rfl (ti_gt rfl jk_0 ⟨fun c10 => ?_, fun c10 => ?_⟩)
    ·
      rw [if_pos (by omega)] at D
      refine x_ldc2 (v := (-2000000000000)) rfl z_0_193 ?_
      refine x_goto (tgt := 23) rfl rfl ?_
      refine x_lret rfl rfl ?_
      show jX m_X0_combine 2 0 0 57 [(0, .int a1), (1, .long a2), (3, .long a3)] [.long (-2000000000000)] _ 0 0 _
      refine x_lret rfl rfl ?_
      exact hQ _ _ J Sm (D.symm.trans (show (-2000000000000) = ((-2000000000000) : Int64).toInt from by have := jkl_m2000000000000; omega)) EV
    ·
      rw [if_neg (by omega)] at D
      refine x_lloadn (x := v8) rfl rfl ?_
      refine x_ldc2 (v := (-1000000000000)) rfl z_0_215 ?_
      refine z_lcmp rfl rfl jkl_m1000000000000 (fun v11 ev11 => ?_)
      refine x_ifge (tgt := 22) rfl rfl (ti_ge rfl jk_0 ⟨fun c12 => ?_, fun c12 => ?_⟩)
      ·
        rw [if_pos (by omega)] at D
        refine x_lloadn (x := v8) rfl rfl ?_
        refine x_lret rfl rfl ?_
        show jX m_X0_combine 2 0 0 57 [(0, .int a1), (1, .long a2), (3, .long a3)] [.long v8] _ 0 0 _
        refine x_lret rfl rfl ?_
        exact hQ _ _ J Sm (D.symm.trans (show v8.toInt = v8.toInt from by omega)) EV
      ·
        rw [if_neg (by omega)] at D
        refine x_ldc2 (v := (-2000000000000)) rfl z_0_193 ?_
        refine x_goto (tgt := 23) rfl rfl ?_
        refine x_lret rfl rfl ?_
        show jX m_X0_combine 2 0 0 57 [(0, .int a1), (1, .long a2), (3, .long a3)] [.long (-2000000000000)] _ 0 0 _
        refine x_lret rfl rfl ?_
        exact hQ _ _ J Sm (D.symm.trans (show (-2000000000000) = ((-2000000000000) : Int64).toInt from by have := jkl_m2000000000000; omega)) EV
  rw [if_neg c7] at D
  by_cases c13 : a1.toInt = 5
  ·
    refine x_tableIn (tgt := 58) 5 rfl c13 (by decide) (by decide) rfl rfl ?_
    rw [if_pos c13] at D
    refine x_lloadn (x := a2) rfl rfl ?_
    refine x_lconst (v := 0) rfl kl_0 ?_
    refine z_lcmp rfl rfl jkl_0 (fun v14 ev14 => ?_)
    refine x_ifeq (tgt := 86) rfl rfl (ti_eq rfl jk_0 ⟨fun c15 => ?_, fun c15 => ?_⟩)
    ·
      rw [if_pos (by omega)] at D
      exact jX.sub (jsb_c rfl (jsb_c rfl jsb_n)) (ct_X0_combined_86 hD hQ  a2 a3 h J Sm D EV)
    ·
      rw [if_neg (by omega)] at D
      refine x_lloadn (x := a3) rfl rfl ?_
      refine z_labsD rfl q_0_210 (by decide) rfl rfl (fun v16 ev16 => ?_)
      have fv16 := jfullL v16
      try rw [← ev16] at D
      refine x_ldc2 (v := 1000000000000) rfl z_0_213 ?_
      refine x_lloadn (x := a2) rfl rfl ?_
      refine z_labsE rfl q_0_210 (by decide) rfl rfl (by omega) (fun v17 ev17 => ?_)
      have fv17 := jfullL v17
      try rw [← ev17.1] at D
      refine z_ldivW rfl jkl_1000000000000 rfl (by omega) (fun v18 ev18 => ?_)
      have fv18 := jfullL v18
      try rw [← ev18] at D
      refine z_lcmp rfl rfl rfl (fun v19 ev19 => ?_)
      refine x_ifle (tgt := 86) rfl rfl (ti_le rfl jk_0 ⟨fun c20 => ?_, fun c20 => ?_⟩)
      ·
        rw [if_pos (by omega)] at D
        exact jX.sub (jsb_c rfl (jsb_c rfl jsb_n)) (ct_X0_combined_86 hD hQ  a2 a3 h J Sm D EV)
      ·
        rw [if_neg (by omega)] at D
        refine x_ldc2 (v := (-2000000000000)) rfl z_0_193 ?_
        refine x_goto (tgt := 89) rfl rfl ?_
        exact jX.sub jsb_n (ct_X0_combined_5000089 hD hQ  h J Sm D EV)
  rw [if_neg c13] at D
  by_cases c21 : a1.toInt = 6
  ·
    refine x_tableIn (tgt := 90) 6 rfl c21 (by decide) (by decide) rfl rfl ?_
    rw [if_pos c21] at D
    refine x_lloadn (x := a3) rfl rfl ?_
    refine x_lconst (v := 0) rfl kl_0 ?_
    refine z_lcmp rfl rfl jkl_0 (fun v22 ev22 => ?_)
    refine x_ifne (tgt := 102) rfl rfl (ti_ne rfl jk_0 ⟨fun c23 => ?_, fun c23 => ?_⟩)
    ·
      rw [if_neg (by omega)] at D
      refine x_lloadn (x := a2) rfl rfl ?_
      refine x_lloadn (x := a3) rfl rfl ?_
      refine z_ldivW rfl rfl rfl (by omega) (fun v24 ev24 => ?_)
      have fv24 := jfullL v24
      try rw [← ev24] at D
      exact jX.sub jsb_n (ct_X0_combined_105 hD hQ  v24 h J Sm D EV)
    ·
      rw [if_pos (by omega)] at D
      refine x_ldc2 (v := (-2000000000000)) rfl z_0_193 ?_
      refine x_goto (tgt := 105) rfl rfl ?_
      exact jX.sub jsb_n (ct_X0_combined_5000105 hD hQ  h J Sm D EV)
  rw [if_neg c21] at D
  by_cases c25 : a1.toInt = 7
  ·
    refine x_tableIn (tgt := 106) 7 rfl c25 (by decide) (by decide) rfl rfl ?_
    rw [if_pos c25] at D
    refine x_lloadn (x := a2) rfl rfl ?_
    refine x_lloadn (x := a3) rfl rfl ?_
    refine z_lcmp rfl rfl rfl (fun v26 ev26 => ?_)
    refine x_ifge (tgt := 116) rfl rfl (ti_ge rfl jk_0 ⟨fun c27 => ?_, fun c27 => ?_⟩)
    ·
      rw [if_pos (by omega)] at D
      refine x_lconst (v := 0) rfl kl_0 ?_
      exact jX.sub jsb_n (ct_X0_combined_5000117 hD hQ  0 h (jr_ofl jkl_0 (by omega)) J Sm (by rw [jkl_0]; exact D) EV)
    ·
      rw [if_neg (by omega)] at D
      refine x_lconst (v := 1) rfl kl_1 ?_
      refine x_goto (tgt := 117) rfl rfl ?_
      exact jX.sub jsb_n (ct_X0_combined_5000117 hD hQ  1 h (jr_ofl jkl_1 (by omega)) J Sm (by rw [jkl_1]; exact D) EV)
  rw [if_neg c25] at D
  by_cases c28 : a1.toInt = 8
  ·
    refine x_tableIn (tgt := 118) 8 rfl c28 (by decide) (by decide) rfl rfl ?_
    rw [if_pos c28] at D
    refine x_lloadn (x := a2) rfl rfl ?_
    refine x_lloadn (x := a3) rfl rfl ?_
    refine z_lcmp rfl rfl rfl (fun v29 ev29 => ?_)
    refine x_ifle (tgt := 128) rfl rfl (ti_le rfl jk_0 ⟨fun c30 => ?_, fun c30 => ?_⟩)
    ·
      rw [if_pos (by omega)] at D
      refine x_lconst (v := 0) rfl kl_0 ?_
      exact jX.sub jsb_n (ct_X0_combined_5000129 hD hQ  0 h (jr_ofl jkl_0 (by omega)) J Sm (by rw [jkl_0]; exact D) EV)
    ·
      rw [if_neg (by omega)] at D
      refine x_lconst (v := 1) rfl kl_1 ?_
      refine x_goto (tgt := 129) rfl rfl ?_
      exact jX.sub jsb_n (ct_X0_combined_5000129 hD hQ  1 h (jr_ofl jkl_1 (by omega)) J Sm (by rw [jkl_1]; exact D) EV)
  rw [if_neg c28] at D
  by_cases c31 : a1.toInt = 9
  ·
    refine x_tableIn (tgt := 130) 9 rfl c31 (by decide) (by decide) rfl rfl ?_
    rw [if_pos c31] at D
    refine x_lloadn (x := a2) rfl rfl ?_
    refine x_lloadn (x := a3) rfl rfl ?_
    refine z_lcmp rfl rfl rfl (fun v32 ev32 => ?_)
    refine x_ifne (tgt := 140) rfl rfl (ti_ne rfl jk_0 ⟨fun c33 => ?_, fun c33 => ?_⟩)
    ·
      rw [if_neg (by omega)] at D
      refine x_lconst (v := 0) rfl kl_0 ?_
      exact jX.sub jsb_n (ct_X0_combined_5000141 hD hQ  0 h (jr_ofl jkl_0 (by omega)) J Sm (by rw [jkl_0]; exact D) EV)
    ·
      rw [if_pos (by omega)] at D
      refine x_lconst (v := 1) rfl kl_1 ?_
      refine x_goto (tgt := 141) rfl rfl ?_
      exact jX.sub jsb_n (ct_X0_combined_5000141 hD hQ  1 h (jr_ofl jkl_1 (by omega)) J Sm (by rw [jkl_1]; exact D) EV)
  rw [if_neg c31] at D
  refine x_tableOut (tgt := 142) rfl (by omega) rfl ?_
  refine x_ldc2 (v := (-2000000000000)) rfl z_0_193 ?_
  refine x_lret rfl rfl ?_
  exact hQ _ _ J Sm (D.symm.trans (show (-2000000000000) = ((-2000000000000) : Int64).toInt from by have := jkl_m2000000000000; omega)) EV
def fp_X8_at_r43_c1d : jFp := []
set_option maxRecDepth 100000 in
set_option maxHeartbeats 4000000 in
theorem ct_X8_at_r43_c1d_24 {Dy : jH → Prop} {h0 : jH} {Q : Option Value → jH → Prop} {dr : Int} (hD : jDk Dy) (hQ : ∀ (v : Int32) hx9, 0 ≤ v.toInt ∧ v.toInt ≤ 146399 → jJ jSgX Dy hx9 → jSm fp_X8_at_r43_c1d h0 hx9 → dr = v.toInt → vw hx9 = vw h0 → Q (some (.int v)) hx9) : ∀ (h : jH), jJ jSgX Dy h → jSm fp_X8_at_r43_c1d h0 h → d_X8_at_r43_c1d_24  (vw h) = dr → vw h = vw h0 → jX m_X8_at 1 0 0 24 [] [] h 0 0 Q := by
  intro  h    J Sm D EV
  unfold d_X8_at_r43_c1d_24 at D
  refine x_iconst (v := 0) rfl ki_0 ?_
  refine x_iret rfl rfl ?_
  exact hQ _ _ (jr_of jk_0 (by omega)) J Sm (D.symm.trans (show 0 = (0 : Int32).toInt from by have := jk_0; omega)) EV
set_option maxRecDepth 100000 in
set_option maxHeartbeats 4000000 in
theorem sf_X8_at_r43_c1d {Dy : jH → Prop} {h : jH} {Q : Option Value → jH → Prop} {dr : Int} {a1 : Int32} (y1 : 0 ≤ a1.toInt ∧ a1.toInt ≤ 99) (hD : jDk Dy) (J : jJ jSgX Dy h) (D : d_X8_at_r43_c1d a1.toInt (vw h) = dr) (hQ : ∀ (v : Int32) hx9, 0 ≤ v.toInt ∧ v.toInt ≤ 146399 → jJ jSgX Dy hx9 → jSm fp_X8_at_r43_c1d h hx9 → dr = v.toInt → vw hx9 = vw h → Q (some (.int v)) hx9) : jC m_X8_at 1 0 0 [.ref 43, .int a1, .int 1] h Q := by
  refine jC.of rfl k_X8_at rfl ?_
  have Sm := jSm_rf fp_X8_at_r43_c1d h
  show jX m_X8_at 1 0 0 0 [(0, .ref 43), (1, .int a1), (2, .int 1)] [] _ 0 0 _
  unfold d_X8_at_r43_c1d at D
  have EV : vw h = vw h := rfl
  refine x_iloadn (x := a1) rfl rfl ?_
  refine x_iflt (tgt := 24) rfl rfl (ti_lt rfl jk_0 (br_f (by omega) ?_))
  refine x_iloadn (x := a1) rfl rfl ?_
  refine x_aloadn (x := 43) rfl rfl ?_
  refine z_getI (N := 4) 8 3 rfl f_8_7 rfl J rfl sg_43_3_4_1_0_1 (fun v1 qv1 ev1 => ?_)
  try rw [vrf qv1] at D
  refine x_icge (tgt := 24) rfl rfl (ti_ge rfl rfl ⟨fun c2 => ?_, fun c2 => ?_⟩)
  ·
    rw [if_pos (by omega)] at D
    exact jX.sub jsb_n (ct_X8_at_r43_c1d_24 hD hQ  h J Sm D EV)
  ·
    rw [if_neg (by omega)] at D
    refine x_iloadn (x := 1) rfl rfl ?_
    refine x_iflt (tgt := 24) rfl rfl (ti_lt jk_1 jk_0 (br_f (by omega) ?_))
    refine x_iloadn (x := 1) rfl rfl ?_
    refine x_aloadn (x := 43) rfl rfl ?_
    refine z_getC (N := 4) (v := 6) 8 0 rfl f_8_19 rfl J rfl sg_43_0_1_1_0_1 jk_6 ?_
    refine x_iclt (tgt := 26) rfl rfl (ti_lt jk_1 jk_6 (br_t (by omega) ?_))
    refine x_aloadn (x := 43) rfl rfl ?_
    refine z_getR (N := 4) (b := 44) 8 2 rfl f_8_25 rfl J rfl 5506 ⟨rfl, rfl⟩ rfl ?_
    refine x_iloadn (x := a1) rfl rfl ?_
    refine x_aloadn (x := 43) rfl rfl ?_
    refine z_getC (N := 4) (v := 6) 8 0 rfl f_8_19 rfl J rfl sg_43_0_1_1_0_1 jk_6 ?_
    refine z_imul rfl rfl jk_6 (by omega) (fun v3 ev3 => ?_)
    refine x_iloadn (x := 1) rfl rfl ?_
    refine z_iadd rfl rfl jk_1 (by omega) (fun v4 ev4 => ?_)
    refine z_iald (N := 600) rfl J rfl sg_44_0_600_6_1_2 rfl (by omega) (fun v5 qv5 ev5 => ?_)
    try rw [vrd qv5 (show ((a1.toInt * 6) + 1) = v4.toInt from by omega)] at D
    refine x_iret rfl rfl ?_
    exact hQ _ _ (jr_of rfl (by omega)) J Sm (D.symm.trans (show v5.toInt = v5.toInt from by omega)) EV
def fp_X8_at_r43_c2d : jFp := []
set_option maxRecDepth 100000 in
set_option maxHeartbeats 4000000 in
theorem ct_X8_at_r43_c2d_24 {Dy : jH → Prop} {h0 : jH} {Q : Option Value → jH → Prop} {dr : Int} (hD : jDk Dy) (hQ : ∀ (v : Int32) hx9, 0 ≤ v.toInt ∧ v.toInt ≤ 146399 → jJ jSgX Dy hx9 → jSm fp_X8_at_r43_c2d h0 hx9 → dr = v.toInt → vw hx9 = vw h0 → Q (some (.int v)) hx9) : ∀ (h : jH), jJ jSgX Dy h → jSm fp_X8_at_r43_c2d h0 h → d_X8_at_r43_c2d_24  (vw h) = dr → vw h = vw h0 → jX m_X8_at 1 0 0 24 [] [] h 0 0 Q := by
  intro  h    J Sm D EV
  unfold d_X8_at_r43_c2d_24 at D
  refine x_iconst (v := 0) rfl ki_0 ?_
  refine x_iret rfl rfl ?_
  exact hQ _ _ (jr_of jk_0 (by omega)) J Sm (D.symm.trans (show 0 = (0 : Int32).toInt from by have := jk_0; omega)) EV
set_option maxRecDepth 100000 in
set_option maxHeartbeats 4000000 in
theorem sf_X8_at_r43_c2d {Dy : jH → Prop} {h : jH} {Q : Option Value → jH → Prop} {dr : Int} {a1 : Int32} (y1 : 0 ≤ a1.toInt ∧ a1.toInt ≤ 99) (hD : jDk Dy) (J : jJ jSgX Dy h) (D : d_X8_at_r43_c2d a1.toInt (vw h) = dr) (hQ : ∀ (v : Int32) hx9, 0 ≤ v.toInt ∧ v.toInt ≤ 146399 → jJ jSgX Dy hx9 → jSm fp_X8_at_r43_c2d h hx9 → dr = v.toInt → vw hx9 = vw h → Q (some (.int v)) hx9) : jC m_X8_at 1 0 0 [.ref 43, .int a1, .int 2] h Q := by
  refine jC.of rfl k_X8_at rfl ?_
  have Sm := jSm_rf fp_X8_at_r43_c2d h
  show jX m_X8_at 1 0 0 0 [(0, .ref 43), (1, .int a1), (2, .int 2)] [] _ 0 0 _
  unfold d_X8_at_r43_c2d at D
  have EV : vw h = vw h := rfl
  refine x_iloadn (x := a1) rfl rfl ?_
  refine x_iflt (tgt := 24) rfl rfl (ti_lt rfl jk_0 (br_f (by omega) ?_))
  refine x_iloadn (x := a1) rfl rfl ?_
  refine x_aloadn (x := 43) rfl rfl ?_
  refine z_getI (N := 4) 8 3 rfl f_8_7 rfl J rfl sg_43_3_4_1_0_1 (fun v1 qv1 ev1 => ?_)
  try rw [vrf qv1] at D
  refine x_icge (tgt := 24) rfl rfl (ti_ge rfl rfl ⟨fun c2 => ?_, fun c2 => ?_⟩)
  ·
    rw [if_pos (by omega)] at D
    exact jX.sub jsb_n (ct_X8_at_r43_c2d_24 hD hQ  h J Sm D EV)
  ·
    rw [if_neg (by omega)] at D
    refine x_iloadn (x := 2) rfl rfl ?_
    refine x_iflt (tgt := 24) rfl rfl (ti_lt jk_2 jk_0 (br_f (by omega) ?_))
    refine x_iloadn (x := 2) rfl rfl ?_
    refine x_aloadn (x := 43) rfl rfl ?_
    refine z_getC (N := 4) (v := 6) 8 0 rfl f_8_19 rfl J rfl sg_43_0_1_1_0_1 jk_6 ?_
    refine x_iclt (tgt := 26) rfl rfl (ti_lt jk_2 jk_6 (br_t (by omega) ?_))
    refine x_aloadn (x := 43) rfl rfl ?_
    refine z_getR (N := 4) (b := 44) 8 2 rfl f_8_25 rfl J rfl 5506 ⟨rfl, rfl⟩ rfl ?_
    refine x_iloadn (x := a1) rfl rfl ?_
    refine x_aloadn (x := 43) rfl rfl ?_
    refine z_getC (N := 4) (v := 6) 8 0 rfl f_8_19 rfl J rfl sg_43_0_1_1_0_1 jk_6 ?_
    refine z_imul rfl rfl jk_6 (by omega) (fun v3 ev3 => ?_)
    refine x_iloadn (x := 2) rfl rfl ?_
    refine z_iadd rfl rfl jk_2 (by omega) (fun v4 ev4 => ?_)
    refine z_iald (N := 600) rfl J rfl sg_44_0_600_6_2_3 rfl (by omega) (fun v5 qv5 ev5 => ?_)
    try rw [vrd qv5 (show ((a1.toInt * 6) + 2) = v4.toInt from by omega)] at D
    refine x_iret rfl rfl ?_
    exact hQ _ _ (jr_of rfl (by omega)) J Sm (D.symm.trans (show v5.toInt = v5.toInt from by omega)) EV
def fp_X8_at_r43_c3d : jFp := []
set_option maxRecDepth 100000 in
set_option maxHeartbeats 4000000 in
theorem ct_X8_at_r43_c3d_24 {Dy : jH → Prop} {h0 : jH} {Q : Option Value → jH → Prop} {dr : Int} (hD : jDk Dy) (hQ : ∀ (v : Int32) hx9, 0 ≤ v.toInt ∧ v.toInt ≤ 599 → jJ jSgX Dy hx9 → jSm fp_X8_at_r43_c3d h0 hx9 → dr = v.toInt → vw hx9 = vw h0 → Q (some (.int v)) hx9) : ∀ (h : jH), jJ jSgX Dy h → jSm fp_X8_at_r43_c3d h0 h → d_X8_at_r43_c3d_24  (vw h) = dr → vw h = vw h0 → jX m_X8_at 1 0 0 24 [] [] h 0 0 Q := by
  intro  h    J Sm D EV
  unfold d_X8_at_r43_c3d_24 at D
  refine x_iconst (v := 0) rfl ki_0 ?_
  refine x_iret rfl rfl ?_
  exact hQ _ _ (jr_of jk_0 (by omega)) J Sm (D.symm.trans (show 0 = (0 : Int32).toInt from by have := jk_0; omega)) EV
set_option maxRecDepth 100000 in
set_option maxHeartbeats 4000000 in
theorem sf_X8_at_r43_c3d {Dy : jH → Prop} {h : jH} {Q : Option Value → jH → Prop} {dr : Int} {a1 : Int32} (y1 : 0 ≤ a1.toInt ∧ a1.toInt ≤ 99) (hD : jDk Dy) (J : jJ jSgX Dy h) (D : d_X8_at_r43_c3d a1.toInt (vw h) = dr) (hQ : ∀ (v : Int32) hx9, 0 ≤ v.toInt ∧ v.toInt ≤ 599 → jJ jSgX Dy hx9 → jSm fp_X8_at_r43_c3d h hx9 → dr = v.toInt → vw hx9 = vw h → Q (some (.int v)) hx9) : jC m_X8_at 1 0 0 [.ref 43, .int a1, .int 3] h Q := by
  refine jC.of rfl k_X8_at rfl ?_
  have Sm := jSm_rf fp_X8_at_r43_c3d h
  show jX m_X8_at 1 0 0 0 [(0, .ref 43), (1, .int a1), (2, .int 3)] [] _ 0 0 _
  unfold d_X8_at_r43_c3d at D
  have EV : vw h = vw h := rfl
  refine x_iloadn (x := a1) rfl rfl ?_
  refine x_iflt (tgt := 24) rfl rfl (ti_lt rfl jk_0 (br_f (by omega) ?_))
  refine x_iloadn (x := a1) rfl rfl ?_
  refine x_aloadn (x := 43) rfl rfl ?_
  refine z_getI (N := 4) 8 3 rfl f_8_7 rfl J rfl sg_43_3_4_1_0_1 (fun v1 qv1 ev1 => ?_)
  try rw [vrf qv1] at D
  refine x_icge (tgt := 24) rfl rfl (ti_ge rfl rfl ⟨fun c2 => ?_, fun c2 => ?_⟩)
  ·
    rw [if_pos (by omega)] at D
    exact jX.sub jsb_n (ct_X8_at_r43_c3d_24 hD hQ  h J Sm D EV)
  ·
    rw [if_neg (by omega)] at D
    refine x_iloadn (x := 3) rfl rfl ?_
    refine x_iflt (tgt := 24) rfl rfl (ti_lt jk_3 jk_0 (br_f (by omega) ?_))
    refine x_iloadn (x := 3) rfl rfl ?_
    refine x_aloadn (x := 43) rfl rfl ?_
    refine z_getC (N := 4) (v := 6) 8 0 rfl f_8_19 rfl J rfl sg_43_0_1_1_0_1 jk_6 ?_
    refine x_iclt (tgt := 26) rfl rfl (ti_lt jk_3 jk_6 (br_t (by omega) ?_))
    refine x_aloadn (x := 43) rfl rfl ?_
    refine z_getR (N := 4) (b := 44) 8 2 rfl f_8_25 rfl J rfl 5506 ⟨rfl, rfl⟩ rfl ?_
    refine x_iloadn (x := a1) rfl rfl ?_
    refine x_aloadn (x := 43) rfl rfl ?_
    refine z_getC (N := 4) (v := 6) 8 0 rfl f_8_19 rfl J rfl sg_43_0_1_1_0_1 jk_6 ?_
    refine z_imul rfl rfl jk_6 (by omega) (fun v3 ev3 => ?_)
    refine x_iloadn (x := 3) rfl rfl ?_
    refine z_iadd rfl rfl jk_3 (by omega) (fun v4 ev4 => ?_)
    refine z_iald (N := 600) rfl J rfl sg_44_0_600_6_3_4 rfl (by omega) (fun v5 qv5 ev5 => ?_)
    try rw [vrd qv5 (show ((a1.toInt * 6) + 3) = v4.toInt from by omega)] at D
    refine x_iret rfl rfl ?_
    exact hQ _ _ (jr_of rfl (by omega)) J Sm (D.symm.trans (show v5.toInt = v5.toInt from by omega)) EV
def fp_X8_at_r43_c4d : jFp := []
set_option maxRecDepth 100000 in
set_option maxHeartbeats 4000000 in
theorem ct_X8_at_r43_c4d_24 {Dy : jH → Prop} {h0 : jH} {Q : Option Value → jH → Prop} {dr : Int} (hD : jDk Dy) (hQ : ∀ (v : Int32) hx9, 0 ≤ v.toInt ∧ v.toInt ≤ 4 → jJ jSgX Dy hx9 → jSm fp_X8_at_r43_c4d h0 hx9 → dr = v.toInt → vw hx9 = vw h0 → Q (some (.int v)) hx9) : ∀ (h : jH), jJ jSgX Dy h → jSm fp_X8_at_r43_c4d h0 h → d_X8_at_r43_c4d_24  (vw h) = dr → vw h = vw h0 → jX m_X8_at 1 0 0 24 [] [] h 0 0 Q := by
  intro  h    J Sm D EV
  unfold d_X8_at_r43_c4d_24 at D
  refine x_iconst (v := 0) rfl ki_0 ?_
  refine x_iret rfl rfl ?_
  exact hQ _ _ (jr_of jk_0 (by omega)) J Sm (D.symm.trans (show 0 = (0 : Int32).toInt from by have := jk_0; omega)) EV
set_option maxRecDepth 100000 in
set_option maxHeartbeats 4000000 in
theorem sf_X8_at_r43_c4d {Dy : jH → Prop} {h : jH} {Q : Option Value → jH → Prop} {dr : Int} {a1 : Int32} (y1 : 0 ≤ a1.toInt ∧ a1.toInt ≤ 99) (hD : jDk Dy) (J : jJ jSgX Dy h) (D : d_X8_at_r43_c4d a1.toInt (vw h) = dr) (hQ : ∀ (v : Int32) hx9, 0 ≤ v.toInt ∧ v.toInt ≤ 4 → jJ jSgX Dy hx9 → jSm fp_X8_at_r43_c4d h hx9 → dr = v.toInt → vw hx9 = vw h → Q (some (.int v)) hx9) : jC m_X8_at 1 0 0 [.ref 43, .int a1, .int 4] h Q := by
  refine jC.of rfl k_X8_at rfl ?_
  have Sm := jSm_rf fp_X8_at_r43_c4d h
  show jX m_X8_at 1 0 0 0 [(0, .ref 43), (1, .int a1), (2, .int 4)] [] _ 0 0 _
  unfold d_X8_at_r43_c4d at D
  have EV : vw h = vw h := rfl
  refine x_iloadn (x := a1) rfl rfl ?_
  refine x_iflt (tgt := 24) rfl rfl (ti_lt rfl jk_0 (br_f (by omega) ?_))
  refine x_iloadn (x := a1) rfl rfl ?_
  refine x_aloadn (x := 43) rfl rfl ?_
  refine z_getI (N := 4) 8 3 rfl f_8_7 rfl J rfl sg_43_3_4_1_0_1 (fun v1 qv1 ev1 => ?_)
  try rw [vrf qv1] at D
  refine x_icge (tgt := 24) rfl rfl (ti_ge rfl rfl ⟨fun c2 => ?_, fun c2 => ?_⟩)
  ·
    rw [if_pos (by omega)] at D
    exact jX.sub jsb_n (ct_X8_at_r43_c4d_24 hD hQ  h J Sm D EV)
  ·
    rw [if_neg (by omega)] at D
    refine x_iloadn (x := 4) rfl rfl ?_
    refine x_iflt (tgt := 24) rfl rfl (ti_lt jk_4 jk_0 (br_f (by omega) ?_))
    refine x_iloadn (x := 4) rfl rfl ?_
    refine x_aloadn (x := 43) rfl rfl ?_
    refine z_getC (N := 4) (v := 6) 8 0 rfl f_8_19 rfl J rfl sg_43_0_1_1_0_1 jk_6 ?_
    refine x_iclt (tgt := 26) rfl rfl (ti_lt jk_4 jk_6 (br_t (by omega) ?_))
    refine x_aloadn (x := 43) rfl rfl ?_
    refine z_getR (N := 4) (b := 44) 8 2 rfl f_8_25 rfl J rfl 5506 ⟨rfl, rfl⟩ rfl ?_
    refine x_iloadn (x := a1) rfl rfl ?_
    refine x_aloadn (x := 43) rfl rfl ?_
    refine z_getC (N := 4) (v := 6) 8 0 rfl f_8_19 rfl J rfl sg_43_0_1_1_0_1 jk_6 ?_
    refine z_imul rfl rfl jk_6 (by omega) (fun v3 ev3 => ?_)
    refine x_iloadn (x := 4) rfl rfl ?_
    refine z_iadd rfl rfl jk_4 (by omega) (fun v4 ev4 => ?_)
    refine z_iald (N := 600) rfl J rfl sg_44_0_600_6_4_5 rfl (by omega) (fun v5 qv5 ev5 => ?_)
    try rw [vrd qv5 (show ((a1.toInt * 6) + 4) = v4.toInt from by omega)] at D
    refine x_iret rfl rfl ?_
    exact hQ _ _ (jr_of rfl (by omega)) J Sm (D.symm.trans (show v5.toInt = v5.toInt from by omega)) EV
def fp_X8_at_r43_c5d : jFp := []
set_option maxRecDepth 100000 in
set_option maxHeartbeats 4000000 in
theorem ct_X8_at_r43_c5d_24 {Dy : jH → Prop} {h0 : jH} {Q : Option Value → jH → Prop} {dr : Int} (hD : jDk Dy) (hQ : ∀ (v : Int32) hx9, 0 ≤ v.toInt ∧ v.toInt ≤ 11 → jJ jSgX Dy hx9 → jSm fp_X8_at_r43_c5d h0 hx9 → dr = v.toInt → vw hx9 = vw h0 → Q (some (.int v)) hx9) : ∀ (h : jH), jJ jSgX Dy h → jSm fp_X8_at_r43_c5d h0 h → d_X8_at_r43_c5d_24  (vw h) = dr → vw h = vw h0 → jX m_X8_at 1 0 0 24 [] [] h 0 0 Q := by
  intro  h    J Sm D EV
  unfold d_X8_at_r43_c5d_24 at D
  refine x_iconst (v := 0) rfl ki_0 ?_
  refine x_iret rfl rfl ?_
  exact hQ _ _ (jr_of jk_0 (by omega)) J Sm (D.symm.trans (show 0 = (0 : Int32).toInt from by have := jk_0; omega)) EV
set_option maxRecDepth 100000 in
set_option maxHeartbeats 4000000 in
theorem sf_X8_at_r43_c5d {Dy : jH → Prop} {h : jH} {Q : Option Value → jH → Prop} {dr : Int} {a1 : Int32} (y1 : 0 ≤ a1.toInt ∧ a1.toInt ≤ 99) (hD : jDk Dy) (J : jJ jSgX Dy h) (D : d_X8_at_r43_c5d a1.toInt (vw h) = dr) (hQ : ∀ (v : Int32) hx9, 0 ≤ v.toInt ∧ v.toInt ≤ 11 → jJ jSgX Dy hx9 → jSm fp_X8_at_r43_c5d h hx9 → dr = v.toInt → vw hx9 = vw h → Q (some (.int v)) hx9) : jC m_X8_at 1 0 0 [.ref 43, .int a1, .int 5] h Q := by
  refine jC.of rfl k_X8_at rfl ?_
  have Sm := jSm_rf fp_X8_at_r43_c5d h
  show jX m_X8_at 1 0 0 0 [(0, .ref 43), (1, .int a1), (2, .int 5)] [] _ 0 0 _
  unfold d_X8_at_r43_c5d at D
  have EV : vw h = vw h := rfl
  refine x_iloadn (x := a1) rfl rfl ?_
  refine x_iflt (tgt := 24) rfl rfl (ti_lt rfl jk_0 (br_f (by omega) ?_))
  refine x_iloadn (x := a1) rfl rfl ?_
  refine x_aloadn (x := 43) rfl rfl ?_
  refine z_getI (N := 4) 8 3 rfl f_8_7 rfl J rfl sg_43_3_4_1_0_1 (fun v1 qv1 ev1 => ?_)
  try rw [vrf qv1] at D
  refine x_icge (tgt := 24) rfl rfl (ti_ge rfl rfl ⟨fun c2 => ?_, fun c2 => ?_⟩)
  ·
    rw [if_pos (by omega)] at D
    exact jX.sub jsb_n (ct_X8_at_r43_c5d_24 hD hQ  h J Sm D EV)
  ·
    rw [if_neg (by omega)] at D
    refine x_iloadn (x := 5) rfl rfl ?_
    refine x_iflt (tgt := 24) rfl rfl (ti_lt jk_5 jk_0 (br_f (by omega) ?_))
    refine x_iloadn (x := 5) rfl rfl ?_
    refine x_aloadn (x := 43) rfl rfl ?_
    refine z_getC (N := 4) (v := 6) 8 0 rfl f_8_19 rfl J rfl sg_43_0_1_1_0_1 jk_6 ?_
    refine x_iclt (tgt := 26) rfl rfl (ti_lt jk_5 jk_6 (br_t (by omega) ?_))
    refine x_aloadn (x := 43) rfl rfl ?_
    refine z_getR (N := 4) (b := 44) 8 2 rfl f_8_25 rfl J rfl 5506 ⟨rfl, rfl⟩ rfl ?_
    refine x_iloadn (x := a1) rfl rfl ?_
    refine x_aloadn (x := 43) rfl rfl ?_
    refine z_getC (N := 4) (v := 6) 8 0 rfl f_8_19 rfl J rfl sg_43_0_1_1_0_1 jk_6 ?_
    refine z_imul rfl rfl jk_6 (by omega) (fun v3 ev3 => ?_)
    refine x_iloadn (x := 5) rfl rfl ?_
    refine z_iadd rfl rfl jk_5 (by omega) (fun v4 ev4 => ?_)
    refine z_iald (N := 600) rfl J rfl sg_44_0_600_6_5_6 rfl (by omega) (fun v5 qv5 ev5 => ?_)
    try rw [vrd qv5 (show ((a1.toInt * 6) + 5) = v4.toInt from by omega)] at D
    refine x_iret rfl rfl ?_
    exact hQ _ _ (jr_of rfl (by omega)) J Sm (D.symm.trans (show v5.toInt = v5.toInt from by omega)) EV
def fp_X8_isKnown_r43d : jFp := []
set_option maxRecDepth 100000 in
set_option maxHeartbeats 4000000 in
theorem ct_X8_isKnown_r43d_300032 {Dy : jH → Prop} {h0 : jH} {Q : Option Value → jH → Prop} {dr : Int} (hD : jDk Dy) (hQ : ∀ (v : Int32) hx9, 0 ≤ v.toInt ∧ v.toInt ≤ 1 → jJ jSgX Dy hx9 → jSm fp_X8_isKnown_r43d h0 hx9 → dr = v.toInt → vw hx9 = vw h0 → Q (some (.int v)) hx9) : ∀ (h : jH), jJ jSgX Dy h → jSm fp_X8_isKnown_r43d h0 h → d_X8_isKnown_r43d_300032  (vw h) = dr → vw h = vw h0 → jX m_X8_isKnown 1 0 0 32 [] [.int 1] h 0 0 Q := by
  intro  h    J Sm D EV
  unfold d_X8_isKnown_r43d_300032 at D
  refine x_zret rfl rfl (by decide) ?_
  exact hQ _ _ (jr_of jk_1 (by omega)) J Sm (D.symm.trans (show 1 = (1 : Int32).toInt from by have := jk_1; omega)) EV
set_option maxRecDepth 100000 in
set_option maxHeartbeats 4000000 in
theorem ct_X8_isKnown_r43d_200032 {Dy : jH → Prop} {h0 : jH} {Q : Option Value → jH → Prop} {dr : Int} (hD : jDk Dy) (hQ : ∀ (v : Int32) hx9, 0 ≤ v.toInt ∧ v.toInt ≤ 1 → jJ jSgX Dy hx9 → jSm fp_X8_isKnown_r43d h0 hx9 → dr = v.toInt → vw hx9 = vw h0 → Q (some (.int v)) hx9) : ∀ (h : jH), jJ jSgX Dy h → jSm fp_X8_isKnown_r43d h0 h → d_X8_isKnown_r43d_200032  (vw h) = dr → vw h = vw h0 → jX m_X8_isKnown 1 0 0 32 [] [.int 0] h 0 0 Q := by
  intro  h    J Sm D EV
  unfold d_X8_isKnown_r43d_200032 at D
  refine x_zret rfl rfl (by decide) ?_
  exact hQ _ _ (jr_of jk_0 (by omega)) J Sm (D.symm.trans (show 0 = (0 : Int32).toInt from by have := jk_0; omega)) EV
set_option maxRecDepth 100000 in
set_option maxHeartbeats 4000000 in
theorem ct_X8_isKnown_r43d_31 {Dy : jH → Prop} {h0 : jH} {Q : Option Value → jH → Prop} {dr : Int} (hD : jDk Dy) (hQ : ∀ (v : Int32) hx9, 0 ≤ v.toInt ∧ v.toInt ≤ 1 → jJ jSgX Dy hx9 → jSm fp_X8_isKnown_r43d h0 hx9 → dr = v.toInt → vw hx9 = vw h0 → Q (some (.int v)) hx9) : ∀ (h : jH), jJ jSgX Dy h → jSm fp_X8_isKnown_r43d h0 h → d_X8_isKnown_r43d_31  (vw h) = dr → vw h = vw h0 → jX m_X8_isKnown 1 0 0 31 [] [] h 0 0 Q := by
  intro  h    J Sm D EV
  unfold d_X8_isKnown_r43d_31 at D
  refine x_iconst (v := 0) rfl ki_0 ?_
  exact jX.sub jsb_n (ct_X8_isKnown_r43d_200032 hD hQ  h J Sm D EV)
set_option maxRecDepth 100000 in
set_option maxHeartbeats 4000000 in
theorem sf_X8_isKnown_r43d {Dy : jH → Prop} {h : jH} {Q : Option Value → jH → Prop} {dr : Int} {a1 : Int32} {a2 : Int32} (y1 : 0 ≤ a1.toInt ∧ a1.toInt ≤ 99) (y2 : 0 ≤ a2.toInt ∧ a2.toInt ≤ 146399) (hD : jDk Dy) (J : jJ jSgX Dy h) (D : d_X8_isKnown_r43d a1.toInt a2.toInt (vw h) = dr) (hQ : ∀ (v : Int32) hx9, 0 ≤ v.toInt ∧ v.toInt ≤ 1 → jJ jSgX Dy hx9 → jSm fp_X8_isKnown_r43d h hx9 → dr = v.toInt → vw hx9 = vw h → Q (some (.int v)) hx9) : jC m_X8_isKnown 1 0 0 [.ref 43, .int a1, .int a2] h Q := by
  refine jC.of rfl k_X8_isKnown rfl ?_
  have Sm := jSm_rf fp_X8_isKnown_r43d h
  show jX m_X8_isKnown 1 0 0 0 [(0, .ref 43), (1, .int a1), (2, .int a2)] [] _ 0 0 _
  unfold d_X8_isKnown_r43d at D
  have EV : vw h = vw h := rfl
  refine x_iloadn (x := a1) rfl rfl ?_
  refine x_iflt (tgt := 31) rfl rfl (ti_lt rfl jk_0 (br_f (by omega) ?_))
  refine x_iloadn (x := a1) rfl rfl ?_
  refine x_aloadn (x := 43) rfl rfl ?_
  refine z_getI (N := 4) 8 3 rfl f_8_7 rfl J rfl sg_43_3_4_1_0_1 (fun v1 qv1 ev1 => ?_)
  try rw [vrf qv1] at D
  refine x_icge (tgt := 31) rfl rfl (ti_ge rfl rfl ⟨fun c2 => ?_, fun c2 => ?_⟩)
  ·
    rw [if_pos (by omega)] at D
    exact jX.sub jsb_n (ct_X8_isKnown_r43d_31 hD hQ  h J Sm D EV)
  ·
    rw [if_neg (by omega)] at D
    refine x_aloadn (x := 43) rfl rfl ?_
    refine z_getR (N := 4) (b := 44) 8 2 rfl f_8_25 rfl J rfl 5506 ⟨rfl, rfl⟩ rfl ?_
    refine x_iloadn (x := a1) rfl rfl ?_
    refine x_aloadn (x := 43) rfl rfl ?_
    refine z_getC (N := 4) (v := 6) 8 0 rfl f_8_19 rfl J rfl sg_43_0_1_1_0_1 jk_6 ?_
    refine z_imul rfl rfl jk_6 (by omega) (fun v3 ev3 => ?_)
    refine z_iald (N := 600) rfl J rfl sg_44_0_600_6_0_1 rfl (by omega) (fun v4 qv4 ev4 => ?_)
    try rw [vrd qv4 (show (a1.toInt * 6) = v3.toInt from by omega)] at D
    refine x_iloadn (x := a2) rfl rfl ?_
    refine x_icgt (tgt := 31) rfl rfl (ti_gt rfl rfl ⟨fun c5 => ?_, fun c5 => ?_⟩)
    ·
      rw [if_pos (by omega)] at D
      exact jX.sub jsb_n (ct_X8_isKnown_r43d_31 hD hQ  h J Sm D EV)
    ·
      rw [if_neg (by omega)] at D
      refine x_iconst (v := 1) rfl ki_1 ?_
      refine x_goto (tgt := 32) rfl rfl ?_
      exact jX.sub jsb_n (ct_X8_isKnown_r43d_300032 hD hQ  h J Sm D EV)
def fp_X0_isCertified_r98d : jFp := []
set_option maxRecDepth 100000 in
set_option maxHeartbeats 4000000 in
theorem ct_X0_isCertified_r98d_134 {Dy : jH → Prop} {h0 : jH} {Q : Option Value → jH → Prop} {dr : Int} {K3 : Int → Int → Int → Int → Int → jW → Int} {R3 : Int} (hD : jDk Dy) (hQ : ∀ (v : Int32) hx9, 0 ≤ v.toInt ∧ v.toInt ≤ 1 → jJ jSgX Dy hx9 → jSm fp_X0_isCertified_r98d h0 hx9 → dr = v.toInt → vw hx9 = vw h0 → Q (some (.int v)) hx9) (k3 : ∀ (l1 : Int32) (l2 : Int32) (l3 : Int32) (l4 : Int32) (l5 : Int32) (h : jH), 100 - l5.toInt < R3 → (-1) ≤ l1.toInt ∧ l1.toInt ≤ 599 → (-1) ≤ l2.toInt ∧ l2.toInt ≤ 11 → 0 ≤ l3.toInt ∧ l3.toInt ≤ 146399 → 0 ≤ l4.toInt ∧ l4.toInt ≤ 146399 → 0 ≤ l5.toInt ∧ l5.toInt ≤ 100 → jJ jSgX Dy h → jSm fp_X0_isCertified_r98d h0 h → K3 l1.toInt l2.toInt l3.toInt l4.toInt l5.toInt (vw h) = dr → vw h = vw h0 → jX m_X0_isCertified 2 0 0 3 [(0, .ref 98), (1, .int l1), (2, .int l2), (3, .int l3), (4, .int l4), (5, .int l5)] [] h 0 0 Q) : ∀ (l1 : Int32) (l2 : Int32) (l3 : Int32) (l4 : Int32) (l5 : Int32) (h : jH), (-1) ≤ l1.toInt ∧ l1.toInt ≤ 599 → (-1) ≤ l2.toInt ∧ l2.toInt ≤ 11 → 0 ≤ l3.toInt ∧ l3.toInt ≤ 146399 → 0 ≤ l4.toInt ∧ l4.toInt ≤ 146399 → 0 ≤ l5.toInt ∧ l5.toInt ≤ 99 → 100 - l5.toInt ≤ R3 → jJ jSgX Dy h → jSm fp_X0_isCertified_r98d h0 h → d_X0_isCertified_r98d_134 K3  l1.toInt l2.toInt l3.toInt l4.toInt l5.toInt (vw h) = dr → vw h = vw h0 → jX m_X0_isCertified 2 0 0 134 [(0, .ref 98), (1, .int l1), (2, .int l2), (3, .int l3), (4, .int l4), (5, .int l5)] [] h 0 0 Q := by
  intro l1 l2 l3 l4 l5 h y0 y1 y2 y3 y4  m3 J Sm D EV
  unfold d_X0_isCertified_r98d_134 at D
  refine z_iinc (x := l5) (lsx9 := fun v1 => [(5, .int v1), (0, .ref 98), (1, .int l1), (2, .int l2), (3, .int l3), (4, .int l4)]) rfl rfl rfl jko_1 (by omega) rfl (fun _ => rfl) (fun v1 ev1 => ?_)
  refine x_goto (tgt := 3) rfl rfl ?_
  try rw [show (l5.toInt + 1) = v1.toInt from by omega] at D
  exact jX.sub (jsb_c rfl (jsb_c rfl (jsb_c rfl (jsb_c rfl (jsb_c rfl (jsb_c rfl jsb_n)))))) (k3 l1 l2 l3 l4 v1 h (by omega) (jr_of rfl (by omega)) (jr_of rfl (by omega)) (jr_of rfl (by omega)) (jr_of rfl (by omega)) (jr_of rfl (by omega)) J Sm D EV)
set_option maxRecDepth 100000 in
set_option maxHeartbeats 4000000 in
theorem ct_X0_isCertified_r98d_108 {Dy : jH → Prop} {h0 : jH} {Q : Option Value → jH → Prop} {dr : Int} {K3 : Int → Int → Int → Int → Int → jW → Int} {R3 : Int} (hD : jDk Dy) (hQ : ∀ (v : Int32) hx9, 0 ≤ v.toInt ∧ v.toInt ≤ 1 → jJ jSgX Dy hx9 → jSm fp_X0_isCertified_r98d h0 hx9 → dr = v.toInt → vw hx9 = vw h0 → Q (some (.int v)) hx9) (k3 : ∀ (l1 : Int32) (l2 : Int32) (l3 : Int32) (l4 : Int32) (l5 : Int32) (h : jH), 100 - l5.toInt < R3 → (-1) ≤ l1.toInt ∧ l1.toInt ≤ 599 → (-1) ≤ l2.toInt ∧ l2.toInt ≤ 11 → 0 ≤ l3.toInt ∧ l3.toInt ≤ 146399 → 0 ≤ l4.toInt ∧ l4.toInt ≤ 146399 → 0 ≤ l5.toInt ∧ l5.toInt ≤ 100 → jJ jSgX Dy h → jSm fp_X0_isCertified_r98d h0 h → K3 l1.toInt l2.toInt l3.toInt l4.toInt l5.toInt (vw h) = dr → vw h = vw h0 → jX m_X0_isCertified 2 0 0 3 [(0, .ref 98), (1, .int l1), (2, .int l2), (3, .int l3), (4, .int l4), (5, .int l5)] [] h 0 0 Q) : ∀ (l1 : Int32) (l2 : Int32) (l3 : Int32) (l4 : Int32) (l5 : Int32) (h : jH), (-1) ≤ l1.toInt ∧ l1.toInt ≤ 599 → (-1) ≤ l2.toInt ∧ l2.toInt ≤ 11 → 0 ≤ l3.toInt ∧ l3.toInt ≤ 146399 → 0 ≤ l4.toInt ∧ l4.toInt ≤ 146399 → 0 ≤ l5.toInt ∧ l5.toInt ≤ 99 → 100 - l5.toInt ≤ R3 → jJ jSgX Dy h → jSm fp_X0_isCertified_r98d h0 h → d_X0_isCertified_r98d_108 K3  l1.toInt l2.toInt l3.toInt l4.toInt l5.toInt (vw h) = dr → vw h = vw h0 → jX m_X0_isCertified 2 0 0 108 [(0, .ref 98), (1, .int l1), (2, .int l2), (3, .int l3), (4, .int l4), (5, .int l5)] [] h 0 0 Q := by
  intro l1 l2 l3 l4 l5 h y0 y1 y2 y3 y4  m3 J Sm D EV
  unfold d_X0_isCertified_r98d_108 at D
  refine x_aloadn (x := 98) rfl rfl ?_
  refine z_getR (N := 16) (b := 78) 0 1 rfl f_0_61 rfl J rfl 12545 ⟨rfl, rfl⟩ rfl ?_
  refine x_aloadn (x := 98) rfl rfl ?_
  refine z_getR (N := 16) (b := 32) 0 0 rfl f_0_57 rfl J rfl 12544 ⟨rfl, rfl⟩ rfl ?_
  refine z_getR (N := 20) (b := 43) 1 5 rfl f_0_186 rfl J rfl 4101 ⟨rfl, rfl⟩ rfl ?_
  refine x_iload (x := l5) rfl rfl ?_
  refine x_iconst (v := 3) rfl ki_3 ?_
  refine x_inv (N := m_X8_at) (As := [.int l5, .int 3]) (b := 43) (st := [.ref 78]) (dx9 := 1) (mc := 0) (ms := 0) (host := "") 8 rfl t_X8_at ⟨Or.inl q_0_145, i_X8_at.1, i_X8_at.2⟩ ⟨by decide, rfl⟩ (congrArg Prod.fst (J.1.1 43 (8, 4) rfl)) rfl (by decide) rfl rfl ⟨by decide, by decide⟩ (sf_X8_at_r43_c3d (jr_of rfl (by omega)) hD J rfl  (fun v4 h ev4 J S1 X2 X3 => ?_))
  have Sm := jSm_tr rfl Sm S1
  try rw [X2] at D
  try rw [← X3] at D
  have EV := X3.trans EV
  show jX m_X0_isCertified 2 0 0 125 [(0, .ref 98), (1, .int l1), (2, .int l2), (3, .int l3), (4, .int l4), (5, .int l5)] [.int v4, .ref 78] _ 0 0 _
  refine x_inv (N := m_X7_soulAt) (As := [.int v4]) (b := 78) (st := []) (dx9 := 1) (mc := 0) (ms := 0) (host := "") 7 rfl t_X7_soulAt ⟨Or.inl q_0_139, i_X7_soulAt.1, i_X7_soulAt.2⟩ ⟨by decide, rfl⟩ (congrArg Prod.fst (J.1.1 78 (7, 16) rfl)) rfl (by decide) rfl rfl ⟨by decide, by decide⟩ (jC.of rfl k_X7_soulAt rfl ?_)
  show jX m_X7_soulAt 1 0 0 0 [(0, .ref 78), (1, .int v4)] [] _ 0 0 _
  refine x_iloadn (x := v4) rfl rfl ?_
  refine x_iflt (tgt := 36) rfl rfl (ti_lt rfl jk_0 (br_f (by omega) ?_))
  refine x_iloadn (x := v4) rfl rfl ?_
  refine x_sipush (v := 600) rfl ks_600 ?_
  refine x_icge (tgt := 36) rfl rfl (ti_ge rfl jk_600 (br_f (by omega) ?_))
  refine x_iloadn (x := v4) rfl rfl ?_
  refine x_iconst (v := 3) rfl ki_3 ?_
  refine z_idiv rfl rfl jk_3 (by omega) (by omega) (fun v5 ev5 => ?_)
  refine x_aloadn (x := 78) rfl rfl ?_
  refine z_getR (N := 16) (b := 32) 7 0 rfl f_7_55 rfl J rfl 9984 ⟨rfl, rfl⟩ rfl ?_
  refine z_getR (N := 20) (b := 33) 1 0 rfl f_7_63 rfl J rfl 4096 ⟨rfl, rfl⟩ rfl ?_
  refine z_getI (N := 4) 8 3 rfl f_7_85 rfl J rfl sg_33_3_4_1_0_1 (fun v6 qv6 ev6 => ?_)
  try rw [vrf qv6] at D
  refine x_icge (tgt := 36) rfl rfl (ti_ge rfl rfl ⟨fun c7 => ?_, fun c7 => ?_⟩)
  ·
    rw [if_pos (by omega)] at D
    refine x_iconst (v := (-1)) rfl ki_m1 ?_
    refine x_iret rfl rfl ?_
    show jX m_X0_isCertified 2 0 0 128 [(0, .ref 98), (1, .int l1), (2, .int l2), (3, .int l3), (4, .int l4), (5, .int l5)] [.int (-1)] _ 0 0 _
    refine x_iloadn (x := l1) rfl rfl ?_
    refine x_icne (tgt := 134) rfl rfl (ti_ne jk_m1 rfl ⟨fun c8 => ?_, fun c8 => ?_⟩)
    ·
      rw [if_neg (by omega)] at D
      exact jX.sub (jsb_c rfl (jsb_c rfl (jsb_c rfl (jsb_c rfl (jsb_c rfl (jsb_c rfl jsb_n)))))) (ct_X0_isCertified_r98d_134 hD hQ k3 l1 l2 l3 l4 l5 h (jr_of rfl (by omega)) (jr_of rfl (by omega)) (jr_of rfl (by omega)) (jr_of rfl (by omega)) (jr_of rfl (by omega)) (by omega) J Sm D EV)
    ·
      rw [if_pos (by omega)] at D
      refine x_iconst (v := 1) rfl ki_1 ?_
      refine x_zret rfl rfl (by decide) ?_
      exact hQ _ _ (jr_of jk_1 (by omega)) J Sm (D.symm.trans (show 1 = (1 : Int32).toInt from by have := jk_1; omega)) EV
  ·
    rw [if_neg (by omega)] at D
    refine x_aloadn (x := 78) rfl rfl ?_
    refine z_getR (N := 16) (b := 82) 7 10 rfl f_7_37 rfl J rfl 9994 ⟨rfl, rfl⟩ rfl ?_
    refine x_iloadn (x := v4) rfl rfl ?_
    refine z_iald (N := 600) rfl J rfl sg_82_0_600_1_0_1 rfl (by omega) (fun v9 qv9 ev9 => ?_)
    try rw [vrd qv9 (show v4.toInt = v4.toInt from by omega)] at D
    refine x_goto (tgt := 37) rfl rfl ?_
    refine x_iret rfl rfl ?_
    show jX m_X0_isCertified 2 0 0 128 [(0, .ref 98), (1, .int l1), (2, .int l2), (3, .int l3), (4, .int l4), (5, .int l5)] [.int v9] _ 0 0 _
    refine x_iloadn (x := l1) rfl rfl ?_
    refine x_icne (tgt := 134) rfl rfl (ti_ne rfl rfl ⟨fun c10 => ?_, fun c10 => ?_⟩)
    ·
      rw [if_neg (by omega)] at D
      exact jX.sub (jsb_c rfl (jsb_c rfl (jsb_c rfl (jsb_c rfl (jsb_c rfl (jsb_c rfl jsb_n)))))) (ct_X0_isCertified_r98d_134 hD hQ k3 l1 l2 l3 l4 l5 h (jr_of rfl (by omega)) (jr_of rfl (by omega)) (jr_of rfl (by omega)) (jr_of rfl (by omega)) (jr_of rfl (by omega)) (by omega) J Sm D EV)
    ·
      rw [if_pos (by omega)] at D
      refine x_iconst (v := 1) rfl ki_1 ?_
      refine x_zret rfl rfl (by decide) ?_
      exact hQ _ _ (jr_of jk_1 (by omega)) J Sm (D.symm.trans (show 1 = (1 : Int32).toInt from by have := jk_1; omega)) EV
set_option maxRecDepth 100000 in
set_option maxHeartbeats 4000000 in
theorem ct_X0_isCertified_r98d_3 {Dy : jH → Prop} {h0 : jH} {Q : Option Value → jH → Prop} {dr : Int} (hD : jDk Dy) (hQ : ∀ (v : Int32) hx9, 0 ≤ v.toInt ∧ v.toInt ≤ 1 → jJ jSgX Dy hx9 → jSm fp_X0_isCertified_r98d h0 hx9 → dr = v.toInt → vw hx9 = vw h0 → Q (some (.int v)) hx9) : ∀ r : Nat, ∀ (l1 : Int32) (l2 : Int32) (l3 : Int32) (l4 : Int32) (l5 : Int32) (h : jH), 100 - l5.toInt < (r : Int) → (-1) ≤ l1.toInt ∧ l1.toInt ≤ 599 → (-1) ≤ l2.toInt ∧ l2.toInt ≤ 11 → 0 ≤ l3.toInt ∧ l3.toInt ≤ 146399 → 0 ≤ l4.toInt ∧ l4.toInt ≤ 146399 → 0 ≤ l5.toInt ∧ l5.toInt ≤ 100 → jJ jSgX Dy h → jSm fp_X0_isCertified_r98d h0 h → d_X0_isCertified_r98d_3 r l1.toInt l2.toInt l3.toInt l4.toInt l5.toInt (vw h) = dr → vw h = vw h0 → jX m_X0_isCertified 2 0 0 3 [(0, .ref 98), (1, .int l1), (2, .int l2), (3, .int l3), (4, .int l4), (5, .int l5)] [] h 0 0 Q := by
  intro r
  induction r with
  | zero =>
    intro l1 l2 l3 l4 l5 h hm y0 y1 y2 y3 y4   J Sm D EV
    exfalso
    omega
  | succ r ih =>
    intro l1 l2 l3 l4 l5 h hm y0 y1 y2 y3 y4   J Sm D EV
    rw [d_X0_isCertified_r98d_3.eq_2] at D
    refine x_iload (x := l5) rfl rfl ?_
    refine x_aloadn (x := 98) rfl rfl ?_
    refine z_getR (N := 16) (b := 32) 0 0 rfl f_0_57 rfl J rfl 12544 ⟨rfl, rfl⟩ rfl ?_
    refine z_getR (N := 20) (b := 43) 1 5 rfl f_0_186 rfl J rfl 4101 ⟨rfl, rfl⟩ rfl ?_
    refine z_getI (N := 4) 8 3 rfl f_0_124 rfl J rfl sg_43_3_4_1_0_1 (fun v1 qv1 ev1 => ?_)
    try rw [vrf qv1] at D
    refine x_icge (tgt := 140) rfl rfl (ti_ge rfl rfl ⟨fun c2 => ?_, fun c2 => ?_⟩)
    ·
      rw [if_pos (by omega)] at D
      refine x_iconst (v := 0) rfl ki_0 ?_
      refine x_zret rfl rfl (by decide) ?_
      exact hQ _ _ (jr_of jk_0 (by omega)) J Sm (D.symm.trans (show 0 = (0 : Int32).toInt from by have := jk_0; omega)) EV
    ·
      rw [if_neg (by omega)] at D
      refine x_aloadn (x := 98) rfl rfl ?_
      refine z_getR (N := 16) (b := 32) 0 0 rfl f_0_57 rfl J rfl 12544 ⟨rfl, rfl⟩ rfl ?_
      refine z_getR (N := 20) (b := 43) 1 5 rfl f_0_186 rfl J rfl 4101 ⟨rfl, rfl⟩ rfl ?_
      refine x_iload (x := l5) rfl rfl ?_
      refine x_iconst (v := 4) rfl ki_4 ?_
      refine x_inv (N := m_X8_at) (As := [.int l5, .int 4]) (b := 43) (st := []) (dx9 := 1) (mc := 0) (ms := 0) (host := "") 8 rfl t_X8_at ⟨Or.inl q_0_145, i_X8_at.1, i_X8_at.2⟩ ⟨by decide, rfl⟩ (congrArg Prod.fst (J.1.1 43 (8, 4) rfl)) rfl (by decide) rfl rfl ⟨by decide, by decide⟩ (sf_X8_at_r43_c4d (jr_of rfl (by omega)) hD J rfl  (fun v6 h ev6 J S3 X4 X5 => ?_))
      have Sm := jSm_tr rfl Sm S3
      try rw [X4] at D
      try rw [← X5] at D
      have EV := X5.trans EV
      show jX m_X0_isCertified 2 0 0 31 [(0, .ref 98), (1, .int l1), (2, .int l2), (3, .int l3), (4, .int l4), (5, .int l5)] [.int v6] _ 0 0 _
      refine x_iconst (v := 4) rfl ki_4 ?_
      refine x_icne (tgt := 134) rfl rfl (ti_ne rfl jk_4 ⟨fun c7 => ?_, fun c7 => ?_⟩)
      ·
        rw [if_neg (by omega)] at D
        exact jX.sub (jsb_c rfl (jsb_c rfl (jsb_c rfl (jsb_c rfl (jsb_c rfl (jsb_c rfl jsb_n)))))) (ct_X0_isCertified_r98d_134 hD hQ ih l1 l2 l3 l4 l5 h (jr_of rfl (by omega)) (jr_of rfl (by omega)) (jr_of rfl (by omega)) (jr_of rfl (by omega)) (jr_of rfl (by omega)) (by omega) J Sm D EV)
      ·
        rw [if_pos (by omega)] at D
        refine x_aloadn (x := 98) rfl rfl ?_
        refine z_getR (N := 16) (b := 32) 0 0 rfl f_0_57 rfl J rfl 12544 ⟨rfl, rfl⟩ rfl ?_
        refine z_getR (N := 20) (b := 43) 1 5 rfl f_0_186 rfl J rfl 4101 ⟨rfl, rfl⟩ rfl ?_
        refine x_iload (x := l5) rfl rfl ?_
        refine x_iload (x := l4) rfl rfl ?_
        refine x_inv (N := m_X8_isKnown) (As := [.int l5, .int l4]) (b := 43) (st := []) (dx9 := 1) (mc := 0) (ms := 0) (host := "") 8 rfl t_X8_isKnown ⟨Or.inl q_0_151, i_X8_isKnown.1, i_X8_isKnown.2⟩ ⟨by decide, rfl⟩ (congrArg Prod.fst (J.1.1 43 (8, 4) rfl)) rfl (by decide) rfl rfl ⟨by decide, by decide⟩ (sf_X8_isKnown_r43d (jr_of rfl (by omega)) (jr_of rfl (by omega)) hD J rfl  (fun v11 h ev11 J S8 X9 X10 => ?_))
        have Sm := jSm_tr rfl Sm S8
        try rw [X9] at D
        try rw [← X10] at D
        have EV := X10.trans EV
        show jX m_X0_isCertified 2 0 0 49 [(0, .ref 98), (1, .int l1), (2, .int l2), (3, .int l3), (4, .int l4), (5, .int l5)] [.int v11] _ 0 0 _
        refine x_ifeq (tgt := 134) rfl rfl (ti_eq rfl jk_0 ⟨fun c12 => ?_, fun c12 => ?_⟩)
        ·
          rw [if_pos (by omega)] at D
          exact jX.sub (jsb_c rfl (jsb_c rfl (jsb_c rfl (jsb_c rfl (jsb_c rfl (jsb_c rfl jsb_n)))))) (ct_X0_isCertified_r98d_134 hD hQ ih l1 l2 l3 l4 l5 h (jr_of rfl (by omega)) (jr_of rfl (by omega)) (jr_of rfl (by omega)) (jr_of rfl (by omega)) (jr_of rfl (by omega)) (by omega) J Sm D EV)
        ·
          rw [if_neg (by omega)] at D
          refine x_aloadn (x := 98) rfl rfl ?_
          refine z_getR (N := 16) (b := 32) 0 0 rfl f_0_57 rfl J rfl 12544 ⟨rfl, rfl⟩ rfl ?_
          refine z_getR (N := 20) (b := 43) 1 5 rfl f_0_186 rfl J rfl 4101 ⟨rfl, rfl⟩ rfl ?_
          refine x_iload (x := l5) rfl rfl ?_
          refine x_iconst (v := 1) rfl ki_1 ?_
          refine x_inv (N := m_X8_at) (As := [.int l5, .int 1]) (b := 43) (st := []) (dx9 := 1) (mc := 0) (ms := 0) (host := "") 8 rfl t_X8_at ⟨Or.inl q_0_145, i_X8_at.1, i_X8_at.2⟩ ⟨by decide, rfl⟩ (congrArg Prod.fst (J.1.1 43 (8, 4) rfl)) rfl (by decide) rfl rfl ⟨by decide, by decide⟩ (sf_X8_at_r43_c1d (jr_of rfl (by omega)) hD J rfl  (fun v16 h ev16 J S13 X14 X15 => ?_))
          have Sm := jSm_tr rfl Sm S13
          try rw [X14] at D
          try rw [← X15] at D
          have EV := X15.trans EV
          show jX m_X0_isCertified 2 0 0 65 [(0, .ref 98), (1, .int l1), (2, .int l2), (3, .int l3), (4, .int l4), (5, .int l5)] [.int v16] _ 0 0 _
          refine x_iloadn (x := l3) rfl rfl ?_
          refine x_icgt (tgt := 134) rfl rfl (ti_gt rfl rfl ⟨fun c17 => ?_, fun c17 => ?_⟩)
          ·
            rw [if_pos (by omega)] at D
            exact jX.sub (jsb_c rfl (jsb_c rfl (jsb_c rfl (jsb_c rfl (jsb_c rfl (jsb_c rfl jsb_n)))))) (ct_X0_isCertified_r98d_134 hD hQ ih l1 l2 l3 l4 l5 h (jr_of rfl (by omega)) (jr_of rfl (by omega)) (jr_of rfl (by omega)) (jr_of rfl (by omega)) (jr_of rfl (by omega)) (by omega) J Sm D EV)
          ·
            rw [if_neg (by omega)] at D
            refine x_aloadn (x := 98) rfl rfl ?_
            refine z_getR (N := 16) (b := 32) 0 0 rfl f_0_57 rfl J rfl 12544 ⟨rfl, rfl⟩ rfl ?_
            refine z_getR (N := 20) (b := 43) 1 5 rfl f_0_186 rfl J rfl 4101 ⟨rfl, rfl⟩ rfl ?_
            refine x_iload (x := l5) rfl rfl ?_
            refine x_iconst (v := 2) rfl ki_2 ?_
            refine x_inv (N := m_X8_at) (As := [.int l5, .int 2]) (b := 43) (st := []) (dx9 := 1) (mc := 0) (ms := 0) (host := "") 8 rfl t_X8_at ⟨Or.inl q_0_145, i_X8_at.1, i_X8_at.2⟩ ⟨by decide, rfl⟩ (congrArg Prod.fst (J.1.1 43 (8, 4) rfl)) rfl (by decide) rfl rfl ⟨by decide, by decide⟩ (sf_X8_at_r43_c2d (jr_of rfl (by omega)) hD J rfl  (fun v21 h ev21 J S18 X19 X20 => ?_))
            have Sm := jSm_tr rfl Sm S18
            try rw [X19] at D
            try rw [← X20] at D
            have EV := X20.trans EV
            show jX m_X0_isCertified 2 0 0 82 [(0, .ref 98), (1, .int l1), (2, .int l2), (3, .int l3), (4, .int l4), (5, .int l5)] [.int v21] _ 0 0 _
            refine x_iloadn (x := l3) rfl rfl ?_
            refine x_iclt (tgt := 134) rfl rfl (ti_lt rfl rfl ⟨fun c22 => ?_, fun c22 => ?_⟩)
            ·
              rw [if_pos (by omega)] at D
              exact jX.sub (jsb_c rfl (jsb_c rfl (jsb_c rfl (jsb_c rfl (jsb_c rfl (jsb_c rfl jsb_n)))))) (ct_X0_isCertified_r98d_134 hD hQ ih l1 l2 l3 l4 l5 h (jr_of rfl (by omega)) (jr_of rfl (by omega)) (jr_of rfl (by omega)) (jr_of rfl (by omega)) (jr_of rfl (by omega)) (by omega) J Sm D EV)
            ·
              rw [if_neg (by omega)] at D
              refine x_iloadn (x := l2) rfl rfl ?_
              refine x_iconst (v := (-1)) rfl ki_m1 ?_
              refine x_iceq (tgt := 108) rfl rfl (ti_eq rfl jk_m1 ⟨fun c23 => ?_, fun c23 => ?_⟩)
              ·
                rw [if_pos (by omega)] at D
                exact jX.sub (jsb_c rfl (jsb_c rfl (jsb_c rfl (jsb_c rfl (jsb_c rfl (jsb_c rfl jsb_n)))))) (ct_X0_isCertified_r98d_108 hD hQ ih l1 l2 l3 l4 l5 h (jr_of rfl (by omega)) (jr_of rfl (by omega)) (jr_of rfl (by omega)) (jr_of rfl (by omega)) (jr_of rfl (by omega)) (by omega) J Sm D EV)
              ·
                rw [if_neg (by omega)] at D
                refine x_aloadn (x := 98) rfl rfl ?_
                refine z_getR (N := 16) (b := 32) 0 0 rfl f_0_57 rfl J rfl 12544 ⟨rfl, rfl⟩ rfl ?_
                refine z_getR (N := 20) (b := 43) 1 5 rfl f_0_186 rfl J rfl 4101 ⟨rfl, rfl⟩ rfl ?_
                refine x_iload (x := l5) rfl rfl ?_
                refine x_iconst (v := 5) rfl ki_5 ?_
                refine x_inv (N := m_X8_at) (As := [.int l5, .int 5]) (b := 43) (st := []) (dx9 := 1) (mc := 0) (ms := 0) (host := "") 8 rfl t_X8_at ⟨Or.inl q_0_145, i_X8_at.1, i_X8_at.2⟩ ⟨by decide, rfl⟩ (congrArg Prod.fst (J.1.1 43 (8, 4) rfl)) rfl (by decide) rfl rfl ⟨by decide, by decide⟩ (sf_X8_at_r43_c5d (jr_of rfl (by omega)) hD J rfl  (fun v27 h ev27 J S24 X25 X26 => ?_))
                have Sm := jSm_tr rfl Sm S24
                try rw [X25] at D
                try rw [← X26] at D
                have EV := X26.trans EV
                show jX m_X0_isCertified 2 0 0 104 [(0, .ref 98), (1, .int l1), (2, .int l2), (3, .int l3), (4, .int l4), (5, .int l5)] [.int v27] _ 0 0 _
                refine x_iloadn (x := l2) rfl rfl ?_
                refine x_icne (tgt := 134) rfl rfl (ti_ne rfl rfl ⟨fun c28 => ?_, fun c28 => ?_⟩)
                ·
                  rw [if_neg (by omega)] at D
                  exact jX.sub (jsb_c rfl (jsb_c rfl (jsb_c rfl (jsb_c rfl (jsb_c rfl (jsb_c rfl jsb_n)))))) (ct_X0_isCertified_r98d_134 hD hQ ih l1 l2 l3 l4 l5 h (jr_of rfl (by omega)) (jr_of rfl (by omega)) (jr_of rfl (by omega)) (jr_of rfl (by omega)) (jr_of rfl (by omega)) (by omega) J Sm D EV)
                ·
                  rw [if_pos (by omega)] at D
                  exact jX.sub (jsb_c rfl (jsb_c rfl (jsb_c rfl (jsb_c rfl (jsb_c rfl (jsb_c rfl jsb_n)))))) (ct_X0_isCertified_r98d_108 hD hQ ih l1 l2 l3 l4 l5 h (jr_of rfl (by omega)) (jr_of rfl (by omega)) (jr_of rfl (by omega)) (jr_of rfl (by omega)) (jr_of rfl (by omega)) (by omega) J Sm D EV)
set_option maxRecDepth 100000 in
set_option maxHeartbeats 4000000 in
theorem sf_X0_isCertified_r98d {Dy : jH → Prop} {h : jH} {Q : Option Value → jH → Prop} {dr : Int} {a1 : Int32} {a2 : Int32} {a3 : Int32} {a4 : Int32} (y1 : (-1) ≤ a1.toInt ∧ a1.toInt ≤ 599) (y2 : (-1) ≤ a2.toInt ∧ a2.toInt ≤ 11) (y3 : 0 ≤ a3.toInt ∧ a3.toInt ≤ 146399) (y4 : 0 ≤ a4.toInt ∧ a4.toInt ≤ 146399) (hD : jDk Dy) (J : jJ jSgX Dy h) (D : d_X0_isCertified_r98d a1.toInt a2.toInt a3.toInt a4.toInt (vw h) = dr) (hQ : ∀ (v : Int32) hx9, 0 ≤ v.toInt ∧ v.toInt ≤ 1 → jJ jSgX Dy hx9 → jSm fp_X0_isCertified_r98d h hx9 → dr = v.toInt → vw hx9 = vw h → Q (some (.int v)) hx9) : jC m_X0_isCertified 2 0 0 [.ref 98, .int a1, .int a2, .int a3, .int a4] h Q := by
  refine jC.of rfl k_X0_isCertified rfl ?_
  have Sm := jSm_rf fp_X0_isCertified_r98d h
  show jX m_X0_isCertified 2 0 0 0 [(0, .ref 98), (1, .int a1), (2, .int a2), (3, .int a3), (4, .int a4)] [] _ 0 0 _
  unfold d_X0_isCertified_r98d at D
  have EV : vw h = vw h := rfl
  refine x_iconst (v := 0) rfl ki_0 ?_
  refine x_istore (lsx9 := [(5, .int 0), (0, .ref 98), (1, .int a1), (2, .int a2), (3, .int a3), (4, .int a4)]) rfl rfl rfl ?_
  exact jX.sub (jsb_c rfl (jsb_c rfl (jsb_c rfl (jsb_c rfl (jsb_c rfl (jsb_c rfl jsb_n)))))) (ct_X0_isCertified_r98d_3 hD hQ  101 a1 a2 a3 a4 0 h (by have := jk_0; omega) (jr_of rfl (by omega)) (jr_of rfl (by omega)) (jr_of rfl (by omega)) (jr_of rfl (by omega)) (jr_of jk_0 (by omega)) J Sm (by rw [jk_0]; exact D) EV)
def fp_X0_valueOf_r98d : jFp := []
set_option maxRecDepth 100000 in
set_option maxHeartbeats 4000000 in
theorem ct_X0_valueOf_r98d_55 {Dy : jH → Prop} {h0 : jH} {Q : Option Value → jH → Prop} {dr : Int} (hD : jDk Dy) (hQ : ∀ (v : Int64) hx9, jJ jSgX Dy hx9 → jSm fp_X0_valueOf_r98d h0 hx9 → dr = v.toInt → vw hx9 = vw h0 → Q (some (.long v)) hx9) : ∀ (l2 : Int64) (h : jH), jJ jSgX Dy h → jSm fp_X0_valueOf_r98d h0 h → d_X0_valueOf_r98d_55  l2.toInt (vw h) = dr → vw h = vw h0 → jX m_X0_valueOf 1 0 0 55 [(2, .long l2)] [] h 0 0 Q := by
  intro l2 h    J Sm D EV
  have el2 := jfullL l2
  unfold d_X0_valueOf_r98d_55 at D
  refine x_lloadn (x := l2) rfl rfl ?_
  refine x_lret rfl rfl ?_
  exact hQ _ _ J Sm (D.symm.trans (show l2.toInt = l2.toInt from by omega)) EV
set_option maxRecDepth 100000 in
set_option maxHeartbeats 4000000 in
theorem ct_X0_valueOf_r98d_49 {Dy : jH → Prop} {h0 : jH} {Q : Option Value → jH → Prop} {dr : Int} {K5 : Int → Int → Int → jW → Int} {R5 : Int} (hD : jDk Dy) (hQ : ∀ (v : Int64) hx9, jJ jSgX Dy hx9 → jSm fp_X0_valueOf_r98d h0 hx9 → dr = v.toInt → vw hx9 = vw h0 → Q (some (.long v)) hx9) (k5 : ∀ (l1 : Int32) (l2 : Int64) (l4 : Int32) (h : jH), 40 - l4.toInt < R5 → (-1) ≤ l1.toInt ∧ l1.toInt ≤ 599 → 0 ≤ l4.toInt ∧ l4.toInt ≤ 40 → jJ jSgX Dy h → jSm fp_X0_valueOf_r98d h0 h → K5 l1.toInt l2.toInt l4.toInt (vw h) = dr → vw h = vw h0 → jX m_X0_valueOf 1 0 0 5 [(0, .ref 98), (1, .int l1), (2, .long l2), (4, .int l4)] [] h 0 0 Q) : ∀ (l1 : Int32) (l2 : Int64) (l4 : Int32) (h : jH), (-1) ≤ l1.toInt ∧ l1.toInt ≤ 599 → 0 ≤ l4.toInt ∧ l4.toInt ≤ 39 → 40 - l4.toInt ≤ R5 → jJ jSgX Dy h → jSm fp_X0_valueOf_r98d h0 h → d_X0_valueOf_r98d_49 K5  l1.toInt l2.toInt l4.toInt (vw h) = dr → vw h = vw h0 → jX m_X0_valueOf 1 0 0 49 [(0, .ref 98), (1, .int l1), (2, .long l2), (4, .int l4)] [] h 0 0 Q := by
  intro l1 l2 l4 h y0 y1  m5 J Sm D EV
  have el2 := jfullL l2
  unfold d_X0_valueOf_r98d_49 at D
  refine z_iinc (x := l4) (lsx9 := fun v1 => [(4, .int v1), (0, .ref 98), (1, .int l1), (2, .long l2)]) rfl rfl rfl jko_1 (by omega) rfl (fun _ => rfl) (fun v1 ev1 => ?_)
  refine x_goto (tgt := 5) rfl rfl ?_
  try rw [show (l4.toInt + 1) = v1.toInt from by omega] at D
  exact jX.sub (jsb_c rfl (jsb_c rfl (jsb_c rfl (jsb_c rfl jsb_n)))) (k5 l1 l2 v1 h (by omega) (jr_of rfl (by omega)) (jr_of rfl (by omega)) J Sm D EV)
set_option maxRecDepth 100000 in
set_option maxHeartbeats 4000000 in
theorem ct_X0_valueOf_r98d_5 {Dy : jH → Prop} {h0 : jH} {Q : Option Value → jH → Prop} {dr : Int} (hD : jDk Dy) (hQ : ∀ (v : Int64) hx9, jJ jSgX Dy hx9 → jSm fp_X0_valueOf_r98d h0 hx9 → dr = v.toInt → vw hx9 = vw h0 → Q (some (.long v)) hx9) : ∀ r : Nat, ∀ (l1 : Int32) (l2 : Int64) (l4 : Int32) (h : jH), 40 - l4.toInt < (r : Int) → (-1) ≤ l1.toInt ∧ l1.toInt ≤ 599 → 0 ≤ l4.toInt ∧ l4.toInt ≤ 40 → jJ jSgX Dy h → jSm fp_X0_valueOf_r98d h0 h → d_X0_valueOf_r98d_5 r l1.toInt l2.toInt l4.toInt (vw h) = dr → vw h = vw h0 → jX m_X0_valueOf 1 0 0 5 [(0, .ref 98), (1, .int l1), (2, .long l2), (4, .int l4)] [] h 0 0 Q := by
  intro r
  induction r with
  | zero =>
    intro l1 l2 l4 h hm y0 y1   J Sm D EV
    exfalso
    have el2 := jfullL l2
    omega
  | succ r ih =>
    intro l1 l2 l4 h hm y0 y1   J Sm D EV
    have el2 := jfullL l2
    rw [d_X0_valueOf_r98d_5.eq_2] at D
    refine x_iload (x := l4) rfl rfl ?_
    refine x_bipush (v := 40) rfl kb_40 ?_
    refine x_icge (tgt := 55) rfl rfl (ti_ge rfl jk_40 ⟨fun c1 => ?_, fun c1 => ?_⟩)
    ·
      rw [if_pos (by omega)] at D
      exact jX.sub (jsb_c rfl jsb_n) (ct_X0_valueOf_r98d_55 hD hQ  l2 h J Sm D EV)
    ·
      rw [if_neg (by omega)] at D
      refine x_iload (x := l4) rfl rfl ?_
      refine x_aloadn (x := 98) rfl rfl ?_
      refine z_getR (N := 16) (b := 32) 0 0 rfl f_0_57 rfl J rfl 12544 ⟨rfl, rfl⟩ rfl ?_
      refine z_getR (N := 20) (b := 49) 1 8 rfl f_0_120 rfl J rfl 4104 ⟨rfl, rfl⟩ rfl ?_
      refine z_getI (N := 4) 8 3 rfl f_0_124 rfl J rfl sg_49_3_4_1_0_1 (fun v2 qv2 ev2 => ?_)
      try rw [vrf qv2] at D
      refine x_icge (tgt := 55) rfl rfl (ti_ge rfl rfl ⟨fun c3 => ?_, fun c3 => ?_⟩)
      ·
        rw [if_pos (by omega)] at D
        exact jX.sub (jsb_c rfl jsb_n) (ct_X0_valueOf_r98d_55 hD hQ  l2 h J Sm D EV)
      ·
        rw [if_neg (by omega)] at D
        refine x_aloadn (x := 98) rfl rfl ?_
        refine z_getR (N := 16) (b := 103) 0 6 rfl f_0_24 rfl J rfl 12550 ⟨rfl, rfl⟩ rfl ?_
        refine x_iload (x := l4) rfl rfl ?_
        refine z_iald (N := 40) rfl J rfl sg_103_0_40_1_0_1 rfl (by omega) (fun v4 qv4 ev4 => ?_)
        try rw [vrd qv4 (show l4.toInt = l4.toInt from by omega)] at D
        refine x_iloadn (x := l1) rfl rfl ?_
        refine x_icne (tgt := 49) rfl rfl (ti_ne rfl rfl ⟨fun c5 => ?_, fun c5 => ?_⟩)
        ·
          rw [if_neg (by omega)] at D
          exact jX.sub (jsb_c rfl (jsb_c rfl (jsb_c rfl (jsb_c rfl jsb_n)))) (ct_X0_valueOf_r98d_49 hD hQ ih l1 l2 l4 h (jr_of rfl (by omega)) (jr_of rfl (by omega)) (by omega) J Sm D EV)
        ·
          rw [if_pos (by omega)] at D
          refine x_lloadn (x := l2) rfl rfl ?_
          refine x_aloadn (x := 98) rfl rfl ?_
          refine z_getR (N := 16) (b := 102) 0 5 rfl f_0_21 rfl J rfl 12549 ⟨rfl, rfl⟩ rfl ?_
          refine x_iload (x := l4) rfl rfl ?_
          refine z_iald0 (N := 40) rfl J rfl rfl (by omega) (fun v6 qv6 => ?_)
          have ev6 := jfull v6
          try rw [vrd qv6 (show l4.toInt = l4.toInt from by omega)] at D
          refine z_i2l rfl rfl (fun v7 ev7 => ?_)
          refine z_laddW rfl rfl rfl (fun v8 ev8 => ?_)
          have fv8 := jfullL v8
          try rw [show v6.toInt = v7.toInt from by omega] at D
          try rw [← ev8] at D
          refine x_lstoren (lsx9 := [(2, .long v8), (0, .ref 98), (1, .int l1), (4, .int l4)]) rfl rfl rfl ?_
          exact jX.sub (jsb_c rfl (jsb_c rfl (jsb_c rfl (jsb_c rfl jsb_n)))) (ct_X0_valueOf_r98d_49 hD hQ ih l1 v8 l4 h (jr_of rfl (by omega)) (jr_of rfl (by omega)) (by omega) J Sm D EV)
set_option maxRecDepth 100000 in
set_option maxHeartbeats 4000000 in
theorem sf_X0_valueOf_r98d {Dy : jH → Prop} {h : jH} {Q : Option Value → jH → Prop} {dr : Int} {a1 : Int32} (y1 : (-1) ≤ a1.toInt ∧ a1.toInt ≤ 599) (hD : jDk Dy) (J : jJ jSgX Dy h) (D : d_X0_valueOf_r98d a1.toInt (vw h) = dr) (hQ : ∀ (v : Int64) hx9, jJ jSgX Dy hx9 → jSm fp_X0_valueOf_r98d h hx9 → dr = v.toInt → vw hx9 = vw h → Q (some (.long v)) hx9) : jC m_X0_valueOf 1 0 0 [.ref 98, .int a1] h Q := by
  refine jC.of rfl k_X0_valueOf rfl ?_
  have Sm := jSm_rf fp_X0_valueOf_r98d h
  show jX m_X0_valueOf 1 0 0 0 [(0, .ref 98), (1, .int a1)] [] _ 0 0 _
  unfold d_X0_valueOf_r98d at D
  have EV : vw h = vw h := rfl
  refine x_lconst (v := 0) rfl kl_0 ?_
  refine x_lstoren (lsx9 := [(2, .long 0), (0, .ref 98), (1, .int a1)]) rfl rfl rfl ?_
  refine x_iconst (v := 0) rfl ki_0 ?_
  refine x_istore (lsx9 := [(4, .int 0), (2, .long 0), (0, .ref 98), (1, .int a1)]) rfl rfl rfl ?_
  exact jX.sub (jsb_c rfl (jsb_c rfl (jsb_c rfl (jsb_c rfl jsb_n)))) (ct_X0_valueOf_r98d_5 hD hQ  41 a1 0 0 h (by have := jk_0; omega) (jr_of rfl (by omega)) (jr_of jk_0 (by omega)) J Sm (by rw [jkl_0, jk_0]; exact D) EV)
def fp_X7_hasBy_r78d : jFp := []
set_option maxRecDepth 100000 in
set_option maxHeartbeats 4000000 in
theorem ct_X7_hasBy_r78d_59 {Dy : jH → Prop} {h0 : jH} {Q : Option Value → jH → Prop} {dr : Int} (hD : jDk Dy) (hQ : ∀ (v : Int32) hx9, 0 ≤ v.toInt ∧ v.toInt ≤ 1 → jJ jSgX Dy hx9 → jSm fp_X7_hasBy_r78d h0 hx9 → dr = v.toInt → vw hx9 = vw h0 → Q (some (.int v)) hx9) : ∀ (h : jH), jJ jSgX Dy h → jSm fp_X7_hasBy_r78d h0 h → d_X7_hasBy_r78d_59  (vw h) = dr → vw h = vw h0 → jX m_X7_hasBy 1 0 0 59 [] [] h 0 0 Q := by
  intro  h    J Sm D EV
  unfold d_X7_hasBy_r78d_59 at D
  refine x_iconst (v := 0) rfl ki_0 ?_
  refine x_zret rfl rfl (by decide) ?_
  exact hQ _ _ (jr_of jk_0 (by omega)) J Sm (D.symm.trans (show 0 = (0 : Int32).toInt from by have := jk_0; omega)) EV
set_option maxRecDepth 100000 in
set_option maxHeartbeats 4000000 in
theorem ct_X7_hasBy_r78d_44 {Dy : jH → Prop} {h0 : jH} {Q : Option Value → jH → Prop} {dr : Int} {K6 : Int → Int → Int → Int → jW → Int} {R6 : Int} (hD : jDk Dy) (hQ : ∀ (v : Int32) hx9, 0 ≤ v.toInt ∧ v.toInt ≤ 1 → jJ jSgX Dy hx9 → jSm fp_X7_hasBy_r78d h0 hx9 → dr = v.toInt → vw hx9 = vw h0 → Q (some (.int v)) hx9) (k6 : ∀ (l2 : Int32) (l3 : Int32) (l4 : Int32) (l5 : Int32) (h : jH), 600 - l5.toInt < R6 → 0 ≤ l2.toInt ∧ l2.toInt ≤ 5 → 0 ≤ l3.toInt ∧ l3.toInt ≤ 146399 → (-1) ≤ l4.toInt ∧ l4.toInt ≤ 599 → 0 ≤ l5.toInt ∧ l5.toInt ≤ 600 → jJ jSgX Dy h → jSm fp_X7_hasBy_r78d h0 h → K6 l2.toInt l3.toInt l4.toInt l5.toInt (vw h) = dr → vw h = vw h0 → jX m_X7_hasBy 1 0 0 6 [(0, .ref 78), (2, .int l2), (3, .int l3), (4, .int l4), (5, .int l5)] [] h 0 0 Q) : ∀ (l2 : Int32) (l3 : Int32) (l4 : Int32) (l5 : Int32) (h : jH), 0 ≤ l2.toInt ∧ l2.toInt ≤ 5 → 0 ≤ l3.toInt ∧ l3.toInt ≤ 146399 → 0 ≤ l4.toInt ∧ l4.toInt ≤ 599 → 0 ≤ l5.toInt ∧ l5.toInt ≤ 599 → 600 - l5.toInt ≤ R6 → jJ jSgX Dy h → jSm fp_X7_hasBy_r78d h0 h → d_X7_hasBy_r78d_44 K6  l2.toInt l3.toInt l4.toInt l5.toInt (vw h) = dr → vw h = vw h0 → jX m_X7_hasBy 1 0 0 44 [(0, .ref 78), (2, .int l2), (3, .int l3), (4, .int l4), (5, .int l5)] [] h 0 0 Q := by
  intro l2 l3 l4 l5 h y0 y1 y2 y3  m6 J Sm D EV
  unfold d_X7_hasBy_r78d_44 at D
  refine x_aloadn (x := 78) rfl rfl ?_
  refine z_getR (N := 16) (b := 83) 7 11 rfl f_7_40 rfl J rfl 9995 ⟨rfl, rfl⟩ rfl ?_
  refine x_iload (x := l4) rfl rfl ?_
  refine z_iald (N := 600) rfl J rfl sg_83_0_600_1_0_1 rfl (by omega) (fun v1 qv1 ev1 => ?_)
  try rw [vrd qv1 (show l4.toInt = l4.toInt from by omega)] at D
  refine x_istore (lsx9 := [(4, .int v1), (0, .ref 78), (2, .int l2), (3, .int l3), (5, .int l5)]) rfl rfl rfl ?_
  refine z_iinc (x := l5) (lsx9 := fun v2 => [(5, .int v2), (4, .int v1), (0, .ref 78), (2, .int l2), (3, .int l3)]) rfl rfl rfl jko_1 (by omega) rfl (fun _ => rfl) (fun v2 ev2 => ?_)
  refine x_goto (tgt := 6) rfl rfl ?_
  try rw [show (l5.toInt + 1) = v2.toInt from by omega] at D
  exact jX.sub (jsb_c rfl (jsb_c rfl (jsb_c rfl (jsb_c rfl (jsb_c rfl jsb_n))))) (k6 l2 l3 v1 v2 h (by omega) (jr_of rfl (by omega)) (jr_of rfl (by omega)) (jr_of rfl (by omega)) (jr_of rfl (by omega)) J Sm D EV)
set_option maxRecDepth 100000 in
set_option maxHeartbeats 4000000 in
theorem ct_X7_hasBy_r78d_6 {Dy : jH → Prop} {h0 : jH} {Q : Option Value → jH → Prop} {dr : Int} (hD : jDk Dy) (hQ : ∀ (v : Int32) hx9, 0 ≤ v.toInt ∧ v.toInt ≤ 1 → jJ jSgX Dy hx9 → jSm fp_X7_hasBy_r78d h0 hx9 → dr = v.toInt → vw hx9 = vw h0 → Q (some (.int v)) hx9) : ∀ r : Nat, ∀ (l2 : Int32) (l3 : Int32) (l4 : Int32) (l5 : Int32) (h : jH), 600 - l5.toInt < (r : Int) → 0 ≤ l2.toInt ∧ l2.toInt ≤ 5 → 0 ≤ l3.toInt ∧ l3.toInt ≤ 146399 → (-1) ≤ l4.toInt ∧ l4.toInt ≤ 599 → 0 ≤ l5.toInt ∧ l5.toInt ≤ 600 → jJ jSgX Dy h → jSm fp_X7_hasBy_r78d h0 h → d_X7_hasBy_r78d_6 r l2.toInt l3.toInt l4.toInt l5.toInt (vw h) = dr → vw h = vw h0 → jX m_X7_hasBy 1 0 0 6 [(0, .ref 78), (2, .int l2), (3, .int l3), (4, .int l4), (5, .int l5)] [] h 0 0 Q := by
  intro r
  induction r with
  | zero =>
    intro l2 l3 l4 l5 h hm y0 y1 y2 y3   J Sm D EV
    exfalso
    omega
  | succ r ih =>
    intro l2 l3 l4 l5 h hm y0 y1 y2 y3   J Sm D EV
    rw [d_X7_hasBy_r78d_6.eq_2] at D
    refine x_iload (x := l4) rfl rfl ?_
    refine x_iconst (v := (-1)) rfl ki_m1 ?_
    refine x_iceq (tgt := 59) rfl rfl (ti_eq rfl jk_m1 ⟨fun c1 => ?_, fun c1 => ?_⟩)
    ·
      rw [if_pos (by omega)] at D
      exact jX.sub jsb_n (ct_X7_hasBy_r78d_59 hD hQ  h J Sm D EV)
    ·
      rw [if_neg (by omega)] at D
      refine x_iload (x := l5) rfl rfl ?_
      refine x_sipush (v := 600) rfl ks_600 ?_
      refine x_icge (tgt := 59) rfl rfl (ti_ge rfl jk_600 ⟨fun c2 => ?_, fun c2 => ?_⟩)
      ·
        rw [if_pos (by omega)] at D
        exact jX.sub jsb_n (ct_X7_hasBy_r78d_59 hD hQ  h J Sm D EV)
      ·
        rw [if_neg (by omega)] at D
        refine x_aloadn (x := 78) rfl rfl ?_
        refine z_getR (N := 16) (b := 79) 7 7 rfl f_7_27 rfl J rfl 9991 ⟨rfl, rfl⟩ rfl ?_
        refine x_iload (x := l4) rfl rfl ?_
        refine z_iald (N := 600) rfl J rfl sg_79_0_600_1_0_1 rfl (by omega) (fun v3 qv3 ev3 => ?_)
        try rw [vrd qv3 (show l4.toInt = l4.toInt from by omega)] at D
        refine x_iloadn (x := l2) rfl rfl ?_
        refine x_icne (tgt := 44) rfl rfl (ti_ne rfl rfl ⟨fun c4 => ?_, fun c4 => ?_⟩)
        ·
          rw [if_neg (by omega)] at D
          exact jX.sub (jsb_c rfl (jsb_c rfl (jsb_c rfl (jsb_c rfl (jsb_c rfl jsb_n))))) (ct_X7_hasBy_r78d_44 hD hQ ih l2 l3 l4 l5 h (jr_of rfl (by omega)) (jr_of rfl (by omega)) (jr_of rfl (by omega)) (jr_of rfl (by omega)) (by omega) J Sm D EV)
        ·
          rw [if_pos (by omega)] at D
          refine x_aloadn (x := 78) rfl rfl ?_
          refine z_getR (N := 16) (b := 80) 7 8 rfl f_7_31 rfl J rfl 9992 ⟨rfl, rfl⟩ rfl ?_
          refine x_iload (x := l4) rfl rfl ?_
          refine z_iald (N := 600) rfl J rfl sg_80_0_600_1_0_1 rfl (by omega) (fun v5 qv5 ev5 => ?_)
          try rw [vrd qv5 (show l4.toInt = l4.toInt from by omega)] at D
          refine x_iloadn (x := l3) rfl rfl ?_
          refine x_icgt (tgt := 44) rfl rfl (ti_gt rfl rfl ⟨fun c6 => ?_, fun c6 => ?_⟩)
          ·
            rw [if_pos (by omega)] at D
            exact jX.sub (jsb_c rfl (jsb_c rfl (jsb_c rfl (jsb_c rfl (jsb_c rfl jsb_n))))) (ct_X7_hasBy_r78d_44 hD hQ ih l2 l3 l4 l5 h (jr_of rfl (by omega)) (jr_of rfl (by omega)) (jr_of rfl (by omega)) (jr_of rfl (by omega)) (by omega) J Sm D EV)
          ·
            rw [if_neg (by omega)] at D
            refine x_iconst (v := 1) rfl ki_1 ?_
            refine x_zret rfl rfl (by decide) ?_
            exact hQ _ _ (jr_of jk_1 (by omega)) J Sm (D.symm.trans (show 1 = (1 : Int32).toInt from by have := jk_1; omega)) EV
set_option maxRecDepth 100000 in
set_option maxHeartbeats 4000000 in
theorem sf_X7_hasBy_r78d {Dy : jH → Prop} {h : jH} {Q : Option Value → jH → Prop} {dr : Int} {a1 : Int32} {a2 : Int32} {a3 : Int32} (y1 : (-1) ≤ a1.toInt ∧ a1.toInt ≤ 599) (y2 : 0 ≤ a2.toInt ∧ a2.toInt ≤ 5) (y3 : 0 ≤ a3.toInt ∧ a3.toInt ≤ 146399) (hD : jDk Dy) (J : jJ jSgX Dy h) (D : d_X7_hasBy_r78d a1.toInt a2.toInt a3.toInt (vw h) = dr) (hQ : ∀ (v : Int32) hx9, 0 ≤ v.toInt ∧ v.toInt ≤ 1 → jJ jSgX Dy hx9 → jSm fp_X7_hasBy_r78d h hx9 → dr = v.toInt → vw hx9 = vw h → Q (some (.int v)) hx9) : jC m_X7_hasBy 1 0 0 [.ref 78, .int a1, .int a2, .int a3] h Q := by
  refine jC.of rfl k_X7_hasBy rfl ?_
  have Sm := jSm_rf fp_X7_hasBy_r78d h
  show jX m_X7_hasBy 1 0 0 0 [(0, .ref 78), (1, .int a1), (2, .int a2), (3, .int a3)] [] _ 0 0 _
  unfold d_X7_hasBy_r78d at D
  have EV : vw h = vw h := rfl
  refine x_iloadn (x := a1) rfl rfl ?_
  refine x_istore (lsx9 := [(4, .int a1), (0, .ref 78), (1, .int a1), (2, .int a2), (3, .int a3)]) rfl rfl rfl ?_
  refine x_iconst (v := 0) rfl ki_0 ?_
  refine x_istore (lsx9 := [(5, .int 0), (4, .int a1), (0, .ref 78), (1, .int a1), (2, .int a2), (3, .int a3)]) rfl rfl rfl ?_
  exact jX.sub (jsb_c rfl (jsb_c rfl (jsb_c rfl (jsb_c rfl (jsb_c rfl jsb_n))))) (ct_X7_hasBy_r78d_6 hD hQ  601 a2 a3 a1 0 h (by have := jk_0; omega) (jr_of rfl (by omega)) (jr_of rfl (by omega)) (jr_of rfl (by omega)) (jr_of jk_0 (by omega)) J Sm (by rw [jk_0]; exact D) EV)
def fp_X7_childrenOf_r78d : jFp := []
set_option maxRecDepth 100000 in
set_option maxHeartbeats 4000000 in
theorem ct_X7_childrenOf_r78d_115 {Dy : jH → Prop} {h0 : jH} {Q : Option Value → jH → Prop} {dr : Int} (hD : jDk Dy) (hQ : ∀ (v : Int32) hx9, jJ jSgX Dy hx9 → jSm fp_X7_childrenOf_r78d h0 hx9 → dr = v.toInt → vw hx9 = vw h0 → Q (some (.int v)) hx9) : ∀ (l3 : Int32) (h : jH), jJ jSgX Dy h → jSm fp_X7_childrenOf_r78d h0 h → d_X7_childrenOf_r78d_115  l3.toInt (vw h) = dr → vw h = vw h0 → jX m_X7_childrenOf 2 0 0 115 [(3, .int l3)] [] h 0 0 Q := by
  intro l3 h    J Sm D EV
  have el3 := jfull l3
  unfold d_X7_childrenOf_r78d_115 at D
  refine x_iloadn (x := l3) rfl rfl ?_
  refine x_iret rfl rfl ?_
  exact hQ _ _ J Sm (D.symm.trans (show l3.toInt = l3.toInt from by omega)) EV
set_option maxRecDepth 100000 in
set_option maxHeartbeats 4000000 in
theorem ct_X7_childrenOf_r78d_109 {Dy : jH → Prop} {h0 : jH} {Q : Option Value → jH → Prop} {dr : Int} {K5 : Int → Int → Int → Int → jW → Int} {R5 : Int} (hD : jDk Dy) (hQ : ∀ (v : Int32) hx9, jJ jSgX Dy hx9 → jSm fp_X7_childrenOf_r78d h0 hx9 → dr = v.toInt → vw hx9 = vw h0 → Q (some (.int v)) hx9) (k5 : ∀ (l1 : Int32) (l2 : Int32) (l3 : Int32) (l4 : Int32) (h : jH), 600 - l4.toInt < R5 → (-1) ≤ l1.toInt ∧ l1.toInt ≤ 599 → 0 ≤ l2.toInt ∧ l2.toInt ≤ 146399 → 0 ≤ l4.toInt ∧ l4.toInt ≤ 600 → l4.toInt % 3 = 0 → jJ jSgX Dy h → jSm fp_X7_childrenOf_r78d h0 h → K5 l1.toInt l2.toInt l3.toInt l4.toInt (vw h) = dr → vw h = vw h0 → jX m_X7_childrenOf 2 0 0 5 [(0, .ref 78), (1, .int l1), (2, .int l2), (3, .int l3), (4, .int l4)] [] h 0 0 Q) : ∀ (l1 : Int32) (l2 : Int32) (l3 : Int32) (l4 : Int32) (h : jH), (-1) ≤ l1.toInt ∧ l1.toInt ≤ 599 → 0 ≤ l2.toInt ∧ l2.toInt ≤ 146399 → 0 ≤ l4.toInt ∧ l4.toInt ≤ 597 → l4.toInt % 3 = 0 → 600 - l4.toInt ≤ R5 → jJ jSgX Dy h → jSm fp_X7_childrenOf_r78d h0 h → d_X7_childrenOf_r78d_109 K5  l1.toInt l2.toInt l3.toInt l4.toInt (vw h) = dr → vw h = vw h0 → jX m_X7_childrenOf 2 0 0 109 [(0, .ref 78), (1, .int l1), (2, .int l2), (3, .int l3), (4, .int l4)] [] h 0 0 Q := by
  intro l1 l2 l3 l4 h y0 y1 y2 y3  m5 J Sm D EV
  have el3 := jfull l3
  unfold d_X7_childrenOf_r78d_109 at D
  refine z_iinc (x := l4) (lsx9 := fun v1 => [(4, .int v1), (0, .ref 78), (1, .int l1), (2, .int l2), (3, .int l3)]) rfl rfl rfl jko_3 (by omega) rfl (fun _ => rfl) (fun v1 ev1 => ?_)
  refine x_goto (tgt := 5) rfl rfl ?_
  try rw [show (l4.toInt + 3) = v1.toInt from by omega] at D
  exact jX.sub (jsb_c rfl (jsb_c rfl (jsb_c rfl (jsb_c rfl (jsb_c rfl jsb_n))))) (k5 l1 l2 l3 v1 h (by omega) (jr_of rfl (by omega)) (jr_of rfl (by omega)) (jr_of rfl (by omega)) (jr_mod rfl (by omega)) J Sm D EV)
set_option maxRecDepth 100000 in
set_option maxHeartbeats 4000000 in
theorem ct_X7_childrenOf_r78d_90 {Dy : jH → Prop} {h0 : jH} {Q : Option Value → jH → Prop} {dr : Int} {K5 : Int → Int → Int → Int → jW → Int} {R5 : Int} (hD : jDk Dy) (hQ : ∀ (v : Int32) hx9, jJ jSgX Dy hx9 → jSm fp_X7_childrenOf_r78d h0 hx9 → dr = v.toInt → vw hx9 = vw h0 → Q (some (.int v)) hx9) (k5 : ∀ (l1 : Int32) (l2 : Int32) (l3 : Int32) (l4 : Int32) (h : jH), 600 - l4.toInt < R5 → (-1) ≤ l1.toInt ∧ l1.toInt ≤ 599 → 0 ≤ l2.toInt ∧ l2.toInt ≤ 146399 → 0 ≤ l4.toInt ∧ l4.toInt ≤ 600 → l4.toInt % 3 = 0 → jJ jSgX Dy h → jSm fp_X7_childrenOf_r78d h0 h → K5 l1.toInt l2.toInt l3.toInt l4.toInt (vw h) = dr → vw h = vw h0 → jX m_X7_childrenOf 2 0 0 5 [(0, .ref 78), (1, .int l1), (2, .int l2), (3, .int l3), (4, .int l4)] [] h 0 0 Q) : ∀ (l1 : Int32) (l2 : Int32) (l3 : Int32) (l4 : Int32) (h : jH), (-1) ≤ l1.toInt ∧ l1.toInt ≤ 599 → 0 ≤ l2.toInt ∧ l2.toInt ≤ 146399 → 0 ≤ l4.toInt ∧ l4.toInt ≤ 597 → l4.toInt % 3 = 0 → 600 - l4.toInt ≤ R5 → jJ jSgX Dy h → jSm fp_X7_childrenOf_r78d h0 h → d_X7_childrenOf_r78d_90 K5  l1.toInt l2.toInt l3.toInt l4.toInt (vw h) = dr → vw h = vw h0 → jX m_X7_childrenOf 2 0 0 90 [(0, .ref 78), (1, .int l1), (2, .int l2), (3, .int l3), (4, .int l4)] [] h 0 0 Q := by
  intro l1 l2 l3 l4 h y0 y1 y2 y3  m5 J Sm D EV
  have el3 := jfull l3
  unfold d_X7_childrenOf_r78d_90 at D
  refine x_aloadn (x := 78) rfl rfl ?_
  refine x_aloadn (x := 78) rfl rfl ?_
  refine z_getR (N := 16) (b := 82) 7 10 rfl f_7_37 rfl J rfl 9994 ⟨rfl, rfl⟩ rfl ?_
  refine x_iload (x := l4) rfl rfl ?_
  refine z_iald (N := 600) rfl J rfl sg_82_0_600_1_0_1 rfl (by omega) (fun v1 qv1 ev1 => ?_)
  try rw [vrd qv1 (show l4.toInt = l4.toInt from by omega)] at D
  refine x_iconst (v := 5) rfl ki_5 ?_
  refine x_iloadn (x := l2) rfl rfl ?_
  refine x_inv (N := m_X7_hasBy) (As := [.int v1, .int 5, .int l2]) (b := 78) (st := []) (dx9 := 1) (mc := 0) (ms := 0) (host := "") 7 rfl t_X7_hasBy ⟨Or.inl q_7_182, i_X7_hasBy.1, i_X7_hasBy.2⟩ ⟨by decide, rfl⟩ (congrArg Prod.fst (J.1.1 78 (7, 16) rfl)) rfl (by decide) rfl rfl ⟨by decide, by decide⟩ (sf_X7_hasBy_r78d (jr_of rfl (by omega)) (jr_of jk_5 (by omega)) (jr_of rfl (by omega)) hD J rfl  (fun v5 h ev5 J S2 X3 X4 => ?_))
  have Sm := jSm_tr rfl Sm S2
  try rw [jk_5] at X3
  try rw [X3] at D
  try rw [← X4] at D
  have EV := X4.trans EV
  show jX m_X7_childrenOf 2 0 0 103 [(0, .ref 78), (1, .int l1), (2, .int l2), (3, .int l3), (4, .int l4)] [.int v5] _ 0 0 _
  refine x_ifne (tgt := 109) rfl rfl (ti_ne rfl jk_0 ⟨fun c6 => ?_, fun c6 => ?_⟩)
  ·
    rw [if_neg (by omega)] at D
    exact jX.sub (jsb_c rfl (jsb_c rfl (jsb_c rfl (jsb_c rfl (jsb_c rfl jsb_n))))) (ct_X7_childrenOf_r78d_109 hD hQ k5 l1 l2 l3 l4 h (jr_of rfl (by omega)) (jr_of rfl (by omega)) (jr_of rfl (by omega)) (jr_mod rfl (by omega)) (by omega) J Sm D EV)
  ·
    rw [if_pos (by omega)] at D
    refine z_iincW (x := l3) (lsx9 := fun v7 => [(3, .int v7), (0, .ref 78), (1, .int l1), (2, .int l2), (4, .int l4)]) rfl rfl rfl jko_1 rfl (fun _ => rfl) (fun v7 ev7 => ?_)
    have fv7 := jfull v7
    try rw [← ev7] at D
    exact jX.sub (jsb_c rfl (jsb_c rfl (jsb_c rfl (jsb_c rfl (jsb_c rfl jsb_n))))) (ct_X7_childrenOf_r78d_109 hD hQ k5 l1 l2 v7 l4 h (jr_of rfl (by omega)) (jr_of rfl (by omega)) (jr_of rfl (by omega)) (jr_mod rfl (by omega)) (by omega) J Sm D EV)
set_option maxRecDepth 100000 in
set_option maxHeartbeats 4000000 in
theorem ct_X7_childrenOf_r78d_5 {Dy : jH → Prop} {h0 : jH} {Q : Option Value → jH → Prop} {dr : Int} (hD : jDk Dy) (hQ : ∀ (v : Int32) hx9, jJ jSgX Dy hx9 → jSm fp_X7_childrenOf_r78d h0 hx9 → dr = v.toInt → vw hx9 = vw h0 → Q (some (.int v)) hx9) : ∀ r : Nat, ∀ (l1 : Int32) (l2 : Int32) (l3 : Int32) (l4 : Int32) (h : jH), 600 - l4.toInt < (r : Int) → (-1) ≤ l1.toInt ∧ l1.toInt ≤ 599 → 0 ≤ l2.toInt ∧ l2.toInt ≤ 146399 → 0 ≤ l4.toInt ∧ l4.toInt ≤ 600 → l4.toInt % 3 = 0 → jJ jSgX Dy h → jSm fp_X7_childrenOf_r78d h0 h → d_X7_childrenOf_r78d_5 r l1.toInt l2.toInt l3.toInt l4.toInt (vw h) = dr → vw h = vw h0 → jX m_X7_childrenOf 2 0 0 5 [(0, .ref 78), (1, .int l1), (2, .int l2), (3, .int l3), (4, .int l4)] [] h 0 0 Q := by
  intro r
  induction r with
  | zero =>
    intro l1 l2 l3 l4 h hm y0 y1 y2 y3   J Sm D EV
    exfalso
    have el3 := jfull l3
    omega
  | succ r ih =>
    intro l1 l2 l3 l4 h hm y0 y1 y2 y3   J Sm D EV
    have el3 := jfull l3
    rw [d_X7_childrenOf_r78d_5.eq_2] at D
    refine x_iload (x := l4) rfl rfl ?_
    refine x_aloadn (x := 78) rfl rfl ?_
    refine z_getR (N := 16) (b := 32) 7 0 rfl f_7_55 rfl J rfl 9984 ⟨rfl, rfl⟩ rfl ?_
    refine z_getR (N := 20) (b := 33) 1 0 rfl f_7_63 rfl J rfl 4096 ⟨rfl, rfl⟩ rfl ?_
    refine z_getI (N := 4) 8 3 rfl f_7_85 rfl J rfl sg_33_3_4_1_0_1 (fun v1 qv1 ev1 => ?_)
    try rw [vrf qv1] at D
    refine x_iconst (v := 3) rfl ki_3 ?_
    refine z_imul rfl rfl jk_3 (by omega) (fun v2 ev2 => ?_)
    refine x_icge (tgt := 115) rfl rfl (ti_ge rfl rfl ⟨fun c3 => ?_, fun c3 => ?_⟩)
    ·
      rw [if_pos (by omega)] at D
      exact jX.sub (jsb_c rfl jsb_n) (ct_X7_childrenOf_r78d_115 hD hQ  l3 h J Sm D EV)
    ·
      rw [if_neg (by omega)] at D
      refine x_iload (x := l4) rfl rfl ?_
      refine x_iconst (v := 2) rfl ki_2 ?_
      refine z_iadd rfl rfl jk_2 (by omega) (fun v4 ev4 => ?_)
      refine x_sipush (v := 600) rfl ks_600 ?_
      refine x_icge (tgt := 115) rfl rfl (ti_ge rfl jk_600 (br_f (by omega) ?_))
      refine x_aloadn (x := 78) rfl rfl ?_
      refine z_getR (N := 16) (b := 79) 7 7 rfl f_7_27 rfl J rfl 9991 ⟨rfl, rfl⟩ rfl ?_
      refine x_iload (x := l4) rfl rfl ?_
      refine z_iald (N := 600) rfl J rfl sg_79_0_600_1_0_1 rfl (by omega) (fun v5 qv5 ev5 => ?_)
      try rw [vrd qv5 (show l4.toInt = l4.toInt from by omega)] at D
      refine x_ifne (tgt := 109) rfl rfl (ti_ne rfl jk_0 ⟨fun c6 => ?_, fun c6 => ?_⟩)
      ·
        rw [if_neg (by omega)] at D
        exact jX.sub (jsb_c rfl (jsb_c rfl (jsb_c rfl (jsb_c rfl (jsb_c rfl jsb_n))))) (ct_X7_childrenOf_r78d_109 hD hQ ih l1 l2 l3 l4 h (jr_of rfl (by omega)) (jr_of rfl (by omega)) (jr_of rfl (by omega)) (jr_mod rfl (by omega)) (by omega) J Sm D EV)
      ·
        rw [if_pos (by omega)] at D
        refine x_aloadn (x := 78) rfl rfl ?_
        refine z_getR (N := 16) (b := 82) 7 10 rfl f_7_37 rfl J rfl 9994 ⟨rfl, rfl⟩ rfl ?_
        refine x_iload (x := l4) rfl rfl ?_
        refine z_iald (N := 600) rfl J rfl sg_82_0_600_1_0_1 rfl (by omega) (fun v7 qv7 ev7 => ?_)
        try rw [vrd qv7 (show l4.toInt = l4.toInt from by omega)] at D
        refine x_iconst (v := (-1)) rfl ki_m1 ?_
        refine x_iceq (tgt := 109) rfl rfl (ti_eq rfl jk_m1 ⟨fun c8 => ?_, fun c8 => ?_⟩)
        ·
          rw [if_pos (by omega)] at D
          exact jX.sub (jsb_c rfl (jsb_c rfl (jsb_c rfl (jsb_c rfl (jsb_c rfl jsb_n))))) (ct_X7_childrenOf_r78d_109 hD hQ ih l1 l2 l3 l4 h (jr_of rfl (by omega)) (jr_of rfl (by omega)) (jr_of rfl (by omega)) (jr_mod rfl (by omega)) (by omega) J Sm D EV)
        ·
          rw [if_neg (by omega)] at D
          refine x_aloadn (x := 78) rfl rfl ?_
          refine z_getR (N := 16) (b := 80) 7 8 rfl f_7_31 rfl J rfl 9992 ⟨rfl, rfl⟩ rfl ?_
          refine x_iload (x := l4) rfl rfl ?_
          refine z_iald (N := 600) rfl J rfl sg_80_0_600_1_0_1 rfl (by omega) (fun v9 qv9 ev9 => ?_)
          try rw [vrd qv9 (show l4.toInt = l4.toInt from by omega)] at D
          refine x_iloadn (x := l2) rfl rfl ?_
          refine x_icgt (tgt := 109) rfl rfl (ti_gt rfl rfl ⟨fun c10 => ?_, fun c10 => ?_⟩)
          ·
            rw [if_pos (by omega)] at D
            exact jX.sub (jsb_c rfl (jsb_c rfl (jsb_c rfl (jsb_c rfl (jsb_c rfl jsb_n))))) (ct_X7_childrenOf_r78d_109 hD hQ ih l1 l2 l3 l4 h (jr_of rfl (by omega)) (jr_of rfl (by omega)) (jr_of rfl (by omega)) (jr_mod rfl (by omega)) (by omega) J Sm D EV)
          ·
            rw [if_neg (by omega)] at D
            refine x_aloadn (x := 78) rfl rfl ?_
            refine z_getR (N := 16) (b := 82) 7 10 rfl f_7_37 rfl J rfl 9994 ⟨rfl, rfl⟩ rfl ?_
            refine x_iload (x := l4) rfl rfl ?_
            refine x_iconst (v := 1) rfl ki_1 ?_
            refine z_iadd rfl rfl jk_1 (by omega) (fun v11 ev11 => ?_)
            refine z_iald (N := 600) rfl J rfl sg_82_0_600_1_0_1 rfl (by omega) (fun v12 qv12 ev12 => ?_)
            try rw [vrd qv12 (show (l4.toInt + 1) = v11.toInt from by omega)] at D
            refine x_iloadn (x := l1) rfl rfl ?_
            refine x_iceq (tgt := 90) rfl rfl (ti_eq rfl rfl ⟨fun c13 => ?_, fun c13 => ?_⟩)
            ·
              rw [if_pos (by omega)] at D
              exact jX.sub (jsb_c rfl (jsb_c rfl (jsb_c rfl (jsb_c rfl (jsb_c rfl jsb_n))))) (ct_X7_childrenOf_r78d_90 hD hQ ih l1 l2 l3 l4 h (jr_of rfl (by omega)) (jr_of rfl (by omega)) (jr_of rfl (by omega)) (jr_mod rfl (by omega)) (by omega) J Sm D EV)
            ·
              rw [if_neg (by omega)] at D
              refine x_aloadn (x := 78) rfl rfl ?_
              refine z_getR (N := 16) (b := 82) 7 10 rfl f_7_37 rfl J rfl 9994 ⟨rfl, rfl⟩ rfl ?_
              refine x_iload (x := l4) rfl rfl ?_
              refine x_iconst (v := 2) rfl ki_2 ?_
              refine z_iadd rfl rfl jk_2 (by omega) (fun v14 ev14 => ?_)
              refine z_iald (N := 600) rfl J rfl sg_82_0_600_1_0_1 rfl (by omega) (fun v15 qv15 ev15 => ?_)
              try rw [vrd qv15 (show (l4.toInt + 2) = v14.toInt from by omega)] at D
              refine x_iloadn (x := l1) rfl rfl ?_
              refine x_icne (tgt := 109) rfl rfl (ti_ne rfl rfl ⟨fun c16 => ?_, fun c16 => ?_⟩)
              ·
                rw [if_neg (by omega)] at D
                exact jX.sub (jsb_c rfl (jsb_c rfl (jsb_c rfl (jsb_c rfl (jsb_c rfl jsb_n))))) (ct_X7_childrenOf_r78d_109 hD hQ ih l1 l2 l3 l4 h (jr_of rfl (by omega)) (jr_of rfl (by omega)) (jr_of rfl (by omega)) (jr_mod rfl (by omega)) (by omega) J Sm D EV)
              ·
                rw [if_pos (by omega)] at D
                exact jX.sub (jsb_c rfl (jsb_c rfl (jsb_c rfl (jsb_c rfl (jsb_c rfl jsb_n))))) (ct_X7_childrenOf_r78d_90 hD hQ ih l1 l2 l3 l4 h (jr_of rfl (by omega)) (jr_of rfl (by omega)) (jr_of rfl (by omega)) (jr_mod rfl (by omega)) (by omega) J Sm D EV)
set_option maxRecDepth 100000 in
set_option maxHeartbeats 4000000 in
theorem sf_X7_childrenOf_r78d {Dy : jH → Prop} {h : jH} {Q : Option Value → jH → Prop} {dr : Int} {a1 : Int32} {a2 : Int32} (y1 : (-1) ≤ a1.toInt ∧ a1.toInt ≤ 599) (y2 : 0 ≤ a2.toInt ∧ a2.toInt ≤ 146399) (hD : jDk Dy) (J : jJ jSgX Dy h) (D : d_X7_childrenOf_r78d a1.toInt a2.toInt (vw h) = dr) (hQ : ∀ (v : Int32) hx9, jJ jSgX Dy hx9 → jSm fp_X7_childrenOf_r78d h hx9 → dr = v.toInt → vw hx9 = vw h → Q (some (.int v)) hx9) : jC m_X7_childrenOf 2 0 0 [.ref 78, .int a1, .int a2] h Q := by
  refine jC.of rfl k_X7_childrenOf rfl ?_
  have Sm := jSm_rf fp_X7_childrenOf_r78d h
  show jX m_X7_childrenOf 2 0 0 0 [(0, .ref 78), (1, .int a1), (2, .int a2)] [] _ 0 0 _
  unfold d_X7_childrenOf_r78d at D
  have EV : vw h = vw h := rfl
  refine x_iconst (v := 0) rfl ki_0 ?_
  refine x_istoren (lsx9 := [(3, .int 0), (0, .ref 78), (1, .int a1), (2, .int a2)]) rfl rfl rfl ?_
  refine x_iconst (v := 0) rfl ki_0 ?_
  refine x_istore (lsx9 := [(4, .int 0), (3, .int 0), (0, .ref 78), (1, .int a1), (2, .int a2)]) rfl rfl rfl ?_
  exact jX.sub (jsb_c rfl (jsb_c rfl (jsb_c rfl (jsb_c rfl (jsb_c rfl jsb_n))))) (ct_X7_childrenOf_r78d_5 hD hQ  601 a1 a2 0 0 h (by have := jk_0; omega) (jr_of rfl (by omega)) (jr_of rfl (by omega)) (jr_of jk_0 (by omega)) (jr_mod jk_0 (by omega)) J Sm (by rw [jk_0]; exact D) EV)
def fp_X7_firstDay_r78d : jFp := []
set_option maxRecDepth 100000 in
set_option maxHeartbeats 4000000 in
theorem ct_X7_firstDay_r78d_49 {Dy : jH → Prop} {h0 : jH} {Q : Option Value → jH → Prop} {dr : Int} (hD : jDk Dy) (hQ : ∀ (v : Int32) hx9, 0 ≤ v.toInt ∧ v.toInt ≤ 146399 → jJ jSgX Dy hx9 → jSm fp_X7_firstDay_r78d h0 hx9 → dr = v.toInt → vw hx9 = vw h0 → Q (some (.int v)) hx9) : ∀ (l3 : Int32) (h : jH), 0 ≤ l3.toInt ∧ l3.toInt ≤ 146399 → jJ jSgX Dy h → jSm fp_X7_firstDay_r78d h0 h → d_X7_firstDay_r78d_49  l3.toInt (vw h) = dr → vw h = vw h0 → jX m_X7_firstDay 1 0 0 49 [(3, .int l3)] [] h 0 0 Q := by
  intro l3 h y0   J Sm D EV
  unfold d_X7_firstDay_r78d_49 at D
  refine x_iloadn (x := l3) rfl rfl ?_
  refine x_iret rfl rfl ?_
  exact hQ _ _ (jr_of rfl (by omega)) J Sm (D.symm.trans (show l3.toInt = l3.toInt from by omega)) EV
set_option maxRecDepth 100000 in
set_option maxHeartbeats 4000000 in
theorem ct_X7_firstDay_r78d_8 {Dy : jH → Prop} {h0 : jH} {Q : Option Value → jH → Prop} {dr : Int} (hD : jDk Dy) (hQ : ∀ (v : Int32) hx9, 0 ≤ v.toInt ∧ v.toInt ≤ 146399 → jJ jSgX Dy hx9 → jSm fp_X7_firstDay_r78d h0 hx9 → dr = v.toInt → vw hx9 = vw h0 → Q (some (.int v)) hx9) : ∀ r : Nat, ∀ (l3 : Int32) (l4 : Int32) (l5 : Int32) (h : jH), 600 - l5.toInt < (r : Int) → 0 ≤ l3.toInt ∧ l3.toInt ≤ 146399 → (-1) ≤ l4.toInt ∧ l4.toInt ≤ 599 → 0 ≤ l5.toInt ∧ l5.toInt ≤ 600 → jJ jSgX Dy h → jSm fp_X7_firstDay_r78d h0 h → d_X7_firstDay_r78d_8 r l3.toInt l4.toInt l5.toInt (vw h) = dr → vw h = vw h0 → jX m_X7_firstDay 1 0 0 8 [(0, .ref 78), (3, .int l3), (4, .int l4), (5, .int l5)] [] h 0 0 Q := by
  intro r
  induction r with
  | zero =>
    intro l3 l4 l5 h hm y0 y1 y2   J Sm D EV
    exfalso
    omega
  | succ r ih =>
    intro l3 l4 l5 h hm y0 y1 y2   J Sm D EV
    rw [d_X7_firstDay_r78d_8.eq_2] at D
    refine x_iload (x := l4) rfl rfl ?_
    refine x_iconst (v := (-1)) rfl ki_m1 ?_
    refine x_iceq (tgt := 49) rfl rfl (ti_eq rfl jk_m1 ⟨fun c1 => ?_, fun c1 => ?_⟩)
    ·
      rw [if_pos (by omega)] at D
      exact jX.sub (jsb_c rfl jsb_n) (ct_X7_firstDay_r78d_49 hD hQ  l3 h (jr_of rfl (by omega)) J Sm D EV)
    ·
      rw [if_neg (by omega)] at D
      refine x_iload (x := l5) rfl rfl ?_
      refine x_sipush (v := 600) rfl ks_600 ?_
      refine x_icge (tgt := 49) rfl rfl (ti_ge rfl jk_600 ⟨fun c2 => ?_, fun c2 => ?_⟩)
      ·
        rw [if_pos (by omega)] at D
        exact jX.sub (jsb_c rfl jsb_n) (ct_X7_firstDay_r78d_49 hD hQ  l3 h (jr_of rfl (by omega)) J Sm D EV)
      ·
        rw [if_neg (by omega)] at D
        refine x_iloadn (x := l3) rfl rfl ?_
        refine x_aloadn (x := 78) rfl rfl ?_
        refine z_getR (N := 16) (b := 80) 7 8 rfl f_7_31 rfl J rfl 9992 ⟨rfl, rfl⟩ rfl ?_
        refine x_iload (x := l4) rfl rfl ?_
        refine z_iald (N := 600) rfl J rfl sg_80_0_600_1_0_1 rfl (by omega) (fun v3 qv3 ev3 => ?_)
        try rw [vrd qv3 (show l4.toInt = l4.toInt from by omega)] at D
        refine z_mmin rfl q_7_163 (by decide) rfl rfl rfl (fun v4 ev4 => ?_)
        refine x_istoren (lsx9 := [(3, .int v4), (0, .ref 78), (4, .int l4), (5, .int l5)]) rfl rfl rfl ?_
        refine x_aloadn (x := 78) rfl rfl ?_
        refine z_getR (N := 16) (b := 83) 7 11 rfl f_7_40 rfl J rfl 9995 ⟨rfl, rfl⟩ rfl ?_
        refine x_iload (x := l4) rfl rfl ?_
        refine z_iald (N := 600) rfl J rfl sg_83_0_600_1_0_1 rfl (by omega) (fun v5 qv5 ev5 => ?_)
        try rw [vrd qv5 (show l4.toInt = l4.toInt from by omega)] at D
        refine x_istore (lsx9 := [(4, .int v5), (3, .int v4), (0, .ref 78), (5, .int l5)]) rfl rfl rfl ?_
        refine z_iinc (x := l5) (lsx9 := fun v6 => [(5, .int v6), (4, .int v5), (3, .int v4), (0, .ref 78)]) rfl rfl rfl jko_1 (by omega) rfl (fun _ => rfl) (fun v6 ev6 => ?_)
        refine x_goto (tgt := 8) rfl rfl ?_
        try rw [show (min l3.toInt v3.toInt) = v4.toInt from by omega] at D
        try rw [show (l5.toInt + 1) = v6.toInt from by omega] at D
        exact jX.sub (jsb_c rfl (jsb_c rfl (jsb_c rfl (jsb_c rfl jsb_n)))) (ih v4 v5 v6 h (by omega) (jr_of rfl (by omega)) (jr_of rfl (by omega)) (jr_of rfl (by omega)) J Sm D EV)
set_option maxRecDepth 100000 in
set_option maxHeartbeats 4000000 in
theorem sf_X7_firstDay_r78d {Dy : jH → Prop} {h : jH} {Q : Option Value → jH → Prop} {dr : Int} {a1 : Int32} {a2 : Int32} (y1 : (-1) ≤ a1.toInt ∧ a1.toInt ≤ 599) (y2 : 0 ≤ a2.toInt ∧ a2.toInt ≤ 146399) (hD : jDk Dy) (J : jJ jSgX Dy h) (D : d_X7_firstDay_r78d a1.toInt a2.toInt (vw h) = dr) (hQ : ∀ (v : Int32) hx9, 0 ≤ v.toInt ∧ v.toInt ≤ 146399 → jJ jSgX Dy hx9 → jSm fp_X7_firstDay_r78d h hx9 → dr = v.toInt → vw hx9 = vw h → Q (some (.int v)) hx9) : jC m_X7_firstDay 1 0 0 [.ref 78, .int a1, .int a2] h Q := by
  refine jC.of rfl k_X7_firstDay rfl ?_
  have Sm := jSm_rf fp_X7_firstDay_r78d h
  show jX m_X7_firstDay 1 0 0 0 [(0, .ref 78), (1, .int a1), (2, .int a2)] [] _ 0 0 _
  unfold d_X7_firstDay_r78d at D
  have EV : vw h = vw h := rfl
  refine x_iloadn (x := a2) rfl rfl ?_
  refine x_istoren (lsx9 := [(3, .int a2), (0, .ref 78), (1, .int a1), (2, .int a2)]) rfl rfl rfl ?_
  refine x_iloadn (x := a1) rfl rfl ?_
  refine x_istore (lsx9 := [(4, .int a1), (3, .int a2), (0, .ref 78), (1, .int a1), (2, .int a2)]) rfl rfl rfl ?_
  refine x_iconst (v := 0) rfl ki_0 ?_
  refine x_istore (lsx9 := [(5, .int 0), (4, .int a1), (3, .int a2), (0, .ref 78), (1, .int a1), (2, .int a2)]) rfl rfl rfl ?_
  exact jX.sub (jsb_c rfl (jsb_c rfl (jsb_c rfl (jsb_c rfl jsb_n)))) (ct_X7_firstDay_r78d_8 hD hQ  601 a2 a1 0 h (by have := jk_0; omega) (jr_of rfl (by omega)) (jr_of rfl (by omega)) (jr_of jk_0 (by omega)) J Sm (by rw [jk_0]; exact D) EV)
def fp_X7_readSpan_r78d : jFp := [(85, 0, 4)]
set_option maxRecDepth 100000 in
set_option maxHeartbeats 4000000 in
theorem ct_X7_readSpan_r78d_301 {Dy : jH → Prop} {h0 : jH} {Q : Option Value → jH → Prop} {dr : jW} (hD : jDk Dy) (hQ : ∀ hx9, jJ jSgX Dy hx9 → jSm fp_X7_readSpan_r78d h0 hx9 → dr = vw hx9 → Q none hx9) : ∀ r : Nat, ∀ (l6 : Int32) (h : jH), 4 - l6.toInt < (r : Int) → 0 ≤ l6.toInt ∧ l6.toInt ≤ 4 → jJ jSgX Dy h → jSm fp_X7_readSpan_r78d h0 h → d_X7_readSpan_r78d_301 r l6.toInt (vw h) = dr → jX m_X7_readSpan 1 0 0 301 [(0, .ref 78), (6, .int l6)] [] h 0 0 Q := by
  intro r
  induction r with
  | zero =>
    intro l6 h hm y0   J Sm D
    exfalso
    omega
  | succ r ih =>
    intro l6 h hm y0   J Sm D
    rw [d_X7_readSpan_r78d_301.eq_2] at D
    refine x_iload (x := l6) rfl rfl ?_
    refine x_iconst (v := 4) rfl ki_4 ?_
    refine x_icge (tgt := 336) rfl rfl (ti_ge rfl jk_4 ⟨fun c1 => ?_, fun c1 => ?_⟩)
    ·
      rw [if_pos (by omega)] at D
      refine x_vret rfl rfl ?_
      exact hQ _ J Sm D.symm
    ·
      rw [if_neg (by omega)] at D
      refine x_aloadn (x := 78) rfl rfl ?_
      refine z_getR (N := 16) (b := 85) 7 14 rfl f_7_49 rfl J rfl 9998 ⟨rfl, rfl⟩ rfl ?_
      refine x_iload (x := l6) rfl rfl ?_
      refine x_iconst (v := 0) rfl ki_0 ?_
      refine x_ldc (v := 146399) rfl z_7_185 ?_
      refine x_aloadn (x := 78) rfl rfl ?_
      refine z_getR (N := 16) (b := 85) 7 14 rfl f_7_49 rfl J rfl 9998 ⟨rfl, rfl⟩ rfl ?_
      refine x_iload (x := l6) rfl rfl ?_
      refine z_iald0 (N := 4) rfl J rfl rfl (by omega) (fun v2 qv2 => ?_)
      have ev2 := jfull v2
      try rw [vrd qv2 (show l6.toInt = l6.toInt from by omega)] at D
      refine z_mmin rfl q_7_163 (by decide) rfl jk_146399 rfl (fun v3 ev3 => ?_)
      refine z_mmax rfl q_7_166 (by decide) rfl jk_0 rfl (fun v4 ev4 => ?_)
      refine z_iast (N := 4) (l := 0) (u := 4) (w := v4.toInt) rfl hD J Sm rfl rfl rfl (by omega) rfl (wr_85) rfl (fun h w5 J Sm => ?_)
      rw [vww w5 (show l6.toInt = l6.toInt from by omega) (show (max 0 (min 146399 v2.toInt)) = v4.toInt from by omega)] at D
      refine z_iinc (x := l6) (lsx9 := fun v6 => [(6, .int v6), (0, .ref 78)]) rfl rfl rfl jko_1 (by omega) rfl (fun _ => rfl) (fun v6 ev6 => ?_)
      refine x_goto (tgt := 301) rfl rfl ?_
      try rw [show (l6.toInt + 1) = v6.toInt from by omega] at D
      exact jX.sub (jsb_c rfl (jsb_c rfl jsb_n)) (ih v6 h (by omega) (jr_of rfl (by omega)) J Sm D)
set_option maxRecDepth 100000 in
set_option maxHeartbeats 4000000 in
theorem ct_X7_readSpan_r78d_253 {Dy : jH → Prop} {h0 : jH} {Q : Option Value → jH → Prop} {dr : jW} (hD : jDk Dy) (hQ : ∀ hx9, jJ jSgX Dy hx9 → jSm fp_X7_readSpan_r78d h0 hx9 → dr = vw hx9 → Q none hx9) : ∀ (l2 : Int32) (l3 : Int32) (l4 : Int32) (l5 : Int32) (h : jH), 0 ≤ l2.toInt ∧ l2.toInt ≤ 2147483647 → (-2147483648) ≤ l3.toInt ∧ l3.toInt ≤ 146399 → 0 ≤ l4.toInt ∧ l4.toInt ≤ 146399 → 0 ≤ l5.toInt ∧ l5.toInt ≤ 146399 → jJ jSgX Dy h → jSm fp_X7_readSpan_r78d h0 h → d_X7_readSpan_r78d_253  l2.toInt l3.toInt l4.toInt l5.toInt (vw h) = dr → jX m_X7_readSpan 1 0 0 253 [(0, .ref 78), (2, .int l2), (3, .int l3), (4, .int l4), (5, .int l5)] [] h 0 0 Q := by
  intro l2 l3 l4 l5 h y0 y1 y2 y3   J Sm D
  unfold d_X7_readSpan_r78d_253 at D
  refine x_aloadn (x := 78) rfl rfl ?_
  refine z_getR (N := 16) (b := 85) 7 14 rfl f_7_49 rfl J rfl 9998 ⟨rfl, rfl⟩ rfl ?_
  refine x_iconst (v := 0) rfl ki_0 ?_
  refine x_iloadn (x := l2) rfl rfl ?_
  refine x_iload (x := l4) rfl rfl ?_
  refine x_ldc (v := 40260) rfl z_7_186 ?_
  refine z_isub rfl rfl jk_40260 (by omega) (fun v1 ev1 => ?_)
  refine z_mmax rfl q_7_166 (by decide) rfl rfl rfl (fun v2 ev2 => ?_)
  refine z_iast (N := 4) (l := 0) (u := 4) (w := v2.toInt) rfl hD J Sm rfl rfl jk_0 (by omega) rfl (wr_85) rfl (fun h w3 J Sm => ?_)
  rw [vwn (n := 0) (by decide) w3 (show (max l2.toInt (l4.toInt - 40260)) = v2.toInt from by omega)] at D
  refine x_aloadn (x := 78) rfl rfl ?_
  refine z_getR (N := 16) (b := 85) 7 14 rfl f_7_49 rfl J rfl 9998 ⟨rfl, rfl⟩ rfl ?_
  refine x_iconst (v := 1) rfl ki_1 ?_
  refine x_iloadn (x := l3) rfl rfl ?_
  refine z_iast (N := 4) (l := 0) (u := 4) (w := l3.toInt) rfl hD J Sm rfl rfl jk_1 (by omega) rfl (wr_85) rfl (fun h w4 J Sm => ?_)
  rw [vwn (n := 1) (by decide) w4 (show l3.toInt = l3.toInt from by omega)] at D
  refine x_aloadn (x := 78) rfl rfl ?_
  refine z_getR (N := 16) (b := 85) 7 14 rfl f_7_49 rfl J rfl 9998 ⟨rfl, rfl⟩ rfl ?_
  refine x_iconst (v := 2) rfl ki_2 ?_
  refine x_iload (x := l4) rfl rfl ?_
  refine z_iast (N := 4) (l := 0) (u := 4) (w := l4.toInt) rfl hD J Sm rfl rfl jk_2 (by omega) rfl (wr_85) rfl (fun h w5 J Sm => ?_)
  rw [vwn (n := 2) (by decide) w5 (show l4.toInt = l4.toInt from by omega)] at D
  refine x_aloadn (x := 78) rfl rfl ?_
  refine z_getR (N := 16) (b := 85) 7 14 rfl f_7_49 rfl J rfl 9998 ⟨rfl, rfl⟩ rfl ?_
  refine x_iconst (v := 3) rfl ki_3 ?_
  refine x_iload (x := l5) rfl rfl ?_
  refine x_iloadn (x := l3) rfl rfl ?_
  refine x_ldc (v := 40260) rfl z_7_186 ?_
  refine z_iadd rfl rfl jk_40260 (by omega) (fun v6 ev6 => ?_)
  refine z_mmin rfl q_7_163 (by decide) rfl rfl rfl (fun v7 ev7 => ?_)
  refine z_iast (N := 4) (l := 0) (u := 4) (w := v7.toInt) rfl hD J Sm rfl rfl jk_3 (by omega) rfl (wr_85) rfl (fun h w8 J Sm => ?_)
  rw [vwn (n := 3) (by decide) w8 (show (min l5.toInt (l3.toInt + 40260)) = v7.toInt from by omega)] at D
  refine x_iconst (v := 0) rfl ki_0 ?_
  refine x_istore (lsx9 := [(6, .int 0), (0, .ref 78), (2, .int l2), (3, .int l3), (4, .int l4), (5, .int l5)]) rfl rfl rfl ?_
  exact jX.sub (jsb_c rfl (jsb_c rfl jsb_n)) (ct_X7_readSpan_r78d_301 hD hQ  5 0 h (by have := jk_0; omega) (jr_of jk_0 (by omega)) J Sm (by rw [jk_0]; exact D))
set_option maxRecDepth 100000 in
set_option maxHeartbeats 4000000 in
theorem ct_X7_readSpan_r78d_238 {Dy : jH → Prop} {h0 : jH} {Q : Option Value → jH → Prop} {dr : jW} {K18 : Int → Int → Int → Int → Int → Int → jW → jW} {R18 : Int} (hD : jDk Dy) (hQ : ∀ hx9, jJ jSgX Dy hx9 → jSm fp_X7_readSpan_r78d h0 hx9 → dr = vw hx9 → Q none hx9) (k18 : ∀ (l2 : Int32) (l3 : Int32) (l4 : Int32) (l5 : Int32) (l6 : Int32) (l7 : Int32) (h : jH), 600 - l7.toInt < R18 → 0 ≤ l2.toInt ∧ l2.toInt ≤ 2147483647 → (-2147483648) ≤ l3.toInt ∧ l3.toInt ≤ 146399 → 0 ≤ l4.toInt ∧ l4.toInt ≤ 146399 → 0 ≤ l5.toInt ∧ l5.toInt ≤ 146399 → (-1) ≤ l6.toInt ∧ l6.toInt ≤ 599 → 0 ≤ l7.toInt ∧ l7.toInt ≤ 600 → jJ jSgX Dy h → jSm fp_X7_readSpan_r78d h0 h → K18 l2.toInt l3.toInt l4.toInt l5.toInt l6.toInt l7.toInt (vw h) = dr → jX m_X7_readSpan 1 0 0 18 [(0, .ref 78), (2, .int l2), (3, .int l3), (4, .int l4), (5, .int l5), (6, .int l6), (7, .int l7)] [] h 0 0 Q) : ∀ (l2 : Int32) (l3 : Int32) (l4 : Int32) (l5 : Int32) (l6 : Int32) (l7 : Int32) (h : jH), 0 ≤ l2.toInt ∧ l2.toInt ≤ 2147483647 → (-2147483648) ≤ l3.toInt ∧ l3.toInt ≤ 146399 → 0 ≤ l4.toInt ∧ l4.toInt ≤ 146399 → 0 ≤ l5.toInt ∧ l5.toInt ≤ 146399 → 0 ≤ l6.toInt ∧ l6.toInt ≤ 599 → 0 ≤ l7.toInt ∧ l7.toInt ≤ 599 → 600 - l7.toInt ≤ R18 → jJ jSgX Dy h → jSm fp_X7_readSpan_r78d h0 h → d_X7_readSpan_r78d_238 K18  l2.toInt l3.toInt l4.toInt l5.toInt l6.toInt l7.toInt (vw h) = dr → jX m_X7_readSpan 1 0 0 238 [(0, .ref 78), (2, .int l2), (3, .int l3), (4, .int l4), (5, .int l5), (6, .int l6), (7, .int l7)] [] h 0 0 Q := by
  intro l2 l3 l4 l5 l6 l7 h y0 y1 y2 y3 y4 y5  m18 J Sm D
  unfold d_X7_readSpan_r78d_238 at D
  refine x_aloadn (x := 78) rfl rfl ?_
  refine z_getR (N := 16) (b := 83) 7 11 rfl f_7_40 rfl J rfl 9995 ⟨rfl, rfl⟩ rfl ?_
  refine x_iload (x := l6) rfl rfl ?_
  refine z_iald (N := 600) rfl J rfl sg_83_0_600_1_0_1 rfl (by omega) (fun v1 qv1 ev1 => ?_)
  try rw [vrd qv1 (show l6.toInt = l6.toInt from by omega)] at D
  refine x_istore (lsx9 := [(6, .int v1), (0, .ref 78), (2, .int l2), (3, .int l3), (4, .int l4), (5, .int l5), (7, .int l7)]) rfl rfl rfl ?_
  refine z_iinc (x := l7) (lsx9 := fun v2 => [(7, .int v2), (6, .int v1), (0, .ref 78), (2, .int l2), (3, .int l3), (4, .int l4), (5, .int l5)]) rfl rfl rfl jko_1 (by omega) rfl (fun _ => rfl) (fun v2 ev2 => ?_)
  refine x_goto (tgt := 18) rfl rfl ?_
  try rw [show (l7.toInt + 1) = v2.toInt from by omega] at D
  exact jX.sub (jsb_c rfl (jsb_c rfl (jsb_c rfl (jsb_c rfl (jsb_c rfl (jsb_c rfl (jsb_c rfl jsb_n))))))) (k18 l2 l3 l4 l5 v1 v2 h (by omega) (jr_of rfl (by omega)) (jr_of rfl (by omega)) (jr_of rfl (by omega)) (jr_of rfl (by omega)) (jr_of rfl (by omega)) (jr_of rfl (by omega)) J Sm D)
set_option maxRecDepth 100000 in
set_option maxHeartbeats 4000000 in
theorem ct_X7_readSpan_r78d_103 {Dy : jH → Prop} {h0 : jH} {Q : Option Value → jH → Prop} {dr : jW} {K18 : Int → Int → Int → Int → Int → Int → jW → jW} {R18 : Int} (hD : jDk Dy) (hQ : ∀ hx9, jJ jSgX Dy hx9 → jSm fp_X7_readSpan_r78d h0 hx9 → dr = vw hx9 → Q none hx9) (k18 : ∀ (l2 : Int32) (l3 : Int32) (l4 : Int32) (l5 : Int32) (l6 : Int32) (l7 : Int32) (h : jH), 600 - l7.toInt < R18 → 0 ≤ l2.toInt ∧ l2.toInt ≤ 2147483647 → (-2147483648) ≤ l3.toInt ∧ l3.toInt ≤ 146399 → 0 ≤ l4.toInt ∧ l4.toInt ≤ 146399 → 0 ≤ l5.toInt ∧ l5.toInt ≤ 146399 → (-1) ≤ l6.toInt ∧ l6.toInt ≤ 599 → 0 ≤ l7.toInt ∧ l7.toInt ≤ 600 → jJ jSgX Dy h → jSm fp_X7_readSpan_r78d h0 h → K18 l2.toInt l3.toInt l4.toInt l5.toInt l6.toInt l7.toInt (vw h) = dr → jX m_X7_readSpan 1 0 0 18 [(0, .ref 78), (2, .int l2), (3, .int l3), (4, .int l4), (5, .int l5), (6, .int l6), (7, .int l7)] [] h 0 0 Q) : ∀ (l2 : Int32) (l3 : Int32) (l5 : Int32) (l6 : Int32) (l7 : Int32) (l8 : Int32) (s0 : Int32) (s1 : Int32) (h : jH), 0 ≤ l2.toInt ∧ l2.toInt ≤ 2147483647 → (-2147483648) ≤ l3.toInt ∧ l3.toInt ≤ 146399 → 0 ≤ l5.toInt ∧ l5.toInt ≤ 146399 → 0 ≤ l6.toInt ∧ l6.toInt ≤ 599 → 0 ≤ l7.toInt ∧ l7.toInt ≤ 599 → 0 ≤ l8.toInt ∧ l8.toInt ≤ 146399 → (-366) ≤ s0.toInt ∧ s0.toInt ≤ 146399 → 0 ≤ s1.toInt ∧ s1.toInt ≤ 146399 → 600 - l7.toInt ≤ R18 → jJ jSgX Dy h → jSm fp_X7_readSpan_r78d h0 h → d_X7_readSpan_r78d_103 K18  l2.toInt l3.toInt l5.toInt l6.toInt l7.toInt l8.toInt s0.toInt s1.toInt (vw h) = dr → jX m_X7_readSpan 1 0 0 103 [(0, .ref 78), (2, .int l2), (3, .int l3), (5, .int l5), (6, .int l6), (7, .int l7), (8, .int l8)] [.int s0, .int s1] h 0 0 Q := by
  intro l2 l3 l5 l6 l7 l8 s0 s1 h y0 y1 y2 y3 y4 y5 y6 y7  m18 J Sm D
  unfold d_X7_readSpan_r78d_103 at D
  refine z_mmax rfl q_7_166 (by decide) rfl rfl rfl (fun v1 ev1 => ?_)
  refine x_istore (lsx9 := [(4, .int v1), (0, .ref 78), (2, .int l2), (3, .int l3), (5, .int l5), (6, .int l6), (7, .int l7), (8, .int l8)]) rfl rfl rfl ?_
  refine x_aloadn (x := 78) rfl rfl ?_
  refine z_getR (N := 16) (b := 79) 7 7 rfl f_7_27 rfl J rfl 9991 ⟨rfl, rfl⟩ rfl ?_
  refine x_iload (x := l6) rfl rfl ?_
  refine z_iald (N := 600) rfl J rfl sg_79_0_600_1_0_1 rfl (by omega) (fun v2 qv2 ev2 => ?_)
  try rw [vrd qv2 (show l6.toInt = l6.toInt from by omega)] at D
  refine x_ifne (tgt := 128) rfl rfl (ti_ne rfl jk_0 ⟨fun c3 => ?_, fun c3 => ?_⟩)
  ·
    rw [if_neg (by omega)] at D
    refine x_aloadn (x := 78) rfl rfl ?_
    refine z_getR (N := 16) (b := 79) 7 7 rfl f_7_27 rfl J rfl 9991 ⟨rfl, rfl⟩ rfl ?_
    refine x_iload (x := l6) rfl rfl ?_
    refine z_ialdM (N := 600) (v := v2) rfl J rfl rfl (by omega) qv2 ?_
    refine x_iconst (v := 2) rfl ki_2 ?_
    refine x_icne (tgt := 153) rfl rfl (ti_ne rfl jk_2 ⟨fun c4 => ?_, fun c4 => ?_⟩)
    ·
      rw [if_neg (by omega)] at D
      refine x_aloadn (x := 78) rfl rfl ?_
      refine z_getR (N := 16) (b := 79) 7 7 rfl f_7_27 rfl J rfl 9991 ⟨rfl, rfl⟩ rfl ?_
      refine x_iload (x := l6) rfl rfl ?_
      refine z_ialdM (N := 600) (v := v2) rfl J rfl rfl (by omega) qv2 ?_
      refine x_iconst (v := 5) rfl ki_5 ?_
      refine x_icne (tgt := 238) rfl rfl (ti_ne rfl jk_5 ⟨fun c5 => ?_, fun c5 => ?_⟩)
      ·
        rw [if_neg (by omega)] at D
        try rw [show (max s1.toInt s0.toInt) = v1.toInt from by omega] at D
        exact jX.sub (jsb_c rfl (jsb_c rfl (jsb_c rfl (jsb_c rfl (jsb_c rfl (jsb_c rfl (jsb_c rfl jsb_n))))))) (ct_X7_readSpan_r78d_238 hD hQ k18 l2 l3 v1 l5 l6 l7 h (jr_of rfl (by omega)) (jr_of rfl (by omega)) (jr_of rfl (by omega)) (jr_of rfl (by omega)) (jr_of rfl (by omega)) (jr_of rfl (by omega)) (by omega) J Sm D)
      ·
        rw [if_pos (by omega)] at D
        refine x_iload (x := l5) rfl rfl ?_
        refine x_iload (x := l8) rfl rfl ?_
        refine z_mmin rfl q_7_163 (by decide) rfl rfl rfl (fun v6 ev6 => ?_)
        refine x_istore (lsx9 := [(5, .int v6), (4, .int v1), (0, .ref 78), (2, .int l2), (3, .int l3), (6, .int l6), (7, .int l7), (8, .int l8)]) rfl rfl rfl ?_
        refine x_aloadn (x := 78) rfl rfl ?_
        refine z_getR (N := 16) (b := 81) 7 9 rfl f_7_34 rfl J rfl 9993 ⟨rfl, rfl⟩ rfl ?_
        refine x_iload (x := l6) rfl rfl ?_
        refine z_iald0 (N := 600) rfl J rfl rfl (by omega) (fun v7 qv7 => ?_)
        have ev7 := jfull v7
        try rw [vrd qv7 (show l6.toInt = l6.toInt from by omega)] at D
        refine x_iconst (v := (-1)) rfl ki_m1 ?_
        refine x_iceq (tgt := 238) rfl rfl (ti_eq rfl jk_m1 ⟨fun c8 => ?_, fun c8 => ?_⟩)
        ·
          rw [if_pos (by omega)] at D
          try rw [show (max s1.toInt s0.toInt) = v1.toInt from by omega] at D
          try rw [show (min l5.toInt l8.toInt) = v6.toInt from by omega] at D
          exact jX.sub (jsb_c rfl (jsb_c rfl (jsb_c rfl (jsb_c rfl (jsb_c rfl (jsb_c rfl (jsb_c rfl jsb_n))))))) (ct_X7_readSpan_r78d_238 hD hQ k18 l2 l3 v1 v6 l6 l7 h (jr_of rfl (by omega)) (jr_of rfl (by omega)) (jr_of rfl (by omega)) (jr_of rfl (by omega)) (jr_of rfl (by omega)) (jr_of rfl (by omega)) (by omega) J Sm D)
        ·
          rw [if_neg (by omega)] at D
          refine x_iload (x := l8) rfl rfl ?_
          refine x_sipush (v := 366) rfl ks_366 ?_
          refine z_idiv rfl rfl jk_366 (by omega) (by omega) (fun v9 ev9 => ?_)
          refine x_aloadn (x := 78) rfl rfl ?_
          refine z_getR (N := 16) (b := 81) 7 9 rfl f_7_34 rfl J rfl 9993 ⟨rfl, rfl⟩ rfl ?_
          refine x_iload (x := l6) rfl rfl ?_
          refine z_ialdM (N := 600) (v := v7) rfl J rfl rfl (by omega) qv7 ?_
          refine z_isubW rfl rfl rfl (fun v10 ev10 => ?_)
          have fv10 := jfull v10
          try rw [show (l8.toInt / 366) = v9.toInt from by omega] at D
          try rw [← ev10] at D
          refine x_istore (lsx9 := [(9, .int v10), (5, .int v6), (4, .int v1), (0, .ref 78), (2, .int l2), (3, .int l3), (6, .int l6), (7, .int l7), (8, .int l8)]) rfl rfl rfl ?_
          refine x_iloadn (x := l2) rfl rfl ?_
          refine x_iload (x := v10) rfl rfl ?_
          refine x_aloadn (x := 78) rfl rfl ?_
          refine z_getI (N := 16) 7 6 rfl f_7_24 rfl J rfl sg_78_6_7_1_0_1 (fun v11 qv11 ev11 => ?_)
          try rw [vrf qv11] at D
          refine z_isubW rfl rfl rfl (fun v12 ev12 => ?_)
          have fv12 := jfull v12
          try rw [← ev12] at D
          refine x_sipush (v := 366) rfl ks_366 ?_
          refine z_imulW rfl rfl jk_366 (fun v13 ev13 => ?_)
          have fv13 := jfull v13
          try rw [← ev13] at D
          refine z_mmax rfl q_7_166 (by decide) rfl rfl rfl (fun v14 ev14 => ?_)
          refine x_istoren (lsx9 := [(2, .int v14), (9, .int v10), (5, .int v6), (4, .int v1), (0, .ref 78), (3, .int l3), (6, .int l6), (7, .int l7), (8, .int l8)]) rfl rfl rfl ?_
          refine x_iloadn (x := l3) rfl rfl ?_
          refine x_iload (x := v10) rfl rfl ?_
          refine x_aloadn (x := 78) rfl rfl ?_
          refine z_getM (N := 16) (v := v11) 7 6 rfl f_7_24 rfl J rfl qv11 ?_
          refine z_iaddW rfl rfl rfl (fun v15 ev15 => ?_)
          have fv15 := jfull v15
          try rw [← ev15] at D
          refine x_sipush (v := 366) rfl ks_366 ?_
          refine z_imulW rfl rfl jk_366 (fun v16 ev16 => ?_)
          have fv16 := jfull v16
          try rw [← ev16] at D
          refine x_sipush (v := 366) rfl ks_366 ?_
          refine z_iaddW rfl rfl jk_366 (fun v17 ev17 => ?_)
          have fv17 := jfull v17
          try rw [← ev17] at D
          refine x_iconst (v := 1) rfl ki_1 ?_
          refine z_isubW rfl rfl jk_1 (fun v18 ev18 => ?_)
          have fv18 := jfull v18
          try rw [← ev18] at D
          refine z_mmin rfl q_7_163 (by decide) rfl rfl rfl (fun v19 ev19 => ?_)
          refine x_istoren (lsx9 := [(3, .int v19), (2, .int v14), (9, .int v10), (5, .int v6), (4, .int v1), (0, .ref 78), (6, .int l6), (7, .int l7), (8, .int l8)]) rfl rfl rfl ?_
          try rw [show (max l2.toInt v13.toInt) = v14.toInt from by omega] at D
          try rw [show (min l3.toInt v18.toInt) = v19.toInt from by omega] at D
          try rw [show (max s1.toInt s0.toInt) = v1.toInt from by omega] at D
          try rw [show (min l5.toInt l8.toInt) = v6.toInt from by omega] at D
          exact jX.sub (jsb_c rfl (jsb_c rfl (jsb_c rfl (jsb_c rfl (jsb_c rfl (jsb_c rfl (jsb_c rfl jsb_n))))))) (ct_X7_readSpan_r78d_238 hD hQ k18 v14 v19 v1 v6 l6 l7 h (jr_of rfl (by omega)) (jr_of rfl (by omega)) (jr_of rfl (by omega)) (jr_of rfl (by omega)) (jr_of rfl (by omega)) (jr_of rfl (by omega)) (by omega) J Sm D)
    ·
      rw [if_pos (by omega)] at D
      refine x_iloadn (x := l2) rfl rfl ?_
      refine x_iload (x := l8) rfl rfl ?_
      refine x_sipush (v := 18300) rfl ks_18300 ?_
      refine z_isub rfl rfl jk_18300 (by omega) (fun v20 ev20 => ?_)
      refine z_mmax rfl q_7_166 (by decide) rfl rfl rfl (fun v21 ev21 => ?_)
      refine x_istoren (lsx9 := [(2, .int v21), (4, .int v1), (0, .ref 78), (3, .int l3), (5, .int l5), (6, .int l6), (7, .int l7), (8, .int l8)]) rfl rfl rfl ?_
      refine x_goto (tgt := 238) rfl rfl ?_
      try rw [show (max l2.toInt (l8.toInt - 18300)) = v21.toInt from by omega] at D
      try rw [show (max s1.toInt s0.toInt) = v1.toInt from by omega] at D
      exact jX.sub (jsb_c rfl (jsb_c rfl (jsb_c rfl (jsb_c rfl (jsb_c rfl (jsb_c rfl (jsb_c rfl jsb_n))))))) (ct_X7_readSpan_r78d_238 hD hQ k18 v21 l3 v1 l5 l6 l7 h (jr_of rfl (by omega)) (jr_of rfl (by omega)) (jr_of rfl (by omega)) (jr_of rfl (by omega)) (jr_of rfl (by omega)) (jr_of rfl (by omega)) (by omega) J Sm D)
  ·
    rw [if_pos (by omega)] at D
    refine x_iloadn (x := l2) rfl rfl ?_
    refine x_iload (x := l8) rfl rfl ?_
    refine z_mmax rfl q_7_166 (by decide) rfl rfl rfl (fun v22 ev22 => ?_)
    refine x_istoren (lsx9 := [(2, .int v22), (4, .int v1), (0, .ref 78), (3, .int l3), (5, .int l5), (6, .int l6), (7, .int l7), (8, .int l8)]) rfl rfl rfl ?_
    refine x_goto (tgt := 238) rfl rfl ?_
    try rw [show (max l2.toInt l8.toInt) = v22.toInt from by omega] at D
    try rw [show (max s1.toInt s0.toInt) = v1.toInt from by omega] at D
    exact jX.sub (jsb_c rfl (jsb_c rfl (jsb_c rfl (jsb_c rfl (jsb_c rfl (jsb_c rfl (jsb_c rfl jsb_n))))))) (ct_X7_readSpan_r78d_238 hD hQ k18 v22 l3 v1 l5 l6 l7 h (jr_of rfl (by omega)) (jr_of rfl (by omega)) (jr_of rfl (by omega)) (jr_of rfl (by omega)) (jr_of rfl (by omega)) (jr_of rfl (by omega)) (by omega) J Sm D)
set_option maxRecDepth 100000 in
set_option maxHeartbeats 4000000 in
theorem ct_X7_readSpan_r78d_75 {Dy : jH → Prop} {h0 : jH} {Q : Option Value → jH → Prop} {dr : jW} {K18 : Int → Int → Int → Int → Int → Int → jW → jW} {R18 : Int} (hD : jDk Dy) (hQ : ∀ hx9, jJ jSgX Dy hx9 → jSm fp_X7_readSpan_r78d h0 hx9 → dr = vw hx9 → Q none hx9) (k18 : ∀ (l2 : Int32) (l3 : Int32) (l4 : Int32) (l5 : Int32) (l6 : Int32) (l7 : Int32) (h : jH), 600 - l7.toInt < R18 → 0 ≤ l2.toInt ∧ l2.toInt ≤ 2147483647 → (-2147483648) ≤ l3.toInt ∧ l3.toInt ≤ 146399 → 0 ≤ l4.toInt ∧ l4.toInt ≤ 146399 → 0 ≤ l5.toInt ∧ l5.toInt ≤ 146399 → (-1) ≤ l6.toInt ∧ l6.toInt ≤ 599 → 0 ≤ l7.toInt ∧ l7.toInt ≤ 600 → jJ jSgX Dy h → jSm fp_X7_readSpan_r78d h0 h → K18 l2.toInt l3.toInt l4.toInt l5.toInt l6.toInt l7.toInt (vw h) = dr → jX m_X7_readSpan 1 0 0 18 [(0, .ref 78), (2, .int l2), (3, .int l3), (4, .int l4), (5, .int l5), (6, .int l6), (7, .int l7)] [] h 0 0 Q) : ∀ (l2 : Int32) (l4 : Int32) (l5 : Int32) (l6 : Int32) (l7 : Int32) (l8 : Int32) (s0 : Int32) (s1 : Int32) (h : jH), 0 ≤ l2.toInt ∧ l2.toInt ≤ 2147483647 → 0 ≤ l4.toInt ∧ l4.toInt ≤ 146399 → 0 ≤ l5.toInt ∧ l5.toInt ≤ 146399 → 0 ≤ l6.toInt ∧ l6.toInt ≤ 599 → 0 ≤ l7.toInt ∧ l7.toInt ≤ 599 → 0 ≤ l8.toInt ∧ l8.toInt ≤ 146399 → (-5124) ≤ s0.toInt ∧ s0.toInt ≤ 146399 → (-2147483648) ≤ s1.toInt ∧ s1.toInt ≤ 146399 → 600 - l7.toInt ≤ R18 → jJ jSgX Dy h → jSm fp_X7_readSpan_r78d h0 h → d_X7_readSpan_r78d_75 K18  l2.toInt l4.toInt l5.toInt l6.toInt l7.toInt l8.toInt s0.toInt s1.toInt (vw h) = dr → jX m_X7_readSpan 1 0 0 75 [(0, .ref 78), (2, .int l2), (4, .int l4), (5, .int l5), (6, .int l6), (7, .int l7), (8, .int l8)] [.int s0, .int s1] h 0 0 Q := by
  intro l2 l4 l5 l6 l7 l8 s0 s1 h y0 y1 y2 y3 y4 y5 y6 y7  m18 J Sm D
  unfold d_X7_readSpan_r78d_75 at D
  refine z_mmin rfl q_7_163 (by decide) rfl rfl rfl (fun v1 ev1 => ?_)
  refine x_istoren (lsx9 := [(3, .int v1), (0, .ref 78), (2, .int l2), (4, .int l4), (5, .int l5), (6, .int l6), (7, .int l7), (8, .int l8)]) rfl rfl rfl ?_
  refine x_iload (x := l4) rfl rfl ?_
  refine x_aloadn (x := 78) rfl rfl ?_
  refine z_getR (N := 16) (b := 79) 7 7 rfl f_7_27 rfl J rfl 9991 ⟨rfl, rfl⟩ rfl ?_
  refine x_iload (x := l6) rfl rfl ?_
  refine z_iald (N := 600) rfl J rfl sg_79_0_600_1_0_1 rfl (by omega) (fun v2 qv2 ev2 => ?_)
  try rw [vrd qv2 (show l6.toInt = l6.toInt from by omega)] at D
  refine x_iconst (v := 1) rfl ki_1 ?_
  refine x_icne (tgt := 101) rfl rfl (ti_ne rfl jk_1 ⟨fun c3 => ?_, fun c3 => ?_⟩)
  ·
    rw [if_neg (by omega)] at D
    refine x_iload (x := l8) rfl rfl ?_
    try rw [show (min s1.toInt s0.toInt) = v1.toInt from by omega] at D
    exact jX.sub (jsb_c rfl (jsb_c rfl (jsb_c rfl (jsb_c rfl (jsb_c rfl (jsb_c rfl (jsb_c rfl jsb_n))))))) (ct_X7_readSpan_r78d_103 hD hQ k18 l2 v1 l5 l6 l7 l8 l8 l4 h (jr_of rfl (by omega)) (jr_of rfl (by omega)) (jr_of rfl (by omega)) (jr_of rfl (by omega)) (jr_of rfl (by omega)) (jr_of rfl (by omega)) (jr_of rfl (by omega)) (jr_of rfl (by omega)) (by omega) J Sm D)
  ·
    rw [if_pos (by omega)] at D
    refine x_iload (x := l8) rfl rfl ?_
    refine x_sipush (v := 366) rfl ks_366 ?_
    refine z_isub rfl rfl jk_366 (by omega) (fun v4 ev4 => ?_)
    refine x_goto (tgt := 103) rfl rfl ?_
    try rw [show (min s1.toInt s0.toInt) = v1.toInt from by omega] at D
    try rw [show (l8.toInt - 366) = v4.toInt from by omega] at D
    exact jX.sub (jsb_c rfl (jsb_c rfl (jsb_c rfl (jsb_c rfl (jsb_c rfl (jsb_c rfl (jsb_c rfl jsb_n))))))) (ct_X7_readSpan_r78d_103 hD hQ k18 l2 v1 l5 l6 l7 l8 v4 l4 h (jr_of rfl (by omega)) (jr_of rfl (by omega)) (jr_of rfl (by omega)) (jr_of rfl (by omega)) (jr_of rfl (by omega)) (jr_of rfl (by omega)) (jr_of rfl (by omega)) (jr_of rfl (by omega)) (by omega) J Sm D)
set_option maxRecDepth 100000 in
set_option maxHeartbeats 4000000 in
theorem ct_X7_readSpan_r78d_73 {Dy : jH → Prop} {h0 : jH} {Q : Option Value → jH → Prop} {dr : jW} {K18 : Int → Int → Int → Int → Int → Int → jW → jW} {R18 : Int} (hD : jDk Dy) (hQ : ∀ hx9, jJ jSgX Dy hx9 → jSm fp_X7_readSpan_r78d h0 hx9 → dr = vw hx9 → Q none hx9) (k18 : ∀ (l2 : Int32) (l3 : Int32) (l4 : Int32) (l5 : Int32) (l6 : Int32) (l7 : Int32) (h : jH), 600 - l7.toInt < R18 → 0 ≤ l2.toInt ∧ l2.toInt ≤ 2147483647 → (-2147483648) ≤ l3.toInt ∧ l3.toInt ≤ 146399 → 0 ≤ l4.toInt ∧ l4.toInt ≤ 146399 → 0 ≤ l5.toInt ∧ l5.toInt ≤ 146399 → (-1) ≤ l6.toInt ∧ l6.toInt ≤ 599 → 0 ≤ l7.toInt ∧ l7.toInt ≤ 600 → jJ jSgX Dy h → jSm fp_X7_readSpan_r78d h0 h → K18 l2.toInt l3.toInt l4.toInt l5.toInt l6.toInt l7.toInt (vw h) = dr → jX m_X7_readSpan 1 0 0 18 [(0, .ref 78), (2, .int l2), (3, .int l3), (4, .int l4), (5, .int l5), (6, .int l6), (7, .int l7)] [] h 0 0 Q) : ∀ (l2 : Int32) (l4 : Int32) (l5 : Int32) (l6 : Int32) (l7 : Int32) (l8 : Int32) (s0 : Int32) (h : jH), 0 ≤ l2.toInt ∧ l2.toInt ≤ 2147483647 → 0 ≤ l4.toInt ∧ l4.toInt ≤ 146399 → 0 ≤ l5.toInt ∧ l5.toInt ≤ 146399 → 0 ≤ l6.toInt ∧ l6.toInt ≤ 599 → 0 ≤ l7.toInt ∧ l7.toInt ≤ 599 → 0 ≤ l8.toInt ∧ l8.toInt ≤ 146399 → (-2147483648) ≤ s0.toInt ∧ s0.toInt ≤ 146399 → 600 - l7.toInt ≤ R18 → jJ jSgX Dy h → jSm fp_X7_readSpan_r78d h0 h → d_X7_readSpan_r78d_73 K18  l2.toInt l4.toInt l5.toInt l6.toInt l7.toInt l8.toInt s0.toInt (vw h) = dr → jX m_X7_readSpan 1 0 0 73 [(0, .ref 78), (2, .int l2), (4, .int l4), (5, .int l5), (6, .int l6), (7, .int l7), (8, .int l8)] [.int s0] h 0 0 Q := by
  intro l2 l4 l5 l6 l7 l8 s0 h y0 y1 y2 y3 y4 y5 y6  m18 J Sm D
  unfold d_X7_readSpan_r78d_73 at D
  refine x_iload (x := l8) rfl rfl ?_
  exact jX.sub (jsb_c rfl (jsb_c rfl (jsb_c rfl (jsb_c rfl (jsb_c rfl (jsb_c rfl (jsb_c rfl jsb_n))))))) (ct_X7_readSpan_r78d_75 hD hQ k18 l2 l4 l5 l6 l7 l8 l8 s0 h (jr_of rfl (by omega)) (jr_of rfl (by omega)) (jr_of rfl (by omega)) (jr_of rfl (by omega)) (jr_of rfl (by omega)) (jr_of rfl (by omega)) (jr_of rfl (by omega)) (jr_of rfl (by omega)) (by omega) J Sm D)
set_option maxRecDepth 100000 in
set_option maxHeartbeats 4000000 in
theorem ct_X7_readSpan_r78d_18 {Dy : jH → Prop} {h0 : jH} {Q : Option Value → jH → Prop} {dr : jW} (hD : jDk Dy) (hQ : ∀ hx9, jJ jSgX Dy hx9 → jSm fp_X7_readSpan_r78d h0 hx9 → dr = vw hx9 → Q none hx9) : ∀ r : Nat, ∀ (l2 : Int32) (l3 : Int32) (l4 : Int32) (l5 : Int32) (l6 : Int32) (l7 : Int32) (h : jH), 600 - l7.toInt < (r : Int) → 0 ≤ l2.toInt ∧ l2.toInt ≤ 2147483647 → (-2147483648) ≤ l3.toInt ∧ l3.toInt ≤ 146399 → 0 ≤ l4.toInt ∧ l4.toInt ≤ 146399 → 0 ≤ l5.toInt ∧ l5.toInt ≤ 146399 → (-1) ≤ l6.toInt ∧ l6.toInt ≤ 599 → 0 ≤ l7.toInt ∧ l7.toInt ≤ 600 → jJ jSgX Dy h → jSm fp_X7_readSpan_r78d h0 h → d_X7_readSpan_r78d_18 r l2.toInt l3.toInt l4.toInt l5.toInt l6.toInt l7.toInt (vw h) = dr → jX m_X7_readSpan 1 0 0 18 [(0, .ref 78), (2, .int l2), (3, .int l3), (4, .int l4), (5, .int l5), (6, .int l6), (7, .int l7)] [] h 0 0 Q := by
  intro r
  induction r with
  | zero =>
    intro l2 l3 l4 l5 l6 l7 h hm y0 y1 y2 y3 y4 y5   J Sm D
    exfalso
    omega
  | succ r ih =>
    intro l2 l3 l4 l5 l6 l7 h hm y0 y1 y2 y3 y4 y5   J Sm D
    rw [d_X7_readSpan_r78d_18.eq_2] at D
    refine x_iload (x := l6) rfl rfl ?_
    refine x_iconst (v := (-1)) rfl ki_m1 ?_
    refine x_iceq (tgt := 253) rfl rfl (ti_eq rfl jk_m1 ⟨fun c1 => ?_, fun c1 => ?_⟩)
    ·
      rw [if_pos (by omega)] at D
      exact jX.sub (jsb_c rfl (jsb_c rfl (jsb_c rfl (jsb_c rfl (jsb_c rfl jsb_n))))) (ct_X7_readSpan_r78d_253 hD hQ  l2 l3 l4 l5 h (jr_of rfl (by omega)) (jr_of rfl (by omega)) (jr_of rfl (by omega)) (jr_of rfl (by omega)) J Sm D)
    ·
      rw [if_neg (by omega)] at D
      refine x_iload (x := l7) rfl rfl ?_
      refine x_sipush (v := 600) rfl ks_600 ?_
      refine x_icge (tgt := 253) rfl rfl (ti_ge rfl jk_600 ⟨fun c2 => ?_, fun c2 => ?_⟩)
      ·
        rw [if_pos (by omega)] at D
        exact jX.sub (jsb_c rfl (jsb_c rfl (jsb_c rfl (jsb_c rfl (jsb_c rfl jsb_n))))) (ct_X7_readSpan_r78d_253 hD hQ  l2 l3 l4 l5 h (jr_of rfl (by omega)) (jr_of rfl (by omega)) (jr_of rfl (by omega)) (jr_of rfl (by omega)) J Sm D)
      ·
        rw [if_neg (by omega)] at D
        refine x_aloadn (x := 78) rfl rfl ?_
        refine z_getR (N := 16) (b := 80) 7 8 rfl f_7_31 rfl J rfl 9992 ⟨rfl, rfl⟩ rfl ?_
        refine x_iload (x := l6) rfl rfl ?_
        refine z_iald (N := 600) rfl J rfl sg_80_0_600_1_0_1 rfl (by omega) (fun v3 qv3 ev3 => ?_)
        try rw [vrd qv3 (show l6.toInt = l6.toInt from by omega)] at D
        refine x_istore (lsx9 := [(8, .int v3), (0, .ref 78), (2, .int l2), (3, .int l3), (4, .int l4), (5, .int l5), (6, .int l6), (7, .int l7)]) rfl rfl rfl ?_
        refine x_iloadn (x := l3) rfl rfl ?_
        refine x_aloadn (x := 78) rfl rfl ?_
        refine z_getR (N := 16) (b := 79) 7 7 rfl f_7_27 rfl J rfl 9991 ⟨rfl, rfl⟩ rfl ?_
        refine x_iload (x := l6) rfl rfl ?_
        refine z_iald (N := 600) rfl J rfl sg_79_0_600_1_0_1 rfl (by omega) (fun v4 qv4 ev4 => ?_)
        try rw [vrd qv4 (show l6.toInt = l6.toInt from by omega)] at D
        refine x_iconst (v := 1) rfl ki_1 ?_
        refine x_iclt (tgt := 73) rfl rfl (ti_lt rfl jk_1 ⟨fun c5 => ?_, fun c5 => ?_⟩)
        ·
          rw [if_pos (by omega)] at D
          exact jX.sub (jsb_c rfl (jsb_c rfl (jsb_c rfl (jsb_c rfl (jsb_c rfl (jsb_c rfl (jsb_c rfl jsb_n))))))) (ct_X7_readSpan_r78d_73 hD hQ ih l2 l4 l5 l6 l7 v3 l3 h (jr_of rfl (by omega)) (jr_of rfl (by omega)) (jr_of rfl (by omega)) (jr_of rfl (by omega)) (jr_of rfl (by omega)) (jr_of rfl (by omega)) (jr_of rfl (by omega)) (by omega) J Sm D)
        ·
          rw [if_neg (by omega)] at D
          refine x_aloadn (x := 78) rfl rfl ?_
          refine z_getR (N := 16) (b := 79) 7 7 rfl f_7_27 rfl J rfl 9991 ⟨rfl, rfl⟩ rfl ?_
          refine x_iload (x := l6) rfl rfl ?_
          refine z_ialdM (N := 600) (v := v4) rfl J rfl rfl (by omega) qv4 ?_
          refine x_iconst (v := 4) rfl ki_4 ?_
          refine x_icgt (tgt := 73) rfl rfl (ti_gt rfl jk_4 ⟨fun c6 => ?_, fun c6 => ?_⟩)
          ·
            rw [if_pos (by omega)] at D
            exact jX.sub (jsb_c rfl (jsb_c rfl (jsb_c rfl (jsb_c rfl (jsb_c rfl (jsb_c rfl (jsb_c rfl jsb_n))))))) (ct_X7_readSpan_r78d_73 hD hQ ih l2 l4 l5 l6 l7 v3 l3 h (jr_of rfl (by omega)) (jr_of rfl (by omega)) (jr_of rfl (by omega)) (jr_of rfl (by omega)) (jr_of rfl (by omega)) (jr_of rfl (by omega)) (jr_of rfl (by omega)) (by omega) J Sm D)
          ·
            rw [if_neg (by omega)] at D
            refine x_iload (x := v3) rfl rfl ?_
            refine x_sipush (v := 5124) rfl ks_5124 ?_
            refine z_isub rfl rfl jk_5124 (by omega) (fun v7 ev7 => ?_)
            refine x_goto (tgt := 75) rfl rfl ?_
            try rw [show (v3.toInt - 5124) = v7.toInt from by omega] at D
            exact jX.sub (jsb_c rfl (jsb_c rfl (jsb_c rfl (jsb_c rfl (jsb_c rfl (jsb_c rfl (jsb_c rfl jsb_n))))))) (ct_X7_readSpan_r78d_75 hD hQ ih l2 l4 l5 l6 l7 v3 v7 l3 h (jr_of rfl (by omega)) (jr_of rfl (by omega)) (jr_of rfl (by omega)) (jr_of rfl (by omega)) (jr_of rfl (by omega)) (jr_of rfl (by omega)) (jr_of rfl (by omega)) (jr_of rfl (by omega)) (by omega) J Sm D)
set_option maxRecDepth 100000 in
set_option maxHeartbeats 4000000 in
theorem sf_X7_readSpan_r78d {Dy : jH → Prop} {h : jH} {Q : Option Value → jH → Prop} {dr : jW} {a1 : Int32} (y1 : (-1) ≤ a1.toInt ∧ a1.toInt ≤ 599) (hD : jDk Dy) (J : jJ jSgX Dy h) (D : d_X7_readSpan_r78d a1.toInt (vw h) = dr) (hQ : ∀ hx9, jJ jSgX Dy hx9 → jSm fp_X7_readSpan_r78d h hx9 → dr = vw hx9 → Q none hx9) : jC m_X7_readSpan 1 0 0 [.ref 78, .int a1] h Q := by
  refine jC.of rfl k_X7_readSpan rfl ?_
  have Sm := jSm_rf fp_X7_readSpan_r78d h
  show jX m_X7_readSpan 1 0 0 0 [(0, .ref 78), (1, .int a1)] [] _ 0 0 _
  unfold d_X7_readSpan_r78d at D
  refine x_iconst (v := 0) rfl ki_0 ?_
  refine x_istoren (lsx9 := [(2, .int 0), (0, .ref 78), (1, .int a1)]) rfl rfl rfl ?_
  refine x_ldc (v := 146399) rfl z_7_185 ?_
  refine x_istoren (lsx9 := [(3, .int 146399), (2, .int 0), (0, .ref 78), (1, .int a1)]) rfl rfl rfl ?_
  refine x_iconst (v := 0) rfl ki_0 ?_
  refine x_istore (lsx9 := [(4, .int 0), (3, .int 146399), (2, .int 0), (0, .ref 78), (1, .int a1)]) rfl rfl rfl ?_
  refine x_ldc (v := 146399) rfl z_7_185 ?_
  refine x_istore (lsx9 := [(5, .int 146399), (4, .int 0), (3, .int 146399), (2, .int 0), (0, .ref 78), (1, .int a1)]) rfl rfl rfl ?_
  refine x_iloadn (x := a1) rfl rfl ?_
  refine x_istore (lsx9 := [(6, .int a1), (5, .int 146399), (4, .int 0), (3, .int 146399), (2, .int 0), (0, .ref 78), (1, .int a1)]) rfl rfl rfl ?_
  refine x_iconst (v := 0) rfl ki_0 ?_
  refine x_istore (lsx9 := [(7, .int 0), (6, .int a1), (5, .int 146399), (4, .int 0), (3, .int 146399), (2, .int 0), (0, .ref 78), (1, .int a1)]) rfl rfl rfl ?_
  exact jX.sub (jsb_c rfl (jsb_c rfl (jsb_c rfl (jsb_c rfl (jsb_c rfl (jsb_c rfl (jsb_c rfl jsb_n))))))) (ct_X7_readSpan_r78d_18 hD hQ  601 0 146399 0 146399 a1 0 h (by have := jk_0; omega) (jr_of jk_0 (by omega)) (jr_of jk_146399 (by omega)) (jr_of jk_0 (by omega)) (jr_of jk_146399 (by omega)) (jr_of rfl (by omega)) (jr_of jk_0 (by omega)) J Sm (by rw [jk_0, jk_146399]; exact D))
def fp_X7_reliefOf_r78d : jFp := []
set_option maxRecDepth 100000 in
set_option maxHeartbeats 4000000 in
theorem ct_X7_reliefOf_r78d_84 {Dy : jH → Prop} {h0 : jH} {Q : Option Value → jH → Prop} {dr : Int} (hD : jDk Dy) (hQ : ∀ (v : Int32) hx9, jJ jSgX Dy hx9 → jSm fp_X7_reliefOf_r78d h0 hx9 → dr = v.toInt → vw hx9 = vw h0 → Q (some (.int v)) hx9) : ∀ (l4 : Int32) (h : jH), jJ jSgX Dy h → jSm fp_X7_reliefOf_r78d h0 h → d_X7_reliefOf_r78d_84  l4.toInt (vw h) = dr → vw h = vw h0 → jX m_X7_reliefOf 1 0 0 84 [(4, .int l4)] [] h 0 0 Q := by
  intro l4 h    J Sm D EV
  have el4 := jfull l4
  unfold d_X7_reliefOf_r78d_84 at D
  refine x_iload (x := l4) rfl rfl ?_
  refine x_iret rfl rfl ?_
  exact hQ _ _ J Sm (D.symm.trans (show l4.toInt = l4.toInt from by omega)) EV
set_option maxRecDepth 100000 in
set_option maxHeartbeats 4000000 in
theorem ct_X7_reliefOf_r78d_69 {Dy : jH → Prop} {h0 : jH} {Q : Option Value → jH → Prop} {dr : Int} {K9 : Int → Int → Int → Int → Int → jW → Int} {R9 : Int} (hD : jDk Dy) (hQ : ∀ (v : Int32) hx9, jJ jSgX Dy hx9 → jSm fp_X7_reliefOf_r78d h0 hx9 → dr = v.toInt → vw hx9 = vw h0 → Q (some (.int v)) hx9) (k9 : ∀ (l2 : Int32) (l3 : Int32) (l4 : Int32) (l5 : Int32) (l6 : Int32) (h : jH), 600 - l6.toInt < R9 → (-365) ≤ l2.toInt ∧ l2.toInt ≤ 146399 → 0 ≤ l3.toInt ∧ l3.toInt ≤ 146399 → (-1) ≤ l5.toInt ∧ l5.toInt ≤ 599 → 0 ≤ l6.toInt ∧ l6.toInt ≤ 600 → jJ jSgX Dy h → jSm fp_X7_reliefOf_r78d h0 h → K9 l2.toInt l3.toInt l4.toInt l5.toInt l6.toInt (vw h) = dr → vw h = vw h0 → jX m_X7_reliefOf 1 0 0 9 [(0, .ref 78), (2, .int l2), (3, .int l3), (4, .int l4), (5, .int l5), (6, .int l6)] [] h 0 0 Q) : ∀ (l2 : Int32) (l3 : Int32) (l4 : Int32) (l5 : Int32) (l6 : Int32) (h : jH), (-365) ≤ l2.toInt ∧ l2.toInt ≤ 146399 → 0 ≤ l3.toInt ∧ l3.toInt ≤ 146399 → 0 ≤ l5.toInt ∧ l5.toInt ≤ 599 → 0 ≤ l6.toInt ∧ l6.toInt ≤ 599 → 600 - l6.toInt ≤ R9 → jJ jSgX Dy h → jSm fp_X7_reliefOf_r78d h0 h → d_X7_reliefOf_r78d_69 K9  l2.toInt l3.toInt l4.toInt l5.toInt l6.toInt (vw h) = dr → vw h = vw h0 → jX m_X7_reliefOf 1 0 0 69 [(0, .ref 78), (2, .int l2), (3, .int l3), (4, .int l4), (5, .int l5), (6, .int l6)] [] h 0 0 Q := by
  intro l2 l3 l4 l5 l6 h y0 y1 y2 y3  m9 J Sm D EV
  have el4 := jfull l4
  unfold d_X7_reliefOf_r78d_69 at D
  refine x_aloadn (x := 78) rfl rfl ?_
  refine z_getR (N := 16) (b := 83) 7 11 rfl f_7_40 rfl J rfl 9995 ⟨rfl, rfl⟩ rfl ?_
  refine x_iload (x := l5) rfl rfl ?_
  refine z_iald (N := 600) rfl J rfl sg_83_0_600_1_0_1 rfl (by omega) (fun v1 qv1 ev1 => ?_)
  try rw [vrd qv1 (show l5.toInt = l5.toInt from by omega)] at D
  refine x_istore (lsx9 := [(5, .int v1), (0, .ref 78), (2, .int l2), (3, .int l3), (4, .int l4), (6, .int l6)]) rfl rfl rfl ?_
  refine z_iinc (x := l6) (lsx9 := fun v2 => [(6, .int v2), (5, .int v1), (0, .ref 78), (2, .int l2), (3, .int l3), (4, .int l4)]) rfl rfl rfl jko_1 (by omega) rfl (fun _ => rfl) (fun v2 ev2 => ?_)
  refine x_goto (tgt := 9) rfl rfl ?_
  try rw [show (l6.toInt + 1) = v2.toInt from by omega] at D
  exact jX.sub (jsb_c rfl (jsb_c rfl (jsb_c rfl (jsb_c rfl (jsb_c rfl (jsb_c rfl jsb_n)))))) (k9 l2 l3 l4 v1 v2 h (by omega) (jr_of rfl (by omega)) (jr_of rfl (by omega)) (jr_of rfl (by omega)) (jr_of rfl (by omega)) J Sm D EV)
set_option maxRecDepth 100000 in
set_option maxHeartbeats 4000000 in
theorem ct_X7_reliefOf_r78d_9 {Dy : jH → Prop} {h0 : jH} {Q : Option Value → jH → Prop} {dr : Int} (hD : jDk Dy) (hQ : ∀ (v : Int32) hx9, jJ jSgX Dy hx9 → jSm fp_X7_reliefOf_r78d h0 hx9 → dr = v.toInt → vw hx9 = vw h0 → Q (some (.int v)) hx9) : ∀ r : Nat, ∀ (l2 : Int32) (l3 : Int32) (l4 : Int32) (l5 : Int32) (l6 : Int32) (h : jH), 600 - l6.toInt < (r : Int) → (-365) ≤ l2.toInt ∧ l2.toInt ≤ 146399 → 0 ≤ l3.toInt ∧ l3.toInt ≤ 146399 → (-1) ≤ l5.toInt ∧ l5.toInt ≤ 599 → 0 ≤ l6.toInt ∧ l6.toInt ≤ 600 → jJ jSgX Dy h → jSm fp_X7_reliefOf_r78d h0 h → d_X7_reliefOf_r78d_9 r l2.toInt l3.toInt l4.toInt l5.toInt l6.toInt (vw h) = dr → vw h = vw h0 → jX m_X7_reliefOf 1 0 0 9 [(0, .ref 78), (2, .int l2), (3, .int l3), (4, .int l4), (5, .int l5), (6, .int l6)] [] h 0 0 Q := by
  intro r
  induction r with
  | zero =>
    intro l2 l3 l4 l5 l6 h hm y0 y1 y2 y3   J Sm D EV
    exfalso
    have el4 := jfull l4
    omega
  | succ r ih =>
    intro l2 l3 l4 l5 l6 h hm y0 y1 y2 y3   J Sm D EV
    have el4 := jfull l4
    rw [d_X7_reliefOf_r78d_9.eq_2] at D
    refine x_iload (x := l5) rfl rfl ?_
    refine x_iconst (v := (-1)) rfl ki_m1 ?_
    refine x_iceq (tgt := 84) rfl rfl (ti_eq rfl jk_m1 ⟨fun c1 => ?_, fun c1 => ?_⟩)
    ·
      rw [if_pos (by omega)] at D
      exact jX.sub (jsb_c rfl jsb_n) (ct_X7_reliefOf_r78d_84 hD hQ  l4 h J Sm D EV)
    ·
      rw [if_neg (by omega)] at D
      refine x_iload (x := l6) rfl rfl ?_
      refine x_sipush (v := 600) rfl ks_600 ?_
      refine x_icge (tgt := 84) rfl rfl (ti_ge rfl jk_600 ⟨fun c2 => ?_, fun c2 => ?_⟩)
      ·
        rw [if_pos (by omega)] at D
        exact jX.sub (jsb_c rfl jsb_n) (ct_X7_reliefOf_r78d_84 hD hQ  l4 h J Sm D EV)
      ·
        rw [if_neg (by omega)] at D
        refine x_aloadn (x := 78) rfl rfl ?_
        refine z_getR (N := 16) (b := 79) 7 7 rfl f_7_27 rfl J rfl 9991 ⟨rfl, rfl⟩ rfl ?_
        refine x_iload (x := l5) rfl rfl ?_
        refine z_iald (N := 600) rfl J rfl sg_79_0_600_1_0_1 rfl (by omega) (fun v3 qv3 ev3 => ?_)
        try rw [vrd qv3 (show l5.toInt = l5.toInt from by omega)] at D
        refine x_bipush (v := 7) rfl kb_7 ?_
        refine x_icne (tgt := 69) rfl rfl (ti_ne rfl jk_7 ⟨fun c4 => ?_, fun c4 => ?_⟩)
        ·
          rw [if_neg (by omega)] at D
          exact jX.sub (jsb_c rfl (jsb_c rfl (jsb_c rfl (jsb_c rfl (jsb_c rfl (jsb_c rfl jsb_n)))))) (ct_X7_reliefOf_r78d_69 hD hQ ih l2 l3 l4 l5 l6 h (jr_of rfl (by omega)) (jr_of rfl (by omega)) (jr_of rfl (by omega)) (jr_of rfl (by omega)) (by omega) J Sm D EV)
        ·
          rw [if_pos (by omega)] at D
          refine x_aloadn (x := 78) rfl rfl ?_
          refine z_getR (N := 16) (b := 80) 7 8 rfl f_7_31 rfl J rfl 9992 ⟨rfl, rfl⟩ rfl ?_
          refine x_iload (x := l5) rfl rfl ?_
          refine z_iald (N := 600) rfl J rfl sg_80_0_600_1_0_1 rfl (by omega) (fun v5 qv5 ev5 => ?_)
          try rw [vrd qv5 (show l5.toInt = l5.toInt from by omega)] at D
          refine x_iloadn (x := l2) rfl rfl ?_
          refine x_iclt (tgt := 69) rfl rfl (ti_lt rfl rfl ⟨fun c6 => ?_, fun c6 => ?_⟩)
          ·
            rw [if_pos (by omega)] at D
            exact jX.sub (jsb_c rfl (jsb_c rfl (jsb_c rfl (jsb_c rfl (jsb_c rfl (jsb_c rfl jsb_n)))))) (ct_X7_reliefOf_r78d_69 hD hQ ih l2 l3 l4 l5 l6 h (jr_of rfl (by omega)) (jr_of rfl (by omega)) (jr_of rfl (by omega)) (jr_of rfl (by omega)) (by omega) J Sm D EV)
          ·
            rw [if_neg (by omega)] at D
            refine x_aloadn (x := 78) rfl rfl ?_
            refine z_getR (N := 16) (b := 80) 7 8 rfl f_7_31 rfl J rfl 9992 ⟨rfl, rfl⟩ rfl ?_
            refine x_iload (x := l5) rfl rfl ?_
            refine z_ialdM (N := 600) (v := v5) rfl J rfl rfl (by omega) qv5 ?_
            refine x_iloadn (x := l3) rfl rfl ?_
            refine x_icgt (tgt := 69) rfl rfl (ti_gt rfl rfl ⟨fun c7 => ?_, fun c7 => ?_⟩)
            ·
              rw [if_pos (by omega)] at D
              exact jX.sub (jsb_c rfl (jsb_c rfl (jsb_c rfl (jsb_c rfl (jsb_c rfl (jsb_c rfl jsb_n)))))) (ct_X7_reliefOf_r78d_69 hD hQ ih l2 l3 l4 l5 l6 h (jr_of rfl (by omega)) (jr_of rfl (by omega)) (jr_of rfl (by omega)) (jr_of rfl (by omega)) (by omega) J Sm D EV)
            ·
              rw [if_neg (by omega)] at D
              refine x_iload (x := l4) rfl rfl ?_
              refine x_aloadn (x := 78) rfl rfl ?_
              refine z_getR (N := 16) (b := 81) 7 9 rfl f_7_34 rfl J rfl 9993 ⟨rfl, rfl⟩ rfl ?_
              refine x_iload (x := l5) rfl rfl ?_
              refine z_iald0 (N := 600) rfl J rfl rfl (by omega) (fun v8 qv8 => ?_)
              have ev8 := jfull v8
              try rw [vrd qv8 (show l5.toInt = l5.toInt from by omega)] at D
              refine z_iaddW rfl rfl rfl (fun v9 ev9 => ?_)
              have fv9 := jfull v9
              try rw [← ev9] at D
              refine x_istore (lsx9 := [(4, .int v9), (0, .ref 78), (2, .int l2), (3, .int l3), (5, .int l5), (6, .int l6)]) rfl rfl rfl ?_
              exact jX.sub (jsb_c rfl (jsb_c rfl (jsb_c rfl (jsb_c rfl (jsb_c rfl (jsb_c rfl jsb_n)))))) (ct_X7_reliefOf_r78d_69 hD hQ ih l2 l3 v9 l5 l6 h (jr_of rfl (by omega)) (jr_of rfl (by omega)) (jr_of rfl (by omega)) (jr_of rfl (by omega)) (by omega) J Sm D EV)
set_option maxRecDepth 100000 in
set_option maxHeartbeats 4000000 in
theorem sf_X7_reliefOf_r78d {Dy : jH → Prop} {h : jH} {Q : Option Value → jH → Prop} {dr : Int} {a1 : Int32} {a2 : Int32} {a3 : Int32} (y1 : (-1) ≤ a1.toInt ∧ a1.toInt ≤ 599) (y2 : (-365) ≤ a2.toInt ∧ a2.toInt ≤ 146399) (y3 : 0 ≤ a3.toInt ∧ a3.toInt ≤ 146399) (hD : jDk Dy) (J : jJ jSgX Dy h) (D : d_X7_reliefOf_r78d a1.toInt a2.toInt a3.toInt (vw h) = dr) (hQ : ∀ (v : Int32) hx9, jJ jSgX Dy hx9 → jSm fp_X7_reliefOf_r78d h hx9 → dr = v.toInt → vw hx9 = vw h → Q (some (.int v)) hx9) : jC m_X7_reliefOf 1 0 0 [.ref 78, .int a1, .int a2, .int a3] h Q := by
  refine jC.of rfl k_X7_reliefOf rfl ?_
  have Sm := jSm_rf fp_X7_reliefOf_r78d h
  show jX m_X7_reliefOf 1 0 0 0 [(0, .ref 78), (1, .int a1), (2, .int a2), (3, .int a3)] [] _ 0 0 _
  unfold d_X7_reliefOf_r78d at D
  have EV : vw h = vw h := rfl
  refine x_iconst (v := 0) rfl ki_0 ?_
  refine x_istore (lsx9 := [(4, .int 0), (0, .ref 78), (1, .int a1), (2, .int a2), (3, .int a3)]) rfl rfl rfl ?_
  refine x_iloadn (x := a1) rfl rfl ?_
  refine x_istore (lsx9 := [(5, .int a1), (4, .int 0), (0, .ref 78), (1, .int a1), (2, .int a2), (3, .int a3)]) rfl rfl rfl ?_
  refine x_iconst (v := 0) rfl ki_0 ?_
  refine x_istore (lsx9 := [(6, .int 0), (5, .int a1), (4, .int 0), (0, .ref 78), (1, .int a1), (2, .int a2), (3, .int a3)]) rfl rfl rfl ?_
  exact jX.sub (jsb_c rfl (jsb_c rfl (jsb_c rfl (jsb_c rfl (jsb_c rfl (jsb_c rfl jsb_n)))))) (ct_X7_reliefOf_r78d_9 hD hQ  601 a2 a3 0 a1 0 h (by have := jk_0; omega) (jr_of rfl (by omega)) (jr_of rfl (by omega)) (jr_of rfl (by omega)) (jr_of jk_0 (by omega)) J Sm (by rw [jk_0]; exact D) EV)
def fp_X0_quantity_r98d : jFp := [(85, 0, 4)]
set_option maxRecDepth 100000 in
set_option maxHeartbeats 4000000 in
theorem ct_X0_quantity_r98d_5000186 {Dy : jH → Prop} {h0 : jH} {Q : Option Value → jH → Prop} {dr : (Int × jW)} (hD : jDk Dy) (hQ : ∀ (v : Int64) hx9, jJ jSgX Dy hx9 → jSm fp_X0_quantity_r98d h0 hx9 → dr.1 = v.toInt → dr.2 = vw hx9 → Q (some (.long v)) hx9) : ∀ (s0 : Int64) (h : jH), 0 ≤ s0.toInt ∧ s0.toInt ≤ 1 → jJ jSgX Dy h → jSm fp_X0_quantity_r98d h0 h → d_X0_quantity_r98d_5000186  s0.toInt (vw h) = dr → jX m_X0_quantity 3 0 0 186 [] [.long s0] h 0 0 Q := by
  intro s0 h y0   J Sm D
  unfold d_X0_quantity_r98d_5000186 at D
  refine x_lret rfl rfl ?_
  exact hQ _ _ J Sm ((congrArg Prod.fst D).symm.trans (show s0.toInt = s0.toInt from by omega)) (congrArg Prod.snd D).symm
set_option maxRecDepth 100000 in
set_option maxHeartbeats 4000000 in
theorem ct_X0_quantity_r98d_181 {Dy : jH → Prop} {h0 : jH} {Q : Option Value → jH → Prop} {dr : (Int × jW)} (hD : jDk Dy) (hQ : ∀ (v : Int64) hx9, jJ jSgX Dy hx9 → jSm fp_X0_quantity_r98d h0 hx9 → dr.1 = v.toInt → dr.2 = vw hx9 → Q (some (.long v)) hx9) : ∀ (h : jH), jJ jSgX Dy h → jSm fp_X0_quantity_r98d h0 h → d_X0_quantity_r98d_181  (vw h) = dr → jX m_X0_quantity 3 0 0 181 [] [] h 0 0 Q := by
  intro  h    J Sm D
  unfold d_X0_quantity_r98d_181 at D
  refine x_lconst (v := 1) rfl kl_1 ?_
  refine x_goto (tgt := 186) rfl rfl ?_
  exact jX.sub jsb_n (ct_X0_quantity_r98d_5000186 hD hQ  1 h (jr_ofl jkl_1 (by omega)) J Sm (by rw [jkl_1]; exact D))
set_option maxRecDepth 100000 in
set_option maxHeartbeats 4000000 in
theorem ct_X0_quantity_r98d_5000208 {Dy : jH → Prop} {h0 : jH} {Q : Option Value → jH → Prop} {dr : (Int × jW)} (hD : jDk Dy) (hQ : ∀ (v : Int64) hx9, jJ jSgX Dy hx9 → jSm fp_X0_quantity_r98d h0 hx9 → dr.1 = v.toInt → dr.2 = vw hx9 → Q (some (.long v)) hx9) : ∀ (s0 : Int64) (h : jH), 0 ≤ s0.toInt ∧ s0.toInt ≤ 1 → jJ jSgX Dy h → jSm fp_X0_quantity_r98d h0 h → d_X0_quantity_r98d_5000208  s0.toInt (vw h) = dr → jX m_X0_quantity 3 0 0 208 [] [.long s0] h 0 0 Q := by
  intro s0 h y0   J Sm D
  unfold d_X0_quantity_r98d_5000208 at D
  refine x_lret rfl rfl ?_
  exact hQ _ _ J Sm ((congrArg Prod.fst D).symm.trans (show s0.toInt = s0.toInt from by omega)) (congrArg Prod.snd D).symm
set_option maxRecDepth 100000 in
set_option maxHeartbeats 4000000 in
theorem ct_X0_quantity_r98d_5000237 {Dy : jH → Prop} {h0 : jH} {Q : Option Value → jH → Prop} {dr : (Int × jW)} (hD : jDk Dy) (hQ : ∀ (v : Int64) hx9, jJ jSgX Dy hx9 → jSm fp_X0_quantity_r98d h0 hx9 → dr.1 = v.toInt → dr.2 = vw hx9 → Q (some (.long v)) hx9) : ∀ (s0 : Int64) (h : jH), 0 ≤ s0.toInt ∧ s0.toInt ≤ 1 → jJ jSgX Dy h → jSm fp_X0_quantity_r98d h0 h → d_X0_quantity_r98d_5000237  s0.toInt (vw h) = dr → jX m_X0_quantity 3 0 0 237 [] [.long s0] h 0 0 Q := by
  intro s0 h y0   J Sm D
  unfold d_X0_quantity_r98d_5000237 at D
  refine x_lret rfl rfl ?_
  exact hQ _ _ J Sm ((congrArg Prod.fst D).symm.trans (show s0.toInt = s0.toInt from by omega)) (congrArg Prod.snd D).symm
set_option maxRecDepth 100000 in
set_option maxHeartbeats 4000000 in
theorem ct_X0_quantity_r98d_5000253 {Dy : jH → Prop} {h0 : jH} {Q : Option Value → jH → Prop} {dr : (Int × jW)} (hD : jDk Dy) (hQ : ∀ (v : Int64) hx9, jJ jSgX Dy hx9 → jSm fp_X0_quantity_r98d h0 hx9 → dr.1 = v.toInt → dr.2 = vw hx9 → Q (some (.long v)) hx9) : ∀ (s0 : Int64) (h : jH), 0 ≤ s0.toInt ∧ s0.toInt ≤ 1 → jJ jSgX Dy h → jSm fp_X0_quantity_r98d h0 h → d_X0_quantity_r98d_5000253  s0.toInt (vw h) = dr → jX m_X0_quantity 3 0 0 253 [] [.long s0] h 0 0 Q := by
  intro s0 h y0   J Sm D
  unfold d_X0_quantity_r98d_5000253 at D
  refine x_lret rfl rfl ?_
  exact hQ _ _ J Sm ((congrArg Prod.fst D).symm.trans (show s0.toInt = s0.toInt from by omega)) (congrArg Prod.snd D).symm
set_option maxRecDepth 100000 in
set_option maxHeartbeats 4000000 in
theorem ct_X0_quantity_r98d_5000276 {Dy : jH → Prop} {h0 : jH} {Q : Option Value → jH → Prop} {dr : (Int × jW)} (hD : jDk Dy) (hQ : ∀ (v : Int64) hx9, jJ jSgX Dy hx9 → jSm fp_X0_quantity_r98d h0 hx9 → dr.1 = v.toInt → dr.2 = vw hx9 → Q (some (.long v)) hx9) : ∀ (s0 : Int64) (h : jH), 0 ≤ s0.toInt ∧ s0.toInt ≤ 1 → jJ jSgX Dy h → jSm fp_X0_quantity_r98d h0 h → d_X0_quantity_r98d_5000276  s0.toInt (vw h) = dr → jX m_X0_quantity 3 0 0 276 [] [.long s0] h 0 0 Q := by
  intro s0 h y0   J Sm D
  unfold d_X0_quantity_r98d_5000276 at D
  refine x_lret rfl rfl ?_
  exact hQ _ _ J Sm ((congrArg Prod.fst D).symm.trans (show s0.toInt = s0.toInt from by omega)) (congrArg Prod.snd D).symm
set_option maxRecDepth 100000 in
set_option maxHeartbeats 4000000 in
theorem sf_X0_quantity_r98d {Dy : jH → Prop} {h : jH} {Q : Option Value → jH → Prop} {dr : (Int × jW)} {a1 : Int32} {a2 : Int32} (y2 : (-1) ≤ a2.toInt ∧ a2.toInt ≤ 599) (hD : jDk Dy) (J : jJ jSgX Dy h) (D : d_X0_quantity_r98d a1.toInt a2.toInt (vw h) = dr) (hQ : ∀ (v : Int64) hx9, jJ jSgX Dy hx9 → jSm fp_X0_quantity_r98d h hx9 → dr.1 = v.toInt → dr.2 = vw hx9 → Q (some (.long v)) hx9) : jC m_X0_quantity 3 0 0 [.ref 98, .int a1, .int a2] h Q := by
  refine jC.of rfl k_X0_quantity rfl ?_
  have Sm := jSm_rf fp_X0_quantity_r98d h
  have ea1 := jfull a1
  show jX m_X0_quantity 3 0 0 0 [(0, .ref 98), (1, .int a1), (2, .int a2)] [] _ 0 0 _
  unfold d_X0_quantity_r98d at D
  refine x_iloadn (x := a1) rfl rfl ?_
  by_cases c1 : a1.toInt = 0
  ·
    refine x_tableIn (tgt := 52) 0 rfl c1 (by decide) (by decide) rfl rfl ?_
    rw [if_pos c1] at D
    refine x_aloadn (x := 98) rfl rfl ?_
    refine z_getR (N := 16) (b := 78) 0 1 rfl f_0_61 rfl J rfl 12545 ⟨rfl, rfl⟩ rfl ?_
    refine x_iloadn (x := a2) rfl rfl ?_
    refine x_inv (N := m_X7_readSpan) (As := [.int a2]) (b := 78) (st := []) (dx9 := 1) (mc := 0) (ms := 0) (host := "") 7 rfl t_X7_readSpan ⟨Or.inl q_0_154, i_X7_readSpan.1, i_X7_readSpan.2⟩ ⟨by decide, rfl⟩ (congrArg Prod.fst (J.1.1 78 (7, 16) rfl)) rfl (by decide) rfl rfl ⟨by decide, by decide⟩ (sf_X7_readSpan_r78d (jr_of rfl (by omega)) hD J rfl  (fun h J S2 X3 => ?_))
    have Sm := jSm_tr rfl Sm S2
    rw [X3] at D
    show jX m_X0_quantity 3 0 0 60 [(0, .ref 98), (1, .int a1), (2, .int a2)] [] _ 0 0 _
    refine x_iconst (v := 0) rfl ki_0 ?_
    refine x_aloadn (x := 98) rfl rfl ?_
    refine z_getI (N := 16) 0 10 rfl f_0_37 rfl J rfl sg_98_10_11_1_0_1 (fun v4 qv4 ev4 => ?_)
    try rw [vrf (jmb_c S2 qv4 rfl)] at D
    refine x_aloadn (x := 98) rfl rfl ?_
    refine z_getR (N := 16) (b := 78) 0 1 rfl f_0_61 rfl J rfl 12545 ⟨rfl, rfl⟩ rfl ?_
    refine z_getR (N := 16) (b := 85) 7 14 rfl f_0_158 rfl J rfl 9998 ⟨rfl, rfl⟩ rfl ?_
    refine x_iconst (v := 1) rfl ki_1 ?_
    refine z_iald0 (N := 4) rfl J rfl jk_1 (by omega) (fun v5 qv5 => ?_)
    have ev5 := jfull v5
    try rw [vrn (n := 1) (by decide) qv5] at D
    refine z_isubW rfl rfl rfl (fun v6 ev6 => ?_)
    have fv6 := jfull v6
    try rw [← ev6] at D
    refine z_mmax rfl q_0_161 (by decide) rfl jk_0 rfl (fun v7 ev7 => ?_)
    refine x_sipush (v := 366) rfl ks_366 ?_
    refine z_idiv rfl rfl jk_366 (by omega) (by omega) (fun v8 ev8 => ?_)
    refine z_i2l rfl rfl (fun v9 ev9 => ?_)
    refine x_lret rfl rfl ?_
    exact hQ _ _ J Sm ((congrArg Prod.fst D).symm.trans (show ((max 0 v6.toInt) / 366) = v9.toInt from by omega)) (congrArg Prod.snd D).symm
  rw [if_neg c1] at D
  by_cases c10 : a1.toInt = 1
  ·
    refine x_tableIn (tgt := 84) 1 rfl c10 (by decide) (by decide) rfl rfl ?_
    rw [if_pos c10] at D
    refine x_aloadn (x := 98) rfl rfl ?_
    refine z_getR (N := 16) (b := 78) 0 1 rfl f_0_61 rfl J rfl 12545 ⟨rfl, rfl⟩ rfl ?_
    refine x_iloadn (x := a2) rfl rfl ?_
    refine x_aloadn (x := 98) rfl rfl ?_
    refine z_getI (N := 16) 0 10 rfl f_0_37 rfl J rfl sg_98_10_11_1_0_1 (fun v11 qv11 ev11 => ?_)
    try rw [vrf qv11] at D
    refine x_inv (N := m_X7_childrenOf) (As := [.int a2, .int v11]) (b := 78) (st := []) (dx9 := 2) (mc := 0) (ms := 0) (host := "") 7 rfl t_X7_childrenOf ⟨Or.inl q_0_164, i_X7_childrenOf.1, i_X7_childrenOf.2⟩ ⟨by decide, rfl⟩ (congrArg Prod.fst (J.1.1 78 (7, 16) rfl)) rfl (by decide) rfl rfl ⟨by decide, by decide⟩ (sf_X7_childrenOf_r78d (jr_of rfl (by omega)) (jr_of rfl (by omega)) hD J rfl  (fun v15 h J S12 X13 X14 => ?_))
    have ev15 := jfull v15
    have Sm := jSm_tr rfl Sm S12
    try rw [X13] at D
    try rw [← X14] at D
    show jX m_X0_quantity 3 0 0 96 [(0, .ref 98), (1, .int a1), (2, .int a2)] [.int v15] _ 0 0 _
    refine z_i2l rfl rfl (fun v16 ev16 => ?_)
    refine x_lret rfl rfl ?_
    exact hQ _ _ J Sm ((congrArg Prod.fst D).symm.trans (show v15.toInt = v16.toInt from by omega)) (congrArg Prod.snd D).symm
  rw [if_neg c10] at D
  by_cases c17 : a1.toInt = 2
  ·
    refine x_tableIn (tgt := 98) 2 rfl c17 (by decide) (by decide) rfl rfl ?_
    rw [if_pos c17] at D
    refine x_aloadn (x := 98) rfl rfl ?_
    refine x_iloadn (x := a2) rfl rfl ?_
    refine x_inv (N := m_X0_valueOf) (As := [.int a2]) (b := 98) (st := []) (dx9 := 1) (mc := 0) (ms := 0) (host := "") 0 rfl t_X0_valueOf ⟨Or.inl q_0_167, i_X0_valueOf.1, i_X0_valueOf.2⟩ ⟨by decide, rfl⟩ (congrArg Prod.fst (J.1.1 98 (0, 16) rfl)) rfl (by decide) rfl rfl ⟨by decide, by decide⟩ (sf_X0_valueOf_r98d (jr_of rfl (by omega)) hD J rfl  (fun v21 h J S18 X19 X20 => ?_))
    have ev21 := jfullL v21
    have Sm := jSm_tr rfl Sm S18
    try rw [X19] at D
    try rw [← X20] at D
    show jX m_X0_quantity 3 0 0 103 [(0, .ref 98), (1, .int a1), (2, .int a2)] [.long v21] _ 0 0 _
    refine x_lret rfl rfl ?_
    exact hQ _ _ J Sm ((congrArg Prod.fst D).symm.trans (show v21.toInt = v21.toInt from by omega)) (congrArg Prod.snd D).symm
  rw [if_neg c17] at D
  by_cases c22 : a1.toInt = 3
  ·
    refine x_tableIn (tgt := 104) 3 rfl c22 (by decide) (by decide) rfl rfl ?_
    rw [if_pos c22] at D
    refine x_aloadn (x := 98) rfl rfl ?_
    refine z_getI (N := 16) 0 10 rfl f_0_37 rfl J rfl sg_98_10_11_1_0_1 (fun v23 qv23 ev23 => ?_)
    try rw [vrf qv23] at D
    refine x_aloadn (x := 98) rfl rfl ?_
    refine z_getR (N := 16) (b := 78) 0 1 rfl f_0_61 rfl J rfl 12545 ⟨rfl, rfl⟩ rfl ?_
    refine x_iloadn (x := a2) rfl rfl ?_
    refine x_aloadn (x := 98) rfl rfl ?_
    refine z_getM (N := 16) (v := v23) 0 10 rfl f_0_37 rfl J rfl qv23 ?_
    refine x_inv (N := m_X7_firstDay) (As := [.int a2, .int v23]) (b := 78) (st := [.int v23]) (dx9 := 1) (mc := 0) (ms := 0) (host := "") 7 rfl t_X7_firstDay ⟨Or.inl q_0_171, i_X7_firstDay.1, i_X7_firstDay.2⟩ ⟨by decide, rfl⟩ (congrArg Prod.fst (J.1.1 78 (7, 16) rfl)) rfl (by decide) rfl rfl ⟨by decide, by decide⟩ (sf_X7_firstDay_r78d (jr_of rfl (by omega)) (jr_of rfl (by omega)) hD J rfl  (fun v27 h ev27 J S24 X25 X26 => ?_))
    have Sm := jSm_tr rfl Sm S24
    try rw [X25] at D
    try rw [← X26] at D
    show jX m_X0_quantity 3 0 0 120 [(0, .ref 98), (1, .int a1), (2, .int a2)] [.int v27, .int v23] _ 0 0 _
    refine z_isub rfl rfl rfl (by omega) (fun v28 ev28 => ?_)
    refine x_sipush (v := 366) rfl ks_366 ?_
    refine z_idivW rfl rfl jk_366 (by omega) (fun v29 ev29 => ?_)
    have fv29 := jfull v29
    try rw [show (v23.toInt - v27.toInt) = v28.toInt from by omega] at D
    try rw [← ev29] at D
    refine z_i2l rfl rfl (fun v30 ev30 => ?_)
    refine x_lret rfl rfl ?_
    try rw [show v29.toInt = v30.toInt from by omega] at D
    exact hQ _ _ J Sm ((congrArg Prod.fst D).symm.trans (show v30.toInt = v30.toInt from by omega)) (congrArg Prod.snd D).symm
  rw [if_neg c22] at D
  by_cases c31 : a1.toInt = 4
  ·
    refine x_tableIn (tgt := 127) 4 rfl c31 (by decide) (by decide) rfl rfl ?_
    rw [if_pos c31] at D
    refine x_aloadn (x := 98) rfl rfl ?_
    refine z_getR (N := 16) (b := 78) 0 1 rfl f_0_61 rfl J rfl 12545 ⟨rfl, rfl⟩ rfl ?_
    refine x_iloadn (x := a2) rfl rfl ?_
    refine x_aloadn (x := 98) rfl rfl ?_
    refine z_getI (N := 16) 0 10 rfl f_0_37 rfl J rfl sg_98_10_11_1_0_1 (fun v32 qv32 ev32 => ?_)
    try rw [vrf qv32] at D
    refine x_sipush (v := 365) rfl ks_365 ?_
    refine z_isub rfl rfl jk_365 (by omega) (fun v33 ev33 => ?_)
    refine x_aloadn (x := 98) rfl rfl ?_
    refine z_getM (N := 16) (v := v32) 0 10 rfl f_0_37 rfl J rfl qv32 ?_
    try rw [show (v32.toInt - 365) = v33.toInt from by omega] at D
    refine x_inv (N := m_X7_reliefOf) (As := [.int a2, .int v33, .int v32]) (b := 78) (st := []) (dx9 := 1) (mc := 0) (ms := 0) (host := "") 7 rfl t_X7_reliefOf ⟨Or.inl q_0_174, i_X7_reliefOf.1, i_X7_reliefOf.2⟩ ⟨by decide, rfl⟩ (congrArg Prod.fst (J.1.1 78 (7, 16) rfl)) rfl (by decide) rfl rfl ⟨by decide, by decide⟩ (sf_X7_reliefOf_r78d (jr_of rfl (by omega)) (jr_of rfl (by omega)) (jr_of rfl (by omega)) hD J rfl  (fun v37 h J S34 X35 X36 => ?_))
    have ev37 := jfull v37
    have Sm := jSm_tr rfl Sm S34
    try rw [X35] at D
    try rw [← X36] at D
    show jX m_X0_quantity 3 0 0 147 [(0, .ref 98), (1, .int a1), (2, .int a2)] [.int v37] _ 0 0 _
    refine z_i2l rfl rfl (fun v38 ev38 => ?_)
    refine x_lret rfl rfl ?_
    exact hQ _ _ J Sm ((congrArg Prod.fst D).symm.trans (show v37.toInt = v38.toInt from by omega)) (congrArg Prod.snd D).symm
  rw [if_neg c31] at D
  by_cases c39 : a1.toInt = 5
  ·
    refine x_tableIn (tgt := 149) 5 rfl c39 (by decide) (by decide) rfl rfl ?_
    rw [if_pos c39] at D
    refine x_aloadn (x := 98) rfl rfl ?_
    refine z_getR (N := 16) (b := 78) 0 1 rfl f_0_61 rfl J rfl 12545 ⟨rfl, rfl⟩ rfl ?_
    refine x_iloadn (x := a2) rfl rfl ?_
    refine x_iconst (v := 3) rfl ki_3 ?_
    refine x_aloadn (x := 98) rfl rfl ?_
    refine z_getI (N := 16) 0 10 rfl f_0_37 rfl J rfl sg_98_10_11_1_0_1 (fun v40 qv40 ev40 => ?_)
    try rw [vrf qv40] at D
    refine x_inv (N := m_X7_hasBy) (As := [.int a2, .int 3, .int v40]) (b := 78) (st := []) (dx9 := 1) (mc := 0) (ms := 0) (host := "") 7 rfl t_X7_hasBy ⟨Or.inl q_0_178, i_X7_hasBy.1, i_X7_hasBy.2⟩ ⟨by decide, rfl⟩ (congrArg Prod.fst (J.1.1 78 (7, 16) rfl)) rfl (by decide) rfl rfl ⟨by decide, by decide⟩ (sf_X7_hasBy_r78d (jr_of rfl (by omega)) (jr_of jk_3 (by omega)) (jr_of rfl (by omega)) hD J rfl  (fun v44 h ev44 J S41 X42 X43 => ?_))
    have Sm := jSm_tr rfl Sm S41
    try rw [jk_3] at X42
    try rw [X42] at D
    try rw [← X43] at D
    show jX m_X0_quantity 3 0 0 162 [(0, .ref 98), (1, .int a1), (2, .int a2)] [.int v44] _ 0 0 _
    refine x_ifne (tgt := 181) rfl rfl (ti_ne rfl jk_0 ⟨fun c45 => ?_, fun c45 => ?_⟩)
    ·
      rw [if_neg (by omega)] at D
      exact jX.sub jsb_n (ct_X0_quantity_r98d_181 hD hQ  h J Sm D)
    ·
      rw [if_pos (by omega)] at D
      refine x_aloadn (x := 98) rfl rfl ?_
      refine z_getR (N := 16) (b := 78) 0 1 rfl f_0_61 rfl J rfl 12545 ⟨rfl, rfl⟩ rfl ?_
      refine x_iloadn (x := a2) rfl rfl ?_
      refine x_iconst (v := 4) rfl ki_4 ?_
      refine x_aloadn (x := 98) rfl rfl ?_
      refine z_getM (N := 16) (v := v40) 0 10 rfl f_0_37 rfl J rfl (jmc S41 rfl qv40) ?_
      refine x_inv (N := m_X7_hasBy) (As := [.int a2, .int 4, .int v40]) (b := 78) (st := []) (dx9 := 1) (mc := 0) (ms := 0) (host := "") 7 rfl t_X7_hasBy ⟨Or.inl q_0_178, i_X7_hasBy.1, i_X7_hasBy.2⟩ ⟨by decide, rfl⟩ (congrArg Prod.fst (J.1.1 78 (7, 16) rfl)) rfl (by decide) rfl rfl ⟨by decide, by decide⟩ (sf_X7_hasBy_r78d (jr_of rfl (by omega)) (jr_of jk_4 (by omega)) (jr_of rfl (by omega)) hD J rfl  (fun v49 h ev49 J S46 X47 X48 => ?_))
      have Sm := jSm_tr rfl Sm S46
      try rw [jk_4] at X47
      try rw [X47] at D
      try rw [← X48] at D
      show jX m_X0_quantity 3 0 0 178 [(0, .ref 98), (1, .int a1), (2, .int a2)] [.int v49] _ 0 0 _
      refine x_ifeq (tgt := 185) rfl rfl (ti_eq rfl jk_0 ⟨fun c50 => ?_, fun c50 => ?_⟩)
      ·
        rw [if_pos (by omega)] at D
        refine x_lconst (v := 0) rfl kl_0 ?_
        exact jX.sub jsb_n (ct_X0_quantity_r98d_5000186 hD hQ  0 h (jr_ofl jkl_0 (by omega)) J Sm (by rw [jkl_0]; exact D))
      ·
        rw [if_neg (by omega)] at D
        exact jX.sub jsb_n (ct_X0_quantity_r98d_181 hD hQ  h J Sm D)
  rw [if_neg c39] at D
  by_cases c51 : a1.toInt = 6
  ·
    refine x_tableIn (tgt := 187) 6 rfl c51 (by decide) (by decide) rfl rfl ?_
    rw [if_pos c51] at D
    refine x_aloadn (x := 98) rfl rfl ?_
    refine z_getR (N := 16) (b := 78) 0 1 rfl f_0_61 rfl J rfl 12545 ⟨rfl, rfl⟩ rfl ?_
    refine x_iloadn (x := a2) rfl rfl ?_
    refine x_iconst (v := 5) rfl ki_5 ?_
    refine x_aloadn (x := 98) rfl rfl ?_
    refine z_getI (N := 16) 0 10 rfl f_0_37 rfl J rfl sg_98_10_11_1_0_1 (fun v52 qv52 ev52 => ?_)
    try rw [vrf qv52] at D
    refine x_inv (N := m_X7_hasBy) (As := [.int a2, .int 5, .int v52]) (b := 78) (st := []) (dx9 := 1) (mc := 0) (ms := 0) (host := "") 7 rfl t_X7_hasBy ⟨Or.inl q_0_178, i_X7_hasBy.1, i_X7_hasBy.2⟩ ⟨by decide, rfl⟩ (congrArg Prod.fst (J.1.1 78 (7, 16) rfl)) rfl (by decide) rfl rfl ⟨by decide, by decide⟩ (sf_X7_hasBy_r78d (jr_of rfl (by omega)) (jr_of jk_5 (by omega)) (jr_of rfl (by omega)) hD J rfl  (fun v56 h ev56 J S53 X54 X55 => ?_))
    have Sm := jSm_tr rfl Sm S53
    try rw [jk_5] at X54
    try rw [X54] at D
    try rw [← X55] at D
    show jX m_X0_quantity 3 0 0 200 [(0, .ref 98), (1, .int a1), (2, .int a2)] [.int v56] _ 0 0 _
    refine x_ifeq (tgt := 207) rfl rfl (ti_eq rfl jk_0 ⟨fun c57 => ?_, fun c57 => ?_⟩)
    ·
      rw [if_pos (by omega)] at D
      refine x_lconst (v := 0) rfl kl_0 ?_
      exact jX.sub jsb_n (ct_X0_quantity_r98d_5000208 hD hQ  0 h (jr_ofl jkl_0 (by omega)) J Sm (by rw [jkl_0]; exact D))
    ·
      rw [if_neg (by omega)] at D
      refine x_lconst (v := 1) rfl kl_1 ?_
      refine x_goto (tgt := 208) rfl rfl ?_
      exact jX.sub jsb_n (ct_X0_quantity_r98d_5000208 hD hQ  1 h (jr_ofl jkl_1 (by omega)) J Sm (by rw [jkl_1]; exact D))
  rw [if_neg c51] at D
  by_cases c58 : a1.toInt = 7
  ·
    refine x_tableIn (tgt := 209) 7 rfl c58 (by decide) (by decide) rfl rfl ?_
    rw [if_pos c58] at D
    refine x_aloadn (x := 98) rfl rfl ?_
    refine z_getR (N := 16) (b := 78) 0 1 rfl f_0_61 rfl J rfl 12545 ⟨rfl, rfl⟩ rfl ?_
    refine x_iloadn (x := a2) rfl rfl ?_
    refine x_aloadn (x := 98) rfl rfl ?_
    refine z_getI (N := 16) 0 10 rfl f_0_37 rfl J rfl sg_98_10_11_1_0_1 (fun v59 qv59 ev59 => ?_)
    try rw [vrf qv59] at D
    refine x_sipush (v := 365) rfl ks_365 ?_
    refine z_isub rfl rfl jk_365 (by omega) (fun v60 ev60 => ?_)
    refine x_aloadn (x := 98) rfl rfl ?_
    refine z_getM (N := 16) (v := v59) 0 10 rfl f_0_37 rfl J rfl qv59 ?_
    try rw [show (v59.toInt - 365) = v60.toInt from by omega] at D
    refine x_inv (N := m_X7_reliefOf) (As := [.int a2, .int v60, .int v59]) (b := 78) (st := []) (dx9 := 1) (mc := 0) (ms := 0) (host := "") 7 rfl t_X7_reliefOf ⟨Or.inl q_0_174, i_X7_reliefOf.1, i_X7_reliefOf.2⟩ ⟨by decide, rfl⟩ (congrArg Prod.fst (J.1.1 78 (7, 16) rfl)) rfl (by decide) rfl rfl ⟨by decide, by decide⟩ (sf_X7_reliefOf_r78d (jr_of rfl (by omega)) (jr_of rfl (by omega)) (jr_of rfl (by omega)) hD J rfl  (fun v64 h J S61 X62 X63 => ?_))
    have ev64 := jfull v64
    have Sm := jSm_tr rfl Sm S61
    try rw [X62] at D
    try rw [← X63] at D
    show jX m_X0_quantity 3 0 0 229 [(0, .ref 98), (1, .int a1), (2, .int a2)] [.int v64] _ 0 0 _
    refine x_ifle (tgt := 236) rfl rfl (ti_le rfl jk_0 ⟨fun c65 => ?_, fun c65 => ?_⟩)
    ·
      rw [if_pos (by omega)] at D
      refine x_lconst (v := 0) rfl kl_0 ?_
      exact jX.sub jsb_n (ct_X0_quantity_r98d_5000237 hD hQ  0 h (jr_ofl jkl_0 (by omega)) J Sm (by rw [jkl_0]; exact D))
    ·
      rw [if_neg (by omega)] at D
      refine x_lconst (v := 1) rfl kl_1 ?_
      refine x_goto (tgt := 237) rfl rfl ?_
      exact jX.sub jsb_n (ct_X0_quantity_r98d_5000237 hD hQ  1 h (jr_ofl jkl_1 (by omega)) J Sm (by rw [jkl_1]; exact D))
  rw [if_neg c58] at D
  by_cases c66 : a1.toInt = 8
  ·
    refine x_tableIn (tgt := 238) 8 rfl c66 (by decide) (by decide) rfl rfl ?_
    rw [if_pos c66] at D
    refine x_aloadn (x := 98) rfl rfl ?_
    refine x_iloadn (x := a2) rfl rfl ?_
    refine x_inv (N := m_X0_valueOf) (As := [.int a2]) (b := 98) (st := []) (dx9 := 1) (mc := 0) (ms := 0) (host := "") 0 rfl t_X0_valueOf ⟨Or.inl q_0_167, i_X0_valueOf.1, i_X0_valueOf.2⟩ ⟨by decide, rfl⟩ (congrArg Prod.fst (J.1.1 98 (0, 16) rfl)) rfl (by decide) rfl rfl ⟨by decide, by decide⟩ (sf_X0_valueOf_r98d (jr_of rfl (by omega)) hD J rfl  (fun v70 h J S67 X68 X69 => ?_))
    have ev70 := jfullL v70
    have Sm := jSm_tr rfl Sm S67
    try rw [X68] at D
    try rw [← X69] at D
    show jX m_X0_quantity 3 0 0 243 [(0, .ref 98), (1, .int a1), (2, .int a2)] [.long v70] _ 0 0 _
    refine x_lconst (v := 0) rfl kl_0 ?_
    refine z_lcmp rfl rfl jkl_0 (fun v71 ev71 => ?_)
    refine x_ifle (tgt := 252) rfl rfl (ti_le rfl jk_0 ⟨fun c72 => ?_, fun c72 => ?_⟩)
    ·
      rw [if_pos (by omega)] at D
      refine x_lconst (v := 0) rfl kl_0 ?_
      exact jX.sub jsb_n (ct_X0_quantity_r98d_5000253 hD hQ  0 h (jr_ofl jkl_0 (by omega)) J Sm (by rw [jkl_0]; exact D))
    ·
      rw [if_neg (by omega)] at D
      refine x_lconst (v := 1) rfl kl_1 ?_
      refine x_goto (tgt := 253) rfl rfl ?_
      exact jX.sub jsb_n (ct_X0_quantity_r98d_5000253 hD hQ  1 h (jr_ofl jkl_1 (by omega)) J Sm (by rw [jkl_1]; exact D))
  rw [if_neg c66] at D
  refine x_tableOut (tgt := 254) rfl (by omega) rfl ?_
  refine x_aloadn (x := 98) rfl rfl ?_
  refine x_iloadn (x := a2) rfl rfl ?_
  refine x_iconst (v := (-1)) rfl ki_m1 ?_
  refine x_aloadn (x := 98) rfl rfl ?_
  refine z_getI (N := 16) 0 10 rfl f_0_37 rfl J rfl sg_98_10_11_1_0_1 (fun v73 qv73 ev73 => ?_)
  try rw [vrf qv73] at D
  refine x_aloadn (x := 98) rfl rfl ?_
  refine z_getI (N := 16) 0 11 rfl f_0_41 rfl J rfl sg_98_11_12_1_0_1 (fun v74 qv74 ev74 => ?_)
  try rw [vrf qv74] at D
  refine x_inv (N := m_X0_isCertified) (As := [.int a2, .int (-1), .int v73, .int v74]) (b := 98) (st := []) (dx9 := 2) (mc := 0) (ms := 0) (host := "") 0 rfl t_X0_isCertified ⟨Or.inl q_0_182, i_X0_isCertified.1, i_X0_isCertified.2⟩ ⟨by decide, rfl⟩ (congrArg Prod.fst (J.1.1 98 (0, 16) rfl)) rfl (by decide) rfl rfl ⟨by decide, by decide⟩ (sf_X0_isCertified_r98d (jr_of rfl (by omega)) (jr_of jk_m1 (by omega)) (jr_of rfl (by omega)) (jr_of rfl (by omega)) hD J rfl  (fun v78 h ev78 J S75 X76 X77 => ?_))
  have Sm := jSm_tr rfl Sm S75
  try rw [jk_m1] at X76
  try rw [X76] at D
  try rw [← X77] at D
  show jX m_X0_quantity 3 0 0 268 [(0, .ref 98), (1, .int a1), (2, .int a2)] [.int v78] _ 0 0 _
  refine x_ifeq (tgt := 275) rfl rfl (ti_eq rfl jk_0 ⟨fun c79 => ?_, fun c79 => ?_⟩)
  ·
    rw [if_pos (by omega)] at D
    refine x_lconst (v := 0) rfl kl_0 ?_
    exact jX.sub jsb_n (ct_X0_quantity_r98d_5000276 hD hQ  0 h (jr_ofl jkl_0 (by omega)) J Sm (by rw [jkl_0]; exact D))
  ·
    rw [if_neg (by omega)] at D
    refine x_lconst (v := 1) rfl kl_1 ?_
    refine x_goto (tgt := 276) rfl rfl ?_
    exact jX.sub jsb_n (ct_X0_quantity_r98d_5000276 hD hQ  1 h (jr_ofl jkl_1 (by omega)) J Sm (by rw [jkl_1]; exact D))
def fp_X0_workOut_r98d : jFp := [(85, 0, 4), (106, 0, 100)]
set_option maxRecDepth 100000 in
set_option maxHeartbeats 4000000 in
theorem ct_X0_workOut_r98d_319 {Dy : jH → Prop} {h0 : jH} {Q : Option Value → jH → Prop} {dr : (Int × jW)} (hD : jDk Dy) (hQ : ∀ (v : Int64) hx9, jJ jSgX Dy hx9 → jSm fp_X0_workOut_r98d h0 hx9 → dr.1 = v.toInt → dr.2 = vw hx9 → Q (some (.long v)) hx9) : ∀ (h : jH), jJ jSgX Dy h → jSm fp_X0_workOut_r98d h0 h → d_X0_workOut_r98d_319  (vw h) = dr → jX m_X0_workOut 4 0 0 319 [] [] h 0 0 Q := by
  intro  h    J Sm D
  unfold d_X0_workOut_r98d_319 at D
  refine x_ldc2 (v := (-2000000000000)) rfl z_0_193 ?_
  refine x_lret rfl rfl ?_
  exact hQ _ _ J Sm ((congrArg Prod.fst D).symm.trans (show (-2000000000000) = ((-2000000000000) : Int64).toInt from by have := jkl_m2000000000000; omega)) (congrArg Prod.snd D).symm
set_option maxRecDepth 100000 in
set_option maxHeartbeats 4000000 in
theorem ct_X0_workOut_r98d_313 {Dy : jH → Prop} {h0 : jH} {Q : Option Value → jH → Prop} {dr : (Int × jW)} {K15 : Int → Nat → Int → Int → Int → jW → (Int × jW)} {R15 : Int} (hD : jDk Dy) (hQ : ∀ (v : Int64) hx9, jJ jSgX Dy hx9 → jSm fp_X0_workOut_r98d h0 hx9 → dr.1 = v.toInt → dr.2 = vw hx9 → Q (some (.long v)) hx9) (k15 : ∀ (l3 : Int32) (l4 : Nat) (nl4 : Nat) (l5 : Int32) (l6 : Int32) (l7 : Int32) (h : jH), 1200 - l7.toInt < R15 → (-1) ≤ l3.toInt ∧ l3.toInt ≤ 599 → 0 ≤ l6.toInt ∧ l6.toInt ≤ 100 → 0 ≤ l7.toInt ∧ l7.toInt ≤ 1200 → jTa h l4 nl4 → jJ jSgX Dy h → jSm fp_X0_workOut_r98d h0 h → K15 l3.toInt l4 l5.toInt l6.toInt l7.toInt (vw h) = dr → jX m_X0_workOut 4 0 0 15 [(0, .ref 98), (3, .int l3), (4, .ref l4), (5, .int l5), (6, .int l6), (7, .int l7)] [] h 0 0 Q) : ∀ (l3 : Int32) (l4 : Nat) (nl4 : Nat) (l5 : Int32) (l6 : Int32) (l7 : Int32) (h : jH), (-1) ≤ l3.toInt ∧ l3.toInt ≤ 599 → 0 ≤ l6.toInt ∧ l6.toInt ≤ 100 → 0 ≤ l7.toInt ∧ l7.toInt ≤ 1199 → jTa h l4 nl4 → 1200 - l7.toInt ≤ R15 → jJ jSgX Dy h → jSm fp_X0_workOut_r98d h0 h → d_X0_workOut_r98d_313 K15  l3.toInt l4 l5.toInt l6.toInt l7.toInt (vw h) = dr → jX m_X0_workOut 4 0 0 313 [(0, .ref 98), (3, .int l3), (4, .ref l4), (5, .int l5), (6, .int l6), (7, .int l7)] [] h 0 0 Q := by
  intro l3 l4 nl4 l5 l6 l7 h y0 y1 y2 Tl4  m15 J Sm D
  have el5 := jfull l5
  unfold d_X0_workOut_r98d_313 at D
  refine z_iinc (x := l7) (lsx9 := fun v1 => [(7, .int v1), (0, .ref 98), (3, .int l3), (4, .ref l4), (5, .int l5), (6, .int l6)]) rfl rfl rfl jko_1 (by omega) rfl (fun _ => rfl) (fun v1 ev1 => ?_)
  refine x_goto (tgt := 15) rfl rfl ?_
  try rw [show (l7.toInt + 1) = v1.toInt from by omega] at D
  exact jX.sub (jsb_c rfl (jsb_c rfl (jsb_c rfl (jsb_c rfl (jsb_c rfl (jsb_c rfl jsb_n)))))) (k15 l3 l4 nl4 l5 l6 v1 h (by omega) (jr_of rfl (by omega)) (jr_of rfl (by omega)) (jr_of rfl (by omega)) Tl4 J Sm D)
set_option maxRecDepth 100000 in
set_option maxHeartbeats 4000000 in
theorem ct_X0_workOut_r98d_113 {Dy : jH → Prop} {h0 : jH} {Q : Option Value → jH → Prop} {dr : (Int × jW)} {K15 : Int → Nat → Int → Int → Int → jW → (Int × jW)} {R15 : Int} (hD : jDk Dy) (hQ : ∀ (v : Int64) hx9, jJ jSgX Dy hx9 → jSm fp_X0_workOut_r98d h0 hx9 → dr.1 = v.toInt → dr.2 = vw hx9 → Q (some (.long v)) hx9) (k15 : ∀ (l3 : Int32) (l4 : Nat) (nl4 : Nat) (l5 : Int32) (l6 : Int32) (l7 : Int32) (h : jH), 1200 - l7.toInt < R15 → (-1) ≤ l3.toInt ∧ l3.toInt ≤ 599 → 0 ≤ l6.toInt ∧ l6.toInt ≤ 100 → 0 ≤ l7.toInt ∧ l7.toInt ≤ 1200 → jTa h l4 nl4 → jJ jSgX Dy h → jSm fp_X0_workOut_r98d h0 h → K15 l3.toInt l4 l5.toInt l6.toInt l7.toInt (vw h) = dr → jX m_X0_workOut 4 0 0 15 [(0, .ref 98), (3, .int l3), (4, .ref l4), (5, .int l5), (6, .int l6), (7, .int l7)] [] h 0 0 Q) : ∀ (l3 : Int32) (l4 : Nat) (nl4 : Nat) (l5 : Int32) (l6 : Int32) (l7 : Int32) (s0 : Int64) (s1 : Int32) (h : jH), (-1) ≤ l3.toInt ∧ l3.toInt ≤ 599 → 0 ≤ l5.toInt ∧ l5.toInt ≤ 1199 → 0 ≤ l6.toInt ∧ l6.toInt ≤ 99 → 0 ≤ l7.toInt ∧ l7.toInt ≤ 1199 → 0 ≤ s1.toInt ∧ s1.toInt ≤ 99 → jTa h l4 nl4 → 1200 - l7.toInt ≤ R15 → jJ jSgX Dy h → jSm fp_X0_workOut_r98d h0 h → d_X0_workOut_r98d_113 K15  l3.toInt l4 l5.toInt l6.toInt l7.toInt s0.toInt s1.toInt (vw h) = dr → jX m_X0_workOut 4 0 0 113 [(0, .ref 98), (3, .int l3), (4, .ref l4), (5, .int l5), (6, .int l6), (7, .int l7)] [.long s0, .int s1, .ref 106] h 0 0 Q := by
  intro l3 l4 nl4 l5 l6 l7 s0 s1 h y0 y1 y2 y3 y4 Tl4  m15 J Sm D
  have es0 := jfullL s0
  unfold d_X0_workOut_r98d_113 at D
  refine z_last (N := 100) (l := 0) (u := 100) rfl hD J Sm rfl rfl rfl (by omega) rfl (fun h w1 J Sm => ?_)
  have Tl4 := jTa_l w1 Tl4
  rw [vwwL w1 (show s1.toInt = s1.toInt from by omega) (show s0.toInt = s0.toInt from by omega)] at D
  refine z_iinc (x := l6) (lsx9 := fun v2 => [(6, .int v2), (0, .ref 98), (3, .int l3), (4, .ref l4), (5, .int l5), (7, .int l7)]) rfl rfl rfl jko_1 (by omega) rfl (fun _ => rfl) (fun v2 ev2 => ?_)
  refine z_iinc (x := l5) (lsx9 := fun v3 => [(5, .int v3), (6, .int v2), (0, .ref 98), (3, .int l3), (4, .ref l4), (7, .int l7)]) rfl rfl rfl jko_2 (by omega) rfl (fun _ => rfl) (fun v3 ev3 => ?_)
  refine x_goto (tgt := 313) rfl rfl ?_
  try rw [show (l5.toInt + 2) = v3.toInt from by omega] at D
  try rw [show (l6.toInt + 1) = v2.toInt from by omega] at D
  exact jX.sub (jsb_c rfl (jsb_c rfl (jsb_c rfl (jsb_c rfl (jsb_c rfl (jsb_c rfl jsb_n)))))) (ct_X0_workOut_r98d_313 hD hQ k15 l3 l4 nl4 v3 v2 l7 h (jr_of rfl (by omega)) (jr_of rfl (by omega)) (jr_of rfl (by omega)) Tl4 (by omega) J Sm D)
set_option maxRecDepth 100000 in
set_option maxHeartbeats 4000000 in
theorem ct_X0_workOut_r98d_88 {Dy : jH → Prop} {h0 : jH} {Q : Option Value → jH → Prop} {dr : (Int × jW)} {K15 : Int → Nat → Int → Int → Int → jW → (Int × jW)} {R15 : Int} (hD : jDk Dy) (hQ : ∀ (v : Int64) hx9, jJ jSgX Dy hx9 → jSm fp_X0_workOut_r98d h0 hx9 → dr.1 = v.toInt → dr.2 = vw hx9 → Q (some (.long v)) hx9) (k15 : ∀ (l3 : Int32) (l4 : Nat) (nl4 : Nat) (l5 : Int32) (l6 : Int32) (l7 : Int32) (h : jH), 1200 - l7.toInt < R15 → (-1) ≤ l3.toInt ∧ l3.toInt ≤ 599 → 0 ≤ l6.toInt ∧ l6.toInt ≤ 100 → 0 ≤ l7.toInt ∧ l7.toInt ≤ 1200 → jTa h l4 nl4 → jJ jSgX Dy h → jSm fp_X0_workOut_r98d h0 h → K15 l3.toInt l4 l5.toInt l6.toInt l7.toInt (vw h) = dr → jX m_X0_workOut 4 0 0 15 [(0, .ref 98), (3, .int l3), (4, .ref l4), (5, .int l5), (6, .int l6), (7, .int l7)] [] h 0 0 Q) : ∀ (l3 : Int32) (l4 : Nat) (nl4 : Nat) (l5 : Int32) (l6 : Int32) (l7 : Int32) (l8 : Int32) (l9 : Int32) (h : jH), (-1) ≤ l3.toInt ∧ l3.toInt ≤ 599 → 0 ≤ l5.toInt ∧ l5.toInt ≤ 1199 → 0 ≤ l6.toInt ∧ l6.toInt ≤ 99 → 0 ≤ l7.toInt ∧ l7.toInt ≤ 1199 → 1 ≤ l8.toInt ∧ l8.toInt ≤ 2 → jTa h l4 nl4 → 1200 - l7.toInt ≤ R15 → jJ jSgX Dy h → jSm fp_X0_workOut_r98d h0 h → d_X0_workOut_r98d_88 K15  l3.toInt l4 l5.toInt l6.toInt l7.toInt l8.toInt l9.toInt (vw h) = dr → jX m_X0_workOut 4 0 0 88 [(0, .ref 98), (3, .int l3), (4, .ref l4), (5, .int l5), (6, .int l6), (7, .int l7), (8, .int l8), (9, .int l9)] [] h 0 0 Q := by
  intro l3 l4 nl4 l5 l6 l7 l8 l9 h y0 y1 y2 y3 y4 Tl4  m15 J Sm D
  have el9 := jfull l9
  unfold d_X0_workOut_r98d_88 at D
  refine x_aloadn (x := 98) rfl rfl ?_
  refine z_getR (N := 16) (b := 106) 0 9 rfl f_0_33 rfl J rfl 12553 ⟨rfl, rfl⟩ rfl ?_
  refine x_iload (x := l6) rfl rfl ?_
  refine x_iload (x := l8) rfl rfl ?_
  refine x_iconst (v := 1) rfl ki_1 ?_
  refine x_icne (tgt := 106) rfl rfl (ti_ne rfl jk_1 ⟨fun c1 => ?_, fun c1 => ?_⟩)
  ·
    rw [if_neg (by omega)] at D
    refine x_aloadn (x := 98) rfl rfl ?_
    refine x_iload (x := l9) rfl rfl ?_
    refine x_iloadn (x := l3) rfl rfl ?_
    refine x_inv (N := m_X0_quantity) (As := [.int l9, .int l3]) (b := 98) (st := [.int l6, .ref 106]) (dx9 := 3) (mc := 0) (ms := 0) (host := "") 0 rfl t_X0_quantity ⟨Or.inl q_0_198, i_X0_quantity.1, i_X0_quantity.2⟩ ⟨by decide, rfl⟩ (congrArg Prod.fst (J.1.1 98 (0, 16) rfl)) rfl (by decide) rfl rfl ⟨by decide, by decide⟩ (sf_X0_quantity_r98d (jr_of rfl (by omega)) hD J rfl  (fun v5 h J S2 X3 X4 => ?_))
    have ev5 := jfullL v5
    have Sm := jSm_tr rfl Sm S2
    have Tl4 := jTa_m S2 Tl4
    try rw [X3] at D
    try rw [X4] at D
    show jX m_X0_workOut 4 0 0 113 [(0, .ref 98), (3, .int l3), (4, .ref l4), (5, .int l5), (6, .int l6), (7, .int l7), (8, .int l8), (9, .int l9)] [.long v5, .int l6, .ref 106] _ 0 0 _
    exact jX.sub (jsb_c rfl (jsb_c rfl (jsb_c rfl (jsb_c rfl (jsb_c rfl (jsb_c rfl jsb_n)))))) (ct_X0_workOut_r98d_113 hD hQ k15 l3 l4 nl4 l5 l6 l7 v5 l6 h (jr_of rfl (by omega)) (jr_of rfl (by omega)) (jr_of rfl (by omega)) (jr_of rfl (by omega)) (jr_of rfl (by omega)) Tl4 (by omega) J Sm D)
  ·
    rw [if_pos (by omega)] at D
    refine x_iload (x := l9) rfl rfl ?_
    refine z_i2l rfl rfl (fun v6 ev6 => ?_)
    refine x_goto (tgt := 113) rfl rfl ?_
    try rw [show l9.toInt = v6.toInt from by omega] at D
    exact jX.sub (jsb_c rfl (jsb_c rfl (jsb_c rfl (jsb_c rfl (jsb_c rfl (jsb_c rfl jsb_n)))))) (ct_X0_workOut_r98d_113 hD hQ k15 l3 l4 nl4 l5 l6 l7 v6 l6 h (jr_of rfl (by omega)) (jr_of rfl (by omega)) (jr_of rfl (by omega)) (jr_of rfl (by omega)) (jr_of rfl (by omega)) Tl4 (by omega) J Sm D)
set_option maxRecDepth 100000 in
set_option maxHeartbeats 4000000 in
theorem ct_X0_workOut_r98d_248 {Dy : jH → Prop} {h0 : jH} {Q : Option Value → jH → Prop} {dr : (Int × jW)} {K15 : Int → Nat → Int → Int → Int → jW → (Int × jW)} {R15 : Int} (hD : jDk Dy) (hQ : ∀ (v : Int64) hx9, jJ jSgX Dy hx9 → jSm fp_X0_workOut_r98d h0 hx9 → dr.1 = v.toInt → dr.2 = vw hx9 → Q (some (.long v)) hx9) (k15 : ∀ (l3 : Int32) (l4 : Nat) (nl4 : Nat) (l5 : Int32) (l6 : Int32) (l7 : Int32) (h : jH), 1200 - l7.toInt < R15 → (-1) ≤ l3.toInt ∧ l3.toInt ≤ 599 → 0 ≤ l6.toInt ∧ l6.toInt ≤ 100 → 0 ≤ l7.toInt ∧ l7.toInt ≤ 1200 → jTa h l4 nl4 → jJ jSgX Dy h → jSm fp_X0_workOut_r98d h0 h → K15 l3.toInt l4 l5.toInt l6.toInt l7.toInt (vw h) = dr → jX m_X0_workOut 4 0 0 15 [(0, .ref 98), (3, .int l3), (4, .ref l4), (5, .int l5), (6, .int l6), (7, .int l7)] [] h 0 0 Q) : ∀ (l3 : Int32) (l4 : Nat) (nl4 : Nat) (l5 : Int32) (l7 : Int32) (s0 : Int32) (h : jH), (-1) ≤ l3.toInt ∧ l3.toInt ≤ 599 → 0 ≤ l7.toInt ∧ l7.toInt ≤ 1199 → 0 ≤ s0.toInt ∧ s0.toInt ≤ 99 → jTa h l4 nl4 → 1200 - l7.toInt ≤ R15 → jJ jSgX Dy h → jSm fp_X0_workOut_r98d h0 h → d_X0_workOut_r98d_248 K15  l3.toInt l4 l5.toInt l7.toInt s0.toInt (vw h) = dr → jX m_X0_workOut 4 0 0 248 [(0, .ref 98), (3, .int l3), (4, .ref l4), (5, .int l5), (7, .int l7)] [.int s0] h 0 0 Q := by
  intro l3 l4 nl4 l5 l7 s0 h y0 y1 y2 Tl4  m15 J Sm D
  have el5 := jfull l5
  unfold d_X0_workOut_r98d_248 at D
  refine x_istore (lsx9 := [(6, .int s0), (0, .ref 98), (3, .int l3), (4, .ref l4), (5, .int l5), (7, .int l7)]) rfl rfl rfl ?_
  refine x_goto (tgt := 313) rfl rfl ?_
  exact jX.sub (jsb_c rfl (jsb_c rfl (jsb_c rfl (jsb_c rfl (jsb_c rfl (jsb_c rfl jsb_n)))))) (ct_X0_workOut_r98d_313 hD hQ k15 l3 l4 nl4 l5 s0 l7 h (jr_of rfl (by omega)) (jr_of rfl (by omega)) (jr_of rfl (by omega)) Tl4 (by omega) J Sm D)
set_option maxRecDepth 100000 in
set_option maxHeartbeats 4000000 in
theorem ct_X0_workOut_r98d_232 {Dy : jH → Prop} {h0 : jH} {Q : Option Value → jH → Prop} {dr : (Int × jW)} {K15 : Int → Nat → Int → Int → Int → jW → (Int × jW)} {R15 : Int} (hD : jDk Dy) (hQ : ∀ (v : Int64) hx9, jJ jSgX Dy hx9 → jSm fp_X0_workOut_r98d h0 hx9 → dr.1 = v.toInt → dr.2 = vw hx9 → Q (some (.long v)) hx9) (k15 : ∀ (l3 : Int32) (l4 : Nat) (nl4 : Nat) (l5 : Int32) (l6 : Int32) (l7 : Int32) (h : jH), 1200 - l7.toInt < R15 → (-1) ≤ l3.toInt ∧ l3.toInt ≤ 599 → 0 ≤ l6.toInt ∧ l6.toInt ≤ 100 → 0 ≤ l7.toInt ∧ l7.toInt ≤ 1200 → jTa h l4 nl4 → jJ jSgX Dy h → jSm fp_X0_workOut_r98d h0 h → K15 l3.toInt l4 l5.toInt l6.toInt l7.toInt (vw h) = dr → jX m_X0_workOut 4 0 0 15 [(0, .ref 98), (3, .int l3), (4, .ref l4), (5, .int l5), (6, .int l6), (7, .int l7)] [] h 0 0 Q) : ∀ (l3 : Int32) (l4 : Nat) (nl4 : Nat) (l6 : Int32) (l7 : Int32) (l12 : Int32) (s0 : Int32) (h : jH), (-1) ≤ l3.toInt ∧ l3.toInt ≤ 599 → 1 ≤ l6.toInt ∧ l6.toInt ≤ 99 → 0 ≤ l7.toInt ∧ l7.toInt ≤ 1199 → 0 ≤ l12.toInt ∧ l12.toInt ≤ 1 → jTa h l4 nl4 → 1200 - l7.toInt ≤ R15 → jJ jSgX Dy h → jSm fp_X0_workOut_r98d h0 h → d_X0_workOut_r98d_232 K15  l3.toInt l4 l6.toInt l7.toInt l12.toInt s0.toInt (vw h) = dr → jX m_X0_workOut 4 0 0 232 [(0, .ref 98), (3, .int l3), (4, .ref l4), (6, .int l6), (7, .int l7), (12, .int l12)] [.int s0] h 0 0 Q := by
  intro l3 l4 nl4 l6 l7 l12 s0 h y0 y1 y2 y3 Tl4  m15 J Sm D
  have es0 := jfull s0
  unfold d_X0_workOut_r98d_232 at D
  refine x_istore (lsx9 := [(5, .int s0), (0, .ref 98), (3, .int l3), (4, .ref l4), (6, .int l6), (7, .int l7), (12, .int l12)]) rfl rfl rfl ?_
  refine x_iload (x := l12) rfl rfl ?_
  refine x_ifeq (tgt := 244) rfl rfl (ti_eq rfl jk_0 ⟨fun c1 => ?_, fun c1 => ?_⟩)
  ·
    rw [if_pos (by omega)] at D
    refine x_iload (x := l6) rfl rfl ?_
    refine x_iconst (v := 1) rfl ki_1 ?_
    refine z_isub rfl rfl jk_1 (by omega) (fun v2 ev2 => ?_)
    try rw [show (l6.toInt - 1) = v2.toInt from by omega] at D
    exact jX.sub (jsb_c rfl (jsb_c rfl (jsb_c rfl (jsb_c rfl (jsb_c rfl jsb_n))))) (ct_X0_workOut_r98d_248 hD hQ k15 l3 l4 nl4 s0 l7 v2 h (jr_of rfl (by omega)) (jr_of rfl (by omega)) (jr_of rfl (by omega)) Tl4 (by omega) J Sm D)
  ·
    rw [if_neg (by omega)] at D
    refine x_iload (x := l6) rfl rfl ?_
    refine x_goto (tgt := 248) rfl rfl ?_
    exact jX.sub (jsb_c rfl (jsb_c rfl (jsb_c rfl (jsb_c rfl (jsb_c rfl jsb_n))))) (ct_X0_workOut_r98d_248 hD hQ k15 l3 l4 nl4 s0 l7 l6 h (jr_of rfl (by omega)) (jr_of rfl (by omega)) (jr_of rfl (by omega)) Tl4 (by omega) J Sm D)
set_option maxRecDepth 100000 in
set_option maxHeartbeats 4000000 in
theorem ct_X0_workOut_r98d_200216 {Dy : jH → Prop} {h0 : jH} {Q : Option Value → jH → Prop} {dr : (Int × jW)} {K15 : Int → Nat → Int → Int → Int → jW → (Int × jW)} {R15 : Int} (hD : jDk Dy) (hQ : ∀ (v : Int64) hx9, jJ jSgX Dy hx9 → jSm fp_X0_workOut_r98d h0 hx9 → dr.1 = v.toInt → dr.2 = vw hx9 → Q (some (.long v)) hx9) (k15 : ∀ (l3 : Int32) (l4 : Nat) (nl4 : Nat) (l5 : Int32) (l6 : Int32) (l7 : Int32) (h : jH), 1200 - l7.toInt < R15 → (-1) ≤ l3.toInt ∧ l3.toInt ≤ 599 → 0 ≤ l6.toInt ∧ l6.toInt ≤ 100 → 0 ≤ l7.toInt ∧ l7.toInt ≤ 1200 → jTa h l4 nl4 → jJ jSgX Dy h → jSm fp_X0_workOut_r98d h0 h → K15 l3.toInt l4 l5.toInt l6.toInt l7.toInt (vw h) = dr → jX m_X0_workOut 4 0 0 15 [(0, .ref 98), (3, .int l3), (4, .ref l4), (5, .int l5), (6, .int l6), (7, .int l7)] [] h 0 0 Q) : ∀ (l3 : Int32) (l4 : Nat) (nl4 : Nat) (l5 : Int32) (l6 : Int32) (l7 : Int32) (l9 : Int32) (h : jH), (-1) ≤ l3.toInt ∧ l3.toInt ≤ 599 → 0 ≤ l5.toInt ∧ l5.toInt ≤ 1199 → 1 ≤ l6.toInt ∧ l6.toInt ≤ 99 → 0 ≤ l7.toInt ∧ l7.toInt ≤ 1199 → jTa h l4 nl4 → 1200 - l7.toInt ≤ R15 → jJ jSgX Dy h → jSm fp_X0_workOut_r98d h0 h → d_X0_workOut_r98d_200216 K15  l3.toInt l4 l5.toInt l6.toInt l7.toInt l9.toInt (vw h) = dr → jX m_X0_workOut 4 0 0 216 [(0, .ref 98), (3, .int l3), (4, .ref l4), (5, .int l5), (6, .int l6), (7, .int l7), (9, .int l9)] [.int 0] h 0 0 Q := by
  intro l3 l4 nl4 l5 l6 l7 l9 h y0 y1 y2 y3 Tl4  m15 J Sm D
  have el9 := jfull l9
  unfold d_X0_workOut_r98d_200216 at D
  refine x_istore (lsx9 := [(12, .int 0), (0, .ref 98), (3, .int l3), (4, .ref l4), (5, .int l5), (6, .int l6), (7, .int l7), (9, .int l9)]) rfl rfl rfl ?_
  refine x_iload (x := 0) rfl rfl ?_
  refine x_ifeq (tgt := 228) rfl rfl (ti_eq jk_0 jk_0 (br_t (by omega) ?_))
  refine x_iload (x := l5) rfl rfl ?_
  refine x_iconst (v := 2) rfl ki_2 ?_
  refine z_iadd rfl rfl jk_2 (by omega) (fun v1 ev1 => ?_)
  try rw [show (l5.toInt + 2) = v1.toInt from by omega] at D
  exact jX.sub (jsb_c rfl (jsb_c rfl (jsb_c rfl (jsb_c rfl (jsb_c rfl (jsb_c rfl jsb_n)))))) (ct_X0_workOut_r98d_232 hD hQ k15 l3 l4 nl4 l6 l7 0 v1 h (jr_of rfl (by omega)) (jr_of rfl (by omega)) (jr_of rfl (by omega)) (jr_of jk_0 (by omega)) Tl4 (by omega) J Sm (by rw [jk_0]; exact D))
set_option maxRecDepth 100000 in
set_option maxHeartbeats 4000000 in
theorem ct_X0_workOut_r98d_300216 {Dy : jH → Prop} {h0 : jH} {Q : Option Value → jH → Prop} {dr : (Int × jW)} {K15 : Int → Nat → Int → Int → Int → jW → (Int × jW)} {R15 : Int} (hD : jDk Dy) (hQ : ∀ (v : Int64) hx9, jJ jSgX Dy hx9 → jSm fp_X0_workOut_r98d h0 hx9 → dr.1 = v.toInt → dr.2 = vw hx9 → Q (some (.long v)) hx9) (k15 : ∀ (l3 : Int32) (l4 : Nat) (nl4 : Nat) (l5 : Int32) (l6 : Int32) (l7 : Int32) (h : jH), 1200 - l7.toInt < R15 → (-1) ≤ l3.toInt ∧ l3.toInt ≤ 599 → 0 ≤ l6.toInt ∧ l6.toInt ≤ 100 → 0 ≤ l7.toInt ∧ l7.toInt ≤ 1200 → jTa h l4 nl4 → jJ jSgX Dy h → jSm fp_X0_workOut_r98d h0 h → K15 l3.toInt l4 l5.toInt l6.toInt l7.toInt (vw h) = dr → jX m_X0_workOut 4 0 0 15 [(0, .ref 98), (3, .int l3), (4, .ref l4), (5, .int l5), (6, .int l6), (7, .int l7)] [] h 0 0 Q) : ∀ (l3 : Int32) (l4 : Nat) (nl4 : Nat) (l5 : Int32) (l6 : Int32) (l7 : Int32) (l9 : Int32) (h : jH), (-1) ≤ l3.toInt ∧ l3.toInt ≤ 599 → 0 ≤ l5.toInt ∧ l5.toInt ≤ 1199 → 1 ≤ l6.toInt ∧ l6.toInt ≤ 99 → 0 ≤ l7.toInt ∧ l7.toInt ≤ 1199 → jTa h l4 nl4 → 1200 - l7.toInt ≤ R15 → jJ jSgX Dy h → jSm fp_X0_workOut_r98d h0 h → d_X0_workOut_r98d_300216 K15  l3.toInt l4 l5.toInt l6.toInt l7.toInt l9.toInt (vw h) = dr → jX m_X0_workOut 4 0 0 216 [(0, .ref 98), (3, .int l3), (4, .ref l4), (5, .int l5), (6, .int l6), (7, .int l7), (9, .int l9)] [.int 1] h 0 0 Q := by
  intro l3 l4 nl4 l5 l6 l7 l9 h y0 y1 y2 y3 Tl4  m15 J Sm D
  have el9 := jfull l9
  unfold d_X0_workOut_r98d_300216 at D
  refine x_istore (lsx9 := [(12, .int 1), (0, .ref 98), (3, .int l3), (4, .ref l4), (5, .int l5), (6, .int l6), (7, .int l7), (9, .int l9)]) rfl rfl rfl ?_
  refine x_iload (x := 1) rfl rfl ?_
  refine x_ifeq (tgt := 228) rfl rfl (ti_eq jk_1 jk_0 (br_f (by omega) ?_))
  refine x_iload (x := l9) rfl rfl ?_
  refine x_goto (tgt := 232) rfl rfl ?_
  exact jX.sub (jsb_c rfl (jsb_c rfl (jsb_c rfl (jsb_c rfl (jsb_c rfl (jsb_c rfl jsb_n)))))) (ct_X0_workOut_r98d_232 hD hQ k15 l3 l4 nl4 l6 l7 1 l9 h (jr_of rfl (by omega)) (jr_of rfl (by omega)) (jr_of rfl (by omega)) (jr_of jk_1 (by omega)) Tl4 (by omega) J Sm (by rw [jk_1]; exact D))
set_option maxRecDepth 100000 in
set_option maxHeartbeats 4000000 in
theorem ct_X0_workOut_r98d_200206 {Dy : jH → Prop} {h0 : jH} {Q : Option Value → jH → Prop} {dr : (Int × jW)} {K15 : Int → Nat → Int → Int → Int → jW → (Int × jW)} {R15 : Int} (hD : jDk Dy) (hQ : ∀ (v : Int64) hx9, jJ jSgX Dy hx9 → jSm fp_X0_workOut_r98d h0 hx9 → dr.1 = v.toInt → dr.2 = vw hx9 → Q (some (.long v)) hx9) (k15 : ∀ (l3 : Int32) (l4 : Nat) (nl4 : Nat) (l5 : Int32) (l6 : Int32) (l7 : Int32) (h : jH), 1200 - l7.toInt < R15 → (-1) ≤ l3.toInt ∧ l3.toInt ≤ 599 → 0 ≤ l6.toInt ∧ l6.toInt ≤ 100 → 0 ≤ l7.toInt ∧ l7.toInt ≤ 1200 → jTa h l4 nl4 → jJ jSgX Dy h → jSm fp_X0_workOut_r98d h0 h → K15 l3.toInt l4 l5.toInt l6.toInt l7.toInt (vw h) = dr → jX m_X0_workOut 4 0 0 15 [(0, .ref 98), (3, .int l3), (4, .ref l4), (5, .int l5), (6, .int l6), (7, .int l7)] [] h 0 0 Q) : ∀ (l3 : Int32) (l4 : Nat) (nl4 : Nat) (l5 : Int32) (l6 : Int32) (l7 : Int32) (l9 : Int32) (s1 : Int64) (h : jH), (-1) ≤ l3.toInt ∧ l3.toInt ≤ 599 → 0 ≤ l5.toInt ∧ l5.toInt ≤ 1199 → 1 ≤ l6.toInt ∧ l6.toInt ≤ 99 → 0 ≤ l7.toInt ∧ l7.toInt ≤ 1199 → jTa h l4 nl4 → 1200 - l7.toInt ≤ R15 → jJ jSgX Dy h → jSm fp_X0_workOut_r98d h0 h → d_X0_workOut_r98d_200206 K15  l3.toInt l4 l5.toInt l6.toInt l7.toInt l9.toInt s1.toInt (vw h) = dr → jX m_X0_workOut 4 0 0 206 [(0, .ref 98), (3, .int l3), (4, .ref l4), (5, .int l5), (6, .int l6), (7, .int l7), (9, .int l9)] [.int 0, .long s1] h 0 0 Q := by
  intro l3 l4 nl4 l5 l6 l7 l9 s1 h y0 y1 y2 y3 Tl4  m15 J Sm D
  have el9 := jfull l9
  have es1 := jfullL s1
  unfold d_X0_workOut_r98d_200206 at D
  refine z_i2l rfl jk_0 (fun v1 ev1 => ?_)
  refine z_lcmp rfl rfl rfl (fun v2 ev2 => ?_)
  refine x_ifne (tgt := 215) rfl rfl (ti_ne rfl jk_0 ⟨fun c3 => ?_, fun c3 => ?_⟩)
  ·
    rw [if_neg (by omega)] at D
    refine x_iconst (v := 0) rfl ki_0 ?_
    exact jX.sub (jsb_c rfl (jsb_c rfl (jsb_c rfl (jsb_c rfl (jsb_c rfl (jsb_c rfl (jsb_c rfl jsb_n))))))) (ct_X0_workOut_r98d_200216 hD hQ k15 l3 l4 nl4 l5 l6 l7 l9 h (jr_of rfl (by omega)) (jr_of rfl (by omega)) (jr_of rfl (by omega)) (jr_of rfl (by omega)) Tl4 (by omega) J Sm D)
  ·
    rw [if_pos (by omega)] at D
    refine x_iconst (v := 1) rfl ki_1 ?_
    refine x_goto (tgt := 216) rfl rfl ?_
    exact jX.sub (jsb_c rfl (jsb_c rfl (jsb_c rfl (jsb_c rfl (jsb_c rfl (jsb_c rfl (jsb_c rfl jsb_n))))))) (ct_X0_workOut_r98d_300216 hD hQ k15 l3 l4 nl4 l5 l6 l7 l9 h (jr_of rfl (by omega)) (jr_of rfl (by omega)) (jr_of rfl (by omega)) (jr_of rfl (by omega)) Tl4 (by omega) J Sm D)
set_option maxRecDepth 100000 in
set_option maxHeartbeats 4000000 in
theorem ct_X0_workOut_r98d_300206 {Dy : jH → Prop} {h0 : jH} {Q : Option Value → jH → Prop} {dr : (Int × jW)} {K15 : Int → Nat → Int → Int → Int → jW → (Int × jW)} {R15 : Int} (hD : jDk Dy) (hQ : ∀ (v : Int64) hx9, jJ jSgX Dy hx9 → jSm fp_X0_workOut_r98d h0 hx9 → dr.1 = v.toInt → dr.2 = vw hx9 → Q (some (.long v)) hx9) (k15 : ∀ (l3 : Int32) (l4 : Nat) (nl4 : Nat) (l5 : Int32) (l6 : Int32) (l7 : Int32) (h : jH), 1200 - l7.toInt < R15 → (-1) ≤ l3.toInt ∧ l3.toInt ≤ 599 → 0 ≤ l6.toInt ∧ l6.toInt ≤ 100 → 0 ≤ l7.toInt ∧ l7.toInt ≤ 1200 → jTa h l4 nl4 → jJ jSgX Dy h → jSm fp_X0_workOut_r98d h0 h → K15 l3.toInt l4 l5.toInt l6.toInt l7.toInt (vw h) = dr → jX m_X0_workOut 4 0 0 15 [(0, .ref 98), (3, .int l3), (4, .ref l4), (5, .int l5), (6, .int l6), (7, .int l7)] [] h 0 0 Q) : ∀ (l3 : Int32) (l4 : Nat) (nl4 : Nat) (l5 : Int32) (l6 : Int32) (l7 : Int32) (l9 : Int32) (s1 : Int64) (h : jH), (-1) ≤ l3.toInt ∧ l3.toInt ≤ 599 → 0 ≤ l5.toInt ∧ l5.toInt ≤ 1199 → 1 ≤ l6.toInt ∧ l6.toInt ≤ 99 → 0 ≤ l7.toInt ∧ l7.toInt ≤ 1199 → jTa h l4 nl4 → 1200 - l7.toInt ≤ R15 → jJ jSgX Dy h → jSm fp_X0_workOut_r98d h0 h → d_X0_workOut_r98d_300206 K15  l3.toInt l4 l5.toInt l6.toInt l7.toInt l9.toInt s1.toInt (vw h) = dr → jX m_X0_workOut 4 0 0 206 [(0, .ref 98), (3, .int l3), (4, .ref l4), (5, .int l5), (6, .int l6), (7, .int l7), (9, .int l9)] [.int 1, .long s1] h 0 0 Q := by
  intro l3 l4 nl4 l5 l6 l7 l9 s1 h y0 y1 y2 y3 Tl4  m15 J Sm D
  have el9 := jfull l9
  have es1 := jfullL s1
  unfold d_X0_workOut_r98d_300206 at D
  refine z_i2l rfl jk_1 (fun v1 ev1 => ?_)
  refine z_lcmp rfl rfl rfl (fun v2 ev2 => ?_)
  refine x_ifne (tgt := 215) rfl rfl (ti_ne rfl jk_0 ⟨fun c3 => ?_, fun c3 => ?_⟩)
  ·
    rw [if_neg (by omega)] at D
    refine x_iconst (v := 0) rfl ki_0 ?_
    exact jX.sub (jsb_c rfl (jsb_c rfl (jsb_c rfl (jsb_c rfl (jsb_c rfl (jsb_c rfl (jsb_c rfl jsb_n))))))) (ct_X0_workOut_r98d_200216 hD hQ k15 l3 l4 nl4 l5 l6 l7 l9 h (jr_of rfl (by omega)) (jr_of rfl (by omega)) (jr_of rfl (by omega)) (jr_of rfl (by omega)) Tl4 (by omega) J Sm D)
  ·
    rw [if_pos (by omega)] at D
    refine x_iconst (v := 1) rfl ki_1 ?_
    refine x_goto (tgt := 216) rfl rfl ?_
    exact jX.sub (jsb_c rfl (jsb_c rfl (jsb_c rfl (jsb_c rfl (jsb_c rfl (jsb_c rfl (jsb_c rfl jsb_n))))))) (ct_X0_workOut_r98d_300216 hD hQ k15 l3 l4 nl4 l5 l6 l7 l9 h (jr_of rfl (by omega)) (jr_of rfl (by omega)) (jr_of rfl (by omega)) (jr_of rfl (by omega)) Tl4 (by omega) J Sm D)
set_option maxRecDepth 100000 in
set_option maxHeartbeats 4000000 in
theorem ct_X0_workOut_r98d_192 {Dy : jH → Prop} {h0 : jH} {Q : Option Value → jH → Prop} {dr : (Int × jW)} {K15 : Int → Nat → Int → Int → Int → jW → (Int × jW)} {R15 : Int} (hD : jDk Dy) (hQ : ∀ (v : Int64) hx9, jJ jSgX Dy hx9 → jSm fp_X0_workOut_r98d h0 hx9 → dr.1 = v.toInt → dr.2 = vw hx9 → Q (some (.long v)) hx9) (k15 : ∀ (l3 : Int32) (l4 : Nat) (nl4 : Nat) (l5 : Int32) (l6 : Int32) (l7 : Int32) (h : jH), 1200 - l7.toInt < R15 → (-1) ≤ l3.toInt ∧ l3.toInt ≤ 599 → 0 ≤ l6.toInt ∧ l6.toInt ≤ 100 → 0 ≤ l7.toInt ∧ l7.toInt ≤ 1200 → jTa h l4 nl4 → jJ jSgX Dy h → jSm fp_X0_workOut_r98d h0 h → K15 l3.toInt l4 l5.toInt l6.toInt l7.toInt (vw h) = dr → jX m_X0_workOut 4 0 0 15 [(0, .ref 98), (3, .int l3), (4, .ref l4), (5, .int l5), (6, .int l6), (7, .int l7)] [] h 0 0 Q) : ∀ (l3 : Int32) (l4 : Nat) (nl4 : Nat) (l5 : Int32) (l6 : Int32) (l7 : Int32) (l8 : Int32) (l9 : Int32) (l10 : Int64) (h : jH), (-1) ≤ l3.toInt ∧ l3.toInt ≤ 599 → 0 ≤ l5.toInt ∧ l5.toInt ≤ 1199 → 1 ≤ l6.toInt ∧ l6.toInt ≤ 99 → 0 ≤ l7.toInt ∧ l7.toInt ≤ 1199 → 11 ≤ l8.toInt ∧ l8.toInt ≤ 12 → l8.toInt ≠ 0 → jTa h l4 nl4 → 1200 - l7.toInt ≤ R15 → jJ jSgX Dy h → jSm fp_X0_workOut_r98d h0 h → d_X0_workOut_r98d_192 K15  l3.toInt l4 l5.toInt l6.toInt l7.toInt l8.toInt l9.toInt l10.toInt (vw h) = dr → jX m_X0_workOut 4 0 0 192 [(0, .ref 98), (3, .int l3), (4, .ref l4), (5, .int l5), (6, .int l6), (7, .int l7), (8, .int l8), (9, .int l9), (10, .long l10)] [] h 0 0 Q := by
  intro l3 l4 nl4 l5 l6 l7 l8 l9 l10 h y0 y1 y2 y3 y4 y5 Tl4  m15 J Sm D
  have el9 := jfull l9
  have el10 := jfullL l10
  unfold d_X0_workOut_r98d_192 at D
  refine x_lload (x := l10) rfl rfl ?_
  refine x_iload (x := l8) rfl rfl ?_
  refine x_bipush (v := 11) rfl kb_11 ?_
  refine x_icne (tgt := 205) rfl rfl (ti_ne rfl jk_11 ⟨fun c1 => ?_, fun c1 => ?_⟩)
  ·
    rw [if_neg (by omega)] at D
    refine x_iconst (v := 0) rfl ki_0 ?_
    exact jX.sub (jsb_c rfl (jsb_c rfl (jsb_c rfl (jsb_c rfl (jsb_c rfl (jsb_c rfl (jsb_c rfl jsb_n))))))) (ct_X0_workOut_r98d_200206 hD hQ k15 l3 l4 nl4 l5 l6 l7 l9 l10 h (jr_of rfl (by omega)) (jr_of rfl (by omega)) (jr_of rfl (by omega)) (jr_of rfl (by omega)) Tl4 (by omega) J Sm D)
  ·
    rw [if_pos (by omega)] at D
    refine x_iconst (v := 1) rfl ki_1 ?_
    refine x_goto (tgt := 206) rfl rfl ?_
    exact jX.sub (jsb_c rfl (jsb_c rfl (jsb_c rfl (jsb_c rfl (jsb_c rfl (jsb_c rfl (jsb_c rfl jsb_n))))))) (ct_X0_workOut_r98d_300206 hD hQ k15 l3 l4 nl4 l5 l6 l7 l9 l10 h (jr_of rfl (by omega)) (jr_of rfl (by omega)) (jr_of rfl (by omega)) (jr_of rfl (by omega)) Tl4 (by omega) J Sm D)
set_option maxRecDepth 100000 in
set_option maxHeartbeats 4000000 in
theorem ct_X0_workOut_r98d_5000281 {Dy : jH → Prop} {h0 : jH} {Q : Option Value → jH → Prop} {dr : (Int × jW)} {K15 : Int → Nat → Int → Int → Int → jW → (Int × jW)} {R15 : Int} (hD : jDk Dy) (hQ : ∀ (v : Int64) hx9, jJ jSgX Dy hx9 → jSm fp_X0_workOut_r98d h0 hx9 → dr.1 = v.toInt → dr.2 = vw hx9 → Q (some (.long v)) hx9) (k15 : ∀ (l3 : Int32) (l4 : Nat) (nl4 : Nat) (l5 : Int32) (l6 : Int32) (l7 : Int32) (h : jH), 1200 - l7.toInt < R15 → (-1) ≤ l3.toInt ∧ l3.toInt ≤ 599 → 0 ≤ l6.toInt ∧ l6.toInt ≤ 100 → 0 ≤ l7.toInt ∧ l7.toInt ≤ 1200 → jTa h l4 nl4 → jJ jSgX Dy h → jSm fp_X0_workOut_r98d h0 h → K15 l3.toInt l4 l5.toInt l6.toInt l7.toInt (vw h) = dr → jX m_X0_workOut 4 0 0 15 [(0, .ref 98), (3, .int l3), (4, .ref l4), (5, .int l5), (6, .int l6), (7, .int l7)] [] h 0 0 Q) : ∀ (l3 : Int32) (l4 : Nat) (nl4 : Nat) (l5 : Int32) (l6 : Int32) (l7 : Int32) (h : jH), (-1) ≤ l3.toInt ∧ l3.toInt ≤ 599 → 0 ≤ l5.toInt ∧ l5.toInt ≤ 1199 → 1 ≤ l6.toInt ∧ l6.toInt ≤ 1 → 0 ≤ l7.toInt ∧ l7.toInt ≤ 1199 → jTa h l4 nl4 → 1200 - l7.toInt ≤ R15 → jJ jSgX Dy h → jSm fp_X0_workOut_r98d h0 h → d_X0_workOut_r98d_5000281 K15  l3.toInt l4 l5.toInt l6.toInt l7.toInt (vw h) = dr → jX m_X0_workOut 4 0 0 281 [(0, .ref 98), (3, .int l3), (4, .ref l4), (5, .int l5), (6, .int l6), (7, .int l7)] [.long (-2000000000000)] h 0 0 Q := by
  intro l3 l4 nl4 l5 l6 l7 h y0 y1 y2 y3 Tl4  m15 J Sm D
  unfold d_X0_workOut_r98d_5000281 at D
  refine x_lstore (lsx9 := [(12, .long (-2000000000000)), (0, .ref 98), (3, .int l3), (4, .ref l4), (5, .int l5), (6, .int l6), (7, .int l7)]) rfl rfl rfl ?_
  refine x_lload (x := (-2000000000000)) rfl rfl ?_
  refine x_ldc2 (v := (-2000000000000)) rfl z_0_193 ?_
  refine z_lcmp rfl jkl_m2000000000000 jkl_m2000000000000 (fun v1 ev1 => ?_)
  refine x_ifne (tgt := 296) rfl rfl (ti_ne rfl jk_0 (bn_f (by omega) ?_))
  refine x_ldc2 (v := (-2000000000000)) rfl z_0_193 ?_
  refine x_lret rfl rfl ?_
  exact hQ _ _ J Sm ((congrArg Prod.fst D).symm.trans (show (-2000000000000) = ((-2000000000000) : Int64).toInt from by have := jkl_m2000000000000; omega)) (congrArg Prod.snd D).symm
set_option maxRecDepth 100000 in
set_option maxHeartbeats 4000000 in
theorem ct_X0_workOut_r98d_281 {Dy : jH → Prop} {h0 : jH} {Q : Option Value → jH → Prop} {dr : (Int × jW)} {K15 : Int → Nat → Int → Int → Int → jW → (Int × jW)} {R15 : Int} (hD : jDk Dy) (hQ : ∀ (v : Int64) hx9, jJ jSgX Dy hx9 → jSm fp_X0_workOut_r98d h0 hx9 → dr.1 = v.toInt → dr.2 = vw hx9 → Q (some (.long v)) hx9) (k15 : ∀ (l3 : Int32) (l4 : Nat) (nl4 : Nat) (l5 : Int32) (l6 : Int32) (l7 : Int32) (h : jH), 1200 - l7.toInt < R15 → (-1) ≤ l3.toInt ∧ l3.toInt ≤ 599 → 0 ≤ l6.toInt ∧ l6.toInt ≤ 100 → 0 ≤ l7.toInt ∧ l7.toInt ≤ 1200 → jTa h l4 nl4 → jJ jSgX Dy h → jSm fp_X0_workOut_r98d h0 h → K15 l3.toInt l4 l5.toInt l6.toInt l7.toInt (vw h) = dr → jX m_X0_workOut 4 0 0 15 [(0, .ref 98), (3, .int l3), (4, .ref l4), (5, .int l5), (6, .int l6), (7, .int l7)] [] h 0 0 Q) : ∀ (l3 : Int32) (l4 : Nat) (nl4 : Nat) (l5 : Int32) (l6 : Int32) (l7 : Int32) (s0 : Int64) (h : jH), (-1) ≤ l3.toInt ∧ l3.toInt ≤ 599 → 0 ≤ l5.toInt ∧ l5.toInt ≤ 1199 → 2 ≤ l6.toInt ∧ l6.toInt ≤ 99 → 0 ≤ l7.toInt ∧ l7.toInt ≤ 1199 → jTa h l4 nl4 → 1200 - l7.toInt ≤ R15 → jJ jSgX Dy h → jSm fp_X0_workOut_r98d h0 h → d_X0_workOut_r98d_281 K15  l3.toInt l4 l5.toInt l6.toInt l7.toInt s0.toInt (vw h) = dr → jX m_X0_workOut 4 0 0 281 [(0, .ref 98), (3, .int l3), (4, .ref l4), (5, .int l5), (6, .int l6), (7, .int l7)] [.long s0] h 0 0 Q := by
  intro l3 l4 nl4 l5 l6 l7 s0 h y0 y1 y2 y3 Tl4  m15 J Sm D
  have es0 := jfullL s0
  unfold d_X0_workOut_r98d_281 at D
  refine x_lstore (lsx9 := [(12, .long s0), (0, .ref 98), (3, .int l3), (4, .ref l4), (5, .int l5), (6, .int l6), (7, .int l7)]) rfl rfl rfl ?_
  refine x_lload (x := s0) rfl rfl ?_
  refine x_ldc2 (v := (-2000000000000)) rfl z_0_193 ?_
  refine z_lcmp rfl rfl jkl_m2000000000000 (fun v1 ev1 => ?_)
  refine x_ifne (tgt := 296) rfl rfl (ti_ne rfl jk_0 ⟨fun c2 => ?_, fun c2 => ?_⟩)
  ·
    rw [if_neg (by omega)] at D
    refine z_iinc (x := l6) (lsx9 := fun v3 => [(6, .int v3), (12, .long s0), (0, .ref 98), (3, .int l3), (4, .ref l4), (5, .int l5), (7, .int l7)]) rfl rfl rfl jko_m1 (by omega) rfl (fun _ => rfl) (fun v3 ev3 => ?_)
    refine x_aloadn (x := 98) rfl rfl ?_
    refine z_getR (N := 16) (b := 106) 0 9 rfl f_0_33 rfl J rfl 12553 ⟨rfl, rfl⟩ rfl ?_
    refine x_iload (x := v3) rfl rfl ?_
    refine x_iconst (v := 1) rfl ki_1 ?_
    refine z_isub rfl rfl jk_1 (by omega) (fun v4 ev4 => ?_)
    refine x_lload (x := s0) rfl rfl ?_
    refine z_last (N := 100) (l := 0) (u := 100) rfl hD J Sm rfl rfl rfl (by omega) rfl (fun h w5 J Sm => ?_)
    have Tl4 := jTa_l w5 Tl4
    rw [vwwL w5 (show ((l6.toInt + (-1)) - 1) = v4.toInt from by omega) (show s0.toInt = s0.toInt from by omega)] at D
    refine z_iinc (x := l5) (lsx9 := fun v6 => [(5, .int v6), (6, .int v3), (12, .long s0), (0, .ref 98), (3, .int l3), (4, .ref l4), (7, .int l7)]) rfl rfl rfl jko_1 (by omega) rfl (fun _ => rfl) (fun v6 ev6 => ?_)
    try rw [show (l5.toInt + 1) = v6.toInt from by omega] at D
    try rw [show (l6.toInt + (-1)) = v3.toInt from by omega] at D
    exact jX.sub (jsb_c rfl (jsb_c rfl (jsb_c rfl (jsb_c rfl (jsb_c rfl (jsb_c rfl jsb_n)))))) (ct_X0_workOut_r98d_313 hD hQ k15 l3 l4 nl4 v6 v3 l7 h (jr_of rfl (by omega)) (jr_of rfl (by omega)) (jr_of rfl (by omega)) Tl4 (by omega) J Sm D)
  ·
    rw [if_pos (by omega)] at D
    refine x_ldc2 (v := (-2000000000000)) rfl z_0_193 ?_
    refine x_lret rfl rfl ?_
    exact hQ _ _ J Sm ((congrArg Prod.fst D).symm.trans (show (-2000000000000) = ((-2000000000000) : Int64).toInt from by have := jkl_m2000000000000; omega)) (congrArg Prod.snd D).symm
set_option maxRecDepth 100000 in
set_option maxHeartbeats 4000000 in
theorem ct_X0_workOut_r98d_200074 {Dy : jH → Prop} {h0 : jH} {Q : Option Value → jH → Prop} {dr : (Int × jW)} {K15 : Int → Nat → Int → Int → Int → jW → (Int × jW)} {R15 : Int} (hD : jDk Dy) (hQ : ∀ (v : Int64) hx9, jJ jSgX Dy hx9 → jSm fp_X0_workOut_r98d h0 hx9 → dr.1 = v.toInt → dr.2 = vw hx9 → Q (some (.long v)) hx9) (k15 : ∀ (l3 : Int32) (l4 : Nat) (nl4 : Nat) (l5 : Int32) (l6 : Int32) (l7 : Int32) (h : jH), 1200 - l7.toInt < R15 → (-1) ≤ l3.toInt ∧ l3.toInt ≤ 599 → 0 ≤ l6.toInt ∧ l6.toInt ≤ 100 → 0 ≤ l7.toInt ∧ l7.toInt ≤ 1200 → jTa h l4 nl4 → jJ jSgX Dy h → jSm fp_X0_workOut_r98d h0 h → K15 l3.toInt l4 l5.toInt l6.toInt l7.toInt (vw h) = dr → jX m_X0_workOut 4 0 0 15 [(0, .ref 98), (3, .int l3), (4, .ref l4), (5, .int l5), (6, .int l6), (7, .int l7)] [] h 0 0 Q) : ∀ (l3 : Int32) (l4 : Nat) (nl4 : Nat) (l5 : Int32) (l6 : Int32) (l7 : Int32) (l8 : Int32) (h : jH), (-1) ≤ l3.toInt ∧ l3.toInt ≤ 599 → 0 ≤ l5.toInt ∧ l5.toInt ≤ 1199 → 0 ≤ l6.toInt ∧ l6.toInt ≤ 99 → 0 ≤ l7.toInt ∧ l7.toInt ≤ 1199 → jTa h l4 nl4 → 1200 - l7.toInt ≤ R15 → jJ jSgX Dy h → jSm fp_X0_workOut_r98d h0 h → d_X0_workOut_r98d_200074 K15  l3.toInt l4 l5.toInt l6.toInt l7.toInt l8.toInt (vw h) = dr → jX m_X0_workOut 4 0 0 74 [(0, .ref 98), (3, .int l3), (4, .ref l4), (5, .int l5), (6, .int l6), (7, .int l7), (8, .int l8)] [.int 0] h 0 0 Q := by
  intro l3 l4 nl4 l5 l6 l7 l8 h y0 y1 y2 y3 Tl4  m15 J Sm D
  have el8 := jfull l8
  unfold d_X0_workOut_r98d_200074 at D
  refine x_istore (lsx9 := [(9, .int 0), (0, .ref 98), (3, .int l3), (4, .ref l4), (5, .int l5), (6, .int l6), (7, .int l7), (8, .int l8)]) rfl rfl rfl ?_
  refine x_iload (x := l8) rfl rfl ?_
  refine x_iconst (v := 1) rfl ki_1 ?_
  refine x_iceq (tgt := 88) rfl rfl (ti_eq rfl jk_1 ⟨fun c1 => ?_, fun c1 => ?_⟩)
  ·
    rw [if_pos (by omega)] at D
    exact jX.sub (jsb_c rfl (jsb_c rfl (jsb_c rfl (jsb_c rfl (jsb_c rfl (jsb_c rfl (jsb_c rfl (jsb_c rfl jsb_n)))))))) (ct_X0_workOut_r98d_88 hD hQ k15 l3 l4 nl4 l5 l6 l7 l8 0 h (jr_of rfl (by omega)) (jr_of rfl (by omega)) (jr_of rfl (by omega)) (jr_of rfl (by omega)) (jr_of rfl (by omega)) Tl4 (by omega) J Sm (by rw [jk_0]; exact D))
  ·
    rw [if_neg (by omega)] at D
    refine x_iload (x := l8) rfl rfl ?_
    refine x_iconst (v := 2) rfl ki_2 ?_
    refine x_icne (tgt := 123) rfl rfl (ti_ne rfl jk_2 ⟨fun c2 => ?_, fun c2 => ?_⟩)
    ·
      rw [if_neg (by omega)] at D
      refine x_iload (x := l6) rfl rfl ?_
      refine x_iconst (v := 1) rfl ki_1 ?_
      refine x_icge (tgt := 133) rfl rfl (ti_ge rfl jk_1 ⟨fun c3 => ?_, fun c3 => ?_⟩)
      ·
        rw [if_pos (by omega)] at D
        refine x_aloadn (x := 98) rfl rfl ?_
        refine z_getR (N := 16) (b := 106) 0 9 rfl f_0_33 rfl J rfl 12553 ⟨rfl, rfl⟩ rfl ?_
        refine x_iload (x := l6) rfl rfl ?_
        refine x_iconst (v := 1) rfl ki_1 ?_
        refine z_isub rfl rfl jk_1 (by omega) (fun v4 ev4 => ?_)
        refine z_laldQ (N := 100) rfl J rfl rfl (by omega) (fun v5 qv5 => ?_)
        have ev5 := jfullL v5
        try rw [vrdL qv5 (show (l6.toInt - 1) = v4.toInt from by omega)] at D
        refine x_lstore (lsx9 := [(10, .long v5), (9, .int 0), (0, .ref 98), (3, .int l3), (4, .ref l4), (5, .int l5), (6, .int l6), (7, .int l7), (8, .int l8)]) rfl rfl rfl ?_
        refine x_iload (x := l8) rfl rfl ?_
        refine x_ifne (tgt := 152) rfl rfl (ti_ne rfl jk_0 ⟨fun c6 => ?_, fun c6 => ?_⟩)
        ·
          rw [if_neg (by omega)] at D
          refine x_iload (x := l8) rfl rfl ?_
          refine x_bipush (v := 10) rfl kb_10 ?_
          refine x_icne (tgt := 178) rfl rfl (ti_ne rfl jk_10 ⟨fun c7 => ?_, fun c7 => ?_⟩)
          ·
            rw [if_neg (by omega)] at D
            refine x_iload (x := l8) rfl rfl ?_
            refine x_bipush (v := 11) rfl kb_11 ?_
            refine x_iceq (tgt := 192) rfl rfl (ti_eq rfl jk_11 ⟨fun c8 => ?_, fun c8 => ?_⟩)
            ·
              rw [if_pos (by omega)] at D
              exact jX.sub (jsb_c rfl (jsb_c rfl (jsb_c rfl (jsb_c rfl (jsb_c rfl (jsb_c rfl (jsb_c rfl (jsb_c rfl (jsb_c rfl jsb_n))))))))) (ct_X0_workOut_r98d_192 hD hQ k15 l3 l4 nl4 l5 l6 l7 l8 0 v5 h (jr_of rfl (by omega)) (jr_of rfl (by omega)) (jr_of rfl (by omega)) (jr_of rfl (by omega)) (jr_of rfl (by omega)) (by omega) Tl4 (by omega) J Sm (by rw [jk_0]; exact D))
            ·
              rw [if_neg (by omega)] at D
              refine x_iload (x := l8) rfl rfl ?_
              refine x_bipush (v := 12) rfl kb_12 ?_
              refine x_icne (tgt := 253) rfl rfl (ti_ne rfl jk_12 ⟨fun c9 => ?_, fun c9 => ?_⟩)
              ·
                rw [if_neg (by omega)] at D
                refine x_iload (x := l6) rfl rfl ?_
                refine x_iconst (v := 2) rfl ki_2 ?_
                refine x_icge (tgt := 265) rfl rfl (ti_ge rfl jk_2 ⟨fun c10 => ?_, fun c10 => ?_⟩)
                ·
                  rw [if_pos (by omega)] at D
                  refine x_iload (x := l8) rfl rfl ?_
                  refine x_aloadn (x := 98) rfl rfl ?_
                  refine z_getR (N := 16) (b := 106) 0 9 rfl f_0_33 rfl J rfl 12553 ⟨rfl, rfl⟩ rfl ?_
                  refine x_iload (x := l6) rfl rfl ?_
                  refine x_iconst (v := 2) rfl ki_2 ?_
                  refine z_isub rfl rfl jk_2 (by omega) (fun v11 ev11 => ?_)
                  refine z_laldQ (N := 100) rfl J rfl rfl (by omega) (fun v12 qv12 => ?_)
                  have ev12 := jfullL v12
                  try rw [vrdL qv12 (show (l6.toInt - 2) = v11.toInt from by omega)] at D
                  refine x_lload (x := v5) rfl rfl ?_
                  refine x_inst (N := m_X0_combine) (As := [.int l8, .long v12, .long v5]) (st := []) (dx9 := 2) (mc := 0) (ms := 0) (host := "") rfl t_X0_combine ⟨Or.inl q_0_202, s_X0_combine⟩ rfl (by decide) rfl rfl ⟨by decide, by decide⟩ (sf_X0_combined  hD J rfl  (fun v16 h J S13 X14 X15 => ?_))
                  have ev16 := jfullL v16
                  have Sm := jSm_tr rfl Sm S13
                  have Tl4 := jTa_m S13 Tl4
                  try rw [X14] at D
                  try rw [← X15] at D
                  show jX m_X0_workOut 4 0 0 281 [(10, .long v5), (9, .int 0), (0, .ref 98), (3, .int l3), (4, .ref l4), (5, .int l5), (6, .int l6), (7, .int l7), (8, .int l8)] [.long v16] _ 0 0 _
                  exact jX.sub (jsb_c rfl (jsb_c rfl (jsb_c rfl (jsb_c rfl (jsb_c rfl (jsb_c rfl jsb_n)))))) (ct_X0_workOut_r98d_281 hD hQ k15 l3 l4 nl4 l5 l6 l7 v16 h (jr_of rfl (by omega)) (jr_of rfl (by omega)) (jr_of rfl (by omega)) (jr_of rfl (by omega)) Tl4 (by omega) J Sm D)
                ·
                  rw [if_neg (by omega)] at D
                  refine x_ldc2 (v := (-2000000000000)) rfl z_0_193 ?_
                  refine x_goto (tgt := 281) rfl rfl ?_
                  exact jX.sub (jsb_c rfl (jsb_c rfl (jsb_c rfl (jsb_c rfl (jsb_c rfl (jsb_c rfl jsb_n)))))) (ct_X0_workOut_r98d_5000281 hD hQ k15 l3 l4 nl4 l5 l6 l7 h (jr_of rfl (by omega)) (jr_of rfl (by omega)) (jr_of rfl (by omega)) (jr_of rfl (by omega)) Tl4 (by omega) J Sm D)
              ·
                rw [if_pos (by omega)] at D
                exact jX.sub (jsb_c rfl (jsb_c rfl (jsb_c rfl (jsb_c rfl (jsb_c rfl (jsb_c rfl (jsb_c rfl (jsb_c rfl (jsb_c rfl jsb_n))))))))) (ct_X0_workOut_r98d_192 hD hQ k15 l3 l4 nl4 l5 l6 l7 l8 0 v5 h (jr_of rfl (by omega)) (jr_of rfl (by omega)) (jr_of rfl (by omega)) (jr_of rfl (by omega)) (jr_of rfl (by omega)) (by omega) Tl4 (by omega) J Sm (by rw [jk_0]; exact D))
          ·
            rw [if_pos (by omega)] at D
            refine x_aloadn (x := 98) rfl rfl ?_
            refine z_getR (N := 16) (b := 106) 0 9 rfl f_0_33 rfl J rfl 12553 ⟨rfl, rfl⟩ rfl ?_
            refine x_iload (x := l6) rfl rfl ?_
            refine x_iconst (v := 1) rfl ki_1 ?_
            refine z_isub rfl rfl jk_1 (by omega) (fun v17 ev17 => ?_)
            refine x_lconst (v := 1) rfl kl_1 ?_
            refine x_lload (x := v5) rfl rfl ?_
            refine z_lsubW rfl jkl_1 rfl (fun v18 ev18 => ?_)
            have fv18 := jfullL v18
            try rw [← ev18] at D
            refine z_last (N := 100) (l := 0) (u := 100) rfl hD J Sm rfl rfl rfl (by omega) rfl (fun h w19 J Sm => ?_)
            have Tl4 := jTa_l w19 Tl4
            rw [vwwL w19 (show (l6.toInt - 1) = v17.toInt from by omega) (show v18.toInt = v18.toInt from by omega)] at D
            refine z_iinc (x := l5) (lsx9 := fun v20 => [(5, .int v20), (10, .long v5), (9, .int 0), (0, .ref 98), (3, .int l3), (4, .ref l4), (6, .int l6), (7, .int l7), (8, .int l8)]) rfl rfl rfl jko_1 (by omega) rfl (fun _ => rfl) (fun v20 ev20 => ?_)
            refine x_goto (tgt := 313) rfl rfl ?_
            try rw [show (l5.toInt + 1) = v20.toInt from by omega] at D
            exact jX.sub (jsb_c rfl (jsb_c rfl (jsb_c rfl (jsb_c rfl (jsb_c rfl (jsb_c rfl jsb_n)))))) (ct_X0_workOut_r98d_313 hD hQ k15 l3 l4 nl4 v20 l6 l7 h (jr_of rfl (by omega)) (jr_of rfl (by omega)) (jr_of rfl (by omega)) Tl4 (by omega) J Sm D)
        ·
          rw [if_pos (by omega)] at D
          refine x_lload (x := v5) rfl rfl ?_
          refine x_lret rfl rfl ?_
          exact hQ _ _ J Sm ((congrArg Prod.fst D).symm.trans (show v5.toInt = v5.toInt from by omega)) (congrArg Prod.snd D).symm
      ·
        rw [if_neg (by omega)] at D
        refine x_ldc2 (v := (-2000000000000)) rfl z_0_193 ?_
        refine x_lret rfl rfl ?_
        exact hQ _ _ J Sm ((congrArg Prod.fst D).symm.trans (show (-2000000000000) = ((-2000000000000) : Int64).toInt from by have := jkl_m2000000000000; omega)) (congrArg Prod.snd D).symm
    ·
      rw [if_pos (by omega)] at D
      exact jX.sub (jsb_c rfl (jsb_c rfl (jsb_c rfl (jsb_c rfl (jsb_c rfl (jsb_c rfl (jsb_c rfl (jsb_c rfl jsb_n)))))))) (ct_X0_workOut_r98d_88 hD hQ k15 l3 l4 nl4 l5 l6 l7 l8 0 h (jr_of rfl (by omega)) (jr_of rfl (by omega)) (jr_of rfl (by omega)) (jr_of rfl (by omega)) (jr_of rfl (by omega)) Tl4 (by omega) J Sm (by rw [jk_0]; exact D))
set_option maxRecDepth 100000 in
set_option maxHeartbeats 4000000 in
theorem ct_X0_workOut_r98d_74 {Dy : jH → Prop} {h0 : jH} {Q : Option Value → jH → Prop} {dr : (Int × jW)} {K15 : Int → Nat → Int → Int → Int → jW → (Int × jW)} {R15 : Int} (hD : jDk Dy) (hQ : ∀ (v : Int64) hx9, jJ jSgX Dy hx9 → jSm fp_X0_workOut_r98d h0 hx9 → dr.1 = v.toInt → dr.2 = vw hx9 → Q (some (.long v)) hx9) (k15 : ∀ (l3 : Int32) (l4 : Nat) (nl4 : Nat) (l5 : Int32) (l6 : Int32) (l7 : Int32) (h : jH), 1200 - l7.toInt < R15 → (-1) ≤ l3.toInt ∧ l3.toInt ≤ 599 → 0 ≤ l6.toInt ∧ l6.toInt ≤ 100 → 0 ≤ l7.toInt ∧ l7.toInt ≤ 1200 → jTa h l4 nl4 → jJ jSgX Dy h → jSm fp_X0_workOut_r98d h0 h → K15 l3.toInt l4 l5.toInt l6.toInt l7.toInt (vw h) = dr → jX m_X0_workOut 4 0 0 15 [(0, .ref 98), (3, .int l3), (4, .ref l4), (5, .int l5), (6, .int l6), (7, .int l7)] [] h 0 0 Q) : ∀ (l3 : Int32) (l4 : Nat) (nl4 : Nat) (l5 : Int32) (l6 : Int32) (l7 : Int32) (l8 : Int32) (s0 : Int32) (h : jH), (-1) ≤ l3.toInt ∧ l3.toInt ≤ 599 → 0 ≤ l5.toInt ∧ l5.toInt ≤ 1198 → 0 ≤ l6.toInt ∧ l6.toInt ≤ 99 → 0 ≤ l7.toInt ∧ l7.toInt ≤ 1199 → jTa h l4 nl4 → 1200 - l7.toInt ≤ R15 → jJ jSgX Dy h → jSm fp_X0_workOut_r98d h0 h → d_X0_workOut_r98d_74 K15  l3.toInt l4 l5.toInt l6.toInt l7.toInt l8.toInt s0.toInt (vw h) = dr → jX m_X0_workOut 4 0 0 74 [(0, .ref 98), (3, .int l3), (4, .ref l4), (5, .int l5), (6, .int l6), (7, .int l7), (8, .int l8)] [.int s0] h 0 0 Q := by
  intro l3 l4 nl4 l5 l6 l7 l8 s0 h y0 y1 y2 y3 Tl4  m15 J Sm D
  have el8 := jfull l8
  have es0 := jfull s0
  unfold d_X0_workOut_r98d_74 at D
  refine x_istore (lsx9 := [(9, .int s0), (0, .ref 98), (3, .int l3), (4, .ref l4), (5, .int l5), (6, .int l6), (7, .int l7), (8, .int l8)]) rfl rfl rfl ?_
  refine x_iload (x := l8) rfl rfl ?_
  refine x_iconst (v := 1) rfl ki_1 ?_
  refine x_iceq (tgt := 88) rfl rfl (ti_eq rfl jk_1 ⟨fun c1 => ?_, fun c1 => ?_⟩)
  ·
    rw [if_pos (by omega)] at D
    exact jX.sub (jsb_c rfl (jsb_c rfl (jsb_c rfl (jsb_c rfl (jsb_c rfl (jsb_c rfl (jsb_c rfl (jsb_c rfl jsb_n)))))))) (ct_X0_workOut_r98d_88 hD hQ k15 l3 l4 nl4 l5 l6 l7 l8 s0 h (jr_of rfl (by omega)) (jr_of rfl (by omega)) (jr_of rfl (by omega)) (jr_of rfl (by omega)) (jr_of rfl (by omega)) Tl4 (by omega) J Sm D)
  ·
    rw [if_neg (by omega)] at D
    refine x_iload (x := l8) rfl rfl ?_
    refine x_iconst (v := 2) rfl ki_2 ?_
    refine x_icne (tgt := 123) rfl rfl (ti_ne rfl jk_2 ⟨fun c2 => ?_, fun c2 => ?_⟩)
    ·
      rw [if_neg (by omega)] at D
      refine x_iload (x := l6) rfl rfl ?_
      refine x_iconst (v := 1) rfl ki_1 ?_
      refine x_icge (tgt := 133) rfl rfl (ti_ge rfl jk_1 ⟨fun c3 => ?_, fun c3 => ?_⟩)
      ·
        rw [if_pos (by omega)] at D
        refine x_aloadn (x := 98) rfl rfl ?_
        refine z_getR (N := 16) (b := 106) 0 9 rfl f_0_33 rfl J rfl 12553 ⟨rfl, rfl⟩ rfl ?_
        refine x_iload (x := l6) rfl rfl ?_
        refine x_iconst (v := 1) rfl ki_1 ?_
        refine z_isub rfl rfl jk_1 (by omega) (fun v4 ev4 => ?_)
        refine z_laldQ (N := 100) rfl J rfl rfl (by omega) (fun v5 qv5 => ?_)
        have ev5 := jfullL v5
        try rw [vrdL qv5 (show (l6.toInt - 1) = v4.toInt from by omega)] at D
        refine x_lstore (lsx9 := [(10, .long v5), (9, .int s0), (0, .ref 98), (3, .int l3), (4, .ref l4), (5, .int l5), (6, .int l6), (7, .int l7), (8, .int l8)]) rfl rfl rfl ?_
        refine x_iload (x := l8) rfl rfl ?_
        refine x_ifne (tgt := 152) rfl rfl (ti_ne rfl jk_0 ⟨fun c6 => ?_, fun c6 => ?_⟩)
        ·
          rw [if_neg (by omega)] at D
          refine x_iload (x := l8) rfl rfl ?_
          refine x_bipush (v := 10) rfl kb_10 ?_
          refine x_icne (tgt := 178) rfl rfl (ti_ne rfl jk_10 ⟨fun c7 => ?_, fun c7 => ?_⟩)
          ·
            rw [if_neg (by omega)] at D
            refine x_iload (x := l8) rfl rfl ?_
            refine x_bipush (v := 11) rfl kb_11 ?_
            refine x_iceq (tgt := 192) rfl rfl (ti_eq rfl jk_11 ⟨fun c8 => ?_, fun c8 => ?_⟩)
            ·
              rw [if_pos (by omega)] at D
              exact jX.sub (jsb_c rfl (jsb_c rfl (jsb_c rfl (jsb_c rfl (jsb_c rfl (jsb_c rfl (jsb_c rfl (jsb_c rfl (jsb_c rfl jsb_n))))))))) (ct_X0_workOut_r98d_192 hD hQ k15 l3 l4 nl4 l5 l6 l7 l8 s0 v5 h (jr_of rfl (by omega)) (jr_of rfl (by omega)) (jr_of rfl (by omega)) (jr_of rfl (by omega)) (jr_of rfl (by omega)) (by omega) Tl4 (by omega) J Sm D)
            ·
              rw [if_neg (by omega)] at D
              refine x_iload (x := l8) rfl rfl ?_
              refine x_bipush (v := 12) rfl kb_12 ?_
              refine x_icne (tgt := 253) rfl rfl (ti_ne rfl jk_12 ⟨fun c9 => ?_, fun c9 => ?_⟩)
              ·
                rw [if_neg (by omega)] at D
                refine x_iload (x := l6) rfl rfl ?_
                refine x_iconst (v := 2) rfl ki_2 ?_
                refine x_icge (tgt := 265) rfl rfl (ti_ge rfl jk_2 ⟨fun c10 => ?_, fun c10 => ?_⟩)
                ·
                  rw [if_pos (by omega)] at D
                  refine x_iload (x := l8) rfl rfl ?_
                  refine x_aloadn (x := 98) rfl rfl ?_
                  refine z_getR (N := 16) (b := 106) 0 9 rfl f_0_33 rfl J rfl 12553 ⟨rfl, rfl⟩ rfl ?_
                  refine x_iload (x := l6) rfl rfl ?_
                  refine x_iconst (v := 2) rfl ki_2 ?_
                  refine z_isub rfl rfl jk_2 (by omega) (fun v11 ev11 => ?_)
                  refine z_laldQ (N := 100) rfl J rfl rfl (by omega) (fun v12 qv12 => ?_)
                  have ev12 := jfullL v12
                  try rw [vrdL qv12 (show (l6.toInt - 2) = v11.toInt from by omega)] at D
                  refine x_lload (x := v5) rfl rfl ?_
                  refine x_inst (N := m_X0_combine) (As := [.int l8, .long v12, .long v5]) (st := []) (dx9 := 2) (mc := 0) (ms := 0) (host := "") rfl t_X0_combine ⟨Or.inl q_0_202, s_X0_combine⟩ rfl (by decide) rfl rfl ⟨by decide, by decide⟩ (sf_X0_combined  hD J rfl  (fun v16 h J S13 X14 X15 => ?_))
                  have ev16 := jfullL v16
                  have Sm := jSm_tr rfl Sm S13
                  have Tl4 := jTa_m S13 Tl4
                  try rw [X14] at D
                  try rw [← X15] at D
                  show jX m_X0_workOut 4 0 0 281 [(10, .long v5), (9, .int s0), (0, .ref 98), (3, .int l3), (4, .ref l4), (5, .int l5), (6, .int l6), (7, .int l7), (8, .int l8)] [.long v16] _ 0 0 _
                  exact jX.sub (jsb_c rfl (jsb_c rfl (jsb_c rfl (jsb_c rfl (jsb_c rfl (jsb_c rfl jsb_n)))))) (ct_X0_workOut_r98d_281 hD hQ k15 l3 l4 nl4 l5 l6 l7 v16 h (jr_of rfl (by omega)) (jr_of rfl (by omega)) (jr_of rfl (by omega)) (jr_of rfl (by omega)) Tl4 (by omega) J Sm D)
                ·
                  rw [if_neg (by omega)] at D
                  refine x_ldc2 (v := (-2000000000000)) rfl z_0_193 ?_
                  refine x_goto (tgt := 281) rfl rfl ?_
                  exact jX.sub (jsb_c rfl (jsb_c rfl (jsb_c rfl (jsb_c rfl (jsb_c rfl (jsb_c rfl jsb_n)))))) (ct_X0_workOut_r98d_5000281 hD hQ k15 l3 l4 nl4 l5 l6 l7 h (jr_of rfl (by omega)) (jr_of rfl (by omega)) (jr_of rfl (by omega)) (jr_of rfl (by omega)) Tl4 (by omega) J Sm D)
              ·
                rw [if_pos (by omega)] at D
                exact jX.sub (jsb_c rfl (jsb_c rfl (jsb_c rfl (jsb_c rfl (jsb_c rfl (jsb_c rfl (jsb_c rfl (jsb_c rfl (jsb_c rfl jsb_n))))))))) (ct_X0_workOut_r98d_192 hD hQ k15 l3 l4 nl4 l5 l6 l7 l8 s0 v5 h (jr_of rfl (by omega)) (jr_of rfl (by omega)) (jr_of rfl (by omega)) (jr_of rfl (by omega)) (jr_of rfl (by omega)) (by omega) Tl4 (by omega) J Sm D)
          ·
            rw [if_pos (by omega)] at D
            refine x_aloadn (x := 98) rfl rfl ?_
            refine z_getR (N := 16) (b := 106) 0 9 rfl f_0_33 rfl J rfl 12553 ⟨rfl, rfl⟩ rfl ?_
            refine x_iload (x := l6) rfl rfl ?_
            refine x_iconst (v := 1) rfl ki_1 ?_
            refine z_isub rfl rfl jk_1 (by omega) (fun v17 ev17 => ?_)
            refine x_lconst (v := 1) rfl kl_1 ?_
            refine x_lload (x := v5) rfl rfl ?_
            refine z_lsubW rfl jkl_1 rfl (fun v18 ev18 => ?_)
            have fv18 := jfullL v18
            try rw [← ev18] at D
            refine z_last (N := 100) (l := 0) (u := 100) rfl hD J Sm rfl rfl rfl (by omega) rfl (fun h w19 J Sm => ?_)
            have Tl4 := jTa_l w19 Tl4
            rw [vwwL w19 (show (l6.toInt - 1) = v17.toInt from by omega) (show v18.toInt = v18.toInt from by omega)] at D
            refine z_iinc (x := l5) (lsx9 := fun v20 => [(5, .int v20), (10, .long v5), (9, .int s0), (0, .ref 98), (3, .int l3), (4, .ref l4), (6, .int l6), (7, .int l7), (8, .int l8)]) rfl rfl rfl jko_1 (by omega) rfl (fun _ => rfl) (fun v20 ev20 => ?_)
            refine x_goto (tgt := 313) rfl rfl ?_
            try rw [show (l5.toInt + 1) = v20.toInt from by omega] at D
            exact jX.sub (jsb_c rfl (jsb_c rfl (jsb_c rfl (jsb_c rfl (jsb_c rfl (jsb_c rfl jsb_n)))))) (ct_X0_workOut_r98d_313 hD hQ k15 l3 l4 nl4 v20 l6 l7 h (jr_of rfl (by omega)) (jr_of rfl (by omega)) (jr_of rfl (by omega)) Tl4 (by omega) J Sm D)
        ·
          rw [if_pos (by omega)] at D
          refine x_lload (x := v5) rfl rfl ?_
          refine x_lret rfl rfl ?_
          exact hQ _ _ J Sm ((congrArg Prod.fst D).symm.trans (show v5.toInt = v5.toInt from by omega)) (congrArg Prod.snd D).symm
      ·
        rw [if_neg (by omega)] at D
        refine x_ldc2 (v := (-2000000000000)) rfl z_0_193 ?_
        refine x_lret rfl rfl ?_
        exact hQ _ _ J Sm ((congrArg Prod.fst D).symm.trans (show (-2000000000000) = ((-2000000000000) : Int64).toInt from by have := jkl_m2000000000000; omega)) (congrArg Prod.snd D).symm
    ·
      rw [if_pos (by omega)] at D
      exact jX.sub (jsb_c rfl (jsb_c rfl (jsb_c rfl (jsb_c rfl (jsb_c rfl (jsb_c rfl (jsb_c rfl (jsb_c rfl jsb_n)))))))) (ct_X0_workOut_r98d_88 hD hQ k15 l3 l4 nl4 l5 l6 l7 l8 s0 h (jr_of rfl (by omega)) (jr_of rfl (by omega)) (jr_of rfl (by omega)) (jr_of rfl (by omega)) (jr_of rfl (by omega)) Tl4 (by omega) J Sm D)
set_option maxRecDepth 100000 in
set_option maxHeartbeats 4000000 in
theorem ct_X0_workOut_r98d_15 {Dy : jH → Prop} {h0 : jH} {Q : Option Value → jH → Prop} {dr : (Int × jW)} (hD : jDk Dy) (hQ : ∀ (v : Int64) hx9, jJ jSgX Dy hx9 → jSm fp_X0_workOut_r98d h0 hx9 → dr.1 = v.toInt → dr.2 = vw hx9 → Q (some (.long v)) hx9) : ∀ r : Nat, ∀ (l3 : Int32) (l4 : Nat) (nl4 : Nat) (l5 : Int32) (l6 : Int32) (l7 : Int32) (h : jH), 1200 - l7.toInt < (r : Int) → (-1) ≤ l3.toInt ∧ l3.toInt ≤ 599 → 0 ≤ l6.toInt ∧ l6.toInt ≤ 100 → 0 ≤ l7.toInt ∧ l7.toInt ≤ 1200 → jTa h l4 nl4 → jJ jSgX Dy h → jSm fp_X0_workOut_r98d h0 h → d_X0_workOut_r98d_15 r l3.toInt l4 l5.toInt l6.toInt l7.toInt (vw h) = dr → jX m_X0_workOut 4 0 0 15 [(0, .ref 98), (3, .int l3), (4, .ref l4), (5, .int l5), (6, .int l6), (7, .int l7)] [] h 0 0 Q := by
  intro r
  induction r with
  | zero =>
    intro l3 l4 nl4 l5 l6 l7 h hm y0 y1 y2 Tl4   J Sm D
    exfalso
    have el5 := jfull l5
    omega
  | succ r ih =>
    intro l3 l4 nl4 l5 l6 l7 h hm y0 y1 y2 Tl4   J Sm D
    have el5 := jfull l5
    rw [d_X0_workOut_r98d_15.eq_2] at D
    refine x_iload (x := l7) rfl rfl ?_
    refine x_aload (x := l4) rfl rfl ?_
    refine z_alenT rfl Tl4 (fun v1 ev1 => ?_)
    try rw [vsh Tl4.2.2.1 ev1.1] at D
    refine x_icge (tgt := 319) rfl rfl (ti_ge rfl rfl ⟨fun c2 => ?_, fun c2 => ?_⟩)
    ·
      rw [if_pos (by omega)] at D
      exact jX.sub jsb_n (ct_X0_workOut_r98d_319 hD hQ  h J Sm D)
    ·
      rw [if_neg (by omega)] at D
      refine x_iload (x := l5) rfl rfl ?_
      refine x_iflt (tgt := 319) rfl rfl (ti_lt rfl jk_0 ⟨fun c3 => ?_, fun c3 => ?_⟩)
      ·
        rw [if_pos (by omega)] at D
        exact jX.sub jsb_n (ct_X0_workOut_r98d_319 hD hQ  h J Sm D)
      ·
        rw [if_neg (by omega)] at D
        refine x_iload (x := l5) rfl rfl ?_
        refine x_aload (x := l4) rfl rfl ?_
        refine z_alenT rfl Tl4 (fun v4 ev4 => ?_)
        try rw [vsh Tl4.2.2.1 ev4.1] at D
        refine x_icge (tgt := 319) rfl rfl (ti_ge rfl rfl ⟨fun c5 => ?_, fun c5 => ?_⟩)
        ·
          rw [if_pos (by omega)] at D
          exact jX.sub jsb_n (ct_X0_workOut_r98d_319 hD hQ  h J Sm D)
        ·
          rw [if_neg (by omega)] at D
          refine x_iload (x := l6) rfl rfl ?_
          refine x_aloadn (x := 98) rfl rfl ?_
          refine z_getR (N := 16) (b := 106) 0 9 rfl f_0_33 rfl J rfl 12553 ⟨rfl, rfl⟩ rfl ?_
          refine z_alen (N := 100) (v := 100) rfl J rfl rfl (by decide) ?_
          refine x_icge (tgt := 319) rfl rfl (ti_ge rfl jk_100 ⟨fun c6 => ?_, fun c6 => ?_⟩)
          ·
            rw [if_pos (by omega)] at D
            exact jX.sub jsb_n (ct_X0_workOut_r98d_319 hD hQ  h J Sm D)
          ·
            rw [if_neg (by omega)] at D
            refine x_aload (x := l4) rfl rfl ?_
            refine x_iload (x := l5) rfl rfl ?_
            refine z_ialdTD rfl Tl4 rfl (by omega) (fun v7 qv7 => ?_)
            have ev7 := jfull v7
            try rw [vrd qv7 (show l5.toInt = l5.toInt from by omega)] at D
            refine x_istore (lsx9 := [(8, .int v7), (0, .ref 98), (3, .int l3), (4, .ref l4), (5, .int l5), (6, .int l6), (7, .int l7)]) rfl rfl rfl ?_
            refine x_iload (x := l5) rfl rfl ?_
            refine x_iconst (v := 1) rfl ki_1 ?_
            refine z_iadd rfl rfl jk_1 (by omega) (fun v8 ev8 => ?_)
            refine x_aload (x := l4) rfl rfl ?_
            refine z_alenT rfl Tl4 (fun v9 ev9 => ?_)
            try rw [vsh Tl4.2.2.1 ev9.1] at D
            refine x_icge (tgt := 73) rfl rfl (ti_ge rfl rfl ⟨fun c10 => ?_, fun c10 => ?_⟩)
            ·
              rw [if_pos (by omega)] at D
              refine x_iconst (v := 0) rfl ki_0 ?_
              exact jX.sub (jsb_c rfl (jsb_c rfl (jsb_c rfl (jsb_c rfl (jsb_c rfl (jsb_c rfl (jsb_c rfl jsb_n))))))) (ct_X0_workOut_r98d_200074 hD hQ ih l3 l4 nl4 l5 l6 l7 v7 h (jr_of rfl (by omega)) (jr_of rfl (by omega)) (jr_of rfl (by omega)) (jr_of rfl (by omega)) Tl4 (by omega) J Sm D)
            ·
              rw [if_neg (by omega)] at D
              refine x_aload (x := l4) rfl rfl ?_
              refine x_iload (x := l5) rfl rfl ?_
              refine x_iconst (v := 1) rfl ki_1 ?_
              refine z_iadd rfl rfl jk_1 (by omega) (fun v11 ev11 => ?_)
              refine z_ialdTD rfl Tl4 rfl (by omega) (fun v12 qv12 => ?_)
              have ev12 := jfull v12
              try rw [vrd qv12 (show (l5.toInt + 1) = v11.toInt from by omega)] at D
              refine x_goto (tgt := 74) rfl rfl ?_
              exact jX.sub (jsb_c rfl (jsb_c rfl (jsb_c rfl (jsb_c rfl (jsb_c rfl (jsb_c rfl (jsb_c rfl jsb_n))))))) (ct_X0_workOut_r98d_74 hD hQ ih l3 l4 nl4 l5 l6 l7 v7 v12 h (jr_of rfl (by omega)) (jr_of rfl (by omega)) (jr_of rfl (by omega)) (jr_of rfl (by omega)) Tl4 (by omega) J Sm D)
set_option maxRecDepth 100000 in
set_option maxHeartbeats 4000000 in
theorem sf_X0_workOut_r98d {Dy : jH → Prop} {h : jH} {Q : Option Value → jH → Prop} {dr : (Int × jW)} {a1 : Int32} {a2 : Int32} {t1 : Nat} (y2 : (-1) ≤ a2.toInt ∧ a2.toInt ≤ 599) (hD : jDk Dy) (J : jJ jSgX Dy h) (Tt1 : jTx h t1) (D : d_X0_workOut_r98d t1 a1.toInt a2.toInt (vw h) = dr) (hQ : ∀ (v : Int64) hx9, jJ jSgX Dy hx9 → jSm fp_X0_workOut_r98d h hx9 → dr.1 = v.toInt → dr.2 = vw hx9 → Q (some (.long v)) hx9) : jC m_X0_workOut 4 0 0 [.ref 98, .ref t1, .int a1, .int a2] h Q := by
  refine jC.of rfl k_X0_workOut rfl ?_
  have Sm := jSm_rf fp_X0_workOut_r98d h
  have ea1 := jfull a1
  show jX m_X0_workOut 4 0 0 0 [(0, .ref 98), (1, .ref t1), (2, .int a1), (3, .int a2)] [] _ 0 0 _
  unfold d_X0_workOut_r98d at D
  refine x_aloadn (x := t1) rfl rfl ?_
  refine z_getTrD rfl f_0_195 Tt1 (fun b1 nb2 qb1 Tb1 => ?_)
  try rw [vrr qb1] at D
  refine x_astore (lsx9 := [(4, .ref b1), (0, .ref 98), (1, .ref t1), (2, .int a1), (3, .int a2)]) rfl rfl rfl ?_
  refine x_iloadn (x := a1) rfl rfl ?_
  refine x_istore (lsx9 := [(5, .int a1), (4, .ref b1), (0, .ref 98), (1, .ref t1), (2, .int a1), (3, .int a2)]) rfl rfl rfl ?_
  refine x_iconst (v := 0) rfl ki_0 ?_
  refine x_istore (lsx9 := [(6, .int 0), (5, .int a1), (4, .ref b1), (0, .ref 98), (1, .ref t1), (2, .int a1), (3, .int a2)]) rfl rfl rfl ?_
  refine x_iconst (v := 0) rfl ki_0 ?_
  refine x_istore (lsx9 := [(7, .int 0), (6, .int 0), (5, .int a1), (4, .ref b1), (0, .ref 98), (1, .ref t1), (2, .int a1), (3, .int a2)]) rfl rfl rfl ?_
  exact jX.sub (jsb_c rfl (jsb_c rfl (jsb_c rfl (jsb_c rfl (jsb_c rfl (jsb_c rfl jsb_n)))))) (ct_X0_workOut_r98d_15 hD hQ  1201 a2 b1 nb2 a1 0 0 h (by have := jk_0; omega) (jr_of rfl (by omega)) (jr_of jk_0 (by omega)) (jr_of jk_0 (by omega)) Tb1 J Sm (by rw [jk_0]; exact D))
def fp_X0_holdsFor_r98d : jFp := [(85, 0, 4), (98, 12, 13), (106, 0, 100)]
set_option maxRecDepth 100000 in
set_option maxHeartbeats 4000000 in
theorem ct_X0_holdsFor_r98d_38 {Dy : jH → Prop} {h0 : jH} {Q : Option Value → jH → Prop} {dr : (Int × jW)} (hD : jDk Dy) (hQ : ∀ (v : Int32) hx9, 0 ≤ v.toInt ∧ v.toInt ≤ 1 → jJ jSgX Dy hx9 → jSm fp_X0_holdsFor_r98d h0 hx9 → dr.1 = v.toInt → dr.2 = vw hx9 → Q (some (.int v)) hx9) : ∀ (h : jH), jJ jSgX Dy h → jSm fp_X0_holdsFor_r98d h0 h → d_X0_holdsFor_r98d_38  (vw h) = dr → jX m_X0_holdsFor 5 0 0 38 [] [] h 0 0 Q := by
  intro  h    J Sm D
  unfold d_X0_holdsFor_r98d_38 at D
  refine x_iconst (v := 0) rfl ki_0 ?_
  refine x_zret rfl rfl (by decide) ?_
  exact hQ _ _ (jr_of jk_0 (by omega)) J Sm ((congrArg Prod.fst D).symm.trans (show 0 = (0 : Int32).toInt from by have := jk_0; omega)) (congrArg Prod.snd D).symm
set_option maxRecDepth 100000 in
set_option maxHeartbeats 4000000 in
theorem ct_X0_holdsFor_r98d_200146 {Dy : jH → Prop} {h0 : jH} {Q : Option Value → jH → Prop} {dr : (Int × jW)} (hD : jDk Dy) (hQ : ∀ (v : Int32) hx9, 0 ≤ v.toInt ∧ v.toInt ≤ 1 → jJ jSgX Dy hx9 → jSm fp_X0_holdsFor_r98d h0 hx9 → dr.1 = v.toInt → dr.2 = vw hx9 → Q (some (.int v)) hx9) : ∀ (h : jH), jJ jSgX Dy h → jSm fp_X0_holdsFor_r98d h0 h → d_X0_holdsFor_r98d_200146  (vw h) = dr → jX m_X0_holdsFor 5 0 0 146 [] [.int 0] h 0 0 Q := by
  intro  h    J Sm D
  unfold d_X0_holdsFor_r98d_200146 at D
  refine x_zret rfl rfl (by decide) ?_
  exact hQ _ _ (jr_of jk_0 (by omega)) J Sm ((congrArg Prod.fst D).symm.trans (show 0 = (0 : Int32).toInt from by have := jk_0; omega)) (congrArg Prod.snd D).symm
set_option maxRecDepth 100000 in
set_option maxHeartbeats 4000000 in
theorem ct_X0_holdsFor_r98d_300146 {Dy : jH → Prop} {h0 : jH} {Q : Option Value → jH → Prop} {dr : (Int × jW)} (hD : jDk Dy) (hQ : ∀ (v : Int32) hx9, 0 ≤ v.toInt ∧ v.toInt ≤ 1 → jJ jSgX Dy hx9 → jSm fp_X0_holdsFor_r98d h0 hx9 → dr.1 = v.toInt → dr.2 = vw hx9 → Q (some (.int v)) hx9) : ∀ (h : jH), jJ jSgX Dy h → jSm fp_X0_holdsFor_r98d h0 h → d_X0_holdsFor_r98d_300146  (vw h) = dr → jX m_X0_holdsFor 5 0 0 146 [] [.int 1] h 0 0 Q := by
  intro  h    J Sm D
  unfold d_X0_holdsFor_r98d_300146 at D
  refine x_zret rfl rfl (by decide) ?_
  exact hQ _ _ (jr_of jk_1 (by omega)) J Sm ((congrArg Prod.fst D).symm.trans (show 1 = (1 : Int32).toInt from by have := jk_1; omega)) (congrArg Prod.snd D).symm
set_option maxRecDepth 100000 in
set_option maxHeartbeats 4000000 in
theorem ct_X0_holdsFor_r98d_130 {Dy : jH → Prop} {h0 : jH} {Q : Option Value → jH → Prop} {dr : (Int × jW)} (hD : jDk Dy) (hQ : ∀ (v : Int32) hx9, 0 ≤ v.toInt ∧ v.toInt ≤ 1 → jJ jSgX Dy hx9 → jSm fp_X0_holdsFor_r98d h0 hx9 → dr.1 = v.toInt → dr.2 = vw hx9 → Q (some (.int v)) hx9) : ∀ (h : jH), jJ jSgX Dy h → jSm fp_X0_holdsFor_r98d h0 h → d_X0_holdsFor_r98d_130  (vw h) = dr → jX m_X0_holdsFor 5 0 0 130 [(0, .ref 98)] [] h 0 0 Q := by
  intro  h    J Sm D
  unfold d_X0_holdsFor_r98d_130 at D
  refine x_aloadn (x := 98) rfl rfl ?_
  refine z_getLQ (N := 16) 0 12 rfl f_0_44 rfl J rfl (fun v1 qv1 => ?_)
  have ev1 := jfullL v1
  try rw [vrfL qv1] at D
  refine x_ldc2 (v := (-2000000000000)) rfl z_0_193 ?_
  refine z_lcmp rfl rfl jkl_m2000000000000 (fun v2 ev2 => ?_)
  refine x_ifeq (tgt := 145) rfl rfl (ti_eq rfl jk_0 ⟨fun c3 => ?_, fun c3 => ?_⟩)
  ·
    rw [if_pos (by omega)] at D
    refine x_iconst (v := 0) rfl ki_0 ?_
    exact jX.sub jsb_n (ct_X0_holdsFor_r98d_200146 hD hQ  h J Sm D)
  ·
    rw [if_neg (by omega)] at D
    refine x_iconst (v := 1) rfl ki_1 ?_
    refine x_goto (tgt := 146) rfl rfl ?_
    exact jX.sub jsb_n (ct_X0_holdsFor_r98d_300146 hD hQ  h J Sm D)
set_option maxRecDepth 100000 in
set_option maxHeartbeats 4000000 in
theorem ct_X0_holdsFor_r98d_102 {Dy : jH → Prop} {h0 : jH} {Q : Option Value → jH → Prop} {dr : (Int × jW)} (hD : jDk Dy) (hQ : ∀ (v : Int32) hx9, 0 ≤ v.toInt ∧ v.toInt ≤ 1 → jJ jSgX Dy hx9 → jSm fp_X0_holdsFor_r98d h0 hx9 → dr.1 = v.toInt → dr.2 = vw hx9 → Q (some (.int v)) hx9) : ∀ (l2 : Int32) (l3 : Int32) (l4 : Nat) (h : jH), 0 ≤ l2.toInt ∧ l2.toInt ≤ 11 → (-1) ≤ l3.toInt ∧ l3.toInt ≤ 599 → jTx h l4 → jJ jSgX Dy h → jSm fp_X0_holdsFor_r98d h0 h → d_X0_holdsFor_r98d_102  l2.toInt l3.toInt l4 (vw h) = dr → jX m_X0_holdsFor 5 0 0 102 [(0, .ref 98), (2, .int l2), (3, .int l3), (4, .ref l4)] [] h 0 0 Q := by
  intro l2 l3 l4 h y0 y1 Tl4   J Sm D
  unfold d_X0_holdsFor_r98d_102 at D
  refine x_aload (x := l4) rfl rfl ?_
  refine x_iloadn (x := l2) rfl rfl ?_
  refine x_iconst (v := 3) rfl ki_3 ?_
  refine x_inv (N := m_X10_head) (As := [.int l2, .int 3]) (b := l4) (st := []) (dx9 := 1) (mc := 0) (ms := 0) (host := "") 10 rfl t_X10_head ⟨Or.inl q_0_111, i_X10_head.1, i_X10_head.2⟩ ⟨by decide, rfl⟩ (congrArg Prod.fst Tl4.1.2.2) rfl (by decide) rfl rfl ⟨by decide, by decide⟩ (c_headD Tl4 rfl jk_3 (fun v1 ev1 => ?_))
  have fv1 := jfull v1
  try rw [← ev1] at D
  show jX m_X0_holdsFor 5 0 0 109 [(0, .ref 98), (2, .int l2), (3, .int l3), (4, .ref l4)] [.int v1] _ 0 0 _
  refine x_istore (lsx9 := [(5, .int v1), (0, .ref 98), (2, .int l2), (3, .int l3), (4, .ref l4)]) rfl rfl rfl ?_
  refine x_iload (x := v1) rfl rfl ?_
  refine x_iconst (v := (-1)) rfl ki_m1 ?_
  refine x_iceq (tgt := 130) rfl rfl (ti_eq rfl jk_m1 ⟨fun c2 => ?_, fun c2 => ?_⟩)
  ·
    rw [if_pos (by omega)] at D
    exact jX.sub (jsb_c rfl jsb_n) (ct_X0_holdsFor_r98d_130 hD hQ  h J Sm D)
  ·
    rw [if_neg (by omega)] at D
    refine x_aloadn (x := 98) rfl rfl ?_
    refine x_aloadn (x := 98) rfl rfl ?_
    refine x_aload (x := l4) rfl rfl ?_
    refine x_iload (x := v1) rfl rfl ?_
    refine x_iloadn (x := l3) rfl rfl ?_
    refine x_inv (N := m_X0_workOut) (As := [.ref l4, .int v1, .int l3]) (b := 98) (st := [.ref 98]) (dx9 := 4) (mc := 0) (ms := 0) (host := "") 0 rfl t_X0_workOut ⟨Or.inl q_0_189, i_X0_workOut.1, i_X0_workOut.2⟩ ⟨by decide, rfl⟩ (congrArg Prod.fst (J.1.1 98 (0, 16) rfl)) rfl (by decide) rfl rfl ⟨by decide, by decide⟩ (sf_X0_workOut_r98d (jr_of rfl (by omega)) hD J Tl4 rfl  (fun v6 h J S3 X4 X5 => ?_))
    have ev6 := jfullL v6
    have Sm := jSm_tr rfl Sm S3
    have Tl4 := jTx_m S3 rfl Tl4
    try rw [X4] at D
    try rw [X5] at D
    show jX m_X0_holdsFor 5 0 0 127 [(5, .int v1), (0, .ref 98), (2, .int l2), (3, .int l3), (4, .ref l4)] [.long v6, .ref 98] _ 0 0 _
    refine z_putL (N := 16) 0 12 rfl f_0_44 rfl (jfin_no TX0 RX0 16 rfl rfl) hD J Sm rfl rfl rfl (fun h w7 J Sm => ?_)
    have Tl4 := jTx_l w7 rfl Tl4
    rw [vwfL w7 (show v6.toInt = v6.toInt from by omega)] at D
    exact jX.sub (jsb_c rfl jsb_n) (ct_X0_holdsFor_r98d_130 hD hQ  h J Sm D)
set_option maxRecDepth 100000 in
set_option maxHeartbeats 4000000 in
theorem ct_X0_holdsFor_r98d_71 {Dy : jH → Prop} {h0 : jH} {Q : Option Value → jH → Prop} {dr : (Int × jW)} (hD : jDk Dy) (hQ : ∀ (v : Int32) hx9, 0 ≤ v.toInt ∧ v.toInt ≤ 1 → jJ jSgX Dy hx9 → jSm fp_X0_holdsFor_r98d h0 hx9 → dr.1 = v.toInt → dr.2 = vw hx9 → Q (some (.int v)) hx9) : ∀ (l2 : Int32) (l3 : Int32) (l4 : Nat) (h : jH), 0 ≤ l2.toInt ∧ l2.toInt ≤ 11 → (-1) ≤ l3.toInt ∧ l3.toInt ≤ 599 → jTx h l4 → jJ jSgX Dy h → jSm fp_X0_holdsFor_r98d h0 h → d_X0_holdsFor_r98d_71  l2.toInt l3.toInt l4 (vw h) = dr → jX m_X0_holdsFor 5 0 0 71 [(0, .ref 98), (2, .int l2), (3, .int l3), (4, .ref l4)] [] h 0 0 Q := by
  intro l2 l3 l4 h y0 y1 Tl4   J Sm D
  unfold d_X0_holdsFor_r98d_71 at D
  refine x_aload (x := l4) rfl rfl ?_
  refine x_iloadn (x := l2) rfl rfl ?_
  refine x_iconst (v := 5) rfl ki_5 ?_
  refine x_inv (N := m_X10_head) (As := [.int l2, .int 5]) (b := l4) (st := []) (dx9 := 1) (mc := 0) (ms := 0) (host := "") 10 rfl t_X10_head ⟨Or.inl q_0_111, i_X10_head.1, i_X10_head.2⟩ ⟨by decide, rfl⟩ (congrArg Prod.fst Tl4.1.2.2) rfl (by decide) rfl rfl ⟨by decide, by decide⟩ (c_headD Tl4 rfl jk_5 (fun v1 ev1 => ?_))
  have fv1 := jfull v1
  try rw [← ev1] at D
  show jX m_X0_holdsFor 5 0 0 78 [(0, .ref 98), (2, .int l2), (3, .int l3), (4, .ref l4)] [.int v1] _ 0 0 _
  refine x_istore (lsx9 := [(5, .int v1), (0, .ref 98), (2, .int l2), (3, .int l3), (4, .ref l4)]) rfl rfl rfl ?_
  refine x_iload (x := v1) rfl rfl ?_
  refine x_iconst (v := (-1)) rfl ki_m1 ?_
  refine x_iceq (tgt := 102) rfl rfl (ti_eq rfl jk_m1 ⟨fun c2 => ?_, fun c2 => ?_⟩)
  ·
    rw [if_pos (by omega)] at D
    exact jX.sub (jsb_c rfl (jsb_c rfl (jsb_c rfl (jsb_c rfl jsb_n)))) (ct_X0_holdsFor_r98d_102 hD hQ  l2 l3 l4 h (jr_of rfl (by omega)) (jr_of rfl (by omega)) Tl4 J Sm D)
  ·
    rw [if_neg (by omega)] at D
    refine x_aloadn (x := 98) rfl rfl ?_
    refine x_aload (x := l4) rfl rfl ?_
    refine x_iload (x := v1) rfl rfl ?_
    refine x_iloadn (x := l3) rfl rfl ?_
    refine x_inv (N := m_X0_workOut) (As := [.ref l4, .int v1, .int l3]) (b := 98) (st := []) (dx9 := 4) (mc := 0) (ms := 0) (host := "") 0 rfl t_X0_workOut ⟨Or.inl q_0_189, i_X0_workOut.1, i_X0_workOut.2⟩ ⟨by decide, rfl⟩ (congrArg Prod.fst (J.1.1 98 (0, 16) rfl)) rfl (by decide) rfl rfl ⟨by decide, by decide⟩ (sf_X0_workOut_r98d (jr_of rfl (by omega)) hD J Tl4 rfl  (fun v6 h J S3 X4 X5 => ?_))
    have ev6 := jfullL v6
    have Sm := jSm_tr rfl Sm S3
    have Tl4 := jTx_m S3 rfl Tl4
    try rw [X4] at D
    try rw [X5] at D
    show jX m_X0_holdsFor 5 0 0 95 [(5, .int v1), (0, .ref 98), (2, .int l2), (3, .int l3), (4, .ref l4)] [.long v6] _ 0 0 _
    refine x_lconst (v := 0) rfl kl_0 ?_
    refine z_lcmp rfl rfl jkl_0 (fun v7 ev7 => ?_)
    refine x_ifeq (tgt := 102) rfl rfl (ti_eq rfl jk_0 ⟨fun c8 => ?_, fun c8 => ?_⟩)
    ·
      rw [if_pos (by omega)] at D
      exact jX.sub (jsb_c rfl (jsb_c rfl (jsb_c rfl (jsb_c rfl jsb_n)))) (ct_X0_holdsFor_r98d_102 hD hQ  l2 l3 l4 h (jr_of rfl (by omega)) (jr_of rfl (by omega)) Tl4 J Sm D)
    ·
      rw [if_neg (by omega)] at D
      refine x_iconst (v := 0) rfl ki_0 ?_
      refine x_zret rfl rfl (by decide) ?_
      exact hQ _ _ (jr_of jk_0 (by omega)) J Sm ((congrArg Prod.fst D).symm.trans (show 0 = (0 : Int32).toInt from by have := jk_0; omega)) (congrArg Prod.snd D).symm
set_option maxRecDepth 100000 in
set_option maxHeartbeats 4000000 in
theorem sf_X0_holdsFor_r98d {Dy : jH → Prop} {h : jH} {Q : Option Value → jH → Prop} {dr : (Int × jW)} {a1 : Int32} {a2 : Int32} {a3 : Int32} (y1 : 0 ≤ a1.toInt ∧ a1.toInt ≤ 29) (y2 : 0 ≤ a2.toInt ∧ a2.toInt ≤ 11) (y3 : (-1) ≤ a3.toInt ∧ a3.toInt ≤ 599) (hD : jDk Dy) (J : jJ jSgX Dy h) (D : d_X0_holdsFor_r98d a1.toInt a2.toInt a3.toInt (vw h) = dr) (hQ : ∀ (v : Int32) hx9, 0 ≤ v.toInt ∧ v.toInt ≤ 1 → jJ jSgX Dy hx9 → jSm fp_X0_holdsFor_r98d h hx9 → dr.1 = v.toInt → dr.2 = vw hx9 → Q (some (.int v)) hx9) : jC m_X0_holdsFor 5 0 0 [.ref 98, .int a1, .int a2, .int a3] h Q := by
  refine jC.of rfl k_X0_holdsFor rfl ?_
  have Sm := jSm_rf fp_X0_holdsFor_r98d h
  show jX m_X0_holdsFor 5 0 0 0 [(0, .ref 98), (1, .int a1), (2, .int a2), (3, .int a3)] [] _ 0 0 _
  unfold d_X0_holdsFor_r98d at D
  refine x_aloadn (x := 98) rfl rfl ?_
  refine x_lconst (v := 0) rfl kl_0 ?_
  refine z_putL (N := 16) 0 12 rfl f_0_44 rfl (jfin_no TX0 RX0 16 rfl rfl) hD J Sm rfl rfl rfl (fun h w1 J Sm => ?_)
  rw [vwfL w1 (show 0 = (0 : Int64).toInt from by have := jkl_0; omega)] at D
  refine x_aloadn (x := 98) rfl rfl ?_
  refine x_iloadn (x := a1) rfl rfl ?_
  refine x_inv (N := m_X0_textAt) (As := [.int a1]) (b := 98) (st := []) (dx9 := 4) (mc := 0) (ms := 0) (host := "") 0 rfl t_X0_textAt ⟨Or.inl q_0_94, i_X0_textAt.1, i_X0_textAt.2⟩ ⟨by decide, rfl⟩ (congrArg Prod.fst (J.1.1 98 (0, 16) rfl)) rfl (by decide) rfl rfl ⟨by decide, by decide⟩ (jC.of rfl k_X0_textAt rfl ?_)
  show jX m_X0_textAt 4 0 0 0 [(0, .ref 98), (1, .int a1)] [] _ 0 0 _
  refine x_iloadn (x := a1) rfl rfl ?_
  refine x_iflt (tgt := 33) rfl rfl (ti_lt rfl jk_0 (br_f (by omega) ?_))
  refine x_iloadn (x := a1) rfl rfl ?_
  refine x_aloadn (x := 98) rfl rfl ?_
  refine z_getR (N := 16) (b := 32) 0 0 rfl f_0_57 rfl J rfl 12544 ⟨rfl, rfl⟩ rfl ?_
  refine z_getI (N := 20) 1 18 rfl f_0_72 rfl J rfl sg_32_18_19_1_0_1 (fun v2 qv2 ev2 => ?_)
  try rw [vrf (jmb_l w1 qv2)] at D
  refine x_icge (tgt := 33) rfl rfl (ti_ge rfl rfl ⟨fun c3 => ?_, fun c3 => ?_⟩)
  ·
    rw [if_pos (by omega)] at D
    refine x_null rfl ?_
    refine x_aret rfl rfl rfl (Or.inl rfl) ?_
    show jX m_X0_holdsFor 5 0 0 10 [(0, .ref 98), (1, .int a1), (2, .int a2), (3, .int a3)] [.null] _ 0 0 _
    refine x_astoreN (lsx9 := [(4, .null), (0, .ref 98), (1, .int a1), (2, .int a2), (3, .int a3)]) rfl rfl rfl ?_
    refine x_aloadN rfl rfl ?_
    refine x_ifnullN (tgt := 38) rfl rfl ?_
    exact jX.sub jsb_n (ct_X0_holdsFor_r98d_38 hD hQ  h J Sm D)
  ·
    rw [if_neg (by omega)] at D
    refine x_iloadn (x := a1) rfl rfl ?_
    refine x_bipush (v := 30) rfl kb_30 ?_
    refine x_icge (tgt := 33) rfl rfl (ti_ge rfl jk_30 (br_f (by omega) ?_))
    refine x_aloadn (x := 98) rfl rfl ?_
    refine z_getR (N := 16) (b := 32) 0 0 rfl f_0_57 rfl J rfl 12544 ⟨rfl, rfl⟩ rfl ?_
    refine z_getR (N := 20) (b := 66) 1 17 rfl f_0_77 rfl J rfl 4113 ⟨rfl, rfl⟩ rfl ?_
    refine x_iloadn (x := a1) rfl rfl ?_
    refine z_aaldTD rfl hD J rfl rfl (by omega) ⟨fun qb4 => ?_, fun b4 qb4 Tb4 => ?_⟩
    ·
      rw [if_pos (vnn qb4 (show a1.toInt = a1.toInt from by omega))] at D
      refine x_goto (tgt := 34) rfl rfl ?_
      refine x_aret rfl rfl rfl (Or.inl rfl) ?_
      show jX m_X0_holdsFor 5 0 0 10 [(0, .ref 98), (1, .int a1), (2, .int a2), (3, .int a3)] [.null] _ 0 0 _
      refine x_astoreN (lsx9 := [(4, .null), (0, .ref 98), (1, .int a1), (2, .int a2), (3, .int a3)]) rfl rfl rfl ?_
      refine x_aloadN rfl rfl ?_
      refine x_ifnullN (tgt := 38) rfl rfl ?_
      exact jX.sub jsb_n (ct_X0_holdsFor_r98d_38 hD hQ  h J Sm D)
    ·
      rw [if_neg (vns qb4 (show a1.toInt = a1.toInt from by omega))] at D
      try rw [vrs qb4 (show a1.toInt = a1.toInt from by omega)] at D
      refine x_goto (tgt := 34) rfl rfl ?_
      refine x_aret rfl rfl rfl (Or.inr ⟨_, rfl⟩) ?_
      show jX m_X0_holdsFor 5 0 0 10 [(0, .ref 98), (1, .int a1), (2, .int a2), (3, .int a3)] [.ref b4] _ 0 0 _
      refine x_astore (lsx9 := [(4, .ref b4), (0, .ref 98), (1, .int a1), (2, .int a2), (3, .int a3)]) rfl rfl rfl ?_
      refine x_aload (x := b4) rfl rfl ?_
      refine x_ifnull rfl ?_
      refine x_aloadn (x := 98) rfl rfl ?_
      refine x_iloadn (x := a1) rfl rfl ?_
      refine x_iloadn (x := a2) rfl rfl ?_
      refine x_inv (N := m_X0_isInForce) (As := [.int a1, .int a2]) (b := 98) (st := []) (dx9 := 4) (mc := 0) (ms := 0) (host := "") 0 rfl t_X0_isInForce ⟨Or.inl q_0_116, i_X0_isInForce.1, i_X0_isInForce.2⟩ ⟨by decide, rfl⟩ (congrArg Prod.fst (J.1.1 98 (0, 16) rfl)) rfl (by decide) rfl rfl ⟨by decide, by decide⟩ (jC.of rfl k_X0_isInForce rfl ?_)
      show jX m_X0_isInForce 4 0 0 0 [(0, .ref 98), (1, .int a1), (2, .int a2)] [] _ 0 0 _
      refine x_iloadn (x := a1) rfl rfl ?_
      refine x_iflt (tgt := 39) rfl rfl (ti_lt rfl jk_0 (br_f (by omega) ?_))
      refine x_iloadn (x := a1) rfl rfl ?_
      refine x_bipush (v := 30) rfl kb_30 ?_
      refine x_icge (tgt := 39) rfl rfl (ti_ge rfl jk_30 (br_f (by omega) ?_))
      refine x_iloadn (x := a1) rfl rfl ?_
      refine x_aloadn (x := 98) rfl rfl ?_
      refine z_getR (N := 16) (b := 32) 0 0 rfl f_0_57 rfl J rfl 12544 ⟨rfl, rfl⟩ rfl ?_
      refine z_getM (N := 20) (v := v2) 1 18 rfl f_0_72 rfl J rfl qv2 ?_
      refine x_icge (tgt := 39) rfl rfl (ti_ge rfl rfl ⟨fun c5 => ?_, fun c5 => ?_⟩)
      ·
        rw [if_pos (by omega)] at D
        refine x_iconst (v := 0) rfl ki_0 ?_
        refine x_zret rfl rfl (by decide) ?_
        show jX m_X0_holdsFor 5 0 0 23 [(4, .ref b4), (0, .ref 98), (1, .int a1), (2, .int a2), (3, .int a3)] [.int 0] _ 0 0 _
        refine x_ifeq (tgt := 38) rfl rfl (ti_eq jk_0 jk_0 (br_t (by omega) ?_))
        exact jX.sub jsb_n (ct_X0_holdsFor_r98d_38 hD hQ  h J Sm D)
      ·
        rw [if_neg (by omega)] at D
        refine x_aloadn (x := 98) rfl rfl ?_
        refine z_getR (N := 16) (b := 99) 0 2 rfl f_0_9 rfl J rfl 12546 ⟨rfl, rfl⟩ rfl ?_
        refine x_iloadn (x := a1) rfl rfl ?_
        refine z_iald0 (N := 30) rfl J rfl rfl (by omega) (fun v6 qv6 => ?_)
        have ev6 := jfull v6
        try rw [vrd (jmb_l w1 qv6) (show a1.toInt = a1.toInt from by omega)] at D
        refine x_iloadn (x := a2) rfl rfl ?_
        refine z_ishrW rfl rfl rfl (fun v7 ev7 => ?_)
        have fv7 := jfull v7
        try rw [← ev7] at D
        refine x_iconst (v := 1) rfl ki_1 ?_
        refine z_iandQ rfl rfl jk_1 (by decide) (fun v8 ev8 => ?_)
        try rw [← ev8.1] at D
        refine x_iconst (v := 1) rfl ki_1 ?_
        refine x_icne (tgt := 39) rfl rfl (ti_ne rfl jk_1 ⟨fun c9 => ?_, fun c9 => ?_⟩)
        ·
          rw [if_neg (by omega)] at D
          refine x_iconst (v := 0) rfl ki_0 ?_
          refine x_zret rfl rfl (by decide) ?_
          show jX m_X0_holdsFor 5 0 0 23 [(4, .ref b4), (0, .ref 98), (1, .int a1), (2, .int a2), (3, .int a3)] [.int 0] _ 0 0 _
          refine x_ifeq (tgt := 38) rfl rfl (ti_eq jk_0 jk_0 (br_t (by omega) ?_))
          exact jX.sub jsb_n (ct_X0_holdsFor_r98d_38 hD hQ  h J Sm D)
        ·
          rw [if_pos (by omega)] at D
          refine x_iconst (v := 1) rfl ki_1 ?_
          refine x_goto (tgt := 40) rfl rfl ?_
          refine x_zret rfl rfl (by decide) ?_
          show jX m_X0_holdsFor 5 0 0 23 [(4, .ref b4), (0, .ref 98), (1, .int a1), (2, .int a2), (3, .int a3)] [.int 1] _ 0 0 _
          refine x_ifeq (tgt := 38) rfl rfl (ti_eq jk_1 jk_0 (br_f (by omega) ?_))
          refine x_aload (x := b4) rfl rfl ?_
          refine x_iloadn (x := a2) rfl rfl ?_
          refine x_iconst (v := 0) rfl ki_0 ?_
          refine x_inv (N := m_X10_head) (As := [.int a2, .int 0]) (b := b4) (st := []) (dx9 := 1) (mc := 0) (ms := 0) (host := "") 10 rfl t_X10_head ⟨Or.inl q_0_111, i_X10_head.1, i_X10_head.2⟩ ⟨by decide, rfl⟩ (congrArg Prod.fst Tb4.1.2.2) rfl (by decide) rfl rfl ⟨by decide, by decide⟩ (c_headD Tb4 rfl jk_0 (fun v10 ev10 => ?_))
          have fv10 := jfull v10
          try rw [← ev10] at D
          show jX m_X0_holdsFor 5 0 0 33 [(4, .ref b4), (0, .ref 98), (1, .int a1), (2, .int a2), (3, .int a3)] [.int v10] _ 0 0 _
          refine x_bipush (v := 8) rfl kb_8 ?_
          refine x_icne (tgt := 40) rfl rfl (ti_ne rfl jk_8 ⟨fun c11 => ?_, fun c11 => ?_⟩)
          ·
            rw [if_neg (by omega)] at D
            refine x_aload (x := b4) rfl rfl ?_
            refine x_iloadn (x := a2) rfl rfl ?_
            refine x_iconst (v := 4) rfl ki_4 ?_
            refine x_inv (N := m_X10_head) (As := [.int a2, .int 4]) (b := b4) (st := []) (dx9 := 1) (mc := 0) (ms := 0) (host := "") 10 rfl t_X10_head ⟨Or.inl q_0_111, i_X10_head.1, i_X10_head.2⟩ ⟨by decide, rfl⟩ (congrArg Prod.fst Tb4.1.2.2) rfl (by decide) rfl rfl ⟨by decide, by decide⟩ (c_headD Tb4 rfl jk_4 (fun v12 ev12 => ?_))
            have fv12 := jfull v12
            try rw [← ev12] at D
            show jX m_X0_holdsFor 5 0 0 47 [(4, .ref b4), (0, .ref 98), (1, .int a1), (2, .int a2), (3, .int a3)] [.int v12] _ 0 0 _
            refine x_istore (lsx9 := [(5, .int v12), (4, .ref b4), (0, .ref 98), (1, .int a1), (2, .int a2), (3, .int a3)]) rfl rfl rfl ?_
            refine x_iload (x := v12) rfl rfl ?_
            refine x_iconst (v := (-1)) rfl ki_m1 ?_
            refine x_iceq (tgt := 71) rfl rfl (ti_eq rfl jk_m1 ⟨fun c13 => ?_, fun c13 => ?_⟩)
            ·
              rw [if_pos (by omega)] at D
              exact jX.sub (jsb_c rfl (jsb_c rfl (jsb_c rfl (jsb_c rfl jsb_n)))) (ct_X0_holdsFor_r98d_71 hD hQ  a2 a3 b4 h (jr_of rfl (by omega)) (jr_of rfl (by omega)) Tb4 J Sm D)
            ·
              rw [if_neg (by omega)] at D
              refine x_aloadn (x := 98) rfl rfl ?_
              refine x_aload (x := b4) rfl rfl ?_
              refine x_iload (x := v12) rfl rfl ?_
              refine x_iloadn (x := a3) rfl rfl ?_
              refine x_inv (N := m_X0_workOut) (As := [.ref b4, .int v12, .int a3]) (b := 98) (st := []) (dx9 := 4) (mc := 0) (ms := 0) (host := "") 0 rfl t_X0_workOut ⟨Or.inl q_0_189, i_X0_workOut.1, i_X0_workOut.2⟩ ⟨by decide, rfl⟩ (congrArg Prod.fst (J.1.1 98 (0, 16) rfl)) rfl (by decide) rfl rfl ⟨by decide, by decide⟩ (sf_X0_workOut_r98d (jr_of rfl (by omega)) hD J Tb4 rfl  (fun v17 h J S14 X15 X16 => ?_))
              have ev17 := jfullL v17
              have Sm := jSm_tr rfl Sm S14
              have Tb4 := jTx_m S14 rfl Tb4
              try rw [X15] at D
              try rw [X16] at D
              show jX m_X0_holdsFor 5 0 0 64 [(5, .int v12), (4, .ref b4), (0, .ref 98), (1, .int a1), (2, .int a2), (3, .int a3)] [.long v17] _ 0 0 _
              refine x_lconst (v := 1) rfl kl_1 ?_
              refine z_lcmp rfl rfl jkl_1 (fun v18 ev18 => ?_)
              refine x_ifeq (tgt := 71) rfl rfl (ti_eq rfl jk_0 ⟨fun c19 => ?_, fun c19 => ?_⟩)
              ·
                rw [if_pos (by omega)] at D
                exact jX.sub (jsb_c rfl (jsb_c rfl (jsb_c rfl (jsb_c rfl jsb_n)))) (ct_X0_holdsFor_r98d_71 hD hQ  a2 a3 b4 h (jr_of rfl (by omega)) (jr_of rfl (by omega)) Tb4 J Sm D)
              ·
                rw [if_neg (by omega)] at D
                refine x_iconst (v := 0) rfl ki_0 ?_
                refine x_zret rfl rfl (by decide) ?_
                exact hQ _ _ (jr_of jk_0 (by omega)) J Sm ((congrArg Prod.fst D).symm.trans (show 0 = (0 : Int32).toInt from by have := jk_0; omega)) (congrArg Prod.snd D).symm
          ·
            rw [if_pos (by omega)] at D
            exact jX.sub jsb_n (ct_X0_holdsFor_r98d_38 hD hQ  h J Sm D)
def fp_X0_lastTurn_r98d : jFp := []
set_option maxRecDepth 100000 in
set_option maxHeartbeats 4000000 in
theorem ct_X0_lastTurn_r98d_94 {Dy : jH → Prop} {h0 : jH} {Q : Option Value → jH → Prop} {dr : Int} {K2 : Int → Int → jW → Int} {K16 : Int → Int → Int → jW → Int} {R2 : Int} {R16 : Int} (hD : jDk Dy) (hQ : ∀ (v : Int32) hx9, (-1) ≤ v.toInt ∧ v.toInt ≤ 359 → jJ jSgX Dy hx9 → jSm fp_X0_lastTurn_r98d h0 hx9 → dr = v.toInt → vw hx9 = vw h0 → Q (some (.int v)) hx9) (k2 : ∀ (l1 : Int32) (l2 : Int32) (h : jH), l2.toInt - (-1) < R2 → 0 ≤ l1.toInt ∧ l1.toInt ≤ 3 → (-1) ≤ l2.toInt ∧ l2.toInt ≤ 1 → jJ jSgX Dy h → jSm fp_X0_lastTurn_r98d h0 h → K2 l1.toInt l2.toInt (vw h) = dr → vw h = vw h0 → jX m_X0_lastTurn 3 0 0 2 [(0, .ref 98), (1, .int l1), (2, .int l2)] [] h 0 0 Q) (k16 : ∀ (l1 : Int32) (l2 : Int32) (l3 : Int32) (g0 : Int32) (h : jH), l3.toInt - (-1) < R16 → 0 ≤ l1.toInt ∧ l1.toInt ≤ 3 → 0 ≤ l2.toInt ∧ l2.toInt ≤ 1 → (-1) ≤ l3.toInt ∧ l3.toInt ≤ 29 → 0 ≤ g0.toInt ∧ g0.toInt ≤ 30 → jiv h 32 18 = g0 → l2.toInt - (-1) ≤ R2 → jJ jSgX Dy h → jSm fp_X0_lastTurn_r98d h0 h → K16 l1.toInt l2.toInt l3.toInt (vw h) = dr → vw h = vw h0 → jX m_X0_lastTurn 3 0 0 16 [(0, .ref 98), (1, .int l1), (2, .int l2), (3, .int l3)] [] h 0 0 Q) : ∀ (l1 : Int32) (l2 : Int32) (l3 : Int32) (g0 : Int32) (h : jH), 0 ≤ l1.toInt ∧ l1.toInt ≤ 3 → 0 ≤ l2.toInt ∧ l2.toInt ≤ 1 → 0 ≤ l3.toInt ∧ l3.toInt ≤ 29 → 0 ≤ g0.toInt ∧ g0.toInt ≤ 30 → jiv h 32 18 = g0 → l2.toInt - (-1) ≤ R2 → l3.toInt - (-1) ≤ R16 → jJ jSgX Dy h → jSm fp_X0_lastTurn_r98d h0 h → d_X0_lastTurn_r98d_94 K2 K16  l1.toInt l2.toInt l3.toInt (vw h) = dr → vw h = vw h0 → jX m_X0_lastTurn 3 0 0 94 [(0, .ref 98), (1, .int l1), (2, .int l2), (3, .int l3)] [] h 0 0 Q := by
  intro l1 l2 l3 g0 h y0 y1 y2 y3 z0 m2 m16 J Sm D EV
  unfold d_X0_lastTurn_r98d_94 at D
  try rw [vrf z0] at D
  refine z_iinc (x := l3) (lsx9 := fun v1 => [(3, .int v1), (0, .ref 98), (1, .int l1), (2, .int l2)]) rfl rfl rfl jko_m1 (by omega) rfl (fun _ => rfl) (fun v1 ev1 => ?_)
  refine x_goto (tgt := 16) rfl rfl ?_
  try rw [show (l3.toInt + (-1)) = v1.toInt from by omega] at D
  exact jX.sub (jsb_c rfl (jsb_c rfl (jsb_c rfl (jsb_c rfl jsb_n)))) (k16 l1 l2 v1 g0 h (by omega) (jr_of rfl (by omega)) (jr_of rfl (by omega)) (jr_of rfl (by omega)) (jr_of rfl (by omega)) z0 (by omega) J Sm D EV)
set_option maxRecDepth 100000 in
set_option maxHeartbeats 4000000 in
theorem ct_X0_lastTurn_r98d_88 {Dy : jH → Prop} {h0 : jH} {Q : Option Value → jH → Prop} {dr : Int} {K2 : Int → Int → jW → Int} {K16 : Int → Int → Int → jW → Int} {K53 : Int → Int → Int → Nat → Int → jW → Int} {R2 : Int} {R16 : Int} {R53 : Int} (hD : jDk Dy) (hQ : ∀ (v : Int32) hx9, (-1) ≤ v.toInt ∧ v.toInt ≤ 359 → jJ jSgX Dy hx9 → jSm fp_X0_lastTurn_r98d h0 hx9 → dr = v.toInt → vw hx9 = vw h0 → Q (some (.int v)) hx9) (k2 : ∀ (l1 : Int32) (l2 : Int32) (h : jH), l2.toInt - (-1) < R2 → 0 ≤ l1.toInt ∧ l1.toInt ≤ 3 → (-1) ≤ l2.toInt ∧ l2.toInt ≤ 1 → jJ jSgX Dy h → jSm fp_X0_lastTurn_r98d h0 h → K2 l1.toInt l2.toInt (vw h) = dr → vw h = vw h0 → jX m_X0_lastTurn 3 0 0 2 [(0, .ref 98), (1, .int l1), (2, .int l2)] [] h 0 0 Q) (k16 : ∀ (l1 : Int32) (l2 : Int32) (l3 : Int32) (g0 : Int32) (h : jH), l3.toInt - (-1) < R16 → 0 ≤ l1.toInt ∧ l1.toInt ≤ 3 → 0 ≤ l2.toInt ∧ l2.toInt ≤ 1 → (-1) ≤ l3.toInt ∧ l3.toInt ≤ 29 → 0 ≤ g0.toInt ∧ g0.toInt ≤ 30 → jiv h 32 18 = g0 → l2.toInt - (-1) ≤ R2 → jJ jSgX Dy h → jSm fp_X0_lastTurn_r98d h0 h → K16 l1.toInt l2.toInt l3.toInt (vw h) = dr → vw h = vw h0 → jX m_X0_lastTurn 3 0 0 16 [(0, .ref 98), (1, .int l1), (2, .int l2), (3, .int l3)] [] h 0 0 Q) (k53 : ∀ (l1 : Int32) (l2 : Int32) (l3 : Int32) (l4 : Nat) (l5 : Int32) (g0 : Int32) (h : jH), l5.toInt - (-1) < R53 → 0 ≤ l1.toInt ∧ l1.toInt ≤ 3 → 0 ≤ l2.toInt ∧ l2.toInt ≤ 1 → 0 ≤ l3.toInt ∧ l3.toInt ≤ 29 → (-1) ≤ l5.toInt ∧ l5.toInt ≤ 11 → 1 ≤ g0.toInt ∧ g0.toInt ≤ 30 → jTx h l4 → jiv h 32 18 = g0 → l2.toInt - (-1) ≤ R2 → l3.toInt - (-1) ≤ R16 → jJ jSgX Dy h → jSm fp_X0_lastTurn_r98d h0 h → K53 l1.toInt l2.toInt l3.toInt l4 l5.toInt (vw h) = dr → vw h = vw h0 → jX m_X0_lastTurn 3 0 0 53 [(0, .ref 98), (1, .int l1), (2, .int l2), (3, .int l3), (4, .ref l4), (5, .int l5)] [] h 0 0 Q) : ∀ (l1 : Int32) (l2 : Int32) (l3 : Int32) (l4 : Nat) (l5 : Int32) (g0 : Int32) (h : jH), 0 ≤ l1.toInt ∧ l1.toInt ≤ 3 → 0 ≤ l2.toInt ∧ l2.toInt ≤ 1 → 0 ≤ l3.toInt ∧ l3.toInt ≤ 29 → 0 ≤ l5.toInt ∧ l5.toInt ≤ 11 → 1 ≤ g0.toInt ∧ g0.toInt ≤ 30 → jTx h l4 → jiv h 32 18 = g0 → l2.toInt - (-1) ≤ R2 → l3.toInt - (-1) ≤ R16 → l5.toInt - (-1) ≤ R53 → jJ jSgX Dy h → jSm fp_X0_lastTurn_r98d h0 h → d_X0_lastTurn_r98d_88 K2 K16 K53  l1.toInt l2.toInt l3.toInt l4 l5.toInt (vw h) = dr → vw h = vw h0 → jX m_X0_lastTurn 3 0 0 88 [(0, .ref 98), (1, .int l1), (2, .int l2), (3, .int l3), (4, .ref l4), (5, .int l5)] [] h 0 0 Q := by
  intro l1 l2 l3 l4 l5 g0 h y0 y1 y2 y3 y4 Tl4 z0 m2 m16 m53 J Sm D EV
  unfold d_X0_lastTurn_r98d_88 at D
  try rw [vrf z0] at D
  refine z_iinc (x := l5) (lsx9 := fun v1 => [(5, .int v1), (0, .ref 98), (1, .int l1), (2, .int l2), (3, .int l3), (4, .ref l4)]) rfl rfl rfl jko_m1 (by omega) rfl (fun _ => rfl) (fun v1 ev1 => ?_)
  refine x_goto (tgt := 53) rfl rfl ?_
  try rw [show (l5.toInt + (-1)) = v1.toInt from by omega] at D
  exact jX.sub (jsb_c rfl (jsb_c rfl (jsb_c rfl (jsb_c rfl (jsb_c rfl (jsb_c rfl jsb_n)))))) (k53 l1 l2 l3 l4 v1 g0 h (by omega) (jr_of rfl (by omega)) (jr_of rfl (by omega)) (jr_of rfl (by omega)) (jr_of rfl (by omega)) (jr_of rfl (by omega)) Tl4 z0 (by omega) (by omega) J Sm D EV)
set_option maxRecDepth 100000 in
set_option maxHeartbeats 4000000 in
theorem ct_X0_lastTurn_r98d_53 {Dy : jH → Prop} {h0 : jH} {Q : Option Value → jH → Prop} {dr : Int} {K2 : Int → Int → jW → Int} {K16 : Int → Int → Int → jW → Int} {R2 : Int} {R16 : Int} (hD : jDk Dy) (hQ : ∀ (v : Int32) hx9, (-1) ≤ v.toInt ∧ v.toInt ≤ 359 → jJ jSgX Dy hx9 → jSm fp_X0_lastTurn_r98d h0 hx9 → dr = v.toInt → vw hx9 = vw h0 → Q (some (.int v)) hx9) (k2 : ∀ (l1 : Int32) (l2 : Int32) (h : jH), l2.toInt - (-1) < R2 → 0 ≤ l1.toInt ∧ l1.toInt ≤ 3 → (-1) ≤ l2.toInt ∧ l2.toInt ≤ 1 → jJ jSgX Dy h → jSm fp_X0_lastTurn_r98d h0 h → K2 l1.toInt l2.toInt (vw h) = dr → vw h = vw h0 → jX m_X0_lastTurn 3 0 0 2 [(0, .ref 98), (1, .int l1), (2, .int l2)] [] h 0 0 Q) (k16 : ∀ (l1 : Int32) (l2 : Int32) (l3 : Int32) (g0 : Int32) (h : jH), l3.toInt - (-1) < R16 → 0 ≤ l1.toInt ∧ l1.toInt ≤ 3 → 0 ≤ l2.toInt ∧ l2.toInt ≤ 1 → (-1) ≤ l3.toInt ∧ l3.toInt ≤ 29 → 0 ≤ g0.toInt ∧ g0.toInt ≤ 30 → jiv h 32 18 = g0 → l2.toInt - (-1) ≤ R2 → jJ jSgX Dy h → jSm fp_X0_lastTurn_r98d h0 h → K16 l1.toInt l2.toInt l3.toInt (vw h) = dr → vw h = vw h0 → jX m_X0_lastTurn 3 0 0 16 [(0, .ref 98), (1, .int l1), (2, .int l2), (3, .int l3)] [] h 0 0 Q) : ∀ r : Nat, ∀ (l1 : Int32) (l2 : Int32) (l3 : Int32) (l4 : Nat) (l5 : Int32) (g0 : Int32) (h : jH), l5.toInt - (-1) < (r : Int) → 0 ≤ l1.toInt ∧ l1.toInt ≤ 3 → 0 ≤ l2.toInt ∧ l2.toInt ≤ 1 → 0 ≤ l3.toInt ∧ l3.toInt ≤ 29 → (-1) ≤ l5.toInt ∧ l5.toInt ≤ 11 → 1 ≤ g0.toInt ∧ g0.toInt ≤ 30 → jTx h l4 → jiv h 32 18 = g0 → l2.toInt - (-1) ≤ R2 → l3.toInt - (-1) ≤ R16 → jJ jSgX Dy h → jSm fp_X0_lastTurn_r98d h0 h → d_X0_lastTurn_r98d_53 K2 K16 r l1.toInt l2.toInt l3.toInt l4 l5.toInt (vw h) = dr → vw h = vw h0 → jX m_X0_lastTurn 3 0 0 53 [(0, .ref 98), (1, .int l1), (2, .int l2), (3, .int l3), (4, .ref l4), (5, .int l5)] [] h 0 0 Q := by
  intro r
  induction r with
  | zero =>
    intro l1 l2 l3 l4 l5 g0 h hm y0 y1 y2 y3 y4 Tl4 z0 m2 m16 J Sm D EV
    exfalso
    omega
  | succ r ih =>
    intro l1 l2 l3 l4 l5 g0 h hm y0 y1 y2 y3 y4 Tl4 z0 m2 m16 J Sm D EV
    rw [d_X0_lastTurn_r98d_53.eq_2] at D
    try rw [vrf z0] at D
    refine x_iload (x := l5) rfl rfl ?_
    refine x_iflt (tgt := 94) rfl rfl (ti_lt rfl jk_0 ⟨fun c1 => ?_, fun c1 => ?_⟩)
    ·
      rw [if_pos (by omega)] at D
      exact jX.sub (jsb_c rfl (jsb_c rfl (jsb_c rfl (jsb_c rfl jsb_n)))) (ct_X0_lastTurn_r98d_94 hD hQ k2 k16 l1 l2 l3 g0 h (jr_of rfl (by omega)) (jr_of rfl (by omega)) (jr_of rfl (by omega)) (jr_of rfl (by omega)) z0 (by omega) (by omega) J Sm D EV)
    ·
      rw [if_neg (by omega)] at D
      refine x_aload (x := l4) rfl rfl ?_
      refine x_iload (x := l5) rfl rfl ?_
      refine x_iconst (v := 5) rfl ki_5 ?_
      refine x_iloadn (x := l1) rfl rfl ?_
      refine x_inv (N := m_X10_isOf) (As := [.int l5, .int 5, .int l1]) (b := l4) (st := []) (dx9 := 2) (mc := 0) (ms := 0) (host := "") 10 rfl t_X10_isOf ⟨Or.inl q_0_220, i_X10_isOf.1, i_X10_isOf.2⟩ ⟨by decide, rfl⟩ (congrArg Prod.fst Tl4.1.2.2) rfl (by decide) rfl rfl ⟨by decide, by decide⟩ (jC.of rfl k_X10_isOf rfl ?_)
      show jX m_X10_isOf 2 0 0 0 [(0, .ref l4), (1, .int l5), (2, .int 5), (3, .int l1)] [] _ 0 0 _
      refine x_aloadn (x := l4) rfl rfl ?_
      refine x_iloadn (x := l5) rfl rfl ?_
      refine x_iconst (v := 0) rfl ki_0 ?_
      refine x_inv (N := m_X10_head) (As := [.int l5, .int 0]) (b := l4) (st := []) (dx9 := 1) (mc := 0) (ms := 0) (host := "") 10 rfl t_X10_head ⟨Or.inl q_10_37, i_X10_head.1, i_X10_head.2⟩ ⟨by decide, rfl⟩ (congrArg Prod.fst Tl4.1.2.2) rfl (by decide) rfl rfl ⟨by decide, by decide⟩ (c_headD Tl4 rfl jk_0 (fun v2 ev2 => ?_))
      have fv2 := jfull v2
      try rw [← ev2] at D
      show jX m_X10_isOf 2 0 0 6 [(0, .ref l4), (1, .int l5), (2, .int 5), (3, .int l1)] [.int v2] _ 0 0 _
      refine x_iloadn (x := 5) rfl rfl ?_
      refine x_icne (tgt := 24) rfl rfl (ti_ne rfl jk_5 ⟨fun c3 => ?_, fun c3 => ?_⟩)
      ·
        rw [if_neg (by omega)] at D
        refine x_iconst (v := 0) rfl ki_0 ?_
        refine x_zret rfl rfl (by decide) ?_
        show jX m_X0_lastTurn 3 0 0 67 [(0, .ref 98), (1, .int l1), (2, .int l2), (3, .int l3), (4, .ref l4), (5, .int l5)] [.int 0] _ 0 0 _
        refine x_ifeq (tgt := 88) rfl rfl (ti_eq jk_0 jk_0 (br_t (by omega) ?_))
        exact jX.sub (jsb_c rfl (jsb_c rfl (jsb_c rfl (jsb_c rfl (jsb_c rfl (jsb_c rfl jsb_n)))))) (ct_X0_lastTurn_r98d_88 hD hQ k2 k16 ih l1 l2 l3 l4 l5 g0 h (jr_of rfl (by omega)) (jr_of rfl (by omega)) (jr_of rfl (by omega)) (jr_of rfl (by omega)) (jr_of rfl (by omega)) Tl4 z0 (by omega) (by omega) (by omega) J Sm D EV)
      ·
        rw [if_pos (by omega)] at D
        refine x_aloadn (x := l4) rfl rfl ?_
        refine x_iloadn (x := l5) rfl rfl ?_
        refine x_iconst (v := 1) rfl ki_1 ?_
        refine x_inv (N := m_X10_head) (As := [.int l5, .int 1]) (b := l4) (st := []) (dx9 := 1) (mc := 0) (ms := 0) (host := "") 10 rfl t_X10_head ⟨Or.inl q_10_37, i_X10_head.1, i_X10_head.2⟩ ⟨by decide, rfl⟩ (congrArg Prod.fst Tl4.1.2.2) rfl (by decide) rfl rfl ⟨by decide, by decide⟩ (c_headD Tl4 rfl jk_1 (fun v4 ev4 => ?_))
        have fv4 := jfull v4
        try rw [← ev4] at D
        show jX m_X10_isOf 2 0 0 16 [(0, .ref l4), (1, .int l5), (2, .int 5), (3, .int l1)] [.int v4] _ 0 0 _
        refine x_iloadn (x := l1) rfl rfl ?_
        refine x_icne (tgt := 24) rfl rfl (ti_ne rfl rfl ⟨fun c5 => ?_, fun c5 => ?_⟩)
        ·
          rw [if_neg (by omega)] at D
          refine x_iconst (v := 0) rfl ki_0 ?_
          refine x_zret rfl rfl (by decide) ?_
          show jX m_X0_lastTurn 3 0 0 67 [(0, .ref 98), (1, .int l1), (2, .int l2), (3, .int l3), (4, .ref l4), (5, .int l5)] [.int 0] _ 0 0 _
          refine x_ifeq (tgt := 88) rfl rfl (ti_eq jk_0 jk_0 (br_t (by omega) ?_))
          exact jX.sub (jsb_c rfl (jsb_c rfl (jsb_c rfl (jsb_c rfl (jsb_c rfl (jsb_c rfl jsb_n)))))) (ct_X0_lastTurn_r98d_88 hD hQ k2 k16 ih l1 l2 l3 l4 l5 g0 h (jr_of rfl (by omega)) (jr_of rfl (by omega)) (jr_of rfl (by omega)) (jr_of rfl (by omega)) (jr_of rfl (by omega)) Tl4 z0 (by omega) (by omega) (by omega) J Sm D EV)
        ·
          rw [if_pos (by omega)] at D
          refine x_iconst (v := 1) rfl ki_1 ?_
          refine x_goto (tgt := 25) rfl rfl ?_
          refine x_zret rfl rfl (by decide) ?_
          show jX m_X0_lastTurn 3 0 0 67 [(0, .ref 98), (1, .int l1), (2, .int l2), (3, .int l3), (4, .ref l4), (5, .int l5)] [.int 1] _ 0 0 _
          refine x_ifeq (tgt := 88) rfl rfl (ti_eq jk_1 jk_0 (br_f (by omega) ?_))
          refine x_aloadn (x := 98) rfl rfl ?_
          refine x_iloadn (x := l3) rfl rfl ?_
          refine x_iload (x := l5) rfl rfl ?_
          refine x_inv (N := m_X0_isInForce) (As := [.int l3, .int l5]) (b := 98) (st := []) (dx9 := 2) (mc := 0) (ms := 0) (host := "") 0 rfl t_X0_isInForce ⟨Or.inl q_0_116, i_X0_isInForce.1, i_X0_isInForce.2⟩ ⟨by decide, rfl⟩ (congrArg Prod.fst (J.1.1 98 (0, 16) rfl)) rfl (by decide) rfl rfl ⟨by decide, by decide⟩ (jC.of rfl k_X0_isInForce rfl ?_)
          show jX m_X0_isInForce 2 0 0 0 [(0, .ref 98), (1, .int l3), (2, .int l5)] [] _ 0 0 _
          refine x_iloadn (x := l3) rfl rfl ?_
          refine x_iflt (tgt := 39) rfl rfl (ti_lt rfl jk_0 (br_f (by omega) ?_))
          refine x_iloadn (x := l3) rfl rfl ?_
          refine x_bipush (v := 30) rfl kb_30 ?_
          refine x_icge (tgt := 39) rfl rfl (ti_ge rfl jk_30 (br_f (by omega) ?_))
          refine x_iloadn (x := l3) rfl rfl ?_
          refine x_aloadn (x := 98) rfl rfl ?_
          refine z_getR (N := 16) (b := 32) 0 0 rfl f_0_57 rfl J rfl 12544 ⟨rfl, rfl⟩ rfl ?_
          refine z_getM (N := 20) (v := g0) 1 18 rfl f_0_72 rfl J rfl z0 ?_
          refine x_icge (tgt := 39) rfl rfl (ti_ge rfl rfl ⟨fun c6 => ?_, fun c6 => ?_⟩)
          ·
            rw [if_pos (by omega)] at D
            refine x_iconst (v := 0) rfl ki_0 ?_
            refine x_zret rfl rfl (by decide) ?_
            show jX m_X0_lastTurn 3 0 0 77 [(0, .ref 98), (1, .int l1), (2, .int l2), (3, .int l3), (4, .ref l4), (5, .int l5)] [.int 0] _ 0 0 _
            refine x_ifeq (tgt := 88) rfl rfl (ti_eq jk_0 jk_0 (br_t (by omega) ?_))
            exact jX.sub (jsb_c rfl (jsb_c rfl (jsb_c rfl (jsb_c rfl (jsb_c rfl (jsb_c rfl jsb_n)))))) (ct_X0_lastTurn_r98d_88 hD hQ k2 k16 ih l1 l2 l3 l4 l5 g0 h (jr_of rfl (by omega)) (jr_of rfl (by omega)) (jr_of rfl (by omega)) (jr_of rfl (by omega)) (jr_of rfl (by omega)) Tl4 z0 (by omega) (by omega) (by omega) J Sm D EV)
          ·
            rw [if_neg (by omega)] at D
            refine x_aloadn (x := 98) rfl rfl ?_
            refine z_getR (N := 16) (b := 99) 0 2 rfl f_0_9 rfl J rfl 12546 ⟨rfl, rfl⟩ rfl ?_
            refine x_iloadn (x := l3) rfl rfl ?_
            refine z_iald0 (N := 30) rfl J rfl rfl (by omega) (fun v7 qv7 => ?_)
            have ev7 := jfull v7
            try rw [vrd qv7 (show l3.toInt = l3.toInt from by omega)] at D
            refine x_iloadn (x := l5) rfl rfl ?_
            refine z_ishrW rfl rfl rfl (fun v8 ev8 => ?_)
            have fv8 := jfull v8
            try rw [← ev8] at D
            refine x_iconst (v := 1) rfl ki_1 ?_
            refine z_iandQ rfl rfl jk_1 (by decide) (fun v9 ev9 => ?_)
            try rw [← ev9.1] at D
            refine x_iconst (v := 1) rfl ki_1 ?_
            refine x_icne (tgt := 39) rfl rfl (ti_ne rfl jk_1 ⟨fun c10 => ?_, fun c10 => ?_⟩)
            ·
              rw [if_neg (by omega)] at D
              refine x_iconst (v := 0) rfl ki_0 ?_
              refine x_zret rfl rfl (by decide) ?_
              show jX m_X0_lastTurn 3 0 0 77 [(0, .ref 98), (1, .int l1), (2, .int l2), (3, .int l3), (4, .ref l4), (5, .int l5)] [.int 0] _ 0 0 _
              refine x_ifeq (tgt := 88) rfl rfl (ti_eq jk_0 jk_0 (br_t (by omega) ?_))
              exact jX.sub (jsb_c rfl (jsb_c rfl (jsb_c rfl (jsb_c rfl (jsb_c rfl (jsb_c rfl jsb_n)))))) (ct_X0_lastTurn_r98d_88 hD hQ k2 k16 ih l1 l2 l3 l4 l5 g0 h (jr_of rfl (by omega)) (jr_of rfl (by omega)) (jr_of rfl (by omega)) (jr_of rfl (by omega)) (jr_of rfl (by omega)) Tl4 z0 (by omega) (by omega) (by omega) J Sm D EV)
            ·
              rw [if_pos (by omega)] at D
              refine x_iconst (v := 1) rfl ki_1 ?_
              refine x_goto (tgt := 40) rfl rfl ?_
              refine x_zret rfl rfl (by decide) ?_
              show jX m_X0_lastTurn 3 0 0 77 [(0, .ref 98), (1, .int l1), (2, .int l2), (3, .int l3), (4, .ref l4), (5, .int l5)] [.int 1] _ 0 0 _
              refine x_ifeq (tgt := 88) rfl rfl (ti_eq jk_1 jk_0 (br_f (by omega) ?_))
              refine x_iloadn (x := l3) rfl rfl ?_
              refine x_bipush (v := 12) rfl kb_12 ?_
              refine z_imul rfl rfl jk_12 (by omega) (fun v11 ev11 => ?_)
              refine x_iload (x := l5) rfl rfl ?_
              refine z_iadd rfl rfl rfl (by omega) (fun v12 ev12 => ?_)
              refine x_iret rfl rfl ?_
              exact hQ _ _ (jr_of rfl (by omega)) J Sm (D.symm.trans (show ((l3.toInt * 12) + l5.toInt) = v12.toInt from by omega)) EV
set_option maxRecDepth 100000 in
set_option maxHeartbeats 4000000 in
theorem ct_X0_lastTurn_r98d_16 {Dy : jH → Prop} {h0 : jH} {Q : Option Value → jH → Prop} {dr : Int} {K2 : Int → Int → jW → Int} {R2 : Int} (hD : jDk Dy) (hQ : ∀ (v : Int32) hx9, (-1) ≤ v.toInt ∧ v.toInt ≤ 359 → jJ jSgX Dy hx9 → jSm fp_X0_lastTurn_r98d h0 hx9 → dr = v.toInt → vw hx9 = vw h0 → Q (some (.int v)) hx9) (k2 : ∀ (l1 : Int32) (l2 : Int32) (h : jH), l2.toInt - (-1) < R2 → 0 ≤ l1.toInt ∧ l1.toInt ≤ 3 → (-1) ≤ l2.toInt ∧ l2.toInt ≤ 1 → jJ jSgX Dy h → jSm fp_X0_lastTurn_r98d h0 h → K2 l1.toInt l2.toInt (vw h) = dr → vw h = vw h0 → jX m_X0_lastTurn 3 0 0 2 [(0, .ref 98), (1, .int l1), (2, .int l2)] [] h 0 0 Q) : ∀ r : Nat, ∀ (l1 : Int32) (l2 : Int32) (l3 : Int32) (g0 : Int32) (h : jH), l3.toInt - (-1) < (r : Int) → 0 ≤ l1.toInt ∧ l1.toInt ≤ 3 → 0 ≤ l2.toInt ∧ l2.toInt ≤ 1 → (-1) ≤ l3.toInt ∧ l3.toInt ≤ 29 → 0 ≤ g0.toInt ∧ g0.toInt ≤ 30 → jiv h 32 18 = g0 → l2.toInt - (-1) ≤ R2 → jJ jSgX Dy h → jSm fp_X0_lastTurn_r98d h0 h → d_X0_lastTurn_r98d_16 K2 r l1.toInt l2.toInt l3.toInt (vw h) = dr → vw h = vw h0 → jX m_X0_lastTurn 3 0 0 16 [(0, .ref 98), (1, .int l1), (2, .int l2), (3, .int l3)] [] h 0 0 Q := by
  intro r
  induction r with
  | zero =>
    intro l1 l2 l3 g0 h hm y0 y1 y2 y3 z0 m2 J Sm D EV
    exfalso
    omega
  | succ r ih =>
    intro l1 l2 l3 g0 h hm y0 y1 y2 y3 z0 m2 J Sm D EV
    rw [d_X0_lastTurn_r98d_16.eq_2] at D
    try rw [vrf z0] at D
    refine x_iloadn (x := l3) rfl rfl ?_
    refine x_iflt (tgt := 100) rfl rfl (ti_lt rfl jk_0 ⟨fun c1 => ?_, fun c1 => ?_⟩)
    ·
      rw [if_pos (by omega)] at D
      refine z_iinc (x := l2) (lsx9 := fun v2 => [(2, .int v2), (0, .ref 98), (1, .int l1), (3, .int l3)]) rfl rfl rfl jko_m1 (by omega) rfl (fun _ => rfl) (fun v2 ev2 => ?_)
      refine x_goto (tgt := 2) rfl rfl ?_
      try rw [show (l2.toInt + (-1)) = v2.toInt from by omega] at D
      exact jX.sub (jsb_c rfl (jsb_c rfl (jsb_c rfl jsb_n))) (k2 l1 v2 h (by omega) (jr_of rfl (by omega)) (jr_of rfl (by omega)) J Sm D EV)
    ·
      rw [if_neg (by omega)] at D
      refine x_aloadn (x := 98) rfl rfl ?_
      refine x_iloadn (x := l3) rfl rfl ?_
      refine x_inv (N := m_X0_textAt) (As := [.int l3]) (b := 98) (st := []) (dx9 := 2) (mc := 0) (ms := 0) (host := "") 0 rfl t_X0_textAt ⟨Or.inl q_0_94, i_X0_textAt.1, i_X0_textAt.2⟩ ⟨by decide, rfl⟩ (congrArg Prod.fst (J.1.1 98 (0, 16) rfl)) rfl (by decide) rfl rfl ⟨by decide, by decide⟩ (jC.of rfl k_X0_textAt rfl ?_)
      show jX m_X0_textAt 2 0 0 0 [(0, .ref 98), (1, .int l3)] [] _ 0 0 _
      refine x_iloadn (x := l3) rfl rfl ?_
      refine x_iflt (tgt := 33) rfl rfl (ti_lt rfl jk_0 (br_f (by omega) ?_))
      refine x_iloadn (x := l3) rfl rfl ?_
      refine x_aloadn (x := 98) rfl rfl ?_
      refine z_getR (N := 16) (b := 32) 0 0 rfl f_0_57 rfl J rfl 12544 ⟨rfl, rfl⟩ rfl ?_
      refine z_getM (N := 20) (v := g0) 1 18 rfl f_0_72 rfl J rfl z0 ?_
      refine x_icge (tgt := 33) rfl rfl (ti_ge rfl rfl ⟨fun c3 => ?_, fun c3 => ?_⟩)
      ·
        rw [if_pos (by omega)] at D
        refine x_null rfl ?_
        refine x_aret rfl rfl rfl (Or.inl rfl) ?_
        show jX m_X0_lastTurn 3 0 0 25 [(0, .ref 98), (1, .int l1), (2, .int l2), (3, .int l3)] [.null] _ 0 0 _
        refine x_astoreN (lsx9 := [(4, .null), (0, .ref 98), (1, .int l1), (2, .int l2), (3, .int l3)]) rfl rfl rfl ?_
        refine x_aloadN rfl rfl ?_
        refine x_ifnullN (tgt := 94) rfl rfl ?_
        exact jX.sub (jsb_c rfl (jsb_c rfl (jsb_c rfl (jsb_c rfl jsb_n)))) (ct_X0_lastTurn_r98d_94 hD hQ k2 ih l1 l2 l3 g0 h (jr_of rfl (by omega)) (jr_of rfl (by omega)) (jr_of rfl (by omega)) (jr_of rfl (by omega)) z0 (by omega) (by omega) J Sm D EV)
      ·
        rw [if_neg (by omega)] at D
        refine x_iloadn (x := l3) rfl rfl ?_
        refine x_bipush (v := 30) rfl kb_30 ?_
        refine x_icge (tgt := 33) rfl rfl (ti_ge rfl jk_30 (br_f (by omega) ?_))
        refine x_aloadn (x := 98) rfl rfl ?_
        refine z_getR (N := 16) (b := 32) 0 0 rfl f_0_57 rfl J rfl 12544 ⟨rfl, rfl⟩ rfl ?_
        refine z_getR (N := 20) (b := 66) 1 17 rfl f_0_77 rfl J rfl 4113 ⟨rfl, rfl⟩ rfl ?_
        refine x_iloadn (x := l3) rfl rfl ?_
        refine z_aaldTD rfl hD J rfl rfl (by omega) ⟨fun qb4 => ?_, fun b4 qb4 Tb4 => ?_⟩
        ·
          rw [if_pos (vnn qb4 (show l3.toInt = l3.toInt from by omega))] at D
          refine x_goto (tgt := 34) rfl rfl ?_
          refine x_aret rfl rfl rfl (Or.inl rfl) ?_
          show jX m_X0_lastTurn 3 0 0 25 [(0, .ref 98), (1, .int l1), (2, .int l2), (3, .int l3)] [.null] _ 0 0 _
          refine x_astoreN (lsx9 := [(4, .null), (0, .ref 98), (1, .int l1), (2, .int l2), (3, .int l3)]) rfl rfl rfl ?_
          refine x_aloadN rfl rfl ?_
          refine x_ifnullN (tgt := 94) rfl rfl ?_
          exact jX.sub (jsb_c rfl (jsb_c rfl (jsb_c rfl (jsb_c rfl jsb_n)))) (ct_X0_lastTurn_r98d_94 hD hQ k2 ih l1 l2 l3 g0 h (jr_of rfl (by omega)) (jr_of rfl (by omega)) (jr_of rfl (by omega)) (jr_of rfl (by omega)) z0 (by omega) (by omega) J Sm D EV)
        ·
          rw [if_neg (vns qb4 (show l3.toInt = l3.toInt from by omega))] at D
          try rw [vrs qb4 (show l3.toInt = l3.toInt from by omega)] at D
          refine x_goto (tgt := 34) rfl rfl ?_
          refine x_aret rfl rfl rfl (Or.inr ⟨_, rfl⟩) ?_
          show jX m_X0_lastTurn 3 0 0 25 [(0, .ref 98), (1, .int l1), (2, .int l2), (3, .int l3)] [.ref b4] _ 0 0 _
          refine x_astore (lsx9 := [(4, .ref b4), (0, .ref 98), (1, .int l1), (2, .int l2), (3, .int l3)]) rfl rfl rfl ?_
          refine x_aload (x := b4) rfl rfl ?_
          refine x_ifnull rfl ?_
          refine x_aload (x := b4) rfl rfl ?_
          refine z_getTD 0 rfl f_0_217 rfl Tb4 (fun v5 qv5 => ?_)
          have ev5 := jfull v5
          try rw [vrf qv5] at D
          refine x_iloadn (x := l2) rfl rfl ?_
          refine x_iceq (tgt := 44) rfl rfl (ti_eq rfl rfl ⟨fun c6 => ?_, fun c6 => ?_⟩)
          ·
            rw [if_pos (by omega)] at D
            refine x_aload (x := b4) rfl rfl ?_
            refine z_getTcD rfl f_0_104 Tb4 (fun v7 qv7 ev7 => ?_)
            try rw [vrf qv7] at D
            refine x_iconst (v := 1) rfl ki_1 ?_
            refine z_isub rfl rfl jk_1 (by omega) (fun v8 ev8 => ?_)
            refine x_istore (lsx9 := [(5, .int v8), (4, .ref b4), (0, .ref 98), (1, .int l1), (2, .int l2), (3, .int l3)]) rfl rfl rfl ?_
            try rw [show (v7.toInt - 1) = v8.toInt from by omega] at D
            exact jX.sub (jsb_c rfl (jsb_c rfl (jsb_c rfl (jsb_c rfl (jsb_c rfl (jsb_c rfl jsb_n)))))) (ct_X0_lastTurn_r98d_53 hD hQ k2 ih 13 l1 l2 l3 b4 v8 g0 h (by omega) (jr_of rfl (by omega)) (jr_of rfl (by omega)) (jr_of rfl (by omega)) (jr_of rfl (by omega)) (jr_of rfl (by omega)) Tb4 z0 (by omega) (by omega) J Sm D EV)
          ·
            rw [if_neg (by omega)] at D
            refine x_goto (tgt := 94) rfl rfl ?_
            exact jX.sub (jsb_c rfl (jsb_c rfl (jsb_c rfl (jsb_c rfl jsb_n)))) (ct_X0_lastTurn_r98d_94 hD hQ k2 ih l1 l2 l3 g0 h (jr_of rfl (by omega)) (jr_of rfl (by omega)) (jr_of rfl (by omega)) (jr_of rfl (by omega)) z0 (by omega) (by omega) J Sm D EV)
set_option maxRecDepth 100000 in
set_option maxHeartbeats 4000000 in
theorem ct_X0_lastTurn_r98d_2 {Dy : jH → Prop} {h0 : jH} {Q : Option Value → jH → Prop} {dr : Int} (hD : jDk Dy) (hQ : ∀ (v : Int32) hx9, (-1) ≤ v.toInt ∧ v.toInt ≤ 359 → jJ jSgX Dy hx9 → jSm fp_X0_lastTurn_r98d h0 hx9 → dr = v.toInt → vw hx9 = vw h0 → Q (some (.int v)) hx9) : ∀ r : Nat, ∀ (l1 : Int32) (l2 : Int32) (h : jH), l2.toInt - (-1) < (r : Int) → 0 ≤ l1.toInt ∧ l1.toInt ≤ 3 → (-1) ≤ l2.toInt ∧ l2.toInt ≤ 1 → jJ jSgX Dy h → jSm fp_X0_lastTurn_r98d h0 h → d_X0_lastTurn_r98d_2 r l1.toInt l2.toInt (vw h) = dr → vw h = vw h0 → jX m_X0_lastTurn 3 0 0 2 [(0, .ref 98), (1, .int l1), (2, .int l2)] [] h 0 0 Q := by
  intro r
  induction r with
  | zero =>
    intro l1 l2 h hm y0 y1   J Sm D EV
    exfalso
    omega
  | succ r ih =>
    intro l1 l2 h hm y0 y1   J Sm D EV
    rw [d_X0_lastTurn_r98d_2.eq_2] at D
    refine x_iloadn (x := l2) rfl rfl ?_
    refine x_iflt (tgt := 106) rfl rfl (ti_lt rfl jk_0 ⟨fun c1 => ?_, fun c1 => ?_⟩)
    ·
      rw [if_pos (by omega)] at D
      refine x_iconst (v := (-1)) rfl ki_m1 ?_
      refine x_iret rfl rfl ?_
      exact hQ _ _ (jr_of jk_m1 (by omega)) J Sm (D.symm.trans (show (-1) = ((-1) : Int32).toInt from by have := jk_m1; omega)) EV
    ·
      rw [if_neg (by omega)] at D
      refine x_aloadn (x := 98) rfl rfl ?_
      refine z_getR (N := 16) (b := 32) 0 0 rfl f_0_57 rfl J rfl 12544 ⟨rfl, rfl⟩ rfl ?_
      refine z_getI (N := 20) 1 18 rfl f_0_72 rfl J rfl sg_32_18_19_1_0_1 (fun v2 qv2 ev2 => ?_)
      try rw [vrf qv2] at D
      refine x_iconst (v := 1) rfl ki_1 ?_
      refine z_isub rfl rfl jk_1 (by omega) (fun v3 ev3 => ?_)
      refine x_istoren (lsx9 := [(3, .int v3), (0, .ref 98), (1, .int l1), (2, .int l2)]) rfl rfl rfl ?_
      try rw [show (v2.toInt - 1) = v3.toInt from by omega] at D
      exact jX.sub (jsb_c rfl (jsb_c rfl (jsb_c rfl (jsb_c rfl jsb_n)))) (ct_X0_lastTurn_r98d_16 hD hQ ih 31 l1 l2 v3 v2 h (by omega) (jr_of rfl (by omega)) (jr_of rfl (by omega)) (jr_of rfl (by omega)) (jr_of rfl (by omega)) qv2 (by omega) J Sm D EV)
set_option maxRecDepth 100000 in
set_option maxHeartbeats 4000000 in
theorem sf_X0_lastTurn_r98d {Dy : jH → Prop} {h : jH} {Q : Option Value → jH → Prop} {dr : Int} {a1 : Int32} (y1 : 0 ≤ a1.toInt ∧ a1.toInt ≤ 3) (hD : jDk Dy) (J : jJ jSgX Dy h) (D : d_X0_lastTurn_r98d a1.toInt (vw h) = dr) (hQ : ∀ (v : Int32) hx9, (-1) ≤ v.toInt ∧ v.toInt ≤ 359 → jJ jSgX Dy hx9 → jSm fp_X0_lastTurn_r98d h hx9 → dr = v.toInt → vw hx9 = vw h → Q (some (.int v)) hx9) : jC m_X0_lastTurn 3 0 0 [.ref 98, .int a1] h Q := by
  refine jC.of rfl k_X0_lastTurn rfl ?_
  have Sm := jSm_rf fp_X0_lastTurn_r98d h
  show jX m_X0_lastTurn 3 0 0 0 [(0, .ref 98), (1, .int a1)] [] _ 0 0 _
  unfold d_X0_lastTurn_r98d at D
  have EV : vw h = vw h := rfl
  refine x_iconst (v := 1) rfl ki_1 ?_
  refine x_istoren (lsx9 := [(2, .int 1), (0, .ref 98), (1, .int a1)]) rfl rfl rfl ?_
  exact jX.sub (jsb_c rfl (jsb_c rfl (jsb_c rfl jsb_n))) (ct_X0_lastTurn_r98d_2 hD hQ  3 a1 1 h (by have := jk_1; omega) (jr_of rfl (by omega)) (jr_of jk_1 (by omega)) J Sm (by rw [jk_1]; exact D) EV)
def fp_X8_at_r47d : jFp := []
set_option maxRecDepth 100000 in
set_option maxHeartbeats 4000000 in
theorem ct_X8_at_r47d_24 {Dy : jH → Prop} {h0 : jH} {Q : Option Value → jH → Prop} {dr : Int} (hD : jDk Dy) (hQ : ∀ (v : Int32) hx9, 0 ≤ v.toInt ∧ v.toInt ≤ 10000 → jJ jSgX Dy hx9 → jSm fp_X8_at_r47d h0 hx9 → dr = v.toInt → vw hx9 = vw h0 → Q (some (.int v)) hx9) : ∀ (h : jH), jJ jSgX Dy h → jSm fp_X8_at_r47d h0 h → d_X8_at_r47d_24  (vw h) = dr → vw h = vw h0 → jX m_X8_at 1 0 0 24 [] [] h 0 0 Q := by
  intro  h    J Sm D EV
  unfold d_X8_at_r47d_24 at D
  refine x_iconst (v := 0) rfl ki_0 ?_
  refine x_iret rfl rfl ?_
  exact hQ _ _ (jr_of jk_0 (by omega)) J Sm (D.symm.trans (show 0 = (0 : Int32).toInt from by have := jk_0; omega)) EV
set_option maxRecDepth 100000 in
set_option maxHeartbeats 4000000 in
theorem sf_X8_at_r47d {Dy : jH → Prop} {h : jH} {Q : Option Value → jH → Prop} {dr : Int} {a1 : Int32} {a2 : Int32} (y1 : 0 ≤ a1.toInt ∧ a1.toInt ≤ 99) (y2 : 3 ≤ a2.toInt ∧ a2.toInt ≤ 3) (hD : jDk Dy) (J : jJ jSgX Dy h) (D : d_X8_at_r47d a1.toInt a2.toInt (vw h) = dr) (hQ : ∀ (v : Int32) hx9, 0 ≤ v.toInt ∧ v.toInt ≤ 10000 → jJ jSgX Dy hx9 → jSm fp_X8_at_r47d h hx9 → dr = v.toInt → vw hx9 = vw h → Q (some (.int v)) hx9) : jC m_X8_at 1 0 0 [.ref 47, .int a1, .int a2] h Q := by
  refine jC.of rfl k_X8_at rfl ?_
  have Sm := jSm_rf fp_X8_at_r47d h
  show jX m_X8_at 1 0 0 0 [(0, .ref 47), (1, .int a1), (2, .int a2)] [] _ 0 0 _
  unfold d_X8_at_r47d at D
  have EV : vw h = vw h := rfl
  refine x_iloadn (x := a1) rfl rfl ?_
  refine x_iflt (tgt := 24) rfl rfl (ti_lt rfl jk_0 (br_f (by omega) ?_))
  refine x_iloadn (x := a1) rfl rfl ?_
  refine x_aloadn (x := 47) rfl rfl ?_
  refine z_getI (N := 4) 8 3 rfl f_8_7 rfl J rfl sg_47_3_4_1_0_1 (fun v1 qv1 ev1 => ?_)
  try rw [vrf qv1] at D
  refine x_icge (tgt := 24) rfl rfl (ti_ge rfl rfl ⟨fun c2 => ?_, fun c2 => ?_⟩)
  ·
    rw [if_pos (by omega)] at D
    exact jX.sub jsb_n (ct_X8_at_r47d_24 hD hQ  h J Sm D EV)
  ·
    rw [if_neg (by omega)] at D
    refine x_iloadn (x := a2) rfl rfl ?_
    refine x_iflt (tgt := 24) rfl rfl (ti_lt rfl jk_0 (br_f (by omega) ?_))
    refine x_iloadn (x := a2) rfl rfl ?_
    refine x_aloadn (x := 47) rfl rfl ?_
    refine z_getC (N := 4) (v := 4) 8 0 rfl f_8_19 rfl J rfl sg_47_0_1_1_0_1 jk_4 ?_
    refine x_iclt (tgt := 26) rfl rfl (ti_lt rfl jk_4 (br_t (by omega) ?_))
    refine x_aloadn (x := 47) rfl rfl ?_
    refine z_getR (N := 4) (b := 48) 8 2 rfl f_8_25 rfl J rfl 6018 ⟨rfl, rfl⟩ rfl ?_
    refine x_iloadn (x := a1) rfl rfl ?_
    refine x_aloadn (x := 47) rfl rfl ?_
    refine z_getC (N := 4) (v := 4) 8 0 rfl f_8_19 rfl J rfl sg_47_0_1_1_0_1 jk_4 ?_
    refine z_imul rfl rfl jk_4 (by omega) (fun v3 ev3 => ?_)
    refine x_iloadn (x := a2) rfl rfl ?_
    refine z_iadd rfl rfl rfl (by omega) (fun v4 ev4 => ?_)
    refine z_iald (N := 400) rfl J rfl sg_48_0_400_4_3_4 rfl (by omega) (fun v5 qv5 ev5 => ?_)
    try rw [vrd qv5 (show ((a1.toInt * 4) + a2.toInt) = v4.toInt from by omega)] at D
    refine x_iret rfl rfl ?_
    exact hQ _ _ (jr_of rfl (by omega)) J Sm (D.symm.trans (show v5.toInt = v5.toInt from by omega)) EV
def fp_X8_at_r47_c1d : jFp := []
set_option maxRecDepth 100000 in
set_option maxHeartbeats 4000000 in
theorem ct_X8_at_r47_c1d_24 {Dy : jH → Prop} {h0 : jH} {Q : Option Value → jH → Prop} {dr : Int} (hD : jDk Dy) (hQ : ∀ (v : Int32) hx9, 0 ≤ v.toInt ∧ v.toInt ≤ 146399 → jJ jSgX Dy hx9 → jSm fp_X8_at_r47_c1d h0 hx9 → dr = v.toInt → vw hx9 = vw h0 → Q (some (.int v)) hx9) : ∀ (h : jH), jJ jSgX Dy h → jSm fp_X8_at_r47_c1d h0 h → d_X8_at_r47_c1d_24  (vw h) = dr → vw h = vw h0 → jX m_X8_at 1 0 0 24 [] [] h 0 0 Q := by
  intro  h    J Sm D EV
  unfold d_X8_at_r47_c1d_24 at D
  refine x_iconst (v := 0) rfl ki_0 ?_
  refine x_iret rfl rfl ?_
  exact hQ _ _ (jr_of jk_0 (by omega)) J Sm (D.symm.trans (show 0 = (0 : Int32).toInt from by have := jk_0; omega)) EV
set_option maxRecDepth 100000 in
set_option maxHeartbeats 4000000 in
theorem sf_X8_at_r47_c1d {Dy : jH → Prop} {h : jH} {Q : Option Value → jH → Prop} {dr : Int} {a1 : Int32} (y1 : 0 ≤ a1.toInt ∧ a1.toInt ≤ 99) (hD : jDk Dy) (J : jJ jSgX Dy h) (D : d_X8_at_r47_c1d a1.toInt (vw h) = dr) (hQ : ∀ (v : Int32) hx9, 0 ≤ v.toInt ∧ v.toInt ≤ 146399 → jJ jSgX Dy hx9 → jSm fp_X8_at_r47_c1d h hx9 → dr = v.toInt → vw hx9 = vw h → Q (some (.int v)) hx9) : jC m_X8_at 1 0 0 [.ref 47, .int a1, .int 1] h Q := by
  refine jC.of rfl k_X8_at rfl ?_
  have Sm := jSm_rf fp_X8_at_r47_c1d h
  show jX m_X8_at 1 0 0 0 [(0, .ref 47), (1, .int a1), (2, .int 1)] [] _ 0 0 _
  unfold d_X8_at_r47_c1d at D
  have EV : vw h = vw h := rfl
  refine x_iloadn (x := a1) rfl rfl ?_
  refine x_iflt (tgt := 24) rfl rfl (ti_lt rfl jk_0 (br_f (by omega) ?_))
  refine x_iloadn (x := a1) rfl rfl ?_
  refine x_aloadn (x := 47) rfl rfl ?_
  refine z_getI (N := 4) 8 3 rfl f_8_7 rfl J rfl sg_47_3_4_1_0_1 (fun v1 qv1 ev1 => ?_)
  try rw [vrf qv1] at D
  refine x_icge (tgt := 24) rfl rfl (ti_ge rfl rfl ⟨fun c2 => ?_, fun c2 => ?_⟩)
  ·
    rw [if_pos (by omega)] at D
    exact jX.sub jsb_n (ct_X8_at_r47_c1d_24 hD hQ  h J Sm D EV)
  ·
    rw [if_neg (by omega)] at D
    refine x_iloadn (x := 1) rfl rfl ?_
    refine x_iflt (tgt := 24) rfl rfl (ti_lt jk_1 jk_0 (br_f (by omega) ?_))
    refine x_iloadn (x := 1) rfl rfl ?_
    refine x_aloadn (x := 47) rfl rfl ?_
    refine z_getC (N := 4) (v := 4) 8 0 rfl f_8_19 rfl J rfl sg_47_0_1_1_0_1 jk_4 ?_
    refine x_iclt (tgt := 26) rfl rfl (ti_lt jk_1 jk_4 (br_t (by omega) ?_))
    refine x_aloadn (x := 47) rfl rfl ?_
    refine z_getR (N := 4) (b := 48) 8 2 rfl f_8_25 rfl J rfl 6018 ⟨rfl, rfl⟩ rfl ?_
    refine x_iloadn (x := a1) rfl rfl ?_
    refine x_aloadn (x := 47) rfl rfl ?_
    refine z_getC (N := 4) (v := 4) 8 0 rfl f_8_19 rfl J rfl sg_47_0_1_1_0_1 jk_4 ?_
    refine z_imul rfl rfl jk_4 (by omega) (fun v3 ev3 => ?_)
    refine x_iloadn (x := 1) rfl rfl ?_
    refine z_iadd rfl rfl jk_1 (by omega) (fun v4 ev4 => ?_)
    refine z_iald (N := 400) rfl J rfl sg_48_0_400_4_1_2 rfl (by omega) (fun v5 qv5 ev5 => ?_)
    try rw [vrd qv5 (show ((a1.toInt * 4) + 1) = v4.toInt from by omega)] at D
    refine x_iret rfl rfl ?_
    exact hQ _ _ (jr_of rfl (by omega)) J Sm (D.symm.trans (show v5.toInt = v5.toInt from by omega)) EV
def fp_X8_at_r47_c2d : jFp := []
set_option maxRecDepth 100000 in
set_option maxHeartbeats 4000000 in
theorem ct_X8_at_r47_c2d_24 {Dy : jH → Prop} {h0 : jH} {Q : Option Value → jH → Prop} {dr : Int} (hD : jDk Dy) (hQ : ∀ (v : Int32) hx9, 0 ≤ v.toInt ∧ v.toInt ≤ 39 → jJ jSgX Dy hx9 → jSm fp_X8_at_r47_c2d h0 hx9 → dr = v.toInt → vw hx9 = vw h0 → Q (some (.int v)) hx9) : ∀ (h : jH), jJ jSgX Dy h → jSm fp_X8_at_r47_c2d h0 h → d_X8_at_r47_c2d_24  (vw h) = dr → vw h = vw h0 → jX m_X8_at 1 0 0 24 [] [] h 0 0 Q := by
  intro  h    J Sm D EV
  unfold d_X8_at_r47_c2d_24 at D
  refine x_iconst (v := 0) rfl ki_0 ?_
  refine x_iret rfl rfl ?_
  exact hQ _ _ (jr_of jk_0 (by omega)) J Sm (D.symm.trans (show 0 = (0 : Int32).toInt from by have := jk_0; omega)) EV
set_option maxRecDepth 100000 in
set_option maxHeartbeats 4000000 in
theorem sf_X8_at_r47_c2d {Dy : jH → Prop} {h : jH} {Q : Option Value → jH → Prop} {dr : Int} {a1 : Int32} (y1 : 0 ≤ a1.toInt ∧ a1.toInt ≤ 99) (hD : jDk Dy) (J : jJ jSgX Dy h) (D : d_X8_at_r47_c2d a1.toInt (vw h) = dr) (hQ : ∀ (v : Int32) hx9, 0 ≤ v.toInt ∧ v.toInt ≤ 39 → jJ jSgX Dy hx9 → jSm fp_X8_at_r47_c2d h hx9 → dr = v.toInt → vw hx9 = vw h → Q (some (.int v)) hx9) : jC m_X8_at 1 0 0 [.ref 47, .int a1, .int 2] h Q := by
  refine jC.of rfl k_X8_at rfl ?_
  have Sm := jSm_rf fp_X8_at_r47_c2d h
  show jX m_X8_at 1 0 0 0 [(0, .ref 47), (1, .int a1), (2, .int 2)] [] _ 0 0 _
  unfold d_X8_at_r47_c2d at D
  have EV : vw h = vw h := rfl
  refine x_iloadn (x := a1) rfl rfl ?_
  refine x_iflt (tgt := 24) rfl rfl (ti_lt rfl jk_0 (br_f (by omega) ?_))
  refine x_iloadn (x := a1) rfl rfl ?_
  refine x_aloadn (x := 47) rfl rfl ?_
  refine z_getI (N := 4) 8 3 rfl f_8_7 rfl J rfl sg_47_3_4_1_0_1 (fun v1 qv1 ev1 => ?_)
  try rw [vrf qv1] at D
  refine x_icge (tgt := 24) rfl rfl (ti_ge rfl rfl ⟨fun c2 => ?_, fun c2 => ?_⟩)
  ·
    rw [if_pos (by omega)] at D
    exact jX.sub jsb_n (ct_X8_at_r47_c2d_24 hD hQ  h J Sm D EV)
  ·
    rw [if_neg (by omega)] at D
    refine x_iloadn (x := 2) rfl rfl ?_
    refine x_iflt (tgt := 24) rfl rfl (ti_lt jk_2 jk_0 (br_f (by omega) ?_))
    refine x_iloadn (x := 2) rfl rfl ?_
    refine x_aloadn (x := 47) rfl rfl ?_
    refine z_getC (N := 4) (v := 4) 8 0 rfl f_8_19 rfl J rfl sg_47_0_1_1_0_1 jk_4 ?_
    refine x_iclt (tgt := 26) rfl rfl (ti_lt jk_2 jk_4 (br_t (by omega) ?_))
    refine x_aloadn (x := 47) rfl rfl ?_
    refine z_getR (N := 4) (b := 48) 8 2 rfl f_8_25 rfl J rfl 6018 ⟨rfl, rfl⟩ rfl ?_
    refine x_iloadn (x := a1) rfl rfl ?_
    refine x_aloadn (x := 47) rfl rfl ?_
    refine z_getC (N := 4) (v := 4) 8 0 rfl f_8_19 rfl J rfl sg_47_0_1_1_0_1 jk_4 ?_
    refine z_imul rfl rfl jk_4 (by omega) (fun v3 ev3 => ?_)
    refine x_iloadn (x := 2) rfl rfl ?_
    refine z_iadd rfl rfl jk_2 (by omega) (fun v4 ev4 => ?_)
    refine z_iald (N := 400) rfl J rfl sg_48_0_400_4_2_3 rfl (by omega) (fun v5 qv5 ev5 => ?_)
    try rw [vrd qv5 (show ((a1.toInt * 4) + 2) = v4.toInt from by omega)] at D
    refine x_iret rfl rfl ?_
    exact hQ _ _ (jr_of rfl (by omega)) J Sm (D.symm.trans (show v5.toInt = v5.toInt from by omega)) EV
def fp_X8_isKnown_r47d : jFp := []
set_option maxRecDepth 100000 in
set_option maxHeartbeats 4000000 in
theorem ct_X8_isKnown_r47d_300032 {Dy : jH → Prop} {h0 : jH} {Q : Option Value → jH → Prop} {dr : Int} (hD : jDk Dy) (hQ : ∀ (v : Int32) hx9, 0 ≤ v.toInt ∧ v.toInt ≤ 1 → jJ jSgX Dy hx9 → jSm fp_X8_isKnown_r47d h0 hx9 → dr = v.toInt → vw hx9 = vw h0 → Q (some (.int v)) hx9) : ∀ (h : jH), jJ jSgX Dy h → jSm fp_X8_isKnown_r47d h0 h → d_X8_isKnown_r47d_300032  (vw h) = dr → vw h = vw h0 → jX m_X8_isKnown 1 0 0 32 [] [.int 1] h 0 0 Q := by
  intro  h    J Sm D EV
  unfold d_X8_isKnown_r47d_300032 at D
  refine x_zret rfl rfl (by decide) ?_
  exact hQ _ _ (jr_of jk_1 (by omega)) J Sm (D.symm.trans (show 1 = (1 : Int32).toInt from by have := jk_1; omega)) EV
set_option maxRecDepth 100000 in
set_option maxHeartbeats 4000000 in
theorem ct_X8_isKnown_r47d_200032 {Dy : jH → Prop} {h0 : jH} {Q : Option Value → jH → Prop} {dr : Int} (hD : jDk Dy) (hQ : ∀ (v : Int32) hx9, 0 ≤ v.toInt ∧ v.toInt ≤ 1 → jJ jSgX Dy hx9 → jSm fp_X8_isKnown_r47d h0 hx9 → dr = v.toInt → vw hx9 = vw h0 → Q (some (.int v)) hx9) : ∀ (h : jH), jJ jSgX Dy h → jSm fp_X8_isKnown_r47d h0 h → d_X8_isKnown_r47d_200032  (vw h) = dr → vw h = vw h0 → jX m_X8_isKnown 1 0 0 32 [] [.int 0] h 0 0 Q := by
  intro  h    J Sm D EV
  unfold d_X8_isKnown_r47d_200032 at D
  refine x_zret rfl rfl (by decide) ?_
  exact hQ _ _ (jr_of jk_0 (by omega)) J Sm (D.symm.trans (show 0 = (0 : Int32).toInt from by have := jk_0; omega)) EV
set_option maxRecDepth 100000 in
set_option maxHeartbeats 4000000 in
theorem ct_X8_isKnown_r47d_31 {Dy : jH → Prop} {h0 : jH} {Q : Option Value → jH → Prop} {dr : Int} (hD : jDk Dy) (hQ : ∀ (v : Int32) hx9, 0 ≤ v.toInt ∧ v.toInt ≤ 1 → jJ jSgX Dy hx9 → jSm fp_X8_isKnown_r47d h0 hx9 → dr = v.toInt → vw hx9 = vw h0 → Q (some (.int v)) hx9) : ∀ (h : jH), jJ jSgX Dy h → jSm fp_X8_isKnown_r47d h0 h → d_X8_isKnown_r47d_31  (vw h) = dr → vw h = vw h0 → jX m_X8_isKnown 1 0 0 31 [] [] h 0 0 Q := by
  intro  h    J Sm D EV
  unfold d_X8_isKnown_r47d_31 at D
  refine x_iconst (v := 0) rfl ki_0 ?_
  exact jX.sub jsb_n (ct_X8_isKnown_r47d_200032 hD hQ  h J Sm D EV)
set_option maxRecDepth 100000 in
set_option maxHeartbeats 4000000 in
theorem sf_X8_isKnown_r47d {Dy : jH → Prop} {h : jH} {Q : Option Value → jH → Prop} {dr : Int} {a1 : Int32} {a2 : Int32} (y1 : 0 ≤ a1.toInt ∧ a1.toInt ≤ 99) (y2 : 0 ≤ a2.toInt ∧ a2.toInt ≤ 146399) (hD : jDk Dy) (J : jJ jSgX Dy h) (D : d_X8_isKnown_r47d a1.toInt a2.toInt (vw h) = dr) (hQ : ∀ (v : Int32) hx9, 0 ≤ v.toInt ∧ v.toInt ≤ 1 → jJ jSgX Dy hx9 → jSm fp_X8_isKnown_r47d h hx9 → dr = v.toInt → vw hx9 = vw h → Q (some (.int v)) hx9) : jC m_X8_isKnown 1 0 0 [.ref 47, .int a1, .int a2] h Q := by
  refine jC.of rfl k_X8_isKnown rfl ?_
  have Sm := jSm_rf fp_X8_isKnown_r47d h
  show jX m_X8_isKnown 1 0 0 0 [(0, .ref 47), (1, .int a1), (2, .int a2)] [] _ 0 0 _
  unfold d_X8_isKnown_r47d at D
  have EV : vw h = vw h := rfl
  refine x_iloadn (x := a1) rfl rfl ?_
  refine x_iflt (tgt := 31) rfl rfl (ti_lt rfl jk_0 (br_f (by omega) ?_))
  refine x_iloadn (x := a1) rfl rfl ?_
  refine x_aloadn (x := 47) rfl rfl ?_
  refine z_getI (N := 4) 8 3 rfl f_8_7 rfl J rfl sg_47_3_4_1_0_1 (fun v1 qv1 ev1 => ?_)
  try rw [vrf qv1] at D
  refine x_icge (tgt := 31) rfl rfl (ti_ge rfl rfl ⟨fun c2 => ?_, fun c2 => ?_⟩)
  ·
    rw [if_pos (by omega)] at D
    exact jX.sub jsb_n (ct_X8_isKnown_r47d_31 hD hQ  h J Sm D EV)
  ·
    rw [if_neg (by omega)] at D
    refine x_aloadn (x := 47) rfl rfl ?_
    refine z_getR (N := 4) (b := 48) 8 2 rfl f_8_25 rfl J rfl 6018 ⟨rfl, rfl⟩ rfl ?_
    refine x_iloadn (x := a1) rfl rfl ?_
    refine x_aloadn (x := 47) rfl rfl ?_
    refine z_getC (N := 4) (v := 4) 8 0 rfl f_8_19 rfl J rfl sg_47_0_1_1_0_1 jk_4 ?_
    refine z_imul rfl rfl jk_4 (by omega) (fun v3 ev3 => ?_)
    refine z_iald (N := 400) rfl J rfl sg_48_0_400_4_0_1 rfl (by omega) (fun v4 qv4 ev4 => ?_)
    try rw [vrd qv4 (show (a1.toInt * 4) = v3.toInt from by omega)] at D
    refine x_iloadn (x := a2) rfl rfl ?_
    refine x_icgt (tgt := 31) rfl rfl (ti_gt rfl rfl ⟨fun c5 => ?_, fun c5 => ?_⟩)
    ·
      rw [if_pos (by omega)] at D
      exact jX.sub jsb_n (ct_X8_isKnown_r47d_31 hD hQ  h J Sm D EV)
    ·
      rw [if_neg (by omega)] at D
      refine x_iconst (v := 1) rfl ki_1 ?_
      refine x_goto (tgt := 32) rfl rfl ?_
      exact jX.sub jsb_n (ct_X8_isKnown_r47d_300032 hD hQ  h J Sm D EV)
def fp_X0_readLatest_r98_r47_r102d : jFp := [(102, 0, 40), (104, 0, 40)]
set_option maxRecDepth 100000 in
set_option maxHeartbeats 4000000 in
theorem ct_X0_readLatest_r98_r47_r102d_155 {Dy : jH → Prop} {h0 : jH} {Q : Option Value → jH → Prop} {dr : jW} {K55 : Int → Int → jW → jW} {R55 : Int} (hD : jDk Dy) (hQ : ∀ hx9, jJ jSgX Dy hx9 → jSm fp_X0_readLatest_r98_r47_r102d h0 hx9 → dr = vw hx9 → Q none hx9) (k55 : ∀ (l2 : Int32) (l5 : Int32) (h : jH), 100 - l5.toInt < R55 → 3 ≤ l2.toInt ∧ l2.toInt ≤ 3 → 0 ≤ l5.toInt ∧ l5.toInt ≤ 100 → jJ jSgX Dy h → jSm fp_X0_readLatest_r98_r47_r102d h0 h → K55 l2.toInt l5.toInt (vw h) = dr → jX m_X0_readLatest 2 0 0 55 [(0, .ref 98), (1, .ref 47), (2, .int l2), (3, .ref 102), (5, .int l5)] [] h 0 0 Q) : ∀ (l2 : Int32) (l5 : Int32) (h : jH), 3 ≤ l2.toInt ∧ l2.toInt ≤ 3 → 0 ≤ l5.toInt ∧ l5.toInt ≤ 99 → 100 - l5.toInt ≤ R55 → jJ jSgX Dy h → jSm fp_X0_readLatest_r98_r47_r102d h0 h → d_X0_readLatest_r98_r47_r102d_155 K55  l2.toInt l5.toInt (vw h) = dr → jX m_X0_readLatest 2 0 0 155 [(0, .ref 98), (1, .ref 47), (2, .int l2), (3, .ref 102), (5, .int l5)] [] h 0 0 Q := by
  intro l2 l5 h y0 y1  m55 J Sm D
  unfold d_X0_readLatest_r98_r47_r102d_155 at D
  refine z_iinc (x := l5) (lsx9 := fun v1 => [(5, .int v1), (0, .ref 98), (1, .ref 47), (2, .int l2), (3, .ref 102)]) rfl rfl rfl jko_1 (by omega) rfl (fun _ => rfl) (fun v1 ev1 => ?_)
  refine x_goto (tgt := 55) rfl rfl ?_
  try rw [show (l5.toInt + 1) = v1.toInt from by omega] at D
  exact jX.sub (jsb_c rfl (jsb_c rfl (jsb_c rfl (jsb_c rfl (jsb_c rfl jsb_n))))) (k55 l2 v1 h (by omega) (jr_of rfl (by omega)) (jr_of rfl (by omega)) J Sm D)
set_option maxRecDepth 100000 in
set_option maxHeartbeats 4000000 in
theorem ct_X0_readLatest_r98_r47_r102d_55 {Dy : jH → Prop} {h0 : jH} {Q : Option Value → jH → Prop} {dr : jW} (hD : jDk Dy) (hQ : ∀ hx9, jJ jSgX Dy hx9 → jSm fp_X0_readLatest_r98_r47_r102d h0 hx9 → dr = vw hx9 → Q none hx9) : ∀ r : Nat, ∀ (l2 : Int32) (l5 : Int32) (h : jH), 100 - l5.toInt < (r : Int) → 3 ≤ l2.toInt ∧ l2.toInt ≤ 3 → 0 ≤ l5.toInt ∧ l5.toInt ≤ 100 → jJ jSgX Dy h → jSm fp_X0_readLatest_r98_r47_r102d h0 h → d_X0_readLatest_r98_r47_r102d_55 r l2.toInt l5.toInt (vw h) = dr → jX m_X0_readLatest 2 0 0 55 [(0, .ref 98), (1, .ref 47), (2, .int l2), (3, .ref 102), (5, .int l5)] [] h 0 0 Q := by
  intro r
  induction r with
  | zero =>
    intro l2 l5 h hm y0 y1   J Sm D
    exfalso
    omega
  | succ r ih =>
    intro l2 l5 h hm y0 y1   J Sm D
    rw [d_X0_readLatest_r98_r47_r102d_55.eq_2] at D
    refine x_iload (x := l5) rfl rfl ?_
    refine x_aloadn (x := 47) rfl rfl ?_
    refine z_getI (N := 4) 8 3 rfl f_0_124 rfl J rfl sg_47_3_4_1_0_1 (fun v1 qv1 ev1 => ?_)
    try rw [vrf qv1] at D
    refine x_icge (tgt := 161) rfl rfl (ti_ge rfl rfl ⟨fun c2 => ?_, fun c2 => ?_⟩)
    ·
      rw [if_pos (by omega)] at D
      refine x_vret rfl rfl ?_
      exact hQ _ J Sm D.symm
    ·
      rw [if_neg (by omega)] at D
      refine x_aloadn (x := 47) rfl rfl ?_
      refine x_iload (x := l5) rfl rfl ?_
      refine x_iconst (v := 2) rfl ki_2 ?_
      refine x_inv (N := m_X8_at) (As := [.int l5, .int 2]) (b := 47) (st := []) (dx9 := 1) (mc := 0) (ms := 0) (host := "") 8 rfl t_X8_at ⟨Or.inl q_0_145, i_X8_at.1, i_X8_at.2⟩ ⟨by decide, rfl⟩ (congrArg Prod.fst (J.1.1 47 (8, 4) rfl)) rfl (by decide) rfl rfl ⟨by decide, by decide⟩ (sf_X8_at_r47_c2d (jr_of rfl (by omega)) hD J rfl  (fun v6 h ev6 J S3 X4 X5 => ?_))
      have Sm := jSm_tr rfl Sm S3
      try rw [X4] at D
      try rw [← X5] at D
      show jX m_X0_readLatest 2 0 0 71 [(0, .ref 98), (1, .ref 47), (2, .int l2), (3, .ref 102), (5, .int l5)] [.int v6] _ 0 0 _
      refine x_istore (lsx9 := [(6, .int v6), (0, .ref 98), (1, .ref 47), (2, .int l2), (3, .ref 102), (5, .int l5)]) rfl rfl rfl ?_
      refine x_aloadn (x := 47) rfl rfl ?_
      refine x_iload (x := l5) rfl rfl ?_
      refine x_iconst (v := 1) rfl ki_1 ?_
      refine x_inv (N := m_X8_at) (As := [.int l5, .int 1]) (b := 47) (st := []) (dx9 := 1) (mc := 0) (ms := 0) (host := "") 8 rfl t_X8_at ⟨Or.inl q_0_145, i_X8_at.1, i_X8_at.2⟩ ⟨by decide, rfl⟩ (congrArg Prod.fst (J.1.1 47 (8, 4) rfl)) rfl (by decide) rfl rfl ⟨by decide, by decide⟩ (sf_X8_at_r47_c1d (jr_of rfl (by omega)) hD J rfl  (fun v10 h ev10 J S7 X8 X9 => ?_))
      have Sm := jSm_tr rfl Sm S7
      try rw [X8] at D
      try rw [← X9] at D
      show jX m_X0_readLatest 2 0 0 80 [(6, .int v6), (0, .ref 98), (1, .ref 47), (2, .int l2), (3, .ref 102), (5, .int l5)] [.int v10] _ 0 0 _
      refine x_istore (lsx9 := [(7, .int v10), (6, .int v6), (0, .ref 98), (1, .ref 47), (2, .int l2), (3, .ref 102), (5, .int l5)]) rfl rfl rfl ?_
      refine x_aloadn (x := 47) rfl rfl ?_
      refine x_iload (x := l5) rfl rfl ?_
      refine x_aloadn (x := 98) rfl rfl ?_
      refine z_getI (N := 16) 0 11 rfl f_0_41 rfl J rfl sg_98_11_12_1_0_1 (fun v11 qv11 ev11 => ?_)
      try rw [vrf qv11] at D
      refine x_inv (N := m_X8_isKnown) (As := [.int l5, .int v11]) (b := 47) (st := []) (dx9 := 1) (mc := 0) (ms := 0) (host := "") 8 rfl t_X8_isKnown ⟨Or.inl q_0_151, i_X8_isKnown.1, i_X8_isKnown.2⟩ ⟨by decide, rfl⟩ (congrArg Prod.fst (J.1.1 47 (8, 4) rfl)) rfl (by decide) rfl rfl ⟨by decide, by decide⟩ (sf_X8_isKnown_r47d (jr_of rfl (by omega)) (jr_of rfl (by omega)) hD J rfl  (fun v15 h ev15 J S12 X13 X14 => ?_))
      have Sm := jSm_tr rfl Sm S12
      try rw [X13] at D
      try rw [← X14] at D
      show jX m_X0_readLatest 2 0 0 92 [(7, .int v10), (6, .int v6), (0, .ref 98), (1, .ref 47), (2, .int l2), (3, .ref 102), (5, .int l5)] [.int v15] _ 0 0 _
      refine x_ifeq (tgt := 155) rfl rfl (ti_eq rfl jk_0 ⟨fun c16 => ?_, fun c16 => ?_⟩)
      ·
        rw [if_pos (by omega)] at D
        exact jX.sub (jsb_c rfl (jsb_c rfl (jsb_c rfl (jsb_c rfl (jsb_c rfl jsb_n))))) (ct_X0_readLatest_r98_r47_r102d_155 hD hQ ih l2 l5 h (jr_of rfl (by omega)) (jr_of rfl (by omega)) (by omega) J Sm D)
      ·
        rw [if_neg (by omega)] at D
        refine x_iload (x := v10) rfl rfl ?_
        refine x_aloadn (x := 98) rfl rfl ?_
        refine z_getI (N := 16) 0 10 rfl f_0_37 rfl J rfl sg_98_10_11_1_0_1 (fun v17 qv17 ev17 => ?_)
        try rw [vrf qv17] at D
        refine x_icgt (tgt := 155) rfl rfl (ti_gt rfl rfl ⟨fun c18 => ?_, fun c18 => ?_⟩)
        ·
          rw [if_pos (by omega)] at D
          exact jX.sub (jsb_c rfl (jsb_c rfl (jsb_c rfl (jsb_c rfl (jsb_c rfl jsb_n))))) (ct_X0_readLatest_r98_r47_r102d_155 hD hQ ih l2 l5 h (jr_of rfl (by omega)) (jr_of rfl (by omega)) (by omega) J Sm D)
        ·
          rw [if_neg (by omega)] at D
          refine x_iload (x := v6) rfl rfl ?_
          refine x_iflt (tgt := 155) rfl rfl (ti_lt rfl jk_0 (br_f (by omega) ?_))
          refine x_iload (x := v6) rfl rfl ?_
          refine x_bipush (v := 40) rfl kb_40 ?_
          refine x_icge (tgt := 155) rfl rfl (ti_ge rfl jk_40 (br_f (by omega) ?_))
          refine x_iload (x := v6) rfl rfl ?_
          refine x_aloadn (x := 102) rfl rfl ?_
          refine z_alen (N := 40) (v := 40) rfl J rfl rfl (by decide) ?_
          refine x_icge (tgt := 155) rfl rfl (ti_ge rfl jk_40 (br_f (by omega) ?_))
          refine x_iload (x := v10) rfl rfl ?_
          refine x_aloadn (x := 98) rfl rfl ?_
          refine z_getR (N := 16) (b := 104) 0 7 rfl f_0_27 rfl J rfl 12551 ⟨rfl, rfl⟩ rfl ?_
          refine x_iload (x := v6) rfl rfl ?_
          refine z_iald (N := 40) rfl J rfl sg_104_0_40_1_0_1 rfl (by omega) (fun v19 qv19 ev19 => ?_)
          try rw [vrd qv19 (show v6.toInt = v6.toInt from by omega)] at D
          refine x_iclt (tgt := 155) rfl rfl (ti_lt rfl rfl ⟨fun c20 => ?_, fun c20 => ?_⟩)
          ·
            rw [if_pos (by omega)] at D
            exact jX.sub (jsb_c rfl (jsb_c rfl (jsb_c rfl (jsb_c rfl (jsb_c rfl jsb_n))))) (ct_X0_readLatest_r98_r47_r102d_155 hD hQ ih l2 l5 h (jr_of rfl (by omega)) (jr_of rfl (by omega)) (by omega) J Sm D)
          ·
            rw [if_neg (by omega)] at D
            refine x_aloadn (x := 98) rfl rfl ?_
            refine z_getR (N := 16) (b := 104) 0 7 rfl f_0_27 rfl J rfl 12551 ⟨rfl, rfl⟩ rfl ?_
            refine x_iload (x := v6) rfl rfl ?_
            refine x_iload (x := v10) rfl rfl ?_
            refine z_iast (N := 40) (l := 0) (u := 40) (w := v10.toInt) rfl hD J Sm rfl rfl rfl (by omega) rfl (wr_104 (fun q1 q2 q3 q4 => by omega)) rfl (fun h w21 J Sm => ?_)
            rw [vww w21 (show v6.toInt = v6.toInt from by omega) (show v10.toInt = v10.toInt from by omega)] at D
            refine x_aloadn (x := 102) rfl rfl ?_
            refine x_iload (x := v6) rfl rfl ?_
            refine x_aloadn (x := 47) rfl rfl ?_
            refine x_iload (x := l5) rfl rfl ?_
            refine x_iloadn (x := l2) rfl rfl ?_
            refine x_inv (N := m_X8_at) (As := [.int l5, .int l2]) (b := 47) (st := [.int v6, .ref 102]) (dx9 := 1) (mc := 0) (ms := 0) (host := "") 8 rfl t_X8_at ⟨Or.inl q_0_145, i_X8_at.1, i_X8_at.2⟩ ⟨by decide, rfl⟩ (congrArg Prod.fst (J.1.1 47 (8, 4) rfl)) rfl (by decide) rfl rfl ⟨by decide, by decide⟩ (sf_X8_at_r47d (jr_of rfl (by omega)) (jr_of rfl (by omega)) hD J rfl  (fun v25 h ev25 J S22 X23 X24 => ?_))
            have Sm := jSm_tr rfl Sm S22
            try rw [X23] at D
            try rw [← X24] at D
            show jX m_X0_readLatest 2 0 0 154 [(7, .int v10), (6, .int v6), (0, .ref 98), (1, .ref 47), (2, .int l2), (3, .ref 102), (5, .int l5)] [.int v25, .int v6, .ref 102] _ 0 0 _
            refine z_iast (N := 40) (l := 0) (u := 40) (w := v25.toInt) rfl hD J Sm rfl rfl rfl (by omega) rfl (wr_102) rfl (fun h w26 J Sm => ?_)
            rw [vww w26 (show v6.toInt = v6.toInt from by omega) (show v25.toInt = v25.toInt from by omega)] at D
            exact jX.sub (jsb_c rfl (jsb_c rfl (jsb_c rfl (jsb_c rfl (jsb_c rfl jsb_n))))) (ct_X0_readLatest_r98_r47_r102d_155 hD hQ ih l2 l5 h (jr_of rfl (by omega)) (jr_of rfl (by omega)) (by omega) J Sm D)
set_option maxRecDepth 100000 in
set_option maxHeartbeats 4000000 in
theorem ct_X0_readLatest_r98_r47_r102d_52 {Dy : jH → Prop} {h0 : jH} {Q : Option Value → jH → Prop} {dr : jW} (hD : jDk Dy) (hQ : ∀ hx9, jJ jSgX Dy hx9 → jSm fp_X0_readLatest_r98_r47_r102d h0 hx9 → dr = vw hx9 → Q none hx9) : ∀ (l2 : Int32) (h : jH), 3 ≤ l2.toInt ∧ l2.toInt ≤ 3 → jJ jSgX Dy h → jSm fp_X0_readLatest_r98_r47_r102d h0 h → d_X0_readLatest_r98_r47_r102d_52  l2.toInt (vw h) = dr → jX m_X0_readLatest 2 0 0 52 [(0, .ref 98), (1, .ref 47), (2, .int l2), (3, .ref 102)] [] h 0 0 Q := by
  intro l2 h y0   J Sm D
  unfold d_X0_readLatest_r98_r47_r102d_52 at D
  refine x_iconst (v := 0) rfl ki_0 ?_
  refine x_istore (lsx9 := [(5, .int 0), (0, .ref 98), (1, .ref 47), (2, .int l2), (3, .ref 102)]) rfl rfl rfl ?_
  exact jX.sub (jsb_c rfl (jsb_c rfl (jsb_c rfl (jsb_c rfl (jsb_c rfl jsb_n))))) (ct_X0_readLatest_r98_r47_r102d_55 hD hQ  101 l2 0 h (by have := jk_0; omega) (jr_of rfl (by omega)) (jr_of jk_0 (by omega)) J Sm (by rw [jk_0]; exact D))
set_option maxRecDepth 100000 in
set_option maxHeartbeats 4000000 in
theorem ct_X0_readLatest_r98_r47_r102d_3 {Dy : jH → Prop} {h0 : jH} {Q : Option Value → jH → Prop} {dr : jW} (hD : jDk Dy) (hQ : ∀ hx9, jJ jSgX Dy hx9 → jSm fp_X0_readLatest_r98_r47_r102d h0 hx9 → dr = vw hx9 → Q none hx9) : ∀ r : Nat, ∀ (l2 : Int32) (l4 : Int32) (l5 : Int32) (h : jH), 40 - l5.toInt < (r : Int) → 3 ≤ l2.toInt ∧ l2.toInt ≤ 3 → 0 ≤ l4.toInt ∧ l4.toInt ≤ 0 → 0 ≤ l5.toInt ∧ l5.toInt ≤ 40 → jJ jSgX Dy h → jSm fp_X0_readLatest_r98_r47_r102d h0 h → d_X0_readLatest_r98_r47_r102d_3 r l2.toInt l4.toInt l5.toInt (vw h) = dr → jX m_X0_readLatest 2 0 0 3 [(0, .ref 98), (1, .ref 47), (2, .int l2), (3, .ref 102), (4, .int l4), (5, .int l5)] [] h 0 0 Q := by
  intro r
  induction r with
  | zero =>
    intro l2 l4 l5 h hm y0 y1 y2   J Sm D
    exfalso
    omega
  | succ r ih =>
    intro l2 l4 l5 h hm y0 y1 y2   J Sm D
    rw [d_X0_readLatest_r98_r47_r102d_3.eq_2] at D
    refine x_iload (x := l5) rfl rfl ?_
    refine x_bipush (v := 40) rfl kb_40 ?_
    refine x_icge (tgt := 52) rfl rfl (ti_ge rfl jk_40 ⟨fun c1 => ?_, fun c1 => ?_⟩)
    ·
      rw [if_pos (by omega)] at D
      exact jX.sub (jsb_c rfl (jsb_c rfl (jsb_c rfl (jsb_c rfl jsb_n)))) (ct_X0_readLatest_r98_r47_r102d_52 hD hQ  l2 h (jr_of rfl (by omega)) J Sm D)
    ·
      rw [if_neg (by omega)] at D
      refine x_iload (x := l5) rfl rfl ?_
      refine x_aloadn (x := 98) rfl rfl ?_
      refine z_getR (N := 16) (b := 32) 0 0 rfl f_0_57 rfl J rfl 12544 ⟨rfl, rfl⟩ rfl ?_
      refine z_getR (N := 20) (b := 49) 1 8 rfl f_0_120 rfl J rfl 4104 ⟨rfl, rfl⟩ rfl ?_
      refine z_getI (N := 4) 8 3 rfl f_0_124 rfl J rfl sg_49_3_4_1_0_1 (fun v2 qv2 ev2 => ?_)
      try rw [vrf qv2] at D
      refine x_icge (tgt := 52) rfl rfl (ti_ge rfl rfl ⟨fun c3 => ?_, fun c3 => ?_⟩)
      ·
        rw [if_pos (by omega)] at D
        exact jX.sub (jsb_c rfl (jsb_c rfl (jsb_c rfl (jsb_c rfl jsb_n)))) (ct_X0_readLatest_r98_r47_r102d_52 hD hQ  l2 h (jr_of rfl (by omega)) J Sm D)
      ·
        rw [if_neg (by omega)] at D
        refine x_iload (x := l5) rfl rfl ?_
        refine x_aloadn (x := 102) rfl rfl ?_
        refine z_alen (N := 40) (v := 40) rfl J rfl rfl (by decide) ?_
        refine x_icge (tgt := 52) rfl rfl (ti_ge rfl jk_40 (br_f (by omega) ?_))
        refine x_aloadn (x := 102) rfl rfl ?_
        refine x_iload (x := l5) rfl rfl ?_
        refine x_iload (x := l4) rfl rfl ?_
        refine z_iast (N := 40) (l := 0) (u := 40) (w := l4.toInt) rfl hD J Sm rfl rfl rfl (by omega) rfl (wr_102) rfl (fun h w4 J Sm => ?_)
        rw [vww w4 (show l5.toInt = l5.toInt from by omega) (show l4.toInt = l4.toInt from by omega)] at D
        refine x_aloadn (x := 98) rfl rfl ?_
        refine z_getR (N := 16) (b := 104) 0 7 rfl f_0_27 rfl J rfl 12551 ⟨rfl, rfl⟩ rfl ?_
        refine x_iload (x := l5) rfl rfl ?_
        refine x_iconst (v := (-1)) rfl ki_m1 ?_
        refine z_iast (N := 40) (l := 0) (u := 40) (w := (-1)) rfl hD J Sm rfl rfl rfl (by omega) jk_m1 (wr_104 (fun q1 q2 q3 q4 => by omega)) rfl (fun h w5 J Sm => ?_)
        rw [vww w5 (show l5.toInt = l5.toInt from by omega) (show (-1) = ((-1) : Int32).toInt from by have := jk_m1; omega)] at D
        refine z_iinc (x := l5) (lsx9 := fun v6 => [(5, .int v6), (0, .ref 98), (1, .ref 47), (2, .int l2), (3, .ref 102), (4, .int l4)]) rfl rfl rfl jko_1 (by omega) rfl (fun _ => rfl) (fun v6 ev6 => ?_)
        refine x_goto (tgt := 3) rfl rfl ?_
        try rw [show (l5.toInt + 1) = v6.toInt from by omega] at D
        exact jX.sub (jsb_c rfl (jsb_c rfl (jsb_c rfl (jsb_c rfl (jsb_c rfl (jsb_c rfl jsb_n)))))) (ih l2 l4 v6 h (by omega) (jr_of rfl (by omega)) (jr_of rfl (by omega)) (jr_of rfl (by omega)) J Sm D)
set_option maxRecDepth 100000 in
set_option maxHeartbeats 4000000 in
theorem sf_X0_readLatest_r98_r47_r102d {Dy : jH → Prop} {h : jH} {Q : Option Value → jH → Prop} {dr : jW} {a1 : Int32} {a2 : Int32} (y1 : 3 ≤ a1.toInt ∧ a1.toInt ≤ 3) (y2 : 0 ≤ a2.toInt ∧ a2.toInt ≤ 0) (hD : jDk Dy) (J : jJ jSgX Dy h) (D : d_X0_readLatest_r98_r47_r102d a1.toInt a2.toInt (vw h) = dr) (hQ : ∀ hx9, jJ jSgX Dy hx9 → jSm fp_X0_readLatest_r98_r47_r102d h hx9 → dr = vw hx9 → Q none hx9) : jC m_X0_readLatest 2 0 0 [.ref 98, .ref 47, .int a1, .ref 102, .int a2] h Q := by
  refine jC.of rfl k_X0_readLatest rfl ?_
  have Sm := jSm_rf fp_X0_readLatest_r98_r47_r102d h
  show jX m_X0_readLatest 2 0 0 0 [(0, .ref 98), (1, .ref 47), (2, .int a1), (3, .ref 102), (4, .int a2)] [] _ 0 0 _
  unfold d_X0_readLatest_r98_r47_r102d at D
  refine x_iconst (v := 0) rfl ki_0 ?_
  refine x_istore (lsx9 := [(5, .int 0), (0, .ref 98), (1, .ref 47), (2, .int a1), (3, .ref 102), (4, .int a2)]) rfl rfl rfl ?_
  exact jX.sub (jsb_c rfl (jsb_c rfl (jsb_c rfl (jsb_c rfl (jsb_c rfl (jsb_c rfl jsb_n)))))) (ct_X0_readLatest_r98_r47_r102d_3 hD hQ  41 a1 a2 0 h (by have := jk_0; omega) (jr_of rfl (by omega)) (jr_of rfl (by omega)) (jr_of jk_0 (by omega)) J Sm (by rw [jk_0]; exact D))
def fp_X8_at_r51d : jFp := []
set_option maxRecDepth 100000 in
set_option maxHeartbeats 4000000 in
theorem ct_X8_at_r51d_24 {Dy : jH → Prop} {h0 : jH} {Q : Option Value → jH → Prop} {dr : Int} (hD : jDk Dy) (hQ : ∀ (v : Int32) hx9, (-1) ≤ v.toInt ∧ v.toInt ≤ 599 → jJ jSgX Dy hx9 → jSm fp_X8_at_r51d h0 hx9 → dr = v.toInt → vw hx9 = vw h0 → Q (some (.int v)) hx9) : ∀ (h : jH), jJ jSgX Dy h → jSm fp_X8_at_r51d h0 h → d_X8_at_r51d_24  (vw h) = dr → vw h = vw h0 → jX m_X8_at 1 0 0 24 [] [] h 0 0 Q := by
  intro  h    J Sm D EV
  unfold d_X8_at_r51d_24 at D
  refine x_iconst (v := 0) rfl ki_0 ?_
  refine x_iret rfl rfl ?_
  exact hQ _ _ (jr_of jk_0 (by omega)) J Sm (D.symm.trans (show 0 = (0 : Int32).toInt from by have := jk_0; omega)) EV
set_option maxRecDepth 100000 in
set_option maxHeartbeats 4000000 in
theorem sf_X8_at_r51d {Dy : jH → Prop} {h : jH} {Q : Option Value → jH → Prop} {dr : Int} {a1 : Int32} {a2 : Int32} (y1 : 0 ≤ a1.toInt ∧ a1.toInt ≤ 99) (y2 : 3 ≤ a2.toInt ∧ a2.toInt ≤ 3) (hD : jDk Dy) (J : jJ jSgX Dy h) (D : d_X8_at_r51d a1.toInt a2.toInt (vw h) = dr) (hQ : ∀ (v : Int32) hx9, (-1) ≤ v.toInt ∧ v.toInt ≤ 599 → jJ jSgX Dy hx9 → jSm fp_X8_at_r51d h hx9 → dr = v.toInt → vw hx9 = vw h → Q (some (.int v)) hx9) : jC m_X8_at 1 0 0 [.ref 51, .int a1, .int a2] h Q := by
  refine jC.of rfl k_X8_at rfl ?_
  have Sm := jSm_rf fp_X8_at_r51d h
  show jX m_X8_at 1 0 0 0 [(0, .ref 51), (1, .int a1), (2, .int a2)] [] _ 0 0 _
  unfold d_X8_at_r51d at D
  have EV : vw h = vw h := rfl
  refine x_iloadn (x := a1) rfl rfl ?_
  refine x_iflt (tgt := 24) rfl rfl (ti_lt rfl jk_0 (br_f (by omega) ?_))
  refine x_iloadn (x := a1) rfl rfl ?_
  refine x_aloadn (x := 51) rfl rfl ?_
  refine z_getI (N := 4) 8 3 rfl f_8_7 rfl J rfl sg_51_3_4_1_0_1 (fun v1 qv1 ev1 => ?_)
  try rw [vrf qv1] at D
  refine x_icge (tgt := 24) rfl rfl (ti_ge rfl rfl ⟨fun c2 => ?_, fun c2 => ?_⟩)
  ·
    rw [if_pos (by omega)] at D
    exact jX.sub jsb_n (ct_X8_at_r51d_24 hD hQ  h J Sm D EV)
  ·
    rw [if_neg (by omega)] at D
    refine x_iloadn (x := a2) rfl rfl ?_
    refine x_iflt (tgt := 24) rfl rfl (ti_lt rfl jk_0 (br_f (by omega) ?_))
    refine x_iloadn (x := a2) rfl rfl ?_
    refine x_aloadn (x := 51) rfl rfl ?_
    refine z_getC (N := 4) (v := 4) 8 0 rfl f_8_19 rfl J rfl sg_51_0_1_1_0_1 jk_4 ?_
    refine x_iclt (tgt := 26) rfl rfl (ti_lt rfl jk_4 (br_t (by omega) ?_))
    refine x_aloadn (x := 51) rfl rfl ?_
    refine z_getR (N := 4) (b := 52) 8 2 rfl f_8_25 rfl J rfl 6530 ⟨rfl, rfl⟩ rfl ?_
    refine x_iloadn (x := a1) rfl rfl ?_
    refine x_aloadn (x := 51) rfl rfl ?_
    refine z_getC (N := 4) (v := 4) 8 0 rfl f_8_19 rfl J rfl sg_51_0_1_1_0_1 jk_4 ?_
    refine z_imul rfl rfl jk_4 (by omega) (fun v3 ev3 => ?_)
    refine x_iloadn (x := a2) rfl rfl ?_
    refine z_iadd rfl rfl rfl (by omega) (fun v4 ev4 => ?_)
    refine z_iald (N := 400) rfl J rfl sg_52_0_400_4_3_4 rfl (by omega) (fun v5 qv5 ev5 => ?_)
    try rw [vrd qv5 (show ((a1.toInt * 4) + a2.toInt) = v4.toInt from by omega)] at D
    refine x_iret rfl rfl ?_
    exact hQ _ _ (jr_of rfl (by omega)) J Sm (D.symm.trans (show v5.toInt = v5.toInt from by omega)) EV
def fp_X8_at_r51_c1d : jFp := []
set_option maxRecDepth 100000 in
set_option maxHeartbeats 4000000 in
theorem ct_X8_at_r51_c1d_24 {Dy : jH → Prop} {h0 : jH} {Q : Option Value → jH → Prop} {dr : Int} (hD : jDk Dy) (hQ : ∀ (v : Int32) hx9, 0 ≤ v.toInt ∧ v.toInt ≤ 146399 → jJ jSgX Dy hx9 → jSm fp_X8_at_r51_c1d h0 hx9 → dr = v.toInt → vw hx9 = vw h0 → Q (some (.int v)) hx9) : ∀ (h : jH), jJ jSgX Dy h → jSm fp_X8_at_r51_c1d h0 h → d_X8_at_r51_c1d_24  (vw h) = dr → vw h = vw h0 → jX m_X8_at 1 0 0 24 [] [] h 0 0 Q := by
  intro  h    J Sm D EV
  unfold d_X8_at_r51_c1d_24 at D
  refine x_iconst (v := 0) rfl ki_0 ?_
  refine x_iret rfl rfl ?_
  exact hQ _ _ (jr_of jk_0 (by omega)) J Sm (D.symm.trans (show 0 = (0 : Int32).toInt from by have := jk_0; omega)) EV
set_option maxRecDepth 100000 in
set_option maxHeartbeats 4000000 in
theorem sf_X8_at_r51_c1d {Dy : jH → Prop} {h : jH} {Q : Option Value → jH → Prop} {dr : Int} {a1 : Int32} (y1 : 0 ≤ a1.toInt ∧ a1.toInt ≤ 99) (hD : jDk Dy) (J : jJ jSgX Dy h) (D : d_X8_at_r51_c1d a1.toInt (vw h) = dr) (hQ : ∀ (v : Int32) hx9, 0 ≤ v.toInt ∧ v.toInt ≤ 146399 → jJ jSgX Dy hx9 → jSm fp_X8_at_r51_c1d h hx9 → dr = v.toInt → vw hx9 = vw h → Q (some (.int v)) hx9) : jC m_X8_at 1 0 0 [.ref 51, .int a1, .int 1] h Q := by
  refine jC.of rfl k_X8_at rfl ?_
  have Sm := jSm_rf fp_X8_at_r51_c1d h
  show jX m_X8_at 1 0 0 0 [(0, .ref 51), (1, .int a1), (2, .int 1)] [] _ 0 0 _
  unfold d_X8_at_r51_c1d at D
  have EV : vw h = vw h := rfl
  refine x_iloadn (x := a1) rfl rfl ?_
  refine x_iflt (tgt := 24) rfl rfl (ti_lt rfl jk_0 (br_f (by omega) ?_))
  refine x_iloadn (x := a1) rfl rfl ?_
  refine x_aloadn (x := 51) rfl rfl ?_
  refine z_getI (N := 4) 8 3 rfl f_8_7 rfl J rfl sg_51_3_4_1_0_1 (fun v1 qv1 ev1 => ?_)
  try rw [vrf qv1] at D
  refine x_icge (tgt := 24) rfl rfl (ti_ge rfl rfl ⟨fun c2 => ?_, fun c2 => ?_⟩)
  ·
    rw [if_pos (by omega)] at D
    exact jX.sub jsb_n (ct_X8_at_r51_c1d_24 hD hQ  h J Sm D EV)
  ·
    rw [if_neg (by omega)] at D
    refine x_iloadn (x := 1) rfl rfl ?_
    refine x_iflt (tgt := 24) rfl rfl (ti_lt jk_1 jk_0 (br_f (by omega) ?_))
    refine x_iloadn (x := 1) rfl rfl ?_
    refine x_aloadn (x := 51) rfl rfl ?_
    refine z_getC (N := 4) (v := 4) 8 0 rfl f_8_19 rfl J rfl sg_51_0_1_1_0_1 jk_4 ?_
    refine x_iclt (tgt := 26) rfl rfl (ti_lt jk_1 jk_4 (br_t (by omega) ?_))
    refine x_aloadn (x := 51) rfl rfl ?_
    refine z_getR (N := 4) (b := 52) 8 2 rfl f_8_25 rfl J rfl 6530 ⟨rfl, rfl⟩ rfl ?_
    refine x_iloadn (x := a1) rfl rfl ?_
    refine x_aloadn (x := 51) rfl rfl ?_
    refine z_getC (N := 4) (v := 4) 8 0 rfl f_8_19 rfl J rfl sg_51_0_1_1_0_1 jk_4 ?_
    refine z_imul rfl rfl jk_4 (by omega) (fun v3 ev3 => ?_)
    refine x_iloadn (x := 1) rfl rfl ?_
    refine z_iadd rfl rfl jk_1 (by omega) (fun v4 ev4 => ?_)
    refine z_iald (N := 400) rfl J rfl sg_52_0_400_4_1_2 rfl (by omega) (fun v5 qv5 ev5 => ?_)
    try rw [vrd qv5 (show ((a1.toInt * 4) + 1) = v4.toInt from by omega)] at D
    refine x_iret rfl rfl ?_
    exact hQ _ _ (jr_of rfl (by omega)) J Sm (D.symm.trans (show v5.toInt = v5.toInt from by omega)) EV
def fp_X8_at_r51_c2d : jFp := []
set_option maxRecDepth 100000 in
set_option maxHeartbeats 4000000 in
theorem ct_X8_at_r51_c2d_24 {Dy : jH → Prop} {h0 : jH} {Q : Option Value → jH → Prop} {dr : Int} (hD : jDk Dy) (hQ : ∀ (v : Int32) hx9, 0 ≤ v.toInt ∧ v.toInt ≤ 39 → jJ jSgX Dy hx9 → jSm fp_X8_at_r51_c2d h0 hx9 → dr = v.toInt → vw hx9 = vw h0 → Q (some (.int v)) hx9) : ∀ (h : jH), jJ jSgX Dy h → jSm fp_X8_at_r51_c2d h0 h → d_X8_at_r51_c2d_24  (vw h) = dr → vw h = vw h0 → jX m_X8_at 1 0 0 24 [] [] h 0 0 Q := by
  intro  h    J Sm D EV
  unfold d_X8_at_r51_c2d_24 at D
  refine x_iconst (v := 0) rfl ki_0 ?_
  refine x_iret rfl rfl ?_
  exact hQ _ _ (jr_of jk_0 (by omega)) J Sm (D.symm.trans (show 0 = (0 : Int32).toInt from by have := jk_0; omega)) EV
set_option maxRecDepth 100000 in
set_option maxHeartbeats 4000000 in
theorem sf_X8_at_r51_c2d {Dy : jH → Prop} {h : jH} {Q : Option Value → jH → Prop} {dr : Int} {a1 : Int32} (y1 : 0 ≤ a1.toInt ∧ a1.toInt ≤ 99) (hD : jDk Dy) (J : jJ jSgX Dy h) (D : d_X8_at_r51_c2d a1.toInt (vw h) = dr) (hQ : ∀ (v : Int32) hx9, 0 ≤ v.toInt ∧ v.toInt ≤ 39 → jJ jSgX Dy hx9 → jSm fp_X8_at_r51_c2d h hx9 → dr = v.toInt → vw hx9 = vw h → Q (some (.int v)) hx9) : jC m_X8_at 1 0 0 [.ref 51, .int a1, .int 2] h Q := by
  refine jC.of rfl k_X8_at rfl ?_
  have Sm := jSm_rf fp_X8_at_r51_c2d h
  show jX m_X8_at 1 0 0 0 [(0, .ref 51), (1, .int a1), (2, .int 2)] [] _ 0 0 _
  unfold d_X8_at_r51_c2d at D
  have EV : vw h = vw h := rfl
  refine x_iloadn (x := a1) rfl rfl ?_
  refine x_iflt (tgt := 24) rfl rfl (ti_lt rfl jk_0 (br_f (by omega) ?_))
  refine x_iloadn (x := a1) rfl rfl ?_
  refine x_aloadn (x := 51) rfl rfl ?_
  refine z_getI (N := 4) 8 3 rfl f_8_7 rfl J rfl sg_51_3_4_1_0_1 (fun v1 qv1 ev1 => ?_)
  try rw [vrf qv1] at D
  refine x_icge (tgt := 24) rfl rfl (ti_ge rfl rfl ⟨fun c2 => ?_, fun c2 => ?_⟩)
  ·
    rw [if_pos (by omega)] at D
    exact jX.sub jsb_n (ct_X8_at_r51_c2d_24 hD hQ  h J Sm D EV)
  ·
    rw [if_neg (by omega)] at D
    refine x_iloadn (x := 2) rfl rfl ?_
    refine x_iflt (tgt := 24) rfl rfl (ti_lt jk_2 jk_0 (br_f (by omega) ?_))
    refine x_iloadn (x := 2) rfl rfl ?_
    refine x_aloadn (x := 51) rfl rfl ?_
    refine z_getC (N := 4) (v := 4) 8 0 rfl f_8_19 rfl J rfl sg_51_0_1_1_0_1 jk_4 ?_
    refine x_iclt (tgt := 26) rfl rfl (ti_lt jk_2 jk_4 (br_t (by omega) ?_))
    refine x_aloadn (x := 51) rfl rfl ?_
    refine z_getR (N := 4) (b := 52) 8 2 rfl f_8_25 rfl J rfl 6530 ⟨rfl, rfl⟩ rfl ?_
    refine x_iloadn (x := a1) rfl rfl ?_
    refine x_aloadn (x := 51) rfl rfl ?_
    refine z_getC (N := 4) (v := 4) 8 0 rfl f_8_19 rfl J rfl sg_51_0_1_1_0_1 jk_4 ?_
    refine z_imul rfl rfl jk_4 (by omega) (fun v3 ev3 => ?_)
    refine x_iloadn (x := 2) rfl rfl ?_
    refine z_iadd rfl rfl jk_2 (by omega) (fun v4 ev4 => ?_)
    refine z_iald (N := 400) rfl J rfl sg_52_0_400_4_2_3 rfl (by omega) (fun v5 qv5 ev5 => ?_)
    try rw [vrd qv5 (show ((a1.toInt * 4) + 2) = v4.toInt from by omega)] at D
    refine x_iret rfl rfl ?_
    exact hQ _ _ (jr_of rfl (by omega)) J Sm (D.symm.trans (show v5.toInt = v5.toInt from by omega)) EV
def fp_X8_isKnown_r51d : jFp := []
set_option maxRecDepth 100000 in
set_option maxHeartbeats 4000000 in
theorem ct_X8_isKnown_r51d_300032 {Dy : jH → Prop} {h0 : jH} {Q : Option Value → jH → Prop} {dr : Int} (hD : jDk Dy) (hQ : ∀ (v : Int32) hx9, 0 ≤ v.toInt ∧ v.toInt ≤ 1 → jJ jSgX Dy hx9 → jSm fp_X8_isKnown_r51d h0 hx9 → dr = v.toInt → vw hx9 = vw h0 → Q (some (.int v)) hx9) : ∀ (h : jH), jJ jSgX Dy h → jSm fp_X8_isKnown_r51d h0 h → d_X8_isKnown_r51d_300032  (vw h) = dr → vw h = vw h0 → jX m_X8_isKnown 1 0 0 32 [] [.int 1] h 0 0 Q := by
  intro  h    J Sm D EV
  unfold d_X8_isKnown_r51d_300032 at D
  refine x_zret rfl rfl (by decide) ?_
  exact hQ _ _ (jr_of jk_1 (by omega)) J Sm (D.symm.trans (show 1 = (1 : Int32).toInt from by have := jk_1; omega)) EV
set_option maxRecDepth 100000 in
set_option maxHeartbeats 4000000 in
theorem ct_X8_isKnown_r51d_200032 {Dy : jH → Prop} {h0 : jH} {Q : Option Value → jH → Prop} {dr : Int} (hD : jDk Dy) (hQ : ∀ (v : Int32) hx9, 0 ≤ v.toInt ∧ v.toInt ≤ 1 → jJ jSgX Dy hx9 → jSm fp_X8_isKnown_r51d h0 hx9 → dr = v.toInt → vw hx9 = vw h0 → Q (some (.int v)) hx9) : ∀ (h : jH), jJ jSgX Dy h → jSm fp_X8_isKnown_r51d h0 h → d_X8_isKnown_r51d_200032  (vw h) = dr → vw h = vw h0 → jX m_X8_isKnown 1 0 0 32 [] [.int 0] h 0 0 Q := by
  intro  h    J Sm D EV
  unfold d_X8_isKnown_r51d_200032 at D
  refine x_zret rfl rfl (by decide) ?_
  exact hQ _ _ (jr_of jk_0 (by omega)) J Sm (D.symm.trans (show 0 = (0 : Int32).toInt from by have := jk_0; omega)) EV
set_option maxRecDepth 100000 in
set_option maxHeartbeats 4000000 in
theorem ct_X8_isKnown_r51d_31 {Dy : jH → Prop} {h0 : jH} {Q : Option Value → jH → Prop} {dr : Int} (hD : jDk Dy) (hQ : ∀ (v : Int32) hx9, 0 ≤ v.toInt ∧ v.toInt ≤ 1 → jJ jSgX Dy hx9 → jSm fp_X8_isKnown_r51d h0 hx9 → dr = v.toInt → vw hx9 = vw h0 → Q (some (.int v)) hx9) : ∀ (h : jH), jJ jSgX Dy h → jSm fp_X8_isKnown_r51d h0 h → d_X8_isKnown_r51d_31  (vw h) = dr → vw h = vw h0 → jX m_X8_isKnown 1 0 0 31 [] [] h 0 0 Q := by
  intro  h    J Sm D EV
  unfold d_X8_isKnown_r51d_31 at D
  refine x_iconst (v := 0) rfl ki_0 ?_
  exact jX.sub jsb_n (ct_X8_isKnown_r51d_200032 hD hQ  h J Sm D EV)
set_option maxRecDepth 100000 in
set_option maxHeartbeats 4000000 in
theorem sf_X8_isKnown_r51d {Dy : jH → Prop} {h : jH} {Q : Option Value → jH → Prop} {dr : Int} {a1 : Int32} {a2 : Int32} (y1 : 0 ≤ a1.toInt ∧ a1.toInt ≤ 99) (y2 : 0 ≤ a2.toInt ∧ a2.toInt ≤ 146399) (hD : jDk Dy) (J : jJ jSgX Dy h) (D : d_X8_isKnown_r51d a1.toInt a2.toInt (vw h) = dr) (hQ : ∀ (v : Int32) hx9, 0 ≤ v.toInt ∧ v.toInt ≤ 1 → jJ jSgX Dy hx9 → jSm fp_X8_isKnown_r51d h hx9 → dr = v.toInt → vw hx9 = vw h → Q (some (.int v)) hx9) : jC m_X8_isKnown 1 0 0 [.ref 51, .int a1, .int a2] h Q := by
  refine jC.of rfl k_X8_isKnown rfl ?_
  have Sm := jSm_rf fp_X8_isKnown_r51d h
  show jX m_X8_isKnown 1 0 0 0 [(0, .ref 51), (1, .int a1), (2, .int a2)] [] _ 0 0 _
  unfold d_X8_isKnown_r51d at D
  have EV : vw h = vw h := rfl
  refine x_iloadn (x := a1) rfl rfl ?_
  refine x_iflt (tgt := 31) rfl rfl (ti_lt rfl jk_0 (br_f (by omega) ?_))
  refine x_iloadn (x := a1) rfl rfl ?_
  refine x_aloadn (x := 51) rfl rfl ?_
  refine z_getI (N := 4) 8 3 rfl f_8_7 rfl J rfl sg_51_3_4_1_0_1 (fun v1 qv1 ev1 => ?_)
  try rw [vrf qv1] at D
  refine x_icge (tgt := 31) rfl rfl (ti_ge rfl rfl ⟨fun c2 => ?_, fun c2 => ?_⟩)
  ·
    rw [if_pos (by omega)] at D
    exact jX.sub jsb_n (ct_X8_isKnown_r51d_31 hD hQ  h J Sm D EV)
  ·
    rw [if_neg (by omega)] at D
    refine x_aloadn (x := 51) rfl rfl ?_
    refine z_getR (N := 4) (b := 52) 8 2 rfl f_8_25 rfl J rfl 6530 ⟨rfl, rfl⟩ rfl ?_
    refine x_iloadn (x := a1) rfl rfl ?_
    refine x_aloadn (x := 51) rfl rfl ?_
    refine z_getC (N := 4) (v := 4) 8 0 rfl f_8_19 rfl J rfl sg_51_0_1_1_0_1 jk_4 ?_
    refine z_imul rfl rfl jk_4 (by omega) (fun v3 ev3 => ?_)
    refine z_iald (N := 400) rfl J rfl sg_52_0_400_4_0_1 rfl (by omega) (fun v4 qv4 ev4 => ?_)
    try rw [vrd qv4 (show (a1.toInt * 4) = v3.toInt from by omega)] at D
    refine x_iloadn (x := a2) rfl rfl ?_
    refine x_icgt (tgt := 31) rfl rfl (ti_gt rfl rfl ⟨fun c5 => ?_, fun c5 => ?_⟩)
    ·
      rw [if_pos (by omega)] at D
      exact jX.sub jsb_n (ct_X8_isKnown_r51d_31 hD hQ  h J Sm D EV)
    ·
      rw [if_neg (by omega)] at D
      refine x_iconst (v := 1) rfl ki_1 ?_
      refine x_goto (tgt := 32) rfl rfl ?_
      exact jX.sub jsb_n (ct_X8_isKnown_r51d_300032 hD hQ  h J Sm D EV)
def fp_X0_readLatest_r98_r51_r103d : jFp := [(103, 0, 40), (104, 0, 40)]
set_option maxRecDepth 100000 in
set_option maxHeartbeats 4000000 in
theorem ct_X0_readLatest_r98_r51_r103d_155 {Dy : jH → Prop} {h0 : jH} {Q : Option Value → jH → Prop} {dr : jW} {K55 : Int → Int → jW → jW} {R55 : Int} (hD : jDk Dy) (hQ : ∀ hx9, jJ jSgX Dy hx9 → jSm fp_X0_readLatest_r98_r51_r103d h0 hx9 → dr = vw hx9 → Q none hx9) (k55 : ∀ (l2 : Int32) (l5 : Int32) (h : jH), 100 - l5.toInt < R55 → 3 ≤ l2.toInt ∧ l2.toInt ≤ 3 → 0 ≤ l5.toInt ∧ l5.toInt ≤ 100 → jJ jSgX Dy h → jSm fp_X0_readLatest_r98_r51_r103d h0 h → K55 l2.toInt l5.toInt (vw h) = dr → jX m_X0_readLatest 2 0 0 55 [(0, .ref 98), (1, .ref 51), (2, .int l2), (3, .ref 103), (5, .int l5)] [] h 0 0 Q) : ∀ (l2 : Int32) (l5 : Int32) (h : jH), 3 ≤ l2.toInt ∧ l2.toInt ≤ 3 → 0 ≤ l5.toInt ∧ l5.toInt ≤ 99 → 100 - l5.toInt ≤ R55 → jJ jSgX Dy h → jSm fp_X0_readLatest_r98_r51_r103d h0 h → d_X0_readLatest_r98_r51_r103d_155 K55  l2.toInt l5.toInt (vw h) = dr → jX m_X0_readLatest 2 0 0 155 [(0, .ref 98), (1, .ref 51), (2, .int l2), (3, .ref 103), (5, .int l5)] [] h 0 0 Q := by
  intro l2 l5 h y0 y1  m55 J Sm D
  unfold d_X0_readLatest_r98_r51_r103d_155 at D
  refine z_iinc (x := l5) (lsx9 := fun v1 => [(5, .int v1), (0, .ref 98), (1, .ref 51), (2, .int l2), (3, .ref 103)]) rfl rfl rfl jko_1 (by omega) rfl (fun _ => rfl) (fun v1 ev1 => ?_)
  refine x_goto (tgt := 55) rfl rfl ?_
  try rw [show (l5.toInt + 1) = v1.toInt from by omega] at D
  exact jX.sub (jsb_c rfl (jsb_c rfl (jsb_c rfl (jsb_c rfl (jsb_c rfl jsb_n))))) (k55 l2 v1 h (by omega) (jr_of rfl (by omega)) (jr_of rfl (by omega)) J Sm D)
set_option maxRecDepth 100000 in
set_option maxHeartbeats 4000000 in
theorem ct_X0_readLatest_r98_r51_r103d_55 {Dy : jH → Prop} {h0 : jH} {Q : Option Value → jH → Prop} {dr : jW} (hD : jDk Dy) (hQ : ∀ hx9, jJ jSgX Dy hx9 → jSm fp_X0_readLatest_r98_r51_r103d h0 hx9 → dr = vw hx9 → Q none hx9) : ∀ r : Nat, ∀ (l2 : Int32) (l5 : Int32) (h : jH), 100 - l5.toInt < (r : Int) → 3 ≤ l2.toInt ∧ l2.toInt ≤ 3 → 0 ≤ l5.toInt ∧ l5.toInt ≤ 100 → jJ jSgX Dy h → jSm fp_X0_readLatest_r98_r51_r103d h0 h → d_X0_readLatest_r98_r51_r103d_55 r l2.toInt l5.toInt (vw h) = dr → jX m_X0_readLatest 2 0 0 55 [(0, .ref 98), (1, .ref 51), (2, .int l2), (3, .ref 103), (5, .int l5)] [] h 0 0 Q := by
  intro r
  induction r with
  | zero =>
    intro l2 l5 h hm y0 y1   J Sm D
    exfalso
    omega
  | succ r ih =>
    intro l2 l5 h hm y0 y1   J Sm D
    rw [d_X0_readLatest_r98_r51_r103d_55.eq_2] at D
    refine x_iload (x := l5) rfl rfl ?_
    refine x_aloadn (x := 51) rfl rfl ?_
    refine z_getI (N := 4) 8 3 rfl f_0_124 rfl J rfl sg_51_3_4_1_0_1 (fun v1 qv1 ev1 => ?_)
    try rw [vrf qv1] at D
    refine x_icge (tgt := 161) rfl rfl (ti_ge rfl rfl ⟨fun c2 => ?_, fun c2 => ?_⟩)
    ·
      rw [if_pos (by omega)] at D
      refine x_vret rfl rfl ?_
      exact hQ _ J Sm D.symm
    ·
      rw [if_neg (by omega)] at D
      refine x_aloadn (x := 51) rfl rfl ?_
      refine x_iload (x := l5) rfl rfl ?_
      refine x_iconst (v := 2) rfl ki_2 ?_
      refine x_inv (N := m_X8_at) (As := [.int l5, .int 2]) (b := 51) (st := []) (dx9 := 1) (mc := 0) (ms := 0) (host := "") 8 rfl t_X8_at ⟨Or.inl q_0_145, i_X8_at.1, i_X8_at.2⟩ ⟨by decide, rfl⟩ (congrArg Prod.fst (J.1.1 51 (8, 4) rfl)) rfl (by decide) rfl rfl ⟨by decide, by decide⟩ (sf_X8_at_r51_c2d (jr_of rfl (by omega)) hD J rfl  (fun v6 h ev6 J S3 X4 X5 => ?_))
      have Sm := jSm_tr rfl Sm S3
      try rw [X4] at D
      try rw [← X5] at D
      show jX m_X0_readLatest 2 0 0 71 [(0, .ref 98), (1, .ref 51), (2, .int l2), (3, .ref 103), (5, .int l5)] [.int v6] _ 0 0 _
      refine x_istore (lsx9 := [(6, .int v6), (0, .ref 98), (1, .ref 51), (2, .int l2), (3, .ref 103), (5, .int l5)]) rfl rfl rfl ?_
      refine x_aloadn (x := 51) rfl rfl ?_
      refine x_iload (x := l5) rfl rfl ?_
      refine x_iconst (v := 1) rfl ki_1 ?_
      refine x_inv (N := m_X8_at) (As := [.int l5, .int 1]) (b := 51) (st := []) (dx9 := 1) (mc := 0) (ms := 0) (host := "") 8 rfl t_X8_at ⟨Or.inl q_0_145, i_X8_at.1, i_X8_at.2⟩ ⟨by decide, rfl⟩ (congrArg Prod.fst (J.1.1 51 (8, 4) rfl)) rfl (by decide) rfl rfl ⟨by decide, by decide⟩ (sf_X8_at_r51_c1d (jr_of rfl (by omega)) hD J rfl  (fun v10 h ev10 J S7 X8 X9 => ?_))
      have Sm := jSm_tr rfl Sm S7
      try rw [X8] at D
      try rw [← X9] at D
      show jX m_X0_readLatest 2 0 0 80 [(6, .int v6), (0, .ref 98), (1, .ref 51), (2, .int l2), (3, .ref 103), (5, .int l5)] [.int v10] _ 0 0 _
      refine x_istore (lsx9 := [(7, .int v10), (6, .int v6), (0, .ref 98), (1, .ref 51), (2, .int l2), (3, .ref 103), (5, .int l5)]) rfl rfl rfl ?_
      refine x_aloadn (x := 51) rfl rfl ?_
      refine x_iload (x := l5) rfl rfl ?_
      refine x_aloadn (x := 98) rfl rfl ?_
      refine z_getI (N := 16) 0 11 rfl f_0_41 rfl J rfl sg_98_11_12_1_0_1 (fun v11 qv11 ev11 => ?_)
      try rw [vrf qv11] at D
      refine x_inv (N := m_X8_isKnown) (As := [.int l5, .int v11]) (b := 51) (st := []) (dx9 := 1) (mc := 0) (ms := 0) (host := "") 8 rfl t_X8_isKnown ⟨Or.inl q_0_151, i_X8_isKnown.1, i_X8_isKnown.2⟩ ⟨by decide, rfl⟩ (congrArg Prod.fst (J.1.1 51 (8, 4) rfl)) rfl (by decide) rfl rfl ⟨by decide, by decide⟩ (sf_X8_isKnown_r51d (jr_of rfl (by omega)) (jr_of rfl (by omega)) hD J rfl  (fun v15 h ev15 J S12 X13 X14 => ?_))
      have Sm := jSm_tr rfl Sm S12
      try rw [X13] at D
      try rw [← X14] at D
      show jX m_X0_readLatest 2 0 0 92 [(7, .int v10), (6, .int v6), (0, .ref 98), (1, .ref 51), (2, .int l2), (3, .ref 103), (5, .int l5)] [.int v15] _ 0 0 _
      refine x_ifeq (tgt := 155) rfl rfl (ti_eq rfl jk_0 ⟨fun c16 => ?_, fun c16 => ?_⟩)
      ·
        rw [if_pos (by omega)] at D
        exact jX.sub (jsb_c rfl (jsb_c rfl (jsb_c rfl (jsb_c rfl (jsb_c rfl jsb_n))))) (ct_X0_readLatest_r98_r51_r103d_155 hD hQ ih l2 l5 h (jr_of rfl (by omega)) (jr_of rfl (by omega)) (by omega) J Sm D)
      ·
        rw [if_neg (by omega)] at D
        refine x_iload (x := v10) rfl rfl ?_
        refine x_aloadn (x := 98) rfl rfl ?_
        refine z_getI (N := 16) 0 10 rfl f_0_37 rfl J rfl sg_98_10_11_1_0_1 (fun v17 qv17 ev17 => ?_)
        try rw [vrf qv17] at D
        refine x_icgt (tgt := 155) rfl rfl (ti_gt rfl rfl ⟨fun c18 => ?_, fun c18 => ?_⟩)
        ·
          rw [if_pos (by omega)] at D
          exact jX.sub (jsb_c rfl (jsb_c rfl (jsb_c rfl (jsb_c rfl (jsb_c rfl jsb_n))))) (ct_X0_readLatest_r98_r51_r103d_155 hD hQ ih l2 l5 h (jr_of rfl (by omega)) (jr_of rfl (by omega)) (by omega) J Sm D)
        ·
          rw [if_neg (by omega)] at D
          refine x_iload (x := v6) rfl rfl ?_
          refine x_iflt (tgt := 155) rfl rfl (ti_lt rfl jk_0 (br_f (by omega) ?_))
          refine x_iload (x := v6) rfl rfl ?_
          refine x_bipush (v := 40) rfl kb_40 ?_
          refine x_icge (tgt := 155) rfl rfl (ti_ge rfl jk_40 (br_f (by omega) ?_))
          refine x_iload (x := v6) rfl rfl ?_
          refine x_aloadn (x := 103) rfl rfl ?_
          refine z_alen (N := 40) (v := 40) rfl J rfl rfl (by decide) ?_
          refine x_icge (tgt := 155) rfl rfl (ti_ge rfl jk_40 (br_f (by omega) ?_))
          refine x_iload (x := v10) rfl rfl ?_
          refine x_aloadn (x := 98) rfl rfl ?_
          refine z_getR (N := 16) (b := 104) 0 7 rfl f_0_27 rfl J rfl 12551 ⟨rfl, rfl⟩ rfl ?_
          refine x_iload (x := v6) rfl rfl ?_
          refine z_iald (N := 40) rfl J rfl sg_104_0_40_1_0_1 rfl (by omega) (fun v19 qv19 ev19 => ?_)
          try rw [vrd qv19 (show v6.toInt = v6.toInt from by omega)] at D
          refine x_iclt (tgt := 155) rfl rfl (ti_lt rfl rfl ⟨fun c20 => ?_, fun c20 => ?_⟩)
          ·
            rw [if_pos (by omega)] at D
            exact jX.sub (jsb_c rfl (jsb_c rfl (jsb_c rfl (jsb_c rfl (jsb_c rfl jsb_n))))) (ct_X0_readLatest_r98_r51_r103d_155 hD hQ ih l2 l5 h (jr_of rfl (by omega)) (jr_of rfl (by omega)) (by omega) J Sm D)
          ·
            rw [if_neg (by omega)] at D
            refine x_aloadn (x := 98) rfl rfl ?_
            refine z_getR (N := 16) (b := 104) 0 7 rfl f_0_27 rfl J rfl 12551 ⟨rfl, rfl⟩ rfl ?_
            refine x_iload (x := v6) rfl rfl ?_
            refine x_iload (x := v10) rfl rfl ?_
            refine z_iast (N := 40) (l := 0) (u := 40) (w := v10.toInt) rfl hD J Sm rfl rfl rfl (by omega) rfl (wr_104 (fun q1 q2 q3 q4 => by omega)) rfl (fun h w21 J Sm => ?_)
            rw [vww w21 (show v6.toInt = v6.toInt from by omega) (show v10.toInt = v10.toInt from by omega)] at D
            refine x_aloadn (x := 103) rfl rfl ?_
            refine x_iload (x := v6) rfl rfl ?_
            refine x_aloadn (x := 51) rfl rfl ?_
            refine x_iload (x := l5) rfl rfl ?_
            refine x_iloadn (x := l2) rfl rfl ?_
            refine x_inv (N := m_X8_at) (As := [.int l5, .int l2]) (b := 51) (st := [.int v6, .ref 103]) (dx9 := 1) (mc := 0) (ms := 0) (host := "") 8 rfl t_X8_at ⟨Or.inl q_0_145, i_X8_at.1, i_X8_at.2⟩ ⟨by decide, rfl⟩ (congrArg Prod.fst (J.1.1 51 (8, 4) rfl)) rfl (by decide) rfl rfl ⟨by decide, by decide⟩ (sf_X8_at_r51d (jr_of rfl (by omega)) (jr_of rfl (by omega)) hD J rfl  (fun v25 h ev25 J S22 X23 X24 => ?_))
            have Sm := jSm_tr rfl Sm S22
            try rw [X23] at D
            try rw [← X24] at D
            show jX m_X0_readLatest 2 0 0 154 [(7, .int v10), (6, .int v6), (0, .ref 98), (1, .ref 51), (2, .int l2), (3, .ref 103), (5, .int l5)] [.int v25, .int v6, .ref 103] _ 0 0 _
            refine z_iast (N := 40) (l := 0) (u := 40) (w := v25.toInt) rfl hD J Sm rfl rfl rfl (by omega) rfl (wr_103 (fun q1 q2 q3 q4 => by omega)) rfl (fun h w26 J Sm => ?_)
            rw [vww w26 (show v6.toInt = v6.toInt from by omega) (show v25.toInt = v25.toInt from by omega)] at D
            exact jX.sub (jsb_c rfl (jsb_c rfl (jsb_c rfl (jsb_c rfl (jsb_c rfl jsb_n))))) (ct_X0_readLatest_r98_r51_r103d_155 hD hQ ih l2 l5 h (jr_of rfl (by omega)) (jr_of rfl (by omega)) (by omega) J Sm D)
set_option maxRecDepth 100000 in
set_option maxHeartbeats 4000000 in
theorem ct_X0_readLatest_r98_r51_r103d_52 {Dy : jH → Prop} {h0 : jH} {Q : Option Value → jH → Prop} {dr : jW} (hD : jDk Dy) (hQ : ∀ hx9, jJ jSgX Dy hx9 → jSm fp_X0_readLatest_r98_r51_r103d h0 hx9 → dr = vw hx9 → Q none hx9) : ∀ (l2 : Int32) (h : jH), 3 ≤ l2.toInt ∧ l2.toInt ≤ 3 → jJ jSgX Dy h → jSm fp_X0_readLatest_r98_r51_r103d h0 h → d_X0_readLatest_r98_r51_r103d_52  l2.toInt (vw h) = dr → jX m_X0_readLatest 2 0 0 52 [(0, .ref 98), (1, .ref 51), (2, .int l2), (3, .ref 103)] [] h 0 0 Q := by
  intro l2 h y0   J Sm D
  unfold d_X0_readLatest_r98_r51_r103d_52 at D
  refine x_iconst (v := 0) rfl ki_0 ?_
  refine x_istore (lsx9 := [(5, .int 0), (0, .ref 98), (1, .ref 51), (2, .int l2), (3, .ref 103)]) rfl rfl rfl ?_
  exact jX.sub (jsb_c rfl (jsb_c rfl (jsb_c rfl (jsb_c rfl (jsb_c rfl jsb_n))))) (ct_X0_readLatest_r98_r51_r103d_55 hD hQ  101 l2 0 h (by have := jk_0; omega) (jr_of rfl (by omega)) (jr_of jk_0 (by omega)) J Sm (by rw [jk_0]; exact D))
set_option maxRecDepth 100000 in
set_option maxHeartbeats 4000000 in
theorem ct_X0_readLatest_r98_r51_r103d_3 {Dy : jH → Prop} {h0 : jH} {Q : Option Value → jH → Prop} {dr : jW} (hD : jDk Dy) (hQ : ∀ hx9, jJ jSgX Dy hx9 → jSm fp_X0_readLatest_r98_r51_r103d h0 hx9 → dr = vw hx9 → Q none hx9) : ∀ r : Nat, ∀ (l2 : Int32) (l4 : Int32) (l5 : Int32) (h : jH), 40 - l5.toInt < (r : Int) → 3 ≤ l2.toInt ∧ l2.toInt ≤ 3 → (-1) ≤ l4.toInt ∧ l4.toInt ≤ (-1) → 0 ≤ l5.toInt ∧ l5.toInt ≤ 40 → jJ jSgX Dy h → jSm fp_X0_readLatest_r98_r51_r103d h0 h → d_X0_readLatest_r98_r51_r103d_3 r l2.toInt l4.toInt l5.toInt (vw h) = dr → jX m_X0_readLatest 2 0 0 3 [(0, .ref 98), (1, .ref 51), (2, .int l2), (3, .ref 103), (4, .int l4), (5, .int l5)] [] h 0 0 Q := by
  intro r
  induction r with
  | zero =>
    intro l2 l4 l5 h hm y0 y1 y2   J Sm D
    exfalso
    omega
  | succ r ih =>
    intro l2 l4 l5 h hm y0 y1 y2   J Sm D
    rw [d_X0_readLatest_r98_r51_r103d_3.eq_2] at D
    refine x_iload (x := l5) rfl rfl ?_
    refine x_bipush (v := 40) rfl kb_40 ?_
    refine x_icge (tgt := 52) rfl rfl (ti_ge rfl jk_40 ⟨fun c1 => ?_, fun c1 => ?_⟩)
    ·
      rw [if_pos (by omega)] at D
      exact jX.sub (jsb_c rfl (jsb_c rfl (jsb_c rfl (jsb_c rfl jsb_n)))) (ct_X0_readLatest_r98_r51_r103d_52 hD hQ  l2 h (jr_of rfl (by omega)) J Sm D)
    ·
      rw [if_neg (by omega)] at D
      refine x_iload (x := l5) rfl rfl ?_
      refine x_aloadn (x := 98) rfl rfl ?_
      refine z_getR (N := 16) (b := 32) 0 0 rfl f_0_57 rfl J rfl 12544 ⟨rfl, rfl⟩ rfl ?_
      refine z_getR (N := 20) (b := 49) 1 8 rfl f_0_120 rfl J rfl 4104 ⟨rfl, rfl⟩ rfl ?_
      refine z_getI (N := 4) 8 3 rfl f_0_124 rfl J rfl sg_49_3_4_1_0_1 (fun v2 qv2 ev2 => ?_)
      try rw [vrf qv2] at D
      refine x_icge (tgt := 52) rfl rfl (ti_ge rfl rfl ⟨fun c3 => ?_, fun c3 => ?_⟩)
      ·
        rw [if_pos (by omega)] at D
        exact jX.sub (jsb_c rfl (jsb_c rfl (jsb_c rfl (jsb_c rfl jsb_n)))) (ct_X0_readLatest_r98_r51_r103d_52 hD hQ  l2 h (jr_of rfl (by omega)) J Sm D)
      ·
        rw [if_neg (by omega)] at D
        refine x_iload (x := l5) rfl rfl ?_
        refine x_aloadn (x := 103) rfl rfl ?_
        refine z_alen (N := 40) (v := 40) rfl J rfl rfl (by decide) ?_
        refine x_icge (tgt := 52) rfl rfl (ti_ge rfl jk_40 (br_f (by omega) ?_))
        refine x_aloadn (x := 103) rfl rfl ?_
        refine x_iload (x := l5) rfl rfl ?_
        refine x_iload (x := l4) rfl rfl ?_
        refine z_iast (N := 40) (l := 0) (u := 40) (w := l4.toInt) rfl hD J Sm rfl rfl rfl (by omega) rfl (wr_103 (fun q1 q2 q3 q4 => by omega)) rfl (fun h w4 J Sm => ?_)
        rw [vww w4 (show l5.toInt = l5.toInt from by omega) (show l4.toInt = l4.toInt from by omega)] at D
        refine x_aloadn (x := 98) rfl rfl ?_
        refine z_getR (N := 16) (b := 104) 0 7 rfl f_0_27 rfl J rfl 12551 ⟨rfl, rfl⟩ rfl ?_
        refine x_iload (x := l5) rfl rfl ?_
        refine x_iconst (v := (-1)) rfl ki_m1 ?_
        refine z_iast (N := 40) (l := 0) (u := 40) (w := (-1)) rfl hD J Sm rfl rfl rfl (by omega) jk_m1 (wr_104 (fun q1 q2 q3 q4 => by omega)) rfl (fun h w5 J Sm => ?_)
        rw [vww w5 (show l5.toInt = l5.toInt from by omega) (show (-1) = ((-1) : Int32).toInt from by have := jk_m1; omega)] at D
        refine z_iinc (x := l5) (lsx9 := fun v6 => [(5, .int v6), (0, .ref 98), (1, .ref 51), (2, .int l2), (3, .ref 103), (4, .int l4)]) rfl rfl rfl jko_1 (by omega) rfl (fun _ => rfl) (fun v6 ev6 => ?_)
        refine x_goto (tgt := 3) rfl rfl ?_
        try rw [show (l5.toInt + 1) = v6.toInt from by omega] at D
        exact jX.sub (jsb_c rfl (jsb_c rfl (jsb_c rfl (jsb_c rfl (jsb_c rfl (jsb_c rfl jsb_n)))))) (ih l2 l4 v6 h (by omega) (jr_of rfl (by omega)) (jr_of rfl (by omega)) (jr_of rfl (by omega)) J Sm D)
set_option maxRecDepth 100000 in
set_option maxHeartbeats 4000000 in
theorem sf_X0_readLatest_r98_r51_r103d {Dy : jH → Prop} {h : jH} {Q : Option Value → jH → Prop} {dr : jW} {a1 : Int32} {a2 : Int32} (y1 : 3 ≤ a1.toInt ∧ a1.toInt ≤ 3) (y2 : (-1) ≤ a2.toInt ∧ a2.toInt ≤ (-1)) (hD : jDk Dy) (J : jJ jSgX Dy h) (D : d_X0_readLatest_r98_r51_r103d a1.toInt a2.toInt (vw h) = dr) (hQ : ∀ hx9, jJ jSgX Dy hx9 → jSm fp_X0_readLatest_r98_r51_r103d h hx9 → dr = vw hx9 → Q none hx9) : jC m_X0_readLatest 2 0 0 [.ref 98, .ref 51, .int a1, .ref 103, .int a2] h Q := by
  refine jC.of rfl k_X0_readLatest rfl ?_
  have Sm := jSm_rf fp_X0_readLatest_r98_r51_r103d h
  show jX m_X0_readLatest 2 0 0 0 [(0, .ref 98), (1, .ref 51), (2, .int a1), (3, .ref 103), (4, .int a2)] [] _ 0 0 _
  unfold d_X0_readLatest_r98_r51_r103d at D
  refine x_iconst (v := 0) rfl ki_0 ?_
  refine x_istore (lsx9 := [(5, .int 0), (0, .ref 98), (1, .ref 51), (2, .int a1), (3, .ref 103), (4, .int a2)]) rfl rfl rfl ?_
  exact jX.sub (jsb_c rfl (jsb_c rfl (jsb_c rfl (jsb_c rfl (jsb_c rfl (jsb_c rfl jsb_n)))))) (ct_X0_readLatest_r98_r51_r103d_3 hD hQ  41 a1 a2 0 h (by have := jk_0; omega) (jr_of rfl (by omega)) (jr_of rfl (by omega)) (jr_of jk_0 (by omega)) J Sm (by rw [jk_0]; exact D))
def fp_X8_at_r49_c1d : jFp := []
set_option maxRecDepth 100000 in
set_option maxHeartbeats 4000000 in
theorem ct_X8_at_r49_c1d_24 {Dy : jH → Prop} {h0 : jH} {Q : Option Value → jH → Prop} {dr : Int} (hD : jDk Dy) (hQ : ∀ (v : Int32) hx9, 0 ≤ v.toInt ∧ v.toInt ≤ 146399 → jJ jSgX Dy hx9 → jSm fp_X8_at_r49_c1d h0 hx9 → dr = v.toInt → vw hx9 = vw h0 → Q (some (.int v)) hx9) : ∀ (h : jH), jJ jSgX Dy h → jSm fp_X8_at_r49_c1d h0 h → d_X8_at_r49_c1d_24  (vw h) = dr → vw h = vw h0 → jX m_X8_at 1 0 0 24 [] [] h 0 0 Q := by
  intro  h    J Sm D EV
  unfold d_X8_at_r49_c1d_24 at D
  refine x_iconst (v := 0) rfl ki_0 ?_
  refine x_iret rfl rfl ?_
  exact hQ _ _ (jr_of jk_0 (by omega)) J Sm (D.symm.trans (show 0 = (0 : Int32).toInt from by have := jk_0; omega)) EV
set_option maxRecDepth 100000 in
set_option maxHeartbeats 4000000 in
theorem sf_X8_at_r49_c1d {Dy : jH → Prop} {h : jH} {Q : Option Value → jH → Prop} {dr : Int} {a1 : Int32} (y1 : 1 ≤ a1.toInt ∧ a1.toInt ≤ 39) (hD : jDk Dy) (J : jJ jSgX Dy h) (D : d_X8_at_r49_c1d a1.toInt (vw h) = dr) (hQ : ∀ (v : Int32) hx9, 0 ≤ v.toInt ∧ v.toInt ≤ 146399 → jJ jSgX Dy hx9 → jSm fp_X8_at_r49_c1d h hx9 → dr = v.toInt → vw hx9 = vw h → Q (some (.int v)) hx9) : jC m_X8_at 1 0 0 [.ref 49, .int a1, .int 1] h Q := by
  refine jC.of rfl k_X8_at rfl ?_
  have Sm := jSm_rf fp_X8_at_r49_c1d h
  show jX m_X8_at 1 0 0 0 [(0, .ref 49), (1, .int a1), (2, .int 1)] [] _ 0 0 _
  unfold d_X8_at_r49_c1d at D
  have EV : vw h = vw h := rfl
  refine x_iloadn (x := a1) rfl rfl ?_
  refine x_iflt (tgt := 24) rfl rfl (ti_lt rfl jk_0 (br_f (by omega) ?_))
  refine x_iloadn (x := a1) rfl rfl ?_
  refine x_aloadn (x := 49) rfl rfl ?_
  refine z_getI (N := 4) 8 3 rfl f_8_7 rfl J rfl sg_49_3_4_1_0_1 (fun v1 qv1 ev1 => ?_)
  try rw [vrf qv1] at D
  refine x_icge (tgt := 24) rfl rfl (ti_ge rfl rfl ⟨fun c2 => ?_, fun c2 => ?_⟩)
  ·
    rw [if_pos (by omega)] at D
    exact jX.sub jsb_n (ct_X8_at_r49_c1d_24 hD hQ  h J Sm D EV)
  ·
    rw [if_neg (by omega)] at D
    refine x_iloadn (x := 1) rfl rfl ?_
    refine x_iflt (tgt := 24) rfl rfl (ti_lt jk_1 jk_0 (br_f (by omega) ?_))
    refine x_iloadn (x := 1) rfl rfl ?_
    refine x_aloadn (x := 49) rfl rfl ?_
    refine z_getC (N := 4) (v := 5) 8 0 rfl f_8_19 rfl J rfl sg_49_0_1_1_0_1 jk_5 ?_
    refine x_iclt (tgt := 26) rfl rfl (ti_lt jk_1 jk_5 (br_t (by omega) ?_))
    refine x_aloadn (x := 49) rfl rfl ?_
    refine z_getR (N := 4) (b := 50) 8 2 rfl f_8_25 rfl J rfl 6274 ⟨rfl, rfl⟩ rfl ?_
    refine x_iloadn (x := a1) rfl rfl ?_
    refine x_aloadn (x := 49) rfl rfl ?_
    refine z_getC (N := 4) (v := 5) 8 0 rfl f_8_19 rfl J rfl sg_49_0_1_1_0_1 jk_5 ?_
    refine z_imul rfl rfl jk_5 (by omega) (fun v3 ev3 => ?_)
    refine x_iloadn (x := 1) rfl rfl ?_
    refine z_iadd rfl rfl jk_1 (by omega) (fun v4 ev4 => ?_)
    refine z_iald (N := 200) rfl J rfl sg_50_0_200_5_1_2 rfl (by omega) (fun v5 qv5 ev5 => ?_)
    try rw [vrd qv5 (show ((a1.toInt * 5) + 1) = v4.toInt from by omega)] at D
    refine x_iret rfl rfl ?_
    exact hQ _ _ (jr_of rfl (by omega)) J Sm (D.symm.trans (show v5.toInt = v5.toInt from by omega)) EV
def fp_X8_at_r49_c3d : jFp := []
set_option maxRecDepth 100000 in
set_option maxHeartbeats 4000000 in
theorem ct_X8_at_r49_c3d_24 {Dy : jH → Prop} {h0 : jH} {Q : Option Value → jH → Prop} {dr : Int} (hD : jDk Dy) (hQ : ∀ (v : Int32) hx9, 0 ≤ v.toInt ∧ v.toInt ≤ 99 → jJ jSgX Dy hx9 → jSm fp_X8_at_r49_c3d h0 hx9 → dr = v.toInt → vw hx9 = vw h0 → Q (some (.int v)) hx9) : ∀ (h : jH), jJ jSgX Dy h → jSm fp_X8_at_r49_c3d h0 h → d_X8_at_r49_c3d_24  (vw h) = dr → vw h = vw h0 → jX m_X8_at 1 0 0 24 [] [] h 0 0 Q := by
  intro  h    J Sm D EV
  unfold d_X8_at_r49_c3d_24 at D
  refine x_iconst (v := 0) rfl ki_0 ?_
  refine x_iret rfl rfl ?_
  exact hQ _ _ (jr_of jk_0 (by omega)) J Sm (D.symm.trans (show 0 = (0 : Int32).toInt from by have := jk_0; omega)) EV
set_option maxRecDepth 100000 in
set_option maxHeartbeats 4000000 in
theorem sf_X8_at_r49_c3d {Dy : jH → Prop} {h : jH} {Q : Option Value → jH → Prop} {dr : Int} {a1 : Int32} (y1 : 1 ≤ a1.toInt ∧ a1.toInt ≤ 39) (hD : jDk Dy) (J : jJ jSgX Dy h) (D : d_X8_at_r49_c3d a1.toInt (vw h) = dr) (hQ : ∀ (v : Int32) hx9, 0 ≤ v.toInt ∧ v.toInt ≤ 99 → jJ jSgX Dy hx9 → jSm fp_X8_at_r49_c3d h hx9 → dr = v.toInt → vw hx9 = vw h → Q (some (.int v)) hx9) : jC m_X8_at 1 0 0 [.ref 49, .int a1, .int 3] h Q := by
  refine jC.of rfl k_X8_at rfl ?_
  have Sm := jSm_rf fp_X8_at_r49_c3d h
  show jX m_X8_at 1 0 0 0 [(0, .ref 49), (1, .int a1), (2, .int 3)] [] _ 0 0 _
  unfold d_X8_at_r49_c3d at D
  have EV : vw h = vw h := rfl
  refine x_iloadn (x := a1) rfl rfl ?_
  refine x_iflt (tgt := 24) rfl rfl (ti_lt rfl jk_0 (br_f (by omega) ?_))
  refine x_iloadn (x := a1) rfl rfl ?_
  refine x_aloadn (x := 49) rfl rfl ?_
  refine z_getI (N := 4) 8 3 rfl f_8_7 rfl J rfl sg_49_3_4_1_0_1 (fun v1 qv1 ev1 => ?_)
  try rw [vrf qv1] at D
  refine x_icge (tgt := 24) rfl rfl (ti_ge rfl rfl ⟨fun c2 => ?_, fun c2 => ?_⟩)
  ·
    rw [if_pos (by omega)] at D
    exact jX.sub jsb_n (ct_X8_at_r49_c3d_24 hD hQ  h J Sm D EV)
  ·
    rw [if_neg (by omega)] at D
    refine x_iloadn (x := 3) rfl rfl ?_
    refine x_iflt (tgt := 24) rfl rfl (ti_lt jk_3 jk_0 (br_f (by omega) ?_))
    refine x_iloadn (x := 3) rfl rfl ?_
    refine x_aloadn (x := 49) rfl rfl ?_
    refine z_getC (N := 4) (v := 5) 8 0 rfl f_8_19 rfl J rfl sg_49_0_1_1_0_1 jk_5 ?_
    refine x_iclt (tgt := 26) rfl rfl (ti_lt jk_3 jk_5 (br_t (by omega) ?_))
    refine x_aloadn (x := 49) rfl rfl ?_
    refine z_getR (N := 4) (b := 50) 8 2 rfl f_8_25 rfl J rfl 6274 ⟨rfl, rfl⟩ rfl ?_
    refine x_iloadn (x := a1) rfl rfl ?_
    refine x_aloadn (x := 49) rfl rfl ?_
    refine z_getC (N := 4) (v := 5) 8 0 rfl f_8_19 rfl J rfl sg_49_0_1_1_0_1 jk_5 ?_
    refine z_imul rfl rfl jk_5 (by omega) (fun v3 ev3 => ?_)
    refine x_iloadn (x := 3) rfl rfl ?_
    refine z_iadd rfl rfl jk_3 (by omega) (fun v4 ev4 => ?_)
    refine z_iald (N := 200) rfl J rfl sg_50_0_200_5_3_4 rfl (by omega) (fun v5 qv5 ev5 => ?_)
    try rw [vrd qv5 (show ((a1.toInt * 5) + 3) = v4.toInt from by omega)] at D
    refine x_iret rfl rfl ?_
    exact hQ _ _ (jr_of rfl (by omega)) J Sm (D.symm.trans (show v5.toInt = v5.toInt from by omega)) EV
def fp_X8_at_r49_c4d : jFp := []
set_option maxRecDepth 100000 in
set_option maxHeartbeats 4000000 in
theorem ct_X8_at_r49_c4d_24 {Dy : jH → Prop} {h0 : jH} {Q : Option Value → jH → Prop} {dr : Int} (hD : jDk Dy) (hQ : ∀ (v : Int32) hx9, 0 ≤ v.toInt ∧ v.toInt ≤ 100 → jJ jSgX Dy hx9 → jSm fp_X8_at_r49_c4d h0 hx9 → dr = v.toInt → vw hx9 = vw h0 → Q (some (.int v)) hx9) : ∀ (h : jH), jJ jSgX Dy h → jSm fp_X8_at_r49_c4d h0 h → d_X8_at_r49_c4d_24  (vw h) = dr → vw h = vw h0 → jX m_X8_at 1 0 0 24 [] [] h 0 0 Q := by
  intro  h    J Sm D EV
  unfold d_X8_at_r49_c4d_24 at D
  refine x_iconst (v := 0) rfl ki_0 ?_
  refine x_iret rfl rfl ?_
  exact hQ _ _ (jr_of jk_0 (by omega)) J Sm (D.symm.trans (show 0 = (0 : Int32).toInt from by have := jk_0; omega)) EV
set_option maxRecDepth 100000 in
set_option maxHeartbeats 4000000 in
theorem sf_X8_at_r49_c4d {Dy : jH → Prop} {h : jH} {Q : Option Value → jH → Prop} {dr : Int} {a1 : Int32} (y1 : 1 ≤ a1.toInt ∧ a1.toInt ≤ 39) (hD : jDk Dy) (J : jJ jSgX Dy h) (D : d_X8_at_r49_c4d a1.toInt (vw h) = dr) (hQ : ∀ (v : Int32) hx9, 0 ≤ v.toInt ∧ v.toInt ≤ 100 → jJ jSgX Dy hx9 → jSm fp_X8_at_r49_c4d h hx9 → dr = v.toInt → vw hx9 = vw h → Q (some (.int v)) hx9) : jC m_X8_at 1 0 0 [.ref 49, .int a1, .int 4] h Q := by
  refine jC.of rfl k_X8_at rfl ?_
  have Sm := jSm_rf fp_X8_at_r49_c4d h
  show jX m_X8_at 1 0 0 0 [(0, .ref 49), (1, .int a1), (2, .int 4)] [] _ 0 0 _
  unfold d_X8_at_r49_c4d at D
  have EV : vw h = vw h := rfl
  refine x_iloadn (x := a1) rfl rfl ?_
  refine x_iflt (tgt := 24) rfl rfl (ti_lt rfl jk_0 (br_f (by omega) ?_))
  refine x_iloadn (x := a1) rfl rfl ?_
  refine x_aloadn (x := 49) rfl rfl ?_
  refine z_getI (N := 4) 8 3 rfl f_8_7 rfl J rfl sg_49_3_4_1_0_1 (fun v1 qv1 ev1 => ?_)
  try rw [vrf qv1] at D
  refine x_icge (tgt := 24) rfl rfl (ti_ge rfl rfl ⟨fun c2 => ?_, fun c2 => ?_⟩)
  ·
    rw [if_pos (by omega)] at D
    exact jX.sub jsb_n (ct_X8_at_r49_c4d_24 hD hQ  h J Sm D EV)
  ·
    rw [if_neg (by omega)] at D
    refine x_iloadn (x := 4) rfl rfl ?_
    refine x_iflt (tgt := 24) rfl rfl (ti_lt jk_4 jk_0 (br_f (by omega) ?_))
    refine x_iloadn (x := 4) rfl rfl ?_
    refine x_aloadn (x := 49) rfl rfl ?_
    refine z_getC (N := 4) (v := 5) 8 0 rfl f_8_19 rfl J rfl sg_49_0_1_1_0_1 jk_5 ?_
    refine x_iclt (tgt := 26) rfl rfl (ti_lt jk_4 jk_5 (br_t (by omega) ?_))
    refine x_aloadn (x := 49) rfl rfl ?_
    refine z_getR (N := 4) (b := 50) 8 2 rfl f_8_25 rfl J rfl 6274 ⟨rfl, rfl⟩ rfl ?_
    refine x_iloadn (x := a1) rfl rfl ?_
    refine x_aloadn (x := 49) rfl rfl ?_
    refine z_getC (N := 4) (v := 5) 8 0 rfl f_8_19 rfl J rfl sg_49_0_1_1_0_1 jk_5 ?_
    refine z_imul rfl rfl jk_5 (by omega) (fun v3 ev3 => ?_)
    refine x_iloadn (x := 4) rfl rfl ?_
    refine z_iadd rfl rfl jk_4 (by omega) (fun v4 ev4 => ?_)
    refine z_iald (N := 200) rfl J rfl sg_50_0_200_5_4_5 rfl (by omega) (fun v5 qv5 ev5 => ?_)
    try rw [vrd qv5 (show ((a1.toInt * 5) + 4) = v4.toInt from by omega)] at D
    refine x_iret rfl rfl ?_
    exact hQ _ _ (jr_of rfl (by omega)) J Sm (D.symm.trans (show v5.toInt = v5.toInt from by omega)) EV
def fp_X8_isKnown_r49d : jFp := []
set_option maxRecDepth 100000 in
set_option maxHeartbeats 4000000 in
theorem ct_X8_isKnown_r49d_300032 {Dy : jH → Prop} {h0 : jH} {Q : Option Value → jH → Prop} {dr : Int} (hD : jDk Dy) (hQ : ∀ (v : Int32) hx9, 0 ≤ v.toInt ∧ v.toInt ≤ 1 → jJ jSgX Dy hx9 → jSm fp_X8_isKnown_r49d h0 hx9 → dr = v.toInt → vw hx9 = vw h0 → Q (some (.int v)) hx9) : ∀ (h : jH), jJ jSgX Dy h → jSm fp_X8_isKnown_r49d h0 h → d_X8_isKnown_r49d_300032  (vw h) = dr → vw h = vw h0 → jX m_X8_isKnown 1 0 0 32 [] [.int 1] h 0 0 Q := by
  intro  h    J Sm D EV
  unfold d_X8_isKnown_r49d_300032 at D
  refine x_zret rfl rfl (by decide) ?_
  exact hQ _ _ (jr_of jk_1 (by omega)) J Sm (D.symm.trans (show 1 = (1 : Int32).toInt from by have := jk_1; omega)) EV
set_option maxRecDepth 100000 in
set_option maxHeartbeats 4000000 in
theorem ct_X8_isKnown_r49d_200032 {Dy : jH → Prop} {h0 : jH} {Q : Option Value → jH → Prop} {dr : Int} (hD : jDk Dy) (hQ : ∀ (v : Int32) hx9, 0 ≤ v.toInt ∧ v.toInt ≤ 1 → jJ jSgX Dy hx9 → jSm fp_X8_isKnown_r49d h0 hx9 → dr = v.toInt → vw hx9 = vw h0 → Q (some (.int v)) hx9) : ∀ (h : jH), jJ jSgX Dy h → jSm fp_X8_isKnown_r49d h0 h → d_X8_isKnown_r49d_200032  (vw h) = dr → vw h = vw h0 → jX m_X8_isKnown 1 0 0 32 [] [.int 0] h 0 0 Q := by
  intro  h    J Sm D EV
  unfold d_X8_isKnown_r49d_200032 at D
  refine x_zret rfl rfl (by decide) ?_
  exact hQ _ _ (jr_of jk_0 (by omega)) J Sm (D.symm.trans (show 0 = (0 : Int32).toInt from by have := jk_0; omega)) EV
set_option maxRecDepth 100000 in
set_option maxHeartbeats 4000000 in
theorem ct_X8_isKnown_r49d_31 {Dy : jH → Prop} {h0 : jH} {Q : Option Value → jH → Prop} {dr : Int} (hD : jDk Dy) (hQ : ∀ (v : Int32) hx9, 0 ≤ v.toInt ∧ v.toInt ≤ 1 → jJ jSgX Dy hx9 → jSm fp_X8_isKnown_r49d h0 hx9 → dr = v.toInt → vw hx9 = vw h0 → Q (some (.int v)) hx9) : ∀ (h : jH), jJ jSgX Dy h → jSm fp_X8_isKnown_r49d h0 h → d_X8_isKnown_r49d_31  (vw h) = dr → vw h = vw h0 → jX m_X8_isKnown 1 0 0 31 [] [] h 0 0 Q := by
  intro  h    J Sm D EV
  unfold d_X8_isKnown_r49d_31 at D
  refine x_iconst (v := 0) rfl ki_0 ?_
  exact jX.sub jsb_n (ct_X8_isKnown_r49d_200032 hD hQ  h J Sm D EV)
set_option maxRecDepth 100000 in
set_option maxHeartbeats 4000000 in
theorem sf_X8_isKnown_r49d {Dy : jH → Prop} {h : jH} {Q : Option Value → jH → Prop} {dr : Int} {a1 : Int32} {a2 : Int32} (y1 : 1 ≤ a1.toInt ∧ a1.toInt ≤ 39) (y2 : 0 ≤ a2.toInt ∧ a2.toInt ≤ 146399) (hD : jDk Dy) (J : jJ jSgX Dy h) (D : d_X8_isKnown_r49d a1.toInt a2.toInt (vw h) = dr) (hQ : ∀ (v : Int32) hx9, 0 ≤ v.toInt ∧ v.toInt ≤ 1 → jJ jSgX Dy hx9 → jSm fp_X8_isKnown_r49d h hx9 → dr = v.toInt → vw hx9 = vw h → Q (some (.int v)) hx9) : jC m_X8_isKnown 1 0 0 [.ref 49, .int a1, .int a2] h Q := by
  refine jC.of rfl k_X8_isKnown rfl ?_
  have Sm := jSm_rf fp_X8_isKnown_r49d h
  show jX m_X8_isKnown 1 0 0 0 [(0, .ref 49), (1, .int a1), (2, .int a2)] [] _ 0 0 _
  unfold d_X8_isKnown_r49d at D
  have EV : vw h = vw h := rfl
  refine x_iloadn (x := a1) rfl rfl ?_
  refine x_iflt (tgt := 31) rfl rfl (ti_lt rfl jk_0 (br_f (by omega) ?_))
  refine x_iloadn (x := a1) rfl rfl ?_
  refine x_aloadn (x := 49) rfl rfl ?_
  refine z_getI (N := 4) 8 3 rfl f_8_7 rfl J rfl sg_49_3_4_1_0_1 (fun v1 qv1 ev1 => ?_)
  try rw [vrf qv1] at D
  refine x_icge (tgt := 31) rfl rfl (ti_ge rfl rfl ⟨fun c2 => ?_, fun c2 => ?_⟩)
  ·
    rw [if_pos (by omega)] at D
    exact jX.sub jsb_n (ct_X8_isKnown_r49d_31 hD hQ  h J Sm D EV)
  ·
    rw [if_neg (by omega)] at D
    refine x_aloadn (x := 49) rfl rfl ?_
    refine z_getR (N := 4) (b := 50) 8 2 rfl f_8_25 rfl J rfl 6274 ⟨rfl, rfl⟩ rfl ?_
    refine x_iloadn (x := a1) rfl rfl ?_
    refine x_aloadn (x := 49) rfl rfl ?_
    refine z_getC (N := 4) (v := 5) 8 0 rfl f_8_19 rfl J rfl sg_49_0_1_1_0_1 jk_5 ?_
    refine z_imul rfl rfl jk_5 (by omega) (fun v3 ev3 => ?_)
    refine z_iald (N := 200) rfl J rfl sg_50_0_200_5_0_1 rfl (by omega) (fun v4 qv4 ev4 => ?_)
    try rw [vrd qv4 (show (a1.toInt * 5) = v3.toInt from by omega)] at D
    refine x_iloadn (x := a2) rfl rfl ?_
    refine x_icgt (tgt := 31) rfl rfl (ti_gt rfl rfl ⟨fun c5 => ?_, fun c5 => ?_⟩)
    ·
      rw [if_pos (by omega)] at D
      exact jX.sub jsb_n (ct_X8_isKnown_r49d_31 hD hQ  h J Sm D EV)
    ·
      rw [if_neg (by omega)] at D
      refine x_iconst (v := 1) rfl ki_1 ?_
      refine x_goto (tgt := 32) rfl rfl ?_
      exact jX.sub jsb_n (ct_X8_isKnown_r49d_300032 hD hQ  h J Sm D EV)
def fp_X0_splitOff_r98d : jFp := [(102, 0, 40), (103, 0, 40)]
set_option maxRecDepth 100000 in
set_option maxHeartbeats 4000000 in
theorem ct_X0_splitOff_r98d_118 {Dy : jH → Prop} {h0 : jH} {Q : Option Value → jH → Prop} {dr : jW} (hD : jDk Dy) (hQ : ∀ hx9, jJ jSgX Dy hx9 → jSm fp_X0_splitOff_r98d h0 hx9 → dr = vw hx9 → Q none hx9) : ∀ (h : jH), jJ jSgX Dy h → jSm fp_X0_splitOff_r98d h0 h → d_X0_splitOff_r98d_118  (vw h) = dr → jX m_X0_splitOff 2 0 0 118 [] [] h 0 0 Q := by
  intro  h    J Sm D
  unfold d_X0_splitOff_r98d_118 at D
  refine x_vret rfl rfl ?_
  exact hQ _ J Sm D.symm
set_option maxRecDepth 100000 in
set_option maxHeartbeats 4000000 in
theorem ct_X0_splitOff_r98d_96 {Dy : jH → Prop} {h0 : jH} {Q : Option Value → jH → Prop} {dr : jW} (hD : jDk Dy) (hQ : ∀ hx9, jJ jSgX Dy hx9 → jSm fp_X0_splitOff_r98d h0 hx9 → dr = vw hx9 → Q none hx9) : ∀ (l1 : Int32) (l2 : Int32) (h : jH), 1 ≤ l1.toInt ∧ l1.toInt ≤ 39 → 0 ≤ l2.toInt ∧ l2.toInt ≤ 39 → jJ jSgX Dy h → jSm fp_X0_splitOff_r98d h0 h → d_X0_splitOff_r98d_96  l1.toInt l2.toInt (vw h) = dr → jX m_X0_splitOff 2 0 0 96 [(0, .ref 98), (1, .int l1), (2, .int l2)] [] h 0 0 Q := by
  intro l1 l2 h y0 y1   J Sm D
  unfold d_X0_splitOff_r98d_96 at D
  refine x_aloadn (x := 98) rfl rfl ?_
  refine z_getR (N := 16) (b := 104) 0 7 rfl f_0_27 rfl J rfl 12551 ⟨rfl, rfl⟩ rfl ?_
  refine x_iloadn (x := l1) rfl rfl ?_
  refine z_iald (N := 40) rfl J rfl sg_104_0_40_1_0_1 rfl (by omega) (fun v1 qv1 ev1 => ?_)
  try rw [vrd qv1 (show l1.toInt = l1.toInt from by omega)] at D
  refine x_iconst (v := (-1)) rfl ki_m1 ?_
  refine x_icne (tgt := 118) rfl rfl (ti_ne rfl jk_m1 ⟨fun c2 => ?_, fun c2 => ?_⟩)
  ·
    rw [if_neg (by omega)] at D
    exact jX.sub jsb_n (ct_X0_splitOff_r98d_118 hD hQ  h J Sm D)
  ·
    rw [if_pos (by omega)] at D
    refine x_aloadn (x := 98) rfl rfl ?_
    refine z_getR (N := 16) (b := 103) 0 6 rfl f_0_24 rfl J rfl 12550 ⟨rfl, rfl⟩ rfl ?_
    refine x_iloadn (x := l1) rfl rfl ?_
    refine x_aloadn (x := 98) rfl rfl ?_
    refine z_getR (N := 16) (b := 103) 0 6 rfl f_0_24 rfl J rfl 12550 ⟨rfl, rfl⟩ rfl ?_
    refine x_iloadn (x := l2) rfl rfl ?_
    refine z_iald (N := 40) rfl J rfl sg_103_0_40_1_0_1 rfl (by omega) (fun v3 qv3 ev3 => ?_)
    try rw [vrd qv3 (show l2.toInt = l2.toInt from by omega)] at D
    refine z_iast (N := 40) (l := 0) (u := 40) (w := v3.toInt) rfl hD J Sm rfl rfl rfl (by omega) rfl (wr_103 (fun q1 q2 q3 q4 => by omega)) rfl (fun h w4 J Sm => ?_)
    rw [vww w4 (show l1.toInt = l1.toInt from by omega) (show v3.toInt = v3.toInt from by omega)] at D
    exact jX.sub jsb_n (ct_X0_splitOff_r98d_118 hD hQ  h J Sm D)
set_option maxRecDepth 100000 in
set_option maxHeartbeats 4000000 in
theorem sf_X0_splitOff_r98d {Dy : jH → Prop} {h : jH} {Q : Option Value → jH → Prop} {dr : jW} {a1 : Int32} {a2 : Int32} (y1 : 1 ≤ a1.toInt ∧ a1.toInt ≤ 39) (y2 : 0 ≤ a2.toInt ∧ a2.toInt ≤ 39) (hD : jDk Dy) (J : jJ jSgX Dy h) (D : d_X0_splitOff_r98d a1.toInt a2.toInt (vw h) = dr) (hQ : ∀ hx9, jJ jSgX Dy hx9 → jSm fp_X0_splitOff_r98d h hx9 → dr = vw hx9 → Q none hx9) : jC m_X0_splitOff 2 0 0 [.ref 98, .int a1, .int a2] h Q := by
  refine jC.of rfl k_X0_splitOff rfl ?_
  have Sm := jSm_rf fp_X0_splitOff_r98d h
  show jX m_X0_splitOff 2 0 0 0 [(0, .ref 98), (1, .int a1), (2, .int a2)] [] _ 0 0 _
  unfold d_X0_splitOff_r98d at D
  refine x_aloadn (x := 98) rfl rfl ?_
  refine z_getR (N := 16) (b := 32) 0 0 rfl f_0_57 rfl J rfl 12544 ⟨rfl, rfl⟩ rfl ?_
  refine z_getR (N := 20) (b := 49) 1 8 rfl f_0_120 rfl J rfl 4104 ⟨rfl, rfl⟩ rfl ?_
  refine x_iloadn (x := a1) rfl rfl ?_
  refine x_iconst (v := 4) rfl ki_4 ?_
  refine x_inv (N := m_X8_at) (As := [.int a1, .int 4]) (b := 49) (st := []) (dx9 := 1) (mc := 0) (ms := 0) (host := "") 8 rfl t_X8_at ⟨Or.inl q_0_145, i_X8_at.1, i_X8_at.2⟩ ⟨by decide, rfl⟩ (congrArg Prod.fst (J.1.1 49 (8, 4) rfl)) rfl (by decide) rfl rfl ⟨by decide, by decide⟩ (sf_X8_at_r49_c4d (jr_of rfl (by omega)) hD J rfl  (fun v4 h ev4 J S1 X2 X3 => ?_))
  have Sm := jSm_tr rfl Sm S1
  try rw [X2] at D
  try rw [← X3] at D
  show jX m_X0_splitOff 2 0 0 12 [(0, .ref 98), (1, .int a1), (2, .int a2)] [.int v4] _ 0 0 _
  refine x_istoren (lsx9 := [(3, .int v4), (0, .ref 98), (1, .int a1), (2, .int a2)]) rfl rfl rfl ?_
  refine x_iloadn (x := v4) rfl rfl ?_
  refine x_ifle (tgt := 96) rfl rfl (ti_le rfl jk_0 ⟨fun c5 => ?_, fun c5 => ?_⟩)
  ·
    rw [if_pos (by omega)] at D
    exact jX.sub (jsb_c rfl (jsb_c rfl (jsb_c rfl jsb_n))) (ct_X0_splitOff_r98d_96 hD hQ  a1 a2 h (jr_of rfl (by omega)) (jr_of rfl (by omega)) J Sm D)
  ·
    rw [if_neg (by omega)] at D
    refine x_aloadn (x := 98) rfl rfl ?_
    refine z_getR (N := 16) (b := 32) 0 0 rfl f_0_57 rfl J rfl 12544 ⟨rfl, rfl⟩ rfl ?_
    refine z_getR (N := 20) (b := 49) 1 8 rfl f_0_120 rfl J rfl 4104 ⟨rfl, rfl⟩ rfl ?_
    refine x_iloadn (x := a1) rfl rfl ?_
    refine x_aloadn (x := 98) rfl rfl ?_
    refine z_getI (N := 16) 0 11 rfl f_0_41 rfl J rfl sg_98_11_12_1_0_1 (fun v6 qv6 ev6 => ?_)
    try rw [vrf qv6] at D
    refine x_inv (N := m_X8_isKnown) (As := [.int a1, .int v6]) (b := 49) (st := []) (dx9 := 1) (mc := 0) (ms := 0) (host := "") 8 rfl t_X8_isKnown ⟨Or.inl q_0_151, i_X8_isKnown.1, i_X8_isKnown.2⟩ ⟨by decide, rfl⟩ (congrArg Prod.fst (J.1.1 49 (8, 4) rfl)) rfl (by decide) rfl rfl ⟨by decide, by decide⟩ (sf_X8_isKnown_r49d (jr_of rfl (by omega)) (jr_of rfl (by omega)) hD J rfl  (fun v10 h ev10 J S7 X8 X9 => ?_))
    have Sm := jSm_tr rfl Sm S7
    try rw [X8] at D
    try rw [← X9] at D
    show jX m_X0_splitOff 2 0 0 32 [(3, .int v4), (0, .ref 98), (1, .int a1), (2, .int a2)] [.int v10] _ 0 0 _
    refine x_ifeq (tgt := 96) rfl rfl (ti_eq rfl jk_0 ⟨fun c11 => ?_, fun c11 => ?_⟩)
    ·
      rw [if_pos (by omega)] at D
      exact jX.sub (jsb_c rfl (jsb_c rfl (jsb_c rfl jsb_n))) (ct_X0_splitOff_r98d_96 hD hQ  a1 a2 h (jr_of rfl (by omega)) (jr_of rfl (by omega)) J Sm D)
    ·
      rw [if_neg (by omega)] at D
      refine x_aloadn (x := 98) rfl rfl ?_
      refine z_getR (N := 16) (b := 32) 0 0 rfl f_0_57 rfl J rfl 12544 ⟨rfl, rfl⟩ rfl ?_
      refine z_getR (N := 20) (b := 49) 1 8 rfl f_0_120 rfl J rfl 4104 ⟨rfl, rfl⟩ rfl ?_
      refine x_iloadn (x := a1) rfl rfl ?_
      refine x_iconst (v := 1) rfl ki_1 ?_
      refine x_inv (N := m_X8_at) (As := [.int a1, .int 1]) (b := 49) (st := []) (dx9 := 1) (mc := 0) (ms := 0) (host := "") 8 rfl t_X8_at ⟨Or.inl q_0_145, i_X8_at.1, i_X8_at.2⟩ ⟨by decide, rfl⟩ (congrArg Prod.fst (J.1.1 49 (8, 4) rfl)) rfl (by decide) rfl rfl ⟨by decide, by decide⟩ (sf_X8_at_r49_c1d (jr_of rfl (by omega)) hD J rfl  (fun v15 h ev15 J S12 X13 X14 => ?_))
      have Sm := jSm_tr rfl Sm S12
      try rw [X13] at D
      try rw [← X14] at D
      show jX m_X0_splitOff 2 0 0 47 [(3, .int v4), (0, .ref 98), (1, .int a1), (2, .int a2)] [.int v15] _ 0 0 _
      refine x_aloadn (x := 98) rfl rfl ?_
      refine z_getI (N := 16) 0 10 rfl f_0_37 rfl J rfl sg_98_10_11_1_0_1 (fun v16 qv16 ev16 => ?_)
      try rw [vrf qv16] at D
      refine x_icgt (tgt := 96) rfl rfl (ti_gt rfl rfl ⟨fun c17 => ?_, fun c17 => ?_⟩)
      ·
        rw [if_pos (by omega)] at D
        exact jX.sub (jsb_c rfl (jsb_c rfl (jsb_c rfl jsb_n))) (ct_X0_splitOff_r98d_96 hD hQ  a1 a2 h (jr_of rfl (by omega)) (jr_of rfl (by omega)) J Sm D)
      ·
        rw [if_neg (by omega)] at D
        refine x_aloadn (x := 98) rfl rfl ?_
        refine z_getR (N := 16) (b := 102) 0 5 rfl f_0_21 rfl J rfl 12549 ⟨rfl, rfl⟩ rfl ?_
        refine x_iloadn (x := a2) rfl rfl ?_
        refine z_iald0 (N := 40) rfl J rfl rfl (by omega) (fun v18 qv18 => ?_)
        have ev18 := jfull v18
        try rw [vrd qv18 (show a2.toInt = a2.toInt from by omega)] at D
        refine x_aloadn (x := 98) rfl rfl ?_
        refine z_getR (N := 16) (b := 32) 0 0 rfl f_0_57 rfl J rfl 12544 ⟨rfl, rfl⟩ rfl ?_
        refine z_getR (N := 20) (b := 49) 1 8 rfl f_0_120 rfl J rfl 4104 ⟨rfl, rfl⟩ rfl ?_
        refine x_iloadn (x := a1) rfl rfl ?_
        refine x_iconst (v := 3) rfl ki_3 ?_
        refine x_inv (N := m_X8_at) (As := [.int a1, .int 3]) (b := 49) (st := [.int v18]) (dx9 := 1) (mc := 0) (ms := 0) (host := "") 8 rfl t_X8_at ⟨Or.inl q_0_145, i_X8_at.1, i_X8_at.2⟩ ⟨by decide, rfl⟩ (congrArg Prod.fst (J.1.1 49 (8, 4) rfl)) rfl (by decide) rfl rfl ⟨by decide, by decide⟩ (sf_X8_at_r49_c3d (jr_of rfl (by omega)) hD J rfl  (fun v22 h ev22 J S19 X20 X21 => ?_))
        have Sm := jSm_tr rfl Sm S19
        try rw [X20] at D
        try rw [← X21] at D
        show jX m_X0_splitOff 2 0 0 72 [(3, .int v4), (0, .ref 98), (1, .int a1), (2, .int a2)] [.int v22, .int v18] _ 0 0 _
        refine z_imulW rfl rfl rfl (fun v23 ev23 => ?_)
        have fv23 := jfull v23
        try rw [← ev23] at D
        refine x_iloadn (x := v4) rfl rfl ?_
        refine z_idivW rfl rfl rfl (by omega) (fun v24 ev24 => ?_)
        have fv24 := jfull v24
        try rw [← ev24] at D
        refine x_istore (lsx9 := [(4, .int v24), (3, .int v4), (0, .ref 98), (1, .int a1), (2, .int a2)]) rfl rfl rfl ?_
        refine x_aloadn (x := 98) rfl rfl ?_
        refine z_getR (N := 16) (b := 102) 0 5 rfl f_0_21 rfl J rfl 12549 ⟨rfl, rfl⟩ rfl ?_
        refine x_iloadn (x := a1) rfl rfl ?_
        refine x_iload (x := v24) rfl rfl ?_
        refine z_iast (N := 40) (l := 0) (u := 40) (w := v24.toInt) rfl hD J Sm rfl rfl rfl (by omega) rfl (wr_102) rfl (fun h w25 J Sm => ?_)
        rw [vww w25 (show a1.toInt = a1.toInt from by omega) (show v24.toInt = v24.toInt from by omega)] at D
        refine x_aloadn (x := 98) rfl rfl ?_
        refine z_getR (N := 16) (b := 102) 0 5 rfl f_0_21 rfl J rfl 12549 ⟨rfl, rfl⟩ rfl ?_
        refine x_iloadn (x := a2) rfl rfl ?_
        refine x_dup2 rfl rfl rfl ?_
        refine z_iald0 (N := 40) rfl J rfl rfl (by omega) (fun v26 qv26 => ?_)
        have ev26 := jfull v26
        try rw [vrd qv26 (show a2.toInt = a2.toInt from by omega)] at D
        refine x_iload (x := v24) rfl rfl ?_
        refine z_isubW rfl rfl rfl (fun v27 ev27 => ?_)
        have fv27 := jfull v27
        try rw [← ev27] at D
        refine z_iast (N := 40) (l := 0) (u := 40) (w := v27.toInt) rfl hD J Sm rfl rfl rfl (by omega) rfl (wr_102) rfl (fun h w28 J Sm => ?_)
        rw [vww w28 (show a2.toInt = a2.toInt from by omega) (show v27.toInt = v27.toInt from by omega)] at D
        exact jX.sub (jsb_c rfl (jsb_c rfl (jsb_c rfl jsb_n))) (ct_X0_splitOff_r98d_96 hD hQ  a1 a2 h (jr_of rfl (by omega)) (jr_of rfl (by omega)) J Sm D)
def fp_X8_at_r49_c2d : jFp := []
set_option maxRecDepth 100000 in
set_option maxHeartbeats 4000000 in
theorem ct_X8_at_r49_c2d_24 {Dy : jH → Prop} {h0 : jH} {Q : Option Value → jH → Prop} {dr : Int} (hD : jDk Dy) (hQ : ∀ (v : Int32) hx9, (-1) ≤ v.toInt ∧ v.toInt ≤ 39 → jJ jSgX Dy hx9 → jSm fp_X8_at_r49_c2d h0 hx9 → dr = v.toInt → vw hx9 = vw h0 → Q (some (.int v)) hx9) : ∀ (h : jH), jJ jSgX Dy h → jSm fp_X8_at_r49_c2d h0 h → d_X8_at_r49_c2d_24  (vw h) = dr → vw h = vw h0 → jX m_X8_at 1 0 0 24 [] [] h 0 0 Q := by
  intro  h    J Sm D EV
  unfold d_X8_at_r49_c2d_24 at D
  refine x_iconst (v := 0) rfl ki_0 ?_
  refine x_iret rfl rfl ?_
  exact hQ _ _ (jr_of jk_0 (by omega)) J Sm (D.symm.trans (show 0 = (0 : Int32).toInt from by have := jk_0; omega)) EV
set_option maxRecDepth 100000 in
set_option maxHeartbeats 4000000 in
theorem sf_X8_at_r49_c2d {Dy : jH → Prop} {h : jH} {Q : Option Value → jH → Prop} {dr : Int} {a1 : Int32} (y1 : 0 ≤ a1.toInt ∧ a1.toInt ≤ 39) (hD : jDk Dy) (J : jJ jSgX Dy h) (D : d_X8_at_r49_c2d a1.toInt (vw h) = dr) (hQ : ∀ (v : Int32) hx9, (-1) ≤ v.toInt ∧ v.toInt ≤ 39 → jJ jSgX Dy hx9 → jSm fp_X8_at_r49_c2d h hx9 → dr = v.toInt → vw hx9 = vw h → Q (some (.int v)) hx9) : jC m_X8_at 1 0 0 [.ref 49, .int a1, .int 2] h Q := by
  refine jC.of rfl k_X8_at rfl ?_
  have Sm := jSm_rf fp_X8_at_r49_c2d h
  show jX m_X8_at 1 0 0 0 [(0, .ref 49), (1, .int a1), (2, .int 2)] [] _ 0 0 _
  unfold d_X8_at_r49_c2d at D
  have EV : vw h = vw h := rfl
  refine x_iloadn (x := a1) rfl rfl ?_
  refine x_iflt (tgt := 24) rfl rfl (ti_lt rfl jk_0 (br_f (by omega) ?_))
  refine x_iloadn (x := a1) rfl rfl ?_
  refine x_aloadn (x := 49) rfl rfl ?_
  refine z_getI (N := 4) 8 3 rfl f_8_7 rfl J rfl sg_49_3_4_1_0_1 (fun v1 qv1 ev1 => ?_)
  try rw [vrf qv1] at D
  refine x_icge (tgt := 24) rfl rfl (ti_ge rfl rfl ⟨fun c2 => ?_, fun c2 => ?_⟩)
  ·
    rw [if_pos (by omega)] at D
    exact jX.sub jsb_n (ct_X8_at_r49_c2d_24 hD hQ  h J Sm D EV)
  ·
    rw [if_neg (by omega)] at D
    refine x_iloadn (x := 2) rfl rfl ?_
    refine x_iflt (tgt := 24) rfl rfl (ti_lt jk_2 jk_0 (br_f (by omega) ?_))
    refine x_iloadn (x := 2) rfl rfl ?_
    refine x_aloadn (x := 49) rfl rfl ?_
    refine z_getC (N := 4) (v := 5) 8 0 rfl f_8_19 rfl J rfl sg_49_0_1_1_0_1 jk_5 ?_
    refine x_iclt (tgt := 26) rfl rfl (ti_lt jk_2 jk_5 (br_t (by omega) ?_))
    refine x_aloadn (x := 49) rfl rfl ?_
    refine z_getR (N := 4) (b := 50) 8 2 rfl f_8_25 rfl J rfl 6274 ⟨rfl, rfl⟩ rfl ?_
    refine x_iloadn (x := a1) rfl rfl ?_
    refine x_aloadn (x := 49) rfl rfl ?_
    refine z_getC (N := 4) (v := 5) 8 0 rfl f_8_19 rfl J rfl sg_49_0_1_1_0_1 jk_5 ?_
    refine z_imul rfl rfl jk_5 (by omega) (fun v3 ev3 => ?_)
    refine x_iloadn (x := 2) rfl rfl ?_
    refine z_iadd rfl rfl jk_2 (by omega) (fun v4 ev4 => ?_)
    refine z_iald (N := 200) rfl J rfl sg_50_0_200_5_2_3 rfl (by omega) (fun v5 qv5 ev5 => ?_)
    try rw [vrd qv5 (show ((a1.toInt * 5) + 2) = v4.toInt from by omega)] at D
    refine x_iret rfl rfl ?_
    exact hQ _ _ (jr_of rfl (by omega)) J Sm (D.symm.trans (show v5.toInt = v5.toInt from by omega)) EV
def fp_X0_readHouses_r98d : jFp := [(98, 10, 11), (98, 11, 12), (102, 0, 40), (103, 0, 40), (104, 0, 40), (105, 0, 3)]
set_option maxRecDepth 100000 in
set_option maxHeartbeats 4000000 in
theorem ct_X0_readHouses_r98d_166 {Dy : jH → Prop} {h0 : jH} {Q : Option Value → jH → Prop} {dr : jW} {K89 : Int → Int → jW → jW} {R89 : Int} (hD : jDk Dy) (hQ : ∀ hx9, jJ jSgX Dy hx9 → jSm fp_X0_readHouses_r98d h0 hx9 → dr = vw hx9 → Q none hx9) (k89 : ∀ (l3 : Int32) (l4 : Int32) (h : jH), 40 - l4.toInt < R89 → 0 ≤ l3.toInt ∧ l3.toInt ≤ 40 → 0 ≤ l4.toInt ∧ l4.toInt ≤ 40 → jJ jSgX Dy h → jSm fp_X0_readHouses_r98d h0 h → K89 l3.toInt l4.toInt (vw h) = dr → jX m_X0_readHouses 3 0 0 89 [(0, .ref 98), (3, .int l3), (4, .int l4)] [] h 0 0 Q) : ∀ (l3 : Int32) (l4 : Int32) (h : jH), 1 ≤ l3.toInt ∧ l3.toInt ≤ 40 → 0 ≤ l4.toInt ∧ l4.toInt ≤ 39 → 40 - l4.toInt ≤ R89 → jJ jSgX Dy h → jSm fp_X0_readHouses_r98d h0 h → d_X0_readHouses_r98d_166 K89  l3.toInt l4.toInt (vw h) = dr → jX m_X0_readHouses 3 0 0 166 [(0, .ref 98), (3, .int l3), (4, .int l4)] [] h 0 0 Q := by
  intro l3 l4 h y0 y1  m89 J Sm D
  unfold d_X0_readHouses_r98d_166 at D
  refine z_iinc (x := l4) (lsx9 := fun v1 => [(4, .int v1), (0, .ref 98), (3, .int l3)]) rfl rfl rfl jko_1 (by omega) rfl (fun _ => rfl) (fun v1 ev1 => ?_)
  refine x_goto (tgt := 89) rfl rfl ?_
  try rw [show (l4.toInt + 1) = v1.toInt from by omega] at D
  exact jX.sub (jsb_c rfl (jsb_c rfl (jsb_c rfl jsb_n))) (k89 l3 v1 h (by omega) (jr_of rfl (by omega)) (jr_of rfl (by omega)) J Sm D)
set_option maxRecDepth 100000 in
set_option maxHeartbeats 4000000 in
theorem ct_X0_readHouses_r98d_100130 {Dy : jH → Prop} {h0 : jH} {Q : Option Value → jH → Prop} {dr : jW} {K89 : Int → Int → jW → jW} {R89 : Int} (hD : jDk Dy) (hQ : ∀ hx9, jJ jSgX Dy hx9 → jSm fp_X0_readHouses_r98d h0 hx9 → dr = vw hx9 → Q none hx9) (k89 : ∀ (l3 : Int32) (l4 : Int32) (h : jH), 40 - l4.toInt < R89 → 0 ≤ l3.toInt ∧ l3.toInt ≤ 40 → 0 ≤ l4.toInt ∧ l4.toInt ≤ 40 → jJ jSgX Dy h → jSm fp_X0_readHouses_r98d h0 h → K89 l3.toInt l4.toInt (vw h) = dr → jX m_X0_readHouses 3 0 0 89 [(0, .ref 98), (3, .int l3), (4, .int l4)] [] h 0 0 Q) : ∀ (l3 : Int32) (l4 : Int32) (s1 : Int32) (h : jH), 1 ≤ l3.toInt ∧ l3.toInt ≤ 40 → 0 ≤ l4.toInt ∧ l4.toInt ≤ 39 → 0 ≤ s1.toInt ∧ s1.toInt ≤ 39 → 40 - l4.toInt ≤ R89 → jJ jSgX Dy h → jSm fp_X0_readHouses_r98d h0 h → d_X0_readHouses_r98d_100130 K89  l3.toInt l4.toInt s1.toInt (vw h) = dr → jX m_X0_readHouses 3 0 0 130 [(0, .ref 98), (3, .int l3), (4, .int l4)] [.int (-1), .int s1, .ref 103] h 0 0 Q := by
  intro l3 l4 s1 h y0 y1 y2  m89 J Sm D
  unfold d_X0_readHouses_r98d_100130 at D
  refine z_iast (N := 40) (l := 0) (u := 40) (w := (-1)) rfl hD J Sm rfl rfl rfl (by omega) jk_m1 (wr_103 (fun q1 q2 q3 q4 => by omega)) rfl (fun h w1 J Sm => ?_)
  rw [vww w1 (show s1.toInt = s1.toInt from by omega) (show (-1) = ((-1) : Int32).toInt from by have := jk_m1; omega)] at D
  refine x_aloadn (x := 98) rfl rfl ?_
  refine z_getR (N := 16) (b := 32) 0 0 rfl f_0_57 rfl J rfl 12544 ⟨rfl, rfl⟩ rfl ?_
  refine z_getR (N := 20) (b := 49) 1 8 rfl f_0_120 rfl J rfl 4104 ⟨rfl, rfl⟩ rfl ?_
  refine x_iload (x := l4) rfl rfl ?_
  refine x_iconst (v := 2) rfl ki_2 ?_
  refine x_inv (N := m_X8_at) (As := [.int l4, .int 2]) (b := 49) (st := []) (dx9 := 1) (mc := 0) (ms := 0) (host := "") 8 rfl t_X8_at ⟨Or.inl q_0_145, i_X8_at.1, i_X8_at.2⟩ ⟨by decide, rfl⟩ (congrArg Prod.fst (J.1.1 49 (8, 4) rfl)) rfl (by decide) rfl rfl ⟨by decide, by decide⟩ (sf_X8_at_r49_c2d (jr_of rfl (by omega)) hD J rfl  (fun v5 h ev5 J S2 X3 X4 => ?_))
  have Sm := jSm_tr rfl Sm S2
  try rw [X3] at D
  try rw [← X4] at D
  show jX m_X0_readHouses 3 0 0 144 [(0, .ref 98), (3, .int l3), (4, .int l4)] [.int v5] _ 0 0 _
  refine x_istore (lsx9 := [(5, .int v5), (0, .ref 98), (3, .int l3), (4, .int l4)]) rfl rfl rfl ?_
  refine x_iload (x := v5) rfl rfl ?_
  refine x_iflt (tgt := 166) rfl rfl (ti_lt rfl jk_0 ⟨fun c6 => ?_, fun c6 => ?_⟩)
  ·
    rw [if_pos (by omega)] at D
    exact jX.sub (jsb_c rfl (jsb_c rfl (jsb_c rfl jsb_n))) (ct_X0_readHouses_r98d_166 hD hQ k89 l3 l4 h (jr_of rfl (by omega)) (jr_of rfl (by omega)) (by omega) J Sm D)
  ·
    rw [if_neg (by omega)] at D
    refine x_iload (x := v5) rfl rfl ?_
    refine x_iload (x := l4) rfl rfl ?_
    refine x_icge (tgt := 166) rfl rfl (ti_ge rfl rfl ⟨fun c7 => ?_, fun c7 => ?_⟩)
    ·
      rw [if_pos (by omega)] at D
      exact jX.sub (jsb_c rfl (jsb_c rfl (jsb_c rfl jsb_n))) (ct_X0_readHouses_r98d_166 hD hQ k89 l3 l4 h (jr_of rfl (by omega)) (jr_of rfl (by omega)) (by omega) J Sm D)
    ·
      rw [if_neg (by omega)] at D
      refine x_aloadn (x := 98) rfl rfl ?_
      refine x_iload (x := l4) rfl rfl ?_
      refine x_iload (x := v5) rfl rfl ?_
      refine x_inv (N := m_X0_splitOff) (As := [.int l4, .int v5]) (b := 98) (st := []) (dx9 := 2) (mc := 0) (ms := 0) (host := "") 0 rfl t_X0_splitOff ⟨Or.inl q_0_148, i_X0_splitOff.1, i_X0_splitOff.2⟩ ⟨by decide, rfl⟩ (congrArg Prod.fst (J.1.1 98 (0, 16) rfl)) rfl (by decide) rfl rfl ⟨by decide, by decide⟩ (sf_X0_splitOff_r98d (jr_of rfl (by omega)) (jr_of rfl (by omega)) hD J rfl  (fun h J S8 X9 => ?_))
      have Sm := jSm_tr rfl Sm S8
      rw [X9] at D
      show jX m_X0_readHouses 3 0 0 166 [(5, .int v5), (0, .ref 98), (3, .int l3), (4, .int l4)] [] _ 0 0 _
      exact jX.sub (jsb_c rfl (jsb_c rfl (jsb_c rfl jsb_n))) (ct_X0_readHouses_r98d_166 hD hQ k89 l3 l4 h (jr_of rfl (by omega)) (jr_of rfl (by omega)) (by omega) J Sm D)
set_option maxRecDepth 100000 in
set_option maxHeartbeats 4000000 in
theorem ct_X0_readHouses_r98d_130 {Dy : jH → Prop} {h0 : jH} {Q : Option Value → jH → Prop} {dr : jW} {K89 : Int → Int → jW → jW} {R89 : Int} (hD : jDk Dy) (hQ : ∀ hx9, jJ jSgX Dy hx9 → jSm fp_X0_readHouses_r98d h0 hx9 → dr = vw hx9 → Q none hx9) (k89 : ∀ (l3 : Int32) (l4 : Int32) (h : jH), 40 - l4.toInt < R89 → 0 ≤ l3.toInt ∧ l3.toInt ≤ 40 → 0 ≤ l4.toInt ∧ l4.toInt ≤ 40 → jJ jSgX Dy h → jSm fp_X0_readHouses_r98d h0 h → K89 l3.toInt l4.toInt (vw h) = dr → jX m_X0_readHouses 3 0 0 89 [(0, .ref 98), (3, .int l3), (4, .int l4)] [] h 0 0 Q) : ∀ (l3 : Int32) (l4 : Int32) (s0 : Int32) (s1 : Int32) (h : jH), 1 ≤ l3.toInt ∧ l3.toInt ≤ 40 → 0 ≤ l4.toInt ∧ l4.toInt ≤ 39 → (-1) ≤ s0.toInt ∧ s0.toInt ≤ 599 → 0 ≤ s1.toInt ∧ s1.toInt ≤ 39 → 40 - l4.toInt ≤ R89 → jJ jSgX Dy h → jSm fp_X0_readHouses_r98d h0 h → d_X0_readHouses_r98d_130 K89  l3.toInt l4.toInt s0.toInt s1.toInt (vw h) = dr → jX m_X0_readHouses 3 0 0 130 [(0, .ref 98), (3, .int l3), (4, .int l4)] [.int s0, .int s1, .ref 103] h 0 0 Q := by
  intro l3 l4 s0 s1 h y0 y1 y2 y3  m89 J Sm D
  unfold d_X0_readHouses_r98d_130 at D
  refine z_iast (N := 40) (l := 0) (u := 40) (w := s0.toInt) rfl hD J Sm rfl rfl rfl (by omega) rfl (wr_103 (fun q1 q2 q3 q4 => by omega)) rfl (fun h w1 J Sm => ?_)
  rw [vww w1 (show s1.toInt = s1.toInt from by omega) (show s0.toInt = s0.toInt from by omega)] at D
  refine x_aloadn (x := 98) rfl rfl ?_
  refine z_getR (N := 16) (b := 32) 0 0 rfl f_0_57 rfl J rfl 12544 ⟨rfl, rfl⟩ rfl ?_
  refine z_getR (N := 20) (b := 49) 1 8 rfl f_0_120 rfl J rfl 4104 ⟨rfl, rfl⟩ rfl ?_
  refine x_iload (x := l4) rfl rfl ?_
  refine x_iconst (v := 2) rfl ki_2 ?_
  refine x_inv (N := m_X8_at) (As := [.int l4, .int 2]) (b := 49) (st := []) (dx9 := 1) (mc := 0) (ms := 0) (host := "") 8 rfl t_X8_at ⟨Or.inl q_0_145, i_X8_at.1, i_X8_at.2⟩ ⟨by decide, rfl⟩ (congrArg Prod.fst (J.1.1 49 (8, 4) rfl)) rfl (by decide) rfl rfl ⟨by decide, by decide⟩ (sf_X8_at_r49_c2d (jr_of rfl (by omega)) hD J rfl  (fun v5 h ev5 J S2 X3 X4 => ?_))
  have Sm := jSm_tr rfl Sm S2
  try rw [X3] at D
  try rw [← X4] at D
  show jX m_X0_readHouses 3 0 0 144 [(0, .ref 98), (3, .int l3), (4, .int l4)] [.int v5] _ 0 0 _
  refine x_istore (lsx9 := [(5, .int v5), (0, .ref 98), (3, .int l3), (4, .int l4)]) rfl rfl rfl ?_
  refine x_iload (x := v5) rfl rfl ?_
  refine x_iflt (tgt := 166) rfl rfl (ti_lt rfl jk_0 ⟨fun c6 => ?_, fun c6 => ?_⟩)
  ·
    rw [if_pos (by omega)] at D
    exact jX.sub (jsb_c rfl (jsb_c rfl (jsb_c rfl jsb_n))) (ct_X0_readHouses_r98d_166 hD hQ k89 l3 l4 h (jr_of rfl (by omega)) (jr_of rfl (by omega)) (by omega) J Sm D)
  ·
    rw [if_neg (by omega)] at D
    refine x_iload (x := v5) rfl rfl ?_
    refine x_iload (x := l4) rfl rfl ?_
    refine x_icge (tgt := 166) rfl rfl (ti_ge rfl rfl ⟨fun c7 => ?_, fun c7 => ?_⟩)
    ·
      rw [if_pos (by omega)] at D
      exact jX.sub (jsb_c rfl (jsb_c rfl (jsb_c rfl jsb_n))) (ct_X0_readHouses_r98d_166 hD hQ k89 l3 l4 h (jr_of rfl (by omega)) (jr_of rfl (by omega)) (by omega) J Sm D)
    ·
      rw [if_neg (by omega)] at D
      refine x_aloadn (x := 98) rfl rfl ?_
      refine x_iload (x := l4) rfl rfl ?_
      refine x_iload (x := v5) rfl rfl ?_
      refine x_inv (N := m_X0_splitOff) (As := [.int l4, .int v5]) (b := 98) (st := []) (dx9 := 2) (mc := 0) (ms := 0) (host := "") 0 rfl t_X0_splitOff ⟨Or.inl q_0_148, i_X0_splitOff.1, i_X0_splitOff.2⟩ ⟨by decide, rfl⟩ (congrArg Prod.fst (J.1.1 98 (0, 16) rfl)) rfl (by decide) rfl rfl ⟨by decide, by decide⟩ (sf_X0_splitOff_r98d (jr_of rfl (by omega)) (jr_of rfl (by omega)) hD J rfl  (fun h J S8 X9 => ?_))
      have Sm := jSm_tr rfl Sm S8
      rw [X9] at D
      show jX m_X0_readHouses 3 0 0 166 [(5, .int v5), (0, .ref 98), (3, .int l3), (4, .int l4)] [] _ 0 0 _
      exact jX.sub (jsb_c rfl (jsb_c rfl (jsb_c rfl jsb_n))) (ct_X0_readHouses_r98d_166 hD hQ k89 l3 l4 h (jr_of rfl (by omega)) (jr_of rfl (by omega)) (by omega) J Sm D)
set_option maxRecDepth 100000 in
set_option maxHeartbeats 4000000 in
theorem ct_X0_readHouses_r98d_89 {Dy : jH → Prop} {h0 : jH} {Q : Option Value → jH → Prop} {dr : jW} (hD : jDk Dy) (hQ : ∀ hx9, jJ jSgX Dy hx9 → jSm fp_X0_readHouses_r98d h0 hx9 → dr = vw hx9 → Q none hx9) : ∀ r : Nat, ∀ (l3 : Int32) (l4 : Int32) (h : jH), 40 - l4.toInt < (r : Int) → 0 ≤ l3.toInt ∧ l3.toInt ≤ 40 → 0 ≤ l4.toInt ∧ l4.toInt ≤ 40 → jJ jSgX Dy h → jSm fp_X0_readHouses_r98d h0 h → d_X0_readHouses_r98d_89 r l3.toInt l4.toInt (vw h) = dr → jX m_X0_readHouses 3 0 0 89 [(0, .ref 98), (3, .int l3), (4, .int l4)] [] h 0 0 Q := by
  intro r
  induction r with
  | zero =>
    intro l3 l4 h hm y0 y1   J Sm D
    exfalso
    omega
  | succ r ih =>
    intro l3 l4 h hm y0 y1   J Sm D
    rw [d_X0_readHouses_r98d_89.eq_2] at D
    refine x_iload (x := l4) rfl rfl ?_
    refine x_iloadn (x := l3) rfl rfl ?_
    refine x_icge (tgt := 172) rfl rfl (ti_ge rfl rfl ⟨fun c1 => ?_, fun c1 => ?_⟩)
    ·
      rw [if_pos (by omega)] at D
      refine x_vret rfl rfl ?_
      exact hQ _ J Sm D.symm
    ·
      rw [if_neg (by omega)] at D
      refine x_aloadn (x := 98) rfl rfl ?_
      refine z_getR (N := 16) (b := 103) 0 6 rfl f_0_24 rfl J rfl 12550 ⟨rfl, rfl⟩ rfl ?_
      refine x_iload (x := l4) rfl rfl ?_
      refine x_aloadn (x := 98) rfl rfl ?_
      refine z_getR (N := 16) (b := 103) 0 6 rfl f_0_24 rfl J rfl 12550 ⟨rfl, rfl⟩ rfl ?_
      refine x_iload (x := l4) rfl rfl ?_
      refine z_iald (N := 40) rfl J rfl sg_103_0_40_1_0_1 rfl (by omega) (fun v2 qv2 ev2 => ?_)
      try rw [vrd qv2 (show l4.toInt = l4.toInt from by omega)] at D
      refine x_iconst (v := (-1)) rfl ki_m1 ?_
      refine x_icne (tgt := 116) rfl rfl (ti_ne rfl jk_m1 ⟨fun c3 => ?_, fun c3 => ?_⟩)
      ·
        rw [if_neg (by omega)] at D
        refine x_aloadn (x := 98) rfl rfl ?_
        refine z_getR (N := 16) (b := 78) 0 1 rfl f_0_61 rfl J rfl 12545 ⟨rfl, rfl⟩ rfl ?_
        refine x_aloadn (x := 98) rfl rfl ?_
        refine z_getR (N := 16) (b := 103) 0 6 rfl f_0_24 rfl J rfl 12550 ⟨rfl, rfl⟩ rfl ?_
        refine x_iload (x := l4) rfl rfl ?_
        refine z_ialdM (N := 40) (v := v2) rfl J rfl rfl (by omega) qv2 ?_
        refine x_inv (N := m_X7_soulAt) (As := [.int v2]) (b := 78) (st := [.int l4, .ref 103]) (dx9 := 2) (mc := 0) (ms := 0) (host := "") 7 rfl t_X7_soulAt ⟨Or.inl q_0_139, i_X7_soulAt.1, i_X7_soulAt.2⟩ ⟨by decide, rfl⟩ (congrArg Prod.fst (J.1.1 78 (7, 16) rfl)) rfl (by decide) rfl rfl ⟨by decide, by decide⟩ (jC.of rfl k_X7_soulAt rfl ?_)
        show jX m_X7_soulAt 2 0 0 0 [(0, .ref 78), (1, .int v2)] [] _ 0 0 _
        refine x_iloadn (x := v2) rfl rfl ?_
        refine x_iflt (tgt := 36) rfl rfl (ti_lt rfl jk_0 (br_f (by omega) ?_))
        refine x_iloadn (x := v2) rfl rfl ?_
        refine x_sipush (v := 600) rfl ks_600 ?_
        refine x_icge (tgt := 36) rfl rfl (ti_ge rfl jk_600 (br_f (by omega) ?_))
        refine x_iloadn (x := v2) rfl rfl ?_
        refine x_iconst (v := 3) rfl ki_3 ?_
        refine z_idiv rfl rfl jk_3 (by omega) (by omega) (fun v4 ev4 => ?_)
        refine x_aloadn (x := 78) rfl rfl ?_
        refine z_getR (N := 16) (b := 32) 7 0 rfl f_7_55 rfl J rfl 9984 ⟨rfl, rfl⟩ rfl ?_
        refine z_getR (N := 20) (b := 33) 1 0 rfl f_7_63 rfl J rfl 4096 ⟨rfl, rfl⟩ rfl ?_
        refine z_getI (N := 4) 8 3 rfl f_7_85 rfl J rfl sg_33_3_4_1_0_1 (fun v5 qv5 ev5 => ?_)
        try rw [vrf qv5] at D
        refine x_icge (tgt := 36) rfl rfl (ti_ge rfl rfl ⟨fun c6 => ?_, fun c6 => ?_⟩)
        ·
          rw [if_pos (by omega)] at D
          refine x_iconst (v := (-1)) rfl ki_m1 ?_
          refine x_iret rfl rfl ?_
          show jX m_X0_readHouses 3 0 0 130 [(0, .ref 98), (3, .int l3), (4, .int l4)] [.int (-1), .int l4, .ref 103] _ 0 0 _
          exact jX.sub (jsb_c rfl (jsb_c rfl (jsb_c rfl jsb_n))) (ct_X0_readHouses_r98d_100130 hD hQ ih l3 l4 l4 h (jr_of rfl (by omega)) (jr_of rfl (by omega)) (jr_of rfl (by omega)) (by omega) J Sm D)
        ·
          rw [if_neg (by omega)] at D
          refine x_aloadn (x := 78) rfl rfl ?_
          refine z_getR (N := 16) (b := 82) 7 10 rfl f_7_37 rfl J rfl 9994 ⟨rfl, rfl⟩ rfl ?_
          refine x_iloadn (x := v2) rfl rfl ?_
          refine z_iald (N := 600) rfl J rfl sg_82_0_600_1_0_1 rfl (by omega) (fun v7 qv7 ev7 => ?_)
          try rw [vrd qv7 (show v2.toInt = v2.toInt from by omega)] at D
          refine x_goto (tgt := 37) rfl rfl ?_
          refine x_iret rfl rfl ?_
          show jX m_X0_readHouses 3 0 0 130 [(0, .ref 98), (3, .int l3), (4, .int l4)] [.int v7, .int l4, .ref 103] _ 0 0 _
          exact jX.sub (jsb_c rfl (jsb_c rfl (jsb_c rfl jsb_n))) (ct_X0_readHouses_r98d_130 hD hQ ih l3 l4 v7 l4 h (jr_of rfl (by omega)) (jr_of rfl (by omega)) (jr_of rfl (by omega)) (jr_of rfl (by omega)) (by omega) J Sm D)
      ·
        rw [if_pos (by omega)] at D
        refine x_iconst (v := (-1)) rfl ki_m1 ?_
        refine x_goto (tgt := 130) rfl rfl ?_
        exact jX.sub (jsb_c rfl (jsb_c rfl (jsb_c rfl jsb_n))) (ct_X0_readHouses_r98d_100130 hD hQ ih l3 l4 l4 h (jr_of rfl (by omega)) (jr_of rfl (by omega)) (jr_of rfl (by omega)) (by omega) J Sm D)
set_option maxRecDepth 100000 in
set_option maxHeartbeats 4000000 in
theorem sf_X0_readHouses_r98d {Dy : jH → Prop} {h : jH} {Q : Option Value → jH → Prop} {dr : jW} {a1 : Int32} {a2 : Int32} (y1 : 0 ≤ a1.toInt ∧ a1.toInt ≤ 146399) (y2 : 0 ≤ a2.toInt ∧ a2.toInt ≤ 146399) (hD : jDk Dy) (J : jJ jSgX Dy h) (D : d_X0_readHouses_r98d a1.toInt a2.toInt (vw h) = dr) (hQ : ∀ hx9, jJ jSgX Dy hx9 → jSm fp_X0_readHouses_r98d h hx9 → dr = vw hx9 → Q none hx9) : jC m_X0_readHouses 3 0 0 [.ref 98, .int a1, .int a2] h Q := by
  refine jC.of rfl k_X0_readHouses rfl ?_
  have Sm := jSm_rf fp_X0_readHouses_r98d h
  show jX m_X0_readHouses 3 0 0 0 [(0, .ref 98), (1, .int a1), (2, .int a2)] [] _ 0 0 _
  unfold d_X0_readHouses_r98d at D
  refine x_aloadn (x := 98) rfl rfl ?_
  refine x_iloadn (x := a1) rfl rfl ?_
  refine z_putI (N := 16) (w := a1.toInt) 0 10 rfl f_0_37 rfl (jfin_no TX0 RX0 16 rfl rfl) hD J Sm rfl rfl rfl (pw_98_10 (by omega)) rfl (fun h w1 J Sm => ?_)
  rw [vwf w1 (show a1.toInt = a1.toInt from by omega)] at D
  refine x_aloadn (x := 98) rfl rfl ?_
  refine x_iloadn (x := a2) rfl rfl ?_
  refine z_putI (N := 16) (w := a2.toInt) 0 11 rfl f_0_41 rfl (jfin_no TX0 RX0 16 rfl rfl) hD J Sm rfl rfl rfl (pw_98_11 (by omega)) rfl (fun h w2 J Sm => ?_)
  rw [vwf w2 (show a2.toInt = a2.toInt from by omega)] at D
  refine x_aloadn (x := 98) rfl rfl ?_
  refine z_getR (N := 16) (b := 105) 0 8 rfl f_0_30 rfl J rfl 12552 ⟨rfl, rfl⟩ rfl ?_
  refine x_aloadn (x := 98) rfl rfl ?_
  refine z_getM (N := 16) (v := a1) 0 10 rfl f_0_37 rfl J rfl (jmo w2 rfl (jmw w1)) ?_
  refine x_aloadn (x := 98) rfl rfl ?_
  refine z_getM (N := 16) (v := a2) 0 11 rfl f_0_41 rfl J rfl (jmw w2) ?_
  refine x_aloadn (x := 98) rfl rfl ?_
  refine z_getR (N := 16) (b := 32) 0 0 rfl f_0_57 rfl J rfl 12544 ⟨rfl, rfl⟩ rfl ?_
  refine z_getI0 (N := 20) 1 19 rfl f_0_81 rfl J rfl (fun v3 qv3 => ?_)
  have ev3 := jfull v3
  try rw [vrf (jmb_w w1 (jmb_w w2 qv3 rfl) rfl)] at D
  refine x_inst (N := m_X11_isFresh) (As := [.ref 105, .int a1, .int a2, .int v3]) (st := []) (dx9 := 2) (mc := 0) (ms := 0) (host := "ParishChest") rfl t_X11_isFresh ⟨Or.inr q_0_84, s_X11_isFresh⟩ rfl (by decide) rfl rfl ⟨by decide, by decide⟩ (jC.of rfl k_X11_isFresh rfl ?_)
  show jX m_X11_isFresh 2 0 0 0 [(0, .ref 105), (1, .int a1), (2, .int a2), (3, .int v3)] [] _ 0 0 _
  refine x_aloadn (x := 105) rfl rfl ?_
  refine z_alen (N := 3) (v := 3) rfl J rfl rfl (by decide) ?_
  refine x_iconst (v := 3) rfl ki_3 ?_
  refine x_icge (tgt := 8) rfl rfl (ti_ge jk_3 jk_3 (br_t (by omega) ?_))
  refine x_aloadn (x := 105) rfl rfl ?_
  refine x_iconst (v := 0) rfl ki_0 ?_
  refine z_iald0 (N := 3) rfl J rfl jk_0 (by omega) (fun v4 qv4 => ?_)
  have ev4 := jfull v4
  try rw [vrn (n := 0) (by decide) (jmb_w w1 (jmb_w w2 qv4 rfl) rfl)] at D
  refine x_iloadn (x := a1) rfl rfl ?_
  refine x_icne (tgt := 33) rfl rfl (ti_ne rfl rfl ⟨fun c5 => ?_, fun c5 => ?_⟩)
  ·
    rw [if_neg (by omega)] at D
    refine x_iconst (v := 0) rfl ki_0 ?_
    refine x_istore (lsx9 := [(4, .int 0), (0, .ref 105), (1, .int a1), (2, .int a2), (3, .int v3)]) rfl rfl rfl ?_
    refine x_aloadn (x := 105) rfl rfl ?_
    refine x_iconst (v := 0) rfl ki_0 ?_
    refine x_iloadn (x := a1) rfl rfl ?_
    refine z_iast (N := 3) (l := 0) (u := 3) (w := a1.toInt) rfl hD J Sm rfl rfl jk_0 (by omega) rfl (wr_105) rfl (fun h w6 J Sm => ?_)
    rw [vwn (n := 0) (by decide) w6 (show a1.toInt = a1.toInt from by omega)] at D
    refine x_aloadn (x := 105) rfl rfl ?_
    refine x_iconst (v := 1) rfl ki_1 ?_
    refine x_iloadn (x := a2) rfl rfl ?_
    refine z_iast (N := 3) (l := 0) (u := 3) (w := a2.toInt) rfl hD J Sm rfl rfl jk_1 (by omega) rfl (wr_105) rfl (fun h w7 J Sm => ?_)
    rw [vwn (n := 1) (by decide) w7 (show a2.toInt = a2.toInt from by omega)] at D
    refine x_aloadn (x := 105) rfl rfl ?_
    refine x_iconst (v := 2) rfl ki_2 ?_
    refine x_iloadn (x := v3) rfl rfl ?_
    refine z_iast (N := 3) (l := 0) (u := 3) (w := v3.toInt) rfl hD J Sm rfl rfl jk_2 (by omega) rfl (wr_105) rfl (fun h w8 J Sm => ?_)
    rw [vwn (n := 2) (by decide) w8 (show v3.toInt = v3.toInt from by omega)] at D
    refine x_iload (x := 0) rfl rfl ?_
    refine x_zret rfl rfl (by decide) ?_
    show jX m_X0_readHouses 3 0 0 32 [(0, .ref 98), (1, .int a1), (2, .int a2)] [.int 0] _ 0 0 _
    refine x_ifeq (tgt := 36) rfl rfl (ti_eq jk_0 jk_0 (br_t (by omega) ?_))
    refine x_bipush (v := 40) rfl kb_40 ?_
    refine x_aloadn (x := 98) rfl rfl ?_
    refine z_getR (N := 16) (b := 32) 0 0 rfl f_0_57 rfl J rfl 12544 ⟨rfl, rfl⟩ rfl ?_
    refine z_getR (N := 20) (b := 49) 1 8 rfl f_0_120 rfl J rfl 4104 ⟨rfl, rfl⟩ rfl ?_
    refine z_getI (N := 4) 8 3 rfl f_0_124 rfl J rfl sg_49_3_4_1_0_1 (fun v9 qv9 ev9 => ?_)
    try rw [vrf (jmb_w w1 (jmb_w w2 (jmb_w w6 (jmb_w w7 (jmb_w w8 qv9 rfl) rfl) rfl) rfl) rfl)] at D
    refine z_mmin rfl q_0_88 (by decide) rfl jk_40 rfl (fun v10 ev10 => ?_)
    refine x_istoren (lsx9 := [(3, .int v10), (0, .ref 98), (1, .int a1), (2, .int a2)]) rfl rfl rfl ?_
    refine x_aloadn (x := 98) rfl rfl ?_
    refine x_aloadn (x := 98) rfl rfl ?_
    refine z_getR (N := 16) (b := 32) 0 0 rfl f_0_57 rfl J rfl 12544 ⟨rfl, rfl⟩ rfl ?_
    refine z_getR (N := 20) (b := 47) 1 7 rfl f_0_129 rfl J rfl 4103 ⟨rfl, rfl⟩ rfl ?_
    refine x_iconst (v := 3) rfl ki_3 ?_
    refine x_aloadn (x := 98) rfl rfl ?_
    refine z_getR (N := 16) (b := 102) 0 5 rfl f_0_21 rfl J rfl 12549 ⟨rfl, rfl⟩ rfl ?_
    refine x_iconst (v := 0) rfl ki_0 ?_
    refine x_inv (N := m_X0_readLatest) (As := [.ref 47, .int 3, .ref 102, .int 0]) (b := 98) (st := []) (dx9 := 2) (mc := 0) (ms := 0) (host := "") 0 rfl t_X0_readLatest ⟨Or.inl q_0_132, i_X0_readLatest.1, i_X0_readLatest.2⟩ ⟨by decide, rfl⟩ (congrArg Prod.fst (J.1.1 98 (0, 16) rfl)) rfl (by decide) rfl rfl ⟨by decide, by decide⟩ (sf_X0_readLatest_r98_r47_r102d (jr_of jk_3 (by omega)) (jr_of jk_0 (by omega)) hD J rfl  (fun h J S11 X12 => ?_))
    have Sm := jSm_tr rfl Sm S11
    try rw [jk_3] at X12
    try rw [jk_0] at X12
    rw [X12] at D
    show jX m_X0_readHouses 3 0 0 69 [(3, .int v10), (0, .ref 98), (1, .int a1), (2, .int a2)] [] _ 0 0 _
    refine x_aloadn (x := 98) rfl rfl ?_
    refine x_aloadn (x := 98) rfl rfl ?_
    refine z_getR (N := 16) (b := 32) 0 0 rfl f_0_57 rfl J rfl 12544 ⟨rfl, rfl⟩ rfl ?_
    refine z_getR (N := 20) (b := 51) 1 9 rfl f_0_136 rfl J rfl 4105 ⟨rfl, rfl⟩ rfl ?_
    refine x_iconst (v := 3) rfl ki_3 ?_
    refine x_aloadn (x := 98) rfl rfl ?_
    refine z_getR (N := 16) (b := 103) 0 6 rfl f_0_24 rfl J rfl 12550 ⟨rfl, rfl⟩ rfl ?_
    refine x_iconst (v := (-1)) rfl ki_m1 ?_
    refine x_inv (N := m_X0_readLatest) (As := [.ref 51, .int 3, .ref 103, .int (-1)]) (b := 98) (st := []) (dx9 := 2) (mc := 0) (ms := 0) (host := "") 0 rfl t_X0_readLatest ⟨Or.inl q_0_132, i_X0_readLatest.1, i_X0_readLatest.2⟩ ⟨by decide, rfl⟩ (congrArg Prod.fst (J.1.1 98 (0, 16) rfl)) rfl (by decide) rfl rfl ⟨by decide, by decide⟩ (sf_X0_readLatest_r98_r51_r103d (jr_of jk_3 (by omega)) (jr_of jk_m1 (by omega)) hD J rfl  (fun h J S13 X14 => ?_))
    have Sm := jSm_tr rfl Sm S13
    try rw [jk_3] at X14
    try rw [jk_m1] at X14
    rw [X14] at D
    show jX m_X0_readHouses 3 0 0 86 [(3, .int v10), (0, .ref 98), (1, .int a1), (2, .int a2)] [] _ 0 0 _
    refine x_iconst (v := 0) rfl ki_0 ?_
    refine x_istore (lsx9 := [(4, .int 0), (3, .int v10), (0, .ref 98), (1, .int a1), (2, .int a2)]) rfl rfl rfl ?_
    try rw [show (min 40 v9.toInt) = v10.toInt from by omega] at D
    exact jX.sub (jsb_c rfl (jsb_c rfl (jsb_c rfl jsb_n))) (ct_X0_readHouses_r98d_89 hD hQ  41 v10 0 h (by have := jk_0; omega) (jr_of rfl (by omega)) (jr_of jk_0 (by omega)) J Sm (by rw [jk_0]; exact D))
  ·
    rw [if_pos (by omega)] at D
    refine x_aloadn (x := 105) rfl rfl ?_
    refine x_iconst (v := 1) rfl ki_1 ?_
    refine z_iald0 (N := 3) rfl J rfl jk_1 (by omega) (fun v15 qv15 => ?_)
    have ev15 := jfull v15
    try rw [vrn (n := 1) (by decide) (jmb_w w1 (jmb_w w2 qv15 rfl) rfl)] at D
    refine x_iloadn (x := a2) rfl rfl ?_
    refine x_icne (tgt := 33) rfl rfl (ti_ne rfl rfl ⟨fun c16 => ?_, fun c16 => ?_⟩)
    ·
      rw [if_neg (by omega)] at D
      refine x_iconst (v := 0) rfl ki_0 ?_
      refine x_istore (lsx9 := [(4, .int 0), (0, .ref 105), (1, .int a1), (2, .int a2), (3, .int v3)]) rfl rfl rfl ?_
      refine x_aloadn (x := 105) rfl rfl ?_
      refine x_iconst (v := 0) rfl ki_0 ?_
      refine x_iloadn (x := a1) rfl rfl ?_
      refine z_iast (N := 3) (l := 0) (u := 3) (w := a1.toInt) rfl hD J Sm rfl rfl jk_0 (by omega) rfl (wr_105) rfl (fun h w17 J Sm => ?_)
      rw [vwn (n := 0) (by decide) w17 (show a1.toInt = a1.toInt from by omega)] at D
      refine x_aloadn (x := 105) rfl rfl ?_
      refine x_iconst (v := 1) rfl ki_1 ?_
      refine x_iloadn (x := a2) rfl rfl ?_
      refine z_iast (N := 3) (l := 0) (u := 3) (w := a2.toInt) rfl hD J Sm rfl rfl jk_1 (by omega) rfl (wr_105) rfl (fun h w18 J Sm => ?_)
      rw [vwn (n := 1) (by decide) w18 (show a2.toInt = a2.toInt from by omega)] at D
      refine x_aloadn (x := 105) rfl rfl ?_
      refine x_iconst (v := 2) rfl ki_2 ?_
      refine x_iloadn (x := v3) rfl rfl ?_
      refine z_iast (N := 3) (l := 0) (u := 3) (w := v3.toInt) rfl hD J Sm rfl rfl jk_2 (by omega) rfl (wr_105) rfl (fun h w19 J Sm => ?_)
      rw [vwn (n := 2) (by decide) w19 (show v3.toInt = v3.toInt from by omega)] at D
      refine x_iload (x := 0) rfl rfl ?_
      refine x_zret rfl rfl (by decide) ?_
      show jX m_X0_readHouses 3 0 0 32 [(0, .ref 98), (1, .int a1), (2, .int a2)] [.int 0] _ 0 0 _
      refine x_ifeq (tgt := 36) rfl rfl (ti_eq jk_0 jk_0 (br_t (by omega) ?_))
      refine x_bipush (v := 40) rfl kb_40 ?_
      refine x_aloadn (x := 98) rfl rfl ?_
      refine z_getR (N := 16) (b := 32) 0 0 rfl f_0_57 rfl J rfl 12544 ⟨rfl, rfl⟩ rfl ?_
      refine z_getR (N := 20) (b := 49) 1 8 rfl f_0_120 rfl J rfl 4104 ⟨rfl, rfl⟩ rfl ?_
      refine z_getI (N := 4) 8 3 rfl f_0_124 rfl J rfl sg_49_3_4_1_0_1 (fun v20 qv20 ev20 => ?_)
      try rw [vrf (jmb_w w1 (jmb_w w2 (jmb_w w17 (jmb_w w18 (jmb_w w19 qv20 rfl) rfl) rfl) rfl) rfl)] at D
      refine z_mmin rfl q_0_88 (by decide) rfl jk_40 rfl (fun v21 ev21 => ?_)
      refine x_istoren (lsx9 := [(3, .int v21), (0, .ref 98), (1, .int a1), (2, .int a2)]) rfl rfl rfl ?_
      refine x_aloadn (x := 98) rfl rfl ?_
      refine x_aloadn (x := 98) rfl rfl ?_
      refine z_getR (N := 16) (b := 32) 0 0 rfl f_0_57 rfl J rfl 12544 ⟨rfl, rfl⟩ rfl ?_
      refine z_getR (N := 20) (b := 47) 1 7 rfl f_0_129 rfl J rfl 4103 ⟨rfl, rfl⟩ rfl ?_
      refine x_iconst (v := 3) rfl ki_3 ?_
      refine x_aloadn (x := 98) rfl rfl ?_
      refine z_getR (N := 16) (b := 102) 0 5 rfl f_0_21 rfl J rfl 12549 ⟨rfl, rfl⟩ rfl ?_
      refine x_iconst (v := 0) rfl ki_0 ?_
      refine x_inv (N := m_X0_readLatest) (As := [.ref 47, .int 3, .ref 102, .int 0]) (b := 98) (st := []) (dx9 := 2) (mc := 0) (ms := 0) (host := "") 0 rfl t_X0_readLatest ⟨Or.inl q_0_132, i_X0_readLatest.1, i_X0_readLatest.2⟩ ⟨by decide, rfl⟩ (congrArg Prod.fst (J.1.1 98 (0, 16) rfl)) rfl (by decide) rfl rfl ⟨by decide, by decide⟩ (sf_X0_readLatest_r98_r47_r102d (jr_of jk_3 (by omega)) (jr_of jk_0 (by omega)) hD J rfl  (fun h J S22 X23 => ?_))
      have Sm := jSm_tr rfl Sm S22
      try rw [jk_3] at X23
      try rw [jk_0] at X23
      rw [X23] at D
      show jX m_X0_readHouses 3 0 0 69 [(3, .int v21), (0, .ref 98), (1, .int a1), (2, .int a2)] [] _ 0 0 _
      refine x_aloadn (x := 98) rfl rfl ?_
      refine x_aloadn (x := 98) rfl rfl ?_
      refine z_getR (N := 16) (b := 32) 0 0 rfl f_0_57 rfl J rfl 12544 ⟨rfl, rfl⟩ rfl ?_
      refine z_getR (N := 20) (b := 51) 1 9 rfl f_0_136 rfl J rfl 4105 ⟨rfl, rfl⟩ rfl ?_
      refine x_iconst (v := 3) rfl ki_3 ?_
      refine x_aloadn (x := 98) rfl rfl ?_
      refine z_getR (N := 16) (b := 103) 0 6 rfl f_0_24 rfl J rfl 12550 ⟨rfl, rfl⟩ rfl ?_
      refine x_iconst (v := (-1)) rfl ki_m1 ?_
      refine x_inv (N := m_X0_readLatest) (As := [.ref 51, .int 3, .ref 103, .int (-1)]) (b := 98) (st := []) (dx9 := 2) (mc := 0) (ms := 0) (host := "") 0 rfl t_X0_readLatest ⟨Or.inl q_0_132, i_X0_readLatest.1, i_X0_readLatest.2⟩ ⟨by decide, rfl⟩ (congrArg Prod.fst (J.1.1 98 (0, 16) rfl)) rfl (by decide) rfl rfl ⟨by decide, by decide⟩ (sf_X0_readLatest_r98_r51_r103d (jr_of jk_3 (by omega)) (jr_of jk_m1 (by omega)) hD J rfl  (fun h J S24 X25 => ?_))
      have Sm := jSm_tr rfl Sm S24
      try rw [jk_3] at X25
      try rw [jk_m1] at X25
      rw [X25] at D
      show jX m_X0_readHouses 3 0 0 86 [(3, .int v21), (0, .ref 98), (1, .int a1), (2, .int a2)] [] _ 0 0 _
      refine x_iconst (v := 0) rfl ki_0 ?_
      refine x_istore (lsx9 := [(4, .int 0), (3, .int v21), (0, .ref 98), (1, .int a1), (2, .int a2)]) rfl rfl rfl ?_
      try rw [show (min 40 v20.toInt) = v21.toInt from by omega] at D
      exact jX.sub (jsb_c rfl (jsb_c rfl (jsb_c rfl jsb_n))) (ct_X0_readHouses_r98d_89 hD hQ  41 v21 0 h (by have := jk_0; omega) (jr_of rfl (by omega)) (jr_of jk_0 (by omega)) J Sm (by rw [jk_0]; exact D))
    ·
      rw [if_pos (by omega)] at D
      refine x_aloadn (x := 105) rfl rfl ?_
      refine x_iconst (v := 2) rfl ki_2 ?_
      refine z_iald0 (N := 3) rfl J rfl jk_2 (by omega) (fun v26 qv26 => ?_)
      have ev26 := jfull v26
      try rw [vrn (n := 2) (by decide) (jmb_w w1 (jmb_w w2 qv26 rfl) rfl)] at D
      refine x_iloadn (x := v3) rfl rfl ?_
      refine x_icne (tgt := 33) rfl rfl (ti_ne rfl rfl ⟨fun c27 => ?_, fun c27 => ?_⟩)
      ·
        rw [if_neg (by omega)] at D
        refine x_iconst (v := 0) rfl ki_0 ?_
        refine x_istore (lsx9 := [(4, .int 0), (0, .ref 105), (1, .int a1), (2, .int a2), (3, .int v3)]) rfl rfl rfl ?_
        refine x_aloadn (x := 105) rfl rfl ?_
        refine x_iconst (v := 0) rfl ki_0 ?_
        refine x_iloadn (x := a1) rfl rfl ?_
        refine z_iast (N := 3) (l := 0) (u := 3) (w := a1.toInt) rfl hD J Sm rfl rfl jk_0 (by omega) rfl (wr_105) rfl (fun h w28 J Sm => ?_)
        rw [vwn (n := 0) (by decide) w28 (show a1.toInt = a1.toInt from by omega)] at D
        refine x_aloadn (x := 105) rfl rfl ?_
        refine x_iconst (v := 1) rfl ki_1 ?_
        refine x_iloadn (x := a2) rfl rfl ?_
        refine z_iast (N := 3) (l := 0) (u := 3) (w := a2.toInt) rfl hD J Sm rfl rfl jk_1 (by omega) rfl (wr_105) rfl (fun h w29 J Sm => ?_)
        rw [vwn (n := 1) (by decide) w29 (show a2.toInt = a2.toInt from by omega)] at D
        refine x_aloadn (x := 105) rfl rfl ?_
        refine x_iconst (v := 2) rfl ki_2 ?_
        refine x_iloadn (x := v3) rfl rfl ?_
        refine z_iast (N := 3) (l := 0) (u := 3) (w := v3.toInt) rfl hD J Sm rfl rfl jk_2 (by omega) rfl (wr_105) rfl (fun h w30 J Sm => ?_)
        rw [vwn (n := 2) (by decide) w30 (show v3.toInt = v3.toInt from by omega)] at D
        refine x_iload (x := 0) rfl rfl ?_
        refine x_zret rfl rfl (by decide) ?_
        show jX m_X0_readHouses 3 0 0 32 [(0, .ref 98), (1, .int a1), (2, .int a2)] [.int 0] _ 0 0 _
        refine x_ifeq (tgt := 36) rfl rfl (ti_eq jk_0 jk_0 (br_t (by omega) ?_))
        refine x_bipush (v := 40) rfl kb_40 ?_
        refine x_aloadn (x := 98) rfl rfl ?_
        refine z_getR (N := 16) (b := 32) 0 0 rfl f_0_57 rfl J rfl 12544 ⟨rfl, rfl⟩ rfl ?_
        refine z_getR (N := 20) (b := 49) 1 8 rfl f_0_120 rfl J rfl 4104 ⟨rfl, rfl⟩ rfl ?_
        refine z_getI (N := 4) 8 3 rfl f_0_124 rfl J rfl sg_49_3_4_1_0_1 (fun v31 qv31 ev31 => ?_)
        try rw [vrf (jmb_w w1 (jmb_w w2 (jmb_w w28 (jmb_w w29 (jmb_w w30 qv31 rfl) rfl) rfl) rfl) rfl)] at D
        refine z_mmin rfl q_0_88 (by decide) rfl jk_40 rfl (fun v32 ev32 => ?_)
        refine x_istoren (lsx9 := [(3, .int v32), (0, .ref 98), (1, .int a1), (2, .int a2)]) rfl rfl rfl ?_
        refine x_aloadn (x := 98) rfl rfl ?_
        refine x_aloadn (x := 98) rfl rfl ?_
        refine z_getR (N := 16) (b := 32) 0 0 rfl f_0_57 rfl J rfl 12544 ⟨rfl, rfl⟩ rfl ?_
        refine z_getR (N := 20) (b := 47) 1 7 rfl f_0_129 rfl J rfl 4103 ⟨rfl, rfl⟩ rfl ?_
        refine x_iconst (v := 3) rfl ki_3 ?_
        refine x_aloadn (x := 98) rfl rfl ?_
        refine z_getR (N := 16) (b := 102) 0 5 rfl f_0_21 rfl J rfl 12549 ⟨rfl, rfl⟩ rfl ?_
        refine x_iconst (v := 0) rfl ki_0 ?_
        refine x_inv (N := m_X0_readLatest) (As := [.ref 47, .int 3, .ref 102, .int 0]) (b := 98) (st := []) (dx9 := 2) (mc := 0) (ms := 0) (host := "") 0 rfl t_X0_readLatest ⟨Or.inl q_0_132, i_X0_readLatest.1, i_X0_readLatest.2⟩ ⟨by decide, rfl⟩ (congrArg Prod.fst (J.1.1 98 (0, 16) rfl)) rfl (by decide) rfl rfl ⟨by decide, by decide⟩ (sf_X0_readLatest_r98_r47_r102d (jr_of jk_3 (by omega)) (jr_of jk_0 (by omega)) hD J rfl  (fun h J S33 X34 => ?_))
        have Sm := jSm_tr rfl Sm S33
        try rw [jk_3] at X34
        try rw [jk_0] at X34
        rw [X34] at D
        show jX m_X0_readHouses 3 0 0 69 [(3, .int v32), (0, .ref 98), (1, .int a1), (2, .int a2)] [] _ 0 0 _
        refine x_aloadn (x := 98) rfl rfl ?_
        refine x_aloadn (x := 98) rfl rfl ?_
        refine z_getR (N := 16) (b := 32) 0 0 rfl f_0_57 rfl J rfl 12544 ⟨rfl, rfl⟩ rfl ?_
        refine z_getR (N := 20) (b := 51) 1 9 rfl f_0_136 rfl J rfl 4105 ⟨rfl, rfl⟩ rfl ?_
        refine x_iconst (v := 3) rfl ki_3 ?_
        refine x_aloadn (x := 98) rfl rfl ?_
        refine z_getR (N := 16) (b := 103) 0 6 rfl f_0_24 rfl J rfl 12550 ⟨rfl, rfl⟩ rfl ?_
        refine x_iconst (v := (-1)) rfl ki_m1 ?_
        refine x_inv (N := m_X0_readLatest) (As := [.ref 51, .int 3, .ref 103, .int (-1)]) (b := 98) (st := []) (dx9 := 2) (mc := 0) (ms := 0) (host := "") 0 rfl t_X0_readLatest ⟨Or.inl q_0_132, i_X0_readLatest.1, i_X0_readLatest.2⟩ ⟨by decide, rfl⟩ (congrArg Prod.fst (J.1.1 98 (0, 16) rfl)) rfl (by decide) rfl rfl ⟨by decide, by decide⟩ (sf_X0_readLatest_r98_r51_r103d (jr_of jk_3 (by omega)) (jr_of jk_m1 (by omega)) hD J rfl  (fun h J S35 X36 => ?_))
        have Sm := jSm_tr rfl Sm S35
        try rw [jk_3] at X36
        try rw [jk_m1] at X36
        rw [X36] at D
        show jX m_X0_readHouses 3 0 0 86 [(3, .int v32), (0, .ref 98), (1, .int a1), (2, .int a2)] [] _ 0 0 _
        refine x_iconst (v := 0) rfl ki_0 ?_
        refine x_istore (lsx9 := [(4, .int 0), (3, .int v32), (0, .ref 98), (1, .int a1), (2, .int a2)]) rfl rfl rfl ?_
        try rw [show (min 40 v31.toInt) = v32.toInt from by omega] at D
        exact jX.sub (jsb_c rfl (jsb_c rfl (jsb_c rfl jsb_n))) (ct_X0_readHouses_r98d_89 hD hQ  41 v32 0 h (by have := jk_0; omega) (jr_of rfl (by omega)) (jr_of jk_0 (by omega)) J Sm (by rw [jk_0]; exact D))
      ·
        rw [if_pos (by omega)] at D
        refine x_iconst (v := 1) rfl ki_1 ?_
        refine x_goto (tgt := 34) rfl rfl ?_
        refine x_istore (lsx9 := [(4, .int 1), (0, .ref 105), (1, .int a1), (2, .int a2), (3, .int v3)]) rfl rfl rfl ?_
        refine x_aloadn (x := 105) rfl rfl ?_
        refine x_iconst (v := 0) rfl ki_0 ?_
        refine x_iloadn (x := a1) rfl rfl ?_
        refine z_iast (N := 3) (l := 0) (u := 3) (w := a1.toInt) rfl hD J Sm rfl rfl jk_0 (by omega) rfl (wr_105) rfl (fun h w37 J Sm => ?_)
        rw [vwn (n := 0) (by decide) w37 (show a1.toInt = a1.toInt from by omega)] at D
        refine x_aloadn (x := 105) rfl rfl ?_
        refine x_iconst (v := 1) rfl ki_1 ?_
        refine x_iloadn (x := a2) rfl rfl ?_
        refine z_iast (N := 3) (l := 0) (u := 3) (w := a2.toInt) rfl hD J Sm rfl rfl jk_1 (by omega) rfl (wr_105) rfl (fun h w38 J Sm => ?_)
        rw [vwn (n := 1) (by decide) w38 (show a2.toInt = a2.toInt from by omega)] at D
        refine x_aloadn (x := 105) rfl rfl ?_
        refine x_iconst (v := 2) rfl ki_2 ?_
        refine x_iloadn (x := v3) rfl rfl ?_
        refine z_iast (N := 3) (l := 0) (u := 3) (w := v3.toInt) rfl hD J Sm rfl rfl jk_2 (by omega) rfl (wr_105) rfl (fun h w39 J Sm => ?_)
        rw [vwn (n := 2) (by decide) w39 (show v3.toInt = v3.toInt from by omega)] at D
        refine x_iload (x := 1) rfl rfl ?_
        refine x_zret rfl rfl (by decide) ?_
        show jX m_X0_readHouses 3 0 0 32 [(0, .ref 98), (1, .int a1), (2, .int a2)] [.int 1] _ 0 0 _
        refine x_ifeq (tgt := 36) rfl rfl (ti_eq jk_1 jk_0 (br_f (by omega) ?_))
        refine x_vret rfl rfl ?_
        exact hQ _ J Sm D.symm
def fp_X0_strikeBy_r98d : jFp := [(100, 0, 30)]
set_option maxRecDepth 100000 in
set_option maxHeartbeats 4000000 in
theorem ct_X0_strikeBy_r98d_67 {Dy : jH → Prop} {h0 : jH} {Q : Option Value → jH → Prop} {dr : jW} {K2 : Int → Nat → Int → jW → jW} {R2 : Int} (hD : jDk Dy) (hQ : ∀ hx9, jJ jSgX Dy hx9 → jSm fp_X0_strikeBy_r98d h0 hx9 → dr = vw hx9 → Q none hx9) (k2 : ∀ (l1 : Int32) (l2 : Nat) (l3 : Int32) (h : jH), 12 - l3.toInt < R2 → 0 ≤ l1.toInt ∧ l1.toInt ≤ 29 → 0 ≤ l3.toInt ∧ l3.toInt ≤ 12 → jTx h l2 → jJ jSgX Dy h → jSm fp_X0_strikeBy_r98d h0 h → K2 l1.toInt l2 l3.toInt (vw h) = dr → jX m_X0_strikeBy 2 0 0 2 [(0, .ref 98), (1, .int l1), (2, .ref l2), (3, .int l3)] [] h 0 0 Q) : ∀ (l1 : Int32) (l2 : Nat) (l3 : Int32) (h : jH), 0 ≤ l1.toInt ∧ l1.toInt ≤ 29 → 0 ≤ l3.toInt ∧ l3.toInt ≤ 11 → jTx h l2 → 12 - l3.toInt ≤ R2 → jJ jSgX Dy h → jSm fp_X0_strikeBy_r98d h0 h → d_X0_strikeBy_r98d_67 K2  l1.toInt l2 l3.toInt (vw h) = dr → jX m_X0_strikeBy 2 0 0 67 [(0, .ref 98), (1, .int l1), (2, .ref l2), (3, .int l3)] [] h 0 0 Q := by
  intro l1 l2 l3 h y0 y1 Tl2  m2 J Sm D
  unfold d_X0_strikeBy_r98d_67 at D
  refine z_iinc (x := l3) (lsx9 := fun v1 => [(3, .int v1), (0, .ref 98), (1, .int l1), (2, .ref l2)]) rfl rfl rfl jko_1 (by omega) rfl (fun _ => rfl) (fun v1 ev1 => ?_)
  refine x_goto (tgt := 2) rfl rfl ?_
  try rw [show (l3.toInt + 1) = v1.toInt from by omega] at D
  exact jX.sub (jsb_c rfl (jsb_c rfl (jsb_c rfl (jsb_c rfl jsb_n)))) (k2 l1 l2 v1 h (by omega) (jr_of rfl (by omega)) (jr_of rfl (by omega)) Tl2 J Sm D)
set_option maxRecDepth 100000 in
set_option maxHeartbeats 4000000 in
theorem ct_X0_strikeBy_r98d_2 {Dy : jH → Prop} {h0 : jH} {Q : Option Value → jH → Prop} {dr : jW} (hD : jDk Dy) (hQ : ∀ hx9, jJ jSgX Dy hx9 → jSm fp_X0_strikeBy_r98d h0 hx9 → dr = vw hx9 → Q none hx9) : ∀ r : Nat, ∀ (l1 : Int32) (l2 : Nat) (l3 : Int32) (h : jH), 12 - l3.toInt < (r : Int) → 0 ≤ l1.toInt ∧ l1.toInt ≤ 29 → 0 ≤ l3.toInt ∧ l3.toInt ≤ 12 → jTx h l2 → jJ jSgX Dy h → jSm fp_X0_strikeBy_r98d h0 h → d_X0_strikeBy_r98d_2 r l1.toInt l2 l3.toInt (vw h) = dr → jX m_X0_strikeBy 2 0 0 2 [(0, .ref 98), (1, .int l1), (2, .ref l2), (3, .int l3)] [] h 0 0 Q := by
  intro r
  induction r with
  | zero =>
    intro l1 l2 l3 h hm y0 y1 Tl2   J Sm D
    exfalso
    omega
  | succ r ih =>
    intro l1 l2 l3 h hm y0 y1 Tl2   J Sm D
    rw [d_X0_strikeBy_r98d_2.eq_2] at D
    refine x_iloadn (x := l3) rfl rfl ?_
    refine x_aloadn (x := l2) rfl rfl ?_
    refine z_getTcD rfl f_0_104 Tl2 (fun v1 qv1 ev1 => ?_)
    try rw [vrf qv1] at D
    refine x_icge (tgt := 73) rfl rfl (ti_ge rfl rfl ⟨fun c2 => ?_, fun c2 => ?_⟩)
    ·
      rw [if_pos (by omega)] at D
      refine x_vret rfl rfl ?_
      exact hQ _ J Sm D.symm
    ·
      rw [if_neg (by omega)] at D
      refine x_aloadn (x := l2) rfl rfl ?_
      refine x_iloadn (x := l3) rfl rfl ?_
      refine x_iconst (v := 1) rfl ki_1 ?_
      refine x_inv (N := m_X10_head) (As := [.int l3, .int 1]) (b := l2) (st := []) (dx9 := 1) (mc := 0) (ms := 0) (host := "") 10 rfl t_X10_head ⟨Or.inl q_0_111, i_X10_head.1, i_X10_head.2⟩ ⟨by decide, rfl⟩ (congrArg Prod.fst Tl2.1.2.2) rfl (by decide) rfl rfl ⟨by decide, by decide⟩ (c_headD Tl2 rfl jk_1 (fun v3 ev3 => ?_))
      have fv3 := jfull v3
      try rw [← ev3] at D
      show jX m_X0_strikeBy 2 0 0 16 [(0, .ref 98), (1, .int l1), (2, .ref l2), (3, .int l3)] [.int v3] _ 0 0 _
      refine x_istore (lsx9 := [(4, .int v3), (0, .ref 98), (1, .int l1), (2, .ref l2), (3, .int l3)]) rfl rfl rfl ?_
      refine x_aloadn (x := l2) rfl rfl ?_
      refine x_iloadn (x := l3) rfl rfl ?_
      refine x_iconst (v := 0) rfl ki_0 ?_
      refine x_inv (N := m_X10_head) (As := [.int l3, .int 0]) (b := l2) (st := []) (dx9 := 1) (mc := 0) (ms := 0) (host := "") 10 rfl t_X10_head ⟨Or.inl q_0_111, i_X10_head.1, i_X10_head.2⟩ ⟨by decide, rfl⟩ (congrArg Prod.fst Tl2.1.2.2) rfl (by decide) rfl rfl ⟨by decide, by decide⟩ (c_headD Tl2 rfl jk_0 (fun v4 ev4 => ?_))
      have fv4 := jfull v4
      try rw [← ev4] at D
      show jX m_X0_strikeBy 2 0 0 24 [(4, .int v3), (0, .ref 98), (1, .int l1), (2, .ref l2), (3, .int l3)] [.int v4] _ 0 0 _
      refine x_bipush (v := 8) rfl kb_8 ?_
      refine x_icne (tgt := 67) rfl rfl (ti_ne rfl jk_8 ⟨fun c5 => ?_, fun c5 => ?_⟩)
      ·
        rw [if_neg (by omega)] at D
        exact jX.sub (jsb_c rfl (jsb_c rfl (jsb_c rfl (jsb_c rfl jsb_n)))) (ct_X0_strikeBy_r98d_67 hD hQ ih l1 l2 l3 h (jr_of rfl (by omega)) (jr_of rfl (by omega)) Tl2 (by omega) J Sm D)
      ·
        rw [if_pos (by omega)] at D
        refine x_aloadn (x := 98) rfl rfl ?_
        refine x_iloadn (x := l1) rfl rfl ?_
        refine x_iloadn (x := l3) rfl rfl ?_
        refine x_inv (N := m_X0_isInForce) (As := [.int l1, .int l3]) (b := 98) (st := []) (dx9 := 1) (mc := 0) (ms := 0) (host := "") 0 rfl t_X0_isInForce ⟨Or.inl q_0_116, i_X0_isInForce.1, i_X0_isInForce.2⟩ ⟨by decide, rfl⟩ (congrArg Prod.fst (J.1.1 98 (0, 16) rfl)) rfl (by decide) rfl rfl ⟨by decide, by decide⟩ (jC.of rfl k_X0_isInForce rfl ?_)
        show jX m_X0_isInForce 1 0 0 0 [(0, .ref 98), (1, .int l1), (2, .int l3)] [] _ 0 0 _
        refine x_iloadn (x := l1) rfl rfl ?_
        refine x_iflt (tgt := 39) rfl rfl (ti_lt rfl jk_0 (br_f (by omega) ?_))
        refine x_iloadn (x := l1) rfl rfl ?_
        refine x_bipush (v := 30) rfl kb_30 ?_
        refine x_icge (tgt := 39) rfl rfl (ti_ge rfl jk_30 (br_f (by omega) ?_))
        refine x_iloadn (x := l1) rfl rfl ?_
        refine x_aloadn (x := 98) rfl rfl ?_
        refine z_getR (N := 16) (b := 32) 0 0 rfl f_0_57 rfl J rfl 12544 ⟨rfl, rfl⟩ rfl ?_
        refine z_getI (N := 20) 1 18 rfl f_0_72 rfl J rfl sg_32_18_19_1_0_1 (fun v6 qv6 ev6 => ?_)
        try rw [vrf qv6] at D
        refine x_icge (tgt := 39) rfl rfl (ti_ge rfl rfl ⟨fun c7 => ?_, fun c7 => ?_⟩)
        ·
          rw [if_pos (by omega)] at D
          refine x_iconst (v := 0) rfl ki_0 ?_
          refine x_zret rfl rfl (by decide) ?_
          show jX m_X0_strikeBy 2 0 0 35 [(4, .int v3), (0, .ref 98), (1, .int l1), (2, .ref l2), (3, .int l3)] [.int 0] _ 0 0 _
          refine x_ifeq (tgt := 67) rfl rfl (ti_eq jk_0 jk_0 (br_t (by omega) ?_))
          exact jX.sub (jsb_c rfl (jsb_c rfl (jsb_c rfl (jsb_c rfl jsb_n)))) (ct_X0_strikeBy_r98d_67 hD hQ ih l1 l2 l3 h (jr_of rfl (by omega)) (jr_of rfl (by omega)) Tl2 (by omega) J Sm D)
        ·
          rw [if_neg (by omega)] at D
          refine x_aloadn (x := 98) rfl rfl ?_
          refine z_getR (N := 16) (b := 99) 0 2 rfl f_0_9 rfl J rfl 12546 ⟨rfl, rfl⟩ rfl ?_
          refine x_iloadn (x := l1) rfl rfl ?_
          refine z_iald0 (N := 30) rfl J rfl rfl (by omega) (fun v8 qv8 => ?_)
          have ev8 := jfull v8
          try rw [vrd qv8 (show l1.toInt = l1.toInt from by omega)] at D
          refine x_iloadn (x := l3) rfl rfl ?_
          refine z_ishrW rfl rfl rfl (fun v9 ev9 => ?_)
          have fv9 := jfull v9
          try rw [← ev9] at D
          refine x_iconst (v := 1) rfl ki_1 ?_
          refine z_iandQ rfl rfl jk_1 (by decide) (fun v10 ev10 => ?_)
          try rw [← ev10.1] at D
          refine x_iconst (v := 1) rfl ki_1 ?_
          refine x_icne (tgt := 39) rfl rfl (ti_ne rfl jk_1 ⟨fun c11 => ?_, fun c11 => ?_⟩)
          ·
            rw [if_neg (by omega)] at D
            refine x_iconst (v := 0) rfl ki_0 ?_
            refine x_zret rfl rfl (by decide) ?_
            show jX m_X0_strikeBy 2 0 0 35 [(4, .int v3), (0, .ref 98), (1, .int l1), (2, .ref l2), (3, .int l3)] [.int 0] _ 0 0 _
            refine x_ifeq (tgt := 67) rfl rfl (ti_eq jk_0 jk_0 (br_t (by omega) ?_))
            exact jX.sub (jsb_c rfl (jsb_c rfl (jsb_c rfl (jsb_c rfl jsb_n)))) (ct_X0_strikeBy_r98d_67 hD hQ ih l1 l2 l3 h (jr_of rfl (by omega)) (jr_of rfl (by omega)) Tl2 (by omega) J Sm D)
          ·
            rw [if_pos (by omega)] at D
            refine x_iconst (v := 1) rfl ki_1 ?_
            refine x_goto (tgt := 40) rfl rfl ?_
            refine x_zret rfl rfl (by decide) ?_
            show jX m_X0_strikeBy 2 0 0 35 [(4, .int v3), (0, .ref 98), (1, .int l1), (2, .ref l2), (3, .int l3)] [.int 1] _ 0 0 _
            refine x_ifeq (tgt := 67) rfl rfl (ti_eq jk_1 jk_0 (br_f (by omega) ?_))
            refine x_iload (x := v3) rfl rfl ?_
            refine x_iflt (tgt := 67) rfl rfl (ti_lt rfl jk_0 ⟨fun c12 => ?_, fun c12 => ?_⟩)
            ·
              rw [if_pos (by omega)] at D
              exact jX.sub (jsb_c rfl (jsb_c rfl (jsb_c rfl (jsb_c rfl jsb_n)))) (ct_X0_strikeBy_r98d_67 hD hQ ih l1 l2 l3 h (jr_of rfl (by omega)) (jr_of rfl (by omega)) Tl2 (by omega) J Sm D)
            ·
              rw [if_neg (by omega)] at D
              refine x_iload (x := v3) rfl rfl ?_
              refine x_iloadn (x := l1) rfl rfl ?_
              refine x_icge (tgt := 67) rfl rfl (ti_ge rfl rfl ⟨fun c13 => ?_, fun c13 => ?_⟩)
              ·
                rw [if_pos (by omega)] at D
                exact jX.sub (jsb_c rfl (jsb_c rfl (jsb_c rfl (jsb_c rfl jsb_n)))) (ct_X0_strikeBy_r98d_67 hD hQ ih l1 l2 l3 h (jr_of rfl (by omega)) (jr_of rfl (by omega)) Tl2 (by omega) J Sm D)
              ·
                rw [if_neg (by omega)] at D
                refine x_aloadn (x := 98) rfl rfl ?_
                refine z_getR (N := 16) (b := 100) 0 3 rfl f_0_15 rfl J rfl 12547 ⟨rfl, rfl⟩ rfl ?_
                refine x_iload (x := v3) rfl rfl ?_
                refine x_dup2 rfl rfl rfl ?_
                refine z_iald0 (N := 30) rfl J rfl rfl (by omega) (fun v14 qv14 => ?_)
                have ev14 := jfull v14
                try rw [vrd qv14 (show v3.toInt = v3.toInt from by omega)] at D
                refine x_iconst (v := 1) rfl ki_1 ?_
                refine x_aloadn (x := l2) rfl rfl ?_
                refine x_iloadn (x := l3) rfl rfl ?_
                refine x_iconst (v := 2) rfl ki_2 ?_
                refine x_inv (N := m_X10_head) (As := [.int l3, .int 2]) (b := l2) (st := [.int 1, .int v14, .int v3, .ref 100]) (dx9 := 1) (mc := 0) (ms := 0) (host := "") 10 rfl t_X10_head ⟨Or.inl q_0_111, i_X10_head.1, i_X10_head.2⟩ ⟨by decide, rfl⟩ (congrArg Prod.fst Tl2.1.2.2) rfl (by decide) rfl rfl ⟨by decide, by decide⟩ (c_headD Tl2 rfl jk_2 (fun v15 ev15 => ?_))
                have fv15 := jfull v15
                try rw [← ev15] at D
                show jX m_X0_strikeBy 2 0 0 64 [(4, .int v3), (0, .ref 98), (1, .int l1), (2, .ref l2), (3, .int l3)] [.int v15, .int 1, .int v14, .int v3, .ref 100] _ 0 0 _
                refine z_ishlW rfl jk_1 rfl (fun v16 ev16 => ?_)
                have fv16 := jfull v16
                try rw [← ev16] at D
                refine z_iorW rfl rfl rfl (fun v17 ev17 => ?_)
                have fv17 := jfull v17
                try rw [← ev17] at D
                refine z_iast (N := 30) (l := 0) (u := 30) (w := v17.toInt) rfl hD J Sm rfl rfl rfl (by omega) rfl (wr_100) rfl (fun h w18 J Sm => ?_)
                have Tl2 := jTx_i w18 rfl Tl2
                rw [vww w18 (show v3.toInt = v3.toInt from by omega) (show v17.toInt = v17.toInt from by omega)] at D
                exact jX.sub (jsb_c rfl (jsb_c rfl (jsb_c rfl (jsb_c rfl jsb_n)))) (ct_X0_strikeBy_r98d_67 hD hQ ih l1 l2 l3 h (jr_of rfl (by omega)) (jr_of rfl (by omega)) Tl2 (by omega) J Sm D)
set_option maxRecDepth 100000 in
set_option maxHeartbeats 4000000 in
theorem sf_X0_strikeBy_r98d {Dy : jH → Prop} {h : jH} {Q : Option Value → jH → Prop} {dr : jW} {a1 : Int32} {t2 : Nat} (y1 : 0 ≤ a1.toInt ∧ a1.toInt ≤ 29) (hD : jDk Dy) (J : jJ jSgX Dy h) (Tt2 : jTx h t2) (D : d_X0_strikeBy_r98d a1.toInt t2 (vw h) = dr) (hQ : ∀ hx9, jJ jSgX Dy hx9 → jSm fp_X0_strikeBy_r98d h hx9 → dr = vw hx9 → Q none hx9) : jC m_X0_strikeBy 2 0 0 [.ref 98, .int a1, .ref t2] h Q := by
  refine jC.of rfl k_X0_strikeBy rfl ?_
  have Sm := jSm_rf fp_X0_strikeBy_r98d h
  show jX m_X0_strikeBy 2 0 0 0 [(0, .ref 98), (1, .int a1), (2, .ref t2)] [] _ 0 0 _
  unfold d_X0_strikeBy_r98d at D
  refine x_iconst (v := 0) rfl ki_0 ?_
  refine x_istoren (lsx9 := [(3, .int 0), (0, .ref 98), (1, .int a1), (2, .ref t2)]) rfl rfl rfl ?_
  exact jX.sub (jsb_c rfl (jsb_c rfl (jsb_c rfl (jsb_c rfl jsb_n)))) (ct_X0_strikeBy_r98d_2 hD hQ  13 a1 t2 0 h (by have := jk_0; omega) (jr_of rfl (by omega)) (jr_of jk_0 (by omega)) Tt2 J Sm (by rw [jk_0]; exact D))
