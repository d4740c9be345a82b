def fp_X12_kin_r125 : jFp := [(125, 0, 1), (125, 28, 29), (125, 31, 32), (125, 57, 58), (137, 0, 80), (138, 0, 2), (139, 0, 600), (140, 0, 200)]
set_option maxRecDepth 100000 in
set_option maxHeartbeats 4000000 in
theorem ct_X12_kin_r125_31 {Dy : jH → Prop} {h0 : jH} {Q : Option Value → jH → Prop} (hD : jDk Dy) (hQ : ∀ (v : Int32) h', (-1) ≤ v.toInt ∧ v.toInt ≤ 599 → jJ jSgM Dy h' → jSm fp_X12_kin_r125 h0 h' → Q (some (.int v)) h') : ∀ (h : jH), jJ jSgM Dy h → jSm fp_X12_kin_r125 h0 h → jX m_X12_kin 10 0 0 31 [] [] h 0 0 Q := by
  intro  h    J Sm
  refine x_iconst (v := (-1)) rfl ki_m1 ?_
  refine x_iret rfl rfl ?_
  exact hQ _ _ (jr_of jk_m1 (by omega)) J Sm
set_option maxRecDepth 100000 in
set_option maxHeartbeats 4000000 in
theorem ct_X12_kin_r125_256 {Dy : jH → Prop} {h0 : jH} {Q : Option Value → jH → Prop} {R81 : Int} (hD : jDk Dy) (hQ : ∀ (v : Int32) h', (-1) ≤ v.toInt ∧ v.toInt ≤ 599 → jJ jSgM Dy h' → jSm fp_X12_kin_r125 h0 h' → Q (some (.int v)) h') (k81 : ∀ (l3 : Int32) (l4 : Int32) (l5 : Int32) (l6 : Int32) (l7 : Int32) (g0 : Int32) (h : jH), 200 - l7.toInt < R81 → 2 ≤ l3.toInt ∧ l3.toInt ≤ 3 → 0 ≤ l5.toInt ∧ l5.toInt ≤ 599 → 0 ≤ l7.toInt ∧ l7.toInt ≤ 200 → 0 ≤ g0.toInt ∧ g0.toInt ≤ 200 → jiv h 126 (0 : Int32).toNatClampNeg = g0 → jJ jSgM Dy h → jSm fp_X12_kin_r125 h0 h → jX m_X12_kin 10 0 0 81 [(0, .ref 125), (3, .int l3), (4, .int l4), (5, .int l5), (6, .int l6), (7, .int l7)] [] h 0 0 Q) : ∀ (l3 : Int32) (l4 : Int32) (l5 : Int32) (l6 : Int32) (l7 : Int32) (g0 : Int32) (h : jH), 2 ≤ l3.toInt ∧ l3.toInt ≤ 3 → 0 ≤ l5.toInt ∧ l5.toInt ≤ 599 → 0 ≤ l7.toInt ∧ l7.toInt ≤ 199 → 1 ≤ g0.toInt ∧ g0.toInt ≤ 200 → jiv h 126 (0 : Int32).toNatClampNeg = g0 → 200 - l7.toInt ≤ R81 → jJ jSgM Dy h → jSm fp_X12_kin_r125 h0 h → jX m_X12_kin 10 0 0 256 [(0, .ref 125), (3, .int l3), (4, .int l4), (5, .int l5), (6, .int l6), (7, .int l7)] [] h 0 0 Q := by
  intro l3 l4 l5 l6 l7 g0 h y0 y1 y2 y3 z0 m81 J Sm
  have el4 := jfull l4
  have el6 := jfull l6
  refine z_iinc (x := l7) (ls' := fun v1 => [(7, .int v1), (0, .ref 125), (3, .int l3), (4, .int l4), (5, .int l5), (6, .int l6)]) rfl rfl rfl jko_1 (by omega) rfl (fun _ => rfl) (fun v1 ev1 => ?_)
  refine x_goto (tgt := 81) rfl rfl ?_
  exact jX.sub (jsb_c rfl (jsb_c rfl (jsb_c rfl (jsb_c rfl (jsb_c rfl (jsb_c rfl jsb_n)))))) (k81 l3 l4 l5 l6 v1 g0 h (by omega) (jr_of rfl (by omega)) (jr_of rfl (by omega)) (jr_of rfl (by omega)) (jr_of rfl (by omega)) z0 J Sm)
set_option maxRecDepth 100000 in
set_option maxHeartbeats 4000000 in
theorem ct_X12_kin_r125_237 {Dy : jH → Prop} {h0 : jH} {Q : Option Value → jH → Prop} {R81 : Int} (hD : jDk Dy) (hQ : ∀ (v : Int32) h', (-1) ≤ v.toInt ∧ v.toInt ≤ 599 → jJ jSgM Dy h' → jSm fp_X12_kin_r125 h0 h' → Q (some (.int v)) h') (k81 : ∀ (l3 : Int32) (l4 : Int32) (l5 : Int32) (l6 : Int32) (l7 : Int32) (g0 : Int32) (h : jH), 200 - l7.toInt < R81 → 2 ≤ l3.toInt ∧ l3.toInt ≤ 3 → 0 ≤ l5.toInt ∧ l5.toInt ≤ 599 → 0 ≤ l7.toInt ∧ l7.toInt ≤ 200 → 0 ≤ g0.toInt ∧ g0.toInt ≤ 200 → jiv h 126 (0 : Int32).toNatClampNeg = g0 → jJ jSgM Dy h → jSm fp_X12_kin_r125 h0 h → jX m_X12_kin 10 0 0 81 [(0, .ref 125), (3, .int l3), (4, .int l4), (5, .int l5), (6, .int l6), (7, .int l7)] [] h 0 0 Q) : ∀ (l3 : Int32) (l4 : Int32) (l5 : Int32) (l6 : Int32) (l7 : Int32) (l9 : Int32) (g0 : Int32) (h : jH), 2 ≤ l3.toInt ∧ l3.toInt ≤ 3 → 0 ≤ l5.toInt ∧ l5.toInt ≤ 599 → 0 ≤ l7.toInt ∧ l7.toInt ≤ 199 → (-1) ≤ l9.toInt ∧ l9.toInt ≤ 599 → 1 ≤ g0.toInt ∧ g0.toInt ≤ 200 → jiv h 126 (0 : Int32).toNatClampNeg = g0 → 200 - l7.toInt ≤ R81 → jJ jSgM Dy h → jSm fp_X12_kin_r125 h0 h → jX m_X12_kin 10 0 0 237 [(0, .ref 125), (3, .int l3), (4, .int l4), (5, .int l5), (6, .int l6), (7, .int l7), (9, .int l9)] [] h 0 0 Q := by
  intro l3 l4 l5 l6 l7 l9 g0 h y0 y1 y2 y3 y4 z0 m81 J Sm
  have el4 := jfull l4
  have el6 := jfull l6
  refine x_iload (x := l9) rfl rfl ?_
  refine x_iconst (v := (-1)) rfl ki_m1 ?_
  refine x_iceq (tgt := 256) rfl rfl (ti_eq rfl jk_m1 ⟨fun c1 => ?_, fun c1 => ?_⟩)
  ·
    exact jX.sub (jsb_c rfl (jsb_c rfl (jsb_c rfl (jsb_c rfl (jsb_c rfl (jsb_c rfl jsb_n)))))) (ct_X12_kin_r125_256 hD hQ k81 l3 l4 l5 l6 l7 g0 h (jr_of rfl (by omega)) (jr_of rfl (by omega)) (jr_of rfl (by omega)) (jr_of rfl (by omega)) z0 (by omega) J Sm)
  ·
    refine x_iload (x := l6) rfl rfl ?_
    refine x_iload (x := l4) rfl rfl ?_
    refine x_icne (tgt := 253) rfl rfl (ti_ne rfl rfl ⟨fun c2 => ?_, fun c2 => ?_⟩)
    ·
      refine z_iinc0 (x := l6) (ls' := fun v3 => [(6, .int v3), (0, .ref 125), (3, .int l3), (4, .int l4), (5, .int l5), (7, .int l7), (9, .int l9)]) rfl rfl rfl (fun _ => rfl) (fun v3 => ?_)
      have ev3 := jfull v3
      exact jX.sub (jsb_c rfl (jsb_c rfl (jsb_c rfl (jsb_c rfl (jsb_c rfl (jsb_c rfl jsb_n)))))) (ct_X12_kin_r125_256 hD hQ k81 l3 l4 l5 v3 l7 g0 h (jr_of rfl (by omega)) (jr_of rfl (by omega)) (jr_of rfl (by omega)) (jr_of rfl (by omega)) z0 (by omega) J Sm)
    ·
      refine x_iload (x := l9) rfl rfl ?_
      refine x_iret rfl rfl ?_
      exact hQ _ _ (jr_of rfl (by omega)) J Sm
set_option maxRecDepth 100000 in
set_option maxHeartbeats 4000000 in
theorem ct_X12_kin_r125_100235 {Dy : jH → Prop} {h0 : jH} {Q : Option Value → jH → Prop} {R81 : Int} (hD : jDk Dy) (hQ : ∀ (v : Int32) h', (-1) ≤ v.toInt ∧ v.toInt ≤ 599 → jJ jSgM Dy h' → jSm fp_X12_kin_r125 h0 h' → Q (some (.int v)) h') (k81 : ∀ (l3 : Int32) (l4 : Int32) (l5 : Int32) (l6 : Int32) (l7 : Int32) (g0 : Int32) (h : jH), 200 - l7.toInt < R81 → 2 ≤ l3.toInt ∧ l3.toInt ≤ 3 → 0 ≤ l5.toInt ∧ l5.toInt ≤ 599 → 0 ≤ l7.toInt ∧ l7.toInt ≤ 200 → 0 ≤ g0.toInt ∧ g0.toInt ≤ 200 → jiv h 126 (0 : Int32).toNatClampNeg = g0 → jJ jSgM Dy h → jSm fp_X12_kin_r125 h0 h → jX m_X12_kin 10 0 0 81 [(0, .ref 125), (3, .int l3), (4, .int l4), (5, .int l5), (6, .int l6), (7, .int l7)] [] h 0 0 Q) : ∀ (l3 : Int32) (l4 : Int32) (l5 : Int32) (l6 : Int32) (l7 : Int32) (g0 : Int32) (h : jH), 3 ≤ l3.toInt ∧ l3.toInt ≤ 3 → 0 ≤ l5.toInt ∧ l5.toInt ≤ 599 → 0 ≤ l7.toInt ∧ l7.toInt ≤ 199 → 1 ≤ g0.toInt ∧ g0.toInt ≤ 200 → jiv h 126 (0 : Int32).toNatClampNeg = g0 → 200 - l7.toInt ≤ R81 → jJ jSgM Dy h → jSm fp_X12_kin_r125 h0 h → jX m_X12_kin 10 0 0 235 [(0, .ref 125), (3, .int l3), (4, .int l4), (5, .int l5), (6, .int l6), (7, .int l7)] [.int (-1)] h 0 0 Q := by
  intro l3 l4 l5 l6 l7 g0 h y0 y1 y2 y3 z0 m81 J Sm
  have el4 := jfull l4
  have el6 := jfull l6
  refine x_istore (ls' := [(9, .int (-1)), (0, .ref 125), (3, .int l3), (4, .int l4), (5, .int l5), (6, .int l6), (7, .int l7)]) rfl rfl rfl ?_
  exact jX.sub (jsb_c rfl (jsb_c rfl (jsb_c rfl (jsb_c rfl (jsb_c rfl (jsb_c rfl (jsb_c rfl jsb_n))))))) (ct_X12_kin_r125_237 hD hQ k81 l3 l4 l5 l6 l7 (-1) g0 h (jr_of rfl (by omega)) (jr_of rfl (by omega)) (jr_of rfl (by omega)) (jr_of jk_m1 (by omega)) (jr_of rfl (by omega)) z0 (by omega) J Sm)
set_option maxRecDepth 100000 in
set_option maxHeartbeats 4000000 in
theorem ct_X12_kin_r125_235 {Dy : jH → Prop} {h0 : jH} {Q : Option Value → jH → Prop} {R81 : Int} (hD : jDk Dy) (hQ : ∀ (v : Int32) h', (-1) ≤ v.toInt ∧ v.toInt ≤ 599 → jJ jSgM Dy h' → jSm fp_X12_kin_r125 h0 h' → Q (some (.int v)) h') (k81 : ∀ (l3 : Int32) (l4 : Int32) (l5 : Int32) (l6 : Int32) (l7 : Int32) (g0 : Int32) (h : jH), 200 - l7.toInt < R81 → 2 ≤ l3.toInt ∧ l3.toInt ≤ 3 → 0 ≤ l5.toInt ∧ l5.toInt ≤ 599 → 0 ≤ l7.toInt ∧ l7.toInt ≤ 200 → 0 ≤ g0.toInt ∧ g0.toInt ≤ 200 → jiv h 126 (0 : Int32).toNatClampNeg = g0 → jJ jSgM Dy h → jSm fp_X12_kin_r125 h0 h → jX m_X12_kin 10 0 0 81 [(0, .ref 125), (3, .int l3), (4, .int l4), (5, .int l5), (6, .int l6), (7, .int l7)] [] h 0 0 Q) : ∀ (l3 : Int32) (l4 : Int32) (l5 : Int32) (l6 : Int32) (l7 : Int32) (s0 : Int32) (g0 : Int32) (h : jH), 3 ≤ l3.toInt ∧ l3.toInt ≤ 3 → 0 ≤ l5.toInt ∧ l5.toInt ≤ 599 → 0 ≤ l7.toInt ∧ l7.toInt ≤ 199 → (-1) ≤ s0.toInt ∧ s0.toInt ≤ 599 → 1 ≤ g0.toInt ∧ g0.toInt ≤ 200 → jiv h 126 (0 : Int32).toNatClampNeg = g0 → 200 - l7.toInt ≤ R81 → jJ jSgM Dy h → jSm fp_X12_kin_r125 h0 h → jX m_X12_kin 10 0 0 235 [(0, .ref 125), (3, .int l3), (4, .int l4), (5, .int l5), (6, .int l6), (7, .int l7)] [.int s0] h 0 0 Q := by
  intro l3 l4 l5 l6 l7 s0 g0 h y0 y1 y2 y3 y4 z0 m81 J Sm
  have el4 := jfull l4
  have el6 := jfull l6
  refine x_istore (ls' := [(9, .int s0), (0, .ref 125), (3, .int l3), (4, .int l4), (5, .int l5), (6, .int l6), (7, .int l7)]) rfl rfl rfl ?_
  exact jX.sub (jsb_c rfl (jsb_c rfl (jsb_c rfl (jsb_c rfl (jsb_c rfl (jsb_c rfl (jsb_c rfl jsb_n))))))) (ct_X12_kin_r125_237 hD hQ k81 l3 l4 l5 l6 l7 s0 g0 h (jr_of rfl (by omega)) (jr_of rfl (by omega)) (jr_of rfl (by omega)) (jr_of rfl (by omega)) (jr_of rfl (by omega)) z0 (by omega) J Sm)
set_option maxRecDepth 100000 in
set_option maxHeartbeats 4000000 in
theorem ct_X12_kin_r125_162 {Dy : jH → Prop} {h0 : jH} {Q : Option Value → jH → Prop} {R81 : Int} (hD : jDk Dy) (hQ : ∀ (v : Int32) h', (-1) ≤ v.toInt ∧ v.toInt ≤ 599 → jJ jSgM Dy h' → jSm fp_X12_kin_r125 h0 h' → Q (some (.int v)) h') (k81 : ∀ (l3 : Int32) (l4 : Int32) (l5 : Int32) (l6 : Int32) (l7 : Int32) (g0 : Int32) (h : jH), 200 - l7.toInt < R81 → 2 ≤ l3.toInt ∧ l3.toInt ≤ 3 → 0 ≤ l5.toInt ∧ l5.toInt ≤ 599 → 0 ≤ l7.toInt ∧ l7.toInt ≤ 200 → 0 ≤ g0.toInt ∧ g0.toInt ≤ 200 → jiv h 126 (0 : Int32).toNatClampNeg = g0 → jJ jSgM Dy h → jSm fp_X12_kin_r125 h0 h → jX m_X12_kin 10 0 0 81 [(0, .ref 125), (3, .int l3), (4, .int l4), (5, .int l5), (6, .int l6), (7, .int l7)] [] h 0 0 Q) : ∀ (l3 : Int32) (l4 : Int32) (l5 : Int32) (l6 : Int32) (l7 : Int32) (l8 : Int32) (l9 : Int32) (g0 : Int32) (h : jH), 2 ≤ l3.toInt ∧ l3.toInt ≤ 3 → 0 ≤ l5.toInt ∧ l5.toInt ≤ 599 → 0 ≤ l7.toInt ∧ l7.toInt ≤ 199 → 0 ≤ l8.toInt ∧ l8.toInt ≤ 597 → l8.toInt % 3 = 0 → (-1) ≤ l9.toInt ∧ l9.toInt ≤ 599 → 1 ≤ g0.toInt ∧ g0.toInt ≤ 200 → jiv h 126 (0 : Int32).toNatClampNeg = g0 → 200 - l7.toInt ≤ R81 → jJ jSgM Dy h → jSm fp_X12_kin_r125 h0 h → jX m_X12_kin 10 0 0 162 [(0, .ref 125), (3, .int l3), (4, .int l4), (5, .int l5), (6, .int l6), (7, .int l7), (8, .int l8), (9, .int l9)] [] h 0 0 Q := by
  intro l3 l4 l5 l6 l7 l8 l9 g0 h y0 y1 y2 y3 y4 y5 y6 z0 m81 J Sm
  have el4 := jfull l4
  have el6 := jfull l6
  refine x_iloadn (x := l3) rfl rfl ?_
  refine x_iconst (v := 3) rfl ki_3 ?_
  refine x_icne (tgt := 237) rfl rfl (ti_ne rfl jk_3 ⟨fun c1 => ?_, fun c1 => ?_⟩)
  ·
    exact jX.sub (jsb_c rfl (jsb_c rfl (jsb_c rfl (jsb_c rfl (jsb_c rfl (jsb_c rfl (jsb_c rfl jsb_n))))))) (ct_X12_kin_r125_237 hD hQ k81 l3 l4 l5 l6 l7 l9 g0 h (jr_of rfl (by omega)) (jr_of rfl (by omega)) (jr_of rfl (by omega)) (jr_of rfl (by omega)) (jr_of rfl (by omega)) z0 (by omega) J Sm)
  ·
    refine x_aloadn (x := 125) rfl rfl ?_
    refine x_iload (x := l7) rfl rfl ?_
    refine x_inv (N := m_X12_bookOf) (As := [.int l7]) (b := 125) (st := []) (d' := 9) (mc := 0) (ms := 0) (host := "") 12 rfl t_X12_bookOf ⟨Or.inl q_12_299, i_X12_bookOf.1, i_X12_bookOf.2⟩ ⟨by decide, rfl⟩ (congrArg Prod.fst (J.1.1 125 (12, 92) rfl)) rfl (by decide) rfl rfl ⟨by decide, by decide⟩ (jC.of rfl k_X12_bookOf rfl ?_)
    show jX m_X12_bookOf 9 0 0 0 [(0, .ref 125), (1, .int l7)] [] _ 0 0 _
    refine x_aloadn (x := 125) rfl rfl ?_
    refine z_getR (N := 92) (b := 126) 12 2 rfl f_12_8 rfl J rfl 16002 ⟨rfl, rfl⟩ rfl ?_
    refine x_aloadn (x := 125) rfl rfl ?_
    refine x_iloadn (x := l7) rfl rfl ?_
    refine x_inv (N := m_X12_at) (As := [.int l7]) (b := 125) (st := [.ref 126]) (d' := 8) (mc := 0) (ms := 0) (host := "") 12 rfl t_X12_at ⟨Or.inl q_12_254, i_X12_at.1, i_X12_at.2⟩ ⟨by decide, rfl⟩ (congrArg Prod.fst (J.1.1 125 (12, 92) rfl)) rfl (by decide) rfl rfl ⟨by decide, by decide⟩ (jC.of rfl k_X12_at rfl ?_)
    show jX m_X12_at 8 0 0 0 [(0, .ref 125), (1, .int l7)] [] _ 0 0 _
    refine x_bipush (v := 20) rfl kb_20 ?_
    refine x_bipush (v := 90) rfl kb_90 ?_
    refine x_iloadn (x := l7) rfl rfl ?_
    refine z_imul rfl jk_90 rfl (by omega) (fun v2 ev2 => ?_)
    refine z_iadd rfl jk_20 rfl (by omega) (fun v3 ev3 => ?_)
    refine x_iret rfl rfl ?_
    show jX m_X12_bookOf 9 0 0 9 [(0, .ref 125), (1, .int l7)] [.int v3, .ref 126] _ 0 0 _
    refine z_iald (N := 50660) rfl J rfl sg_126_20_18020_90_0_1 rfl (by omega) (fun v4 qv4 ev4 => ?_)
    refine x_iret rfl rfl ?_
    show jX m_X12_kin 10 0 0 173 [(0, .ref 125), (3, .int l3), (4, .int l4), (5, .int l5), (6, .int l6), (7, .int l7), (8, .int l8), (9, .int l9)] [.int v4] _ 0 0 _
    refine x_iconst (v := 1) rfl ki_1 ?_
    refine x_icne (tgt := 237) rfl rfl (ti_ne rfl jk_1 ⟨fun c5 => ?_, fun c5 => ?_⟩)
    ·
      exact jX.sub (jsb_c rfl (jsb_c rfl (jsb_c rfl (jsb_c rfl (jsb_c rfl (jsb_c rfl (jsb_c rfl jsb_n))))))) (ct_X12_kin_r125_237 hD hQ k81 l3 l4 l5 l6 l7 l9 g0 h (jr_of rfl (by omega)) (jr_of rfl (by omega)) (jr_of rfl (by omega)) (jr_of rfl (by omega)) (jr_of rfl (by omega)) z0 (by omega) J Sm)
    ·
      refine x_aloadn (x := 125) rfl rfl ?_
      refine z_getR (N := 92) (b := 139) 12 29 rfl f_12_72 rfl J rfl 16029 ⟨rfl, rfl⟩ rfl ?_
      refine x_iload (x := l8) rfl rfl ?_
      refine z_iald (N := 600) rfl J rfl sg_139_0_600_1_0_1 rfl (by omega) (fun v6 qv6 ev6 => ?_)
      refine x_iconst (v := (-1)) rfl ki_m1 ?_
      refine x_iceq (tgt := 237) rfl rfl (ti_eq rfl jk_m1 ⟨fun c7 => ?_, fun c7 => ?_⟩)
      ·
        exact jX.sub (jsb_c rfl (jsb_c rfl (jsb_c rfl (jsb_c rfl (jsb_c rfl (jsb_c rfl (jsb_c rfl jsb_n))))))) (ct_X12_kin_r125_237 hD hQ k81 l3 l4 l5 l6 l7 l9 g0 h (jr_of rfl (by omega)) (jr_of rfl (by omega)) (jr_of rfl (by omega)) (jr_of rfl (by omega)) (jr_of rfl (by omega)) z0 (by omega) J Sm)
      ·
        refine x_aloadn (x := 125) rfl rfl ?_
        refine z_getR (N := 92) (b := 139) 12 29 rfl f_12_72 rfl J rfl 16029 ⟨rfl, rfl⟩ rfl ?_
        refine x_iload (x := l8) rfl rfl ?_
        refine z_ialdM (N := 600) (v := v6) rfl J rfl rfl (by omega) qv6 ?_
        refine x_iload (x := l5) rfl rfl ?_
        refine x_icne (tgt := 211) rfl rfl (ti_ne rfl rfl ⟨fun c8 => ?_, fun c8 => ?_⟩)
        ·
          refine x_aloadn (x := 125) rfl rfl ?_
          refine z_getR (N := 92) (b := 139) 12 29 rfl f_12_72 rfl J rfl 16029 ⟨rfl, rfl⟩ rfl ?_
          refine x_iload (x := l8) rfl rfl ?_
          refine x_iconst (v := 1) rfl ki_1 ?_
          refine z_iadd rfl rfl jk_1 (by omega) (fun v9 ev9 => ?_)
          refine z_iald (N := 600) rfl J rfl sg_139_0_600_1_0_1 rfl (by omega) (fun v10 qv10 ev10 => ?_)
          refine x_iload (x := l5) rfl rfl ?_
          refine x_icne (tgt := 234) rfl rfl (ti_ne rfl rfl ⟨fun c11 => ?_, fun c11 => ?_⟩)
          ·
            refine x_iconst (v := (-1)) rfl ki_m1 ?_
            exact jX.sub (jsb_c rfl (jsb_c rfl (jsb_c rfl (jsb_c rfl (jsb_c rfl (jsb_c rfl jsb_n)))))) (ct_X12_kin_r125_100235 hD hQ k81 l3 l4 l5 l6 l7 g0 h (jr_of rfl (by omega)) (jr_of rfl (by omega)) (jr_of rfl (by omega)) (jr_of rfl (by omega)) z0 (by omega) J Sm)
          ·
            refine x_aloadn (x := 125) rfl rfl ?_
            refine x_iload (x := l8) rfl rfl ?_
            refine x_inv (N := m_X12_named) (As := [.int l8]) (b := 125) (st := []) (d' := 9) (mc := 0) (ms := 0) (host := "") 12 rfl t_X12_named ⟨Or.inl q_12_409, i_X12_named.1, i_X12_named.2⟩ ⟨by decide, rfl⟩ (congrArg Prod.fst (J.1.1 125 (12, 92) rfl)) rfl (by decide) rfl rfl ⟨by decide, by decide⟩ (jC.of rfl k_X12_named rfl ?_)
            show jX m_X12_named 9 0 0 0 [(0, .ref 125), (1, .int l8)] [] _ 0 0 _
            refine x_aloadn (x := 125) rfl rfl ?_
            refine x_iloadn (x := l8) rfl rfl ?_
            refine x_inv (N := m_X12_isUnknown) (As := [.int l8]) (b := 125) (st := []) (d' := 8) (mc := 0) (ms := 0) (host := "") 12 rfl t_X12_isUnknown ⟨Or.inl q_12_402, i_X12_isUnknown.1, i_X12_isUnknown.2⟩ ⟨by decide, rfl⟩ (congrArg Prod.fst (J.1.1 125 (12, 92) rfl)) rfl (by decide) rfl rfl ⟨by decide, by decide⟩ (jC.of rfl k_X12_isUnknown rfl ?_)
            show jX m_X12_isUnknown 8 0 0 0 [(0, .ref 125), (1, .int l8)] [] _ 0 0 _
            refine x_aloadn (x := 125) rfl rfl ?_
            refine x_iloadn (x := l8) rfl rfl ?_
            refine x_iconst (v := 0) rfl ki_0 ?_
            refine x_inv (N := m_X12_isNamed) (As := [.int l8, .int 0]) (b := 125) (st := []) (d' := 7) (mc := 0) (ms := 0) (host := "") 12 rfl t_X12_isNamed ⟨Or.inl q_12_315, i_X12_isNamed.1, i_X12_isNamed.2⟩ ⟨by decide, rfl⟩ (congrArg Prod.fst (J.1.1 125 (12, 92) rfl)) rfl (by decide) rfl rfl ⟨by decide, by decide⟩ (jC.of rfl k_X12_isNamed rfl ?_)
            show jX m_X12_isNamed 7 0 0 0 [(0, .ref 125), (1, .int l8), (2, .int 0)] [] _ 0 0 _
            refine x_aloadn (x := 125) rfl rfl ?_
            refine z_getR (N := 92) (b := 126) 12 2 rfl f_12_8 rfl J rfl 16002 ⟨rfl, rfl⟩ rfl ?_
            refine x_aloadn (x := 125) rfl rfl ?_
            refine x_iloadn (x := l8) rfl rfl ?_
            refine x_iloadn (x := 0) rfl rfl ?_
            refine x_inv (N := m_X12_nameAt) (As := [.int l8, .int 0]) (b := 125) (st := [.ref 126]) (d' := 6) (mc := 0) (ms := 0) (host := "") 12 rfl t_X12_nameAt ⟨Or.inl q_12_311, i_X12_nameAt.1, i_X12_nameAt.2⟩ ⟨by decide, rfl⟩ (congrArg Prod.fst (J.1.1 125 (12, 92) rfl)) rfl (by decide) rfl rfl ⟨by decide, by decide⟩ (jC.of rfl k_X12_nameAt rfl ?_)
            show jX m_X12_nameAt 6 0 0 0 [(0, .ref 125), (1, .int l8), (2, .int 0)] [] _ 0 0 _
            refine x_aloadn (x := 125) rfl rfl ?_
            refine x_iloadn (x := l8) rfl rfl ?_
            refine x_iconst (v := 3) rfl ki_3 ?_
            refine z_idiv rfl rfl jk_3 (by omega) (by omega) (fun v12 ev12 => ?_)
            refine x_inv (N := m_X12_at) (As := [.int v12]) (b := 125) (st := []) (d' := 5) (mc := 0) (ms := 0) (host := "") 12 rfl t_X12_at ⟨Or.inl q_12_254, i_X12_at.1, i_X12_at.2⟩ ⟨by decide, rfl⟩ (congrArg Prod.fst (J.1.1 125 (12, 92) rfl)) rfl (by decide) rfl rfl ⟨by decide, by decide⟩ (jC.of rfl k_X12_at rfl ?_)
            show jX m_X12_at 5 0 0 0 [(0, .ref 125), (1, .int v12)] [] _ 0 0 _
            refine x_bipush (v := 20) rfl kb_20 ?_
            refine x_bipush (v := 90) rfl kb_90 ?_
            refine x_iloadn (x := v12) rfl rfl ?_
            refine z_imul rfl jk_90 rfl (by omega) (fun v13 ev13 => ?_)
            refine z_iadd rfl jk_20 rfl (by omega) (fun v14 ev14 => ?_)
            refine x_iret rfl rfl ?_
            show jX m_X12_nameAt 6 0 0 7 [(0, .ref 125), (1, .int l8), (2, .int 0)] [.int v14] _ 0 0 _
            refine x_bipush (v := 6) rfl kb_6 ?_
            refine z_iadd rfl rfl jk_6 (by omega) (fun v15 ev15 => ?_)
            refine x_bipush (v := 28) rfl kb_28 ?_
            refine x_iloadn (x := l8) rfl rfl ?_
            refine x_iconst (v := 3) rfl ki_3 ?_
            refine z_irem rfl rfl jk_3 (by omega) (by omega) (fun v16 ev16 => ?_)
            refine z_imul rfl jk_28 rfl (by omega) (fun v17 ev17 => ?_)
            refine z_iadd rfl rfl rfl (by omega) (fun v18 ev18 => ?_)
            refine x_bipush (v := 14) rfl kb_14 ?_
            refine x_iloadn (x := 0) rfl rfl ?_
            refine y_imul (v := 0) rfl (by decide) ?_
            refine z_iadd rfl rfl jk_0 (by omega) (fun v19 ev19 => ?_)
            have rnv19 := jnam (m := l8.toInt) (w := 0) (v := v19.toInt) (by omega) (by omega) (by omega)
            refine x_iret rfl rfl ?_
            show jX m_X12_isNamed 7 0 0 10 [(0, .ref 125), (1, .int l8), (2, .int 0)] [.int v19, .ref 126] _ 0 0 _
            refine z_ialdU (N := 50660) (lo := 0) (hi := 12) rfl J rfl rfl (by omega) ((show (v19.toInt - 20) % 90 = 6 ∨ (v19.toInt - 20) % 90 = 34 ∨ (v19.toInt - 20) % 90 = 62 from by omega).elim (fun q => (jrg_w (jrg_c J sg_126_20_18020_90_6_7 rfl (by omega)) (by decide))) (fun q => q.elim (fun q => (jrg_w (jrg_c J sg_126_20_18020_90_34_35 rfl (by omega)) (by decide))) (fun q => (jrg_w (jrg_c J sg_126_20_18020_90_62_63 rfl (by omega)) (by decide))))) (fun v20 qv20 ev20 => ?_)
            refine x_ifle (tgt := 18) rfl rfl (ti_le rfl jk_0 ⟨fun c21 => ?_, fun c21 => ?_⟩)
            ·
              refine x_iconst (v := 0) rfl ki_0 ?_
              refine x_zret rfl rfl (by decide) ?_
              show jX m_X12_isUnknown 8 0 0 6 [(0, .ref 125), (1, .int l8)] [.int 0] _ 0 0 _
              refine x_ifne (tgt := 22) rfl rfl (ti_ne jk_0 jk_0 (bn_f (by omega) ?_))
              refine x_aloadn (x := 125) rfl rfl ?_
              refine x_iloadn (x := l8) rfl rfl ?_
              refine x_iconst (v := 1) rfl ki_1 ?_
              refine x_inv (N := m_X12_isNamed) (As := [.int l8, .int 1]) (b := 125) (st := []) (d' := 7) (mc := 0) (ms := 0) (host := "") 12 rfl t_X12_isNamed ⟨Or.inl q_12_315, i_X12_isNamed.1, i_X12_isNamed.2⟩ ⟨by decide, rfl⟩ (congrArg Prod.fst (J.1.1 125 (12, 92) rfl)) rfl (by decide) rfl rfl ⟨by decide, by decide⟩ (jC.of rfl k_X12_isNamed rfl ?_)
              show jX m_X12_isNamed 7 0 0 0 [(0, .ref 125), (1, .int l8), (2, .int 1)] [] _ 0 0 _
              refine x_aloadn (x := 125) rfl rfl ?_
              refine z_getR (N := 92) (b := 126) 12 2 rfl f_12_8 rfl J rfl 16002 ⟨rfl, rfl⟩ rfl ?_
              refine x_aloadn (x := 125) rfl rfl ?_
              refine x_iloadn (x := l8) rfl rfl ?_
              refine x_iloadn (x := 1) rfl rfl ?_
              refine x_inv (N := m_X12_nameAt) (As := [.int l8, .int 1]) (b := 125) (st := [.ref 126]) (d' := 6) (mc := 0) (ms := 0) (host := "") 12 rfl t_X12_nameAt ⟨Or.inl q_12_311, i_X12_nameAt.1, i_X12_nameAt.2⟩ ⟨by decide, rfl⟩ (congrArg Prod.fst (J.1.1 125 (12, 92) rfl)) rfl (by decide) rfl rfl ⟨by decide, by decide⟩ (jC.of rfl k_X12_nameAt rfl ?_)
              show jX m_X12_nameAt 6 0 0 0 [(0, .ref 125), (1, .int l8), (2, .int 1)] [] _ 0 0 _
              refine x_aloadn (x := 125) rfl rfl ?_
              refine x_iloadn (x := l8) rfl rfl ?_
              refine x_iconst (v := 3) rfl ki_3 ?_
              refine z_idiv rfl rfl jk_3 (by omega) (by omega) (fun v22 ev22 => ?_)
              refine x_inv (N := m_X12_at) (As := [.int v22]) (b := 125) (st := []) (d' := 5) (mc := 0) (ms := 0) (host := "") 12 rfl t_X12_at ⟨Or.inl q_12_254, i_X12_at.1, i_X12_at.2⟩ ⟨by decide, rfl⟩ (congrArg Prod.fst (J.1.1 125 (12, 92) rfl)) rfl (by decide) rfl rfl ⟨by decide, by decide⟩ (jC.of rfl k_X12_at rfl ?_)
              show jX m_X12_at 5 0 0 0 [(0, .ref 125), (1, .int v22)] [] _ 0 0 _
              refine x_bipush (v := 20) rfl kb_20 ?_
              refine x_bipush (v := 90) rfl kb_90 ?_
              refine x_iloadn (x := v22) rfl rfl ?_
              refine z_imul rfl jk_90 rfl (by omega) (fun v23 ev23 => ?_)
              refine z_iadd rfl jk_20 rfl (by omega) (fun v24 ev24 => ?_)
              refine x_iret rfl rfl ?_
              show jX m_X12_nameAt 6 0 0 7 [(0, .ref 125), (1, .int l8), (2, .int 1)] [.int v24] _ 0 0 _
              refine x_bipush (v := 6) rfl kb_6 ?_
              refine z_iadd rfl rfl jk_6 (by omega) (fun v25 ev25 => ?_)
              refine x_bipush (v := 28) rfl kb_28 ?_
              refine x_iloadn (x := l8) rfl rfl ?_
              refine x_iconst (v := 3) rfl ki_3 ?_
              refine z_irem rfl rfl jk_3 (by omega) (by omega) (fun v26 ev26 => ?_)
              refine z_imul rfl jk_28 rfl (by omega) (fun v27 ev27 => ?_)
              refine z_iadd rfl rfl rfl (by omega) (fun v28 ev28 => ?_)
              refine x_bipush (v := 14) rfl kb_14 ?_
              refine x_iloadn (x := 1) rfl rfl ?_
              refine y_imul (v := 14) rfl (by decide) ?_
              refine z_iadd rfl rfl jk_14 (by omega) (fun v29 ev29 => ?_)
              have rnv29 := jnam (m := l8.toInt) (w := 1) (v := v29.toInt) (by omega) (by omega) (by omega)
              refine x_iret rfl rfl ?_
              show jX m_X12_isNamed 7 0 0 10 [(0, .ref 125), (1, .int l8), (2, .int 1)] [.int v29, .ref 126] _ 0 0 _
              refine z_ialdU (N := 50660) (lo := 0) (hi := 12) rfl J rfl rfl (by omega) ((show (v29.toInt - 20) % 90 = 20 ∨ (v29.toInt - 20) % 90 = 48 ∨ (v29.toInt - 20) % 90 = 76 from by omega).elim (fun q => (jrg_w (jrg_c J sg_126_20_18020_90_20_21 rfl (by omega)) (by decide))) (fun q => q.elim (fun q => (jrg_w (jrg_c J sg_126_20_18020_90_48_49 rfl (by omega)) (by decide))) (fun q => (jrg_w (jrg_c J sg_126_20_18020_90_76_77 rfl (by omega)) (by decide))))) (fun v30 qv30 ev30 => ?_)
              refine x_ifle (tgt := 18) rfl rfl (ti_le rfl jk_0 ⟨fun c31 => ?_, fun c31 => ?_⟩)
              ·
                refine x_iconst (v := 0) rfl ki_0 ?_
                refine x_zret rfl rfl (by decide) ?_
                show jX m_X12_isUnknown 8 0 0 15 [(0, .ref 125), (1, .int l8)] [.int 0] _ 0 0 _
                refine x_ifne (tgt := 22) rfl rfl (ti_ne jk_0 jk_0 (bn_f (by omega) ?_))
                refine x_iconst (v := 1) rfl ki_1 ?_
                refine x_goto (tgt := 23) rfl rfl ?_
                refine x_zret rfl rfl (by decide) ?_
                show jX m_X12_named 9 0 0 5 [(0, .ref 125), (1, .int l8)] [.int 1] _ 0 0 _
                refine x_ifeq (tgt := 12) rfl rfl (ti_eq jk_1 jk_0 (br_f (by omega) ?_))
                refine x_iconst (v := (-1)) rfl ki_m1 ?_
                refine x_goto (tgt := 18) rfl rfl ?_
                refine x_iret rfl rfl ?_
                show jX m_X12_kin 10 0 0 231 [(0, .ref 125), (3, .int l3), (4, .int l4), (5, .int l5), (6, .int l6), (7, .int l7), (8, .int l8), (9, .int l9)] [.int (-1)] _ 0 0 _
                refine x_goto (tgt := 235) rfl rfl ?_
                exact jX.sub (jsb_c rfl (jsb_c rfl (jsb_c rfl (jsb_c rfl (jsb_c rfl (jsb_c rfl jsb_n)))))) (ct_X12_kin_r125_100235 hD hQ k81 l3 l4 l5 l6 l7 g0 h (jr_of rfl (by omega)) (jr_of rfl (by omega)) (jr_of rfl (by omega)) (jr_of rfl (by omega)) z0 (by omega) J Sm)
              ·
                refine x_iconst (v := 1) rfl ki_1 ?_
                refine x_goto (tgt := 19) rfl rfl ?_
                refine x_zret rfl rfl (by decide) ?_
                show jX m_X12_isUnknown 8 0 0 15 [(0, .ref 125), (1, .int l8)] [.int 1] _ 0 0 _
                refine x_ifne (tgt := 22) rfl rfl (ti_ne jk_1 jk_0 (bn_t (by omega) ?_))
                refine x_iconst (v := 0) rfl ki_0 ?_
                refine x_zret rfl rfl (by decide) ?_
                show jX m_X12_named 9 0 0 5 [(0, .ref 125), (1, .int l8)] [.int 0] _ 0 0 _
                refine x_ifeq (tgt := 12) rfl rfl (ti_eq jk_0 jk_0 (br_t (by omega) ?_))
                refine x_aloadn (x := 125) rfl rfl ?_
                refine z_getR (N := 92) (b := 139) 12 29 rfl f_12_72 rfl J rfl 16029 ⟨rfl, rfl⟩ rfl ?_
                refine x_iloadn (x := l8) rfl rfl ?_
                refine z_ialdM (N := 600) (v := v6) rfl J rfl rfl (by omega) qv6 ?_
                refine x_iret rfl rfl ?_
                show jX m_X12_kin 10 0 0 231 [(0, .ref 125), (3, .int l3), (4, .int l4), (5, .int l5), (6, .int l6), (7, .int l7), (8, .int l8), (9, .int l9)] [.int v6] _ 0 0 _
                refine x_goto (tgt := 235) rfl rfl ?_
                exact jX.sub (jsb_c rfl (jsb_c rfl (jsb_c rfl (jsb_c rfl (jsb_c rfl (jsb_c rfl jsb_n)))))) (ct_X12_kin_r125_235 hD hQ k81 l3 l4 l5 l6 l7 v6 g0 h (jr_of rfl (by omega)) (jr_of rfl (by omega)) (jr_of rfl (by omega)) (jr_of rfl (by omega)) (jr_of rfl (by omega)) z0 (by omega) J Sm)
            ·
              refine x_iconst (v := 1) rfl ki_1 ?_
              refine x_goto (tgt := 19) rfl rfl ?_
              refine x_zret rfl rfl (by decide) ?_
              show jX m_X12_isUnknown 8 0 0 6 [(0, .ref 125), (1, .int l8)] [.int 1] _ 0 0 _
              refine x_ifne (tgt := 22) rfl rfl (ti_ne jk_1 jk_0 (bn_t (by omega) ?_))
              refine x_iconst (v := 0) rfl ki_0 ?_
              refine x_zret rfl rfl (by decide) ?_
              show jX m_X12_named 9 0 0 5 [(0, .ref 125), (1, .int l8)] [.int 0] _ 0 0 _
              refine x_ifeq (tgt := 12) rfl rfl (ti_eq jk_0 jk_0 (br_t (by omega) ?_))
              refine x_aloadn (x := 125) rfl rfl ?_
              refine z_getR (N := 92) (b := 139) 12 29 rfl f_12_72 rfl J rfl 16029 ⟨rfl, rfl⟩ rfl ?_
              refine x_iloadn (x := l8) rfl rfl ?_
              refine z_ialdM (N := 600) (v := v6) rfl J rfl rfl (by omega) qv6 ?_
              refine x_iret rfl rfl ?_
              show jX m_X12_kin 10 0 0 231 [(0, .ref 125), (3, .int l3), (4, .int l4), (5, .int l5), (6, .int l6), (7, .int l7), (8, .int l8), (9, .int l9)] [.int v6] _ 0 0 _
              refine x_goto (tgt := 235) rfl rfl ?_
              exact jX.sub (jsb_c rfl (jsb_c rfl (jsb_c rfl (jsb_c rfl (jsb_c rfl (jsb_c rfl jsb_n)))))) (ct_X12_kin_r125_235 hD hQ k81 l3 l4 l5 l6 l7 v6 g0 h (jr_of rfl (by omega)) (jr_of rfl (by omega)) (jr_of rfl (by omega)) (jr_of rfl (by omega)) (jr_of rfl (by omega)) z0 (by omega) J Sm)
        ·
          refine x_aloadn (x := 125) rfl rfl ?_
          refine x_iload (x := l8) rfl rfl ?_
          refine x_iconst (v := 1) rfl ki_1 ?_
          refine z_iadd rfl rfl jk_1 (by omega) (fun v32 ev32 => ?_)
          refine x_inv (N := m_X12_named) (As := [.int v32]) (b := 125) (st := []) (d' := 9) (mc := 0) (ms := 0) (host := "") 12 rfl t_X12_named ⟨Or.inl q_12_409, i_X12_named.1, i_X12_named.2⟩ ⟨by decide, rfl⟩ (congrArg Prod.fst (J.1.1 125 (12, 92) rfl)) rfl (by decide) rfl rfl ⟨by decide, by decide⟩ (jC.of rfl k_X12_named rfl ?_)
          show jX m_X12_named 9 0 0 0 [(0, .ref 125), (1, .int v32)] [] _ 0 0 _
          refine x_aloadn (x := 125) rfl rfl ?_
          refine x_iloadn (x := v32) rfl rfl ?_
          refine x_inv (N := m_X12_isUnknown) (As := [.int v32]) (b := 125) (st := []) (d' := 8) (mc := 0) (ms := 0) (host := "") 12 rfl t_X12_isUnknown ⟨Or.inl q_12_402, i_X12_isUnknown.1, i_X12_isUnknown.2⟩ ⟨by decide, rfl⟩ (congrArg Prod.fst (J.1.1 125 (12, 92) rfl)) rfl (by decide) rfl rfl ⟨by decide, by decide⟩ (jC.of rfl k_X12_isUnknown rfl ?_)
          show jX m_X12_isUnknown 8 0 0 0 [(0, .ref 125), (1, .int v32)] [] _ 0 0 _
          refine x_aloadn (x := 125) rfl rfl ?_
          refine x_iloadn (x := v32) rfl rfl ?_
          refine x_iconst (v := 0) rfl ki_0 ?_
          refine x_inv (N := m_X12_isNamed) (As := [.int v32, .int 0]) (b := 125) (st := []) (d' := 7) (mc := 0) (ms := 0) (host := "") 12 rfl t_X12_isNamed ⟨Or.inl q_12_315, i_X12_isNamed.1, i_X12_isNamed.2⟩ ⟨by decide, rfl⟩ (congrArg Prod.fst (J.1.1 125 (12, 92) rfl)) rfl (by decide) rfl rfl ⟨by decide, by decide⟩ (jC.of rfl k_X12_isNamed rfl ?_)
          show jX m_X12_isNamed 7 0 0 0 [(0, .ref 125), (1, .int v32), (2, .int 0)] [] _ 0 0 _
          refine x_aloadn (x := 125) rfl rfl ?_
          refine z_getR (N := 92) (b := 126) 12 2 rfl f_12_8 rfl J rfl 16002 ⟨rfl, rfl⟩ rfl ?_
          refine x_aloadn (x := 125) rfl rfl ?_
          refine x_iloadn (x := v32) rfl rfl ?_
          refine x_iloadn (x := 0) rfl rfl ?_
          refine x_inv (N := m_X12_nameAt) (As := [.int v32, .int 0]) (b := 125) (st := [.ref 126]) (d' := 6) (mc := 0) (ms := 0) (host := "") 12 rfl t_X12_nameAt ⟨Or.inl q_12_311, i_X12_nameAt.1, i_X12_nameAt.2⟩ ⟨by decide, rfl⟩ (congrArg Prod.fst (J.1.1 125 (12, 92) rfl)) rfl (by decide) rfl rfl ⟨by decide, by decide⟩ (jC.of rfl k_X12_nameAt rfl ?_)
          show jX m_X12_nameAt 6 0 0 0 [(0, .ref 125), (1, .int v32), (2, .int 0)] [] _ 0 0 _
          refine x_aloadn (x := 125) rfl rfl ?_
          refine x_iloadn (x := v32) rfl rfl ?_
          refine x_iconst (v := 3) rfl ki_3 ?_
          refine z_idiv rfl rfl jk_3 (by omega) (by omega) (fun v33 ev33 => ?_)
          refine x_inv (N := m_X12_at) (As := [.int v33]) (b := 125) (st := []) (d' := 5) (mc := 0) (ms := 0) (host := "") 12 rfl t_X12_at ⟨Or.inl q_12_254, i_X12_at.1, i_X12_at.2⟩ ⟨by decide, rfl⟩ (congrArg Prod.fst (J.1.1 125 (12, 92) rfl)) rfl (by decide) rfl rfl ⟨by decide, by decide⟩ (jC.of rfl k_X12_at rfl ?_)
          show jX m_X12_at 5 0 0 0 [(0, .ref 125), (1, .int v33)] [] _ 0 0 _
          refine x_bipush (v := 20) rfl kb_20 ?_
          refine x_bipush (v := 90) rfl kb_90 ?_
          refine x_iloadn (x := v33) rfl rfl ?_
          refine z_imul rfl jk_90 rfl (by omega) (fun v34 ev34 => ?_)
          refine z_iadd rfl jk_20 rfl (by omega) (fun v35 ev35 => ?_)
          refine x_iret rfl rfl ?_
          show jX m_X12_nameAt 6 0 0 7 [(0, .ref 125), (1, .int v32), (2, .int 0)] [.int v35] _ 0 0 _
          refine x_bipush (v := 6) rfl kb_6 ?_
          refine z_iadd rfl rfl jk_6 (by omega) (fun v36 ev36 => ?_)
          refine x_bipush (v := 28) rfl kb_28 ?_
          refine x_iloadn (x := v32) rfl rfl ?_
          refine x_iconst (v := 3) rfl ki_3 ?_
          refine z_irem rfl rfl jk_3 (by omega) (by omega) (fun v37 ev37 => ?_)
          refine z_imul rfl jk_28 rfl (by omega) (fun v38 ev38 => ?_)
          refine z_iadd rfl rfl rfl (by omega) (fun v39 ev39 => ?_)
          refine x_bipush (v := 14) rfl kb_14 ?_
          refine x_iloadn (x := 0) rfl rfl ?_
          refine y_imul (v := 0) rfl (by decide) ?_
          refine z_iadd rfl rfl jk_0 (by omega) (fun v40 ev40 => ?_)
          have rnv40 := jnam (m := v32.toInt) (w := 0) (v := v40.toInt) (by omega) (by omega) (by omega)
          refine x_iret rfl rfl ?_
          show jX m_X12_isNamed 7 0 0 10 [(0, .ref 125), (1, .int v32), (2, .int 0)] [.int v40, .ref 126] _ 0 0 _
          refine z_ialdU (N := 50660) (lo := 0) (hi := 12) rfl J rfl rfl (by omega) ((show (v40.toInt - 20) % 90 = 6 ∨ (v40.toInt - 20) % 90 = 34 ∨ (v40.toInt - 20) % 90 = 62 from by omega).elim (fun q => (jrg_w (jrg_c J sg_126_20_18020_90_6_7 rfl (by omega)) (by decide))) (fun q => q.elim (fun q => (jrg_w (jrg_c J sg_126_20_18020_90_34_35 rfl (by omega)) (by decide))) (fun q => (jrg_w (jrg_c J sg_126_20_18020_90_62_63 rfl (by omega)) (by decide))))) (fun v41 qv41 ev41 => ?_)
          refine x_ifle (tgt := 18) rfl rfl (ti_le rfl jk_0 ⟨fun c42 => ?_, fun c42 => ?_⟩)
          ·
            refine x_iconst (v := 0) rfl ki_0 ?_
            refine x_zret rfl rfl (by decide) ?_
            show jX m_X12_isUnknown 8 0 0 6 [(0, .ref 125), (1, .int v32)] [.int 0] _ 0 0 _
            refine x_ifne (tgt := 22) rfl rfl (ti_ne jk_0 jk_0 (bn_f (by omega) ?_))
            refine x_aloadn (x := 125) rfl rfl ?_
            refine x_iloadn (x := v32) rfl rfl ?_
            refine x_iconst (v := 1) rfl ki_1 ?_
            refine x_inv (N := m_X12_isNamed) (As := [.int v32, .int 1]) (b := 125) (st := []) (d' := 7) (mc := 0) (ms := 0) (host := "") 12 rfl t_X12_isNamed ⟨Or.inl q_12_315, i_X12_isNamed.1, i_X12_isNamed.2⟩ ⟨by decide, rfl⟩ (congrArg Prod.fst (J.1.1 125 (12, 92) rfl)) rfl (by decide) rfl rfl ⟨by decide, by decide⟩ (jC.of rfl k_X12_isNamed rfl ?_)
            show jX m_X12_isNamed 7 0 0 0 [(0, .ref 125), (1, .int v32), (2, .int 1)] [] _ 0 0 _
            refine x_aloadn (x := 125) rfl rfl ?_
            refine z_getR (N := 92) (b := 126) 12 2 rfl f_12_8 rfl J rfl 16002 ⟨rfl, rfl⟩ rfl ?_
            refine x_aloadn (x := 125) rfl rfl ?_
            refine x_iloadn (x := v32) rfl rfl ?_
            refine x_iloadn (x := 1) rfl rfl ?_
            refine x_inv (N := m_X12_nameAt) (As := [.int v32, .int 1]) (b := 125) (st := [.ref 126]) (d' := 6) (mc := 0) (ms := 0) (host := "") 12 rfl t_X12_nameAt ⟨Or.inl q_12_311, i_X12_nameAt.1, i_X12_nameAt.2⟩ ⟨by decide, rfl⟩ (congrArg Prod.fst (J.1.1 125 (12, 92) rfl)) rfl (by decide) rfl rfl ⟨by decide, by decide⟩ (jC.of rfl k_X12_nameAt rfl ?_)
            show jX m_X12_nameAt 6 0 0 0 [(0, .ref 125), (1, .int v32), (2, .int 1)] [] _ 0 0 _
            refine x_aloadn (x := 125) rfl rfl ?_
            refine x_iloadn (x := v32) rfl rfl ?_
            refine x_iconst (v := 3) rfl ki_3 ?_
            refine z_idiv rfl rfl jk_3 (by omega) (by omega) (fun v43 ev43 => ?_)
            refine x_inv (N := m_X12_at) (As := [.int v43]) (b := 125) (st := []) (d' := 5) (mc := 0) (ms := 0) (host := "") 12 rfl t_X12_at ⟨Or.inl q_12_254, i_X12_at.1, i_X12_at.2⟩ ⟨by decide, rfl⟩ (congrArg Prod.fst (J.1.1 125 (12, 92) rfl)) rfl (by decide) rfl rfl ⟨by decide, by decide⟩ (jC.of rfl k_X12_at rfl ?_)
            show jX m_X12_at 5 0 0 0 [(0, .ref 125), (1, .int v43)] [] _ 0 0 _
            refine x_bipush (v := 20) rfl kb_20 ?_
            refine x_bipush (v := 90) rfl kb_90 ?_
            refine x_iloadn (x := v43) rfl rfl ?_
            refine z_imul rfl jk_90 rfl (by omega) (fun v44 ev44 => ?_)
            refine z_iadd rfl jk_20 rfl (by omega) (fun v45 ev45 => ?_)
            refine x_iret rfl rfl ?_
            show jX m_X12_nameAt 6 0 0 7 [(0, .ref 125), (1, .int v32), (2, .int 1)] [.int v45] _ 0 0 _
            refine x_bipush (v := 6) rfl kb_6 ?_
            refine z_iadd rfl rfl jk_6 (by omega) (fun v46 ev46 => ?_)
            refine x_bipush (v := 28) rfl kb_28 ?_
            refine x_iloadn (x := v32) rfl rfl ?_
            refine x_iconst (v := 3) rfl ki_3 ?_
            refine z_irem rfl rfl jk_3 (by omega) (by omega) (fun v47 ev47 => ?_)
            refine z_imul rfl jk_28 rfl (by omega) (fun v48 ev48 => ?_)
            refine z_iadd rfl rfl rfl (by omega) (fun v49 ev49 => ?_)
            refine x_bipush (v := 14) rfl kb_14 ?_
            refine x_iloadn (x := 1) rfl rfl ?_
            refine y_imul (v := 14) rfl (by decide) ?_
            refine z_iadd rfl rfl jk_14 (by omega) (fun v50 ev50 => ?_)
            have rnv50 := jnam (m := v32.toInt) (w := 1) (v := v50.toInt) (by omega) (by omega) (by omega)
            refine x_iret rfl rfl ?_
            show jX m_X12_isNamed 7 0 0 10 [(0, .ref 125), (1, .int v32), (2, .int 1)] [.int v50, .ref 126] _ 0 0 _
            refine z_ialdU (N := 50660) (lo := 0) (hi := 12) rfl J rfl rfl (by omega) ((show (v50.toInt - 20) % 90 = 20 ∨ (v50.toInt - 20) % 90 = 48 ∨ (v50.toInt - 20) % 90 = 76 from by omega).elim (fun q => (jrg_w (jrg_c J sg_126_20_18020_90_20_21 rfl (by omega)) (by decide))) (fun q => q.elim (fun q => (jrg_w (jrg_c J sg_126_20_18020_90_48_49 rfl (by omega)) (by decide))) (fun q => (jrg_w (jrg_c J sg_126_20_18020_90_76_77 rfl (by omega)) (by decide))))) (fun v51 qv51 ev51 => ?_)
            refine x_ifle (tgt := 18) rfl rfl (ti_le rfl jk_0 ⟨fun c52 => ?_, fun c52 => ?_⟩)
            ·
              refine x_iconst (v := 0) rfl ki_0 ?_
              refine x_zret rfl rfl (by decide) ?_
              show jX m_X12_isUnknown 8 0 0 15 [(0, .ref 125), (1, .int v32)] [.int 0] _ 0 0 _
              refine x_ifne (tgt := 22) rfl rfl (ti_ne jk_0 jk_0 (bn_f (by omega) ?_))
              refine x_iconst (v := 1) rfl ki_1 ?_
              refine x_goto (tgt := 23) rfl rfl ?_
              refine x_zret rfl rfl (by decide) ?_
              show jX m_X12_named 9 0 0 5 [(0, .ref 125), (1, .int v32)] [.int 1] _ 0 0 _
              refine x_ifeq (tgt := 12) rfl rfl (ti_eq jk_1 jk_0 (br_f (by omega) ?_))
              refine x_iconst (v := (-1)) rfl ki_m1 ?_
              refine x_goto (tgt := 18) rfl rfl ?_
              refine x_iret rfl rfl ?_
              show jX m_X12_kin 10 0 0 208 [(0, .ref 125), (3, .int l3), (4, .int l4), (5, .int l5), (6, .int l6), (7, .int l7), (8, .int l8), (9, .int l9)] [.int (-1)] _ 0 0 _
              refine x_goto (tgt := 235) rfl rfl ?_
              exact jX.sub (jsb_c rfl (jsb_c rfl (jsb_c rfl (jsb_c rfl (jsb_c rfl (jsb_c rfl jsb_n)))))) (ct_X12_kin_r125_100235 hD hQ k81 l3 l4 l5 l6 l7 g0 h (jr_of rfl (by omega)) (jr_of rfl (by omega)) (jr_of rfl (by omega)) (jr_of rfl (by omega)) z0 (by omega) J Sm)
            ·
              refine x_iconst (v := 1) rfl ki_1 ?_
              refine x_goto (tgt := 19) rfl rfl ?_
              refine x_zret rfl rfl (by decide) ?_
              show jX m_X12_isUnknown 8 0 0 15 [(0, .ref 125), (1, .int v32)] [.int 1] _ 0 0 _
              refine x_ifne (tgt := 22) rfl rfl (ti_ne jk_1 jk_0 (bn_t (by omega) ?_))
              refine x_iconst (v := 0) rfl ki_0 ?_
              refine x_zret rfl rfl (by decide) ?_
              show jX m_X12_named 9 0 0 5 [(0, .ref 125), (1, .int v32)] [.int 0] _ 0 0 _
              refine x_ifeq (tgt := 12) rfl rfl (ti_eq jk_0 jk_0 (br_t (by omega) ?_))
              refine x_aloadn (x := 125) rfl rfl ?_
              refine z_getR (N := 92) (b := 139) 12 29 rfl f_12_72 rfl J rfl 16029 ⟨rfl, rfl⟩ rfl ?_
              refine x_iloadn (x := v32) rfl rfl ?_
              refine z_iald (N := 600) rfl J rfl sg_139_0_600_1_0_1 rfl (by omega) (fun v53 qv53 ev53 => ?_)
              refine x_iret rfl rfl ?_
              show jX m_X12_kin 10 0 0 208 [(0, .ref 125), (3, .int l3), (4, .int l4), (5, .int l5), (6, .int l6), (7, .int l7), (8, .int l8), (9, .int l9)] [.int v53] _ 0 0 _
              refine x_goto (tgt := 235) rfl rfl ?_
              exact jX.sub (jsb_c rfl (jsb_c rfl (jsb_c rfl (jsb_c rfl (jsb_c rfl (jsb_c rfl jsb_n)))))) (ct_X12_kin_r125_235 hD hQ k81 l3 l4 l5 l6 l7 v53 g0 h (jr_of rfl (by omega)) (jr_of rfl (by omega)) (jr_of rfl (by omega)) (jr_of rfl (by omega)) (jr_of rfl (by omega)) z0 (by omega) J Sm)
          ·
            refine x_iconst (v := 1) rfl ki_1 ?_
            refine x_goto (tgt := 19) rfl rfl ?_
            refine x_zret rfl rfl (by decide) ?_
            show jX m_X12_isUnknown 8 0 0 6 [(0, .ref 125), (1, .int v32)] [.int 1] _ 0 0 _
            refine x_ifne (tgt := 22) rfl rfl (ti_ne jk_1 jk_0 (bn_t (by omega) ?_))
            refine x_iconst (v := 0) rfl ki_0 ?_
            refine x_zret rfl rfl (by decide) ?_
            show jX m_X12_named 9 0 0 5 [(0, .ref 125), (1, .int v32)] [.int 0] _ 0 0 _
            refine x_ifeq (tgt := 12) rfl rfl (ti_eq jk_0 jk_0 (br_t (by omega) ?_))
            refine x_aloadn (x := 125) rfl rfl ?_
            refine z_getR (N := 92) (b := 139) 12 29 rfl f_12_72 rfl J rfl 16029 ⟨rfl, rfl⟩ rfl ?_
            refine x_iloadn (x := v32) rfl rfl ?_
            refine z_iald (N := 600) rfl J rfl sg_139_0_600_1_0_1 rfl (by omega) (fun v54 qv54 ev54 => ?_)
            refine x_iret rfl rfl ?_
            show jX m_X12_kin 10 0 0 208 [(0, .ref 125), (3, .int l3), (4, .int l4), (5, .int l5), (6, .int l6), (7, .int l7), (8, .int l8), (9, .int l9)] [.int v54] _ 0 0 _
            refine x_goto (tgt := 235) rfl rfl ?_
            exact jX.sub (jsb_c rfl (jsb_c rfl (jsb_c rfl (jsb_c rfl (jsb_c rfl (jsb_c rfl jsb_n)))))) (ct_X12_kin_r125_235 hD hQ k81 l3 l4 l5 l6 l7 v54 g0 h (jr_of rfl (by omega)) (jr_of rfl (by omega)) (jr_of rfl (by omega)) (jr_of rfl (by omega)) (jr_of rfl (by omega)) z0 (by omega) J Sm)
set_option maxRecDepth 100000 in
set_option maxHeartbeats 4000000 in
theorem ct_X12_kin_r125_154 {Dy : jH → Prop} {h0 : jH} {Q : Option Value → jH → Prop} {R81 : Int} (hD : jDk Dy) (hQ : ∀ (v : Int32) h', (-1) ≤ v.toInt ∧ v.toInt ≤ 599 → jJ jSgM Dy h' → jSm fp_X12_kin_r125 h0 h' → Q (some (.int v)) h') (k81 : ∀ (l3 : Int32) (l4 : Int32) (l5 : Int32) (l6 : Int32) (l7 : Int32) (g0 : Int32) (h : jH), 200 - l7.toInt < R81 → 2 ≤ l3.toInt ∧ l3.toInt ≤ 3 → 0 ≤ l5.toInt ∧ l5.toInt ≤ 599 → 0 ≤ l7.toInt ∧ l7.toInt ≤ 200 → 0 ≤ g0.toInt ∧ g0.toInt ≤ 200 → jiv h 126 (0 : Int32).toNatClampNeg = g0 → jJ jSgM Dy h → jSm fp_X12_kin_r125 h0 h → jX m_X12_kin 10 0 0 81 [(0, .ref 125), (3, .int l3), (4, .int l4), (5, .int l5), (6, .int l6), (7, .int l7)] [] h 0 0 Q) : ∀ (l3 : Int32) (l4 : Int32) (l5 : Int32) (l6 : Int32) (l7 : Int32) (l8 : Int32) (g0 : Int32) (h : jH), 2 ≤ l3.toInt ∧ l3.toInt ≤ 2 → 0 ≤ l5.toInt ∧ l5.toInt ≤ 599 → 0 ≤ l7.toInt ∧ l7.toInt ≤ 199 → 0 ≤ l8.toInt ∧ l8.toInt ≤ 597 → l8.toInt % 3 = 0 → 1 ≤ g0.toInt ∧ g0.toInt ≤ 200 → jiv h 126 (0 : Int32).toNatClampNeg = g0 → 200 - l7.toInt ≤ R81 → jJ jSgM Dy h → jSm fp_X12_kin_r125 h0 h → jX m_X12_kin 10 0 0 154 [(0, .ref 125), (3, .int l3), (4, .int l4), (5, .int l5), (6, .int l6), (7, .int l7), (8, .int l8)] [] h 0 0 Q := by
  intro l3 l4 l5 l6 l7 l8 g0 h y0 y1 y2 y3 y4 y5 z0 m81 J Sm
  have el4 := jfull l4
  have el6 := jfull l6
  refine x_aloadn (x := 125) rfl rfl ?_
  refine x_iload (x := l8) rfl rfl ?_
  refine x_inv (N := m_X12_named) (As := [.int l8]) (b := 125) (st := []) (d' := 9) (mc := 0) (ms := 0) (host := "") 12 rfl t_X12_named ⟨Or.inl q_12_409, i_X12_named.1, i_X12_named.2⟩ ⟨by decide, rfl⟩ (congrArg Prod.fst (J.1.1 125 (12, 92) rfl)) rfl (by decide) rfl rfl ⟨by decide, by decide⟩ (jC.of rfl k_X12_named rfl ?_)
  show jX m_X12_named 9 0 0 0 [(0, .ref 125), (1, .int l8)] [] _ 0 0 _
  refine x_aloadn (x := 125) rfl rfl ?_
  refine x_iloadn (x := l8) rfl rfl ?_
  refine x_inv (N := m_X12_isUnknown) (As := [.int l8]) (b := 125) (st := []) (d' := 8) (mc := 0) (ms := 0) (host := "") 12 rfl t_X12_isUnknown ⟨Or.inl q_12_402, i_X12_isUnknown.1, i_X12_isUnknown.2⟩ ⟨by decide, rfl⟩ (congrArg Prod.fst (J.1.1 125 (12, 92) rfl)) rfl (by decide) rfl rfl ⟨by decide, by decide⟩ (jC.of rfl k_X12_isUnknown rfl ?_)
  show jX m_X12_isUnknown 8 0 0 0 [(0, .ref 125), (1, .int l8)] [] _ 0 0 _
  refine x_aloadn (x := 125) rfl rfl ?_
  refine x_iloadn (x := l8) rfl rfl ?_
  refine x_iconst (v := 0) rfl ki_0 ?_
  refine x_inv (N := m_X12_isNamed) (As := [.int l8, .int 0]) (b := 125) (st := []) (d' := 7) (mc := 0) (ms := 0) (host := "") 12 rfl t_X12_isNamed ⟨Or.inl q_12_315, i_X12_isNamed.1, i_X12_isNamed.2⟩ ⟨by decide, rfl⟩ (congrArg Prod.fst (J.1.1 125 (12, 92) rfl)) rfl (by decide) rfl rfl ⟨by decide, by decide⟩ (jC.of rfl k_X12_isNamed rfl ?_)
  show jX m_X12_isNamed 7 0 0 0 [(0, .ref 125), (1, .int l8), (2, .int 0)] [] _ 0 0 _
  refine x_aloadn (x := 125) rfl rfl ?_
  refine z_getR (N := 92) (b := 126) 12 2 rfl f_12_8 rfl J rfl 16002 ⟨rfl, rfl⟩ rfl ?_
  refine x_aloadn (x := 125) rfl rfl ?_
  refine x_iloadn (x := l8) rfl rfl ?_
  refine x_iloadn (x := 0) rfl rfl ?_
  refine x_inv (N := m_X12_nameAt) (As := [.int l8, .int 0]) (b := 125) (st := [.ref 126]) (d' := 6) (mc := 0) (ms := 0) (host := "") 12 rfl t_X12_nameAt ⟨Or.inl q_12_311, i_X12_nameAt.1, i_X12_nameAt.2⟩ ⟨by decide, rfl⟩ (congrArg Prod.fst (J.1.1 125 (12, 92) rfl)) rfl (by decide) rfl rfl ⟨by decide, by decide⟩ (jC.of rfl k_X12_nameAt rfl ?_)
  show jX m_X12_nameAt 6 0 0 0 [(0, .ref 125), (1, .int l8), (2, .int 0)] [] _ 0 0 _
  refine x_aloadn (x := 125) rfl rfl ?_
  refine x_iloadn (x := l8) rfl rfl ?_
  refine x_iconst (v := 3) rfl ki_3 ?_
  refine z_idiv rfl rfl jk_3 (by omega) (by omega) (fun v1 ev1 => ?_)
  refine x_inv (N := m_X12_at) (As := [.int v1]) (b := 125) (st := []) (d' := 5) (mc := 0) (ms := 0) (host := "") 12 rfl t_X12_at ⟨Or.inl q_12_254, i_X12_at.1, i_X12_at.2⟩ ⟨by decide, rfl⟩ (congrArg Prod.fst (J.1.1 125 (12, 92) rfl)) rfl (by decide) rfl rfl ⟨by decide, by decide⟩ (jC.of rfl k_X12_at rfl ?_)
  show jX m_X12_at 5 0 0 0 [(0, .ref 125), (1, .int v1)] [] _ 0 0 _
  refine x_bipush (v := 20) rfl kb_20 ?_
  refine x_bipush (v := 90) rfl kb_90 ?_
  refine x_iloadn (x := v1) rfl rfl ?_
  refine z_imul rfl jk_90 rfl (by omega) (fun v2 ev2 => ?_)
  refine z_iadd rfl jk_20 rfl (by omega) (fun v3 ev3 => ?_)
  refine x_iret rfl rfl ?_
  show jX m_X12_nameAt 6 0 0 7 [(0, .ref 125), (1, .int l8), (2, .int 0)] [.int v3] _ 0 0 _
  refine x_bipush (v := 6) rfl kb_6 ?_
  refine z_iadd rfl rfl jk_6 (by omega) (fun v4 ev4 => ?_)
  refine x_bipush (v := 28) rfl kb_28 ?_
  refine x_iloadn (x := l8) rfl rfl ?_
  refine x_iconst (v := 3) rfl ki_3 ?_
  refine z_irem rfl rfl jk_3 (by omega) (by omega) (fun v5 ev5 => ?_)
  refine z_imul rfl jk_28 rfl (by omega) (fun v6 ev6 => ?_)
  refine z_iadd rfl rfl rfl (by omega) (fun v7 ev7 => ?_)
  refine x_bipush (v := 14) rfl kb_14 ?_
  refine x_iloadn (x := 0) rfl rfl ?_
  refine y_imul (v := 0) rfl (by decide) ?_
  refine z_iadd rfl rfl jk_0 (by omega) (fun v8 ev8 => ?_)
  have rnv8 := jnam (m := l8.toInt) (w := 0) (v := v8.toInt) (by omega) (by omega) (by omega)
  refine x_iret rfl rfl ?_
  show jX m_X12_isNamed 7 0 0 10 [(0, .ref 125), (1, .int l8), (2, .int 0)] [.int v8, .ref 126] _ 0 0 _
  refine z_ialdU (N := 50660) (lo := 0) (hi := 12) rfl J rfl rfl (by omega) ((show (v8.toInt - 20) % 90 = 6 ∨ (v8.toInt - 20) % 90 = 34 ∨ (v8.toInt - 20) % 90 = 62 from by omega).elim (fun q => (jrg_w (jrg_c J sg_126_20_18020_90_6_7 rfl (by omega)) (by decide))) (fun q => q.elim (fun q => (jrg_w (jrg_c J sg_126_20_18020_90_34_35 rfl (by omega)) (by decide))) (fun q => (jrg_w (jrg_c J sg_126_20_18020_90_62_63 rfl (by omega)) (by decide))))) (fun v9 qv9 ev9 => ?_)
  refine x_ifle (tgt := 18) rfl rfl (ti_le rfl jk_0 ⟨fun c10 => ?_, fun c10 => ?_⟩)
  ·
    refine x_iconst (v := 0) rfl ki_0 ?_
    refine x_zret rfl rfl (by decide) ?_
    show jX m_X12_isUnknown 8 0 0 6 [(0, .ref 125), (1, .int l8)] [.int 0] _ 0 0 _
    refine x_ifne (tgt := 22) rfl rfl (ti_ne jk_0 jk_0 (bn_f (by omega) ?_))
    refine x_aloadn (x := 125) rfl rfl ?_
    refine x_iloadn (x := l8) rfl rfl ?_
    refine x_iconst (v := 1) rfl ki_1 ?_
    refine x_inv (N := m_X12_isNamed) (As := [.int l8, .int 1]) (b := 125) (st := []) (d' := 7) (mc := 0) (ms := 0) (host := "") 12 rfl t_X12_isNamed ⟨Or.inl q_12_315, i_X12_isNamed.1, i_X12_isNamed.2⟩ ⟨by decide, rfl⟩ (congrArg Prod.fst (J.1.1 125 (12, 92) rfl)) rfl (by decide) rfl rfl ⟨by decide, by decide⟩ (jC.of rfl k_X12_isNamed rfl ?_)
    show jX m_X12_isNamed 7 0 0 0 [(0, .ref 125), (1, .int l8), (2, .int 1)] [] _ 0 0 _
    refine x_aloadn (x := 125) rfl rfl ?_
    refine z_getR (N := 92) (b := 126) 12 2 rfl f_12_8 rfl J rfl 16002 ⟨rfl, rfl⟩ rfl ?_
    refine x_aloadn (x := 125) rfl rfl ?_
    refine x_iloadn (x := l8) rfl rfl ?_
    refine x_iloadn (x := 1) rfl rfl ?_
    refine x_inv (N := m_X12_nameAt) (As := [.int l8, .int 1]) (b := 125) (st := [.ref 126]) (d' := 6) (mc := 0) (ms := 0) (host := "") 12 rfl t_X12_nameAt ⟨Or.inl q_12_311, i_X12_nameAt.1, i_X12_nameAt.2⟩ ⟨by decide, rfl⟩ (congrArg Prod.fst (J.1.1 125 (12, 92) rfl)) rfl (by decide) rfl rfl ⟨by decide, by decide⟩ (jC.of rfl k_X12_nameAt rfl ?_)
    show jX m_X12_nameAt 6 0 0 0 [(0, .ref 125), (1, .int l8), (2, .int 1)] [] _ 0 0 _
    refine x_aloadn (x := 125) rfl rfl ?_
    refine x_iloadn (x := l8) rfl rfl ?_
    refine x_iconst (v := 3) rfl ki_3 ?_
    refine z_idiv rfl rfl jk_3 (by omega) (by omega) (fun v11 ev11 => ?_)
    refine x_inv (N := m_X12_at) (As := [.int v11]) (b := 125) (st := []) (d' := 5) (mc := 0) (ms := 0) (host := "") 12 rfl t_X12_at ⟨Or.inl q_12_254, i_X12_at.1, i_X12_at.2⟩ ⟨by decide, rfl⟩ (congrArg Prod.fst (J.1.1 125 (12, 92) rfl)) rfl (by decide) rfl rfl ⟨by decide, by decide⟩ (jC.of rfl k_X12_at rfl ?_)
    show jX m_X12_at 5 0 0 0 [(0, .ref 125), (1, .int v11)] [] _ 0 0 _
    refine x_bipush (v := 20) rfl kb_20 ?_
    refine x_bipush (v := 90) rfl kb_90 ?_
    refine x_iloadn (x := v11) rfl rfl ?_
    refine z_imul rfl jk_90 rfl (by omega) (fun v12 ev12 => ?_)
    refine z_iadd rfl jk_20 rfl (by omega) (fun v13 ev13 => ?_)
    refine x_iret rfl rfl ?_
    show jX m_X12_nameAt 6 0 0 7 [(0, .ref 125), (1, .int l8), (2, .int 1)] [.int v13] _ 0 0 _
    refine x_bipush (v := 6) rfl kb_6 ?_
    refine z_iadd rfl rfl jk_6 (by omega) (fun v14 ev14 => ?_)
    refine x_bipush (v := 28) rfl kb_28 ?_
    refine x_iloadn (x := l8) rfl rfl ?_
    refine x_iconst (v := 3) rfl ki_3 ?_
    refine z_irem rfl rfl jk_3 (by omega) (by omega) (fun v15 ev15 => ?_)
    refine z_imul rfl jk_28 rfl (by omega) (fun v16 ev16 => ?_)
    refine z_iadd rfl rfl rfl (by omega) (fun v17 ev17 => ?_)
    refine x_bipush (v := 14) rfl kb_14 ?_
    refine x_iloadn (x := 1) rfl rfl ?_
    refine y_imul (v := 14) rfl (by decide) ?_
    refine z_iadd rfl rfl jk_14 (by omega) (fun v18 ev18 => ?_)
    have rnv18 := jnam (m := l8.toInt) (w := 1) (v := v18.toInt) (by omega) (by omega) (by omega)
    refine x_iret rfl rfl ?_
    show jX m_X12_isNamed 7 0 0 10 [(0, .ref 125), (1, .int l8), (2, .int 1)] [.int v18, .ref 126] _ 0 0 _
    refine z_ialdU (N := 50660) (lo := 0) (hi := 12) rfl J rfl rfl (by omega) ((show (v18.toInt - 20) % 90 = 20 ∨ (v18.toInt - 20) % 90 = 48 ∨ (v18.toInt - 20) % 90 = 76 from by omega).elim (fun q => (jrg_w (jrg_c J sg_126_20_18020_90_20_21 rfl (by omega)) (by decide))) (fun q => q.elim (fun q => (jrg_w (jrg_c J sg_126_20_18020_90_48_49 rfl (by omega)) (by decide))) (fun q => (jrg_w (jrg_c J sg_126_20_18020_90_76_77 rfl (by omega)) (by decide))))) (fun v19 qv19 ev19 => ?_)
    refine x_ifle (tgt := 18) rfl rfl (ti_le rfl jk_0 ⟨fun c20 => ?_, fun c20 => ?_⟩)
    ·
      refine x_iconst (v := 0) rfl ki_0 ?_
      refine x_zret rfl rfl (by decide) ?_
      show jX m_X12_isUnknown 8 0 0 15 [(0, .ref 125), (1, .int l8)] [.int 0] _ 0 0 _
      refine x_ifne (tgt := 22) rfl rfl (ti_ne jk_0 jk_0 (bn_f (by omega) ?_))
      refine x_iconst (v := 1) rfl ki_1 ?_
      refine x_goto (tgt := 23) rfl rfl ?_
      refine x_zret rfl rfl (by decide) ?_
      show jX m_X12_named 9 0 0 5 [(0, .ref 125), (1, .int l8)] [.int 1] _ 0 0 _
      refine x_ifeq (tgt := 12) rfl rfl (ti_eq jk_1 jk_0 (br_f (by omega) ?_))
      refine x_iconst (v := (-1)) rfl ki_m1 ?_
      refine x_goto (tgt := 18) rfl rfl ?_
      refine x_iret rfl rfl ?_
      show jX m_X12_kin 10 0 0 160 [(0, .ref 125), (3, .int l3), (4, .int l4), (5, .int l5), (6, .int l6), (7, .int l7), (8, .int l8)] [.int (-1)] _ 0 0 _
      refine x_istore (ls' := [(9, .int (-1)), (0, .ref 125), (3, .int l3), (4, .int l4), (5, .int l5), (6, .int l6), (7, .int l7), (8, .int l8)]) rfl rfl rfl ?_
      exact jX.sub (jsb_c rfl (jsb_c rfl (jsb_c rfl (jsb_c rfl (jsb_c rfl (jsb_c rfl (jsb_c rfl (jsb_c rfl jsb_n)))))))) (ct_X12_kin_r125_162 hD hQ k81 l3 l4 l5 l6 l7 l8 (-1) g0 h (jr_of rfl (by omega)) (jr_of rfl (by omega)) (jr_of rfl (by omega)) (jr_of rfl (by omega)) (jr_mod rfl (by omega)) (jr_of jk_m1 (by omega)) (jr_of rfl (by omega)) z0 (by omega) J Sm)
    ·
      refine x_iconst (v := 1) rfl ki_1 ?_
      refine x_goto (tgt := 19) rfl rfl ?_
      refine x_zret rfl rfl (by decide) ?_
      show jX m_X12_isUnknown 8 0 0 15 [(0, .ref 125), (1, .int l8)] [.int 1] _ 0 0 _
      refine x_ifne (tgt := 22) rfl rfl (ti_ne jk_1 jk_0 (bn_t (by omega) ?_))
      refine x_iconst (v := 0) rfl ki_0 ?_
      refine x_zret rfl rfl (by decide) ?_
      show jX m_X12_named 9 0 0 5 [(0, .ref 125), (1, .int l8)] [.int 0] _ 0 0 _
      refine x_ifeq (tgt := 12) rfl rfl (ti_eq jk_0 jk_0 (br_t (by omega) ?_))
      refine x_aloadn (x := 125) rfl rfl ?_
      refine z_getR (N := 92) (b := 139) 12 29 rfl f_12_72 rfl J rfl 16029 ⟨rfl, rfl⟩ rfl ?_
      refine x_iloadn (x := l8) rfl rfl ?_
      refine z_iald (N := 600) rfl J rfl sg_139_0_600_1_0_1 rfl (by omega) (fun v21 qv21 ev21 => ?_)
      refine x_iret rfl rfl ?_
      show jX m_X12_kin 10 0 0 160 [(0, .ref 125), (3, .int l3), (4, .int l4), (5, .int l5), (6, .int l6), (7, .int l7), (8, .int l8)] [.int v21] _ 0 0 _
      refine x_istore (ls' := [(9, .int v21), (0, .ref 125), (3, .int l3), (4, .int l4), (5, .int l5), (6, .int l6), (7, .int l7), (8, .int l8)]) rfl rfl rfl ?_
      exact jX.sub (jsb_c rfl (jsb_c rfl (jsb_c rfl (jsb_c rfl (jsb_c rfl (jsb_c rfl (jsb_c rfl (jsb_c rfl jsb_n)))))))) (ct_X12_kin_r125_162 hD hQ k81 l3 l4 l5 l6 l7 l8 v21 g0 h (jr_of rfl (by omega)) (jr_of rfl (by omega)) (jr_of rfl (by omega)) (jr_of rfl (by omega)) (jr_mod rfl (by omega)) (jr_of rfl (by omega)) (jr_of rfl (by omega)) z0 (by omega) J Sm)
  ·
    refine x_iconst (v := 1) rfl ki_1 ?_
    refine x_goto (tgt := 19) rfl rfl ?_
    refine x_zret rfl rfl (by decide) ?_
    show jX m_X12_isUnknown 8 0 0 6 [(0, .ref 125), (1, .int l8)] [.int 1] _ 0 0 _
    refine x_ifne (tgt := 22) rfl rfl (ti_ne jk_1 jk_0 (bn_t (by omega) ?_))
    refine x_iconst (v := 0) rfl ki_0 ?_
    refine x_zret rfl rfl (by decide) ?_
    show jX m_X12_named 9 0 0 5 [(0, .ref 125), (1, .int l8)] [.int 0] _ 0 0 _
    refine x_ifeq (tgt := 12) rfl rfl (ti_eq jk_0 jk_0 (br_t (by omega) ?_))
    refine x_aloadn (x := 125) rfl rfl ?_
    refine z_getR (N := 92) (b := 139) 12 29 rfl f_12_72 rfl J rfl 16029 ⟨rfl, rfl⟩ rfl ?_
    refine x_iloadn (x := l8) rfl rfl ?_
    refine z_iald (N := 600) rfl J rfl sg_139_0_600_1_0_1 rfl (by omega) (fun v22 qv22 ev22 => ?_)
    refine x_iret rfl rfl ?_
    show jX m_X12_kin 10 0 0 160 [(0, .ref 125), (3, .int l3), (4, .int l4), (5, .int l5), (6, .int l6), (7, .int l7), (8, .int l8)] [.int v22] _ 0 0 _
    refine x_istore (ls' := [(9, .int v22), (0, .ref 125), (3, .int l3), (4, .int l4), (5, .int l5), (6, .int l6), (7, .int l7), (8, .int l8)]) rfl rfl rfl ?_
    exact jX.sub (jsb_c rfl (jsb_c rfl (jsb_c rfl (jsb_c rfl (jsb_c rfl (jsb_c rfl (jsb_c rfl (jsb_c rfl jsb_n)))))))) (ct_X12_kin_r125_162 hD hQ k81 l3 l4 l5 l6 l7 l8 v22 g0 h (jr_of rfl (by omega)) (jr_of rfl (by omega)) (jr_of rfl (by omega)) (jr_of rfl (by omega)) (jr_mod rfl (by omega)) (jr_of rfl (by omega)) (jr_of rfl (by omega)) z0 (by omega) J Sm)
set_option maxRecDepth 100000 in
set_option maxHeartbeats 4000000 in
theorem ct_X12_kin_r125_81 {Dy : jH → Prop} {h0 : jH} {Q : Option Value → jH → Prop} (hD : jDk Dy) (hQ : ∀ (v : Int32) h', (-1) ≤ v.toInt ∧ v.toInt ≤ 599 → jJ jSgM Dy h' → jSm fp_X12_kin_r125 h0 h' → Q (some (.int v)) h') : ∀ r : Nat, ∀ (l3 : Int32) (l4 : Int32) (l5 : Int32) (l6 : Int32) (l7 : Int32) (g0 : Int32) (h : jH), 200 - l7.toInt < (r : Int) → 2 ≤ l3.toInt ∧ l3.toInt ≤ 3 → 0 ≤ l5.toInt ∧ l5.toInt ≤ 599 → 0 ≤ l7.toInt ∧ l7.toInt ≤ 200 → 0 ≤ g0.toInt ∧ g0.toInt ≤ 200 → jiv h 126 (0 : Int32).toNatClampNeg = g0 → jJ jSgM Dy h → jSm fp_X12_kin_r125 h0 h → jX m_X12_kin 10 0 0 81 [(0, .ref 125), (3, .int l3), (4, .int l4), (5, .int l5), (6, .int l6), (7, .int l7)] [] h 0 0 Q := by
  intro r
  induction r with
  | zero =>
    intro l3 l4 l5 l6 l7 g0 h hm y0 y1 y2 y3 z0  J Sm
    exfalso
    omega
  | succ r ih =>
    intro l3 l4 l5 l6 l7 g0 h hm y0 y1 y2 y3 z0  J Sm
    have el4 := jfull l4
    have el6 := jfull l6
    refine x_iload (x := l7) rfl rfl ?_
    refine x_aloadn (x := 125) rfl rfl ?_
    refine z_getR (N := 92) (b := 126) 12 2 rfl f_12_8 rfl J rfl 16002 ⟨rfl, rfl⟩ rfl ?_
    refine x_iconst (v := 0) rfl ki_0 ?_
    refine z_ialdM (N := 50660) (v := g0) rfl J rfl jk_0 (by omega) z0 ?_
    refine x_icge (tgt := 262) rfl rfl (ti_ge rfl rfl ⟨fun c1 => ?_, fun c1 => ?_⟩)
    ·
      refine x_iconst (v := (-1)) rfl ki_m1 ?_
      refine x_iret rfl rfl ?_
      exact hQ _ _ (jr_of jk_m1 (by omega)) J Sm
    ·
      refine x_iconst (v := 3) rfl ki_3 ?_
      refine x_iload (x := l7) rfl rfl ?_
      refine z_imul rfl jk_3 rfl (by omega) (fun v2 ev2 => ?_)
      refine x_istore (ls' := [(8, .int v2), (0, .ref 125), (3, .int l3), (4, .int l4), (5, .int l5), (6, .int l6), (7, .int l7)]) rfl rfl rfl ?_
      refine x_iconst (v := (-1)) rfl ki_m1 ?_
      refine x_istore (ls' := [(9, .int (-1)), (8, .int v2), (0, .ref 125), (3, .int l3), (4, .int l4), (5, .int l5), (6, .int l6), (7, .int l7)]) rfl rfl rfl ?_
      refine x_iloadn (x := l3) rfl rfl ?_
      refine x_iconst (v := 2) rfl ki_2 ?_
      refine x_icne (tgt := 162) rfl rfl (ti_ne rfl jk_2 ⟨fun c3 => ?_, fun c3 => ?_⟩)
      ·
        exact jX.sub (jsb_c rfl (jsb_c rfl (jsb_c rfl (jsb_c rfl (jsb_c rfl (jsb_c rfl (jsb_c rfl (jsb_c rfl jsb_n)))))))) (ct_X12_kin_r125_162 hD hQ ih l3 l4 l5 l6 l7 v2 (-1) g0 h (jr_of rfl (by omega)) (jr_of rfl (by omega)) (jr_of rfl (by omega)) (jr_of rfl (by omega)) (jr_mod rfl (by omega)) (jr_of jk_m1 (by omega)) (jr_of rfl (by omega)) z0 (by omega) J Sm)
      ·
        refine x_aloadn (x := 125) rfl rfl ?_
        refine x_iload (x := l7) rfl rfl ?_
        refine x_inv (N := m_X12_bookOf) (As := [.int l7]) (b := 125) (st := []) (d' := 9) (mc := 0) (ms := 0) (host := "") 12 rfl t_X12_bookOf ⟨Or.inl q_12_299, i_X12_bookOf.1, i_X12_bookOf.2⟩ ⟨by decide, rfl⟩ (congrArg Prod.fst (J.1.1 125 (12, 92) rfl)) rfl (by decide) rfl rfl ⟨by decide, by decide⟩ (jC.of rfl k_X12_bookOf rfl ?_)
        show jX m_X12_bookOf 9 0 0 0 [(0, .ref 125), (1, .int l7)] [] _ 0 0 _
        refine x_aloadn (x := 125) rfl rfl ?_
        refine z_getR (N := 92) (b := 126) 12 2 rfl f_12_8 rfl J rfl 16002 ⟨rfl, rfl⟩ rfl ?_
        refine x_aloadn (x := 125) rfl rfl ?_
        refine x_iloadn (x := l7) rfl rfl ?_
        refine x_inv (N := m_X12_at) (As := [.int l7]) (b := 125) (st := [.ref 126]) (d' := 8) (mc := 0) (ms := 0) (host := "") 12 rfl t_X12_at ⟨Or.inl q_12_254, i_X12_at.1, i_X12_at.2⟩ ⟨by decide, rfl⟩ (congrArg Prod.fst (J.1.1 125 (12, 92) rfl)) rfl (by decide) rfl rfl ⟨by decide, by decide⟩ (jC.of rfl k_X12_at rfl ?_)
        show jX m_X12_at 8 0 0 0 [(0, .ref 125), (1, .int l7)] [] _ 0 0 _
        refine x_bipush (v := 20) rfl kb_20 ?_
        refine x_bipush (v := 90) rfl kb_90 ?_
        refine x_iloadn (x := l7) rfl rfl ?_
        refine z_imul rfl jk_90 rfl (by omega) (fun v4 ev4 => ?_)
        refine z_iadd rfl jk_20 rfl (by omega) (fun v5 ev5 => ?_)
        refine x_iret rfl rfl ?_
        show jX m_X12_bookOf 9 0 0 9 [(0, .ref 125), (1, .int l7)] [.int v5, .ref 126] _ 0 0 _
        refine z_iald (N := 50660) rfl J rfl sg_126_20_18020_90_0_1 rfl (by omega) (fun v6 qv6 ev6 => ?_)
        refine x_iret rfl rfl ?_
        show jX m_X12_kin 10 0 0 112 [(9, .int (-1)), (8, .int v2), (0, .ref 125), (3, .int l3), (4, .int l4), (5, .int l5), (6, .int l6), (7, .int l7)] [.int v6] _ 0 0 _
        refine x_ifne (tgt := 162) rfl rfl (ti_ne rfl jk_0 ⟨fun c7 => ?_, fun c7 => ?_⟩)
        ·
          exact jX.sub (jsb_c rfl (jsb_c rfl (jsb_c rfl (jsb_c rfl (jsb_c rfl (jsb_c rfl (jsb_c rfl (jsb_c rfl jsb_n)))))))) (ct_X12_kin_r125_162 hD hQ ih l3 l4 l5 l6 l7 v2 (-1) g0 h (jr_of rfl (by omega)) (jr_of rfl (by omega)) (jr_of rfl (by omega)) (jr_of rfl (by omega)) (jr_mod rfl (by omega)) (jr_of jk_m1 (by omega)) (jr_of rfl (by omega)) z0 (by omega) J Sm)
        ·
          refine x_aloadn (x := 125) rfl rfl ?_
          refine z_getR (N := 92) (b := 139) 12 29 rfl f_12_72 rfl J rfl 16029 ⟨rfl, rfl⟩ rfl ?_
          refine x_iload (x := v2) rfl rfl ?_
          refine z_iald (N := 600) rfl J rfl sg_139_0_600_1_0_1 rfl (by omega) (fun v8 qv8 ev8 => ?_)
          refine x_iconst (v := (-1)) rfl ki_m1 ?_
          refine x_iceq (tgt := 162) rfl rfl (ti_eq rfl jk_m1 ⟨fun c9 => ?_, fun c9 => ?_⟩)
          ·
            exact jX.sub (jsb_c rfl (jsb_c rfl (jsb_c rfl (jsb_c rfl (jsb_c rfl (jsb_c rfl (jsb_c rfl (jsb_c rfl jsb_n)))))))) (ct_X12_kin_r125_162 hD hQ ih l3 l4 l5 l6 l7 v2 (-1) g0 h (jr_of rfl (by omega)) (jr_of rfl (by omega)) (jr_of rfl (by omega)) (jr_of rfl (by omega)) (jr_mod rfl (by omega)) (jr_of jk_m1 (by omega)) (jr_of rfl (by omega)) z0 (by omega) J Sm)
          ·
            refine x_aloadn (x := 125) rfl rfl ?_
            refine z_getR (N := 92) (b := 139) 12 29 rfl f_12_72 rfl J rfl 16029 ⟨rfl, rfl⟩ rfl ?_
            refine x_iload (x := v2) rfl rfl ?_
            refine x_iconst (v := 1) rfl ki_1 ?_
            refine z_iadd rfl rfl jk_1 (by omega) (fun v10 ev10 => ?_)
            refine z_iald (N := 600) rfl J rfl sg_139_0_600_1_0_1 rfl (by omega) (fun v11 qv11 ev11 => ?_)
            refine x_iload (x := l5) rfl rfl ?_
            refine x_iceq (tgt := 154) rfl rfl (ti_eq rfl rfl ⟨fun c12 => ?_, fun c12 => ?_⟩)
            ·
              exact jX.sub (jsb_c rfl (jsb_c rfl (jsb_c rfl (jsb_c rfl (jsb_c rfl (jsb_c rfl (jsb_c rfl jsb_n))))))) (ct_X12_kin_r125_154 hD hQ ih l3 l4 l5 l6 l7 v2 g0 h (jr_of rfl (by omega)) (jr_of rfl (by omega)) (jr_of rfl (by omega)) (jr_of rfl (by omega)) (jr_mod rfl (by omega)) (jr_of rfl (by omega)) z0 (by omega) J Sm)
            ·
              refine x_aloadn (x := 125) rfl rfl ?_
              refine z_getR (N := 92) (b := 139) 12 29 rfl f_12_72 rfl J rfl 16029 ⟨rfl, rfl⟩ rfl ?_
              refine x_iload (x := v2) rfl rfl ?_
              refine x_iconst (v := 2) rfl ki_2 ?_
              refine z_iadd rfl rfl jk_2 (by omega) (fun v13 ev13 => ?_)
              refine z_iald (N := 600) rfl J rfl sg_139_0_600_1_0_1 rfl (by omega) (fun v14 qv14 ev14 => ?_)
              refine x_iload (x := l5) rfl rfl ?_
              refine x_icne (tgt := 162) rfl rfl (ti_ne rfl rfl ⟨fun c15 => ?_, fun c15 => ?_⟩)
              ·
                exact jX.sub (jsb_c rfl (jsb_c rfl (jsb_c rfl (jsb_c rfl (jsb_c rfl (jsb_c rfl (jsb_c rfl (jsb_c rfl jsb_n)))))))) (ct_X12_kin_r125_162 hD hQ ih l3 l4 l5 l6 l7 v2 (-1) g0 h (jr_of rfl (by omega)) (jr_of rfl (by omega)) (jr_of rfl (by omega)) (jr_of rfl (by omega)) (jr_mod rfl (by omega)) (jr_of jk_m1 (by omega)) (jr_of rfl (by omega)) z0 (by omega) J Sm)
              ·
                exact jX.sub (jsb_c rfl (jsb_c rfl (jsb_c rfl (jsb_c rfl (jsb_c rfl (jsb_c rfl (jsb_c rfl jsb_n))))))) (ct_X12_kin_r125_154 hD hQ ih l3 l4 l5 l6 l7 v2 g0 h (jr_of rfl (by omega)) (jr_of rfl (by omega)) (jr_of rfl (by omega)) (jr_of rfl (by omega)) (jr_mod rfl (by omega)) (jr_of rfl (by omega)) z0 (by omega) J Sm)
set_option maxRecDepth 100000 in
set_option maxHeartbeats 4000000 in
theorem ct_X12_kin_r125_100074 {Dy : jH → Prop} {h0 : jH} {Q : Option Value → jH → Prop} (hD : jDk Dy) (hQ : ∀ (v : Int32) h', (-1) ≤ v.toInt ∧ v.toInt ≤ 599 → jJ jSgM Dy h' → jSm fp_X12_kin_r125 h0 h' → Q (some (.int v)) h') : ∀ (h : jH), jJ jSgM Dy h → jSm fp_X12_kin_r125 h0 h → jX m_X12_kin 10 0 0 74 [] [.int (-1)] h 0 0 Q := by
  intro  h    J Sm
  refine x_iret rfl rfl ?_
  exact hQ _ _ (jr_of jk_m1 (by omega)) J Sm
set_option maxRecDepth 100000 in
set_option maxHeartbeats 4000000 in
theorem ct_X12_kin_r125_74 {Dy : jH → Prop} {h0 : jH} {Q : Option Value → jH → Prop} (hD : jDk Dy) (hQ : ∀ (v : Int32) h', (-1) ≤ v.toInt ∧ v.toInt ≤ 599 → jJ jSgM Dy h' → jSm fp_X12_kin_r125 h0 h' → Q (some (.int v)) h') : ∀ (s0 : Int32) (h : jH), (-1) ≤ s0.toInt ∧ s0.toInt ≤ 599 → jJ jSgM Dy h → jSm fp_X12_kin_r125 h0 h → jX m_X12_kin 10 0 0 74 [] [.int s0] h 0 0 Q := by
  intro s0 h y0   J Sm
  refine x_iret rfl rfl ?_
  exact hQ _ _ (jr_of rfl (by omega)) J Sm
set_option maxRecDepth 100000 in
set_option maxHeartbeats 4000000 in
theorem sf_X12_kin_r125 {Dy : jH → Prop} {h : jH} {Q : Option Value → jH → Prop} {a1 : Int32} {a2 : Int32} {a3 : Int32} {a4 : Int32} (hD : jDk Dy) (J : jJ jSgM Dy h) (hQ : ∀ (v : Int32) h', (-1) ≤ v.toInt ∧ v.toInt ≤ 599 → jJ jSgM Dy h' → jSm fp_X12_kin_r125 h h' → Q (some (.int v)) h') : jC m_X12_kin 10 0 0 [.ref 125, .int a1, .int a2, .int a3, .int a4] h Q := by
  refine jC.of rfl k_X12_kin rfl ?_
  have Sm := jSm_rf fp_X12_kin_r125 h
  have ea1 := jfull a1
  have ea2 := jfull a2
  have ea3 := jfull a3
  have ea4 := jfull a4
  show jX m_X12_kin 10 0 0 0 [(0, .ref 125), (1, .int a1), (2, .int a2), (3, .int a3), (4, .int a4)] [] _ 0 0 _
  refine x_aloadn (x := 125) rfl rfl ?_
  refine x_iconst (v := 0) rfl ki_0 ?_
  refine z_putI (N := 92) (w := 0) 12 0 rfl f_12_180 rfl (jfin_no TX12 RX12 92 rfl rfl) hD J Sm rfl rfl jk_0 (pw_125_0 (by omega)) rfl (fun h w1 J Sm => ?_)
  refine x_aloadn (x := 125) rfl rfl ?_
  refine x_iloadn (x := a1) rfl rfl ?_
  refine x_iloadn (x := a2) rfl rfl ?_
  refine x_inv (N := m_X12_soulAt) (As := [.int a1, .int a2]) (b := 125) (st := []) (d' := 9) (mc := 0) (ms := 0) (host := "") 12 rfl t_X12_soulAt ⟨Or.inl q_12_399, i_X12_soulAt.1, i_X12_soulAt.2⟩ ⟨by decide, rfl⟩ (congrArg Prod.fst (J.1.1 125 (12, 92) rfl)) rfl (by decide) rfl rfl ⟨by decide, by decide⟩ (jC.of rfl k_X12_soulAt rfl ?_)
  show jX m_X12_soulAt 9 0 0 0 [(0, .ref 125), (1, .int a1), (2, .int a2)] [] _ 0 0 _
  refine x_aloadn (x := 125) rfl rfl ?_
  refine x_iloadn (x := a1) rfl rfl ?_
  refine x_inv (N := m_X12_isMention) (As := [.int a1]) (b := 125) (st := []) (d' := 8) (mc := 0) (ms := 0) (host := "") 12 rfl t_X12_isMention ⟨Or.inl q_12_322, i_X12_isMention.1, i_X12_isMention.2⟩ ⟨by decide, rfl⟩ (congrArg Prod.fst (J.1.1 125 (12, 92) rfl)) rfl (by decide) rfl rfl ⟨by decide, by decide⟩ (jC.of rfl k_X12_isMention rfl ?_)
  show jX m_X12_isMention 8 0 0 0 [(0, .ref 125), (1, .int a1)] [] _ 0 0 _
  refine x_iloadn (x := a1) rfl rfl ?_
  refine x_iflt (tgt := 34) rfl rfl (ti_lt rfl jk_0 ⟨fun c2 => ?_, fun c2 => ?_⟩)
  ·
    refine x_iconst (v := 0) rfl ki_0 ?_
    refine x_zret rfl rfl (by decide) ?_
    show jX m_X12_soulAt 9 0 0 5 [(0, .ref 125), (1, .int a1), (2, .int a2)] [.int 0] _ 0 0 _
    refine x_ifeq (tgt := 15) rfl rfl (ti_eq jk_0 jk_0 (br_t (by omega) ?_))
    refine x_iconst (v := (-1)) rfl ki_m1 ?_
    refine x_iret rfl rfl ?_
    show jX m_X12_kin 10 0 0 11 [(0, .ref 125), (1, .int a1), (2, .int a2), (3, .int a3), (4, .int a4)] [.int (-1)] _ 0 0 _
    refine x_istore (ls' := [(5, .int (-1)), (0, .ref 125), (1, .int a1), (2, .int a2), (3, .int a3), (4, .int a4)]) rfl rfl rfl ?_
    refine x_iload (x := (-1)) rfl rfl ?_
    refine x_iconst (v := (-1)) rfl ki_m1 ?_
    refine x_iceq (tgt := 31) rfl rfl (ti_eq jk_m1 jk_m1 (br_t (by omega) ?_))
    exact jX.sub jsb_n (ct_X12_kin_r125_31 hD hQ  h J Sm)
  ·
    refine x_aloadn (x := 125) rfl rfl ?_
    refine x_iloadn (x := a1) rfl rfl ?_
    refine x_iconst (v := 3) rfl ki_3 ?_
    refine z_idiv rfl rfl jk_3 (by omega) (by omega) (fun v3 ev3 => ?_)
    refine x_inv (N := m_X12_isLine) (As := [.int v3]) (b := 125) (st := []) (d' := 7) (mc := 0) (ms := 0) (host := "") 12 rfl t_X12_isLine ⟨Or.inl q_12_293, i_X12_isLine.1, i_X12_isLine.2⟩ ⟨by decide, rfl⟩ (congrArg Prod.fst (J.1.1 125 (12, 92) rfl)) rfl (by decide) rfl rfl ⟨by decide, by decide⟩ (jC.of rfl k_X12_isLine rfl ?_)
    show jX m_X12_isLine 7 0 0 0 [(0, .ref 125), (1, .int v3)] [] _ 0 0 _
    refine x_iloadn (x := v3) rfl rfl ?_
    refine z_i2l rfl rfl (fun v4 ev4 => ?_)
    refine x_lconst (v := 0) rfl kl_0 ?_
    refine x_aloadn (x := 125) rfl rfl ?_
    refine z_getR (N := 92) (b := 126) 12 2 rfl f_12_8 rfl J rfl 16002 ⟨rfl, rfl⟩ rfl ?_
    refine x_iconst (v := 0) rfl ki_0 ?_
    refine z_iald (N := 50660) rfl J rfl sg_126_0_1_1_0_1 jk_0 (by omega) (fun v5 qv5 ev5 => ?_)
    refine z_i2l rfl rfl (fun v6 ev6 => ?_)
    refine x_lconst (v := 1) rfl kl_1 ?_
    refine z_lsub rfl rfl jkl_1 (by omega) (fun v7 ev7 => ?_)
    refine x_inst (N := m_X12_in) (As := [.long v4, .long 0, .long v7]) (st := []) (d' := 1) (mc := 0) (ms := 0) (host := "") rfl t_X12_in ⟨Or.inl q_12_188, s_X12_in⟩ rfl (by decide) rfl rfl ⟨by decide, by decide⟩ (zc_X12_in rfl jkl_0 rfl (fun v8 ev8 => ?_))
    show jX m_X12_isLine 7 0 0 15 [(0, .ref 125), (1, .int v3)] [.int v8] _ 0 0 _
    refine x_zret rfl rfl (jz01 (by omega)) ?_
    show jX m_X12_isMention 8 0 0 11 [(0, .ref 125), (1, .int a1)] [.int v8] _ 0 0 _
    refine x_ifeq (tgt := 34) rfl rfl (ti_eq rfl jk_0 ⟨fun c9 => ?_, fun c9 => ?_⟩)
    ·
      refine x_iconst (v := 0) rfl ki_0 ?_
      refine x_zret rfl rfl (by decide) ?_
      show jX m_X12_soulAt 9 0 0 5 [(0, .ref 125), (1, .int a1), (2, .int a2)] [.int 0] _ 0 0 _
      refine x_ifeq (tgt := 15) rfl rfl (ti_eq jk_0 jk_0 (br_t (by omega) ?_))
      refine x_iconst (v := (-1)) rfl ki_m1 ?_
      refine x_iret rfl rfl ?_
      show jX m_X12_kin 10 0 0 11 [(0, .ref 125), (1, .int a1), (2, .int a2), (3, .int a3), (4, .int a4)] [.int (-1)] _ 0 0 _
      refine x_istore (ls' := [(5, .int (-1)), (0, .ref 125), (1, .int a1), (2, .int a2), (3, .int a3), (4, .int a4)]) rfl rfl rfl ?_
      refine x_iload (x := (-1)) rfl rfl ?_
      refine x_iconst (v := (-1)) rfl ki_m1 ?_
      refine x_iceq (tgt := 31) rfl rfl (ti_eq jk_m1 jk_m1 (br_t (by omega) ?_))
      exact jX.sub jsb_n (ct_X12_kin_r125_31 hD hQ  h J Sm)
    ·
      refine x_iloadn (x := a1) rfl rfl ?_
      refine x_iconst (v := 3) rfl ki_3 ?_
      refine z_irem rfl rfl jk_3 (by omega) (by omega) (fun v10 ev10 => ?_)
      refine x_aloadn (x := 125) rfl rfl ?_
      refine x_iloadn (x := a1) rfl rfl ?_
      refine x_iconst (v := 3) rfl ki_3 ?_
      refine z_idiv rfl rfl jk_3 (by omega) (by omega) (fun v11 ev11 => ?_)
      refine x_inv (N := m_X12_bookOf) (As := [.int v11]) (b := 125) (st := [.int v10]) (d' := 7) (mc := 0) (ms := 0) (host := "") 12 rfl t_X12_bookOf ⟨Or.inl q_12_299, i_X12_bookOf.1, i_X12_bookOf.2⟩ ⟨by decide, rfl⟩ (congrArg Prod.fst (J.1.1 125 (12, 92) rfl)) rfl (by decide) rfl rfl ⟨by decide, by decide⟩ (jC.of rfl k_X12_bookOf rfl ?_)
      show jX m_X12_bookOf 7 0 0 0 [(0, .ref 125), (1, .int v11)] [] _ 0 0 _
      refine x_aloadn (x := 125) rfl rfl ?_
      refine z_getR (N := 92) (b := 126) 12 2 rfl f_12_8 rfl J rfl 16002 ⟨rfl, rfl⟩ rfl ?_
      refine x_aloadn (x := 125) rfl rfl ?_
      refine x_iloadn (x := v11) rfl rfl ?_
      refine x_inv (N := m_X12_at) (As := [.int v11]) (b := 125) (st := [.ref 126]) (d' := 6) (mc := 0) (ms := 0) (host := "") 12 rfl t_X12_at ⟨Or.inl q_12_254, i_X12_at.1, i_X12_at.2⟩ ⟨by decide, rfl⟩ (congrArg Prod.fst (J.1.1 125 (12, 92) rfl)) rfl (by decide) rfl rfl ⟨by decide, by decide⟩ (jC.of rfl k_X12_at rfl ?_)
      show jX m_X12_at 6 0 0 0 [(0, .ref 125), (1, .int v11)] [] _ 0 0 _
      refine x_bipush (v := 20) rfl kb_20 ?_
      refine x_bipush (v := 90) rfl kb_90 ?_
      refine x_iloadn (x := v11) rfl rfl ?_
      refine z_imul rfl jk_90 rfl (by omega) (fun v12 ev12 => ?_)
      refine z_iadd rfl jk_20 rfl (by omega) (fun v13 ev13 => ?_)
      refine x_iret rfl rfl ?_
      show jX m_X12_bookOf 7 0 0 9 [(0, .ref 125), (1, .int v11)] [.int v13, .ref 126] _ 0 0 _
      refine z_iald (N := 50660) rfl J rfl sg_126_20_18020_90_0_1 rfl (by omega) (fun v14 qv14 ev14 => ?_)
      refine x_iret rfl rfl ?_
      show jX m_X12_isMention 8 0 0 24 [(0, .ref 125), (1, .int a1)] [.int v14, .int v10] _ 0 0 _
      refine x_inst (N := m_X12_rolesOf) (As := [.int v14]) (st := [.int v10]) (d' := 7) (mc := 0) (ms := 0) (host := "") rfl t_X12_rolesOf ⟨Or.inl q_12_286, s_X12_rolesOf⟩ rfl (by decide) rfl rfl ⟨by decide, by decide⟩ (jC.of rfl k_X12_rolesOf rfl ?_)
      show jX m_X12_rolesOf 7 0 0 0 [(0, .int v14)] [] _ 0 0 _
      refine x_iloadn (x := v14) rfl rfl ?_
      refine x_ifne (tgt := 8) rfl rfl (ti_ne rfl jk_0 ⟨fun c15 => ?_, fun c15 => ?_⟩)
      ·
        refine x_iloadn (x := v14) rfl rfl ?_
        refine x_iconst (v := 1) rfl ki_1 ?_
        refine x_icne (tgt := 17) rfl rfl (ti_ne rfl jk_1 ⟨fun c16 => ?_, fun c16 => ?_⟩)
        ·
          refine x_iconst (v := 1) rfl ki_1 ?_
          refine x_iret rfl rfl ?_
          show jX m_X12_isMention 8 0 0 27 [(0, .ref 125), (1, .int a1)] [.int 1, .int v10] _ 0 0 _
          refine x_icge (tgt := 34) rfl rfl (ti_ge rfl jk_1 ⟨fun c17 => ?_, fun c17 => ?_⟩)
          ·
            refine x_iconst (v := 0) rfl ki_0 ?_
            refine x_zret rfl rfl (by decide) ?_
            show jX m_X12_soulAt 9 0 0 5 [(0, .ref 125), (1, .int a1), (2, .int a2)] [.int 0] _ 0 0 _
            refine x_ifeq (tgt := 15) rfl rfl (ti_eq jk_0 jk_0 (br_t (by omega) ?_))
            refine x_iconst (v := (-1)) rfl ki_m1 ?_
            refine x_iret rfl rfl ?_
            show jX m_X12_kin 10 0 0 11 [(0, .ref 125), (1, .int a1), (2, .int a2), (3, .int a3), (4, .int a4)] [.int (-1)] _ 0 0 _
            refine x_istore (ls' := [(5, .int (-1)), (0, .ref 125), (1, .int a1), (2, .int a2), (3, .int a3), (4, .int a4)]) rfl rfl rfl ?_
            refine x_iload (x := (-1)) rfl rfl ?_
            refine x_iconst (v := (-1)) rfl ki_m1 ?_
            refine x_iceq (tgt := 31) rfl rfl (ti_eq jk_m1 jk_m1 (br_t (by omega) ?_))
            exact jX.sub jsb_n (ct_X12_kin_r125_31 hD hQ  h J Sm)
          ·
            refine x_iconst (v := 1) rfl ki_1 ?_
            refine x_goto (tgt := 35) rfl rfl ?_
            refine x_zret rfl rfl (by decide) ?_
            show jX m_X12_soulAt 9 0 0 5 [(0, .ref 125), (1, .int a1), (2, .int a2)] [.int 1] _ 0 0 _
            refine x_ifeq (tgt := 15) rfl rfl (ti_eq jk_1 jk_0 (br_f (by omega) ?_))
            refine x_iloadn (x := a2) rfl rfl ?_
            refine x_inst (N := m_X12_isDay) (As := [.int a2]) (st := []) (d' := 2) (mc := 0) (ms := 0) (host := "") rfl t_X12_isDay ⟨Or.inl q_12_273, s_X12_isDay⟩ rfl (by decide) rfl rfl ⟨by decide, by decide⟩ (zc_X12_isDay (d := 1) rfl (fun v18 ev18 => ?_))
            show jX m_X12_soulAt 9 0 0 12 [(0, .ref 125), (1, .int a1), (2, .int a2)] [.int v18] _ 0 0 _
            refine x_ifne (tgt := 17) rfl rfl (ti_ne rfl jk_0 ⟨fun c19 => ?_, fun c19 => ?_⟩)
            ·
              refine x_aloadn (x := 125) rfl rfl ?_
              refine x_iloadn (x := a2) rfl rfl ?_
              refine x_inv (N := m_X12_find) (As := [.int a2]) (b := 125) (st := []) (d' := 8) (mc := 0) (ms := 0) (host := "") 12 rfl t_X12_find ⟨Or.inl q_12_393, i_X12_find.1, i_X12_find.2⟩ ⟨by decide, rfl⟩ (congrArg Prod.fst (J.1.1 125 (12, 92) rfl)) rfl (by decide) rfl rfl ⟨by decide, by decide⟩ (sf_X12_find_r125 (jr_of rfl (by omega)) hD J  (fun h J S20 => ?_))
              have Sm := jSm_tr rfl Sm S20
              show jX m_X12_soulAt 9 0 0 22 [(0, .ref 125), (1, .int a1), (2, .int a2)] [] _ 0 0 _
              refine x_aloadn (x := 125) rfl rfl ?_
              refine z_getR (N := 92) (b := 139) 12 29 rfl f_12_72 rfl J rfl 16029 ⟨rfl, rfl⟩ rfl ?_
              refine x_iloadn (x := a1) rfl rfl ?_
              refine z_iald (N := 600) rfl J rfl sg_139_0_600_1_0_1 rfl (by omega) (fun v21 qv21 ev21 => ?_)
              refine x_iret rfl rfl ?_
              show jX m_X12_kin 10 0 0 11 [(0, .ref 125), (1, .int a1), (2, .int a2), (3, .int a3), (4, .int a4)] [.int v21] _ 0 0 _
              refine x_istore (ls' := [(5, .int v21), (0, .ref 125), (1, .int a1), (2, .int a2), (3, .int a3), (4, .int a4)]) rfl rfl rfl ?_
              refine x_iload (x := v21) rfl rfl ?_
              refine x_iconst (v := (-1)) rfl ki_m1 ?_
              refine x_iceq (tgt := 31) rfl rfl (ti_eq rfl jk_m1 ⟨fun c22 => ?_, fun c22 => ?_⟩)
              ·
                exact jX.sub jsb_n (ct_X12_kin_r125_31 hD hQ  h J Sm)
              ·
                refine x_iloadn (x := a3) rfl rfl ?_
                refine z_i2l rfl rfl (fun v23 ev23 => ?_)
                refine x_lconst (v := 0) rfl kl_0 ?_
                refine x_ldc2 (v := 3) rfl z_12_195 ?_
                refine x_inst (N := m_X12_in) (As := [.long v23, .long 0, .long 3]) (st := []) (d' := 1) (mc := 0) (ms := 0) (host := "") rfl t_X12_in ⟨Or.inl q_12_188, s_X12_in⟩ rfl (by decide) rfl rfl ⟨by decide, by decide⟩ (zc_X12_in rfl jkl_0 jkl_3 (fun v24 ev24 => ?_))
                show jX m_X12_kin 10 0 0 28 [(5, .int v21), (0, .ref 125), (1, .int a1), (2, .int a2), (3, .int a3), (4, .int a4)] [.int v24] _ 0 0 _
                refine x_ifne (tgt := 33) rfl rfl (ti_ne rfl jk_0 ⟨fun c25 => ?_, fun c25 => ?_⟩)
                ·
                  refine x_iloadn (x := a3) rfl rfl ?_
                  refine x_iconst (v := 2) rfl ki_2 ?_
                  refine x_icge (tgt := 75) rfl rfl (ti_ge rfl jk_2 ⟨fun c26 => ?_, fun c26 => ?_⟩)
                  ·
                    refine x_iconst (v := 0) rfl ki_0 ?_
                    refine x_istore (ls' := [(6, .int 0), (5, .int v21), (0, .ref 125), (1, .int a1), (2, .int a2), (3, .int a3), (4, .int a4)]) rfl rfl rfl ?_
                    refine x_iconst (v := 0) rfl ki_0 ?_
                    refine x_istore (ls' := [(7, .int 0), (6, .int 0), (5, .int v21), (0, .ref 125), (1, .int a1), (2, .int a2), (3, .int a3), (4, .int a4)]) rfl rfl rfl ?_
                    exact jX.sub (jsb_c rfl (jsb_c rfl (jsb_c rfl (jsb_c rfl (jsb_c rfl (jsb_c rfl jsb_n)))))) (ct_X12_kin_r125_81 hD hQ  201 a3 a4 v21 0 0 v5 h (by have := jk_0; omega) (jr_of rfl (by omega)) (jr_of rfl (by omega)) (jr_of jk_0 (by omega)) (jr_of rfl (by omega)) (jmc S20 rfl qv5) J Sm)
                  ·
                    refine x_aloadn (x := 125) rfl rfl ?_
                    refine x_iload (x := v21) rfl rfl ?_
                    refine x_iconst (v := 0) rfl ki_0 ?_
                    refine x_ldcw (v := 146399) rfl z_12_392 ?_
                    refine x_inv (N := m_X12_mentionOf) (As := [.int v21, .int 0, .int 146399]) (b := 125) (st := []) (d' := 4) (mc := 0) (ms := 0) (host := "") 12 rfl t_X12_mentionOf ⟨Or.inl q_12_405, i_X12_mentionOf.1, i_X12_mentionOf.2⟩ ⟨by decide, rfl⟩ (congrArg Prod.fst (J.1.1 125 (12, 92) rfl)) rfl (by decide) rfl rfl ⟨by decide, by decide⟩ (sf_X12_mentionOf_r125 (jr_of rfl (by omega)) (jr_of jk_0 (by omega)) (jr_of jk_146399 (by omega)) hD J  (fun v28 h ev28 J S27 => ?_))
                    have Sm := jSm_tr rfl Sm S27
                    show jX m_X12_kin 10 0 0 48 [(5, .int v21), (0, .ref 125), (1, .int a1), (2, .int a2), (3, .int a3), (4, .int a4)] [.int v28] _ 0 0 _
                    refine x_istore (ls' := [(6, .int v28), (5, .int v21), (0, .ref 125), (1, .int a1), (2, .int a2), (3, .int a3), (4, .int a4)]) rfl rfl rfl ?_
                    refine x_iload (x := v28) rfl rfl ?_
                    refine x_iconst (v := (-1)) rfl ki_m1 ?_
                    refine x_icne (tgt := 60) rfl rfl (ti_ne rfl jk_m1 ⟨fun c29 => ?_, fun c29 => ?_⟩)
                    ·
                      refine x_aloadn (x := 125) rfl rfl ?_
                      refine x_iload (x := v28) rfl rfl ?_
                      refine x_iconst (v := 3) rfl ki_3 ?_
                      refine z_idiv rfl rfl jk_3 (by omega) (by omega) (fun v30 ev30 => ?_)
                      refine x_iconst (v := 3) rfl ki_3 ?_
                      refine z_imul rfl rfl jk_3 (by omega) (fun v31 ev31 => ?_)
                      refine x_iconst (v := 1) rfl ki_1 ?_
                      refine z_iadd rfl rfl jk_1 (by omega) (fun v32 ev32 => ?_)
                      refine x_iloadn (x := a3) rfl rfl ?_
                      refine z_iadd rfl rfl rfl (by omega) (fun v33 ev33 => ?_)
                      refine x_inv (N := m_X12_named) (As := [.int v33]) (b := 125) (st := []) (d' := 9) (mc := 0) (ms := 0) (host := "") 12 rfl t_X12_named ⟨Or.inl q_12_409, i_X12_named.1, i_X12_named.2⟩ ⟨by decide, rfl⟩ (congrArg Prod.fst (J.1.1 125 (12, 92) rfl)) rfl (by decide) rfl rfl ⟨by decide, by decide⟩ (jC.of rfl k_X12_named rfl ?_)
                      show jX m_X12_named 9 0 0 0 [(0, .ref 125), (1, .int v33)] [] _ 0 0 _
                      refine x_aloadn (x := 125) rfl rfl ?_
                      refine x_iloadn (x := v33) rfl rfl ?_
                      refine x_inv (N := m_X12_isUnknown) (As := [.int v33]) (b := 125) (st := []) (d' := 8) (mc := 0) (ms := 0) (host := "") 12 rfl t_X12_isUnknown ⟨Or.inl q_12_402, i_X12_isUnknown.1, i_X12_isUnknown.2⟩ ⟨by decide, rfl⟩ (congrArg Prod.fst (J.1.1 125 (12, 92) rfl)) rfl (by decide) rfl rfl ⟨by decide, by decide⟩ (jC.of rfl k_X12_isUnknown rfl ?_)
                      show jX m_X12_isUnknown 8 0 0 0 [(0, .ref 125), (1, .int v33)] [] _ 0 0 _
                      refine x_aloadn (x := 125) rfl rfl ?_
                      refine x_iloadn (x := v33) rfl rfl ?_
                      refine x_iconst (v := 0) rfl ki_0 ?_
                      refine x_inv (N := m_X12_isNamed) (As := [.int v33, .int 0]) (b := 125) (st := []) (d' := 7) (mc := 0) (ms := 0) (host := "") 12 rfl t_X12_isNamed ⟨Or.inl q_12_315, i_X12_isNamed.1, i_X12_isNamed.2⟩ ⟨by decide, rfl⟩ (congrArg Prod.fst (J.1.1 125 (12, 92) rfl)) rfl (by decide) rfl rfl ⟨by decide, by decide⟩ (jC.of rfl k_X12_isNamed rfl ?_)
                      show jX m_X12_isNamed 7 0 0 0 [(0, .ref 125), (1, .int v33), (2, .int 0)] [] _ 0 0 _
                      refine x_aloadn (x := 125) rfl rfl ?_
                      refine z_getR (N := 92) (b := 126) 12 2 rfl f_12_8 rfl J rfl 16002 ⟨rfl, rfl⟩ rfl ?_
                      refine x_aloadn (x := 125) rfl rfl ?_
                      refine x_iloadn (x := v33) rfl rfl ?_
                      refine x_iloadn (x := 0) rfl rfl ?_
                      refine x_inv (N := m_X12_nameAt) (As := [.int v33, .int 0]) (b := 125) (st := [.ref 126]) (d' := 6) (mc := 0) (ms := 0) (host := "") 12 rfl t_X12_nameAt ⟨Or.inl q_12_311, i_X12_nameAt.1, i_X12_nameAt.2⟩ ⟨by decide, rfl⟩ (congrArg Prod.fst (J.1.1 125 (12, 92) rfl)) rfl (by decide) rfl rfl ⟨by decide, by decide⟩ (jC.of rfl k_X12_nameAt rfl ?_)
                      show jX m_X12_nameAt 6 0 0 0 [(0, .ref 125), (1, .int v33), (2, .int 0)] [] _ 0 0 _
                      refine x_aloadn (x := 125) rfl rfl ?_
                      refine x_iloadn (x := v33) rfl rfl ?_
                      refine x_iconst (v := 3) rfl ki_3 ?_
                      refine z_idiv rfl rfl jk_3 (by omega) (by omega) (fun v34 ev34 => ?_)
                      refine x_inv (N := m_X12_at) (As := [.int v34]) (b := 125) (st := []) (d' := 5) (mc := 0) (ms := 0) (host := "") 12 rfl t_X12_at ⟨Or.inl q_12_254, i_X12_at.1, i_X12_at.2⟩ ⟨by decide, rfl⟩ (congrArg Prod.fst (J.1.1 125 (12, 92) rfl)) rfl (by decide) rfl rfl ⟨by decide, by decide⟩ (jC.of rfl k_X12_at rfl ?_)
                      show jX m_X12_at 5 0 0 0 [(0, .ref 125), (1, .int v34)] [] _ 0 0 _
                      refine x_bipush (v := 20) rfl kb_20 ?_
                      refine x_bipush (v := 90) rfl kb_90 ?_
                      refine x_iloadn (x := v34) rfl rfl ?_
                      refine z_imul rfl jk_90 rfl (by omega) (fun v35 ev35 => ?_)
                      refine z_iadd rfl jk_20 rfl (by omega) (fun v36 ev36 => ?_)
                      refine x_iret rfl rfl ?_
                      show jX m_X12_nameAt 6 0 0 7 [(0, .ref 125), (1, .int v33), (2, .int 0)] [.int v36] _ 0 0 _
                      refine x_bipush (v := 6) rfl kb_6 ?_
                      refine z_iadd rfl rfl jk_6 (by omega) (fun v37 ev37 => ?_)
                      refine x_bipush (v := 28) rfl kb_28 ?_
                      refine x_iloadn (x := v33) rfl rfl ?_
                      refine x_iconst (v := 3) rfl ki_3 ?_
                      refine z_irem rfl rfl jk_3 (by omega) (by omega) (fun v38 ev38 => ?_)
                      refine z_imul rfl jk_28 rfl (by omega) (fun v39 ev39 => ?_)
                      refine z_iadd rfl rfl rfl (by omega) (fun v40 ev40 => ?_)
                      refine x_bipush (v := 14) rfl kb_14 ?_
                      refine x_iloadn (x := 0) rfl rfl ?_
                      refine y_imul (v := 0) rfl (by decide) ?_
                      refine z_iadd rfl rfl jk_0 (by omega) (fun v41 ev41 => ?_)
                      have rnv41 := jnam (m := v33.toInt) (w := 0) (v := v41.toInt) (by omega) (by omega) (by omega)
                      refine x_iret rfl rfl ?_
                      show jX m_X12_isNamed 7 0 0 10 [(0, .ref 125), (1, .int v33), (2, .int 0)] [.int v41, .ref 126] _ 0 0 _
                      refine z_ialdU (N := 50660) (lo := 0) (hi := 12) rfl J rfl rfl (by omega) ((show (v41.toInt - 20) % 90 = 6 ∨ (v41.toInt - 20) % 90 = 34 ∨ (v41.toInt - 20) % 90 = 62 from by omega).elim (fun q => (jrg_w (jrg_c J sg_126_20_18020_90_6_7 rfl (by omega)) (by decide))) (fun q => q.elim (fun q => (jrg_w (jrg_c J sg_126_20_18020_90_34_35 rfl (by omega)) (by decide))) (fun q => (jrg_w (jrg_c J sg_126_20_18020_90_62_63 rfl (by omega)) (by decide))))) (fun v42 qv42 ev42 => ?_)
                      refine x_ifle (tgt := 18) rfl rfl (ti_le rfl jk_0 ⟨fun c43 => ?_, fun c43 => ?_⟩)
                      ·
                        refine x_iconst (v := 0) rfl ki_0 ?_
                        refine x_zret rfl rfl (by decide) ?_
                        show jX m_X12_isUnknown 8 0 0 6 [(0, .ref 125), (1, .int v33)] [.int 0] _ 0 0 _
                        refine x_ifne (tgt := 22) rfl rfl (ti_ne jk_0 jk_0 (bn_f (by omega) ?_))
                        refine x_aloadn (x := 125) rfl rfl ?_
                        refine x_iloadn (x := v33) rfl rfl ?_
                        refine x_iconst (v := 1) rfl ki_1 ?_
                        refine x_inv (N := m_X12_isNamed) (As := [.int v33, .int 1]) (b := 125) (st := []) (d' := 7) (mc := 0) (ms := 0) (host := "") 12 rfl t_X12_isNamed ⟨Or.inl q_12_315, i_X12_isNamed.1, i_X12_isNamed.2⟩ ⟨by decide, rfl⟩ (congrArg Prod.fst (J.1.1 125 (12, 92) rfl)) rfl (by decide) rfl rfl ⟨by decide, by decide⟩ (jC.of rfl k_X12_isNamed rfl ?_)
                        show jX m_X12_isNamed 7 0 0 0 [(0, .ref 125), (1, .int v33), (2, .int 1)] [] _ 0 0 _
                        refine x_aloadn (x := 125) rfl rfl ?_
                        refine z_getR (N := 92) (b := 126) 12 2 rfl f_12_8 rfl J rfl 16002 ⟨rfl, rfl⟩ rfl ?_
                        refine x_aloadn (x := 125) rfl rfl ?_
                        refine x_iloadn (x := v33) rfl rfl ?_
                        refine x_iloadn (x := 1) rfl rfl ?_
                        refine x_inv (N := m_X12_nameAt) (As := [.int v33, .int 1]) (b := 125) (st := [.ref 126]) (d' := 6) (mc := 0) (ms := 0) (host := "") 12 rfl t_X12_nameAt ⟨Or.inl q_12_311, i_X12_nameAt.1, i_X12_nameAt.2⟩ ⟨by decide, rfl⟩ (congrArg Prod.fst (J.1.1 125 (12, 92) rfl)) rfl (by decide) rfl rfl ⟨by decide, by decide⟩ (jC.of rfl k_X12_nameAt rfl ?_)
                        show jX m_X12_nameAt 6 0 0 0 [(0, .ref 125), (1, .int v33), (2, .int 1)] [] _ 0 0 _
                        refine x_aloadn (x := 125) rfl rfl ?_
                        refine x_iloadn (x := v33) rfl rfl ?_
                        refine x_iconst (v := 3) rfl ki_3 ?_
                        refine z_idiv rfl rfl jk_3 (by omega) (by omega) (fun v44 ev44 => ?_)
                        refine x_inv (N := m_X12_at) (As := [.int v44]) (b := 125) (st := []) (d' := 5) (mc := 0) (ms := 0) (host := "") 12 rfl t_X12_at ⟨Or.inl q_12_254, i_X12_at.1, i_X12_at.2⟩ ⟨by decide, rfl⟩ (congrArg Prod.fst (J.1.1 125 (12, 92) rfl)) rfl (by decide) rfl rfl ⟨by decide, by decide⟩ (jC.of rfl k_X12_at rfl ?_)
                        show jX m_X12_at 5 0 0 0 [(0, .ref 125), (1, .int v44)] [] _ 0 0 _
                        refine x_bipush (v := 20) rfl kb_20 ?_
                        refine x_bipush (v := 90) rfl kb_90 ?_
                        refine x_iloadn (x := v44) rfl rfl ?_
                        refine z_imul rfl jk_90 rfl (by omega) (fun v45 ev45 => ?_)
                        refine z_iadd rfl jk_20 rfl (by omega) (fun v46 ev46 => ?_)
                        refine x_iret rfl rfl ?_
                        show jX m_X12_nameAt 6 0 0 7 [(0, .ref 125), (1, .int v33), (2, .int 1)] [.int v46] _ 0 0 _
                        refine x_bipush (v := 6) rfl kb_6 ?_
                        refine z_iadd rfl rfl jk_6 (by omega) (fun v47 ev47 => ?_)
                        refine x_bipush (v := 28) rfl kb_28 ?_
                        refine x_iloadn (x := v33) rfl rfl ?_
                        refine x_iconst (v := 3) rfl ki_3 ?_
                        refine z_irem rfl rfl jk_3 (by omega) (by omega) (fun v48 ev48 => ?_)
                        refine z_imul rfl jk_28 rfl (by omega) (fun v49 ev49 => ?_)
                        refine z_iadd rfl rfl rfl (by omega) (fun v50 ev50 => ?_)
                        refine x_bipush (v := 14) rfl kb_14 ?_
                        refine x_iloadn (x := 1) rfl rfl ?_
                        refine y_imul (v := 14) rfl (by decide) ?_
                        refine z_iadd rfl rfl jk_14 (by omega) (fun v51 ev51 => ?_)
                        have rnv51 := jnam (m := v33.toInt) (w := 1) (v := v51.toInt) (by omega) (by omega) (by omega)
                        refine x_iret rfl rfl ?_
                        show jX m_X12_isNamed 7 0 0 10 [(0, .ref 125), (1, .int v33), (2, .int 1)] [.int v51, .ref 126] _ 0 0 _
                        refine z_ialdU (N := 50660) (lo := 0) (hi := 12) rfl J rfl rfl (by omega) ((show (v51.toInt - 20) % 90 = 20 ∨ (v51.toInt - 20) % 90 = 48 ∨ (v51.toInt - 20) % 90 = 76 from by omega).elim (fun q => (jrg_w (jrg_c J sg_126_20_18020_90_20_21 rfl (by omega)) (by decide))) (fun q => q.elim (fun q => (jrg_w (jrg_c J sg_126_20_18020_90_48_49 rfl (by omega)) (by decide))) (fun q => (jrg_w (jrg_c J sg_126_20_18020_90_76_77 rfl (by omega)) (by decide))))) (fun v52 qv52 ev52 => ?_)
                        refine x_ifle (tgt := 18) rfl rfl (ti_le rfl jk_0 ⟨fun c53 => ?_, fun c53 => ?_⟩)
                        ·
                          refine x_iconst (v := 0) rfl ki_0 ?_
                          refine x_zret rfl rfl (by decide) ?_
                          show jX m_X12_isUnknown 8 0 0 15 [(0, .ref 125), (1, .int v33)] [.int 0] _ 0 0 _
                          refine x_ifne (tgt := 22) rfl rfl (ti_ne jk_0 jk_0 (bn_f (by omega) ?_))
                          refine x_iconst (v := 1) rfl ki_1 ?_
                          refine x_goto (tgt := 23) rfl rfl ?_
                          refine x_zret rfl rfl (by decide) ?_
                          show jX m_X12_named 9 0 0 5 [(0, .ref 125), (1, .int v33)] [.int 1] _ 0 0 _
                          refine x_ifeq (tgt := 12) rfl rfl (ti_eq jk_1 jk_0 (br_f (by omega) ?_))
                          refine x_iconst (v := (-1)) rfl ki_m1 ?_
                          refine x_goto (tgt := 18) rfl rfl ?_
                          refine x_iret rfl rfl ?_
                          show jX m_X12_kin 10 0 0 74 [(6, .int v28), (5, .int v21), (0, .ref 125), (1, .int a1), (2, .int a2), (3, .int a3), (4, .int a4)] [.int (-1)] _ 0 0 _
                          exact jX.sub jsb_n (ct_X12_kin_r125_100074 hD hQ  h J Sm)
                        ·
                          refine x_iconst (v := 1) rfl ki_1 ?_
                          refine x_goto (tgt := 19) rfl rfl ?_
                          refine x_zret rfl rfl (by decide) ?_
                          show jX m_X12_isUnknown 8 0 0 15 [(0, .ref 125), (1, .int v33)] [.int 1] _ 0 0 _
                          refine x_ifne (tgt := 22) rfl rfl (ti_ne jk_1 jk_0 (bn_t (by omega) ?_))
                          refine x_iconst (v := 0) rfl ki_0 ?_
                          refine x_zret rfl rfl (by decide) ?_
                          show jX m_X12_named 9 0 0 5 [(0, .ref 125), (1, .int v33)] [.int 0] _ 0 0 _
                          refine x_ifeq (tgt := 12) rfl rfl (ti_eq jk_0 jk_0 (br_t (by omega) ?_))
                          refine x_aloadn (x := 125) rfl rfl ?_
                          refine z_getR (N := 92) (b := 139) 12 29 rfl f_12_72 rfl J rfl 16029 ⟨rfl, rfl⟩ rfl ?_
                          refine x_iloadn (x := v33) rfl rfl ?_
                          refine z_iald (N := 600) rfl J rfl sg_139_0_600_1_0_1 rfl (by omega) (fun v54 qv54 ev54 => ?_)
                          refine x_iret rfl rfl ?_
                          show jX m_X12_kin 10 0 0 74 [(6, .int v28), (5, .int v21), (0, .ref 125), (1, .int a1), (2, .int a2), (3, .int a3), (4, .int a4)] [.int v54] _ 0 0 _
                          exact jX.sub jsb_n (ct_X12_kin_r125_74 hD hQ  v54 h (jr_of rfl (by omega)) J Sm)
                      ·
                        refine x_iconst (v := 1) rfl ki_1 ?_
                        refine x_goto (tgt := 19) rfl rfl ?_
                        refine x_zret rfl rfl (by decide) ?_
                        show jX m_X12_isUnknown 8 0 0 6 [(0, .ref 125), (1, .int v33)] [.int 1] _ 0 0 _
                        refine x_ifne (tgt := 22) rfl rfl (ti_ne jk_1 jk_0 (bn_t (by omega) ?_))
                        refine x_iconst (v := 0) rfl ki_0 ?_
                        refine x_zret rfl rfl (by decide) ?_
                        show jX m_X12_named 9 0 0 5 [(0, .ref 125), (1, .int v33)] [.int 0] _ 0 0 _
                        refine x_ifeq (tgt := 12) rfl rfl (ti_eq jk_0 jk_0 (br_t (by omega) ?_))
                        refine x_aloadn (x := 125) rfl rfl ?_
                        refine z_getR (N := 92) (b := 139) 12 29 rfl f_12_72 rfl J rfl 16029 ⟨rfl, rfl⟩ rfl ?_
                        refine x_iloadn (x := v33) rfl rfl ?_
                        refine z_iald (N := 600) rfl J rfl sg_139_0_600_1_0_1 rfl (by omega) (fun v55 qv55 ev55 => ?_)
                        refine x_iret rfl rfl ?_
                        show jX m_X12_kin 10 0 0 74 [(6, .int v28), (5, .int v21), (0, .ref 125), (1, .int a1), (2, .int a2), (3, .int a3), (4, .int a4)] [.int v55] _ 0 0 _
                        exact jX.sub jsb_n (ct_X12_kin_r125_74 hD hQ  v55 h (jr_of rfl (by omega)) J Sm)
                    ·
                      refine x_iconst (v := (-1)) rfl ki_m1 ?_
                      refine x_goto (tgt := 74) rfl rfl ?_
                      exact jX.sub jsb_n (ct_X12_kin_r125_100074 hD hQ  h J Sm)
                ·
                  exact jX.sub jsb_n (ct_X12_kin_r125_31 hD hQ  h J Sm)
            ·
              refine x_iconst (v := (-1)) rfl ki_m1 ?_
              refine x_iret rfl rfl ?_
              show jX m_X12_kin 10 0 0 11 [(0, .ref 125), (1, .int a1), (2, .int a2), (3, .int a3), (4, .int a4)] [.int (-1)] _ 0 0 _
              refine x_istore (ls' := [(5, .int (-1)), (0, .ref 125), (1, .int a1), (2, .int a2), (3, .int a3), (4, .int a4)]) rfl rfl rfl ?_
              refine x_iload (x := (-1)) rfl rfl ?_
              refine x_iconst (v := (-1)) rfl ki_m1 ?_
              refine x_iceq (tgt := 31) rfl rfl (ti_eq jk_m1 jk_m1 (br_t (by omega) ?_))
              exact jX.sub jsb_n (ct_X12_kin_r125_31 hD hQ  h J Sm)
        ·
          refine x_iconst (v := 2) rfl ki_2 ?_
          refine x_goto (tgt := 18) rfl rfl ?_
          refine x_iret rfl rfl ?_
          show jX m_X12_isMention 8 0 0 27 [(0, .ref 125), (1, .int a1)] [.int 2, .int v10] _ 0 0 _
          refine x_icge (tgt := 34) rfl rfl (ti_ge rfl jk_2 ⟨fun c56 => ?_, fun c56 => ?_⟩)
          ·
            refine x_iconst (v := 0) rfl ki_0 ?_
            refine x_zret rfl rfl (by decide) ?_
            show jX m_X12_soulAt 9 0 0 5 [(0, .ref 125), (1, .int a1), (2, .int a2)] [.int 0] _ 0 0 _
            refine x_ifeq (tgt := 15) rfl rfl (ti_eq jk_0 jk_0 (br_t (by omega) ?_))
            refine x_iconst (v := (-1)) rfl ki_m1 ?_
            refine x_iret rfl rfl ?_
            show jX m_X12_kin 10 0 0 11 [(0, .ref 125), (1, .int a1), (2, .int a2), (3, .int a3), (4, .int a4)] [.int (-1)] _ 0 0 _
            refine x_istore (ls' := [(5, .int (-1)), (0, .ref 125), (1, .int a1), (2, .int a2), (3, .int a3), (4, .int a4)]) rfl rfl rfl ?_
            refine x_iload (x := (-1)) rfl rfl ?_
            refine x_iconst (v := (-1)) rfl ki_m1 ?_
            refine x_iceq (tgt := 31) rfl rfl (ti_eq jk_m1 jk_m1 (br_t (by omega) ?_))
            exact jX.sub jsb_n (ct_X12_kin_r125_31 hD hQ  h J Sm)
          ·
            refine x_iconst (v := 1) rfl ki_1 ?_
            refine x_goto (tgt := 35) rfl rfl ?_
            refine x_zret rfl rfl (by decide) ?_
            show jX m_X12_soulAt 9 0 0 5 [(0, .ref 125), (1, .int a1), (2, .int a2)] [.int 1] _ 0 0 _
            refine x_ifeq (tgt := 15) rfl rfl (ti_eq jk_1 jk_0 (br_f (by omega) ?_))
            refine x_iloadn (x := a2) rfl rfl ?_
            refine x_inst (N := m_X12_isDay) (As := [.int a2]) (st := []) (d' := 2) (mc := 0) (ms := 0) (host := "") rfl t_X12_isDay ⟨Or.inl q_12_273, s_X12_isDay⟩ rfl (by decide) rfl rfl ⟨by decide, by decide⟩ (zc_X12_isDay (d := 1) rfl (fun v57 ev57 => ?_))
            show jX m_X12_soulAt 9 0 0 12 [(0, .ref 125), (1, .int a1), (2, .int a2)] [.int v57] _ 0 0 _
            refine x_ifne (tgt := 17) rfl rfl (ti_ne rfl jk_0 ⟨fun c58 => ?_, fun c58 => ?_⟩)
            ·
              refine x_aloadn (x := 125) rfl rfl ?_
              refine x_iloadn (x := a2) rfl rfl ?_
              refine x_inv (N := m_X12_find) (As := [.int a2]) (b := 125) (st := []) (d' := 8) (mc := 0) (ms := 0) (host := "") 12 rfl t_X12_find ⟨Or.inl q_12_393, i_X12_find.1, i_X12_find.2⟩ ⟨by decide, rfl⟩ (congrArg Prod.fst (J.1.1 125 (12, 92) rfl)) rfl (by decide) rfl rfl ⟨by decide, by decide⟩ (sf_X12_find_r125 (jr_of rfl (by omega)) hD J  (fun h J S59 => ?_))
              have Sm := jSm_tr rfl Sm S59
              show jX m_X12_soulAt 9 0 0 22 [(0, .ref 125), (1, .int a1), (2, .int a2)] [] _ 0 0 _
              refine x_aloadn (x := 125) rfl rfl ?_
              refine z_getR (N := 92) (b := 139) 12 29 rfl f_12_72 rfl J rfl 16029 ⟨rfl, rfl⟩ rfl ?_
              refine x_iloadn (x := a1) rfl rfl ?_
              refine z_iald (N := 600) rfl J rfl sg_139_0_600_1_0_1 rfl (by omega) (fun v60 qv60 ev60 => ?_)
              refine x_iret rfl rfl ?_
              show jX m_X12_kin 10 0 0 11 [(0, .ref 125), (1, .int a1), (2, .int a2), (3, .int a3), (4, .int a4)] [.int v60] _ 0 0 _
              refine x_istore (ls' := [(5, .int v60), (0, .ref 125), (1, .int a1), (2, .int a2), (3, .int a3), (4, .int a4)]) rfl rfl rfl ?_
              refine x_iload (x := v60) rfl rfl ?_
              refine x_iconst (v := (-1)) rfl ki_m1 ?_
              refine x_iceq (tgt := 31) rfl rfl (ti_eq rfl jk_m1 ⟨fun c61 => ?_, fun c61 => ?_⟩)
              ·
                exact jX.sub jsb_n (ct_X12_kin_r125_31 hD hQ  h J Sm)
              ·
                refine x_iloadn (x := a3) rfl rfl ?_
                refine z_i2l rfl rfl (fun v62 ev62 => ?_)
                refine x_lconst (v := 0) rfl kl_0 ?_
                refine x_ldc2 (v := 3) rfl z_12_195 ?_
                refine x_inst (N := m_X12_in) (As := [.long v62, .long 0, .long 3]) (st := []) (d' := 1) (mc := 0) (ms := 0) (host := "") rfl t_X12_in ⟨Or.inl q_12_188, s_X12_in⟩ rfl (by decide) rfl rfl ⟨by decide, by decide⟩ (zc_X12_in rfl jkl_0 jkl_3 (fun v63 ev63 => ?_))
                show jX m_X12_kin 10 0 0 28 [(5, .int v60), (0, .ref 125), (1, .int a1), (2, .int a2), (3, .int a3), (4, .int a4)] [.int v63] _ 0 0 _
                refine x_ifne (tgt := 33) rfl rfl (ti_ne rfl jk_0 ⟨fun c64 => ?_, fun c64 => ?_⟩)
                ·
                  refine x_iloadn (x := a3) rfl rfl ?_
                  refine x_iconst (v := 2) rfl ki_2 ?_
                  refine x_icge (tgt := 75) rfl rfl (ti_ge rfl jk_2 ⟨fun c65 => ?_, fun c65 => ?_⟩)
                  ·
                    refine x_iconst (v := 0) rfl ki_0 ?_
                    refine x_istore (ls' := [(6, .int 0), (5, .int v60), (0, .ref 125), (1, .int a1), (2, .int a2), (3, .int a3), (4, .int a4)]) rfl rfl rfl ?_
                    refine x_iconst (v := 0) rfl ki_0 ?_
                    refine x_istore (ls' := [(7, .int 0), (6, .int 0), (5, .int v60), (0, .ref 125), (1, .int a1), (2, .int a2), (3, .int a3), (4, .int a4)]) rfl rfl rfl ?_
                    exact jX.sub (jsb_c rfl (jsb_c rfl (jsb_c rfl (jsb_c rfl (jsb_c rfl (jsb_c rfl jsb_n)))))) (ct_X12_kin_r125_81 hD hQ  201 a3 a4 v60 0 0 v5 h (by have := jk_0; omega) (jr_of rfl (by omega)) (jr_of rfl (by omega)) (jr_of jk_0 (by omega)) (jr_of rfl (by omega)) (jmc S59 rfl qv5) J Sm)
                  ·
                    refine x_aloadn (x := 125) rfl rfl ?_
                    refine x_iload (x := v60) rfl rfl ?_
                    refine x_iconst (v := 0) rfl ki_0 ?_
                    refine x_ldcw (v := 146399) rfl z_12_392 ?_
                    refine x_inv (N := m_X12_mentionOf) (As := [.int v60, .int 0, .int 146399]) (b := 125) (st := []) (d' := 4) (mc := 0) (ms := 0) (host := "") 12 rfl t_X12_mentionOf ⟨Or.inl q_12_405, i_X12_mentionOf.1, i_X12_mentionOf.2⟩ ⟨by decide, rfl⟩ (congrArg Prod.fst (J.1.1 125 (12, 92) rfl)) rfl (by decide) rfl rfl ⟨by decide, by decide⟩ (sf_X12_mentionOf_r125 (jr_of rfl (by omega)) (jr_of jk_0 (by omega)) (jr_of jk_146399 (by omega)) hD J  (fun v67 h ev67 J S66 => ?_))
                    have Sm := jSm_tr rfl Sm S66
                    show jX m_X12_kin 10 0 0 48 [(5, .int v60), (0, .ref 125), (1, .int a1), (2, .int a2), (3, .int a3), (4, .int a4)] [.int v67] _ 0 0 _
                    refine x_istore (ls' := [(6, .int v67), (5, .int v60), (0, .ref 125), (1, .int a1), (2, .int a2), (3, .int a3), (4, .int a4)]) rfl rfl rfl ?_
                    refine x_iload (x := v67) rfl rfl ?_
                    refine x_iconst (v := (-1)) rfl ki_m1 ?_
                    refine x_icne (tgt := 60) rfl rfl (ti_ne rfl jk_m1 ⟨fun c68 => ?_, fun c68 => ?_⟩)
                    ·
                      refine x_aloadn (x := 125) rfl rfl ?_
                      refine x_iload (x := v67) rfl rfl ?_
                      refine x_iconst (v := 3) rfl ki_3 ?_
                      refine z_idiv rfl rfl jk_3 (by omega) (by omega) (fun v69 ev69 => ?_)
                      refine x_iconst (v := 3) rfl ki_3 ?_
                      refine z_imul rfl rfl jk_3 (by omega) (fun v70 ev70 => ?_)
                      refine x_iconst (v := 1) rfl ki_1 ?_
                      refine z_iadd rfl rfl jk_1 (by omega) (fun v71 ev71 => ?_)
                      refine x_iloadn (x := a3) rfl rfl ?_
                      refine z_iadd rfl rfl rfl (by omega) (fun v72 ev72 => ?_)
                      refine x_inv (N := m_X12_named) (As := [.int v72]) (b := 125) (st := []) (d' := 9) (mc := 0) (ms := 0) (host := "") 12 rfl t_X12_named ⟨Or.inl q_12_409, i_X12_named.1, i_X12_named.2⟩ ⟨by decide, rfl⟩ (congrArg Prod.fst (J.1.1 125 (12, 92) rfl)) rfl (by decide) rfl rfl ⟨by decide, by decide⟩ (jC.of rfl k_X12_named rfl ?_)
                      show jX m_X12_named 9 0 0 0 [(0, .ref 125), (1, .int v72)] [] _ 0 0 _
                      refine x_aloadn (x := 125) rfl rfl ?_
                      refine x_iloadn (x := v72) rfl rfl ?_
                      refine x_inv (N := m_X12_isUnknown) (As := [.int v72]) (b := 125) (st := []) (d' := 8) (mc := 0) (ms := 0) (host := "") 12 rfl t_X12_isUnknown ⟨Or.inl q_12_402, i_X12_isUnknown.1, i_X12_isUnknown.2⟩ ⟨by decide, rfl⟩ (congrArg Prod.fst (J.1.1 125 (12, 92) rfl)) rfl (by decide) rfl rfl ⟨by decide, by decide⟩ (jC.of rfl k_X12_isUnknown rfl ?_)
                      show jX m_X12_isUnknown 8 0 0 0 [(0, .ref 125), (1, .int v72)] [] _ 0 0 _
                      refine x_aloadn (x := 125) rfl rfl ?_
                      refine x_iloadn (x := v72) rfl rfl ?_
                      refine x_iconst (v := 0) rfl ki_0 ?_
                      refine x_inv (N := m_X12_isNamed) (As := [.int v72, .int 0]) (b := 125) (st := []) (d' := 7) (mc := 0) (ms := 0) (host := "") 12 rfl t_X12_isNamed ⟨Or.inl q_12_315, i_X12_isNamed.1, i_X12_isNamed.2⟩ ⟨by decide, rfl⟩ (congrArg Prod.fst (J.1.1 125 (12, 92) rfl)) rfl (by decide) rfl rfl ⟨by decide, by decide⟩ (jC.of rfl k_X12_isNamed rfl ?_)
                      show jX m_X12_isNamed 7 0 0 0 [(0, .ref 125), (1, .int v72), (2, .int 0)] [] _ 0 0 _
                      refine x_aloadn (x := 125) rfl rfl ?_
                      refine z_getR (N := 92) (b := 126) 12 2 rfl f_12_8 rfl J rfl 16002 ⟨rfl, rfl⟩ rfl ?_
                      refine x_aloadn (x := 125) rfl rfl ?_
                      refine x_iloadn (x := v72) rfl rfl ?_
                      refine x_iloadn (x := 0) rfl rfl ?_
                      refine x_inv (N := m_X12_nameAt) (As := [.int v72, .int 0]) (b := 125) (st := [.ref 126]) (d' := 6) (mc := 0) (ms := 0) (host := "") 12 rfl t_X12_nameAt ⟨Or.inl q_12_311, i_X12_nameAt.1, i_X12_nameAt.2⟩ ⟨by decide, rfl⟩ (congrArg Prod.fst (J.1.1 125 (12, 92) rfl)) rfl (by decide) rfl rfl ⟨by decide, by decide⟩ (jC.of rfl k_X12_nameAt rfl ?_)
                      show jX m_X12_nameAt 6 0 0 0 [(0, .ref 125), (1, .int v72), (2, .int 0)] [] _ 0 0 _
                      refine x_aloadn (x := 125) rfl rfl ?_
                      refine x_iloadn (x := v72) rfl rfl ?_
                      refine x_iconst (v := 3) rfl ki_3 ?_
                      refine z_idiv rfl rfl jk_3 (by omega) (by omega) (fun v73 ev73 => ?_)
                      refine x_inv (N := m_X12_at) (As := [.int v73]) (b := 125) (st := []) (d' := 5) (mc := 0) (ms := 0) (host := "") 12 rfl t_X12_at ⟨Or.inl q_12_254, i_X12_at.1, i_X12_at.2⟩ ⟨by decide, rfl⟩ (congrArg Prod.fst (J.1.1 125 (12, 92) rfl)) rfl (by decide) rfl rfl ⟨by decide, by decide⟩ (jC.of rfl k_X12_at rfl ?_)
                      show jX m_X12_at 5 0 0 0 [(0, .ref 125), (1, .int v73)] [] _ 0 0 _
                      refine x_bipush (v := 20) rfl kb_20 ?_
                      refine x_bipush (v := 90) rfl kb_90 ?_
                      refine x_iloadn (x := v73) rfl rfl ?_
                      refine z_imul rfl jk_90 rfl (by omega) (fun v74 ev74 => ?_)
                      refine z_iadd rfl jk_20 rfl (by omega) (fun v75 ev75 => ?_)
                      refine x_iret rfl rfl ?_
                      show jX m_X12_nameAt 6 0 0 7 [(0, .ref 125), (1, .int v72), (2, .int 0)] [.int v75] _ 0 0 _
                      refine x_bipush (v := 6) rfl kb_6 ?_
                      refine z_iadd rfl rfl jk_6 (by omega) (fun v76 ev76 => ?_)
                      refine x_bipush (v := 28) rfl kb_28 ?_
                      refine x_iloadn (x := v72) rfl rfl ?_
                      refine x_iconst (v := 3) rfl ki_3 ?_
                      refine z_irem rfl rfl jk_3 (by omega) (by omega) (fun v77 ev77 => ?_)
                      refine z_imul rfl jk_28 rfl (by omega) (fun v78 ev78 => ?_)
                      refine z_iadd rfl rfl rfl (by omega) (fun v79 ev79 => ?_)
                      refine x_bipush (v := 14) rfl kb_14 ?_
                      refine x_iloadn (x := 0) rfl rfl ?_
                      refine y_imul (v := 0) rfl (by decide) ?_
                      refine z_iadd rfl rfl jk_0 (by omega) (fun v80 ev80 => ?_)
                      have rnv80 := jnam (m := v72.toInt) (w := 0) (v := v80.toInt) (by omega) (by omega) (by omega)
                      refine x_iret rfl rfl ?_
                      show jX m_X12_isNamed 7 0 0 10 [(0, .ref 125), (1, .int v72), (2, .int 0)] [.int v80, .ref 126] _ 0 0 _
                      refine z_ialdU (N := 50660) (lo := 0) (hi := 12) rfl J rfl rfl (by omega) ((show (v80.toInt - 20) % 90 = 6 ∨ (v80.toInt - 20) % 90 = 34 ∨ (v80.toInt - 20) % 90 = 62 from by omega).elim (fun q => (jrg_w (jrg_c J sg_126_20_18020_90_6_7 rfl (by omega)) (by decide))) (fun q => q.elim (fun q => (jrg_w (jrg_c J sg_126_20_18020_90_34_35 rfl (by omega)) (by decide))) (fun q => (jrg_w (jrg_c J sg_126_20_18020_90_62_63 rfl (by omega)) (by decide))))) (fun v81 qv81 ev81 => ?_)
                      refine x_ifle (tgt := 18) rfl rfl (ti_le rfl jk_0 ⟨fun c82 => ?_, fun c82 => ?_⟩)
                      ·
                        refine x_iconst (v := 0) rfl ki_0 ?_
                        refine x_zret rfl rfl (by decide) ?_
                        show jX m_X12_isUnknown 8 0 0 6 [(0, .ref 125), (1, .int v72)] [.int 0] _ 0 0 _
                        refine x_ifne (tgt := 22) rfl rfl (ti_ne jk_0 jk_0 (bn_f (by omega) ?_))
                        refine x_aloadn (x := 125) rfl rfl ?_
                        refine x_iloadn (x := v72) rfl rfl ?_
                        refine x_iconst (v := 1) rfl ki_1 ?_
                        refine x_inv (N := m_X12_isNamed) (As := [.int v72, .int 1]) (b := 125) (st := []) (d' := 7) (mc := 0) (ms := 0) (host := "") 12 rfl t_X12_isNamed ⟨Or.inl q_12_315, i_X12_isNamed.1, i_X12_isNamed.2⟩ ⟨by decide, rfl⟩ (congrArg Prod.fst (J.1.1 125 (12, 92) rfl)) rfl (by decide) rfl rfl ⟨by decide, by decide⟩ (jC.of rfl k_X12_isNamed rfl ?_)
                        show jX m_X12_isNamed 7 0 0 0 [(0, .ref 125), (1, .int v72), (2, .int 1)] [] _ 0 0 _
                        refine x_aloadn (x := 125) rfl rfl ?_
                        refine z_getR (N := 92) (b := 126) 12 2 rfl f_12_8 rfl J rfl 16002 ⟨rfl, rfl⟩ rfl ?_
                        refine x_aloadn (x := 125) rfl rfl ?_
                        refine x_iloadn (x := v72) rfl rfl ?_
                        refine x_iloadn (x := 1) rfl rfl ?_
                        refine x_inv (N := m_X12_nameAt) (As := [.int v72, .int 1]) (b := 125) (st := [.ref 126]) (d' := 6) (mc := 0) (ms := 0) (host := "") 12 rfl t_X12_nameAt ⟨Or.inl q_12_311, i_X12_nameAt.1, i_X12_nameAt.2⟩ ⟨by decide, rfl⟩ (congrArg Prod.fst (J.1.1 125 (12, 92) rfl)) rfl (by decide) rfl rfl ⟨by decide, by decide⟩ (jC.of rfl k_X12_nameAt rfl ?_)
                        show jX m_X12_nameAt 6 0 0 0 [(0, .ref 125), (1, .int v72), (2, .int 1)] [] _ 0 0 _
                        refine x_aloadn (x := 125) rfl rfl ?_
                        refine x_iloadn (x := v72) rfl rfl ?_
                        refine x_iconst (v := 3) rfl ki_3 ?_
                        refine z_idiv rfl rfl jk_3 (by omega) (by omega) (fun v83 ev83 => ?_)
                        refine x_inv (N := m_X12_at) (As := [.int v83]) (b := 125) (st := []) (d' := 5) (mc := 0) (ms := 0) (host := "") 12 rfl t_X12_at ⟨Or.inl q_12_254, i_X12_at.1, i_X12_at.2⟩ ⟨by decide, rfl⟩ (congrArg Prod.fst (J.1.1 125 (12, 92) rfl)) rfl (by decide) rfl rfl ⟨by decide, by decide⟩ (jC.of rfl k_X12_at rfl ?_)
                        show jX m_X12_at 5 0 0 0 [(0, .ref 125), (1, .int v83)] [] _ 0 0 _
                        refine x_bipush (v := 20) rfl kb_20 ?_
                        refine x_bipush (v := 90) rfl kb_90 ?_
                        refine x_iloadn (x := v83) rfl rfl ?_
                        refine z_imul rfl jk_90 rfl (by omega) (fun v84 ev84 => ?_)
                        refine z_iadd rfl jk_20 rfl (by omega) (fun v85 ev85 => ?_)
                        refine x_iret rfl rfl ?_
                        show jX m_X12_nameAt 6 0 0 7 [(0, .ref 125), (1, .int v72), (2, .int 1)] [.int v85] _ 0 0 _
                        refine x_bipush (v := 6) rfl kb_6 ?_
                        refine z_iadd rfl rfl jk_6 (by omega) (fun v86 ev86 => ?_)
                        refine x_bipush (v := 28) rfl kb_28 ?_
                        refine x_iloadn (x := v72) rfl rfl ?_
                        refine x_iconst (v := 3) rfl ki_3 ?_
                        refine z_irem rfl rfl jk_3 (by omega) (by omega) (fun v87 ev87 => ?_)
                        refine z_imul rfl jk_28 rfl (by omega) (fun v88 ev88 => ?_)
                        refine z_iadd rfl rfl rfl (by omega) (fun v89 ev89 => ?_)
                        refine x_bipush (v := 14) rfl kb_14 ?_
                        refine x_iloadn (x := 1) rfl rfl ?_
                        refine y_imul (v := 14) rfl (by decide) ?_
                        refine z_iadd rfl rfl jk_14 (by omega) (fun v90 ev90 => ?_)
                        have rnv90 := jnam (m := v72.toInt) (w := 1) (v := v90.toInt) (by omega) (by omega) (by omega)
                        refine x_iret rfl rfl ?_
                        show jX m_X12_isNamed 7 0 0 10 [(0, .ref 125), (1, .int v72), (2, .int 1)] [.int v90, .ref 126] _ 0 0 _
                        refine z_ialdU (N := 50660) (lo := 0) (hi := 12) rfl J rfl rfl (by omega) ((show (v90.toInt - 20) % 90 = 20 ∨ (v90.toInt - 20) % 90 = 48 ∨ (v90.toInt - 20) % 90 = 76 from by omega).elim (fun q => (jrg_w (jrg_c J sg_126_20_18020_90_20_21 rfl (by omega)) (by decide))) (fun q => q.elim (fun q => (jrg_w (jrg_c J sg_126_20_18020_90_48_49 rfl (by omega)) (by decide))) (fun q => (jrg_w (jrg_c J sg_126_20_18020_90_76_77 rfl (by omega)) (by decide))))) (fun v91 qv91 ev91 => ?_)
                        refine x_ifle (tgt := 18) rfl rfl (ti_le rfl jk_0 ⟨fun c92 => ?_, fun c92 => ?_⟩)
                        ·
                          refine x_iconst (v := 0) rfl ki_0 ?_
                          refine x_zret rfl rfl (by decide) ?_
                          show jX m_X12_isUnknown 8 0 0 15 [(0, .ref 125), (1, .int v72)] [.int 0] _ 0 0 _
                          refine x_ifne (tgt := 22) rfl rfl (ti_ne jk_0 jk_0 (bn_f (by omega) ?_))
                          refine x_iconst (v := 1) rfl ki_1 ?_
                          refine x_goto (tgt := 23) rfl rfl ?_
                          refine x_zret rfl rfl (by decide) ?_
                          show jX m_X12_named 9 0 0 5 [(0, .ref 125), (1, .int v72)] [.int 1] _ 0 0 _
                          refine x_ifeq (tgt := 12) rfl rfl (ti_eq jk_1 jk_0 (br_f (by omega) ?_))
                          refine x_iconst (v := (-1)) rfl ki_m1 ?_
                          refine x_goto (tgt := 18) rfl rfl ?_
                          refine x_iret rfl rfl ?_
                          show jX m_X12_kin 10 0 0 74 [(6, .int v67), (5, .int v60), (0, .ref 125), (1, .int a1), (2, .int a2), (3, .int a3), (4, .int a4)] [.int (-1)] _ 0 0 _
                          exact jX.sub jsb_n (ct_X12_kin_r125_100074 hD hQ  h J Sm)
                        ·
                          refine x_iconst (v := 1) rfl ki_1 ?_
                          refine x_goto (tgt := 19) rfl rfl ?_
                          refine x_zret rfl rfl (by decide) ?_
                          show jX m_X12_isUnknown 8 0 0 15 [(0, .ref 125), (1, .int v72)] [.int 1] _ 0 0 _
                          refine x_ifne (tgt := 22) rfl rfl (ti_ne jk_1 jk_0 (bn_t (by omega) ?_))
                          refine x_iconst (v := 0) rfl ki_0 ?_
                          refine x_zret rfl rfl (by decide) ?_
                          show jX m_X12_named 9 0 0 5 [(0, .ref 125), (1, .int v72)] [.int 0] _ 0 0 _
                          refine x_ifeq (tgt := 12) rfl rfl (ti_eq jk_0 jk_0 (br_t (by omega) ?_))
                          refine x_aloadn (x := 125) rfl rfl ?_
                          refine z_getR (N := 92) (b := 139) 12 29 rfl f_12_72 rfl J rfl 16029 ⟨rfl, rfl⟩ rfl ?_
                          refine x_iloadn (x := v72) rfl rfl ?_
                          refine z_iald (N := 600) rfl J rfl sg_139_0_600_1_0_1 rfl (by omega) (fun v93 qv93 ev93 => ?_)
                          refine x_iret rfl rfl ?_
                          show jX m_X12_kin 10 0 0 74 [(6, .int v67), (5, .int v60), (0, .ref 125), (1, .int a1), (2, .int a2), (3, .int a3), (4, .int a4)] [.int v93] _ 0 0 _
                          exact jX.sub jsb_n (ct_X12_kin_r125_74 hD hQ  v93 h (jr_of rfl (by omega)) J Sm)
                      ·
                        refine x_iconst (v := 1) rfl ki_1 ?_
                        refine x_goto (tgt := 19) rfl rfl ?_
                        refine x_zret rfl rfl (by decide) ?_
                        show jX m_X12_isUnknown 8 0 0 6 [(0, .ref 125), (1, .int v72)] [.int 1] _ 0 0 _
                        refine x_ifne (tgt := 22) rfl rfl (ti_ne jk_1 jk_0 (bn_t (by omega) ?_))
                        refine x_iconst (v := 0) rfl ki_0 ?_
                        refine x_zret rfl rfl (by decide) ?_
                        show jX m_X12_named 9 0 0 5 [(0, .ref 125), (1, .int v72)] [.int 0] _ 0 0 _
                        refine x_ifeq (tgt := 12) rfl rfl (ti_eq jk_0 jk_0 (br_t (by omega) ?_))
                        refine x_aloadn (x := 125) rfl rfl ?_
                        refine z_getR (N := 92) (b := 139) 12 29 rfl f_12_72 rfl J rfl 16029 ⟨rfl, rfl⟩ rfl ?_
                        refine x_iloadn (x := v72) rfl rfl ?_
                        refine z_iald (N := 600) rfl J rfl sg_139_0_600_1_0_1 rfl (by omega) (fun v94 qv94 ev94 => ?_)
                        refine x_iret rfl rfl ?_
                        show jX m_X12_kin 10 0 0 74 [(6, .int v67), (5, .int v60), (0, .ref 125), (1, .int a1), (2, .int a2), (3, .int a3), (4, .int a4)] [.int v94] _ 0 0 _
                        exact jX.sub jsb_n (ct_X12_kin_r125_74 hD hQ  v94 h (jr_of rfl (by omega)) J Sm)
                    ·
                      refine x_iconst (v := (-1)) rfl ki_m1 ?_
                      refine x_goto (tgt := 74) rfl rfl ?_
                      exact jX.sub jsb_n (ct_X12_kin_r125_100074 hD hQ  h J Sm)
                ·
                  exact jX.sub jsb_n (ct_X12_kin_r125_31 hD hQ  h J Sm)
            ·
              refine x_iconst (v := (-1)) rfl ki_m1 ?_
              refine x_iret rfl rfl ?_
              show jX m_X12_kin 10 0 0 11 [(0, .ref 125), (1, .int a1), (2, .int a2), (3, .int a3), (4, .int a4)] [.int (-1)] _ 0 0 _
              refine x_istore (ls' := [(5, .int (-1)), (0, .ref 125), (1, .int a1), (2, .int a2), (3, .int a3), (4, .int a4)]) rfl rfl rfl ?_
              refine x_iload (x := (-1)) rfl rfl ?_
              refine x_iconst (v := (-1)) rfl ki_m1 ?_
              refine x_iceq (tgt := 31) rfl rfl (ti_eq jk_m1 jk_m1 (br_t (by omega) ?_))
              exact jX.sub jsb_n (ct_X12_kin_r125_31 hD hQ  h J Sm)
      ·
        refine x_iconst (v := 3) rfl ki_3 ?_
        refine x_goto (tgt := 18) rfl rfl ?_
        refine x_iret rfl rfl ?_
        show jX m_X12_isMention 8 0 0 27 [(0, .ref 125), (1, .int a1)] [.int 3, .int v10] _ 0 0 _
        refine x_icge (tgt := 34) rfl rfl (ti_ge rfl jk_3 (br_f (by omega) ?_))
        refine x_iconst (v := 1) rfl ki_1 ?_
        refine x_goto (tgt := 35) rfl rfl ?_
        refine x_zret rfl rfl (by decide) ?_
        show jX m_X12_soulAt 9 0 0 5 [(0, .ref 125), (1, .int a1), (2, .int a2)] [.int 1] _ 0 0 _
        refine x_ifeq (tgt := 15) rfl rfl (ti_eq jk_1 jk_0 (br_f (by omega) ?_))
        refine x_iloadn (x := a2) rfl rfl ?_
        refine x_inst (N := m_X12_isDay) (As := [.int a2]) (st := []) (d' := 2) (mc := 0) (ms := 0) (host := "") rfl t_X12_isDay ⟨Or.inl q_12_273, s_X12_isDay⟩ rfl (by decide) rfl rfl ⟨by decide, by decide⟩ (zc_X12_isDay (d := 1) rfl (fun v95 ev95 => ?_))
        show jX m_X12_soulAt 9 0 0 12 [(0, .ref 125), (1, .int a1), (2, .int a2)] [.int v95] _ 0 0 _
        refine x_ifne (tgt := 17) rfl rfl (ti_ne rfl jk_0 ⟨fun c96 => ?_, fun c96 => ?_⟩)
        ·
          refine x_aloadn (x := 125) rfl rfl ?_
          refine x_iloadn (x := a2) rfl rfl ?_
          refine x_inv (N := m_X12_find) (As := [.int a2]) (b := 125) (st := []) (d' := 8) (mc := 0) (ms := 0) (host := "") 12 rfl t_X12_find ⟨Or.inl q_12_393, i_X12_find.1, i_X12_find.2⟩ ⟨by decide, rfl⟩ (congrArg Prod.fst (J.1.1 125 (12, 92) rfl)) rfl (by decide) rfl rfl ⟨by decide, by decide⟩ (sf_X12_find_r125 (jr_of rfl (by omega)) hD J  (fun h J S97 => ?_))
          have Sm := jSm_tr rfl Sm S97
          show jX m_X12_soulAt 9 0 0 22 [(0, .ref 125), (1, .int a1), (2, .int a2)] [] _ 0 0 _
          refine x_aloadn (x := 125) rfl rfl ?_
          refine z_getR (N := 92) (b := 139) 12 29 rfl f_12_72 rfl J rfl 16029 ⟨rfl, rfl⟩ rfl ?_
          refine x_iloadn (x := a1) rfl rfl ?_
          refine z_iald (N := 600) rfl J rfl sg_139_0_600_1_0_1 rfl (by omega) (fun v98 qv98 ev98 => ?_)
          refine x_iret rfl rfl ?_
          show jX m_X12_kin 10 0 0 11 [(0, .ref 125), (1, .int a1), (2, .int a2), (3, .int a3), (4, .int a4)] [.int v98] _ 0 0 _
          refine x_istore (ls' := [(5, .int v98), (0, .ref 125), (1, .int a1), (2, .int a2), (3, .int a3), (4, .int a4)]) rfl rfl rfl ?_
          refine x_iload (x := v98) rfl rfl ?_
          refine x_iconst (v := (-1)) rfl ki_m1 ?_
          refine x_iceq (tgt := 31) rfl rfl (ti_eq rfl jk_m1 ⟨fun c99 => ?_, fun c99 => ?_⟩)
          ·
            exact jX.sub jsb_n (ct_X12_kin_r125_31 hD hQ  h J Sm)
          ·
            refine x_iloadn (x := a3) rfl rfl ?_
            refine z_i2l rfl rfl (fun v100 ev100 => ?_)
            refine x_lconst (v := 0) rfl kl_0 ?_
            refine x_ldc2 (v := 3) rfl z_12_195 ?_
            refine x_inst (N := m_X12_in) (As := [.long v100, .long 0, .long 3]) (st := []) (d' := 1) (mc := 0) (ms := 0) (host := "") rfl t_X12_in ⟨Or.inl q_12_188, s_X12_in⟩ rfl (by decide) rfl rfl ⟨by decide, by decide⟩ (zc_X12_in rfl jkl_0 jkl_3 (fun v101 ev101 => ?_))
            show jX m_X12_kin 10 0 0 28 [(5, .int v98), (0, .ref 125), (1, .int a1), (2, .int a2), (3, .int a3), (4, .int a4)] [.int v101] _ 0 0 _
            refine x_ifne (tgt := 33) rfl rfl (ti_ne rfl jk_0 ⟨fun c102 => ?_, fun c102 => ?_⟩)
            ·
              refine x_iloadn (x := a3) rfl rfl ?_
              refine x_iconst (v := 2) rfl ki_2 ?_
              refine x_icge (tgt := 75) rfl rfl (ti_ge rfl jk_2 ⟨fun c103 => ?_, fun c103 => ?_⟩)
              ·
                refine x_iconst (v := 0) rfl ki_0 ?_
                refine x_istore (ls' := [(6, .int 0), (5, .int v98), (0, .ref 125), (1, .int a1), (2, .int a2), (3, .int a3), (4, .int a4)]) rfl rfl rfl ?_
                refine x_iconst (v := 0) rfl ki_0 ?_
                refine x_istore (ls' := [(7, .int 0), (6, .int 0), (5, .int v98), (0, .ref 125), (1, .int a1), (2, .int a2), (3, .int a3), (4, .int a4)]) rfl rfl rfl ?_
                exact jX.sub (jsb_c rfl (jsb_c rfl (jsb_c rfl (jsb_c rfl (jsb_c rfl (jsb_c rfl jsb_n)))))) (ct_X12_kin_r125_81 hD hQ  201 a3 a4 v98 0 0 v5 h (by have := jk_0; omega) (jr_of rfl (by omega)) (jr_of rfl (by omega)) (jr_of jk_0 (by omega)) (jr_of rfl (by omega)) (jmc S97 rfl qv5) J Sm)
              ·
                refine x_aloadn (x := 125) rfl rfl ?_
                refine x_iload (x := v98) rfl rfl ?_
                refine x_iconst (v := 0) rfl ki_0 ?_
                refine x_ldcw (v := 146399) rfl z_12_392 ?_
                refine x_inv (N := m_X12_mentionOf) (As := [.int v98, .int 0, .int 146399]) (b := 125) (st := []) (d' := 4) (mc := 0) (ms := 0) (host := "") 12 rfl t_X12_mentionOf ⟨Or.inl q_12_405, i_X12_mentionOf.1, i_X12_mentionOf.2⟩ ⟨by decide, rfl⟩ (congrArg Prod.fst (J.1.1 125 (12, 92) rfl)) rfl (by decide) rfl rfl ⟨by decide, by decide⟩ (sf_X12_mentionOf_r125 (jr_of rfl (by omega)) (jr_of jk_0 (by omega)) (jr_of jk_146399 (by omega)) hD J  (fun v105 h ev105 J S104 => ?_))
                have Sm := jSm_tr rfl Sm S104
                show jX m_X12_kin 10 0 0 48 [(5, .int v98), (0, .ref 125), (1, .int a1), (2, .int a2), (3, .int a3), (4, .int a4)] [.int v105] _ 0 0 _
                refine x_istore (ls' := [(6, .int v105), (5, .int v98), (0, .ref 125), (1, .int a1), (2, .int a2), (3, .int a3), (4, .int a4)]) rfl rfl rfl ?_
                refine x_iload (x := v105) rfl rfl ?_
                refine x_iconst (v := (-1)) rfl ki_m1 ?_
                refine x_icne (tgt := 60) rfl rfl (ti_ne rfl jk_m1 ⟨fun c106 => ?_, fun c106 => ?_⟩)
                ·
                  refine x_aloadn (x := 125) rfl rfl ?_
                  refine x_iload (x := v105) rfl rfl ?_
                  refine x_iconst (v := 3) rfl ki_3 ?_
                  refine z_idiv rfl rfl jk_3 (by omega) (by omega) (fun v107 ev107 => ?_)
                  refine x_iconst (v := 3) rfl ki_3 ?_
                  refine z_imul rfl rfl jk_3 (by omega) (fun v108 ev108 => ?_)
                  refine x_iconst (v := 1) rfl ki_1 ?_
                  refine z_iadd rfl rfl jk_1 (by omega) (fun v109 ev109 => ?_)
                  refine x_iloadn (x := a3) rfl rfl ?_
                  refine z_iadd rfl rfl rfl (by omega) (fun v110 ev110 => ?_)
                  refine x_inv (N := m_X12_named) (As := [.int v110]) (b := 125) (st := []) (d' := 9) (mc := 0) (ms := 0) (host := "") 12 rfl t_X12_named ⟨Or.inl q_12_409, i_X12_named.1, i_X12_named.2⟩ ⟨by decide, rfl⟩ (congrArg Prod.fst (J.1.1 125 (12, 92) rfl)) rfl (by decide) rfl rfl ⟨by decide, by decide⟩ (jC.of rfl k_X12_named rfl ?_)
                  show jX m_X12_named 9 0 0 0 [(0, .ref 125), (1, .int v110)] [] _ 0 0 _
                  refine x_aloadn (x := 125) rfl rfl ?_
                  refine x_iloadn (x := v110) rfl rfl ?_
                  refine x_inv (N := m_X12_isUnknown) (As := [.int v110]) (b := 125) (st := []) (d' := 8) (mc := 0) (ms := 0) (host := "") 12 rfl t_X12_isUnknown ⟨Or.inl q_12_402, i_X12_isUnknown.1, i_X12_isUnknown.2⟩ ⟨by decide, rfl⟩ (congrArg Prod.fst (J.1.1 125 (12, 92) rfl)) rfl (by decide) rfl rfl ⟨by decide, by decide⟩ (jC.of rfl k_X12_isUnknown rfl ?_)
                  show jX m_X12_isUnknown 8 0 0 0 [(0, .ref 125), (1, .int v110)] [] _ 0 0 _
                  refine x_aloadn (x := 125) rfl rfl ?_
                  refine x_iloadn (x := v110) rfl rfl ?_
                  refine x_iconst (v := 0) rfl ki_0 ?_
                  refine x_inv (N := m_X12_isNamed) (As := [.int v110, .int 0]) (b := 125) (st := []) (d' := 7) (mc := 0) (ms := 0) (host := "") 12 rfl t_X12_isNamed ⟨Or.inl q_12_315, i_X12_isNamed.1, i_X12_isNamed.2⟩ ⟨by decide, rfl⟩ (congrArg Prod.fst (J.1.1 125 (12, 92) rfl)) rfl (by decide) rfl rfl ⟨by decide, by decide⟩ (jC.of rfl k_X12_isNamed rfl ?_)
                  show jX m_X12_isNamed 7 0 0 0 [(0, .ref 125), (1, .int v110), (2, .int 0)] [] _ 0 0 _
                  refine x_aloadn (x := 125) rfl rfl ?_
                  refine z_getR (N := 92) (b := 126) 12 2 rfl f_12_8 rfl J rfl 16002 ⟨rfl, rfl⟩ rfl ?_
                  refine x_aloadn (x := 125) rfl rfl ?_
                  refine x_iloadn (x := v110) rfl rfl ?_
                  refine x_iloadn (x := 0) rfl rfl ?_
                  refine x_inv (N := m_X12_nameAt) (As := [.int v110, .int 0]) (b := 125) (st := [.ref 126]) (d' := 6) (mc := 0) (ms := 0) (host := "") 12 rfl t_X12_nameAt ⟨Or.inl q_12_311, i_X12_nameAt.1, i_X12_nameAt.2⟩ ⟨by decide, rfl⟩ (congrArg Prod.fst (J.1.1 125 (12, 92) rfl)) rfl (by decide) rfl rfl ⟨by decide, by decide⟩ (jC.of rfl k_X12_nameAt rfl ?_)
                  show jX m_X12_nameAt 6 0 0 0 [(0, .ref 125), (1, .int v110), (2, .int 0)] [] _ 0 0 _
                  refine x_aloadn (x := 125) rfl rfl ?_
                  refine x_iloadn (x := v110) rfl rfl ?_
                  refine x_iconst (v := 3) rfl ki_3 ?_
                  refine z_idiv rfl rfl jk_3 (by omega) (by omega) (fun v111 ev111 => ?_)
                  refine x_inv (N := m_X12_at) (As := [.int v111]) (b := 125) (st := []) (d' := 5) (mc := 0) (ms := 0) (host := "") 12 rfl t_X12_at ⟨Or.inl q_12_254, i_X12_at.1, i_X12_at.2⟩ ⟨by decide, rfl⟩ (congrArg Prod.fst (J.1.1 125 (12, 92) rfl)) rfl (by decide) rfl rfl ⟨by decide, by decide⟩ (jC.of rfl k_X12_at rfl ?_)
                  show jX m_X12_at 5 0 0 0 [(0, .ref 125), (1, .int v111)] [] _ 0 0 _
                  refine x_bipush (v := 20) rfl kb_20 ?_
                  refine x_bipush (v := 90) rfl kb_90 ?_
                  refine x_iloadn (x := v111) rfl rfl ?_
                  refine z_imul rfl jk_90 rfl (by omega) (fun v112 ev112 => ?_)
                  refine z_iadd rfl jk_20 rfl (by omega) (fun v113 ev113 => ?_)
                  refine x_iret rfl rfl ?_
                  show jX m_X12_nameAt 6 0 0 7 [(0, .ref 125), (1, .int v110), (2, .int 0)] [.int v113] _ 0 0 _
                  refine x_bipush (v := 6) rfl kb_6 ?_
                  refine z_iadd rfl rfl jk_6 (by omega) (fun v114 ev114 => ?_)
                  refine x_bipush (v := 28) rfl kb_28 ?_
                  refine x_iloadn (x := v110) rfl rfl ?_
                  refine x_iconst (v := 3) rfl ki_3 ?_
                  refine z_irem rfl rfl jk_3 (by omega) (by omega) (fun v115 ev115 => ?_)
                  refine z_imul rfl jk_28 rfl (by omega) (fun v116 ev116 => ?_)
                  refine z_iadd rfl rfl rfl (by omega) (fun v117 ev117 => ?_)
                  refine x_bipush (v := 14) rfl kb_14 ?_
                  refine x_iloadn (x := 0) rfl rfl ?_
                  refine y_imul (v := 0) rfl (by decide) ?_
                  refine z_iadd rfl rfl jk_0 (by omega) (fun v118 ev118 => ?_)
                  have rnv118 := jnam (m := v110.toInt) (w := 0) (v := v118.toInt) (by omega) (by omega) (by omega)
                  refine x_iret rfl rfl ?_
                  show jX m_X12_isNamed 7 0 0 10 [(0, .ref 125), (1, .int v110), (2, .int 0)] [.int v118, .ref 126] _ 0 0 _
                  refine z_ialdU (N := 50660) (lo := 0) (hi := 12) rfl J rfl rfl (by omega) ((show (v118.toInt - 20) % 90 = 6 ∨ (v118.toInt - 20) % 90 = 34 ∨ (v118.toInt - 20) % 90 = 62 from by omega).elim (fun q => (jrg_w (jrg_c J sg_126_20_18020_90_6_7 rfl (by omega)) (by decide))) (fun q => q.elim (fun q => (jrg_w (jrg_c J sg_126_20_18020_90_34_35 rfl (by omega)) (by decide))) (fun q => (jrg_w (jrg_c J sg_126_20_18020_90_62_63 rfl (by omega)) (by decide))))) (fun v119 qv119 ev119 => ?_)
                  refine x_ifle (tgt := 18) rfl rfl (ti_le rfl jk_0 ⟨fun c120 => ?_, fun c120 => ?_⟩)
                  ·
                    refine x_iconst (v := 0) rfl ki_0 ?_
                    refine x_zret rfl rfl (by decide) ?_
                    show jX m_X12_isUnknown 8 0 0 6 [(0, .ref 125), (1, .int v110)] [.int 0] _ 0 0 _
                    refine x_ifne (tgt := 22) rfl rfl (ti_ne jk_0 jk_0 (bn_f (by omega) ?_))
                    refine x_aloadn (x := 125) rfl rfl ?_
                    refine x_iloadn (x := v110) rfl rfl ?_
                    refine x_iconst (v := 1) rfl ki_1 ?_
                    refine x_inv (N := m_X12_isNamed) (As := [.int v110, .int 1]) (b := 125) (st := []) (d' := 7) (mc := 0) (ms := 0) (host := "") 12 rfl t_X12_isNamed ⟨Or.inl q_12_315, i_X12_isNamed.1, i_X12_isNamed.2⟩ ⟨by decide, rfl⟩ (congrArg Prod.fst (J.1.1 125 (12, 92) rfl)) rfl (by decide) rfl rfl ⟨by decide, by decide⟩ (jC.of rfl k_X12_isNamed rfl ?_)
                    show jX m_X12_isNamed 7 0 0 0 [(0, .ref 125), (1, .int v110), (2, .int 1)] [] _ 0 0 _
                    refine x_aloadn (x := 125) rfl rfl ?_
                    refine z_getR (N := 92) (b := 126) 12 2 rfl f_12_8 rfl J rfl 16002 ⟨rfl, rfl⟩ rfl ?_
                    refine x_aloadn (x := 125) rfl rfl ?_
                    refine x_iloadn (x := v110) rfl rfl ?_
                    refine x_iloadn (x := 1) rfl rfl ?_
                    refine x_inv (N := m_X12_nameAt) (As := [.int v110, .int 1]) (b := 125) (st := [.ref 126]) (d' := 6) (mc := 0) (ms := 0) (host := "") 12 rfl t_X12_nameAt ⟨Or.inl q_12_311, i_X12_nameAt.1, i_X12_nameAt.2⟩ ⟨by decide, rfl⟩ (congrArg Prod.fst (J.1.1 125 (12, 92) rfl)) rfl (by decide) rfl rfl ⟨by decide, by decide⟩ (jC.of rfl k_X12_nameAt rfl ?_)
                    show jX m_X12_nameAt 6 0 0 0 [(0, .ref 125), (1, .int v110), (2, .int 1)] [] _ 0 0 _
                    refine x_aloadn (x := 125) rfl rfl ?_
                    refine x_iloadn (x := v110) rfl rfl ?_
                    refine x_iconst (v := 3) rfl ki_3 ?_
                    refine z_idiv rfl rfl jk_3 (by omega) (by omega) (fun v121 ev121 => ?_)
                    refine x_inv (N := m_X12_at) (As := [.int v121]) (b := 125) (st := []) (d' := 5) (mc := 0) (ms := 0) (host := "") 12 rfl t_X12_at ⟨Or.inl q_12_254, i_X12_at.1, i_X12_at.2⟩ ⟨by decide, rfl⟩ (congrArg Prod.fst (J.1.1 125 (12, 92) rfl)) rfl (by decide) rfl rfl ⟨by decide, by decide⟩ (jC.of rfl k_X12_at rfl ?_)
                    show jX m_X12_at 5 0 0 0 [(0, .ref 125), (1, .int v121)] [] _ 0 0 _
                    refine x_bipush (v := 20) rfl kb_20 ?_
                    refine x_bipush (v := 90) rfl kb_90 ?_
                    refine x_iloadn (x := v121) rfl rfl ?_
                    refine z_imul rfl jk_90 rfl (by omega) (fun v122 ev122 => ?_)
                    refine z_iadd rfl jk_20 rfl (by omega) (fun v123 ev123 => ?_)
                    refine x_iret rfl rfl ?_
                    show jX m_X12_nameAt 6 0 0 7 [(0, .ref 125), (1, .int v110), (2, .int 1)] [.int v123] _ 0 0 _
                    refine x_bipush (v := 6) rfl kb_6 ?_
                    refine z_iadd rfl rfl jk_6 (by omega) (fun v124 ev124 => ?_)
                    refine x_bipush (v := 28) rfl kb_28 ?_
                    refine x_iloadn (x := v110) rfl rfl ?_
                    refine x_iconst (v := 3) rfl ki_3 ?_
                    refine z_irem rfl rfl jk_3 (by omega) (by omega) (fun v125 ev125 => ?_)
                    refine z_imul rfl jk_28 rfl (by omega) (fun v126 ev126 => ?_)
                    refine z_iadd rfl rfl rfl (by omega) (fun v127 ev127 => ?_)
                    refine x_bipush (v := 14) rfl kb_14 ?_
                    refine x_iloadn (x := 1) rfl rfl ?_
                    refine y_imul (v := 14) rfl (by decide) ?_
                    refine z_iadd rfl rfl jk_14 (by omega) (fun v128 ev128 => ?_)
                    have rnv128 := jnam (m := v110.toInt) (w := 1) (v := v128.toInt) (by omega) (by omega) (by omega)
                    refine x_iret rfl rfl ?_
                    show jX m_X12_isNamed 7 0 0 10 [(0, .ref 125), (1, .int v110), (2, .int 1)] [.int v128, .ref 126] _ 0 0 _
                    refine z_ialdU (N := 50660) (lo := 0) (hi := 12) rfl J rfl rfl (by omega) ((show (v128.toInt - 20) % 90 = 20 ∨ (v128.toInt - 20) % 90 = 48 ∨ (v128.toInt - 20) % 90 = 76 from by omega).elim (fun q => (jrg_w (jrg_c J sg_126_20_18020_90_20_21 rfl (by omega)) (by decide))) (fun q => q.elim (fun q => (jrg_w (jrg_c J sg_126_20_18020_90_48_49 rfl (by omega)) (by decide))) (fun q => (jrg_w (jrg_c J sg_126_20_18020_90_76_77 rfl (by omega)) (by decide))))) (fun v129 qv129 ev129 => ?_)
                    refine x_ifle (tgt := 18) rfl rfl (ti_le rfl jk_0 ⟨fun c130 => ?_, fun c130 => ?_⟩)
                    ·
                      refine x_iconst (v := 0) rfl ki_0 ?_
                      refine x_zret rfl rfl (by decide) ?_
                      show jX m_X12_isUnknown 8 0 0 15 [(0, .ref 125), (1, .int v110)] [.int 0] _ 0 0 _
                      refine x_ifne (tgt := 22) rfl rfl (ti_ne jk_0 jk_0 (bn_f (by omega) ?_))
                      refine x_iconst (v := 1) rfl ki_1 ?_
                      refine x_goto (tgt := 23) rfl rfl ?_
                      refine x_zret rfl rfl (by decide) ?_
                      show jX m_X12_named 9 0 0 5 [(0, .ref 125), (1, .int v110)] [.int 1] _ 0 0 _
                      refine x_ifeq (tgt := 12) rfl rfl (ti_eq jk_1 jk_0 (br_f (by omega) ?_))
                      refine x_iconst (v := (-1)) rfl ki_m1 ?_
                      refine x_goto (tgt := 18) rfl rfl ?_
                      refine x_iret rfl rfl ?_
                      show jX m_X12_kin 10 0 0 74 [(6, .int v105), (5, .int v98), (0, .ref 125), (1, .int a1), (2, .int a2), (3, .int a3), (4, .int a4)] [.int (-1)] _ 0 0 _
                      exact jX.sub jsb_n (ct_X12_kin_r125_100074 hD hQ  h J Sm)
                    ·
                      refine x_iconst (v := 1) rfl ki_1 ?_
                      refine x_goto (tgt := 19) rfl rfl ?_
                      refine x_zret rfl rfl (by decide) ?_
                      show jX m_X12_isUnknown 8 0 0 15 [(0, .ref 125), (1, .int v110)] [.int 1] _ 0 0 _
                      refine x_ifne (tgt := 22) rfl rfl (ti_ne jk_1 jk_0 (bn_t (by omega) ?_))
                      refine x_iconst (v := 0) rfl ki_0 ?_
                      refine x_zret rfl rfl (by decide) ?_
                      show jX m_X12_named 9 0 0 5 [(0, .ref 125), (1, .int v110)] [.int 0] _ 0 0 _
                      refine x_ifeq (tgt := 12) rfl rfl (ti_eq jk_0 jk_0 (br_t (by omega) ?_))
                      refine x_aloadn (x := 125) rfl rfl ?_
                      refine z_getR (N := 92) (b := 139) 12 29 rfl f_12_72 rfl J rfl 16029 ⟨rfl, rfl⟩ rfl ?_
                      refine x_iloadn (x := v110) rfl rfl ?_
                      refine z_iald (N := 600) rfl J rfl sg_139_0_600_1_0_1 rfl (by omega) (fun v131 qv131 ev131 => ?_)
                      refine x_iret rfl rfl ?_
                      show jX m_X12_kin 10 0 0 74 [(6, .int v105), (5, .int v98), (0, .ref 125), (1, .int a1), (2, .int a2), (3, .int a3), (4, .int a4)] [.int v131] _ 0 0 _
                      exact jX.sub jsb_n (ct_X12_kin_r125_74 hD hQ  v131 h (jr_of rfl (by omega)) J Sm)
                  ·
                    refine x_iconst (v := 1) rfl ki_1 ?_
                    refine x_goto (tgt := 19) rfl rfl ?_
                    refine x_zret rfl rfl (by decide) ?_
                    show jX m_X12_isUnknown 8 0 0 6 [(0, .ref 125), (1, .int v110)] [.int 1] _ 0 0 _
                    refine x_ifne (tgt := 22) rfl rfl (ti_ne jk_1 jk_0 (bn_t (by omega) ?_))
                    refine x_iconst (v := 0) rfl ki_0 ?_
                    refine x_zret rfl rfl (by decide) ?_
                    show jX m_X12_named 9 0 0 5 [(0, .ref 125), (1, .int v110)] [.int 0] _ 0 0 _
                    refine x_ifeq (tgt := 12) rfl rfl (ti_eq jk_0 jk_0 (br_t (by omega) ?_))
                    refine x_aloadn (x := 125) rfl rfl ?_
                    refine z_getR (N := 92) (b := 139) 12 29 rfl f_12_72 rfl J rfl 16029 ⟨rfl, rfl⟩ rfl ?_
                    refine x_iloadn (x := v110) rfl rfl ?_
                    refine z_iald (N := 600) rfl J rfl sg_139_0_600_1_0_1 rfl (by omega) (fun v132 qv132 ev132 => ?_)
                    refine x_iret rfl rfl ?_
                    show jX m_X12_kin 10 0 0 74 [(6, .int v105), (5, .int v98), (0, .ref 125), (1, .int a1), (2, .int a2), (3, .int a3), (4, .int a4)] [.int v132] _ 0 0 _
                    exact jX.sub jsb_n (ct_X12_kin_r125_74 hD hQ  v132 h (jr_of rfl (by omega)) J Sm)
                ·
                  refine x_iconst (v := (-1)) rfl ki_m1 ?_
                  refine x_goto (tgt := 74) rfl rfl ?_
                  exact jX.sub jsb_n (ct_X12_kin_r125_100074 hD hQ  h J Sm)
            ·
              exact jX.sub jsb_n (ct_X12_kin_r125_31 hD hQ  h J Sm)
        ·
          refine x_iconst (v := (-1)) rfl ki_m1 ?_
          refine x_iret rfl rfl ?_
          show jX m_X12_kin 10 0 0 11 [(0, .ref 125), (1, .int a1), (2, .int a2), (3, .int a3), (4, .int a4)] [.int (-1)] _ 0 0 _
          refine x_istore (ls' := [(5, .int (-1)), (0, .ref 125), (1, .int a1), (2, .int a2), (3, .int a3), (4, .int a4)]) rfl rfl rfl ?_
          refine x_iload (x := (-1)) rfl rfl ?_
          refine x_iconst (v := (-1)) rfl ki_m1 ?_
          refine x_iceq (tgt := 31) rfl rfl (ti_eq jk_m1 jk_m1 (br_t (by omega) ?_))
          exact jX.sub jsb_n (ct_X12_kin_r125_31 hD hQ  h J Sm)
def fp_X12_levy_r125 : jFp := [(125, 0, 1), (125, 1, 2), (126, 11, 12), (126, 48300, 48460)]
set_option maxRecDepth 100000 in
set_option maxHeartbeats 4000000 in
theorem ct_X12_levy_r125_44 {Dy : jH → Prop} {h0 : jH} {Q : Option Value → jH → Prop} (hD : jDk Dy) (hQ : ∀ (v : Int32) h', jJ jSgM Dy h' → jSm fp_X12_levy_r125 h0 h' → Q (some (.int v)) h') : ∀ (h : jH), jJ jSgM Dy h → jSm fp_X12_levy_r125 h0 h → jX m_X12_levy 3 0 0 44 [(0, .ref 125)] [] h 0 0 Q := by
  intro  h    J Sm
  refine x_aloadn (x := 125) rfl rfl ?_
  refine x_iconst (v := (-1)) rfl ki_m1 ?_
  refine x_inv (N := m_X12_told) (As := [.int (-1)]) (b := 125) (st := []) (d' := 1) (mc := 0) (ms := 0) (host := "") 12 rfl t_X12_told ⟨Or.inl q_12_197, i_X12_told.1, i_X12_told.2⟩ ⟨by decide, rfl⟩ (congrArg Prod.fst (J.1.1 125 (12, 92) rfl)) rfl (by decide) rfl rfl ⟨by decide, by decide⟩ (sf_X12_told_r125  hD J  (fun v2 h J S1 => ?_))
  have ev2 := jfull v2
  have Sm := jSm_tr rfl Sm S1
  show jX m_X12_levy 3 0 0 49 [(0, .ref 125)] [.int v2] _ 0 0 _
  refine x_iret rfl rfl ?_
  exact hQ _ _ J Sm
set_option maxRecDepth 100000 in
set_option maxHeartbeats 4000000 in
theorem sf_X12_levy_r125 {Dy : jH → Prop} {h : jH} {Q : Option Value → jH → Prop} {a1 : Int32} {a2 : Int32} {a3 : Int32} {a4 : Int32} (hD : jDk Dy) (J : jJ jSgM Dy h) (hQ : ∀ (v : Int32) h', jJ jSgM Dy h' → jSm fp_X12_levy_r125 h h' → Q (some (.int v)) h') : jC m_X12_levy 3 0 0 [.ref 125, .int a1, .int a2, .int a3, .int a4] h Q := by
  refine jC.of rfl k_X12_levy rfl ?_
  have Sm := jSm_rf fp_X12_levy_r125 h
  have ea1 := jfull a1
  have ea2 := jfull a2
  have ea3 := jfull a3
  have ea4 := jfull a4
  show jX m_X12_levy 3 0 0 0 [(0, .ref 125), (1, .int a1), (2, .int a2), (3, .int a3), (4, .int a4)] [] _ 0 0 _
  refine x_aloadn (x := 125) rfl rfl ?_
  refine x_iconst (v := 0) rfl ki_0 ?_
  refine z_putI (N := 92) (w := 0) 12 0 rfl f_12_180 rfl (jfin_no TX12 RX12 92 rfl rfl) hD J Sm rfl rfl jk_0 (pw_125_0 (by omega)) rfl (fun h w1 J Sm => ?_)
  refine x_iloadn (x := a1) rfl rfl ?_
  refine z_i2l rfl rfl (fun v2 ev2 => ?_)
  refine x_lconst (v := 0) rfl kl_0 ?_
  refine x_ldc2 (v := 2) rfl z_12_482 ?_
  refine x_inst (N := m_X12_in) (As := [.long v2, .long 0, .long 2]) (st := []) (d' := 1) (mc := 0) (ms := 0) (host := "") rfl t_X12_in ⟨Or.inl q_12_188, s_X12_in⟩ rfl (by decide) rfl rfl ⟨by decide, by decide⟩ (zc_X12_in rfl jkl_0 jkl_2 (fun v3 ev3 => ?_))
  show jX m_X12_levy 3 0 0 14 [(0, .ref 125), (1, .int a1), (2, .int a2), (3, .int a3), (4, .int a4)] [.int v3] _ 0 0 _
  refine x_ifeq (tgt := 44) rfl rfl (ti_eq rfl jk_0 ⟨fun c4 => ?_, fun c4 => ?_⟩)
  ·
    exact jX.sub (jsb_c rfl jsb_n) (ct_X12_levy_r125_44 hD hQ  h J Sm)
  ·
    refine x_iloadn (x := a2) rfl rfl ?_
    refine x_inst (N := m_X12_isYear) (As := [.int a2]) (st := []) (d' := 2) (mc := 0) (ms := 0) (host := "") rfl t_X12_isYear ⟨Or.inl q_12_817, s_X12_isYear⟩ rfl (by decide) rfl rfl ⟨by decide, by decide⟩ (zc_X12_isYear (d := 1) rfl (fun v5 ev5 => ?_))
    show jX m_X12_levy 3 0 0 21 [(0, .ref 125), (1, .int a1), (2, .int a2), (3, .int a3), (4, .int a4)] [.int v5] _ 0 0 _
    refine x_ifeq (tgt := 44) rfl rfl (ti_eq rfl jk_0 ⟨fun c6 => ?_, fun c6 => ?_⟩)
    ·
      exact jX.sub (jsb_c rfl jsb_n) (ct_X12_levy_r125_44 hD hQ  h J Sm)
    ·
      refine x_iloadn (x := a3) rfl rfl ?_
      refine z_i2l rfl rfl (fun v7 ev7 => ?_)
      refine x_lconst (v := 0) rfl kl_0 ?_
      refine x_ldc2 (v := 1000000) rfl z_12_244 ?_
      refine x_inst (N := m_X12_in) (As := [.long v7, .long 0, .long 1000000]) (st := []) (d' := 1) (mc := 0) (ms := 0) (host := "") rfl t_X12_in ⟨Or.inl q_12_188, s_X12_in⟩ rfl (by decide) rfl rfl ⟨by decide, by decide⟩ (zc_X12_in rfl jkl_0 jkl_1000000 (fun v8 ev8 => ?_))
      show jX m_X12_levy 3 0 0 33 [(0, .ref 125), (1, .int a1), (2, .int a2), (3, .int a3), (4, .int a4)] [.int v8] _ 0 0 _
      refine x_ifeq (tgt := 44) rfl rfl (ti_eq rfl jk_0 ⟨fun c9 => ?_, fun c9 => ?_⟩)
      ·
        exact jX.sub (jsb_c rfl jsb_n) (ct_X12_levy_r125_44 hD hQ  h J Sm)
      ·
        refine x_iload (x := a4) rfl rfl ?_
        refine x_inst (N := m_X12_isDay) (As := [.int a4]) (st := []) (d' := 2) (mc := 0) (ms := 0) (host := "") rfl t_X12_isDay ⟨Or.inl q_12_273, s_X12_isDay⟩ rfl (by decide) rfl rfl ⟨by decide, by decide⟩ (zc_X12_isDay (d := 1) rfl (fun v10 ev10 => ?_))
        show jX m_X12_levy 3 0 0 41 [(0, .ref 125), (1, .int a1), (2, .int a2), (3, .int a3), (4, .int a4)] [.int v10] _ 0 0 _
        refine x_ifne (tgt := 50) rfl rfl (ti_ne rfl jk_0 ⟨fun c11 => ?_, fun c11 => ?_⟩)
        ·
          refine x_aloadn (x := 125) rfl rfl ?_
          refine z_getR (N := 92) (b := 126) 12 2 rfl f_12_8 rfl J rfl 16002 ⟨rfl, rfl⟩ rfl ?_
          refine x_bipush (v := 11) rfl kb_11 ?_
          refine z_iald (N := 50660) rfl J rfl sg_126_11_12_1_0_1 jk_11 (by omega) (fun v12 qv12 ev12 => ?_)
          refine x_bipush (v := 40) rfl kb_40 ?_
          refine x_icne (tgt := 69) rfl rfl (ti_ne rfl jk_40 ⟨fun c13 => ?_, fun c13 => ?_⟩)
          ·
            refine x_aloadn (x := 125) rfl rfl ?_
            refine x_ldcw (v := 48300) rfl z_12_820 ?_
            refine x_iconst (v := 4) rfl ki_4 ?_
            refine x_aloadn (x := 125) rfl rfl ?_
            refine z_getR (N := 92) (b := 126) 12 2 rfl f_12_8 rfl J rfl 16002 ⟨rfl, rfl⟩ rfl ?_
            refine x_bipush (v := 11) rfl kb_11 ?_
            refine z_ialdM (N := 50660) (v := v12) rfl J rfl jk_11 (by omega) qv12 ?_
            refine z_imul rfl jk_4 rfl (by omega) (fun v14 ev14 => ?_)
            refine z_iadd rfl jk_48300 rfl (by omega) (fun v15 ev15 => ?_)
            refine x_iloadn (x := a1) rfl rfl ?_
            refine x_iloadn (x := a2) rfl rfl ?_
            refine x_iloadn (x := a3) rfl rfl ?_
            refine x_iload (x := a4) rfl rfl ?_
            refine x_inv (N := m_X12_addFour) (As := [.int v15, .int a1, .int a2, .int a3, .int a4]) (b := 125) (st := []) (d' := 2) (mc := 0) (ms := 0) (host := "") 12 rfl t_X12_addFour ⟨Or.inl q_12_814, i_X12_addFour.1, i_X12_addFour.2⟩ ⟨by decide, rfl⟩ (congrArg Prod.fst (J.1.1 125 (12, 92) rfl)) rfl (by decide) rfl rfl ⟨by decide, by decide⟩ (jC.of rfl k_X12_addFour rfl ?_)
            show jX m_X12_addFour 2 0 0 0 [(0, .ref 125), (1, .int v15), (2, .int a1), (3, .int a2), (4, .int a3), (5, .int a4)] [] _ 0 0 _
            refine x_aloadn (x := 125) rfl rfl ?_
            refine z_getR (N := 92) (b := 126) 12 2 rfl f_12_8 rfl J rfl 16002 ⟨rfl, rfl⟩ rfl ?_
            refine x_iloadn (x := v15) rfl rfl ?_
            refine x_iloadn (x := a1) rfl rfl ?_
            refine z_iast (N := 50660) (l := 48300) (u := 48460) (w := a1.toInt) rfl hD J Sm rfl rfl rfl (by omega) rfl (wr_126_48300 (by omega) (fun q1 q2 q3 q4 => by omega) (fun q1 q2 q3 q4 => by omega) (fun q1 q2 q3 q4 => by omega) (fun q1 q2 q3 q4 => by omega)) rfl (fun h w16 J Sm => ?_)
            refine x_aloadn (x := 125) rfl rfl ?_
            refine z_getR (N := 92) (b := 126) 12 2 rfl f_12_8 rfl J rfl 16002 ⟨rfl, rfl⟩ rfl ?_
            refine x_iloadn (x := v15) rfl rfl ?_
            refine x_iconst (v := 1) rfl ki_1 ?_
            refine z_iadd rfl rfl jk_1 (by omega) (fun v17 ev17 => ?_)
            refine x_iloadn (x := a2) rfl rfl ?_
            refine z_iast (N := 50660) (l := 48300) (u := 48460) (w := a2.toInt) rfl hD J Sm rfl rfl rfl (by omega) rfl (wr_126_48300 (by omega) (fun q1 q2 q3 q4 => by omega) (fun q1 q2 q3 q4 => by omega) (fun q1 q2 q3 q4 => by omega) (fun q1 q2 q3 q4 => by omega)) rfl (fun h w18 J Sm => ?_)
            refine x_aloadn (x := 125) rfl rfl ?_
            refine z_getR (N := 92) (b := 126) 12 2 rfl f_12_8 rfl J rfl 16002 ⟨rfl, rfl⟩ rfl ?_
            refine x_iloadn (x := v15) rfl rfl ?_
            refine x_iconst (v := 2) rfl ki_2 ?_
            refine z_iadd rfl rfl jk_2 (by omega) (fun v19 ev19 => ?_)
            refine x_iload (x := a3) rfl rfl ?_
            refine z_iast (N := 50660) (l := 48300) (u := 48460) (w := a3.toInt) rfl hD J Sm rfl rfl rfl (by omega) rfl (wr_126_48300 (by omega) (fun q1 q2 q3 q4 => by omega) (fun q1 q2 q3 q4 => by omega) (fun q1 q2 q3 q4 => by omega) (fun q1 q2 q3 q4 => by omega)) rfl (fun h w20 J Sm => ?_)
            refine x_aloadn (x := 125) rfl rfl ?_
            refine z_getR (N := 92) (b := 126) 12 2 rfl f_12_8 rfl J rfl 16002 ⟨rfl, rfl⟩ rfl ?_
            refine x_iloadn (x := v15) rfl rfl ?_
            refine x_iconst (v := 3) rfl ki_3 ?_
            refine z_iadd rfl rfl jk_3 (by omega) (fun v21 ev21 => ?_)
            refine x_iload (x := a4) rfl rfl ?_
            refine z_iast (N := 50660) (l := 48300) (u := 48460) (w := a4.toInt) rfl hD J Sm rfl rfl rfl (by omega) rfl (wr_126_48300 (by omega) (fun q1 q2 q3 q4 => by omega) (fun q1 q2 q3 q4 => by omega) (fun q1 q2 q3 q4 => by omega) (fun q1 q2 q3 q4 => by omega)) rfl (fun h w22 J Sm => ?_)
            refine x_vret rfl rfl ?_
            show jX m_X12_levy 3 0 0 91 [(0, .ref 125), (1, .int a1), (2, .int a2), (3, .int a3), (4, .int a4)] [] _ 0 0 _
            refine x_aloadn (x := 125) rfl rfl ?_
            refine z_getR (N := 92) (b := 126) 12 2 rfl f_12_8 rfl J rfl 16002 ⟨rfl, rfl⟩ rfl ?_
            refine x_bipush (v := 11) rfl kb_11 ?_
            refine x_dup2 rfl rfl rfl ?_
            refine z_ialdM (N := 50660) (v := v12) rfl J rfl jk_11 (by omega) (jmo2 w22 rfl jk_11 (by omega) (jmo2 w20 rfl jk_11 (by omega) (jmo2 w18 rfl jk_11 (by omega) (jmo2 w16 rfl jk_11 (by omega) qv12)))) ?_
            refine x_iconst (v := 1) rfl ki_1 ?_
            refine z_iadd rfl rfl jk_1 (by omega) (fun v23 ev23 => ?_)
            refine z_iast (N := 50660) (l := 11) (u := 12) (w := v23.toInt) rfl hD J Sm rfl rfl jk_11 (by omega) rfl (wr_126_11 (by omega) (fun q1 q2 q3 q4 => by omega)) rfl (fun h w24 J Sm => ?_)
            refine x_aloadn (x := 125) rfl rfl ?_
            refine x_aloadn (x := 125) rfl rfl ?_
            refine z_getR (N := 92) (b := 126) 12 2 rfl f_12_8 rfl J rfl 16002 ⟨rfl, rfl⟩ rfl ?_
            refine x_bipush (v := 11) rfl kb_11 ?_
            refine z_ialdM (N := 50660) (v := v23) rfl J rfl jk_11 (by omega) (jmw w24) ?_
            refine x_iconst (v := 1) rfl ki_1 ?_
            refine z_isub rfl rfl jk_1 (by omega) (fun v25 ev25 => ?_)
            refine x_inv (N := m_X12_told) (As := [.int v25]) (b := 125) (st := []) (d' := 1) (mc := 0) (ms := 0) (host := "") 12 rfl t_X12_told ⟨Or.inl q_12_197, i_X12_told.1, i_X12_told.2⟩ ⟨by decide, rfl⟩ (congrArg Prod.fst (J.1.1 125 (12, 92) rfl)) rfl (by decide) rfl rfl ⟨by decide, by decide⟩ (sf_X12_told_r125  hD J  (fun v27 h J S26 => ?_))
            have ev27 := jfull v27
            have Sm := jSm_tr rfl Sm S26
            show jX m_X12_levy 3 0 0 115 [(0, .ref 125), (1, .int a1), (2, .int a2), (3, .int a3), (4, .int a4)] [.int v27] _ 0 0 _
            refine x_iret rfl rfl ?_
            exact hQ _ _ J Sm
          ·
            refine x_aloadn (x := 125) rfl rfl ?_
            refine x_bipush (v := (-5)) rfl kb_m5 ?_
            refine x_inv (N := m_X12_told) (As := [.int (-5)]) (b := 125) (st := []) (d' := 1) (mc := 0) (ms := 0) (host := "") 12 rfl t_X12_told ⟨Or.inl q_12_197, i_X12_told.1, i_X12_told.2⟩ ⟨by decide, rfl⟩ (congrArg Prod.fst (J.1.1 125 (12, 92) rfl)) rfl (by decide) rfl rfl ⟨by decide, by decide⟩ (sf_X12_told_r125  hD J  (fun v29 h J S28 => ?_))
            have ev29 := jfull v29
            have Sm := jSm_tr rfl Sm S28
            show jX m_X12_levy 3 0 0 68 [(0, .ref 125), (1, .int a1), (2, .int a2), (3, .int a3), (4, .int a4)] [.int v29] _ 0 0 _
            refine x_iret rfl rfl ?_
            exact hQ _ _ J Sm
        ·
          exact jX.sub (jsb_c rfl jsb_n) (ct_X12_levy_r125_44 hD hQ  h J Sm)
def fp_X12_next_r125 : jFp := [(125, 9, 10), (125, 10, 11), (125, 11, 12), (125, 12, 13)]
set_option maxRecDepth 100000 in
set_option maxHeartbeats 4000000 in
theorem ct_X12_next_r125_335 {Dy : jH → Prop} {h0 : jH} {Q : Option Value → jH → Prop} (hD : jDk Dy) (hQ : ∀ h', jJ jSgM Dy h' → jSm fp_X12_next_r125 h0 h' → ∀ u0 u1 u2 : Int32, jiv h' 125 10 = u0 → jiv h' 125 8 = u1 → jiv h' 125 9 = u2 → (u0.toInt ≤ u1.toInt ∧ u2.toInt ≤ u0.toInt) → Q none h') : ∀ (g0 : Int32) (g1 : Int32) (g2 : Int32) (h : jH), 0 ≤ g0.toInt ∧ g0.toInt ≤ 400 → 0 ≤ g1.toInt ∧ g1.toInt ≤ 400 → 0 ≤ g2.toInt ∧ g2.toInt ≤ 400 → g2.toInt - g1.toInt ≤ 0 → g0.toInt - g1.toInt ≤ 0 → g2.toInt - g0.toInt ≤ 0 → jiv h 125 10 = g0 → jiv h 125 8 = g1 → jiv h 125 9 = g2 → jJ jSgM Dy h → jSm fp_X12_next_r125 h0 h → jX m_X12_next 2 0 0 335 [] [] h 0 0 Q := by
  intro g0 g1 g2 h y0 y1 y2 y3 y4 y5 z0 z1 z2  J Sm
  refine x_vret rfl rfl ?_
  exact hQ _ J Sm _ _ _ z0 z1 z2 (by omega)
set_option maxRecDepth 100000 in
set_option maxHeartbeats 4000000 in
theorem ct_X12_next_r125_319 {Dy : jH → Prop} {h0 : jH} {Q : Option Value → jH → Prop} {R243 : Int} (hD : jDk Dy) (hQ : ∀ h', jJ jSgM Dy h' → jSm fp_X12_next_r125 h0 h' → ∀ u0 u1 u2 : Int32, jiv h' 125 10 = u0 → jiv h' 125 8 = u1 → jiv h' 125 9 = u2 → (u0.toInt ≤ u1.toInt ∧ u2.toInt ≤ u0.toInt) → Q none h') (k243 : ∀ (g0 : Int32) (g1 : Int32) (g2 : Int32) (g3 : Int32) (h : jH), 400 - g0.toInt < R243 → 0 ≤ g0.toInt ∧ g0.toInt ≤ 400 → 0 ≤ g1.toInt ∧ g1.toInt ≤ 3 → 0 ≤ g2.toInt ∧ g2.toInt ≤ 400 → 0 ≤ g3.toInt ∧ g3.toInt ≤ 400 → g3.toInt - g2.toInt ≤ 0 → g0.toInt - g2.toInt ≤ 0 → g3.toInt - g0.toInt ≤ 0 → jiv h 125 10 = g0 → jiv h 125 11 = g1 → jiv h 125 8 = g2 → jiv h 125 9 = g3 → jJ jSgM Dy h → jSm fp_X12_next_r125 h0 h → jX m_X12_next 2 0 0 243 [(0, .ref 125)] [] h 0 0 Q) : ∀ (s0 : Int64) (g0 : Int32) (g1 : Int32) (g2 : Int32) (g3 : Int32) (h : jH), 0 ≤ g0.toInt ∧ g0.toInt ≤ 399 → 2 ≤ g1.toInt ∧ g1.toInt ≤ 2 → 1 ≤ g2.toInt ∧ g2.toInt ≤ 400 → 0 ≤ g3.toInt ∧ g3.toInt ≤ 399 → g3.toInt - g2.toInt ≤ 0 → g0.toInt - g2.toInt ≤ 0 → g3.toInt - g0.toInt ≤ 0 → jiv h 125 10 = g0 → jiv h 125 11 = g1 → jiv h 125 8 = g2 → jiv h 125 9 = g3 → 400 - g0.toInt ≤ R243 → jJ jSgM Dy h → jSm fp_X12_next_r125 h0 h → jX m_X12_next 2 0 0 319 [(0, .ref 125)] [.long s0, .ref 125] h 0 0 Q := by
  intro s0 g0 g1 g2 g3 h y0 y1 y2 y3 y4 y5 y6 z0 z1 z2 z3 m243 J Sm
  have es0 := jfullL s0
  refine z_putL (N := 92) 12 12 rfl f_12_224 rfl (jfin_no TX12 RX12 92 rfl rfl) hD J Sm rfl rfl rfl (fun h w1 J Sm => ?_)
  refine x_aloadn (x := 125) rfl rfl ?_
  refine x_dup rfl rfl ?_
  refine z_getM (N := 92) (v := g0) 12 10 rfl f_12_211 rfl J rfl (jml w1 z0) ?_
  refine x_iconst (v := 1) rfl ki_1 ?_
  refine z_iadd rfl rfl jk_1 (by omega) (fun v2 ev2 => ?_)
  refine z_putI (N := 92) (w := v2.toInt) 12 10 rfl f_12_211 rfl (jfin_no TX12 RX12 92 rfl rfl) hD J Sm rfl rfl rfl (pw_125_10 (by omega)) rfl (fun h w3 J Sm => ?_)
  refine x_goto (tgt := 243) rfl rfl ?_
  exact jX.sub (jsb_c rfl jsb_n) (k243 v2 g1 g2 g3 h (by omega) (jr_of rfl (by omega)) (jr_of rfl (by omega)) (jr_of rfl (by omega)) (jr_of rfl (by omega)) (by omega) (by omega) (by omega) (jmw w3) (jmo w3 rfl (jml w1 z1)) (jmo w3 rfl (jml w1 z2)) (jmo w3 rfl (jml w1 z3)) J Sm)
set_option maxRecDepth 100000 in
set_option maxHeartbeats 4000000 in
theorem ct_X12_next_r125_243 {Dy : jH → Prop} {h0 : jH} {Q : Option Value → jH → Prop} (hD : jDk Dy) (hQ : ∀ h', jJ jSgM Dy h' → jSm fp_X12_next_r125 h0 h' → ∀ u0 u1 u2 : Int32, jiv h' 125 10 = u0 → jiv h' 125 8 = u1 → jiv h' 125 9 = u2 → (u0.toInt ≤ u1.toInt ∧ u2.toInt ≤ u0.toInt) → Q none h') : ∀ r : Nat, ∀ (g0 : Int32) (g1 : Int32) (g2 : Int32) (g3 : Int32) (h : jH), 400 - g0.toInt < (r : Int) → 0 ≤ g0.toInt ∧ g0.toInt ≤ 400 → 0 ≤ g1.toInt ∧ g1.toInt ≤ 3 → 0 ≤ g2.toInt ∧ g2.toInt ≤ 400 → 0 ≤ g3.toInt ∧ g3.toInt ≤ 400 → g3.toInt - g2.toInt ≤ 0 → g0.toInt - g2.toInt ≤ 0 → g3.toInt - g0.toInt ≤ 0 → jiv h 125 10 = g0 → jiv h 125 11 = g1 → jiv h 125 8 = g2 → jiv h 125 9 = g3 → jJ jSgM Dy h → jSm fp_X12_next_r125 h0 h → jX m_X12_next 2 0 0 243 [(0, .ref 125)] [] h 0 0 Q := by
  intro r
  induction r with
  | zero =>
    intro g0 g1 g2 g3 h hm y0 y1 y2 y3 y4 y5 y6 z0 z1 z2 z3  J Sm
    exfalso
    omega
  | succ r ih =>
    intro g0 g1 g2 g3 h hm y0 y1 y2 y3 y4 y5 y6 z0 z1 z2 z3  J Sm
    refine x_aloadn (x := 125) rfl rfl ?_
    refine z_getM (N := 92) (v := g1) 12 11 rfl f_12_235 rfl J rfl z1 ?_
    refine x_iconst (v := 2) rfl ki_2 ?_
    refine x_icne (tgt := 335) rfl rfl (ti_ne rfl jk_2 ⟨fun c1 => ?_, fun c1 => ?_⟩)
    ·
      exact jX.sub jsb_n (ct_X12_next_r125_335 hD hQ  g0 g2 g3 h (jr_of rfl (by omega)) (jr_of rfl (by omega)) (jr_of rfl (by omega)) (by omega) (by omega) (by omega) z0 z2 z3 J Sm)
    ·
      refine x_aloadn (x := 125) rfl rfl ?_
      refine z_getM (N := 92) (v := g0) 12 10 rfl f_12_211 rfl J rfl z0 ?_
      refine x_aloadn (x := 125) rfl rfl ?_
      refine z_getM (N := 92) (v := g2) 12 8 rfl f_12_201 rfl J rfl z2 ?_
      refine x_icge (tgt := 335) rfl rfl (ti_ge rfl rfl ⟨fun c2 => ?_, fun c2 => ?_⟩)
      ·
        exact jX.sub jsb_n (ct_X12_next_r125_335 hD hQ  g0 g2 g3 h (jr_of rfl (by omega)) (jr_of rfl (by omega)) (jr_of rfl (by omega)) (by omega) (by omega) (by omega) z0 z2 z3 J Sm)
      ·
        refine x_aloadn (x := 125) rfl rfl ?_
        refine z_getR (N := 92) (b := 131) 12 7 rfl f_12_29 rfl J rfl 16007 ⟨rfl, rfl⟩ rfl ?_
        refine x_aloadn (x := 125) rfl rfl ?_
        refine z_getM (N := 92) (v := g0) 12 10 rfl f_12_211 rfl J rfl z0 ?_
        refine z_iald (N := 400) rfl J rfl sg_131_0_400_1_0_1 rfl (by omega) (fun v3 qv3 ev3 => ?_)
        refine x_inst (N := m_X12_isDigit) (As := [.int v3]) (st := []) (d' := 1) (mc := 0) (ms := 0) (host := "") rfl t_X12_isDigit ⟨Or.inl q_12_232, s_X12_isDigit⟩ rfl (by decide) rfl rfl ⟨by decide, by decide⟩ (jC.of rfl k_X12_isDigit rfl ?_)
        show jX m_X12_isDigit 1 0 0 0 [(0, .int v3)] [] _ 0 0 _
        refine x_iloadn (x := v3) rfl rfl ?_
        refine x_bipush (v := 48) rfl kb_48 ?_
        refine x_iclt (tgt := 16) rfl rfl (ti_lt rfl jk_48 ⟨fun c4 => ?_, fun c4 => ?_⟩)
        ·
          refine x_iconst (v := 0) rfl ki_0 ?_
          refine x_zret rfl rfl (by decide) ?_
          show jX m_X12_next 2 0 0 274 [(0, .ref 125)] [.int 0] _ 0 0 _
          refine x_ifeq (tgt := 335) rfl rfl (ti_eq jk_0 jk_0 (br_t (by omega) ?_))
          exact jX.sub jsb_n (ct_X12_next_r125_335 hD hQ  g0 g2 g3 h (jr_of rfl (by omega)) (jr_of rfl (by omega)) (jr_of rfl (by omega)) (by omega) (by omega) (by omega) z0 z2 z3 J Sm)
        ·
          refine x_iloadn (x := v3) rfl rfl ?_
          refine x_bipush (v := 57) rfl kb_57 ?_
          refine x_icgt (tgt := 16) rfl rfl (ti_gt rfl jk_57 ⟨fun c5 => ?_, fun c5 => ?_⟩)
          ·
            refine x_iconst (v := 0) rfl ki_0 ?_
            refine x_zret rfl rfl (by decide) ?_
            show jX m_X12_next 2 0 0 274 [(0, .ref 125)] [.int 0] _ 0 0 _
            refine x_ifeq (tgt := 335) rfl rfl (ti_eq jk_0 jk_0 (br_t (by omega) ?_))
            exact jX.sub jsb_n (ct_X12_next_r125_335 hD hQ  g0 g2 g3 h (jr_of rfl (by omega)) (jr_of rfl (by omega)) (jr_of rfl (by omega)) (by omega) (by omega) (by omega) z0 z2 z3 J Sm)
          ·
            refine x_iconst (v := 1) rfl ki_1 ?_
            refine x_goto (tgt := 17) rfl rfl ?_
            refine x_zret rfl rfl (by decide) ?_
            show jX m_X12_next 2 0 0 274 [(0, .ref 125)] [.int 1] _ 0 0 _
            refine x_ifeq (tgt := 335) rfl rfl (ti_eq jk_1 jk_0 (br_f (by omega) ?_))
            refine x_aloadn (x := 125) rfl rfl ?_
            refine x_aloadn (x := 125) rfl rfl ?_
            refine z_getL0 (N := 92) 12 12 rfl f_12_224 rfl J rfl (fun v6 => ?_)
            have ev6 := jfullL v6
            refine x_ldc2 (v := 1000000) rfl z_12_244 ?_
            refine z_lcmp rfl rfl jkl_1000000 (fun v7 ev7 => ?_)
            refine x_ifle (tgt := 296) rfl rfl (ti_le rfl jk_0 ⟨fun c8 => ?_, fun c8 => ?_⟩)
            ·
              refine x_aloadn (x := 125) rfl rfl ?_
              refine z_getL0 (N := 92) 12 12 rfl f_12_224 rfl J rfl (fun v9 => ?_)
              have ev9 := jfullL v9
              refine x_ldc2 (v := 10) rfl z_12_246 ?_
              refine z_lmul0 rfl (fun v10 => ?_)
              have ev10 := jfullL v10
              refine x_aloadn (x := 125) rfl rfl ?_
              refine z_getR (N := 92) (b := 131) 12 7 rfl f_12_29 rfl J rfl 16007 ⟨rfl, rfl⟩ rfl ?_
              refine x_aloadn (x := 125) rfl rfl ?_
              refine z_getM (N := 92) (v := g0) 12 10 rfl f_12_211 rfl J rfl z0 ?_
              refine z_ialdM (N := 400) (v := v3) rfl J rfl rfl (by omega) qv3 ?_
              refine z_i2l rfl rfl (fun v11 ev11 => ?_)
              refine z_ladd0 rfl (fun v12 => ?_)
              have ev12 := jfullL v12
              refine x_ldc2 (v := 48) rfl z_12_248 ?_
              refine z_lsub0 rfl (fun v13 => ?_)
              have ev13 := jfullL v13
              exact jX.sub (jsb_c rfl jsb_n) (ct_X12_next_r125_319 hD hQ ih v13 g0 g1 g2 g3 h (jr_of rfl (by omega)) (jr_of rfl (by omega)) (jr_of rfl (by omega)) (jr_of rfl (by omega)) (by omega) (by omega) (by omega) z0 z1 z2 z3 (by omega) J Sm)
            ·
              refine x_aloadn (x := 125) rfl rfl ?_
              refine z_getL0 (N := 92) 12 12 rfl f_12_224 rfl J rfl (fun v14 => ?_)
              have ev14 := jfullL v14
              refine x_goto (tgt := 319) rfl rfl ?_
              exact jX.sub (jsb_c rfl jsb_n) (ct_X12_next_r125_319 hD hQ ih v14 g0 g1 g2 g3 h (jr_of rfl (by omega)) (jr_of rfl (by omega)) (jr_of rfl (by omega)) (jr_of rfl (by omega)) (by omega) (by omega) (by omega) z0 z1 z2 z3 (by omega) J Sm)
set_option maxRecDepth 100000 in
set_option maxHeartbeats 4000000 in
theorem ct_X12_next_r125_5000227 {Dy : jH → Prop} {h0 : jH} {Q : Option Value → jH → Prop} {R149 : Int} (hD : jDk Dy) (hQ : ∀ h', jJ jSgM Dy h' → jSm fp_X12_next_r125 h0 h' → ∀ u0 u1 u2 : Int32, jiv h' 125 10 = u0 → jiv h' 125 8 = u1 → jiv h' 125 9 = u2 → (u0.toInt ≤ u1.toInt ∧ u2.toInt ≤ u0.toInt) → Q none h') (k149 : ∀ (g0 : Int32) (g1 : Int32) (g2 : Int32) (g3 : Int32) (h : jH), 400 - g0.toInt < R149 → 0 ≤ g0.toInt ∧ g0.toInt ≤ 400 → 0 ≤ g1.toInt ∧ g1.toInt ≤ 3 → 0 ≤ g2.toInt ∧ g2.toInt ≤ 400 → 0 ≤ g3.toInt ∧ g3.toInt ≤ 400 → g3.toInt - g2.toInt ≤ 0 → g0.toInt - g2.toInt ≤ 0 → g3.toInt - g0.toInt ≤ 0 → jiv h 125 10 = g0 → jiv h 125 11 = g1 → jiv h 125 8 = g2 → jiv h 125 9 = g3 → jJ jSgM Dy h → jSm fp_X12_next_r125 h0 h → jX m_X12_next 2 0 0 149 [(0, .ref 125)] [] h 0 0 Q) : ∀ (g0 : Int32) (g1 : Int32) (g2 : Int32) (g3 : Int32) (h : jH), 0 ≤ g0.toInt ∧ g0.toInt ≤ 399 → 1 ≤ g1.toInt ∧ g1.toInt ≤ 1 → 1 ≤ g2.toInt ∧ g2.toInt ≤ 400 → 0 ≤ g3.toInt ∧ g3.toInt ≤ 399 → jiv h 125 10 = g0 → jiv h 125 11 = g1 → jiv h 125 8 = g2 → jiv h 125 9 = g3 → 400 - g0.toInt ≤ R149 → jJ jSgM Dy h → jSm fp_X12_next_r125 h0 h → jX m_X12_next 2 0 0 227 [(0, .ref 125)] [.long (-1), .ref 125] h 0 0 Q := by
  intro g0 g1 g2 g3 h y0 y1 y2 y3 z0 z1 z2 z3 m149 J Sm
  refine z_putL (N := 92) 12 12 rfl f_12_224 rfl (jfin_no TX12 RX12 92 rfl rfl) hD J Sm rfl rfl rfl (fun h w1 J Sm => ?_)
  refine x_aloadn (x := 125) rfl rfl ?_
  refine x_dup rfl rfl ?_
  refine z_getM (N := 92) (v := g0) 12 10 rfl f_12_211 rfl J rfl (jml w1 z0) ?_
  refine x_iconst (v := 1) rfl ki_1 ?_
  refine z_iadd rfl rfl jk_1 (by omega) (fun v2 ev2 => ?_)
  refine z_putI (N := 92) (w := v2.toInt) 12 10 rfl f_12_211 rfl (jfin_no TX12 RX12 92 rfl rfl) hD J Sm rfl rfl rfl (pw_125_10 (by omega)) rfl (fun h w3 J Sm => ?_)
  refine x_goto (tgt := 149) rfl rfl ?_
  exact jX.sub (jsb_c rfl jsb_n) (k149 v2 g1 g2 g3 h (by omega) (jr_of rfl (by omega)) (jr_of rfl (by omega)) (jr_of rfl (by omega)) (jr_of rfl (by omega)) (by omega) (by omega) (by omega) (jmw w3) (jmo w3 rfl (jml w1 z1)) (jmo w3 rfl (jml w1 z2)) (jmo w3 rfl (jml w1 z3)) J Sm)
set_option maxRecDepth 100000 in
set_option maxHeartbeats 4000000 in
theorem ct_X12_next_r125_227 {Dy : jH → Prop} {h0 : jH} {Q : Option Value → jH → Prop} {R149 : Int} (hD : jDk Dy) (hQ : ∀ h', jJ jSgM Dy h' → jSm fp_X12_next_r125 h0 h' → ∀ u0 u1 u2 : Int32, jiv h' 125 10 = u0 → jiv h' 125 8 = u1 → jiv h' 125 9 = u2 → (u0.toInt ≤ u1.toInt ∧ u2.toInt ≤ u0.toInt) → Q none h') (k149 : ∀ (g0 : Int32) (g1 : Int32) (g2 : Int32) (g3 : Int32) (h : jH), 400 - g0.toInt < R149 → 0 ≤ g0.toInt ∧ g0.toInt ≤ 400 → 0 ≤ g1.toInt ∧ g1.toInt ≤ 3 → 0 ≤ g2.toInt ∧ g2.toInt ≤ 400 → 0 ≤ g3.toInt ∧ g3.toInt ≤ 400 → g3.toInt - g2.toInt ≤ 0 → g0.toInt - g2.toInt ≤ 0 → g3.toInt - g0.toInt ≤ 0 → jiv h 125 10 = g0 → jiv h 125 11 = g1 → jiv h 125 8 = g2 → jiv h 125 9 = g3 → jJ jSgM Dy h → jSm fp_X12_next_r125 h0 h → jX m_X12_next 2 0 0 149 [(0, .ref 125)] [] h 0 0 Q) : ∀ (s0 : Int64) (g0 : Int32) (g1 : Int32) (g2 : Int32) (g3 : Int32) (h : jH), 0 ≤ g0.toInt ∧ g0.toInt ≤ 399 → 1 ≤ g1.toInt ∧ g1.toInt ≤ 1 → 1 ≤ g2.toInt ∧ g2.toInt ≤ 400 → 0 ≤ g3.toInt ∧ g3.toInt ≤ 399 → g3.toInt - g2.toInt ≤ 0 → g0.toInt - g2.toInt ≤ 0 → g3.toInt - g0.toInt ≤ 0 → jiv h 125 10 = g0 → jiv h 125 11 = g1 → jiv h 125 8 = g2 → jiv h 125 9 = g3 → 400 - g0.toInt ≤ R149 → jJ jSgM Dy h → jSm fp_X12_next_r125 h0 h → jX m_X12_next 2 0 0 227 [(0, .ref 125)] [.long s0, .ref 125] h 0 0 Q := by
  intro s0 g0 g1 g2 g3 h y0 y1 y2 y3 y4 y5 y6 z0 z1 z2 z3 m149 J Sm
  have es0 := jfullL s0
  refine z_putL (N := 92) 12 12 rfl f_12_224 rfl (jfin_no TX12 RX12 92 rfl rfl) hD J Sm rfl rfl rfl (fun h w1 J Sm => ?_)
  refine x_aloadn (x := 125) rfl rfl ?_
  refine x_dup rfl rfl ?_
  refine z_getM (N := 92) (v := g0) 12 10 rfl f_12_211 rfl J rfl (jml w1 z0) ?_
  refine x_iconst (v := 1) rfl ki_1 ?_
  refine z_iadd rfl rfl jk_1 (by omega) (fun v2 ev2 => ?_)
  refine z_putI (N := 92) (w := v2.toInt) 12 10 rfl f_12_211 rfl (jfin_no TX12 RX12 92 rfl rfl) hD J Sm rfl rfl rfl (pw_125_10 (by omega)) rfl (fun h w3 J Sm => ?_)
  refine x_goto (tgt := 149) rfl rfl ?_
  exact jX.sub (jsb_c rfl jsb_n) (k149 v2 g1 g2 g3 h (by omega) (jr_of rfl (by omega)) (jr_of rfl (by omega)) (jr_of rfl (by omega)) (jr_of rfl (by omega)) (by omega) (by omega) (by omega) (jmw w3) (jmo w3 rfl (jml w1 z1)) (jmo w3 rfl (jml w1 z2)) (jmo w3 rfl (jml w1 z3)) J Sm)
set_option maxRecDepth 100000 in
set_option maxHeartbeats 4000000 in
theorem ct_X12_next_r125_149 {Dy : jH → Prop} {h0 : jH} {Q : Option Value → jH → Prop} (hD : jDk Dy) (hQ : ∀ h', jJ jSgM Dy h' → jSm fp_X12_next_r125 h0 h' → ∀ u0 u1 u2 : Int32, jiv h' 125 10 = u0 → jiv h' 125 8 = u1 → jiv h' 125 9 = u2 → (u0.toInt ≤ u1.toInt ∧ u2.toInt ≤ u0.toInt) → Q none h') : ∀ r : Nat, ∀ (g0 : Int32) (g1 : Int32) (g2 : Int32) (g3 : Int32) (h : jH), 400 - g0.toInt < (r : Int) → 0 ≤ g0.toInt ∧ g0.toInt ≤ 400 → 0 ≤ g1.toInt ∧ g1.toInt ≤ 3 → 0 ≤ g2.toInt ∧ g2.toInt ≤ 400 → 0 ≤ g3.toInt ∧ g3.toInt ≤ 400 → g3.toInt - g2.toInt ≤ 0 → g0.toInt - g2.toInt ≤ 0 → g3.toInt - g0.toInt ≤ 0 → jiv h 125 10 = g0 → jiv h 125 11 = g1 → jiv h 125 8 = g2 → jiv h 125 9 = g3 → jJ jSgM Dy h → jSm fp_X12_next_r125 h0 h → jX m_X12_next 2 0 0 149 [(0, .ref 125)] [] h 0 0 Q := by
  intro r
  induction r with
  | zero =>
    intro g0 g1 g2 g3 h hm y0 y1 y2 y3 y4 y5 y6 z0 z1 z2 z3  J Sm
    exfalso
    omega
  | succ r ih =>
    intro g0 g1 g2 g3 h hm y0 y1 y2 y3 y4 y5 y6 z0 z1 z2 z3  J Sm
    refine x_aloadn (x := 125) rfl rfl ?_
    refine z_getM (N := 92) (v := g1) 12 11 rfl f_12_235 rfl J rfl z1 ?_
    refine x_iconst (v := 1) rfl ki_1 ?_
    refine x_icne (tgt := 243) rfl rfl (ti_ne rfl jk_1 ⟨fun c1 => ?_, fun c1 => ?_⟩)
    ·
      exact jX.sub (jsb_c rfl jsb_n) (ct_X12_next_r125_243 hD hQ  401 g0 g1 g2 g3 h (by omega) (jr_of rfl (by omega)) (jr_of rfl (by omega)) (jr_of rfl (by omega)) (jr_of rfl (by omega)) (by omega) (by omega) (by omega) z0 z1 z2 z3 J Sm)
    ·
      refine x_aloadn (x := 125) rfl rfl ?_
      refine z_getM (N := 92) (v := g0) 12 10 rfl f_12_211 rfl J rfl z0 ?_
      refine x_aloadn (x := 125) rfl rfl ?_
      refine z_getM (N := 92) (v := g2) 12 8 rfl f_12_201 rfl J rfl z2 ?_
      refine x_icge (tgt := 243) rfl rfl (ti_ge rfl rfl ⟨fun c2 => ?_, fun c2 => ?_⟩)
      ·
        exact jX.sub (jsb_c rfl jsb_n) (ct_X12_next_r125_243 hD hQ  401 g0 g1 g2 g3 h (by omega) (jr_of rfl (by omega)) (jr_of rfl (by omega)) (jr_of rfl (by omega)) (jr_of rfl (by omega)) (by omega) (by omega) (by omega) z0 z1 z2 z3 J Sm)
      ·
        refine x_aloadn (x := 125) rfl rfl ?_
        refine z_getR (N := 92) (b := 131) 12 7 rfl f_12_29 rfl J rfl 16007 ⟨rfl, rfl⟩ rfl ?_
        refine x_aloadn (x := 125) rfl rfl ?_
        refine z_getM (N := 92) (v := g0) 12 10 rfl f_12_211 rfl J rfl z0 ?_
        refine z_iald (N := 400) rfl J rfl sg_131_0_400_1_0_1 rfl (by omega) (fun v3 qv3 ev3 => ?_)
        refine x_inst (N := m_X12_isSmall) (As := [.int v3]) (st := []) (d' := 1) (mc := 0) (ms := 0) (host := "") rfl t_X12_isSmall ⟨Or.inl q_12_228, s_X12_isSmall⟩ rfl (by decide) rfl rfl ⟨by decide, by decide⟩ (jC.of rfl k_X12_isSmall rfl ?_)
        show jX m_X12_isSmall 1 0 0 0 [(0, .int v3)] [] _ 0 0 _
        refine x_iloadn (x := v3) rfl rfl ?_
        refine x_bipush (v := 97) rfl kb_97 ?_
        refine x_iclt (tgt := 16) rfl rfl (ti_lt rfl jk_97 ⟨fun c4 => ?_, fun c4 => ?_⟩)
        ·
          refine x_iconst (v := 0) rfl ki_0 ?_
          refine x_zret rfl rfl (by decide) ?_
          show jX m_X12_next 2 0 0 180 [(0, .ref 125)] [.int 0] _ 0 0 _
          refine x_ifeq (tgt := 243) rfl rfl (ti_eq jk_0 jk_0 (br_t (by omega) ?_))
          exact jX.sub (jsb_c rfl jsb_n) (ct_X12_next_r125_243 hD hQ  401 g0 g1 g2 g3 h (by omega) (jr_of rfl (by omega)) (jr_of rfl (by omega)) (jr_of rfl (by omega)) (jr_of rfl (by omega)) (by omega) (by omega) (by omega) z0 z1 z2 z3 J Sm)
        ·
          refine x_iloadn (x := v3) rfl rfl ?_
          refine x_bipush (v := 122) rfl kb_122 ?_
          refine x_icgt (tgt := 16) rfl rfl (ti_gt rfl jk_122 ⟨fun c5 => ?_, fun c5 => ?_⟩)
          ·
            refine x_iconst (v := 0) rfl ki_0 ?_
            refine x_zret rfl rfl (by decide) ?_
            show jX m_X12_next 2 0 0 180 [(0, .ref 125)] [.int 0] _ 0 0 _
            refine x_ifeq (tgt := 243) rfl rfl (ti_eq jk_0 jk_0 (br_t (by omega) ?_))
            exact jX.sub (jsb_c rfl jsb_n) (ct_X12_next_r125_243 hD hQ  401 g0 g1 g2 g3 h (by omega) (jr_of rfl (by omega)) (jr_of rfl (by omega)) (jr_of rfl (by omega)) (jr_of rfl (by omega)) (by omega) (by omega) (by omega) z0 z1 z2 z3 J Sm)
          ·
            refine x_iconst (v := 1) rfl ki_1 ?_
            refine x_goto (tgt := 17) rfl rfl ?_
            refine x_zret rfl rfl (by decide) ?_
            show jX m_X12_next 2 0 0 180 [(0, .ref 125)] [.int 1] _ 0 0 _
            refine x_ifeq (tgt := 243) rfl rfl (ti_eq jk_1 jk_0 (br_f (by omega) ?_))
            refine x_aloadn (x := 125) rfl rfl ?_
            refine x_aloadn (x := 125) rfl rfl ?_
            refine z_getM (N := 92) (v := g0) 12 10 rfl f_12_211 rfl J rfl z0 ?_
            refine x_aloadn (x := 125) rfl rfl ?_
            refine z_getM (N := 92) (v := g3) 12 9 rfl f_12_221 rfl J rfl z3 ?_
            refine z_isub rfl rfl rfl (by omega) (fun v6 ev6 => ?_)
            refine x_bipush (v := 12) rfl kb_12 ?_
            refine x_icge (tgt := 224) rfl rfl (ti_ge rfl jk_12 ⟨fun c7 => ?_, fun c7 => ?_⟩)
            ·
              refine x_ldc2 (v := (-1)) rfl z_12_242 ?_
              exact jX.sub (jsb_c rfl jsb_n) (ct_X12_next_r125_5000227 hD hQ ih g0 g1 g2 g3 h (jr_of rfl (by omega)) (jr_of rfl (by omega)) (jr_of rfl (by omega)) (jr_of rfl (by omega)) z0 z1 z2 z3 (by omega) J Sm)
            ·
              refine x_aloadn (x := 125) rfl rfl ?_
              refine z_getL0 (N := 92) 12 12 rfl f_12_224 rfl J rfl (fun v8 => ?_)
              have ev8 := jfullL v8
              refine x_ldc2 (v := 32) rfl z_12_238 ?_
              refine z_lmul0 rfl (fun v9 => ?_)
              have ev9 := jfullL v9
              refine x_aloadn (x := 125) rfl rfl ?_
              refine z_getR (N := 92) (b := 131) 12 7 rfl f_12_29 rfl J rfl 16007 ⟨rfl, rfl⟩ rfl ?_
              refine x_aloadn (x := 125) rfl rfl ?_
              refine z_getM (N := 92) (v := g0) 12 10 rfl f_12_211 rfl J rfl z0 ?_
              refine z_ialdM (N := 400) (v := v3) rfl J rfl rfl (by omega) qv3 ?_
              refine z_i2l rfl rfl (fun v10 ev10 => ?_)
              refine z_ladd0 rfl (fun v11 => ?_)
              have ev11 := jfullL v11
              refine x_ldc2 (v := 96) rfl z_12_240 ?_
              refine z_lsub0 rfl (fun v12 => ?_)
              have ev12 := jfullL v12
              refine x_goto (tgt := 227) rfl rfl ?_
              exact jX.sub (jsb_c rfl jsb_n) (ct_X12_next_r125_227 hD hQ ih v12 g0 g1 g2 g3 h (jr_of rfl (by omega)) (jr_of rfl (by omega)) (jr_of rfl (by omega)) (jr_of rfl (by omega)) (by omega) (by omega) (by omega) z0 z1 z2 z3 (by omega) J Sm)
set_option maxRecDepth 100000 in
set_option maxHeartbeats 4000000 in
theorem ct_X12_next_r125_500114 {Dy : jH → Prop} {h0 : jH} {Q : Option Value → jH → Prop} (hD : jDk Dy) (hQ : ∀ h', jJ jSgM Dy h' → jSm fp_X12_next_r125 h0 h' → ∀ u0 u1 u2 : Int32, jiv h' 125 10 = u0 → jiv h' 125 8 = u1 → jiv h' 125 9 = u2 → (u0.toInt ≤ u1.toInt ∧ u2.toInt ≤ u0.toInt) → Q none h') : ∀ (g0 : Int32) (g1 : Int32) (g2 : Int32) (h : jH), 0 ≤ g0.toInt ∧ g0.toInt ≤ 399 → 1 ≤ g1.toInt ∧ g1.toInt ≤ 400 → 0 ≤ g2.toInt ∧ g2.toInt ≤ 399 → g2.toInt - g1.toInt ≤ 0 → g0.toInt - g1.toInt ≤ 0 → g2.toInt - g0.toInt ≤ 0 → jiv h 125 10 = g0 → jiv h 125 8 = g1 → jiv h 125 9 = g2 → jJ jSgM Dy h → jSm fp_X12_next_r125 h0 h → jX m_X12_next 2 0 0 114 [(0, .ref 125)] [.int 3, .ref 125] h 0 0 Q := by
  intro g0 g1 g2 h y0 y1 y2 y3 y4 y5 z0 z1 z2  J Sm
  refine z_putI (N := 92) (w := 3) 12 11 rfl f_12_235 rfl (jfin_no TX12 RX12 92 rfl rfl) hD J Sm rfl rfl jk_3 (pw_125_11 (by omega)) rfl (fun h w1 J Sm => ?_)
  refine x_aloadn (x := 125) rfl rfl ?_
  refine z_getM (N := 92) (v := 3) 12 11 rfl f_12_235 rfl J rfl (jmw w1) ?_
  refine x_iconst (v := 3) rfl ki_3 ?_
  refine x_icne (tgt := 149) rfl rfl (ti_ne jk_3 jk_3 (bn_f (by omega) ?_))
  refine x_aloadn (x := 125) rfl rfl ?_
  refine x_aloadn (x := 125) rfl rfl ?_
  refine z_getR (N := 92) (b := 131) 12 7 rfl f_12_29 rfl J rfl 16007 ⟨rfl, rfl⟩ rfl ?_
  refine x_aloadn (x := 125) rfl rfl ?_
  refine z_getM (N := 92) (v := g2) 12 9 rfl f_12_221 rfl J rfl (jmo w1 rfl z2) ?_
  refine z_iald (N := 400) rfl J rfl sg_131_0_400_1_0_1 rfl (by omega) (fun v2 qv2 ev2 => ?_)
  refine z_i2l rfl rfl (fun v3 ev3 => ?_)
  refine z_putL (N := 92) 12 12 rfl f_12_224 rfl (jfin_no TX12 RX12 92 rfl rfl) hD J Sm rfl rfl rfl (fun h w4 J Sm => ?_)
  refine x_aloadn (x := 125) rfl rfl ?_
  refine x_dup rfl rfl ?_
  refine z_getM (N := 92) (v := g0) 12 10 rfl f_12_211 rfl J rfl (jml w4 (jmo w1 rfl z0)) ?_
  refine x_iconst (v := 1) rfl ki_1 ?_
  refine z_iadd rfl rfl jk_1 (by omega) (fun v5 ev5 => ?_)
  refine z_putI (N := 92) (w := v5.toInt) 12 10 rfl f_12_211 rfl (jfin_no TX12 RX12 92 rfl rfl) hD J Sm rfl rfl rfl (pw_125_10 (by omega)) rfl (fun h w6 J Sm => ?_)
  exact jX.sub (jsb_c rfl jsb_n) (ct_X12_next_r125_149 hD hQ  401 v5 3 g1 g2 h (by omega) (jr_of rfl (by omega)) (jr_of jk_3 (by omega)) (jr_of rfl (by omega)) (jr_of rfl (by omega)) (by omega) (by omega) (by omega) (jmw w6) (jmo w6 rfl (jml w4 (jmw w1))) (jmo w6 rfl (jml w4 (jmo w1 rfl z1))) (jmo w6 rfl (jml w4 (jmo w1 rfl z2))) J Sm)
set_option maxRecDepth 100000 in
set_option maxHeartbeats 4000000 in
theorem ct_X12_next_r125_400114 {Dy : jH → Prop} {h0 : jH} {Q : Option Value → jH → Prop} (hD : jDk Dy) (hQ : ∀ h', jJ jSgM Dy h' → jSm fp_X12_next_r125 h0 h' → ∀ u0 u1 u2 : Int32, jiv h' 125 10 = u0 → jiv h' 125 8 = u1 → jiv h' 125 9 = u2 → (u0.toInt ≤ u1.toInt ∧ u2.toInt ≤ u0.toInt) → Q none h') : ∀ (g0 : Int32) (g1 : Int32) (g2 : Int32) (h : jH), 0 ≤ g0.toInt ∧ g0.toInt ≤ 399 → 1 ≤ g1.toInt ∧ g1.toInt ≤ 400 → 0 ≤ g2.toInt ∧ g2.toInt ≤ 399 → g2.toInt - g1.toInt ≤ 0 → g0.toInt - g1.toInt ≤ 0 → g2.toInt - g0.toInt ≤ 0 → jiv h 125 10 = g0 → jiv h 125 8 = g1 → jiv h 125 9 = g2 → jJ jSgM Dy h → jSm fp_X12_next_r125 h0 h → jX m_X12_next 2 0 0 114 [(0, .ref 125)] [.int 2, .ref 125] h 0 0 Q := by
  intro g0 g1 g2 h y0 y1 y2 y3 y4 y5 z0 z1 z2  J Sm
  refine z_putI (N := 92) (w := 2) 12 11 rfl f_12_235 rfl (jfin_no TX12 RX12 92 rfl rfl) hD J Sm rfl rfl jk_2 (pw_125_11 (by omega)) rfl (fun h w1 J Sm => ?_)
  refine x_aloadn (x := 125) rfl rfl ?_
  refine z_getM (N := 92) (v := 2) 12 11 rfl f_12_235 rfl J rfl (jmw w1) ?_
  refine x_iconst (v := 3) rfl ki_3 ?_
  refine x_icne (tgt := 149) rfl rfl (ti_ne jk_2 jk_3 (bn_t (by omega) ?_))
  exact jX.sub (jsb_c rfl jsb_n) (ct_X12_next_r125_149 hD hQ  401 g0 2 g1 g2 h (by omega) (jr_of rfl (by omega)) (jr_of jk_2 (by omega)) (jr_of rfl (by omega)) (jr_of rfl (by omega)) (by omega) (by omega) (by omega) (jmo w1 rfl z0) (jmw w1) (jmo w1 rfl z1) (jmo w1 rfl z2) J Sm)
set_option maxRecDepth 100000 in
set_option maxHeartbeats 4000000 in
theorem ct_X12_next_r125_300114 {Dy : jH → Prop} {h0 : jH} {Q : Option Value → jH → Prop} (hD : jDk Dy) (hQ : ∀ h', jJ jSgM Dy h' → jSm fp_X12_next_r125 h0 h' → ∀ u0 u1 u2 : Int32, jiv h' 125 10 = u0 → jiv h' 125 8 = u1 → jiv h' 125 9 = u2 → (u0.toInt ≤ u1.toInt ∧ u2.toInt ≤ u0.toInt) → Q none h') : ∀ (g0 : Int32) (g1 : Int32) (g2 : Int32) (h : jH), 0 ≤ g0.toInt ∧ g0.toInt ≤ 399 → 1 ≤ g1.toInt ∧ g1.toInt ≤ 400 → 0 ≤ g2.toInt ∧ g2.toInt ≤ 399 → g2.toInt - g1.toInt ≤ 0 → g0.toInt - g1.toInt ≤ 0 → g2.toInt - g0.toInt ≤ 0 → jiv h 125 10 = g0 → jiv h 125 8 = g1 → jiv h 125 9 = g2 → jJ jSgM Dy h → jSm fp_X12_next_r125 h0 h → jX m_X12_next 2 0 0 114 [(0, .ref 125)] [.int 1, .ref 125] h 0 0 Q := by
  intro g0 g1 g2 h y0 y1 y2 y3 y4 y5 z0 z1 z2  J Sm
  refine z_putI (N := 92) (w := 1) 12 11 rfl f_12_235 rfl (jfin_no TX12 RX12 92 rfl rfl) hD J Sm rfl rfl jk_1 (pw_125_11 (by omega)) rfl (fun h w1 J Sm => ?_)
  refine x_aloadn (x := 125) rfl rfl ?_
  refine z_getM (N := 92) (v := 1) 12 11 rfl f_12_235 rfl J rfl (jmw w1) ?_
  refine x_iconst (v := 3) rfl ki_3 ?_
  refine x_icne (tgt := 149) rfl rfl (ti_ne jk_1 jk_3 (bn_t (by omega) ?_))
  exact jX.sub (jsb_c rfl jsb_n) (ct_X12_next_r125_149 hD hQ  401 g0 1 g1 g2 h (by omega) (jr_of rfl (by omega)) (jr_of jk_1 (by omega)) (jr_of rfl (by omega)) (jr_of rfl (by omega)) (by omega) (by omega) (by omega) (jmo w1 rfl z0) (jmw w1) (jmo w1 rfl z1) (jmo w1 rfl z2) J Sm)
set_option maxRecDepth 100000 in
set_option maxHeartbeats 4000000 in
theorem ct_X12_next_r125_200114 {Dy : jH → Prop} {h0 : jH} {Q : Option Value → jH → Prop} (hD : jDk Dy) (hQ : ∀ h', jJ jSgM Dy h' → jSm fp_X12_next_r125 h0 h' → ∀ u0 u1 u2 : Int32, jiv h' 125 10 = u0 → jiv h' 125 8 = u1 → jiv h' 125 9 = u2 → (u0.toInt ≤ u1.toInt ∧ u2.toInt ≤ u0.toInt) → Q none h') : ∀ (g0 : Int32) (g1 : Int32) (g2 : Int32) (h : jH), 0 ≤ g0.toInt ∧ g0.toInt ≤ 400 → 0 ≤ g1.toInt ∧ g1.toInt ≤ 400 → 0 ≤ g2.toInt ∧ g2.toInt ≤ 400 → g2.toInt - g1.toInt ≤ 0 → g0.toInt - g1.toInt ≤ 0 → g2.toInt - g0.toInt ≤ 0 → jiv h 125 10 = g0 → jiv h 125 8 = g1 → jiv h 125 9 = g2 → jJ jSgM Dy h → jSm fp_X12_next_r125 h0 h → jX m_X12_next 2 0 0 114 [(0, .ref 125)] [.int 0, .ref 125] h 0 0 Q := by
  intro g0 g1 g2 h y0 y1 y2 y3 y4 y5 z0 z1 z2  J Sm
  refine z_putI (N := 92) (w := 0) 12 11 rfl f_12_235 rfl (jfin_no TX12 RX12 92 rfl rfl) hD J Sm rfl rfl jk_0 (pw_125_11 (by omega)) rfl (fun h w1 J Sm => ?_)
  refine x_aloadn (x := 125) rfl rfl ?_
  refine z_getM (N := 92) (v := 0) 12 11 rfl f_12_235 rfl J rfl (jmw w1) ?_
  refine x_iconst (v := 3) rfl ki_3 ?_
  refine x_icne (tgt := 149) rfl rfl (ti_ne jk_0 jk_3 (bn_t (by omega) ?_))
  exact jX.sub (jsb_c rfl jsb_n) (ct_X12_next_r125_149 hD hQ  401 g0 0 g1 g2 h (by omega) (jr_of rfl (by omega)) (jr_of jk_0 (by omega)) (jr_of rfl (by omega)) (jr_of rfl (by omega)) (by omega) (by omega) (by omega) (jmo w1 rfl z0) (jmw w1) (jmo w1 rfl z1) (jmo w1 rfl z2) J Sm)
set_option maxRecDepth 100000 in
set_option maxHeartbeats 4000000 in
theorem ct_X12_next_r125_46 {Dy : jH → Prop} {h0 : jH} {Q : Option Value → jH → Prop} (hD : jDk Dy) (hQ : ∀ h', jJ jSgM Dy h' → jSm fp_X12_next_r125 h0 h' → ∀ u0 u1 u2 : Int32, jiv h' 125 10 = u0 → jiv h' 125 8 = u1 → jiv h' 125 9 = u2 → (u0.toInt ≤ u1.toInt ∧ u2.toInt ≤ u0.toInt) → Q none h') : ∀ (g0 : Int32) (g1 : Int32) (g2 : Int32) (h : jH), 0 ≤ g0.toInt ∧ g0.toInt ≤ 400 → 0 ≤ g1.toInt ∧ g1.toInt ≤ 400 → 0 ≤ g2.toInt ∧ g2.toInt ≤ 400 → g2.toInt - g1.toInt ≤ 0 → g0.toInt - g1.toInt ≤ 0 → jiv h 125 10 = g0 → jiv h 125 8 = g1 → jiv h 125 9 = g2 → jJ jSgM Dy h → jSm fp_X12_next_r125 h0 h → jX m_X12_next 2 0 0 46 [(0, .ref 125)] [] h 0 0 Q := by
  intro g0 g1 g2 h y0 y1 y2 y3 y4 z0 z1 z2  J Sm
  refine x_aloadn (x := 125) rfl rfl ?_
  refine x_aloadn (x := 125) rfl rfl ?_
  refine z_getM (N := 92) (v := g2) 12 9 rfl f_12_221 rfl J rfl z2 ?_
  refine z_putI (N := 92) (w := g2.toInt) 12 10 rfl f_12_211 rfl (jfin_no TX12 RX12 92 rfl rfl) hD J Sm rfl rfl rfl (pw_125_10 (by omega)) rfl (fun h w1 J Sm => ?_)
  refine x_aloadn (x := 125) rfl rfl ?_
  refine x_lconst (v := 0) rfl kl_0 ?_
  refine z_putL (N := 92) 12 12 rfl f_12_224 rfl (jfin_no TX12 RX12 92 rfl rfl) hD J Sm rfl rfl rfl (fun h w2 J Sm => ?_)
  refine x_aloadn (x := 125) rfl rfl ?_
  refine x_aloadn (x := 125) rfl rfl ?_
  refine z_getM (N := 92) (v := g2) 12 9 rfl f_12_221 rfl J rfl (jml w2 (jmo w1 rfl z2)) ?_
  refine x_aloadn (x := 125) rfl rfl ?_
  refine z_getM (N := 92) (v := g1) 12 8 rfl f_12_201 rfl J rfl (jml w2 (jmo w1 rfl z1)) ?_
  refine x_icne (tgt := 75) rfl rfl (ti_ne rfl rfl ⟨fun c3 => ?_, fun c3 => ?_⟩)
  ·
    refine x_aloadn (x := 125) rfl rfl ?_
    refine z_getR (N := 92) (b := 131) 12 7 rfl f_12_29 rfl J rfl 16007 ⟨rfl, rfl⟩ rfl ?_
    refine x_aloadn (x := 125) rfl rfl ?_
    refine z_getM (N := 92) (v := g2) 12 9 rfl f_12_221 rfl J rfl (jml w2 (jmo w1 rfl z2)) ?_
    refine z_iald (N := 400) rfl J rfl sg_131_0_400_1_0_1 rfl (by omega) (fun v4 qv4 ev4 => ?_)
    refine x_inst (N := m_X12_isSmall) (As := [.int v4]) (st := [.ref 125]) (d' := 1) (mc := 0) (ms := 0) (host := "") rfl t_X12_isSmall ⟨Or.inl q_12_228, s_X12_isSmall⟩ rfl (by decide) rfl rfl ⟨by decide, by decide⟩ (jC.of rfl k_X12_isSmall rfl ?_)
    show jX m_X12_isSmall 1 0 0 0 [(0, .int v4)] [] _ 0 0 _
    refine x_iloadn (x := v4) rfl rfl ?_
    refine x_bipush (v := 97) rfl kb_97 ?_
    refine x_iclt (tgt := 16) rfl rfl (ti_lt rfl jk_97 ⟨fun c5 => ?_, fun c5 => ?_⟩)
    ·
      refine x_iconst (v := 0) rfl ki_0 ?_
      refine x_zret rfl rfl (by decide) ?_
      show jX m_X12_next 2 0 0 87 [(0, .ref 125)] [.int 0, .ref 125] _ 0 0 _
      refine x_ifeq (tgt := 94) rfl rfl (ti_eq jk_0 jk_0 (br_t (by omega) ?_))
      refine x_aloadn (x := 125) rfl rfl ?_
      refine z_getR (N := 92) (b := 131) 12 7 rfl f_12_29 rfl J rfl 16007 ⟨rfl, rfl⟩ rfl ?_
      refine x_aloadn (x := 125) rfl rfl ?_
      refine z_getM (N := 92) (v := g2) 12 9 rfl f_12_221 rfl J rfl (jml w2 (jmo w1 rfl z2)) ?_
      refine z_ialdM (N := 400) (v := v4) rfl J rfl rfl (by omega) qv4 ?_
      refine x_inst (N := m_X12_isDigit) (As := [.int v4]) (st := [.ref 125]) (d' := 1) (mc := 0) (ms := 0) (host := "") rfl t_X12_isDigit ⟨Or.inl q_12_232, s_X12_isDigit⟩ rfl (by decide) rfl rfl ⟨by decide, by decide⟩ (jC.of rfl k_X12_isDigit rfl ?_)
      show jX m_X12_isDigit 1 0 0 0 [(0, .int v4)] [] _ 0 0 _
      refine x_iloadn (x := v4) rfl rfl ?_
      refine x_bipush (v := 48) rfl kb_48 ?_
      refine x_iclt (tgt := 16) rfl rfl (ti_lt rfl jk_48 ⟨fun c6 => ?_, fun c6 => ?_⟩)
      ·
        refine x_iconst (v := 0) rfl ki_0 ?_
        refine x_zret rfl rfl (by decide) ?_
        show jX m_X12_next 2 0 0 106 [(0, .ref 125)] [.int 0, .ref 125] _ 0 0 _
        refine x_ifeq (tgt := 113) rfl rfl (ti_eq jk_0 jk_0 (br_t (by omega) ?_))
        refine x_iconst (v := 3) rfl ki_3 ?_
        exact jX.sub (jsb_c rfl jsb_n) (ct_X12_next_r125_500114 hD hQ  g2 g1 g2 h (jr_of rfl (by omega)) (jr_of rfl (by omega)) (jr_of rfl (by omega)) (by omega) (by omega) (by omega) (jml w2 (jmw w1)) (jml w2 (jmo w1 rfl z1)) (jml w2 (jmo w1 rfl z2)) J Sm)
      ·
        refine x_iloadn (x := v4) rfl rfl ?_
        refine x_bipush (v := 57) rfl kb_57 ?_
        refine x_icgt (tgt := 16) rfl rfl (ti_gt rfl jk_57 ⟨fun c7 => ?_, fun c7 => ?_⟩)
        ·
          refine x_iconst (v := 0) rfl ki_0 ?_
          refine x_zret rfl rfl (by decide) ?_
          show jX m_X12_next 2 0 0 106 [(0, .ref 125)] [.int 0, .ref 125] _ 0 0 _
          refine x_ifeq (tgt := 113) rfl rfl (ti_eq jk_0 jk_0 (br_t (by omega) ?_))
          refine x_iconst (v := 3) rfl ki_3 ?_
          exact jX.sub (jsb_c rfl jsb_n) (ct_X12_next_r125_500114 hD hQ  g2 g1 g2 h (jr_of rfl (by omega)) (jr_of rfl (by omega)) (jr_of rfl (by omega)) (by omega) (by omega) (by omega) (jml w2 (jmw w1)) (jml w2 (jmo w1 rfl z1)) (jml w2 (jmo w1 rfl z2)) J Sm)
        ·
          refine x_iconst (v := 1) rfl ki_1 ?_
          refine x_goto (tgt := 17) rfl rfl ?_
          refine x_zret rfl rfl (by decide) ?_
          show jX m_X12_next 2 0 0 106 [(0, .ref 125)] [.int 1, .ref 125] _ 0 0 _
          refine x_ifeq (tgt := 113) rfl rfl (ti_eq jk_1 jk_0 (br_f (by omega) ?_))
          refine x_iconst (v := 2) rfl ki_2 ?_
          refine x_goto (tgt := 114) rfl rfl ?_
          exact jX.sub (jsb_c rfl jsb_n) (ct_X12_next_r125_400114 hD hQ  g2 g1 g2 h (jr_of rfl (by omega)) (jr_of rfl (by omega)) (jr_of rfl (by omega)) (by omega) (by omega) (by omega) (jml w2 (jmw w1)) (jml w2 (jmo w1 rfl z1)) (jml w2 (jmo w1 rfl z2)) J Sm)
    ·
      refine x_iloadn (x := v4) rfl rfl ?_
      refine x_bipush (v := 122) rfl kb_122 ?_
      refine x_icgt (tgt := 16) rfl rfl (ti_gt rfl jk_122 ⟨fun c8 => ?_, fun c8 => ?_⟩)
      ·
        refine x_iconst (v := 0) rfl ki_0 ?_
        refine x_zret rfl rfl (by decide) ?_
        show jX m_X12_next 2 0 0 87 [(0, .ref 125)] [.int 0, .ref 125] _ 0 0 _
        refine x_ifeq (tgt := 94) rfl rfl (ti_eq jk_0 jk_0 (br_t (by omega) ?_))
        refine x_aloadn (x := 125) rfl rfl ?_
        refine z_getR (N := 92) (b := 131) 12 7 rfl f_12_29 rfl J rfl 16007 ⟨rfl, rfl⟩ rfl ?_
        refine x_aloadn (x := 125) rfl rfl ?_
        refine z_getM (N := 92) (v := g2) 12 9 rfl f_12_221 rfl J rfl (jml w2 (jmo w1 rfl z2)) ?_
        refine z_ialdM (N := 400) (v := v4) rfl J rfl rfl (by omega) qv4 ?_
        refine x_inst (N := m_X12_isDigit) (As := [.int v4]) (st := [.ref 125]) (d' := 1) (mc := 0) (ms := 0) (host := "") rfl t_X12_isDigit ⟨Or.inl q_12_232, s_X12_isDigit⟩ rfl (by decide) rfl rfl ⟨by decide, by decide⟩ (jC.of rfl k_X12_isDigit rfl ?_)
        show jX m_X12_isDigit 1 0 0 0 [(0, .int v4)] [] _ 0 0 _
        refine x_iloadn (x := v4) rfl rfl ?_
        refine x_bipush (v := 48) rfl kb_48 ?_
        refine x_iclt (tgt := 16) rfl rfl (ti_lt rfl jk_48 (br_f (by omega) ?_))
        refine x_iloadn (x := v4) rfl rfl ?_
        refine x_bipush (v := 57) rfl kb_57 ?_
        refine x_icgt (tgt := 16) rfl rfl (ti_gt rfl jk_57 (br_t (by omega) ?_))
        refine x_iconst (v := 0) rfl ki_0 ?_
        refine x_zret rfl rfl (by decide) ?_
        show jX m_X12_next 2 0 0 106 [(0, .ref 125)] [.int 0, .ref 125] _ 0 0 _
        refine x_ifeq (tgt := 113) rfl rfl (ti_eq jk_0 jk_0 (br_t (by omega) ?_))
        refine x_iconst (v := 3) rfl ki_3 ?_
        exact jX.sub (jsb_c rfl jsb_n) (ct_X12_next_r125_500114 hD hQ  g2 g1 g2 h (jr_of rfl (by omega)) (jr_of rfl (by omega)) (jr_of rfl (by omega)) (by omega) (by omega) (by omega) (jml w2 (jmw w1)) (jml w2 (jmo w1 rfl z1)) (jml w2 (jmo w1 rfl z2)) J Sm)
      ·
        refine x_iconst (v := 1) rfl ki_1 ?_
        refine x_goto (tgt := 17) rfl rfl ?_
        refine x_zret rfl rfl (by decide) ?_
        show jX m_X12_next 2 0 0 87 [(0, .ref 125)] [.int 1, .ref 125] _ 0 0 _
        refine x_ifeq (tgt := 94) rfl rfl (ti_eq jk_1 jk_0 (br_f (by omega) ?_))
        refine x_iconst (v := 1) rfl ki_1 ?_
        refine x_goto (tgt := 114) rfl rfl ?_
        exact jX.sub (jsb_c rfl jsb_n) (ct_X12_next_r125_300114 hD hQ  g2 g1 g2 h (jr_of rfl (by omega)) (jr_of rfl (by omega)) (jr_of rfl (by omega)) (by omega) (by omega) (by omega) (jml w2 (jmw w1)) (jml w2 (jmo w1 rfl z1)) (jml w2 (jmo w1 rfl z2)) J Sm)
  ·
    refine x_iconst (v := 0) rfl ki_0 ?_
    refine x_goto (tgt := 114) rfl rfl ?_
    exact jX.sub (jsb_c rfl jsb_n) (ct_X12_next_r125_200114 hD hQ  g2 g1 g2 h (jr_of rfl (by omega)) (jr_of rfl (by omega)) (jr_of rfl (by omega)) (by omega) (by omega) (by omega) (jml w2 (jmw w1)) (jml w2 (jmo w1 rfl z1)) (jml w2 (jmo w1 rfl z2)) J Sm)
set_option maxRecDepth 100000 in
set_option maxHeartbeats 4000000 in
theorem ct_X12_next_r125_8 {Dy : jH → Prop} {h0 : jH} {Q : Option Value → jH → Prop} (hD : jDk Dy) (hQ : ∀ h', jJ jSgM Dy h' → jSm fp_X12_next_r125 h0 h' → ∀ u0 u1 u2 : Int32, jiv h' 125 10 = u0 → jiv h' 125 8 = u1 → jiv h' 125 9 = u2 → (u0.toInt ≤ u1.toInt ∧ u2.toInt ≤ u0.toInt) → Q none h') : ∀ r : Nat, ∀ (g0 : Int32) (g1 : Int32) (g2 : Int32) (h : jH), 400 - g2.toInt < (r : Int) → 0 ≤ g0.toInt ∧ g0.toInt ≤ 400 → 0 ≤ g1.toInt ∧ g1.toInt ≤ 400 → 0 ≤ g2.toInt ∧ g2.toInt ≤ 400 → g2.toInt - g1.toInt ≤ 0 → jiv h 125 10 = g0 → jiv h 125 8 = g1 → jiv h 125 9 = g2 → jJ jSgM Dy h → jSm fp_X12_next_r125 h0 h → jX m_X12_next 2 0 0 8 [(0, .ref 125)] [] h 0 0 Q := by
  intro r
  induction r with
  | zero =>
    intro g0 g1 g2 h hm y0 y1 y2 y3 z0 z1 z2  J Sm
    exfalso
    omega
  | succ r ih =>
    intro g0 g1 g2 h hm y0 y1 y2 y3 z0 z1 z2  J Sm
    refine x_aloadn (x := 125) rfl rfl ?_
    refine z_getM (N := 92) (v := g2) 12 9 rfl f_12_221 rfl J rfl z2 ?_
    refine x_aloadn (x := 125) rfl rfl ?_
    refine z_getM (N := 92) (v := g1) 12 8 rfl f_12_201 rfl J rfl z1 ?_
    refine x_icge (tgt := 46) rfl rfl (ti_ge rfl rfl ⟨fun c1 => ?_, fun c1 => ?_⟩)
    ·
      exact jX.sub (jsb_c rfl jsb_n) (ct_X12_next_r125_46 hD hQ  g0 g1 g2 h (jr_of rfl (by omega)) (jr_of rfl (by omega)) (jr_of rfl (by omega)) (by omega) (by omega) z0 z1 z2 J Sm)
    ·
      refine x_aloadn (x := 125) rfl rfl ?_
      refine z_getR (N := 92) (b := 131) 12 7 rfl f_12_29 rfl J rfl 16007 ⟨rfl, rfl⟩ rfl ?_
      refine x_aloadn (x := 125) rfl rfl ?_
      refine z_getM (N := 92) (v := g2) 12 9 rfl f_12_221 rfl J rfl z2 ?_
      refine z_iald (N := 400) rfl J rfl sg_131_0_400_1_0_1 rfl (by omega) (fun v2 qv2 ev2 => ?_)
      refine x_bipush (v := 32) rfl kb_32 ?_
      refine x_icne (tgt := 46) rfl rfl (ti_ne rfl jk_32 ⟨fun c3 => ?_, fun c3 => ?_⟩)
      ·
        exact jX.sub (jsb_c rfl jsb_n) (ct_X12_next_r125_46 hD hQ  g0 g1 g2 h (jr_of rfl (by omega)) (jr_of rfl (by omega)) (jr_of rfl (by omega)) (by omega) (by omega) z0 z1 z2 J Sm)
      ·
        refine x_aloadn (x := 125) rfl rfl ?_
        refine x_dup rfl rfl ?_
        refine z_getM (N := 92) (v := g2) 12 9 rfl f_12_221 rfl J rfl z2 ?_
        refine x_iconst (v := 1) rfl ki_1 ?_
        refine z_iadd rfl rfl jk_1 (by omega) (fun v4 ev4 => ?_)
        refine z_putI (N := 92) (w := v4.toInt) 12 9 rfl f_12_221 rfl (jfin_no TX12 RX12 92 rfl rfl) hD J Sm rfl rfl rfl (pw_125_9 (by omega)) rfl (fun h w5 J Sm => ?_)
        refine x_goto (tgt := 8) rfl rfl ?_
        exact jX.sub (jsb_c rfl jsb_n) (ih g0 g1 v4 h (by omega) (jr_of rfl (by omega)) (jr_of rfl (by omega)) (jr_of rfl (by omega)) (by omega) (jmo w5 rfl z0) (jmo w5 rfl z1) (jmw w5) J Sm)
set_option maxRecDepth 100000 in
set_option maxHeartbeats 4000000 in
theorem sf_X12_next_r125 {Dy : jH → Prop} {h : jH} {Q : Option Value → jH → Prop} (hD : jDk Dy) (J : jJ jSgM Dy h) {p0 p1 p2 : Int32} (zp0 : jiv h 125 10 = p0) (zp1 : jiv h 125 8 = p1) (zp2 : jiv h 125 9 = p2) (rl_p0 : (p0.toInt ≤ p1.toInt ∧ p2.toInt ≤ p0.toInt)) (hQ : ∀ h', jJ jSgM Dy h' → jSm fp_X12_next_r125 h h' → ∀ u0 u1 u2 : Int32, jiv h' 125 10 = u0 → jiv h' 125 8 = u1 → jiv h' 125 9 = u2 → (u0.toInt ≤ u1.toInt ∧ u2.toInt ≤ u0.toInt) → Q none h') : jC m_X12_next 2 0 0 [.ref 125] h Q := by
  refine jC.of rfl k_X12_next rfl ?_
  have Sm := jSm_rf fp_X12_next_r125 h
  have ep0 := (show 0 ≤ p0.toInt ∧ p0.toInt ≤ 400 from zp0 ▸ jrg_f J sg_125_10_11_1_0_1)
  have ep1 := (show 0 ≤ p1.toInt ∧ p1.toInt ≤ 400 from zp1 ▸ jrg_f J sg_125_8_9_1_0_1)
  have ep2 := (show 0 ≤ p2.toInt ∧ p2.toInt ≤ 400 from zp2 ▸ jrg_f J sg_125_9_10_1_0_1)
  show jX m_X12_next 2 0 0 0 [(0, .ref 125)] [] _ 0 0 _
  refine x_aloadn (x := 125) rfl rfl ?_
  refine x_aloadn (x := 125) rfl rfl ?_
  refine z_getM (N := 92) (v := p0) 12 10 rfl f_12_211 rfl J rfl zp0 ?_
  refine z_putI (N := 92) (w := p0.toInt) 12 9 rfl f_12_221 rfl (jfin_no TX12 RX12 92 rfl rfl) hD J Sm rfl rfl rfl (pw_125_9 (by omega)) rfl (fun h w1 J Sm => ?_)
  exact jX.sub (jsb_c rfl jsb_n) (ct_X12_next_r125_8 hD hQ  401 p0 p1 p0 h (by omega) (jr_of rfl (by omega)) (jr_of rfl (by omega)) (jr_of rfl (by omega)) (by omega) (jmo w1 rfl zp0) (jmo w1 rfl zp1) (jmw w1) J Sm)
def fp_X12_readName_r125 : jFp := [(125, 9, 10), (125, 10, 11), (125, 11, 12), (125, 12, 13), (125, 13, 14), (125, 14, 15), (126, 20, 18020)]
set_option maxRecDepth 100000 in
set_option maxHeartbeats 4000000 in
theorem ct_X12_readName_r125_32 {Dy : jH → Prop} {h0 : jH} {Q : Option Value → jH → Prop} (hD : jDk Dy) (hQ : ∀ h', jJ jSgM Dy h' → jSm fp_X12_readName_r125 h0 h' → ∀ u0 u1 u2 : Int32, jiv h' 125 10 = u0 → jiv h' 125 8 = u1 → jiv h' 125 9 = u2 → (u0.toInt ≤ u1.toInt ∧ u2.toInt ≤ u0.toInt) → Q none h') : ∀ (g0 : Int32) (g1 : Int32) (g2 : Int32) (h : jH), 0 ≤ g0.toInt ∧ g0.toInt ≤ 400 → 0 ≤ g1.toInt ∧ g1.toInt ≤ 400 → 0 ≤ g2.toInt ∧ g2.toInt ≤ 400 → (g0.toInt ≤ g1.toInt ∧ g2.toInt ≤ g0.toInt) → jiv h 125 10 = g0 → jiv h 125 8 = g1 → jiv h 125 9 = g2 → jJ jSgM Dy h → jSm fp_X12_readName_r125 h0 h → jX m_X12_readName 4 0 0 32 [(0, .ref 125)] [] h 0 0 Q := by
  intro g0 g1 g2 h y0 y1 y2 y3 z0 z1 z2  J Sm
  refine x_aloadn (x := 125) rfl rfl ?_
  refine x_inv (N := m_X12_next) (As := []) (b := 125) (st := []) (d' := 2) (mc := 0) (ms := 0) (host := "") 12 rfl t_X12_next ⟨Or.inl q_12_218, i_X12_next.1, i_X12_next.2⟩ ⟨by decide, rfl⟩ (congrArg Prod.fst (J.1.1 125 (12, 92) rfl)) rfl (by decide) rfl rfl ⟨by decide, by decide⟩ (sf_X12_next_r125  hD J z0 z1 z2 (by omega)  (fun h J S1 u2 u3 u4 qu2 qu3 qu4 ru2 => ?_))
  have Sm := jSm_tr rfl Sm S1
  have eu2 := (show 0 ≤ u2.toInt ∧ u2.toInt ≤ 400 from qu2 ▸ jrg_f J sg_125_10_11_1_0_1)
  have eu3 := (show 0 ≤ u3.toInt ∧ u3.toInt ≤ 400 from qu3 ▸ jrg_f J sg_125_8_9_1_0_1)
  have eu4 := (show 0 ≤ u4.toInt ∧ u4.toInt ≤ 400 from qu4 ▸ jrg_f J sg_125_9_10_1_0_1)
  show jX m_X12_readName 4 0 0 36 [(0, .ref 125)] [] _ 0 0 _
  refine x_vret rfl rfl ?_
  exact hQ _ J Sm _ _ _ qu2 qu3 qu4 (by omega)
set_option maxRecDepth 100000 in
set_option maxHeartbeats 4000000 in
theorem ct_X12_readName_r125_200182 {Dy : jH → Prop} {h0 : jH} {Q : Option Value → jH → Prop} (hD : jDk Dy) (hQ : ∀ h', jJ jSgM Dy h' → jSm fp_X12_readName_r125 h0 h' → ∀ u0 u1 u2 : Int32, jiv h' 125 10 = u0 → jiv h' 125 8 = u1 → jiv h' 125 9 = u2 → (u0.toInt ≤ u1.toInt ∧ u2.toInt ≤ u0.toInt) → Q none h') : ∀ (s1 : Int32) (g0 : Int32) (g1 : Int32) (g2 : Int32) (h : jH), 27 ≤ s1.toInt ∧ s1.toInt ≤ 18007 → s1.toInt % 2 = 1 → 0 ≤ g0.toInt ∧ g0.toInt ≤ 400 → 0 ≤ g1.toInt ∧ g1.toInt ≤ 400 → 0 ≤ g2.toInt ∧ g2.toInt ≤ 400 → (g0.toInt ≤ g1.toInt ∧ g2.toInt ≤ g0.toInt) → jiv h 125 10 = g0 → jiv h 125 8 = g1 → jiv h 125 9 = g2 → jJ jSgM Dy h → jSm fp_X12_readName_r125 h0 h → jX m_X12_readName 4 0 0 182 [] [.int 0, .int s1, .ref 126] h 0 0 Q := by
  intro s1 g0 g1 g2 h y0 y1 y2 y3 y4 y5 z0 z1 z2  J Sm
  refine z_iast (N := 50660) (l := 20) (u := 18020) (w := 0) rfl hD J Sm rfl rfl rfl (by omega) jk_0 (wr_126_20 (by omega) (fun q1 q2 q3 q4 => by omega) (fun q1 q2 q3 q4 => by omega) (fun q1 q2 q3 q4 => by omega) (fun q1 q2 q3 q4 => by omega) (fun q1 q2 q3 q4 => by omega) (fun q1 q2 q3 q4 => by omega) (fun q1 q2 q3 q4 => by omega) (fun q1 q2 q3 q4 => by omega) (fun q1 q2 q3 q4 => by omega) (fun q1 q2 q3 q4 => by omega) (fun q1 q2 q3 q4 => by omega) (fun q1 q2 q3 q4 => by omega) (fun q1 q2 q3 q4 => by omega) (fun q1 q2 q3 q4 => by omega) (fun q1 q2 q3 q4 => by omega) (fun q1 q2 q3 q4 => by omega) (fun q1 q2 q3 q4 => by omega) (fun q1 q2 q3 q4 => by omega) (fun q1 q2 q3 q4 => by omega) (fun q1 q2 q3 q4 => by omega) (fun q1 q2 q3 q4 => by omega) (fun q1 q2 q3 q4 => by omega) (fun q1 q2 q3 q4 => by omega)) rfl (fun h w1 J Sm => ?_)
  refine x_vret rfl rfl ?_
  exact hQ _ J Sm _ _ _ (jmo w1 rfl z0) (jmo w1 rfl z1) (jmo w1 rfl z2) (by omega)
set_option maxRecDepth 100000 in
set_option maxHeartbeats 4000000 in
theorem ct_X12_readName_r125_300182 {Dy : jH → Prop} {h0 : jH} {Q : Option Value → jH → Prop} (hD : jDk Dy) (hQ : ∀ h', jJ jSgM Dy h' → jSm fp_X12_readName_r125 h0 h' → ∀ u0 u1 u2 : Int32, jiv h' 125 10 = u0 → jiv h' 125 8 = u1 → jiv h' 125 9 = u2 → (u0.toInt ≤ u1.toInt ∧ u2.toInt ≤ u0.toInt) → Q none h') : ∀ (s1 : Int32) (g0 : Int32) (g1 : Int32) (g2 : Int32) (h : jH), 27 ≤ s1.toInt ∧ s1.toInt ≤ 18007 → s1.toInt % 2 = 1 → 0 ≤ g0.toInt ∧ g0.toInt ≤ 400 → 0 ≤ g1.toInt ∧ g1.toInt ≤ 400 → 0 ≤ g2.toInt ∧ g2.toInt ≤ 400 → (g0.toInt ≤ g1.toInt ∧ g2.toInt ≤ g0.toInt) → jiv h 125 10 = g0 → jiv h 125 8 = g1 → jiv h 125 9 = g2 → jJ jSgM Dy h → jSm fp_X12_readName_r125 h0 h → jX m_X12_readName 4 0 0 182 [] [.int 1, .int s1, .ref 126] h 0 0 Q := by
  intro s1 g0 g1 g2 h y0 y1 y2 y3 y4 y5 z0 z1 z2  J Sm
  refine z_iast (N := 50660) (l := 20) (u := 18020) (w := 1) rfl hD J Sm rfl rfl rfl (by omega) jk_1 (wr_126_20 (by omega) (fun q1 q2 q3 q4 => by omega) (fun q1 q2 q3 q4 => by omega) (fun q1 q2 q3 q4 => by omega) (fun q1 q2 q3 q4 => by omega) (fun q1 q2 q3 q4 => by omega) (fun q1 q2 q3 q4 => by omega) (fun q1 q2 q3 q4 => by omega) (fun q1 q2 q3 q4 => by omega) (fun q1 q2 q3 q4 => by omega) (fun q1 q2 q3 q4 => by omega) (fun q1 q2 q3 q4 => by omega) (fun q1 q2 q3 q4 => by omega) (fun q1 q2 q3 q4 => by omega) (fun q1 q2 q3 q4 => by omega) (fun q1 q2 q3 q4 => by omega) (fun q1 q2 q3 q4 => by omega) (fun q1 q2 q3 q4 => by omega) (fun q1 q2 q3 q4 => by omega) (fun q1 q2 q3 q4 => by omega) (fun q1 q2 q3 q4 => by omega) (fun q1 q2 q3 q4 => by omega) (fun q1 q2 q3 q4 => by omega) (fun q1 q2 q3 q4 => by omega)) rfl (fun h w1 J Sm => ?_)
  refine x_vret rfl rfl ?_
  exact hQ _ J Sm _ _ _ (jmo w1 rfl z0) (jmo w1 rfl z1) (jmo w1 rfl z2) (by omega)
set_option maxRecDepth 100000 in
set_option maxHeartbeats 4000000 in
theorem ct_X12_readName_r125_177 {Dy : jH → Prop} {h0 : jH} {Q : Option Value → jH → Prop} (hD : jDk Dy) (hQ : ∀ h', jJ jSgM Dy h' → jSm fp_X12_readName_r125 h0 h' → ∀ u0 u1 u2 : Int32, jiv h' 125 10 = u0 → jiv h' 125 8 = u1 → jiv h' 125 9 = u2 → (u0.toInt ≤ u1.toInt ∧ u2.toInt ≤ u0.toInt) → Q none h') : ∀ (s0 : Int32) (g0 : Int32) (g1 : Int32) (g2 : Int32) (h : jH), 27 ≤ s0.toInt ∧ s0.toInt ≤ 18007 → s0.toInt % 2 = 1 → 0 ≤ g0.toInt ∧ g0.toInt ≤ 400 → 0 ≤ g1.toInt ∧ g1.toInt ≤ 400 → 0 ≤ g2.toInt ∧ g2.toInt ≤ 400 → (g0.toInt ≤ g1.toInt ∧ g2.toInt ≤ g0.toInt) → jiv h 125 10 = g0 → jiv h 125 8 = g1 → jiv h 125 9 = g2 → jJ jSgM Dy h → jSm fp_X12_readName_r125 h0 h → jX m_X12_readName 4 0 0 177 [] [.int s0, .ref 126] h 0 0 Q := by
  intro s0 g0 g1 g2 h y0 y1 y2 y3 y4 y5 z0 z1 z2  J Sm
  refine x_iconst (v := 1) rfl ki_1 ?_
  refine x_goto (tgt := 182) rfl rfl ?_
  exact jX.sub jsb_n (ct_X12_readName_r125_300182 hD hQ  s0 g0 g1 g2 h (jr_of rfl (by omega)) (jr_mod rfl (by omega)) (jr_of rfl (by omega)) (jr_of rfl (by omega)) (jr_of rfl (by omega)) (by omega) z0 z1 z2 J Sm)
set_option maxRecDepth 100000 in
set_option maxHeartbeats 4000000 in
theorem ct_X12_readName_r125_160 {Dy : jH → Prop} {h0 : jH} {Q : Option Value → jH → Prop} (hD : jDk Dy) (hQ : ∀ h', jJ jSgM Dy h' → jSm fp_X12_readName_r125 h0 h' → ∀ u0 u1 u2 : Int32, jiv h' 125 10 = u0 → jiv h' 125 8 = u1 → jiv h' 125 9 = u2 → (u0.toInt ≤ u1.toInt ∧ u2.toInt ≤ u0.toInt) → Q none h') : ∀ (l1 : Int32) (l4 : Int32) (l5 : Int32) (g0 : Int32) (g1 : Int32) (g2 : Int32) (h : jH), 26 ≤ l1.toInt ∧ l1.toInt ≤ 18006 → l1.toInt % 2 = 0 → 0 ≤ l4.toInt ∧ l4.toInt ≤ 1 → 0 ≤ l5.toInt ∧ l5.toInt ≤ 1 → 0 ≤ g0.toInt ∧ g0.toInt ≤ 400 → 0 ≤ g1.toInt ∧ g1.toInt ≤ 400 → 0 ≤ g2.toInt ∧ g2.toInt ≤ 400 → (l1.toInt % 90 = 6 ∨ l1.toInt % 90 = 26 ∨ l1.toInt % 90 = 40 ∨ l1.toInt % 90 = 54 ∨ l1.toInt % 90 = 68 ∨ l1.toInt % 90 = 82) → (g0.toInt ≤ g1.toInt ∧ g2.toInt ≤ g0.toInt) → jiv h 125 10 = g0 → jiv h 125 8 = g1 → jiv h 125 9 = g2 → jJ jSgM Dy h → jSm fp_X12_readName_r125 h0 h → jX m_X12_readName 4 0 0 160 [(0, .ref 125), (1, .int l1), (4, .int l4), (5, .int l5)] [] h 0 0 Q := by
  intro l1 l4 l5 g0 g1 g2 h y0 y1 y2 y3 y4 y5 y6 y7 y8 z0 z1 z2  J Sm
  refine x_aloadn (x := 125) rfl rfl ?_
  refine z_getR (N := 92) (b := 126) 12 2 rfl f_12_8 rfl J rfl 16002 ⟨rfl, rfl⟩ rfl ?_
  refine x_iloadn (x := l1) rfl rfl ?_
  refine x_iconst (v := 1) rfl ki_1 ?_
  refine z_iadd rfl rfl jk_1 (by omega) (fun v1 ev1 => ?_)
  refine x_iload (x := l5) rfl rfl ?_
  refine x_ifne (tgt := 177) rfl rfl (ti_ne rfl jk_0 ⟨fun c2 => ?_, fun c2 => ?_⟩)
  ·
    exact jX.sub jsb_n (ct_X12_readName_r125_177 hD hQ  v1 g0 g1 g2 h (jr_of rfl (by omega)) (jr_mod rfl (by omega)) (jr_of rfl (by omega)) (jr_of rfl (by omega)) (jr_of rfl (by omega)) (by omega) z0 z1 z2 J Sm)
  ·
    refine x_iload (x := l4) rfl rfl ?_
    refine x_ifeq (tgt := 181) rfl rfl (ti_eq rfl jk_0 ⟨fun c3 => ?_, fun c3 => ?_⟩)
    ·
      refine x_iconst (v := 0) rfl ki_0 ?_
      exact jX.sub jsb_n (ct_X12_readName_r125_200182 hD hQ  v1 g0 g1 g2 h (jr_of rfl (by omega)) (jr_mod rfl (by omega)) (jr_of rfl (by omega)) (jr_of rfl (by omega)) (jr_of rfl (by omega)) (by omega) z0 z1 z2 J Sm)
    ·
      exact jX.sub jsb_n (ct_X12_readName_r125_177 hD hQ  v1 g0 g1 g2 h (jr_of rfl (by omega)) (jr_mod rfl (by omega)) (jr_of rfl (by omega)) (jr_of rfl (by omega)) (jr_of rfl (by omega)) (by omega) z0 z1 z2 J Sm)
set_option maxRecDepth 100000 in
set_option maxHeartbeats 4000000 in
theorem ct_X12_readName_r125_111 {Dy : jH → Prop} {h0 : jH} {Q : Option Value → jH → Prop} (hD : jDk Dy) (hQ : ∀ h', jJ jSgM Dy h' → jSm fp_X12_readName_r125 h0 h' → ∀ u0 u1 u2 : Int32, jiv h' 125 10 = u0 → jiv h' 125 8 = u1 → jiv h' 125 9 = u2 → (u0.toInt ≤ u1.toInt ∧ u2.toInt ≤ u0.toInt) → Q none h') : ∀ r : Nat, ∀ (l1 : Int32) (l2 : Int32) (l3 : Int32) (l4 : Int32) (l5 : Int32) (g0 : Int32) (g1 : Int32) (g2 : Int32) (h : jH), 12 - l5.toInt < (r : Int) → 26 ≤ l1.toInt ∧ l1.toInt ≤ 18006 → l1.toInt % 2 = 0 → 0 ≤ l2.toInt ∧ l2.toInt ≤ 12 → 0 ≤ l3.toInt ∧ l3.toInt ≤ 400 → 0 ≤ l4.toInt ∧ l4.toInt ≤ 1 → 0 ≤ l5.toInt ∧ l5.toInt ≤ 12 → 0 ≤ g0.toInt ∧ g0.toInt ≤ 400 → 0 ≤ g1.toInt ∧ g1.toInt ≤ 400 → 0 ≤ g2.toInt ∧ g2.toInt ≤ 400 → (l1.toInt % 90 = 6 ∨ l1.toInt % 90 = 26 ∨ l1.toInt % 90 = 40 ∨ l1.toInt % 90 = 54 ∨ l1.toInt % 90 = 68 ∨ l1.toInt % 90 = 82) → l3.toInt + l2.toInt ≤ 400 → (g0.toInt ≤ g1.toInt ∧ g2.toInt ≤ g0.toInt) → jiv h 125 10 = g0 → jiv h 125 8 = g1 → jiv h 125 9 = g2 → jJ jSgM Dy h → jSm fp_X12_readName_r125 h0 h → jX m_X12_readName 4 0 0 111 [(0, .ref 125), (1, .int l1), (2, .int l2), (3, .int l3), (4, .int l4), (5, .int l5)] [] h 0 0 Q := by
  intro r
  induction r with
  | zero =>
    intro l1 l2 l3 l4 l5 g0 g1 g2 h hm y0 y1 y2 y3 y4 y5 y6 y7 y8 y9 y10 y11 z0 z1 z2  J Sm
    exfalso
    omega
  | succ r ih =>
    intro l1 l2 l3 l4 l5 g0 g1 g2 h hm y0 y1 y2 y3 y4 y5 y6 y7 y8 y9 y10 y11 z0 z1 z2  J Sm
    refine x_iload (x := l5) rfl rfl ?_
    refine x_iloadn (x := l2) rfl rfl ?_
    refine x_icge (tgt := 143) rfl rfl (ti_ge rfl rfl ⟨fun c1 => ?_, fun c1 => ?_⟩)
    ·
      refine x_aloadn (x := 125) rfl rfl ?_
      refine x_bipush (v := 45) rfl kb_45 ?_
      refine x_inv (N := m_X12_isSign) (As := [.int 45]) (b := 125) (st := []) (d' := 3) (mc := 0) (ms := 0) (host := "") 12 rfl t_X12_isSign ⟨Or.inl q_12_257, i_X12_isSign.1, i_X12_isSign.2⟩ ⟨by decide, rfl⟩ (congrArg Prod.fst (J.1.1 125 (12, 92) rfl)) rfl (by decide) rfl rfl ⟨by decide, by decide⟩ (jC.of rfl k_X12_isSign rfl ?_)
      show jX m_X12_isSign 3 0 0 0 [(0, .ref 125), (1, .int 45)] [] _ 0 0 _
      refine x_aloadn (x := 125) rfl rfl ?_
      refine z_getI (N := 92) 12 11 rfl f_12_235 rfl J rfl sg_125_11_12_1_0_1 (fun v2 qv2 ev2 => ?_)
      refine x_iconst (v := 3) rfl ki_3 ?_
      refine x_icne (tgt := 22) rfl rfl (ti_ne rfl jk_3 ⟨fun c3 => ?_, fun c3 => ?_⟩)
      ·
        refine x_iconst (v := 0) rfl ki_0 ?_
        refine x_zret rfl rfl (by decide) ?_
        show jX m_X12_readName 4 0 0 149 [(0, .ref 125), (1, .int l1), (2, .int l2), (3, .int l3), (4, .int l4), (5, .int l5)] [.int 0] _ 0 0 _
        refine x_istore (ls' := [(5, .int 0), (0, .ref 125), (1, .int l1), (2, .int l2), (3, .int l3), (4, .int l4)]) rfl rfl rfl ?_
        refine x_iload (x := 0) rfl rfl ?_
        refine x_ifeq (tgt := 160) rfl rfl (ti_eq jk_0 jk_0 (br_t (by omega) ?_))
        exact jX.sub (jsb_c rfl (jsb_c rfl (jsb_c rfl (jsb_c rfl jsb_n)))) (ct_X12_readName_r125_160 hD hQ  l1 l4 0 g0 g1 g2 h (jr_of rfl (by omega)) (jr_mod rfl (by omega)) (jr_of rfl (by omega)) (jr_of jk_0 (by omega)) (jr_of rfl (by omega)) (jr_of rfl (by omega)) (jr_of rfl (by omega)) (by omega) (by omega) z0 z1 z2 J Sm)
      ·
        refine x_aloadn (x := 125) rfl rfl ?_
        refine z_getL0 (N := 92) 12 12 rfl f_12_224 rfl J rfl (fun v4 => ?_)
        have ev4 := jfullL v4
        refine x_iloadn (x := 45) rfl rfl ?_
        refine z_i2l rfl jk_45 (fun v5 ev5 => ?_)
        refine z_lcmp rfl rfl rfl (fun v6 ev6 => ?_)
        refine x_ifne (tgt := 22) rfl rfl (ti_ne rfl jk_0 ⟨fun c7 => ?_, fun c7 => ?_⟩)
        ·
          refine x_iconst (v := 0) rfl ki_0 ?_
          refine x_zret rfl rfl (by decide) ?_
          show jX m_X12_readName 4 0 0 149 [(0, .ref 125), (1, .int l1), (2, .int l2), (3, .int l3), (4, .int l4), (5, .int l5)] [.int 0] _ 0 0 _
          refine x_istore (ls' := [(5, .int 0), (0, .ref 125), (1, .int l1), (2, .int l2), (3, .int l3), (4, .int l4)]) rfl rfl rfl ?_
          refine x_iload (x := 0) rfl rfl ?_
          refine x_ifeq (tgt := 160) rfl rfl (ti_eq jk_0 jk_0 (br_t (by omega) ?_))
          exact jX.sub (jsb_c rfl (jsb_c rfl (jsb_c rfl (jsb_c rfl jsb_n)))) (ct_X12_readName_r125_160 hD hQ  l1 l4 0 g0 g1 g2 h (jr_of rfl (by omega)) (jr_mod rfl (by omega)) (jr_of rfl (by omega)) (jr_of jk_0 (by omega)) (jr_of rfl (by omega)) (jr_of rfl (by omega)) (jr_of rfl (by omega)) (by omega) (by omega) z0 z1 z2 J Sm)
        ·
          refine x_iconst (v := 1) rfl ki_1 ?_
          refine x_goto (tgt := 23) rfl rfl ?_
          refine x_zret rfl rfl (by decide) ?_
          show jX m_X12_readName 4 0 0 149 [(0, .ref 125), (1, .int l1), (2, .int l2), (3, .int l3), (4, .int l4), (5, .int l5)] [.int 1] _ 0 0 _
          refine x_istore (ls' := [(5, .int 1), (0, .ref 125), (1, .int l1), (2, .int l2), (3, .int l3), (4, .int l4)]) rfl rfl rfl ?_
          refine x_iload (x := 1) rfl rfl ?_
          refine x_ifeq (tgt := 160) rfl rfl (ti_eq jk_1 jk_0 (br_f (by omega) ?_))
          refine x_aloadn (x := 125) rfl rfl ?_
          refine x_inv (N := m_X12_next) (As := []) (b := 125) (st := []) (d' := 2) (mc := 0) (ms := 0) (host := "") 12 rfl t_X12_next ⟨Or.inl q_12_218, i_X12_next.1, i_X12_next.2⟩ ⟨by decide, rfl⟩ (congrArg Prod.fst (J.1.1 125 (12, 92) rfl)) rfl (by decide) rfl rfl ⟨by decide, by decide⟩ (sf_X12_next_r125  hD J z0 z1 z2 (by omega)  (fun h J S8 u9 u10 u11 qu9 qu10 qu11 ru9 => ?_))
          have Sm := jSm_tr rfl Sm S8
          have eu9 := (show 0 ≤ u9.toInt ∧ u9.toInt ≤ 400 from qu9 ▸ jrg_f J sg_125_10_11_1_0_1)
          have eu10 := (show 0 ≤ u10.toInt ∧ u10.toInt ≤ 400 from qu10 ▸ jrg_f J sg_125_8_9_1_0_1)
          have eu11 := (show 0 ≤ u11.toInt ∧ u11.toInt ≤ 400 from qu11 ▸ jrg_f J sg_125_9_10_1_0_1)
          show jX m_X12_readName 4 0 0 160 [(5, .int 1), (0, .ref 125), (1, .int l1), (2, .int l2), (3, .int l3), (4, .int l4)] [] _ 0 0 _
          exact jX.sub (jsb_c rfl (jsb_c rfl (jsb_c rfl (jsb_c rfl jsb_n)))) (ct_X12_readName_r125_160 hD hQ  l1 l4 1 u9 u10 u11 h (jr_of rfl (by omega)) (jr_mod rfl (by omega)) (jr_of rfl (by omega)) (jr_of jk_1 (by omega)) (jr_of rfl (by omega)) (jr_of rfl (by omega)) (jr_of rfl (by omega)) (by omega) (by omega) qu9 qu10 qu11 J Sm)
    ·
      refine x_aloadn (x := 125) rfl rfl ?_
      refine z_getR (N := 92) (b := 126) 12 2 rfl f_12_8 rfl J rfl 16002 ⟨rfl, rfl⟩ rfl ?_
      refine x_iloadn (x := l1) rfl rfl ?_
      refine x_iconst (v := 2) rfl ki_2 ?_
      refine z_iadd rfl rfl jk_2 (by omega) (fun v12 ev12 => ?_)
      refine x_iload (x := l5) rfl rfl ?_
      refine z_iadd rfl rfl rfl (by omega) (fun v13 ev13 => ?_)
      refine x_aloadn (x := 125) rfl rfl ?_
      refine z_getR (N := 92) (b := 131) 12 7 rfl f_12_29 rfl J rfl 16007 ⟨rfl, rfl⟩ rfl ?_
      refine x_iloadn (x := l3) rfl rfl ?_
      refine x_iload (x := l5) rfl rfl ?_
      refine z_iadd rfl rfl rfl (by omega) (fun v14 ev14 => ?_)
      refine z_iald (N := 400) rfl J rfl sg_131_0_400_1_0_1 rfl (by omega) (fun v15 qv15 ev15 => ?_)
      refine z_iast (N := 50660) (l := 20) (u := 18020) (w := v15.toInt) rfl hD J Sm rfl rfl rfl (by omega) rfl (wr_126_20 (by omega) (fun q1 q2 q3 q4 => by omega) (fun q1 q2 q3 q4 => by omega) (fun q1 q2 q3 q4 => by omega) (fun q1 q2 q3 q4 => by omega) (fun q1 q2 q3 q4 => by omega) (fun q1 q2 q3 q4 => by omega) (fun q1 q2 q3 q4 => by omega) (fun q1 q2 q3 q4 => by omega) (fun q1 q2 q3 q4 => by omega) (fun q1 q2 q3 q4 => by omega) (fun q1 q2 q3 q4 => by omega) (fun q1 q2 q3 q4 => by omega) (fun q1 q2 q3 q4 => by omega) (fun q1 q2 q3 q4 => by omega) (fun q1 q2 q3 q4 => by omega) (fun q1 q2 q3 q4 => by omega) (fun q1 q2 q3 q4 => by omega) (fun q1 q2 q3 q4 => by omega) (fun q1 q2 q3 q4 => by omega) (fun q1 q2 q3 q4 => by omega) (fun q1 q2 q3 q4 => by omega) (fun q1 q2 q3 q4 => by omega) (fun q1 q2 q3 q4 => by omega)) rfl (fun h w16 J Sm => ?_)
      refine z_iinc (x := l5) (ls' := fun v17 => [(5, .int v17), (0, .ref 125), (1, .int l1), (2, .int l2), (3, .int l3), (4, .int l4)]) rfl rfl rfl jko_1 (by omega) rfl (fun _ => rfl) (fun v17 ev17 => ?_)
      refine x_goto (tgt := 111) rfl rfl ?_
      exact jX.sub (jsb_c rfl (jsb_c rfl (jsb_c rfl (jsb_c rfl (jsb_c rfl (jsb_c rfl jsb_n)))))) (ih l1 l2 l3 l4 v17 g0 g1 g2 h (by omega) (jr_of rfl (by omega)) (jr_mod rfl (by omega)) (jr_of rfl (by omega)) (jr_of rfl (by omega)) (jr_of rfl (by omega)) (jr_of rfl (by omega)) (jr_of rfl (by omega)) (jr_of rfl (by omega)) (jr_of rfl (by omega)) (by omega) (by omega) (by omega) (jmo w16 rfl z0) (jmo w16 rfl z1) (jmo w16 rfl z2) J Sm)
set_option maxRecDepth 100000 in
set_option maxHeartbeats 4000000 in
theorem ct_X12_readName_r125_200090 {Dy : jH → Prop} {h0 : jH} {Q : Option Value → jH → Prop} (hD : jDk Dy) (hQ : ∀ h', jJ jSgM Dy h' → jSm fp_X12_readName_r125 h0 h' → ∀ u0 u1 u2 : Int32, jiv h' 125 10 = u0 → jiv h' 125 8 = u1 → jiv h' 125 9 = u2 → (u0.toInt ≤ u1.toInt ∧ u2.toInt ≤ u0.toInt) → Q none h') : ∀ (l1 : Int32) (l2 : Int32) (l3 : Int32) (l4 : Int32) (g0 : Int32) (g1 : Int32) (g2 : Int32) (h : jH), 26 ≤ l1.toInt ∧ l1.toInt ≤ 18006 → l1.toInt % 2 = 0 → 0 ≤ l2.toInt ∧ l2.toInt ≤ 400 → 0 ≤ l3.toInt ∧ l3.toInt ≤ 400 → 0 ≤ l4.toInt ∧ l4.toInt ≤ 1 → 0 ≤ g0.toInt ∧ g0.toInt ≤ 400 → 0 ≤ g1.toInt ∧ g1.toInt ≤ 400 → 0 ≤ g2.toInt ∧ g2.toInt ≤ 400 → (l1.toInt % 90 = 6 ∨ l1.toInt % 90 = 26 ∨ l1.toInt % 90 = 40 ∨ l1.toInt % 90 = 54 ∨ l1.toInt % 90 = 68 ∨ l1.toInt % 90 = 82) → (g0.toInt ≤ g1.toInt ∧ g2.toInt ≤ g0.toInt) → jiv h 125 10 = g0 → jiv h 125 8 = g1 → jiv h 125 9 = g2 → jJ jSgM Dy h → jSm fp_X12_readName_r125 h0 h → jX m_X12_readName 4 0 0 90 [(0, .ref 125), (1, .int l1), (2, .int l2), (3, .int l3), (4, .int l4)] [.int 0, .ref 125] h 0 0 Q := by
  intro l1 l2 l3 l4 g0 g1 g2 h y0 y1 y2 y3 y4 y5 y6 y7 y8 y9 z0 z1 z2  J Sm
  refine x_inv (N := m_X12_must) (As := [.int 0]) (b := 125) (st := []) (d' := 3) (mc := 0) (ms := 0) (host := "") 12 rfl t_X12_must ⟨Or.inl q_12_250, i_X12_must.1, i_X12_must.2⟩ ⟨by decide, rfl⟩ (congrArg Prod.fst (J.1.1 125 (12, 92) rfl)) rfl (by decide) rfl rfl ⟨by decide, by decide⟩ (jC.of rfl k_X12_must rfl ?_)
  show jX m_X12_must 3 0 0 0 [(0, .ref 125), (1, .int 0)] [] _ 0 0 _
  refine x_aloadn (x := 125) rfl rfl ?_
  refine z_getI (N := 92) 12 14 rfl f_12_214 rfl J rfl sg_125_14_15_1_0_1 (fun v1 qv1 ev1 => ?_)
  refine x_ifne (tgt := 24) rfl rfl (ti_ne rfl jk_0 ⟨fun c2 => ?_, fun c2 => ?_⟩)
  ·
    refine x_aloadn (x := 125) rfl rfl ?_
    refine z_getM (N := 92) (v := v1) 12 14 rfl f_12_214 rfl J rfl qv1 ?_
    refine x_ifne (tgt := 35) rfl rfl (ti_ne rfl jk_0 (bn_t (by omega) ?_))
    refine x_vret rfl rfl ?_
    show jX m_X12_readName 4 0 0 93 [(0, .ref 125), (1, .int l1), (2, .int l2), (3, .int l3), (4, .int l4)] [] _ 0 0 _
    refine x_aloadn (x := 125) rfl rfl ?_
    refine z_getM (N := 92) (v := v1) 12 14 rfl f_12_214 rfl J rfl qv1 ?_
    refine x_ifeq (tgt := 101) rfl rfl (ti_eq rfl jk_0 (br_f (by omega) ?_))
    refine x_vret rfl rfl ?_
    exact hQ _ J Sm _ _ _ z0 z1 z2 (by omega)
  ·
    refine x_iloadn (x := 0) rfl rfl ?_
    refine x_ifne (tgt := 24) rfl rfl (ti_ne jk_0 jk_0 (bn_f (by omega) ?_))
    refine x_aloadn (x := 125) rfl rfl ?_
    refine x_iconst (v := 1) rfl ki_1 ?_
    refine z_putZ (N := 92) (w := 1) 12 14 rfl f_12_214 rfl (jfin_no TX12 RX12 92 rfl rfl) hD J Sm rfl rfl jk_1 (by omega) (pw_125_14 (by omega)) rfl (fun h w3 J Sm => ?_)
    refine x_aloadn (x := 125) rfl rfl ?_
    refine x_aloadn (x := 125) rfl rfl ?_
    refine z_getM (N := 92) (v := g2) 12 9 rfl f_12_221 rfl J rfl (jmo w3 rfl z2) ?_
    refine z_putI (N := 92) (w := g2.toInt) 12 13 rfl f_12_32 rfl (jfin_no TX12 RX12 92 rfl rfl) hD J Sm rfl rfl rfl (pw_125_13 (by omega)) rfl (fun h w4 J Sm => ?_)
    refine x_aloadn (x := 125) rfl rfl ?_
    refine z_getM (N := 92) (v := 1) 12 14 rfl f_12_214 rfl J rfl (jmo w4 rfl (jmw w3)) ?_
    refine x_ifne (tgt := 35) rfl rfl (ti_ne jk_1 jk_0 (bn_t (by omega) ?_))
    refine x_vret rfl rfl ?_
    show jX m_X12_readName 4 0 0 93 [(0, .ref 125), (1, .int l1), (2, .int l2), (3, .int l3), (4, .int l4)] [] _ 0 0 _
    refine x_aloadn (x := 125) rfl rfl ?_
    refine z_getM (N := 92) (v := 1) 12 14 rfl f_12_214 rfl J rfl (jmo w4 rfl (jmw w3)) ?_
    refine x_ifeq (tgt := 101) rfl rfl (ti_eq jk_1 jk_0 (br_f (by omega) ?_))
    refine x_vret rfl rfl ?_
    exact hQ _ J Sm _ _ _ (jmo w4 rfl (jmo w3 rfl z0)) (jmo w4 rfl (jmo w3 rfl z1)) (jmo w4 rfl (jmo w3 rfl z2)) (by omega)
set_option maxRecDepth 100000 in
set_option maxHeartbeats 4000000 in
theorem ct_X12_readName_r125_300090 {Dy : jH → Prop} {h0 : jH} {Q : Option Value → jH → Prop} (hD : jDk Dy) (hQ : ∀ h', jJ jSgM Dy h' → jSm fp_X12_readName_r125 h0 h' → ∀ u0 u1 u2 : Int32, jiv h' 125 10 = u0 → jiv h' 125 8 = u1 → jiv h' 125 9 = u2 → (u0.toInt ≤ u1.toInt ∧ u2.toInt ≤ u0.toInt) → Q none h') : ∀ (l1 : Int32) (l2 : Int32) (l3 : Int32) (l4 : Int32) (g0 : Int32) (g1 : Int32) (g2 : Int32) (h : jH), 26 ≤ l1.toInt ∧ l1.toInt ≤ 18006 → l1.toInt % 2 = 0 → 0 ≤ l2.toInt ∧ l2.toInt ≤ 12 → 0 ≤ l3.toInt ∧ l3.toInt ≤ 400 → 0 ≤ l4.toInt ∧ l4.toInt ≤ 1 → 0 ≤ g0.toInt ∧ g0.toInt ≤ 400 → 0 ≤ g1.toInt ∧ g1.toInt ≤ 400 → 0 ≤ g2.toInt ∧ g2.toInt ≤ 400 → (l1.toInt % 90 = 6 ∨ l1.toInt % 90 = 26 ∨ l1.toInt % 90 = 40 ∨ l1.toInt % 90 = 54 ∨ l1.toInt % 90 = 68 ∨ l1.toInt % 90 = 82) → (g0.toInt ≤ g1.toInt ∧ g2.toInt ≤ g0.toInt) → jiv h 125 10 = g0 → jiv h 125 8 = g1 → jiv h 125 9 = g2 → jJ jSgM Dy h → jSm fp_X12_readName_r125 h0 h → jX m_X12_readName 4 0 0 90 [(0, .ref 125), (1, .int l1), (2, .int l2), (3, .int l3), (4, .int l4)] [.int 1, .ref 125] h 0 0 Q := by
  intro l1 l2 l3 l4 g0 g1 g2 h y0 y1 y2 y3 y4 y5 y6 y7 y8 y9 z0 z1 z2  J Sm
  refine x_inv (N := m_X12_must) (As := [.int 1]) (b := 125) (st := []) (d' := 3) (mc := 0) (ms := 0) (host := "") 12 rfl t_X12_must ⟨Or.inl q_12_250, i_X12_must.1, i_X12_must.2⟩ ⟨by decide, rfl⟩ (congrArg Prod.fst (J.1.1 125 (12, 92) rfl)) rfl (by decide) rfl rfl ⟨by decide, by decide⟩ (jC.of rfl k_X12_must rfl ?_)
  show jX m_X12_must 3 0 0 0 [(0, .ref 125), (1, .int 1)] [] _ 0 0 _
  refine x_aloadn (x := 125) rfl rfl ?_
  refine z_getI (N := 92) 12 14 rfl f_12_214 rfl J rfl sg_125_14_15_1_0_1 (fun v1 qv1 ev1 => ?_)
  refine x_ifne (tgt := 24) rfl rfl (ti_ne rfl jk_0 ⟨fun c2 => ?_, fun c2 => ?_⟩)
  ·
    refine x_aloadn (x := 125) rfl rfl ?_
    refine z_getM (N := 92) (v := v1) 12 14 rfl f_12_214 rfl J rfl qv1 ?_
    refine x_ifne (tgt := 35) rfl rfl (ti_ne rfl jk_0 (bn_t (by omega) ?_))
    refine x_vret rfl rfl ?_
    show jX m_X12_readName 4 0 0 93 [(0, .ref 125), (1, .int l1), (2, .int l2), (3, .int l3), (4, .int l4)] [] _ 0 0 _
    refine x_aloadn (x := 125) rfl rfl ?_
    refine z_getM (N := 92) (v := v1) 12 14 rfl f_12_214 rfl J rfl qv1 ?_
    refine x_ifeq (tgt := 101) rfl rfl (ti_eq rfl jk_0 (br_f (by omega) ?_))
    refine x_vret rfl rfl ?_
    exact hQ _ J Sm _ _ _ z0 z1 z2 (by omega)
  ·
    refine x_iloadn (x := 1) rfl rfl ?_
    refine x_ifne (tgt := 24) rfl rfl (ti_ne jk_1 jk_0 (bn_t (by omega) ?_))
    refine x_aloadn (x := 125) rfl rfl ?_
    refine z_getM (N := 92) (v := v1) 12 14 rfl f_12_214 rfl J rfl qv1 ?_
    refine x_ifne (tgt := 35) rfl rfl (ti_ne rfl jk_0 (bn_f (by omega) ?_))
    refine x_aloadn (x := 125) rfl rfl ?_
    refine x_inv (N := m_X12_next) (As := []) (b := 125) (st := []) (d' := 2) (mc := 0) (ms := 0) (host := "") 12 rfl t_X12_next ⟨Or.inl q_12_218, i_X12_next.1, i_X12_next.2⟩ ⟨by decide, rfl⟩ (congrArg Prod.fst (J.1.1 125 (12, 92) rfl)) rfl (by decide) rfl rfl ⟨by decide, by decide⟩ (sf_X12_next_r125  hD J z0 z1 z2 (by omega)  (fun h J S3 u4 u5 u6 qu4 qu5 qu6 ru4 => ?_))
    have Sm := jSm_tr rfl Sm S3
    have eu4 := (show 0 ≤ u4.toInt ∧ u4.toInt ≤ 400 from qu4 ▸ jrg_f J sg_125_10_11_1_0_1)
    have eu5 := (show 0 ≤ u5.toInt ∧ u5.toInt ≤ 400 from qu5 ▸ jrg_f J sg_125_8_9_1_0_1)
    have eu6 := (show 0 ≤ u6.toInt ∧ u6.toInt ≤ 400 from qu6 ▸ jrg_f J sg_125_9_10_1_0_1)
    show jX m_X12_must 3 0 0 35 [(0, .ref 125), (1, .int 1)] [] _ 0 0 _
    refine x_vret rfl rfl ?_
    show jX m_X12_readName 4 0 0 93 [(0, .ref 125), (1, .int l1), (2, .int l2), (3, .int l3), (4, .int l4)] [] _ 0 0 _
    refine x_aloadn (x := 125) rfl rfl ?_
    refine z_getM (N := 92) (v := v1) 12 14 rfl f_12_214 rfl J rfl (jmc S3 rfl qv1) ?_
    refine x_ifeq (tgt := 101) rfl rfl (ti_eq rfl jk_0 (br_t (by omega) ?_))
    refine x_aloadn (x := 125) rfl rfl ?_
    refine z_getR (N := 92) (b := 126) 12 2 rfl f_12_8 rfl J rfl 16002 ⟨rfl, rfl⟩ rfl ?_
    refine x_iloadn (x := l1) rfl rfl ?_
    refine x_iloadn (x := l2) rfl rfl ?_
    refine z_iast (N := 50660) (l := 20) (u := 18020) (w := l2.toInt) rfl hD J Sm rfl rfl rfl (by omega) rfl (wr_126_20 (by omega) (fun q1 q2 q3 q4 => by omega) (fun q1 q2 q3 q4 => by omega) (fun q1 q2 q3 q4 => by omega) (fun q1 q2 q3 q4 => by omega) (fun q1 q2 q3 q4 => by omega) (fun q1 q2 q3 q4 => by omega) (fun q1 q2 q3 q4 => by omega) (fun q1 q2 q3 q4 => by omega) (fun q1 q2 q3 q4 => by omega) (fun q1 q2 q3 q4 => by omega) (fun q1 q2 q3 q4 => by omega) (fun q1 q2 q3 q4 => by omega) (fun q1 q2 q3 q4 => by omega) (fun q1 q2 q3 q4 => by omega) (fun q1 q2 q3 q4 => by omega) (fun q1 q2 q3 q4 => by omega) (fun q1 q2 q3 q4 => by omega) (fun q1 q2 q3 q4 => by omega) (fun q1 q2 q3 q4 => by omega) (fun q1 q2 q3 q4 => by omega) (fun q1 q2 q3 q4 => by omega) (fun q1 q2 q3 q4 => by omega) (fun q1 q2 q3 q4 => by omega)) rfl (fun h w7 J Sm => ?_)
    refine x_iconst (v := 0) rfl ki_0 ?_
    refine x_istore (ls' := [(5, .int 0), (0, .ref 125), (1, .int l1), (2, .int l2), (3, .int l3), (4, .int l4)]) rfl rfl rfl ?_
    exact jX.sub (jsb_c rfl (jsb_c rfl (jsb_c rfl (jsb_c rfl (jsb_c rfl (jsb_c rfl jsb_n)))))) (ct_X12_readName_r125_111 hD hQ  13 l1 l2 l3 l4 0 u4 u5 u6 h (by have := jk_0; omega) (jr_of rfl (by omega)) (jr_mod rfl (by omega)) (jr_of rfl (by omega)) (jr_of rfl (by omega)) (jr_of rfl (by omega)) (jr_of jk_0 (by omega)) (jr_of rfl (by omega)) (jr_of rfl (by omega)) (jr_of rfl (by omega)) (by omega) (by omega) (by omega) (jmo w7 rfl qu4) (jmo w7 rfl qu5) (jmo w7 rfl qu6) J Sm)
set_option maxRecDepth 100000 in
set_option maxHeartbeats 4000000 in
theorem ct_X12_readName_r125_89 {Dy : jH → Prop} {h0 : jH} {Q : Option Value → jH → Prop} (hD : jDk Dy) (hQ : ∀ h', jJ jSgM Dy h' → jSm fp_X12_readName_r125 h0 h' → ∀ u0 u1 u2 : Int32, jiv h' 125 10 = u0 → jiv h' 125 8 = u1 → jiv h' 125 9 = u2 → (u0.toInt ≤ u1.toInt ∧ u2.toInt ≤ u0.toInt) → Q none h') : ∀ (l1 : Int32) (l2 : Int32) (l3 : Int32) (l4 : Int32) (g0 : Int32) (g1 : Int32) (g2 : Int32) (h : jH), 26 ≤ l1.toInt ∧ l1.toInt ≤ 18006 → l1.toInt % 2 = 0 → 0 ≤ l2.toInt ∧ l2.toInt ≤ 400 → 0 ≤ l3.toInt ∧ l3.toInt ≤ 400 → 0 ≤ l4.toInt ∧ l4.toInt ≤ 1 → 0 ≤ g0.toInt ∧ g0.toInt ≤ 400 → 0 ≤ g1.toInt ∧ g1.toInt ≤ 400 → 0 ≤ g2.toInt ∧ g2.toInt ≤ 400 → (l1.toInt % 90 = 6 ∨ l1.toInt % 90 = 26 ∨ l1.toInt % 90 = 40 ∨ l1.toInt % 90 = 54 ∨ l1.toInt % 90 = 68 ∨ l1.toInt % 90 = 82) → (g0.toInt ≤ g1.toInt ∧ g2.toInt ≤ g0.toInt) → jiv h 125 10 = g0 → jiv h 125 8 = g1 → jiv h 125 9 = g2 → jJ jSgM Dy h → jSm fp_X12_readName_r125 h0 h → jX m_X12_readName 4 0 0 89 [(0, .ref 125), (1, .int l1), (2, .int l2), (3, .int l3), (4, .int l4)] [.ref 125] h 0 0 Q := by
  intro l1 l2 l3 l4 g0 g1 g2 h y0 y1 y2 y3 y4 y5 y6 y7 y8 y9 z0 z1 z2  J Sm
  refine x_iconst (v := 0) rfl ki_0 ?_
  exact jX.sub (jsb_c rfl (jsb_c rfl (jsb_c rfl (jsb_c rfl (jsb_c rfl jsb_n))))) (ct_X12_readName_r125_200090 hD hQ  l1 l2 l3 l4 g0 g1 g2 h (jr_of rfl (by omega)) (jr_mod rfl (by omega)) (jr_of rfl (by omega)) (jr_of rfl (by omega)) (jr_of rfl (by omega)) (jr_of rfl (by omega)) (jr_of rfl (by omega)) (jr_of rfl (by omega)) (by omega) (by omega) z0 z1 z2 J Sm)
set_option maxRecDepth 100000 in
set_option maxHeartbeats 4000000 in
theorem ct_X12_readName_r125_200068 {Dy : jH → Prop} {h0 : jH} {Q : Option Value → jH → Prop} (hD : jDk Dy) (hQ : ∀ h', jJ jSgM Dy h' → jSm fp_X12_readName_r125 h0 h' → ∀ u0 u1 u2 : Int32, jiv h' 125 10 = u0 → jiv h' 125 8 = u1 → jiv h' 125 9 = u2 → (u0.toInt ≤ u1.toInt ∧ u2.toInt ≤ u0.toInt) → Q none h') : ∀ (l1 : Int32) (l2 : Int32) (l3 : Int32) (g0 : Int32) (g1 : Int32) (g2 : Int32) (g3 : Int32) (h : jH), 26 ≤ l1.toInt ∧ l1.toInt ≤ 18006 → l1.toInt % 2 = 0 → 0 ≤ l2.toInt ∧ l2.toInt ≤ 400 → 0 ≤ l3.toInt ∧ l3.toInt ≤ 400 → 0 ≤ g0.toInt ∧ g0.toInt ≤ 400 → 1 ≤ g1.toInt ∧ g1.toInt ≤ 3 → 0 ≤ g2.toInt ∧ g2.toInt ≤ 400 → 0 ≤ g3.toInt ∧ g3.toInt ≤ 400 → (l1.toInt % 90 = 6 ∨ l1.toInt % 90 = 26 ∨ l1.toInt % 90 = 40 ∨ l1.toInt % 90 = 54 ∨ l1.toInt % 90 = 68 ∨ l1.toInt % 90 = 82) → (g0.toInt ≤ g2.toInt ∧ g3.toInt ≤ g0.toInt) → jiv h 125 10 = g0 → jiv h 125 11 = g1 → jiv h 125 8 = g2 → jiv h 125 9 = g3 → jJ jSgM Dy h → jSm fp_X12_readName_r125 h0 h → jX m_X12_readName 4 0 0 68 [(0, .ref 125), (1, .int l1), (2, .int l2), (3, .int l3)] [.int 0] h 0 0 Q := by
  intro l1 l2 l3 g0 g1 g2 g3 h y0 y1 y2 y3 y4 y5 y6 y7 y8 y9 z0 z1 z2 z3  J Sm
  refine x_istore (ls' := [(4, .int 0), (0, .ref 125), (1, .int l1), (2, .int l2), (3, .int l3)]) rfl rfl rfl ?_
  refine x_aloadn (x := 125) rfl rfl ?_
  refine x_aloadn (x := 125) rfl rfl ?_
  refine z_getM (N := 92) (v := g1) 12 11 rfl f_12_235 rfl J rfl z1 ?_
  refine x_iconst (v := 1) rfl ki_1 ?_
  refine x_icne (tgt := 89) rfl rfl (ti_ne rfl jk_1 ⟨fun c1 => ?_, fun c1 => ?_⟩)
  ·
    exact jX.sub (jsb_c rfl (jsb_c rfl (jsb_c rfl (jsb_c rfl (jsb_c rfl jsb_n))))) (ct_X12_readName_r125_89 hD hQ  l1 l2 l3 0 g0 g2 g3 h (jr_of rfl (by omega)) (jr_mod rfl (by omega)) (jr_of rfl (by omega)) (jr_of rfl (by omega)) (jr_of jk_0 (by omega)) (jr_of rfl (by omega)) (jr_of rfl (by omega)) (jr_of rfl (by omega)) (by omega) (by omega) z0 z2 z3 J Sm)
  ·
    refine x_iloadn (x := l2) rfl rfl ?_
    refine x_bipush (v := 12) rfl kb_12 ?_
    refine x_icgt (tgt := 89) rfl rfl (ti_gt rfl jk_12 ⟨fun c2 => ?_, fun c2 => ?_⟩)
    ·
      exact jX.sub (jsb_c rfl (jsb_c rfl (jsb_c rfl (jsb_c rfl (jsb_c rfl jsb_n))))) (ct_X12_readName_r125_89 hD hQ  l1 l2 l3 0 g0 g2 g3 h (jr_of rfl (by omega)) (jr_mod rfl (by omega)) (jr_of rfl (by omega)) (jr_of rfl (by omega)) (jr_of jk_0 (by omega)) (jr_of rfl (by omega)) (jr_of rfl (by omega)) (jr_of rfl (by omega)) (by omega) (by omega) z0 z2 z3 J Sm)
    ·
      refine x_iconst (v := 1) rfl ki_1 ?_
      refine x_goto (tgt := 90) rfl rfl ?_
      exact jX.sub (jsb_c rfl (jsb_c rfl (jsb_c rfl (jsb_c rfl (jsb_c rfl jsb_n))))) (ct_X12_readName_r125_300090 hD hQ  l1 l2 l3 0 g0 g2 g3 h (jr_of rfl (by omega)) (jr_mod rfl (by omega)) (jr_of rfl (by omega)) (jr_of rfl (by omega)) (jr_of jk_0 (by omega)) (jr_of rfl (by omega)) (jr_of rfl (by omega)) (jr_of rfl (by omega)) (by omega) (by omega) z0 z2 z3 J Sm)
set_option maxRecDepth 100000 in
set_option maxHeartbeats 4000000 in
theorem ct_X12_readName_r125_300068 {Dy : jH → Prop} {h0 : jH} {Q : Option Value → jH → Prop} (hD : jDk Dy) (hQ : ∀ h', jJ jSgM Dy h' → jSm fp_X12_readName_r125 h0 h' → ∀ u0 u1 u2 : Int32, jiv h' 125 10 = u0 → jiv h' 125 8 = u1 → jiv h' 125 9 = u2 → (u0.toInt ≤ u1.toInt ∧ u2.toInt ≤ u0.toInt) → Q none h') : ∀ (l1 : Int32) (l2 : Int32) (l3 : Int32) (g0 : Int32) (g1 : Int32) (g2 : Int32) (g3 : Int32) (h : jH), 26 ≤ l1.toInt ∧ l1.toInt ≤ 18006 → l1.toInt % 2 = 0 → 0 ≤ l2.toInt ∧ l2.toInt ≤ 400 → 0 ≤ l3.toInt ∧ l3.toInt ≤ 400 → 0 ≤ g0.toInt ∧ g0.toInt ≤ 400 → 1 ≤ g1.toInt ∧ g1.toInt ≤ 3 → 0 ≤ g2.toInt ∧ g2.toInt ≤ 400 → 0 ≤ g3.toInt ∧ g3.toInt ≤ 400 → (l1.toInt % 90 = 6 ∨ l1.toInt % 90 = 26 ∨ l1.toInt % 90 = 40 ∨ l1.toInt % 90 = 54 ∨ l1.toInt % 90 = 68 ∨ l1.toInt % 90 = 82) → (g0.toInt ≤ g2.toInt ∧ g3.toInt ≤ g0.toInt) → jiv h 125 10 = g0 → jiv h 125 11 = g1 → jiv h 125 8 = g2 → jiv h 125 9 = g3 → jJ jSgM Dy h → jSm fp_X12_readName_r125 h0 h → jX m_X12_readName 4 0 0 68 [(0, .ref 125), (1, .int l1), (2, .int l2), (3, .int l3)] [.int 1] h 0 0 Q := by
  intro l1 l2 l3 g0 g1 g2 g3 h y0 y1 y2 y3 y4 y5 y6 y7 y8 y9 z0 z1 z2 z3  J Sm
  refine x_istore (ls' := [(4, .int 1), (0, .ref 125), (1, .int l1), (2, .int l2), (3, .int l3)]) rfl rfl rfl ?_
  refine x_aloadn (x := 125) rfl rfl ?_
  refine x_aloadn (x := 125) rfl rfl ?_
  refine z_getM (N := 92) (v := g1) 12 11 rfl f_12_235 rfl J rfl z1 ?_
  refine x_iconst (v := 1) rfl ki_1 ?_
  refine x_icne (tgt := 89) rfl rfl (ti_ne rfl jk_1 ⟨fun c1 => ?_, fun c1 => ?_⟩)
  ·
    exact jX.sub (jsb_c rfl (jsb_c rfl (jsb_c rfl (jsb_c rfl (jsb_c rfl jsb_n))))) (ct_X12_readName_r125_89 hD hQ  l1 l2 l3 1 g0 g2 g3 h (jr_of rfl (by omega)) (jr_mod rfl (by omega)) (jr_of rfl (by omega)) (jr_of rfl (by omega)) (jr_of jk_1 (by omega)) (jr_of rfl (by omega)) (jr_of rfl (by omega)) (jr_of rfl (by omega)) (by omega) (by omega) z0 z2 z3 J Sm)
  ·
    refine x_iloadn (x := l2) rfl rfl ?_
    refine x_bipush (v := 12) rfl kb_12 ?_
    refine x_icgt (tgt := 89) rfl rfl (ti_gt rfl jk_12 ⟨fun c2 => ?_, fun c2 => ?_⟩)
    ·
      exact jX.sub (jsb_c rfl (jsb_c rfl (jsb_c rfl (jsb_c rfl (jsb_c rfl jsb_n))))) (ct_X12_readName_r125_89 hD hQ  l1 l2 l3 1 g0 g2 g3 h (jr_of rfl (by omega)) (jr_mod rfl (by omega)) (jr_of rfl (by omega)) (jr_of rfl (by omega)) (jr_of jk_1 (by omega)) (jr_of rfl (by omega)) (jr_of rfl (by omega)) (jr_of rfl (by omega)) (by omega) (by omega) z0 z2 z3 J Sm)
    ·
      refine x_iconst (v := 1) rfl ki_1 ?_
      refine x_goto (tgt := 90) rfl rfl ?_
      exact jX.sub (jsb_c rfl (jsb_c rfl (jsb_c rfl (jsb_c rfl (jsb_c rfl jsb_n))))) (ct_X12_readName_r125_300090 hD hQ  l1 l2 l3 1 g0 g2 g3 h (jr_of rfl (by omega)) (jr_mod rfl (by omega)) (jr_of rfl (by omega)) (jr_of rfl (by omega)) (jr_of jk_1 (by omega)) (jr_of rfl (by omega)) (jr_of rfl (by omega)) (jr_of rfl (by omega)) (by omega) (by omega) z0 z2 z3 J Sm)
set_option maxRecDepth 100000 in
set_option maxHeartbeats 4000000 in
theorem sf_X12_readName_r125 {Dy : jH → Prop} {h : jH} {Q : Option Value → jH → Prop} {a1 : Int32} (y1 : 26 ≤ a1.toInt ∧ a1.toInt ≤ 18006) (ym1 : a1.toInt % 2 = 0) (yr1 : (a1.toInt % 90 = 6 ∨ a1.toInt % 90 = 26 ∨ a1.toInt % 90 = 40 ∨ a1.toInt % 90 = 54 ∨ a1.toInt % 90 = 68 ∨ a1.toInt % 90 = 82)) (hD : jDk Dy) (J : jJ jSgM Dy h) {p0 p1 p2 : Int32} (zp0 : jiv h 125 10 = p0) (zp1 : jiv h 125 8 = p1) (zp2 : jiv h 125 9 = p2) (rl_p0 : (p0.toInt ≤ p1.toInt ∧ p2.toInt ≤ p0.toInt)) (hQ : ∀ h', jJ jSgM Dy h' → jSm fp_X12_readName_r125 h h' → ∀ u0 u1 u2 : Int32, jiv h' 125 10 = u0 → jiv h' 125 8 = u1 → jiv h' 125 9 = u2 → (u0.toInt ≤ u1.toInt ∧ u2.toInt ≤ u0.toInt) → Q none h') : jC m_X12_readName 4 0 0 [.ref 125, .int a1] h Q := by
  refine jC.of rfl k_X12_readName rfl ?_
  have Sm := jSm_rf fp_X12_readName_r125 h
  have ep0 := (show 0 ≤ p0.toInt ∧ p0.toInt ≤ 400 from zp0 ▸ jrg_f J sg_125_10_11_1_0_1)
  have ep1 := (show 0 ≤ p1.toInt ∧ p1.toInt ≤ 400 from zp1 ▸ jrg_f J sg_125_8_9_1_0_1)
  have ep2 := (show 0 ≤ p2.toInt ∧ p2.toInt ≤ 400 from zp2 ▸ jrg_f J sg_125_9_10_1_0_1)
  show jX m_X12_readName 4 0 0 0 [(0, .ref 125), (1, .int a1)] [] _ 0 0 _
  refine x_aloadn (x := 125) rfl rfl ?_
  refine z_getR (N := 92) (b := 126) 12 2 rfl f_12_8 rfl J rfl 16002 ⟨rfl, rfl⟩ rfl ?_
  refine x_iloadn (x := a1) rfl rfl ?_
  refine x_iconst (v := 0) rfl ki_0 ?_
  refine z_iast (N := 50660) (l := 20) (u := 18020) (w := 0) rfl hD J Sm rfl rfl rfl (by omega) jk_0 (wr_126_20 (by omega) (fun q1 q2 q3 q4 => by omega) (fun q1 q2 q3 q4 => by omega) (fun q1 q2 q3 q4 => by omega) (fun q1 q2 q3 q4 => by omega) (fun q1 q2 q3 q4 => by omega) (fun q1 q2 q3 q4 => by omega) (fun q1 q2 q3 q4 => by omega) (fun q1 q2 q3 q4 => by omega) (fun q1 q2 q3 q4 => by omega) (fun q1 q2 q3 q4 => by omega) (fun q1 q2 q3 q4 => by omega) (fun q1 q2 q3 q4 => by omega) (fun q1 q2 q3 q4 => by omega) (fun q1 q2 q3 q4 => by omega) (fun q1 q2 q3 q4 => by omega) (fun q1 q2 q3 q4 => by omega) (fun q1 q2 q3 q4 => by omega) (fun q1 q2 q3 q4 => by omega) (fun q1 q2 q3 q4 => by omega) (fun q1 q2 q3 q4 => by omega) (fun q1 q2 q3 q4 => by omega) (fun q1 q2 q3 q4 => by omega) (fun q1 q2 q3 q4 => by omega)) rfl (fun h w1 J Sm => ?_)
  refine x_aloadn (x := 125) rfl rfl ?_
  refine z_getR (N := 92) (b := 126) 12 2 rfl f_12_8 rfl J rfl 16002 ⟨rfl, rfl⟩ rfl ?_
  refine x_iloadn (x := a1) rfl rfl ?_
  refine x_iconst (v := 1) rfl ki_1 ?_
  refine z_iadd rfl rfl jk_1 (by omega) (fun v2 ev2 => ?_)
  refine x_iconst (v := 0) rfl ki_0 ?_
  refine z_iast (N := 50660) (l := 20) (u := 18020) (w := 0) rfl hD J Sm rfl rfl rfl (by omega) jk_0 (wr_126_20 (by omega) (fun q1 q2 q3 q4 => by omega) (fun q1 q2 q3 q4 => by omega) (fun q1 q2 q3 q4 => by omega) (fun q1 q2 q3 q4 => by omega) (fun q1 q2 q3 q4 => by omega) (fun q1 q2 q3 q4 => by omega) (fun q1 q2 q3 q4 => by omega) (fun q1 q2 q3 q4 => by omega) (fun q1 q2 q3 q4 => by omega) (fun q1 q2 q3 q4 => by omega) (fun q1 q2 q3 q4 => by omega) (fun q1 q2 q3 q4 => by omega) (fun q1 q2 q3 q4 => by omega) (fun q1 q2 q3 q4 => by omega) (fun q1 q2 q3 q4 => by omega) (fun q1 q2 q3 q4 => by omega) (fun q1 q2 q3 q4 => by omega) (fun q1 q2 q3 q4 => by omega) (fun q1 q2 q3 q4 => by omega) (fun q1 q2 q3 q4 => by omega) (fun q1 q2 q3 q4 => by omega) (fun q1 q2 q3 q4 => by omega) (fun q1 q2 q3 q4 => by omega)) rfl (fun h w3 J Sm => ?_)
  refine x_aloadn (x := 125) rfl rfl ?_
  refine x_bipush (v := 63) rfl kb_63 ?_
  refine x_inv (N := m_X12_isSign) (As := [.int 63]) (b := 125) (st := []) (d' := 3) (mc := 0) (ms := 0) (host := "") 12 rfl t_X12_isSign ⟨Or.inl q_12_257, i_X12_isSign.1, i_X12_isSign.2⟩ ⟨by decide, rfl⟩ (congrArg Prod.fst (J.1.1 125 (12, 92) rfl)) rfl (by decide) rfl rfl ⟨by decide, by decide⟩ (jC.of rfl k_X12_isSign rfl ?_)
  show jX m_X12_isSign 3 0 0 0 [(0, .ref 125), (1, .int 63)] [] _ 0 0 _
  refine x_aloadn (x := 125) rfl rfl ?_
  refine z_getI (N := 92) 12 11 rfl f_12_235 rfl J rfl sg_125_11_12_1_0_1 (fun v4 qv4 ev4 => ?_)
  refine x_iconst (v := 3) rfl ki_3 ?_
  refine x_icne (tgt := 22) rfl rfl (ti_ne rfl jk_3 ⟨fun c5 => ?_, fun c5 => ?_⟩)
  ·
    refine x_iconst (v := 0) rfl ki_0 ?_
    refine x_zret rfl rfl (by decide) ?_
    show jX m_X12_readName 4 0 0 22 [(0, .ref 125), (1, .int a1)] [.int 0] _ 0 0 _
    refine x_ifne (tgt := 32) rfl rfl (ti_ne jk_0 jk_0 (bn_f (by omega) ?_))
    refine x_aloadn (x := 125) rfl rfl ?_
    refine z_getM (N := 92) (v := v4) 12 11 rfl f_12_235 rfl J rfl qv4 ?_
    refine x_ifne (tgt := 37) rfl rfl (ti_ne rfl jk_0 ⟨fun c6 => ?_, fun c6 => ?_⟩)
    ·
      refine x_aloadn (x := 125) rfl rfl ?_
      refine z_getM (N := 92) (v := p0) 12 10 rfl f_12_211 rfl J rfl (jmo w3 rfl (jmo w1 rfl zp0)) ?_
      refine x_aloadn (x := 125) rfl rfl ?_
      refine z_getM (N := 92) (v := p2) 12 9 rfl f_12_221 rfl J rfl (jmo w3 rfl (jmo w1 rfl zp2)) ?_
      refine z_isub rfl rfl rfl (by omega) (fun v7 ev7 => ?_)
      refine x_istoren (ls' := [(2, .int v7), (0, .ref 125), (1, .int a1)]) rfl rfl rfl ?_
      refine x_aloadn (x := 125) rfl rfl ?_
      refine z_getM (N := 92) (v := p2) 12 9 rfl f_12_221 rfl J rfl (jmo w3 rfl (jmo w1 rfl zp2)) ?_
      refine x_istoren (ls' := [(3, .int p2), (2, .int v7), (0, .ref 125), (1, .int a1)]) rfl rfl rfl ?_
      refine x_aloadn (x := 125) rfl rfl ?_
      refine z_getM (N := 92) (v := p0) 12 10 rfl f_12_211 rfl J rfl (jmo w3 rfl (jmo w1 rfl zp0)) ?_
      refine x_aloadn (x := 125) rfl rfl ?_
      refine z_getM (N := 92) (v := p1) 12 8 rfl f_12_201 rfl J rfl (jmo w3 rfl (jmo w1 rfl zp1)) ?_
      refine x_icne (tgt := 67) rfl rfl (ti_ne rfl rfl ⟨fun c8 => ?_, fun c8 => ?_⟩)
      ·
        refine x_iconst (v := 0) rfl ki_0 ?_
        exact jX.sub (jsb_c rfl (jsb_c rfl (jsb_c rfl (jsb_c rfl jsb_n)))) (ct_X12_readName_r125_200068 hD hQ  a1 v7 p2 p0 v4 p1 p2 h (jr_of rfl (by omega)) (jr_mod rfl (by omega)) (jr_of rfl (by omega)) (jr_of rfl (by omega)) (jr_of rfl (by omega)) (jr_of rfl (by omega)) (jr_of rfl (by omega)) (jr_of rfl (by omega)) (by omega) (by omega) (jmo w3 rfl (jmo w1 rfl zp0)) qv4 (jmo w3 rfl (jmo w1 rfl zp1)) (jmo w3 rfl (jmo w1 rfl zp2)) J Sm)
      ·
        refine x_iconst (v := 1) rfl ki_1 ?_
        refine x_goto (tgt := 68) rfl rfl ?_
        exact jX.sub (jsb_c rfl (jsb_c rfl (jsb_c rfl (jsb_c rfl jsb_n)))) (ct_X12_readName_r125_300068 hD hQ  a1 v7 p2 p0 v4 p1 p2 h (jr_of rfl (by omega)) (jr_mod rfl (by omega)) (jr_of rfl (by omega)) (jr_of rfl (by omega)) (jr_of rfl (by omega)) (jr_of rfl (by omega)) (jr_of rfl (by omega)) (jr_of rfl (by omega)) (by omega) (by omega) (jmo w3 rfl (jmo w1 rfl zp0)) qv4 (jmo w3 rfl (jmo w1 rfl zp1)) (jmo w3 rfl (jmo w1 rfl zp2)) J Sm)
    ·
      exact jX.sub (jsb_c rfl jsb_n) (ct_X12_readName_r125_32 hD hQ  p0 p1 p2 h (jr_of rfl (by omega)) (jr_of rfl (by omega)) (jr_of rfl (by omega)) (by omega) (jmo w3 rfl (jmo w1 rfl zp0)) (jmo w3 rfl (jmo w1 rfl zp1)) (jmo w3 rfl (jmo w1 rfl zp2)) J Sm)
  ·
    refine x_aloadn (x := 125) rfl rfl ?_
    refine z_getL0 (N := 92) 12 12 rfl f_12_224 rfl J rfl (fun v9 => ?_)
    have ev9 := jfullL v9
    refine x_iloadn (x := 63) rfl rfl ?_
    refine z_i2l rfl jk_63 (fun v10 ev10 => ?_)
    refine z_lcmp rfl rfl rfl (fun v11 ev11 => ?_)
    refine x_ifne (tgt := 22) rfl rfl (ti_ne rfl jk_0 ⟨fun c12 => ?_, fun c12 => ?_⟩)
    ·
      refine x_iconst (v := 0) rfl ki_0 ?_
      refine x_zret rfl rfl (by decide) ?_
      show jX m_X12_readName 4 0 0 22 [(0, .ref 125), (1, .int a1)] [.int 0] _ 0 0 _
      refine x_ifne (tgt := 32) rfl rfl (ti_ne jk_0 jk_0 (bn_f (by omega) ?_))
      refine x_aloadn (x := 125) rfl rfl ?_
      refine z_getM (N := 92) (v := v4) 12 11 rfl f_12_235 rfl J rfl qv4 ?_
      refine x_ifne (tgt := 37) rfl rfl (ti_ne rfl jk_0 (bn_t (by omega) ?_))
      refine x_aloadn (x := 125) rfl rfl ?_
      refine z_getM (N := 92) (v := p0) 12 10 rfl f_12_211 rfl J rfl (jmo w3 rfl (jmo w1 rfl zp0)) ?_
      refine x_aloadn (x := 125) rfl rfl ?_
      refine z_getM (N := 92) (v := p2) 12 9 rfl f_12_221 rfl J rfl (jmo w3 rfl (jmo w1 rfl zp2)) ?_
      refine z_isub rfl rfl rfl (by omega) (fun v13 ev13 => ?_)
      refine x_istoren (ls' := [(2, .int v13), (0, .ref 125), (1, .int a1)]) rfl rfl rfl ?_
      refine x_aloadn (x := 125) rfl rfl ?_
      refine z_getM (N := 92) (v := p2) 12 9 rfl f_12_221 rfl J rfl (jmo w3 rfl (jmo w1 rfl zp2)) ?_
      refine x_istoren (ls' := [(3, .int p2), (2, .int v13), (0, .ref 125), (1, .int a1)]) rfl rfl rfl ?_
      refine x_aloadn (x := 125) rfl rfl ?_
      refine z_getM (N := 92) (v := p0) 12 10 rfl f_12_211 rfl J rfl (jmo w3 rfl (jmo w1 rfl zp0)) ?_
      refine x_aloadn (x := 125) rfl rfl ?_
      refine z_getM (N := 92) (v := p1) 12 8 rfl f_12_201 rfl J rfl (jmo w3 rfl (jmo w1 rfl zp1)) ?_
      refine x_icne (tgt := 67) rfl rfl (ti_ne rfl rfl ⟨fun c14 => ?_, fun c14 => ?_⟩)
      ·
        refine x_iconst (v := 0) rfl ki_0 ?_
        exact jX.sub (jsb_c rfl (jsb_c rfl (jsb_c rfl (jsb_c rfl jsb_n)))) (ct_X12_readName_r125_200068 hD hQ  a1 v13 p2 p0 v4 p1 p2 h (jr_of rfl (by omega)) (jr_mod rfl (by omega)) (jr_of rfl (by omega)) (jr_of rfl (by omega)) (jr_of rfl (by omega)) (jr_of rfl (by omega)) (jr_of rfl (by omega)) (jr_of rfl (by omega)) (by omega) (by omega) (jmo w3 rfl (jmo w1 rfl zp0)) qv4 (jmo w3 rfl (jmo w1 rfl zp1)) (jmo w3 rfl (jmo w1 rfl zp2)) J Sm)
      ·
        refine x_iconst (v := 1) rfl ki_1 ?_
        refine x_goto (tgt := 68) rfl rfl ?_
        exact jX.sub (jsb_c rfl (jsb_c rfl (jsb_c rfl (jsb_c rfl jsb_n)))) (ct_X12_readName_r125_300068 hD hQ  a1 v13 p2 p0 v4 p1 p2 h (jr_of rfl (by omega)) (jr_mod rfl (by omega)) (jr_of rfl (by omega)) (jr_of rfl (by omega)) (jr_of rfl (by omega)) (jr_of rfl (by omega)) (jr_of rfl (by omega)) (jr_of rfl (by omega)) (by omega) (by omega) (jmo w3 rfl (jmo w1 rfl zp0)) qv4 (jmo w3 rfl (jmo w1 rfl zp1)) (jmo w3 rfl (jmo w1 rfl zp2)) J Sm)
    ·
      refine x_iconst (v := 1) rfl ki_1 ?_
      refine x_goto (tgt := 23) rfl rfl ?_
      refine x_zret rfl rfl (by decide) ?_
      show jX m_X12_readName 4 0 0 22 [(0, .ref 125), (1, .int a1)] [.int 1] _ 0 0 _
      refine x_ifne (tgt := 32) rfl rfl (ti_ne jk_1 jk_0 (bn_t (by omega) ?_))
      exact jX.sub (jsb_c rfl jsb_n) (ct_X12_readName_r125_32 hD hQ  p0 p1 p2 h (jr_of rfl (by omega)) (jr_of rfl (by omega)) (jr_of rfl (by omega)) (by omega) (jmo w3 rfl (jmo w1 rfl zp0)) (jmo w3 rfl (jmo w1 rfl zp1)) (jmo w3 rfl (jmo w1 rfl zp2)) J Sm)
