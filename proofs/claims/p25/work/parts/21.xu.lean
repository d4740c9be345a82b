def fp_X2_readSum_r95_c7 : jFp := [(68, 2, 3), (68, 3, 4), (68, 4, 5), (68, 5, 6), (95, 4, 5), (95, 5, 6), (97, 0, 1200)]
set_option maxRecDepth 100000 in
set_option maxHeartbeats 4000000 in
theorem ct_X2_readSum_r95_c7_100148 {Dy : jH → Prop} {h0 : jH} {Q : Option Value → jH → Prop} {R4 : Int} (hD : jDk Dy) (hQ : ∀ (v : Int32) hx9, 0 ≤ v.toInt ∧ v.toInt ≤ 1 → jJ jSgX Dy hx9 → jSm fp_X2_readSum_r95_c7 h0 hx9 → ∀ u0 u1 : Int32, jiv hx9 68 5 = u0 → jiv hx9 68 3 = u1 → (u0.toInt ≠ 3 ∨ u1.toInt ≤ 399) → Q (some (.int v)) hx9) (k4 : ∀ (l2 : Int32) (l3 : Int32) (g0 : Int32) (g1 : Int32) (h : jH), 400 - l3.toInt < R4 → (-1) ≤ l2.toInt ∧ l2.toInt ≤ 4 → 0 ≤ l3.toInt ∧ l3.toInt ≤ 400 → 0 ≤ g0.toInt ∧ g0.toInt ≤ 400 → 0 ≤ g1.toInt ∧ g1.toInt ≤ 3 → (g1.toInt ≠ 3 ∨ g0.toInt ≤ 399) → jiv h 68 3 = g0 → jiv h 68 5 = g1 → jJ jSgX Dy h → jSm fp_X2_readSum_r95_c7 h0 h → jX m_X2_readSum 8 0 0 4 [(0, .ref 95), (1, .int 7), (2, .int l2), (3, .int l3)] [] h 0 0 Q) : ∀ (l3 : Int32) (g0 : Int32) (g1 : Int32) (h : jH), 0 ≤ l3.toInt ∧ l3.toInt ≤ 399 → 0 ≤ g0.toInt ∧ g0.toInt ≤ 400 → 0 ≤ g1.toInt ∧ g1.toInt ≤ 3 → (g1.toInt ≠ 3 ∨ g0.toInt ≤ 399) → jiv h 68 3 = g0 → jiv h 68 5 = g1 → 400 - l3.toInt ≤ R4 → jJ jSgX Dy h → jSm fp_X2_readSum_r95_c7 h0 h → jX m_X2_readSum 8 0 0 148 [(0, .ref 95), (1, .int 7), (3, .int l3)] [.int (-1)] h 0 0 Q := by
  intro l3 g0 g1 h y0 y1 y2 y3 z0 z1 m4 J Sm
  refine x_istoren (lsx9 := [(2, .int (-1)), (0, .ref 95), (1, .int 7), (3, .int l3)]) rfl rfl rfl ?_
  refine x_iloadn (x := (-1)) rfl rfl ?_
  refine x_iconst (v := (-1)) rfl ki_m1 ?_
  refine x_icne (tgt := 156) rfl rfl (ti_ne jk_m1 jk_m1 (bn_f (by omega) ?_))
  refine x_iconst (v := 1) rfl ki_1 ?_
  refine x_zret rfl rfl (by decide) ?_
  exact hQ _ _ (jr_of jk_1 (by omega)) J Sm _ _ z1 z0 (by omega)
set_option maxRecDepth 100000 in
set_option maxHeartbeats 4000000 in
theorem ct_X2_readSum_r95_c7_600148 {Dy : jH → Prop} {h0 : jH} {Q : Option Value → jH → Prop} {R4 : Int} (hD : jDk Dy) (hQ : ∀ (v : Int32) hx9, 0 ≤ v.toInt ∧ v.toInt ≤ 1 → jJ jSgX Dy hx9 → jSm fp_X2_readSum_r95_c7 h0 hx9 → ∀ u0 u1 : Int32, jiv hx9 68 5 = u0 → jiv hx9 68 3 = u1 → (u0.toInt ≠ 3 ∨ u1.toInt ≤ 399) → Q (some (.int v)) hx9) (k4 : ∀ (l2 : Int32) (l3 : Int32) (g0 : Int32) (g1 : Int32) (h : jH), 400 - l3.toInt < R4 → (-1) ≤ l2.toInt ∧ l2.toInt ≤ 4 → 0 ≤ l3.toInt ∧ l3.toInt ≤ 400 → 0 ≤ g0.toInt ∧ g0.toInt ≤ 400 → 0 ≤ g1.toInt ∧ g1.toInt ≤ 3 → (g1.toInt ≠ 3 ∨ g0.toInt ≤ 399) → jiv h 68 3 = g0 → jiv h 68 5 = g1 → jJ jSgX Dy h → jSm fp_X2_readSum_r95_c7 h0 h → jX m_X2_readSum 8 0 0 4 [(0, .ref 95), (1, .int 7), (2, .int l2), (3, .int l3)] [] h 0 0 Q) : ∀ (l3 : Int32) (g0 : Int32) (g1 : Int32) (h : jH), 0 ≤ l3.toInt ∧ l3.toInt ≤ 399 → 0 ≤ g0.toInt ∧ g0.toInt ≤ 400 → 0 ≤ g1.toInt ∧ g1.toInt ≤ 3 → (g1.toInt ≠ 3 ∨ g0.toInt ≤ 399) → jiv h 68 3 = g0 → jiv h 68 5 = g1 → 400 - l3.toInt ≤ R4 → jJ jSgX Dy h → jSm fp_X2_readSum_r95_c7 h0 h → jX m_X2_readSum 8 0 0 148 [(0, .ref 95), (1, .int 7), (3, .int l3)] [.int 4] h 0 0 Q := by
  intro l3 g0 g1 h y0 y1 y2 y3 z0 z1 m4 J Sm
  refine x_istoren (lsx9 := [(2, .int 4), (0, .ref 95), (1, .int 7), (3, .int l3)]) rfl rfl rfl ?_
  refine x_iloadn (x := 4) rfl rfl ?_
  refine x_iconst (v := (-1)) rfl ki_m1 ?_
  refine x_icne (tgt := 156) rfl rfl (ti_ne jk_4 jk_m1 (bn_t (by omega) ?_))
  refine x_aloadn (x := 95) rfl rfl ?_
  refine z_getR (N := 6) (b := 68) 2 0 rfl f_2_30 rfl J rfl 12160 ⟨rfl, rfl⟩ rfl ?_
  refine x_inv (N := m_X9_step) (As := []) (b := 68) (st := []) (dx9 := 2) (mc := 0) (ms := 0) (host := "") 9 rfl t_X9_step ⟨Or.inl q_2_62, i_X9_step.1, i_X9_step.2⟩ ⟨by decide, rfl⟩ (congrArg Prod.fst (J.1.1 68 (9, 6) rfl)) rfl (by decide) rfl rfl ⟨by decide, by decide⟩ (sf_X9_step_r68  hD J z1 z0 (by omega)  (fun h J S1 u2 u3 qu2 qu3 ru2 => ?_))
  have Sm := jSm_tr rfl Sm S1
  have eu2 := (show 0 ≤ u2.toInt ∧ u2.toInt ≤ 3 from qu2 ▸ jrg_f J sg_68_5_6_1_0_1)
  have eu3 := (show 0 ≤ u3.toInt ∧ u3.toInt ≤ 400 from qu3 ▸ jrg_f J sg_68_3_4_1_0_1)
  show jX m_X2_readSum 8 0 0 163 [(2, .int 4), (0, .ref 95), (1, .int 7), (3, .int l3)] [] _ 0 0 _
  refine z_iinc (x := l3) (lsx9 := fun v4 => [(3, .int v4), (2, .int 4), (0, .ref 95), (1, .int 7)]) rfl rfl rfl jko_1 (by omega) rfl (fun _ => rfl) (fun v4 ev4 => ?_)
  refine x_goto (tgt := 4) rfl rfl ?_
  exact jX.sub (jsb_c rfl (jsb_c rfl (jsb_c rfl (jsb_c rfl jsb_n)))) (k4 4 v4 u3 u2 h (by omega) (jr_of jk_4 (by omega)) (jr_of rfl (by omega)) (jr_of rfl (by omega)) (jr_of rfl (by omega)) (by omega) qu3 qu2 J Sm)
set_option maxRecDepth 100000 in
set_option maxHeartbeats 4000000 in
theorem ct_X2_readSum_r95_c7_500148 {Dy : jH → Prop} {h0 : jH} {Q : Option Value → jH → Prop} {R4 : Int} (hD : jDk Dy) (hQ : ∀ (v : Int32) hx9, 0 ≤ v.toInt ∧ v.toInt ≤ 1 → jJ jSgX Dy hx9 → jSm fp_X2_readSum_r95_c7 h0 hx9 → ∀ u0 u1 : Int32, jiv hx9 68 5 = u0 → jiv hx9 68 3 = u1 → (u0.toInt ≠ 3 ∨ u1.toInt ≤ 399) → Q (some (.int v)) hx9) (k4 : ∀ (l2 : Int32) (l3 : Int32) (g0 : Int32) (g1 : Int32) (h : jH), 400 - l3.toInt < R4 → (-1) ≤ l2.toInt ∧ l2.toInt ≤ 4 → 0 ≤ l3.toInt ∧ l3.toInt ≤ 400 → 0 ≤ g0.toInt ∧ g0.toInt ≤ 400 → 0 ≤ g1.toInt ∧ g1.toInt ≤ 3 → (g1.toInt ≠ 3 ∨ g0.toInt ≤ 399) → jiv h 68 3 = g0 → jiv h 68 5 = g1 → jJ jSgX Dy h → jSm fp_X2_readSum_r95_c7 h0 h → jX m_X2_readSum 8 0 0 4 [(0, .ref 95), (1, .int 7), (2, .int l2), (3, .int l3)] [] h 0 0 Q) : ∀ (l3 : Int32) (g0 : Int32) (g1 : Int32) (h : jH), 0 ≤ l3.toInt ∧ l3.toInt ≤ 399 → 0 ≤ g0.toInt ∧ g0.toInt ≤ 400 → 0 ≤ g1.toInt ∧ g1.toInt ≤ 3 → (g1.toInt ≠ 3 ∨ g0.toInt ≤ 399) → jiv h 68 3 = g0 → jiv h 68 5 = g1 → 400 - l3.toInt ≤ R4 → jJ jSgX Dy h → jSm fp_X2_readSum_r95_c7 h0 h → jX m_X2_readSum 8 0 0 148 [(0, .ref 95), (1, .int 7), (3, .int l3)] [.int 3] h 0 0 Q := by
  intro l3 g0 g1 h y0 y1 y2 y3 z0 z1 m4 J Sm
  refine x_istoren (lsx9 := [(2, .int 3), (0, .ref 95), (1, .int 7), (3, .int l3)]) rfl rfl rfl ?_
  refine x_iloadn (x := 3) rfl rfl ?_
  refine x_iconst (v := (-1)) rfl ki_m1 ?_
  refine x_icne (tgt := 156) rfl rfl (ti_ne jk_3 jk_m1 (bn_t (by omega) ?_))
  refine x_aloadn (x := 95) rfl rfl ?_
  refine z_getR (N := 6) (b := 68) 2 0 rfl f_2_30 rfl J rfl 12160 ⟨rfl, rfl⟩ rfl ?_
  refine x_inv (N := m_X9_step) (As := []) (b := 68) (st := []) (dx9 := 2) (mc := 0) (ms := 0) (host := "") 9 rfl t_X9_step ⟨Or.inl q_2_62, i_X9_step.1, i_X9_step.2⟩ ⟨by decide, rfl⟩ (congrArg Prod.fst (J.1.1 68 (9, 6) rfl)) rfl (by decide) rfl rfl ⟨by decide, by decide⟩ (sf_X9_step_r68  hD J z1 z0 (by omega)  (fun h J S1 u2 u3 qu2 qu3 ru2 => ?_))
  have Sm := jSm_tr rfl Sm S1
  have eu2 := (show 0 ≤ u2.toInt ∧ u2.toInt ≤ 3 from qu2 ▸ jrg_f J sg_68_5_6_1_0_1)
  have eu3 := (show 0 ≤ u3.toInt ∧ u3.toInt ≤ 400 from qu3 ▸ jrg_f J sg_68_3_4_1_0_1)
  show jX m_X2_readSum 8 0 0 163 [(2, .int 3), (0, .ref 95), (1, .int 7), (3, .int l3)] [] _ 0 0 _
  refine z_iinc (x := l3) (lsx9 := fun v4 => [(3, .int v4), (2, .int 3), (0, .ref 95), (1, .int 7)]) rfl rfl rfl jko_1 (by omega) rfl (fun _ => rfl) (fun v4 ev4 => ?_)
  refine x_goto (tgt := 4) rfl rfl ?_
  exact jX.sub (jsb_c rfl (jsb_c rfl (jsb_c rfl (jsb_c rfl jsb_n)))) (k4 3 v4 u3 u2 h (by omega) (jr_of jk_3 (by omega)) (jr_of rfl (by omega)) (jr_of rfl (by omega)) (jr_of rfl (by omega)) (by omega) qu3 qu2 J Sm)
set_option maxRecDepth 100000 in
set_option maxHeartbeats 4000000 in
theorem ct_X2_readSum_r95_c7_115 {Dy : jH → Prop} {h0 : jH} {Q : Option Value → jH → Prop} {R4 : Int} (hD : jDk Dy) (hQ : ∀ (v : Int32) hx9, 0 ≤ v.toInt ∧ v.toInt ≤ 1 → jJ jSgX Dy hx9 → jSm fp_X2_readSum_r95_c7 h0 hx9 → ∀ u0 u1 : Int32, jiv hx9 68 5 = u0 → jiv hx9 68 3 = u1 → (u0.toInt ≠ 3 ∨ u1.toInt ≤ 399) → Q (some (.int v)) hx9) (k4 : ∀ (l2 : Int32) (l3 : Int32) (g0 : Int32) (g1 : Int32) (h : jH), 400 - l3.toInt < R4 → (-1) ≤ l2.toInt ∧ l2.toInt ≤ 4 → 0 ≤ l3.toInt ∧ l3.toInt ≤ 400 → 0 ≤ g0.toInt ∧ g0.toInt ≤ 400 → 0 ≤ g1.toInt ∧ g1.toInt ≤ 3 → (g1.toInt ≠ 3 ∨ g0.toInt ≤ 399) → jiv h 68 3 = g0 → jiv h 68 5 = g1 → jJ jSgX Dy h → jSm fp_X2_readSum_r95_c7 h0 h → jX m_X2_readSum 8 0 0 4 [(0, .ref 95), (1, .int 7), (2, .int l2), (3, .int l3)] [] h 0 0 Q) : ∀ (l3 : Int32) (g0 : Int32) (g1 : Int32) (h : jH), 0 ≤ l3.toInt ∧ l3.toInt ≤ 399 → 0 ≤ g0.toInt ∧ g0.toInt ≤ 400 → 0 ≤ g1.toInt ∧ g1.toInt ≤ 3 → (g1.toInt ≠ 3 ∨ g0.toInt ≤ 399) → jiv h 68 3 = g0 → jiv h 68 5 = g1 → 400 - l3.toInt ≤ R4 → jJ jSgX Dy h → jSm fp_X2_readSum_r95_c7 h0 h → jX m_X2_readSum 8 0 0 115 [(0, .ref 95), (1, .int 7), (3, .int l3)] [] h 0 0 Q := by
  intro l3 g0 g1 h y0 y1 y2 y3 z0 z1 m4 J Sm
  refine x_aloadn (x := 95) rfl rfl ?_
  refine z_getR (N := 6) (b := 68) 2 0 rfl f_2_30 rfl J rfl 12160 ⟨rfl, rfl⟩ rfl ?_
  refine x_bipush (v := 43) rfl kb_43 ?_
  refine x_inv (N := m_X9_isSign) (As := [.int 43]) (b := 68) (st := []) (dx9 := 1) (mc := 0) (ms := 0) (host := "") 9 rfl t_X9_isSign ⟨Or.inl q_2_55, i_X9_isSign.1, i_X9_isSign.2⟩ ⟨by decide, rfl⟩ (congrArg Prod.fst (J.1.1 68 (9, 6) rfl)) rfl (by decide) rfl rfl ⟨by decide, by decide⟩ (sf_X9_isSign_r68 (jr_of jk_43 (by omega)) hD J z1 z0 (by omega)  (fun v4 h ev4 J S1 u2 u3 qu2 qu3 ru2 => ?_))
  have Sm := jSm_tr rfl Sm S1
  have eu2 := (show 0 ≤ u2.toInt ∧ u2.toInt ≤ 3 from qu2 ▸ jrg_f J sg_68_5_6_1_0_1)
  have eu3 := (show 0 ≤ u3.toInt ∧ u3.toInt ≤ 400 from qu3 ▸ jrg_f J sg_68_3_4_1_0_1)
  show jX m_X2_readSum 8 0 0 124 [(0, .ref 95), (1, .int 7), (3, .int l3)] [.int v4] _ 0 0 _
  refine x_ifeq (tgt := 131) rfl rfl (ti_eq rfl jk_0 ⟨fun c5 => ?_, fun c5 => ?_⟩)
  ·
    refine x_aloadn (x := 95) rfl rfl ?_
    refine z_getR (N := 6) (b := 68) 2 0 rfl f_2_30 rfl J rfl 12160 ⟨rfl, rfl⟩ rfl ?_
    refine x_bipush (v := 45) rfl kb_45 ?_
    refine x_inv (N := m_X9_isSign) (As := [.int 45]) (b := 68) (st := []) (dx9 := 1) (mc := 0) (ms := 0) (host := "") 9 rfl t_X9_isSign ⟨Or.inl q_2_55, i_X9_isSign.1, i_X9_isSign.2⟩ ⟨by decide, rfl⟩ (congrArg Prod.fst (J.1.1 68 (9, 6) rfl)) rfl (by decide) rfl rfl ⟨by decide, by decide⟩ (sf_X9_isSign_r68 (jr_of jk_45 (by omega)) hD J qu2 qu3 (by omega)  (fun v9 h ev9 J S6 u7 u8 qu7 qu8 ru7 => ?_))
    have Sm := jSm_tr rfl Sm S6
    have eu7 := (show 0 ≤ u7.toInt ∧ u7.toInt ≤ 3 from qu7 ▸ jrg_f J sg_68_5_6_1_0_1)
    have eu8 := (show 0 ≤ u8.toInt ∧ u8.toInt ≤ 400 from qu8 ▸ jrg_f J sg_68_3_4_1_0_1)
    show jX m_X2_readSum 8 0 0 140 [(0, .ref 95), (1, .int 7), (3, .int l3)] [.int v9] _ 0 0 _
    refine x_ifeq (tgt := 147) rfl rfl (ti_eq rfl jk_0 ⟨fun c10 => ?_, fun c10 => ?_⟩)
    ·
      refine x_iconst (v := (-1)) rfl ki_m1 ?_
      exact jX.sub (jsb_c rfl (jsb_c rfl (jsb_c rfl jsb_n))) (ct_X2_readSum_r95_c7_100148 hD hQ k4 l3 u8 u7 h (jr_of rfl (by omega)) (jr_of rfl (by omega)) (jr_of rfl (by omega)) (by omega) qu8 qu7 (by omega) J Sm)
    ·
      refine x_iconst (v := 4) rfl ki_4 ?_
      refine x_goto (tgt := 148) rfl rfl ?_
      exact jX.sub (jsb_c rfl (jsb_c rfl (jsb_c rfl jsb_n))) (ct_X2_readSum_r95_c7_600148 hD hQ k4 l3 u8 u7 h (jr_of rfl (by omega)) (jr_of rfl (by omega)) (jr_of rfl (by omega)) (by omega) qu8 qu7 (by omega) J Sm)
  ·
    refine x_iconst (v := 3) rfl ki_3 ?_
    refine x_goto (tgt := 148) rfl rfl ?_
    exact jX.sub (jsb_c rfl (jsb_c rfl (jsb_c rfl jsb_n))) (ct_X2_readSum_r95_c7_500148 hD hQ k4 l3 u3 u2 h (jr_of rfl (by omega)) (jr_of rfl (by omega)) (jr_of rfl (by omega)) (by omega) qu3 qu2 (by omega) J Sm)
set_option maxRecDepth 100000 in
set_option maxHeartbeats 4000000 in
theorem ct_X2_readSum_r95_c7_105 {Dy : jH → Prop} {h0 : jH} {Q : Option Value → jH → Prop} {R4 : Int} (hD : jDk Dy) (hQ : ∀ (v : Int32) hx9, 0 ≤ v.toInt ∧ v.toInt ≤ 1 → jJ jSgX Dy hx9 → jSm fp_X2_readSum_r95_c7 h0 hx9 → ∀ u0 u1 : Int32, jiv hx9 68 5 = u0 → jiv hx9 68 3 = u1 → (u0.toInt ≠ 3 ∨ u1.toInt ≤ 399) → Q (some (.int v)) hx9) (k4 : ∀ (l2 : Int32) (l3 : Int32) (g0 : Int32) (g1 : Int32) (h : jH), 400 - l3.toInt < R4 → (-1) ≤ l2.toInt ∧ l2.toInt ≤ 4 → 0 ≤ l3.toInt ∧ l3.toInt ≤ 400 → 0 ≤ g0.toInt ∧ g0.toInt ≤ 400 → 0 ≤ g1.toInt ∧ g1.toInt ≤ 3 → (g1.toInt ≠ 3 ∨ g0.toInt ≤ 399) → jiv h 68 3 = g0 → jiv h 68 5 = g1 → jJ jSgX Dy h → jSm fp_X2_readSum_r95_c7 h0 h → jX m_X2_readSum 8 0 0 4 [(0, .ref 95), (1, .int 7), (2, .int l2), (3, .int l3)] [] h 0 0 Q) : ∀ (l2 : Int32) (l3 : Int32) (g0 : Int32) (g1 : Int32) (h : jH), (-1) ≤ l2.toInt ∧ l2.toInt ≤ 4 → 0 ≤ l3.toInt ∧ l3.toInt ≤ 399 → 0 ≤ g0.toInt ∧ g0.toInt ≤ 400 → 0 ≤ g1.toInt ∧ g1.toInt ≤ 3 → (g1.toInt ≠ 3 ∨ g0.toInt ≤ 399) → jiv h 68 3 = g0 → jiv h 68 5 = g1 → 400 - l3.toInt ≤ R4 → jJ jSgX Dy h → jSm fp_X2_readSum_r95_c7 h0 h → jX m_X2_readSum 8 0 0 105 [(0, .ref 95), (1, .int 7), (2, .int l2), (3, .int l3)] [] h 0 0 Q := by
  intro l2 l3 g0 g1 h y0 y1 y2 y3 y4 z0 z1 m4 J Sm
  refine x_iloadn (x := l2) rfl rfl ?_
  refine x_iconst (v := (-1)) rfl ki_m1 ?_
  refine x_iceq (tgt := 115) rfl rfl (ti_eq rfl jk_m1 ⟨fun c1 => ?_, fun c1 => ?_⟩)
  ·
    exact jX.sub (jsb_c rfl (jsb_c rfl (jsb_c rfl jsb_n))) (ct_X2_readSum_r95_c7_115 hD hQ k4 l3 g0 g1 h (jr_of rfl (by omega)) (jr_of rfl (by omega)) (jr_of rfl (by omega)) (by omega) z0 z1 (by omega) J Sm)
  ·
    refine x_aloadn (x := 95) rfl rfl ?_
    refine x_iloadn (x := l2) rfl rfl ?_
    refine x_inv (N := m_X2_emit) (As := [.int l2]) (b := 95) (st := []) (dx9 := 1) (mc := 0) (ms := 0) (host := "") 2 rfl t_X2_emit ⟨Or.inl q_2_89, i_X2_emit.1, i_X2_emit.2⟩ ⟨by decide, rfl⟩ (congrArg Prod.fst (J.1.1 95 (2, 6) rfl)) rfl (by decide) rfl rfl ⟨by decide, by decide⟩ (sf_X2_emit_r95  hD J  (fun h J S2 => ?_))
    have Sm := jSm_tr rfl Sm S2
    show jX m_X2_readSum 8 0 0 115 [(0, .ref 95), (1, .int 7), (2, .int l2), (3, .int l3)] [] _ 0 0 _
    exact jX.sub (jsb_c rfl (jsb_c rfl (jsb_c rfl jsb_n))) (ct_X2_readSum_r95_c7_115 hD hQ k4 l3 g0 g1 h (jr_of rfl (by omega)) (jr_of rfl (by omega)) (jr_of rfl (by omega)) (by omega) (jmc S2 rfl z0) (jmc S2 rfl z1) (by omega) J Sm)
set_option maxRecDepth 100000 in
set_option maxHeartbeats 4000000 in
theorem ct_X2_readSum_r95_c7_100081 {Dy : jH → Prop} {h0 : jH} {Q : Option Value → jH → Prop} {R4 : Int} {R17 : Int} (hD : jDk Dy) (hQ : ∀ (v : Int32) hx9, 0 ≤ v.toInt ∧ v.toInt ≤ 1 → jJ jSgX Dy hx9 → jSm fp_X2_readSum_r95_c7 h0 hx9 → ∀ u0 u1 : Int32, jiv hx9 68 5 = u0 → jiv hx9 68 3 = u1 → (u0.toInt ≠ 3 ∨ u1.toInt ≤ 399) → Q (some (.int v)) hx9) (k4 : ∀ (l2 : Int32) (l3 : Int32) (g0 : Int32) (g1 : Int32) (h : jH), 400 - l3.toInt < R4 → (-1) ≤ l2.toInt ∧ l2.toInt ≤ 4 → 0 ≤ l3.toInt ∧ l3.toInt ≤ 400 → 0 ≤ g0.toInt ∧ g0.toInt ≤ 400 → 0 ≤ g1.toInt ∧ g1.toInt ≤ 3 → (g1.toInt ≠ 3 ∨ g0.toInt ≤ 399) → jiv h 68 3 = g0 → jiv h 68 5 = g1 → jJ jSgX Dy h → jSm fp_X2_readSum_r95_c7 h0 h → jX m_X2_readSum 8 0 0 4 [(0, .ref 95), (1, .int 7), (2, .int l2), (3, .int l3)] [] h 0 0 Q) (k17 : ∀ (l2 : Int32) (l3 : Int32) (l4 : Int32) (l5 : Int32) (g0 : Int32) (g1 : Int32) (h : jH), 400 - l5.toInt < R17 → (-1) ≤ l2.toInt ∧ l2.toInt ≤ 4 → 0 ≤ l3.toInt ∧ l3.toInt ≤ 399 → (-1) ≤ l4.toInt ∧ l4.toInt ≤ 6 → 0 ≤ l5.toInt ∧ l5.toInt ≤ 400 → 0 ≤ g0.toInt ∧ g0.toInt ≤ 400 → 0 ≤ g1.toInt ∧ g1.toInt ≤ 3 → (g1.toInt ≠ 3 ∨ g0.toInt ≤ 399) → jiv h 68 3 = g0 → jiv h 68 5 = g1 → 400 - l3.toInt ≤ R4 → jJ jSgX Dy h → jSm fp_X2_readSum_r95_c7 h0 h → jX m_X2_readSum 8 0 0 17 [(0, .ref 95), (1, .int 7), (2, .int l2), (3, .int l3), (4, .int l4), (5, .int l5)] [] h 0 0 Q) : ∀ (l2 : Int32) (l3 : Int32) (l5 : Int32) (g0 : Int32) (g1 : Int32) (h : jH), (-1) ≤ l2.toInt ∧ l2.toInt ≤ 4 → 0 ≤ l3.toInt ∧ l3.toInt ≤ 399 → 0 ≤ l5.toInt ∧ l5.toInt ≤ 399 → 0 ≤ g0.toInt ∧ g0.toInt ≤ 400 → 0 ≤ g1.toInt ∧ g1.toInt ≤ 3 → (g1.toInt ≠ 3 ∨ g0.toInt ≤ 399) → jiv h 68 3 = g0 → jiv h 68 5 = g1 → 400 - l3.toInt ≤ R4 → 400 - l5.toInt ≤ R17 → jJ jSgX Dy h → jSm fp_X2_readSum_r95_c7 h0 h → jX m_X2_readSum 8 0 0 81 [(0, .ref 95), (1, .int 7), (2, .int l2), (3, .int l3), (5, .int l5)] [.int (-1)] h 0 0 Q := by
  intro l2 l3 l5 g0 g1 h y0 y1 y2 y3 y4 y5 z0 z1 m4 m17 J Sm
  refine x_istore (lsx9 := [(4, .int (-1)), (0, .ref 95), (1, .int 7), (2, .int l2), (3, .int l3), (5, .int l5)]) rfl rfl rfl ?_
  refine x_iload (x := (-1)) rfl rfl ?_
  refine x_iconst (v := (-1)) rfl ki_m1 ?_
  refine x_icne (tgt := 92) rfl rfl (ti_ne jk_m1 jk_m1 (bn_f (by omega) ?_))
  refine x_goto (tgt := 105) rfl rfl ?_
  exact jX.sub (jsb_c rfl (jsb_c rfl (jsb_c rfl (jsb_c rfl jsb_n)))) (ct_X2_readSum_r95_c7_105 hD hQ k4 l2 l3 g0 g1 h (jr_of rfl (by omega)) (jr_of rfl (by omega)) (jr_of rfl (by omega)) (jr_of rfl (by omega)) (by omega) z0 z1 (by omega) J Sm)
set_option maxRecDepth 100000 in
set_option maxHeartbeats 4000000 in
theorem ct_X2_readSum_r95_c7_800081 {Dy : jH → Prop} {h0 : jH} {Q : Option Value → jH → Prop} {R4 : Int} {R17 : Int} (hD : jDk Dy) (hQ : ∀ (v : Int32) hx9, 0 ≤ v.toInt ∧ v.toInt ≤ 1 → jJ jSgX Dy hx9 → jSm fp_X2_readSum_r95_c7 h0 hx9 → ∀ u0 u1 : Int32, jiv hx9 68 5 = u0 → jiv hx9 68 3 = u1 → (u0.toInt ≠ 3 ∨ u1.toInt ≤ 399) → Q (some (.int v)) hx9) (k4 : ∀ (l2 : Int32) (l3 : Int32) (g0 : Int32) (g1 : Int32) (h : jH), 400 - l3.toInt < R4 → (-1) ≤ l2.toInt ∧ l2.toInt ≤ 4 → 0 ≤ l3.toInt ∧ l3.toInt ≤ 400 → 0 ≤ g0.toInt ∧ g0.toInt ≤ 400 → 0 ≤ g1.toInt ∧ g1.toInt ≤ 3 → (g1.toInt ≠ 3 ∨ g0.toInt ≤ 399) → jiv h 68 3 = g0 → jiv h 68 5 = g1 → jJ jSgX Dy h → jSm fp_X2_readSum_r95_c7 h0 h → jX m_X2_readSum 8 0 0 4 [(0, .ref 95), (1, .int 7), (2, .int l2), (3, .int l3)] [] h 0 0 Q) (k17 : ∀ (l2 : Int32) (l3 : Int32) (l4 : Int32) (l5 : Int32) (g0 : Int32) (g1 : Int32) (h : jH), 400 - l5.toInt < R17 → (-1) ≤ l2.toInt ∧ l2.toInt ≤ 4 → 0 ≤ l3.toInt ∧ l3.toInt ≤ 399 → (-1) ≤ l4.toInt ∧ l4.toInt ≤ 6 → 0 ≤ l5.toInt ∧ l5.toInt ≤ 400 → 0 ≤ g0.toInt ∧ g0.toInt ≤ 400 → 0 ≤ g1.toInt ∧ g1.toInt ≤ 3 → (g1.toInt ≠ 3 ∨ g0.toInt ≤ 399) → jiv h 68 3 = g0 → jiv h 68 5 = g1 → 400 - l3.toInt ≤ R4 → jJ jSgX Dy h → jSm fp_X2_readSum_r95_c7 h0 h → jX m_X2_readSum 8 0 0 17 [(0, .ref 95), (1, .int 7), (2, .int l2), (3, .int l3), (4, .int l4), (5, .int l5)] [] h 0 0 Q) : ∀ (l2 : Int32) (l3 : Int32) (l5 : Int32) (g0 : Int32) (g1 : Int32) (h : jH), (-1) ≤ l2.toInt ∧ l2.toInt ≤ 4 → 0 ≤ l3.toInt ∧ l3.toInt ≤ 399 → 0 ≤ l5.toInt ∧ l5.toInt ≤ 399 → 0 ≤ g0.toInt ∧ g0.toInt ≤ 400 → 0 ≤ g1.toInt ∧ g1.toInt ≤ 3 → (g1.toInt ≠ 3 ∨ g0.toInt ≤ 399) → jiv h 68 3 = g0 → jiv h 68 5 = g1 → 400 - l3.toInt ≤ R4 → 400 - l5.toInt ≤ R17 → jJ jSgX Dy h → jSm fp_X2_readSum_r95_c7 h0 h → jX m_X2_readSum 8 0 0 81 [(0, .ref 95), (1, .int 7), (2, .int l2), (3, .int l3), (5, .int l5)] [.int 6] h 0 0 Q := by
  intro l2 l3 l5 g0 g1 h y0 y1 y2 y3 y4 y5 z0 z1 m4 m17 J Sm
  refine x_istore (lsx9 := [(4, .int 6), (0, .ref 95), (1, .int 7), (2, .int l2), (3, .int l3), (5, .int l5)]) rfl rfl rfl ?_
  refine x_iload (x := 6) rfl rfl ?_
  refine x_iconst (v := (-1)) rfl ki_m1 ?_
  refine x_icne (tgt := 92) rfl rfl (ti_ne jk_6 jk_m1 (bn_t (by omega) ?_))
  refine x_aloadn (x := 95) rfl rfl ?_
  refine z_getR (N := 6) (b := 68) 2 0 rfl f_2_30 rfl J rfl 12160 ⟨rfl, rfl⟩ rfl ?_
  refine x_inv (N := m_X9_step) (As := []) (b := 68) (st := []) (dx9 := 2) (mc := 0) (ms := 0) (host := "") 9 rfl t_X9_step ⟨Or.inl q_2_62, i_X9_step.1, i_X9_step.2⟩ ⟨by decide, rfl⟩ (congrArg Prod.fst (J.1.1 68 (9, 6) rfl)) rfl (by decide) rfl rfl ⟨by decide, by decide⟩ (sf_X9_step_r68  hD J z1 z0 (by omega)  (fun h J S1 u2 u3 qu2 qu3 ru2 => ?_))
  have Sm := jSm_tr rfl Sm S1
  have eu2 := (show 0 ≤ u2.toInt ∧ u2.toInt ≤ 3 from qu2 ▸ jrg_f J sg_68_5_6_1_0_1)
  have eu3 := (show 0 ≤ u3.toInt ∧ u3.toInt ≤ 400 from qu3 ▸ jrg_f J sg_68_3_4_1_0_1)
  show jX m_X2_readSum 8 0 0 99 [(4, .int 6), (0, .ref 95), (1, .int 7), (2, .int l2), (3, .int l3), (5, .int l5)] [] _ 0 0 _
  refine z_iinc (x := l5) (lsx9 := fun v4 => [(5, .int v4), (4, .int 6), (0, .ref 95), (1, .int 7), (2, .int l2), (3, .int l3)]) rfl rfl rfl jko_1 (by omega) rfl (fun _ => rfl) (fun v4 ev4 => ?_)
  refine x_goto (tgt := 17) rfl rfl ?_
  exact jX.sub (jsb_c rfl (jsb_c rfl (jsb_c rfl (jsb_c rfl (jsb_c rfl (jsb_c rfl jsb_n)))))) (k17 l2 l3 6 v4 u3 u2 h (by omega) (jr_of rfl (by omega)) (jr_of rfl (by omega)) (jr_of jk_6 (by omega)) (jr_of rfl (by omega)) (jr_of rfl (by omega)) (jr_of rfl (by omega)) (by omega) qu3 qu2 (by omega) J Sm)
set_option maxRecDepth 100000 in
set_option maxHeartbeats 4000000 in
theorem ct_X2_readSum_r95_c7_700081 {Dy : jH → Prop} {h0 : jH} {Q : Option Value → jH → Prop} {R4 : Int} {R17 : Int} (hD : jDk Dy) (hQ : ∀ (v : Int32) hx9, 0 ≤ v.toInt ∧ v.toInt ≤ 1 → jJ jSgX Dy hx9 → jSm fp_X2_readSum_r95_c7 h0 hx9 → ∀ u0 u1 : Int32, jiv hx9 68 5 = u0 → jiv hx9 68 3 = u1 → (u0.toInt ≠ 3 ∨ u1.toInt ≤ 399) → Q (some (.int v)) hx9) (k4 : ∀ (l2 : Int32) (l3 : Int32) (g0 : Int32) (g1 : Int32) (h : jH), 400 - l3.toInt < R4 → (-1) ≤ l2.toInt ∧ l2.toInt ≤ 4 → 0 ≤ l3.toInt ∧ l3.toInt ≤ 400 → 0 ≤ g0.toInt ∧ g0.toInt ≤ 400 → 0 ≤ g1.toInt ∧ g1.toInt ≤ 3 → (g1.toInt ≠ 3 ∨ g0.toInt ≤ 399) → jiv h 68 3 = g0 → jiv h 68 5 = g1 → jJ jSgX Dy h → jSm fp_X2_readSum_r95_c7 h0 h → jX m_X2_readSum 8 0 0 4 [(0, .ref 95), (1, .int 7), (2, .int l2), (3, .int l3)] [] h 0 0 Q) (k17 : ∀ (l2 : Int32) (l3 : Int32) (l4 : Int32) (l5 : Int32) (g0 : Int32) (g1 : Int32) (h : jH), 400 - l5.toInt < R17 → (-1) ≤ l2.toInt ∧ l2.toInt ≤ 4 → 0 ≤ l3.toInt ∧ l3.toInt ≤ 399 → (-1) ≤ l4.toInt ∧ l4.toInt ≤ 6 → 0 ≤ l5.toInt ∧ l5.toInt ≤ 400 → 0 ≤ g0.toInt ∧ g0.toInt ≤ 400 → 0 ≤ g1.toInt ∧ g1.toInt ≤ 3 → (g1.toInt ≠ 3 ∨ g0.toInt ≤ 399) → jiv h 68 3 = g0 → jiv h 68 5 = g1 → 400 - l3.toInt ≤ R4 → jJ jSgX Dy h → jSm fp_X2_readSum_r95_c7 h0 h → jX m_X2_readSum 8 0 0 17 [(0, .ref 95), (1, .int 7), (2, .int l2), (3, .int l3), (4, .int l4), (5, .int l5)] [] h 0 0 Q) : ∀ (l2 : Int32) (l3 : Int32) (l5 : Int32) (g0 : Int32) (g1 : Int32) (h : jH), (-1) ≤ l2.toInt ∧ l2.toInt ≤ 4 → 0 ≤ l3.toInt ∧ l3.toInt ≤ 399 → 0 ≤ l5.toInt ∧ l5.toInt ≤ 399 → 0 ≤ g0.toInt ∧ g0.toInt ≤ 400 → 0 ≤ g1.toInt ∧ g1.toInt ≤ 3 → (g1.toInt ≠ 3 ∨ g0.toInt ≤ 399) → jiv h 68 3 = g0 → jiv h 68 5 = g1 → 400 - l3.toInt ≤ R4 → 400 - l5.toInt ≤ R17 → jJ jSgX Dy h → jSm fp_X2_readSum_r95_c7 h0 h → jX m_X2_readSum 8 0 0 81 [(0, .ref 95), (1, .int 7), (2, .int l2), (3, .int l3), (5, .int l5)] [.int 5] h 0 0 Q := by
  intro l2 l3 l5 g0 g1 h y0 y1 y2 y3 y4 y5 z0 z1 m4 m17 J Sm
  refine x_istore (lsx9 := [(4, .int 5), (0, .ref 95), (1, .int 7), (2, .int l2), (3, .int l3), (5, .int l5)]) rfl rfl rfl ?_
  refine x_iload (x := 5) rfl rfl ?_
  refine x_iconst (v := (-1)) rfl ki_m1 ?_
  refine x_icne (tgt := 92) rfl rfl (ti_ne jk_5 jk_m1 (bn_t (by omega) ?_))
  refine x_aloadn (x := 95) rfl rfl ?_
  refine z_getR (N := 6) (b := 68) 2 0 rfl f_2_30 rfl J rfl 12160 ⟨rfl, rfl⟩ rfl ?_
  refine x_inv (N := m_X9_step) (As := []) (b := 68) (st := []) (dx9 := 2) (mc := 0) (ms := 0) (host := "") 9 rfl t_X9_step ⟨Or.inl q_2_62, i_X9_step.1, i_X9_step.2⟩ ⟨by decide, rfl⟩ (congrArg Prod.fst (J.1.1 68 (9, 6) rfl)) rfl (by decide) rfl rfl ⟨by decide, by decide⟩ (sf_X9_step_r68  hD J z1 z0 (by omega)  (fun h J S1 u2 u3 qu2 qu3 ru2 => ?_))
  have Sm := jSm_tr rfl Sm S1
  have eu2 := (show 0 ≤ u2.toInt ∧ u2.toInt ≤ 3 from qu2 ▸ jrg_f J sg_68_5_6_1_0_1)
  have eu3 := (show 0 ≤ u3.toInt ∧ u3.toInt ≤ 400 from qu3 ▸ jrg_f J sg_68_3_4_1_0_1)
  show jX m_X2_readSum 8 0 0 99 [(4, .int 5), (0, .ref 95), (1, .int 7), (2, .int l2), (3, .int l3), (5, .int l5)] [] _ 0 0 _
  refine z_iinc (x := l5) (lsx9 := fun v4 => [(5, .int v4), (4, .int 5), (0, .ref 95), (1, .int 7), (2, .int l2), (3, .int l3)]) rfl rfl rfl jko_1 (by omega) rfl (fun _ => rfl) (fun v4 ev4 => ?_)
  refine x_goto (tgt := 17) rfl rfl ?_
  exact jX.sub (jsb_c rfl (jsb_c rfl (jsb_c rfl (jsb_c rfl (jsb_c rfl (jsb_c rfl jsb_n)))))) (k17 l2 l3 5 v4 u3 u2 h (by omega) (jr_of rfl (by omega)) (jr_of rfl (by omega)) (jr_of jk_5 (by omega)) (jr_of rfl (by omega)) (jr_of rfl (by omega)) (jr_of rfl (by omega)) (by omega) qu3 qu2 (by omega) J Sm)
set_option maxRecDepth 100000 in
set_option maxHeartbeats 4000000 in
theorem ct_X2_readSum_r95_c7_47 {Dy : jH → Prop} {h0 : jH} {Q : Option Value → jH → Prop} {R4 : Int} {R17 : Int} (hD : jDk Dy) (hQ : ∀ (v : Int32) hx9, 0 ≤ v.toInt ∧ v.toInt ≤ 1 → jJ jSgX Dy hx9 → jSm fp_X2_readSum_r95_c7 h0 hx9 → ∀ u0 u1 : Int32, jiv hx9 68 5 = u0 → jiv hx9 68 3 = u1 → (u0.toInt ≠ 3 ∨ u1.toInt ≤ 399) → Q (some (.int v)) hx9) (k4 : ∀ (l2 : Int32) (l3 : Int32) (g0 : Int32) (g1 : Int32) (h : jH), 400 - l3.toInt < R4 → (-1) ≤ l2.toInt ∧ l2.toInt ≤ 4 → 0 ≤ l3.toInt ∧ l3.toInt ≤ 400 → 0 ≤ g0.toInt ∧ g0.toInt ≤ 400 → 0 ≤ g1.toInt ∧ g1.toInt ≤ 3 → (g1.toInt ≠ 3 ∨ g0.toInt ≤ 399) → jiv h 68 3 = g0 → jiv h 68 5 = g1 → jJ jSgX Dy h → jSm fp_X2_readSum_r95_c7 h0 h → jX m_X2_readSum 8 0 0 4 [(0, .ref 95), (1, .int 7), (2, .int l2), (3, .int l3)] [] h 0 0 Q) (k17 : ∀ (l2 : Int32) (l3 : Int32) (l4 : Int32) (l5 : Int32) (g0 : Int32) (g1 : Int32) (h : jH), 400 - l5.toInt < R17 → (-1) ≤ l2.toInt ∧ l2.toInt ≤ 4 → 0 ≤ l3.toInt ∧ l3.toInt ≤ 399 → (-1) ≤ l4.toInt ∧ l4.toInt ≤ 6 → 0 ≤ l5.toInt ∧ l5.toInt ≤ 400 → 0 ≤ g0.toInt ∧ g0.toInt ≤ 400 → 0 ≤ g1.toInt ∧ g1.toInt ≤ 3 → (g1.toInt ≠ 3 ∨ g0.toInt ≤ 399) → jiv h 68 3 = g0 → jiv h 68 5 = g1 → 400 - l3.toInt ≤ R4 → jJ jSgX Dy h → jSm fp_X2_readSum_r95_c7 h0 h → jX m_X2_readSum 8 0 0 17 [(0, .ref 95), (1, .int 7), (2, .int l2), (3, .int l3), (4, .int l4), (5, .int l5)] [] h 0 0 Q) : ∀ (l2 : Int32) (l3 : Int32) (l5 : Int32) (g0 : Int32) (g1 : Int32) (h : jH), (-1) ≤ l2.toInt ∧ l2.toInt ≤ 4 → 0 ≤ l3.toInt ∧ l3.toInt ≤ 399 → 0 ≤ l5.toInt ∧ l5.toInt ≤ 399 → 0 ≤ g0.toInt ∧ g0.toInt ≤ 400 → 0 ≤ g1.toInt ∧ g1.toInt ≤ 3 → (g1.toInt ≠ 3 ∨ g0.toInt ≤ 399) → jiv h 68 3 = g0 → jiv h 68 5 = g1 → 400 - l3.toInt ≤ R4 → 400 - l5.toInt ≤ R17 → jJ jSgX Dy h → jSm fp_X2_readSum_r95_c7 h0 h → jX m_X2_readSum 8 0 0 47 [(0, .ref 95), (1, .int 7), (2, .int l2), (3, .int l3), (5, .int l5)] [] h 0 0 Q := by
  intro l2 l3 l5 g0 g1 h y0 y1 y2 y3 y4 y5 z0 z1 m4 m17 J Sm
  refine x_aloadn (x := 95) rfl rfl ?_
  refine z_getR (N := 6) (b := 68) 2 0 rfl f_2_30 rfl J rfl 12160 ⟨rfl, rfl⟩ rfl ?_
  refine x_bipush (v := 42) rfl kb_42 ?_
  refine x_inv (N := m_X9_isSign) (As := [.int 42]) (b := 68) (st := []) (dx9 := 1) (mc := 0) (ms := 0) (host := "") 9 rfl t_X9_isSign ⟨Or.inl q_2_55, i_X9_isSign.1, i_X9_isSign.2⟩ ⟨by decide, rfl⟩ (congrArg Prod.fst (J.1.1 68 (9, 6) rfl)) rfl (by decide) rfl rfl ⟨by decide, by decide⟩ (sf_X9_isSign_r68 (jr_of jk_42 (by omega)) hD J z1 z0 (by omega)  (fun v4 h ev4 J S1 u2 u3 qu2 qu3 ru2 => ?_))
  have Sm := jSm_tr rfl Sm S1
  have eu2 := (show 0 ≤ u2.toInt ∧ u2.toInt ≤ 3 from qu2 ▸ jrg_f J sg_68_5_6_1_0_1)
  have eu3 := (show 0 ≤ u3.toInt ∧ u3.toInt ≤ 400 from qu3 ▸ jrg_f J sg_68_3_4_1_0_1)
  show jX m_X2_readSum 8 0 0 56 [(0, .ref 95), (1, .int 7), (2, .int l2), (3, .int l3), (5, .int l5)] [.int v4] _ 0 0 _
  refine x_ifeq (tgt := 63) rfl rfl (ti_eq rfl jk_0 ⟨fun c5 => ?_, fun c5 => ?_⟩)
  ·
    refine x_aloadn (x := 95) rfl rfl ?_
    refine z_getR (N := 6) (b := 68) 2 0 rfl f_2_30 rfl J rfl 12160 ⟨rfl, rfl⟩ rfl ?_
    refine x_bipush (v := 47) rfl kb_47 ?_
    refine x_inv (N := m_X9_isSign) (As := [.int 47]) (b := 68) (st := []) (dx9 := 1) (mc := 0) (ms := 0) (host := "") 9 rfl t_X9_isSign ⟨Or.inl q_2_55, i_X9_isSign.1, i_X9_isSign.2⟩ ⟨by decide, rfl⟩ (congrArg Prod.fst (J.1.1 68 (9, 6) rfl)) rfl (by decide) rfl rfl ⟨by decide, by decide⟩ (sf_X9_isSign_r68 (jr_of jk_47 (by omega)) hD J qu2 qu3 (by omega)  (fun v9 h ev9 J S6 u7 u8 qu7 qu8 ru7 => ?_))
    have Sm := jSm_tr rfl Sm S6
    have eu7 := (show 0 ≤ u7.toInt ∧ u7.toInt ≤ 3 from qu7 ▸ jrg_f J sg_68_5_6_1_0_1)
    have eu8 := (show 0 ≤ u8.toInt ∧ u8.toInt ≤ 400 from qu8 ▸ jrg_f J sg_68_3_4_1_0_1)
    show jX m_X2_readSum 8 0 0 72 [(0, .ref 95), (1, .int 7), (2, .int l2), (3, .int l3), (5, .int l5)] [.int v9] _ 0 0 _
    refine x_ifeq (tgt := 80) rfl rfl (ti_eq rfl jk_0 ⟨fun c10 => ?_, fun c10 => ?_⟩)
    ·
      refine x_iconst (v := (-1)) rfl ki_m1 ?_
      exact jX.sub (jsb_c rfl (jsb_c rfl (jsb_c rfl (jsb_c rfl (jsb_c rfl jsb_n))))) (ct_X2_readSum_r95_c7_100081 hD hQ k4 k17 l2 l3 l5 u8 u7 h (jr_of rfl (by omega)) (jr_of rfl (by omega)) (jr_of rfl (by omega)) (jr_of rfl (by omega)) (jr_of rfl (by omega)) (by omega) qu8 qu7 (by omega) (by omega) J Sm)
    ·
      refine x_bipush (v := 6) rfl kb_6 ?_
      refine x_goto (tgt := 81) rfl rfl ?_
      exact jX.sub (jsb_c rfl (jsb_c rfl (jsb_c rfl (jsb_c rfl (jsb_c rfl jsb_n))))) (ct_X2_readSum_r95_c7_800081 hD hQ k4 k17 l2 l3 l5 u8 u7 h (jr_of rfl (by omega)) (jr_of rfl (by omega)) (jr_of rfl (by omega)) (jr_of rfl (by omega)) (jr_of rfl (by omega)) (by omega) qu8 qu7 (by omega) (by omega) J Sm)
  ·
    refine x_iconst (v := 5) rfl ki_5 ?_
    refine x_goto (tgt := 81) rfl rfl ?_
    exact jX.sub (jsb_c rfl (jsb_c rfl (jsb_c rfl (jsb_c rfl (jsb_c rfl jsb_n))))) (ct_X2_readSum_r95_c7_700081 hD hQ k4 k17 l2 l3 l5 u3 u2 h (jr_of rfl (by omega)) (jr_of rfl (by omega)) (jr_of rfl (by omega)) (jr_of rfl (by omega)) (jr_of rfl (by omega)) (by omega) qu3 qu2 (by omega) (by omega) J Sm)
set_option maxRecDepth 100000 in
set_option maxHeartbeats 4000000 in
theorem ct_X2_readSum_r95_c7_17 {Dy : jH → Prop} {h0 : jH} {Q : Option Value → jH → Prop} {R4 : Int} (hD : jDk Dy) (hQ : ∀ (v : Int32) hx9, 0 ≤ v.toInt ∧ v.toInt ≤ 1 → jJ jSgX Dy hx9 → jSm fp_X2_readSum_r95_c7 h0 hx9 → ∀ u0 u1 : Int32, jiv hx9 68 5 = u0 → jiv hx9 68 3 = u1 → (u0.toInt ≠ 3 ∨ u1.toInt ≤ 399) → Q (some (.int v)) hx9) (k4 : ∀ (l2 : Int32) (l3 : Int32) (g0 : Int32) (g1 : Int32) (h : jH), 400 - l3.toInt < R4 → (-1) ≤ l2.toInt ∧ l2.toInt ≤ 4 → 0 ≤ l3.toInt ∧ l3.toInt ≤ 400 → 0 ≤ g0.toInt ∧ g0.toInt ≤ 400 → 0 ≤ g1.toInt ∧ g1.toInt ≤ 3 → (g1.toInt ≠ 3 ∨ g0.toInt ≤ 399) → jiv h 68 3 = g0 → jiv h 68 5 = g1 → jJ jSgX Dy h → jSm fp_X2_readSum_r95_c7 h0 h → jX m_X2_readSum 8 0 0 4 [(0, .ref 95), (1, .int 7), (2, .int l2), (3, .int l3)] [] h 0 0 Q) : ∀ r : Nat, ∀ (l2 : Int32) (l3 : Int32) (l4 : Int32) (l5 : Int32) (g0 : Int32) (g1 : Int32) (h : jH), 400 - l5.toInt < (r : Int) → (-1) ≤ l2.toInt ∧ l2.toInt ≤ 4 → 0 ≤ l3.toInt ∧ l3.toInt ≤ 399 → (-1) ≤ l4.toInt ∧ l4.toInt ≤ 6 → 0 ≤ l5.toInt ∧ l5.toInt ≤ 400 → 0 ≤ g0.toInt ∧ g0.toInt ≤ 400 → 0 ≤ g1.toInt ∧ g1.toInt ≤ 3 → (g1.toInt ≠ 3 ∨ g0.toInt ≤ 399) → jiv h 68 3 = g0 → jiv h 68 5 = g1 → 400 - l3.toInt ≤ R4 → jJ jSgX Dy h → jSm fp_X2_readSum_r95_c7 h0 h → jX m_X2_readSum 8 0 0 17 [(0, .ref 95), (1, .int 7), (2, .int l2), (3, .int l3), (4, .int l4), (5, .int l5)] [] h 0 0 Q := by
  intro r
  induction r with
  | zero =>
    intro l2 l3 l4 l5 g0 g1 h hm y0 y1 y2 y3 y4 y5 y6 z0 z1 m4 J Sm
    exfalso
    omega
  | succ r ih =>
    intro l2 l3 l4 l5 g0 g1 h hm y0 y1 y2 y3 y4 y5 y6 z0 z1 m4 J Sm
    refine x_iload (x := l5) rfl rfl ?_
    refine x_sipush (v := 400) rfl ks_400 ?_
    refine x_icge (tgt := 105) rfl rfl (ti_ge rfl jk_400 ⟨fun c1 => ?_, fun c1 => ?_⟩)
    ·
      exact jX.sub (jsb_c rfl (jsb_c rfl (jsb_c rfl (jsb_c rfl jsb_n)))) (ct_X2_readSum_r95_c7_105 hD hQ k4 l2 l3 g0 g1 h (jr_of rfl (by omega)) (jr_of rfl (by omega)) (jr_of rfl (by omega)) (jr_of rfl (by omega)) (by omega) z0 z1 (by omega) J Sm)
    ·
      refine x_aloadn (x := 95) rfl rfl ?_
      refine x_iloadn (x := 7) rfl rfl ?_
      refine x_inv (N := m_X2_readFactor) (As := [.int 7]) (b := 95) (st := []) (dx9 := 7) (mc := 0) (ms := 0) (host := "") 2 rfl t_X2_readFactor ⟨Or.inl q_2_144, i_X2_readFactor.1, i_X2_readFactor.2⟩ ⟨by decide, rfl⟩ (congrArg Prod.fst (J.1.1 95 (2, 6) rfl)) rfl (by decide) rfl rfl ⟨by decide, by decide⟩ (sf_X2_readFactor_r95_c7  hD J z1 z0 (by omega)  (fun v5 h ev5 J S2 u3 u4 qu3 qu4 ru3 => ?_))
      have Sm := jSm_tr rfl Sm S2
      have eu3 := (show 0 ≤ u3.toInt ∧ u3.toInt ≤ 3 from qu3 ▸ jrg_f J sg_68_5_6_1_0_1)
      have eu4 := (show 0 ≤ u4.toInt ∧ u4.toInt ≤ 400 from qu4 ▸ jrg_f J sg_68_3_4_1_0_1)
      show jX m_X2_readSum 8 0 0 30 [(0, .ref 95), (1, .int 7), (2, .int l2), (3, .int l3), (4, .int l4), (5, .int l5)] [.int v5] _ 0 0 _
      refine x_ifne (tgt := 35) rfl rfl (ti_ne rfl jk_0 ⟨fun c6 => ?_, fun c6 => ?_⟩)
      ·
        refine x_iload (x := l4) rfl rfl ?_
        refine x_iconst (v := (-1)) rfl ki_m1 ?_
        refine x_iceq (tgt := 47) rfl rfl (ti_eq rfl jk_m1 ⟨fun c7 => ?_, fun c7 => ?_⟩)
        ·
          exact jX.sub (jsb_c rfl (jsb_c rfl (jsb_c rfl (jsb_c rfl (jsb_c rfl jsb_n))))) (ct_X2_readSum_r95_c7_47 hD hQ k4 ih l2 l3 l5 u4 u3 h (jr_of rfl (by omega)) (jr_of rfl (by omega)) (jr_of rfl (by omega)) (jr_of rfl (by omega)) (jr_of rfl (by omega)) (by omega) qu4 qu3 (by omega) (by omega) J Sm)
        ·
          refine x_aloadn (x := 95) rfl rfl ?_
          refine x_iload (x := l4) rfl rfl ?_
          refine x_inv (N := m_X2_emit) (As := [.int l4]) (b := 95) (st := []) (dx9 := 1) (mc := 0) (ms := 0) (host := "") 2 rfl t_X2_emit ⟨Or.inl q_2_89, i_X2_emit.1, i_X2_emit.2⟩ ⟨by decide, rfl⟩ (congrArg Prod.fst (J.1.1 95 (2, 6) rfl)) rfl (by decide) rfl rfl ⟨by decide, by decide⟩ (sf_X2_emit_r95  hD J  (fun h J S8 => ?_))
          have Sm := jSm_tr rfl Sm S8
          show jX m_X2_readSum 8 0 0 47 [(0, .ref 95), (1, .int 7), (2, .int l2), (3, .int l3), (4, .int l4), (5, .int l5)] [] _ 0 0 _
          exact jX.sub (jsb_c rfl (jsb_c rfl (jsb_c rfl (jsb_c rfl (jsb_c rfl jsb_n))))) (ct_X2_readSum_r95_c7_47 hD hQ k4 ih l2 l3 l5 u4 u3 h (jr_of rfl (by omega)) (jr_of rfl (by omega)) (jr_of rfl (by omega)) (jr_of rfl (by omega)) (jr_of rfl (by omega)) (by omega) (jmc S8 rfl qu4) (jmc S8 rfl qu3) (by omega) (by omega) J Sm)
      ·
        refine x_iconst (v := 0) rfl ki_0 ?_
        refine x_zret rfl rfl (by decide) ?_
        exact hQ _ _ (jr_of jk_0 (by omega)) J Sm _ _ qu3 qu4 (by omega)
set_option maxRecDepth 100000 in
set_option maxHeartbeats 4000000 in
theorem ct_X2_readSum_r95_c7_4 {Dy : jH → Prop} {h0 : jH} {Q : Option Value → jH → Prop} (hD : jDk Dy) (hQ : ∀ (v : Int32) hx9, 0 ≤ v.toInt ∧ v.toInt ≤ 1 → jJ jSgX Dy hx9 → jSm fp_X2_readSum_r95_c7 h0 hx9 → ∀ u0 u1 : Int32, jiv hx9 68 5 = u0 → jiv hx9 68 3 = u1 → (u0.toInt ≠ 3 ∨ u1.toInt ≤ 399) → Q (some (.int v)) hx9) : ∀ r : Nat, ∀ (l2 : Int32) (l3 : Int32) (g0 : Int32) (g1 : Int32) (h : jH), 400 - l3.toInt < (r : Int) → (-1) ≤ l2.toInt ∧ l2.toInt ≤ 4 → 0 ≤ l3.toInt ∧ l3.toInt ≤ 400 → 0 ≤ g0.toInt ∧ g0.toInt ≤ 400 → 0 ≤ g1.toInt ∧ g1.toInt ≤ 3 → (g1.toInt ≠ 3 ∨ g0.toInt ≤ 399) → jiv h 68 3 = g0 → jiv h 68 5 = g1 → jJ jSgX Dy h → jSm fp_X2_readSum_r95_c7 h0 h → jX m_X2_readSum 8 0 0 4 [(0, .ref 95), (1, .int 7), (2, .int l2), (3, .int l3)] [] h 0 0 Q := by
  intro r
  induction r with
  | zero =>
    intro l2 l3 g0 g1 h hm y0 y1 y2 y3 y4 z0 z1  J Sm
    exfalso
    omega
  | succ r ih =>
    intro l2 l3 g0 g1 h hm y0 y1 y2 y3 y4 z0 z1  J Sm
    refine x_iloadn (x := l3) rfl rfl ?_
    refine x_sipush (v := 400) rfl ks_400 ?_
    refine x_icge (tgt := 169) rfl rfl (ti_ge rfl jk_400 ⟨fun c1 => ?_, fun c1 => ?_⟩)
    ·
      refine x_aloadn (x := 95) rfl rfl ?_
      refine z_getR (N := 6) (b := 68) 2 0 rfl f_2_30 rfl J rfl 12160 ⟨rfl, rfl⟩ rfl ?_
      refine x_inv (N := m_X9_blame) (As := []) (b := 68) (st := []) (dx9 := 7) (mc := 0) (ms := 0) (host := "") 9 rfl t_X9_blame ⟨Or.inl q_2_59, i_X9_blame.1, i_X9_blame.2⟩ ⟨by decide, rfl⟩ (congrArg Prod.fst (J.1.1 68 (9, 6) rfl)) rfl (by decide) rfl rfl ⟨by decide, by decide⟩ (jC.of rfl k_X9_blame rfl ?_)
      show jX m_X9_blame 7 0 0 0 [(0, .ref 68)] [] _ 0 0 _
      refine x_aloadn (x := 68) rfl rfl ?_
      refine x_aloadn (x := 68) rfl rfl ?_
      refine z_getM (N := 6) (v := g0) 9 3 rfl f_9_22 rfl J rfl z0 ?_
      refine z_putI (N := 6) (w := g0.toInt) 9 2 rfl f_9_19 rfl (jfin_no TX9 RX9 6 rfl rfl) hD J Sm rfl rfl rfl (pw_68_2 (by omega)) rfl (fun h w2 J Sm => ?_)
      refine x_iconst (v := 0) rfl ki_0 ?_
      refine x_zret rfl rfl (by decide) ?_
      show jX m_X2_readSum 8 0 0 176 [(0, .ref 95), (1, .int 7), (2, .int l2), (3, .int l3)] [.int 0] _ 0 0 _
      refine x_zret rfl rfl (by decide) ?_
      exact hQ _ _ (jr_of jk_0 (by omega)) J Sm _ _ (jmo w2 rfl z1) (jmo w2 rfl z0) (by omega)
    ·
      refine x_iconst (v := (-1)) rfl ki_m1 ?_
      refine x_istore (lsx9 := [(4, .int (-1)), (0, .ref 95), (1, .int 7), (2, .int l2), (3, .int l3)]) rfl rfl rfl ?_
      refine x_iconst (v := 0) rfl ki_0 ?_
      refine x_istore (lsx9 := [(5, .int 0), (4, .int (-1)), (0, .ref 95), (1, .int 7), (2, .int l2), (3, .int l3)]) rfl rfl rfl ?_
      exact jX.sub (jsb_c rfl (jsb_c rfl (jsb_c rfl (jsb_c rfl (jsb_c rfl (jsb_c rfl jsb_n)))))) (ct_X2_readSum_r95_c7_17 hD hQ ih 401 l2 l3 (-1) 0 g0 g1 h (by have := jk_0; omega) (jr_of rfl (by omega)) (jr_of rfl (by omega)) (jr_of jk_m1 (by omega)) (jr_of jk_0 (by omega)) (jr_of rfl (by omega)) (jr_of rfl (by omega)) (by omega) z0 z1 (by omega) J Sm)
set_option maxRecDepth 100000 in
set_option maxHeartbeats 4000000 in
theorem sf_X2_readSum_r95_c7 {Dy : jH → Prop} {h : jH} {Q : Option Value → jH → Prop} (hD : jDk Dy) (J : jJ jSgX Dy h) {p0 p1 : Int32} (zp0 : jiv h 68 5 = p0) (zp1 : jiv h 68 3 = p1) (rl_p0 : (p0.toInt ≠ 3 ∨ p1.toInt ≤ 399)) (hQ : ∀ (v : Int32) hx9, 0 ≤ v.toInt ∧ v.toInt ≤ 1 → jJ jSgX Dy hx9 → jSm fp_X2_readSum_r95_c7 h hx9 → ∀ u0 u1 : Int32, jiv hx9 68 5 = u0 → jiv hx9 68 3 = u1 → (u0.toInt ≠ 3 ∨ u1.toInt ≤ 399) → Q (some (.int v)) hx9) : jC m_X2_readSum 8 0 0 [.ref 95, .int 7] h Q := by
  refine jC.of rfl k_X2_readSum rfl ?_
  have Sm := jSm_rf fp_X2_readSum_r95_c7 h
  have ep0 := (show 0 ≤ p0.toInt ∧ p0.toInt ≤ 3 from zp0 ▸ jrg_f J sg_68_5_6_1_0_1)
  have ep1 := (show 0 ≤ p1.toInt ∧ p1.toInt ≤ 400 from zp1 ▸ jrg_f J sg_68_3_4_1_0_1)
  show jX m_X2_readSum 8 0 0 0 [(0, .ref 95), (1, .int 7)] [] _ 0 0 _
  refine x_iconst (v := (-1)) rfl ki_m1 ?_
  refine x_istoren (lsx9 := [(2, .int (-1)), (0, .ref 95), (1, .int 7)]) rfl rfl rfl ?_
  refine x_iconst (v := 0) rfl ki_0 ?_
  refine x_istoren (lsx9 := [(3, .int 0), (2, .int (-1)), (0, .ref 95), (1, .int 7)]) rfl rfl rfl ?_
  exact jX.sub (jsb_c rfl (jsb_c rfl (jsb_c rfl (jsb_c rfl jsb_n)))) (ct_X2_readSum_r95_c7_4 hD hQ  401 (-1) 0 p1 p0 h (by have := jk_0; omega) (jr_of jk_m1 (by omega)) (jr_of jk_0 (by omega)) (jr_of rfl (by omega)) (jr_of rfl (by omega)) (by omega) zp1 zp0 J Sm)
def fp_X2_readFactor_r95_c6 : jFp := [(68, 2, 3), (68, 3, 4), (68, 4, 5), (68, 5, 6), (95, 4, 5), (95, 5, 6), (97, 0, 1200)]
set_option maxRecDepth 100000 in
set_option maxHeartbeats 4000000 in
theorem ct_X2_readFactor_r95_c6_111 {Dy : jH → Prop} {h0 : jH} {Q : Option Value → jH → Prop} (hD : jDk Dy) (hQ : ∀ (v : Int32) hx9, 0 ≤ v.toInt ∧ v.toInt ≤ 1 → jJ jSgX Dy hx9 → jSm fp_X2_readFactor_r95_c6 h0 hx9 → ∀ u0 u1 : Int32, jiv hx9 68 5 = u0 → jiv hx9 68 3 = u1 → (u0.toInt ≠ 3 ∨ u1.toInt ≤ 399) → Q (some (.int v)) hx9) : ∀ (s0 : Int32) (g0 : Int32) (g1 : Int32) (h : jH), 0 ≤ s0.toInt ∧ s0.toInt ≤ 1 → 0 ≤ g0.toInt ∧ g0.toInt ≤ 400 → 0 ≤ g1.toInt ∧ g1.toInt ≤ 3 → (g1.toInt ≠ 3 ∨ g0.toInt ≤ 399) → jiv h 68 3 = g0 → jiv h 68 5 = g1 → jJ jSgX Dy h → jSm fp_X2_readFactor_r95_c6 h0 h → jX m_X2_readFactor 9 0 0 111 [] [.int s0] h 0 0 Q := by
  intro s0 g0 g1 h y0 y1 y2 y3 z0 z1  J Sm
  refine x_zret rfl rfl (jz01 (by omega)) ?_
  exact hQ _ _ (jr_of rfl (by omega)) J Sm _ _ z1 z0 (by omega)
set_option maxRecDepth 100000 in
set_option maxHeartbeats 4000000 in
theorem ct_X2_readFactor_r95_c6_200111 {Dy : jH → Prop} {h0 : jH} {Q : Option Value → jH → Prop} (hD : jDk Dy) (hQ : ∀ (v : Int32) hx9, 0 ≤ v.toInt ∧ v.toInt ≤ 1 → jJ jSgX Dy hx9 → jSm fp_X2_readFactor_r95_c6 h0 hx9 → ∀ u0 u1 : Int32, jiv hx9 68 5 = u0 → jiv hx9 68 3 = u1 → (u0.toInt ≠ 3 ∨ u1.toInt ≤ 399) → Q (some (.int v)) hx9) : ∀ (g0 : Int32) (g1 : Int32) (h : jH), 0 ≤ g0.toInt ∧ g0.toInt ≤ 400 → 0 ≤ g1.toInt ∧ g1.toInt ≤ 3 → (g1.toInt ≠ 3 ∨ g0.toInt ≤ 399) → jiv h 68 3 = g0 → jiv h 68 5 = g1 → jJ jSgX Dy h → jSm fp_X2_readFactor_r95_c6 h0 h → jX m_X2_readFactor 9 0 0 111 [] [.int 0] h 0 0 Q := by
  intro g0 g1 h y0 y1 y2 z0 z1  J Sm
  refine x_zret rfl rfl (by decide) ?_
  exact hQ _ _ (jr_of jk_0 (by omega)) J Sm _ _ z1 z0 (by omega)
set_option maxRecDepth 100000 in
set_option maxHeartbeats 4000000 in
theorem ct_X2_readFactor_r95_c6_300057 {Dy : jH → Prop} {h0 : jH} {Q : Option Value → jH → Prop} (hD : jDk Dy) (hQ : ∀ (v : Int32) hx9, 0 ≤ v.toInt ∧ v.toInt ≤ 1 → jJ jSgX Dy hx9 → jSm fp_X2_readFactor_r95_c6 h0 hx9 → ∀ u0 u1 : Int32, jiv hx9 68 5 = u0 → jiv hx9 68 3 = u1 → (u0.toInt ≠ 3 ∨ u1.toInt ≤ 399) → Q (some (.int v)) hx9) : ∀ (g0 : Int32) (g1 : Int32) (h : jH), 0 ≤ g0.toInt ∧ g0.toInt ≤ 400 → 0 ≤ g1.toInt ∧ g1.toInt ≤ 3 → (g1.toInt ≠ 3 ∨ g0.toInt ≤ 399) → jiv h 68 3 = g0 → jiv h 68 5 = g1 → jJ jSgX Dy h → jSm fp_X2_readFactor_r95_c6 h0 h → jX m_X2_readFactor 9 0 0 57 [] [.int 1] h 0 0 Q := by
  intro g0 g1 h y0 y1 y2 z0 z1  J Sm
  refine x_zret rfl rfl (by decide) ?_
  exact hQ _ _ (jr_of jk_1 (by omega)) J Sm _ _ z1 z0 (by omega)
set_option maxRecDepth 100000 in
set_option maxHeartbeats 4000000 in
theorem ct_X2_readFactor_r95_c6_200057 {Dy : jH → Prop} {h0 : jH} {Q : Option Value → jH → Prop} (hD : jDk Dy) (hQ : ∀ (v : Int32) hx9, 0 ≤ v.toInt ∧ v.toInt ≤ 1 → jJ jSgX Dy hx9 → jSm fp_X2_readFactor_r95_c6 h0 hx9 → ∀ u0 u1 : Int32, jiv hx9 68 5 = u0 → jiv hx9 68 3 = u1 → (u0.toInt ≠ 3 ∨ u1.toInt ≤ 399) → Q (some (.int v)) hx9) : ∀ (g0 : Int32) (g1 : Int32) (h : jH), 0 ≤ g0.toInt ∧ g0.toInt ≤ 400 → 0 ≤ g1.toInt ∧ g1.toInt ≤ 3 → (g1.toInt ≠ 3 ∨ g0.toInt ≤ 399) → jiv h 68 3 = g0 → jiv h 68 5 = g1 → jJ jSgX Dy h → jSm fp_X2_readFactor_r95_c6 h0 h → jX m_X2_readFactor 9 0 0 57 [] [.int 0] h 0 0 Q := by
  intro g0 g1 h y0 y1 y2 z0 z1  J Sm
  refine x_zret rfl rfl (by decide) ?_
  exact hQ _ _ (jr_of jk_0 (by omega)) J Sm _ _ z1 z0 (by omega)
set_option maxRecDepth 100000 in
set_option maxHeartbeats 4000000 in
theorem ct_X2_readFactor_r95_c6_56 {Dy : jH → Prop} {h0 : jH} {Q : Option Value → jH → Prop} (hD : jDk Dy) (hQ : ∀ (v : Int32) hx9, 0 ≤ v.toInt ∧ v.toInt ≤ 1 → jJ jSgX Dy hx9 → jSm fp_X2_readFactor_r95_c6 h0 hx9 → ∀ u0 u1 : Int32, jiv hx9 68 5 = u0 → jiv hx9 68 3 = u1 → (u0.toInt ≠ 3 ∨ u1.toInt ≤ 399) → Q (some (.int v)) hx9) : ∀ (g0 : Int32) (g1 : Int32) (h : jH), 0 ≤ g0.toInt ∧ g0.toInt ≤ 400 → 0 ≤ g1.toInt ∧ g1.toInt ≤ 3 → (g1.toInt ≠ 3 ∨ g0.toInt ≤ 399) → jiv h 68 3 = g0 → jiv h 68 5 = g1 → jJ jSgX Dy h → jSm fp_X2_readFactor_r95_c6 h0 h → jX m_X2_readFactor 9 0 0 56 [] [] h 0 0 Q := by
  intro g0 g1 h y0 y1 y2 z0 z1  J Sm
  refine x_iconst (v := 0) rfl ki_0 ?_
  exact jX.sub jsb_n (ct_X2_readFactor_r95_c6_200057 hD hQ  g0 g1 h (jr_of rfl (by omega)) (jr_of rfl (by omega)) (by omega) z0 z1 J Sm)
set_option maxRecDepth 100000 in
set_option maxHeartbeats 4000000 in
theorem sf_X2_readFactor_r95_c6 {Dy : jH → Prop} {h : jH} {Q : Option Value → jH → Prop} (hD : jDk Dy) (J : jJ jSgX Dy h) {p0 p1 : Int32} (zp0 : jiv h 68 5 = p0) (zp1 : jiv h 68 3 = p1) (rl_p0 : (p0.toInt ≠ 3 ∨ p1.toInt ≤ 399)) (hQ : ∀ (v : Int32) hx9, 0 ≤ v.toInt ∧ v.toInt ≤ 1 → jJ jSgX Dy hx9 → jSm fp_X2_readFactor_r95_c6 h hx9 → ∀ u0 u1 : Int32, jiv hx9 68 5 = u0 → jiv hx9 68 3 = u1 → (u0.toInt ≠ 3 ∨ u1.toInt ≤ 399) → Q (some (.int v)) hx9) : jC m_X2_readFactor 9 0 0 [.ref 95, .int 6] h Q := by
  refine jC.of rfl k_X2_readFactor rfl ?_
  have Sm := jSm_rf fp_X2_readFactor_r95_c6 h
  have ep0 := (show 0 ≤ p0.toInt ∧ p0.toInt ≤ 3 from zp0 ▸ jrg_f J sg_68_5_6_1_0_1)
  have ep1 := (show 0 ≤ p1.toInt ∧ p1.toInt ≤ 400 from zp1 ▸ jrg_f J sg_68_3_4_1_0_1)
  show jX m_X2_readFactor 9 0 0 0 [(0, .ref 95), (1, .int 6)] [] _ 0 0 _
  refine x_aloadn (x := 95) rfl rfl ?_
  refine z_getR (N := 6) (b := 68) 2 0 rfl f_2_30 rfl J rfl 12160 ⟨rfl, rfl⟩ rfl ?_
  refine x_bipush (v := 91) rfl kb_91 ?_
  refine x_inv (N := m_X9_isSign) (As := [.int 91]) (b := 68) (st := []) (dx9 := 1) (mc := 0) (ms := 0) (host := "") 9 rfl t_X9_isSign ⟨Or.inl q_2_55, i_X9_isSign.1, i_X9_isSign.2⟩ ⟨by decide, rfl⟩ (congrArg Prod.fst (J.1.1 68 (9, 6) rfl)) rfl (by decide) rfl rfl ⟨by decide, by decide⟩ (sf_X9_isSign_r68 (jr_of jk_91 (by omega)) hD J zp0 zp1 (by omega)  (fun v4 h ev4 J S1 u2 u3 qu2 qu3 ru2 => ?_))
  have Sm := jSm_tr rfl Sm S1
  have eu2 := (show 0 ≤ u2.toInt ∧ u2.toInt ≤ 3 from qu2 ▸ jrg_f J sg_68_5_6_1_0_1)
  have eu3 := (show 0 ≤ u3.toInt ∧ u3.toInt ≤ 400 from qu3 ▸ jrg_f J sg_68_3_4_1_0_1)
  show jX m_X2_readFactor 9 0 0 9 [(0, .ref 95), (1, .int 6)] [.int v4] _ 0 0 _
  refine x_ifeq (tgt := 58) rfl rfl (ti_eq rfl jk_0 ⟨fun c5 => ?_, fun c5 => ?_⟩)
  ·
    refine x_aloadn (x := 95) rfl rfl ?_
    refine z_getR (N := 6) (b := 68) 2 0 rfl f_2_30 rfl J rfl 12160 ⟨rfl, rfl⟩ rfl ?_
    refine x_ldc (v := 100000) rfl z_2_147 ?_
    refine x_inv (N := m_X9_numberTo) (As := [.int 100000]) (b := 68) (st := []) (dx9 := 1) (mc := 0) (ms := 0) (host := "") 9 rfl t_X9_numberTo ⟨Or.inl q_2_117, i_X9_numberTo.1, i_X9_numberTo.2⟩ ⟨by decide, rfl⟩ (congrArg Prod.fst (J.1.1 68 (9, 6) rfl)) rfl (by decide) rfl rfl ⟨by decide, by decide⟩ (sf_X9_numberTo_r68 (jr_of jk_100000 (by omega)) hD J  (fun v7 h ev7 J S6 => ?_))
    have Sm := jSm_tr rfl Sm S6
    show jX m_X2_readFactor 9 0 0 67 [(0, .ref 95), (1, .int 6)] [.int v7] _ 0 0 _
    refine x_istoren (lsx9 := [(2, .int v7), (0, .ref 95), (1, .int 6)]) rfl rfl rfl ?_
    refine x_iloadn (x := v7) rfl rfl ?_
    refine x_iconst (v := (-1)) rfl ki_m1 ?_
    refine x_iceq (tgt := 80) rfl rfl (ti_eq rfl jk_m1 ⟨fun c8 => ?_, fun c8 => ?_⟩)
    ·
      refine x_aloadn (x := 95) rfl rfl ?_
      refine z_getR (N := 6) (b := 68) 2 0 rfl f_2_30 rfl J rfl 12160 ⟨rfl, rfl⟩ rfl ?_
      refine x_ldcS (jstr.getD 6 jstr_0) rfl (List.mem_of_getElem? (i := 6) rfl) rfl rfl ?_
      show jX m_X2_readFactor 9 0 0 86 [(2, .int v7), (0, .ref 95), (1, .int 6)] [.ref 11, .ref 68] _ 0 0 _
      refine x_inv (N := m_X9_wordOf) (As := [.ref 11]) (b := 68) (st := []) (dx9 := 4) (mc := 0) (ms := 0) (host := "") 9 rfl t_X9_wordOf ⟨Or.inl q_2_67, i_X9_wordOf.1, i_X9_wordOf.2⟩ ⟨by decide, rfl⟩ (congrArg Prod.fst (J.1.1 68 (9, 6) rfl)) rfl (by decide) rfl rfl ⟨by decide, by decide⟩ (sf_X9_wordOf_r68_r11  hD J  (fun v10 h J S9 => ?_))
      have ev10 := jfull v10
      have Sm := jSm_tr rfl Sm S9
      show jX m_X2_readFactor 9 0 0 89 [(2, .int v7), (0, .ref 95), (1, .int 6)] [.int v10] _ 0 0 _
      refine x_istoren (lsx9 := [(3, .int v10), (2, .int v7), (0, .ref 95), (1, .int 6)]) rfl rfl rfl ?_
      refine x_iloadn (x := v10) rfl rfl ?_
      refine x_iconst (v := (-1)) rfl ki_m1 ?_
      refine x_icne (tgt := 105) rfl rfl (ti_ne rfl jk_m1 ⟨fun c11 => ?_, fun c11 => ?_⟩)
      ·
        refine x_aloadn (x := 95) rfl rfl ?_
        refine x_iconst (v := 2) rfl ki_2 ?_
        refine x_iloadn (x := v10) rfl rfl ?_
        refine x_inv (N := m_X2_readPart) (As := [.int 2, .int v10]) (b := 95) (st := []) (dx9 := 3) (mc := 0) (ms := 0) (host := "") 2 rfl t_X2_readPart ⟨Or.inl q_2_141, i_X2_readPart.1, i_X2_readPart.2⟩ ⟨by decide, rfl⟩ (congrArg Prod.fst (J.1.1 95 (2, 6) rfl)) rfl (by decide) rfl rfl ⟨by decide, by decide⟩ (sf_X2_readPart_r95 (jr_of jk_2 (by omega)) hD J (jmc S9 rfl (jmc S6 rfl qu2)) (jmc S9 rfl (jmc S6 rfl qu3)) (by omega)  (fun v15 h ev15 J S12 u13 u14 qu13 qu14 ru13 => ?_))
        have Sm := jSm_tr rfl Sm S12
        have eu13 := (show 0 ≤ u13.toInt ∧ u13.toInt ≤ 3 from qu13 ▸ jrg_f J sg_68_5_6_1_0_1)
        have eu14 := (show 0 ≤ u14.toInt ∧ u14.toInt ≤ 400 from qu14 ▸ jrg_f J sg_68_3_4_1_0_1)
        show jX m_X2_readFactor 9 0 0 111 [(3, .int v10), (2, .int v7), (0, .ref 95), (1, .int 6)] [.int v15] _ 0 0 _
        exact jX.sub jsb_n (ct_X2_readFactor_r95_c6_111 hD hQ  v15 u14 u13 h (jr_of rfl (by omega)) (jr_of rfl (by omega)) (jr_of rfl (by omega)) (by omega) qu14 qu13 J Sm)
      ·
        refine x_aloadn (x := 95) rfl rfl ?_
        refine z_getR (N := 6) (b := 68) 2 0 rfl f_2_30 rfl J rfl 12160 ⟨rfl, rfl⟩ rfl ?_
        refine x_inv (N := m_X9_blame) (As := []) (b := 68) (st := []) (dx9 := 8) (mc := 0) (ms := 0) (host := "") 9 rfl t_X9_blame ⟨Or.inl q_2_59, i_X9_blame.1, i_X9_blame.2⟩ ⟨by decide, rfl⟩ (congrArg Prod.fst (J.1.1 68 (9, 6) rfl)) rfl (by decide) rfl rfl ⟨by decide, by decide⟩ (jC.of rfl k_X9_blame rfl ?_)
        show jX m_X9_blame 8 0 0 0 [(0, .ref 68)] [] _ 0 0 _
        refine x_aloadn (x := 68) rfl rfl ?_
        refine x_aloadn (x := 68) rfl rfl ?_
        refine z_getM (N := 6) (v := u3) 9 3 rfl f_9_22 rfl J rfl (jmc S9 rfl (jmc S6 rfl qu3)) ?_
        refine z_putI (N := 6) (w := u3.toInt) 9 2 rfl f_9_19 rfl (jfin_no TX9 RX9 6 rfl rfl) hD J Sm rfl rfl rfl (pw_68_2 (by omega)) rfl (fun h w16 J Sm => ?_)
        refine x_iconst (v := 0) rfl ki_0 ?_
        refine x_zret rfl rfl (by decide) ?_
        show jX m_X2_readFactor 9 0 0 102 [(3, .int v10), (2, .int v7), (0, .ref 95), (1, .int 6)] [.int 0] _ 0 0 _
        refine x_goto (tgt := 111) rfl rfl ?_
        exact jX.sub jsb_n (ct_X2_readFactor_r95_c6_200111 hD hQ  u3 u2 h (jr_of rfl (by omega)) (jr_of rfl (by omega)) (by omega) (jmo w16 rfl (jmc S9 rfl (jmc S6 rfl qu3))) (jmo w16 rfl (jmc S9 rfl (jmc S6 rfl qu2))) J Sm)
    ·
      refine x_aloadn (x := 95) rfl rfl ?_
      refine x_iconst (v := 1) rfl ki_1 ?_
      refine x_iloadn (x := v7) rfl rfl ?_
      refine x_inv (N := m_X2_readPart) (As := [.int 1, .int v7]) (b := 95) (st := []) (dx9 := 3) (mc := 0) (ms := 0) (host := "") 2 rfl t_X2_readPart ⟨Or.inl q_2_141, i_X2_readPart.1, i_X2_readPart.2⟩ ⟨by decide, rfl⟩ (congrArg Prod.fst (J.1.1 95 (2, 6) rfl)) rfl (by decide) rfl rfl ⟨by decide, by decide⟩ (sf_X2_readPart_r95 (jr_of jk_1 (by omega)) hD J (jmc S6 rfl qu2) (jmc S6 rfl qu3) (by omega)  (fun v20 h ev20 J S17 u18 u19 qu18 qu19 ru18 => ?_))
      have Sm := jSm_tr rfl Sm S17
      have eu18 := (show 0 ≤ u18.toInt ∧ u18.toInt ≤ 3 from qu18 ▸ jrg_f J sg_68_5_6_1_0_1)
      have eu19 := (show 0 ≤ u19.toInt ∧ u19.toInt ≤ 400 from qu19 ▸ jrg_f J sg_68_3_4_1_0_1)
      show jX m_X2_readFactor 9 0 0 79 [(2, .int v7), (0, .ref 95), (1, .int 6)] [.int v20] _ 0 0 _
      refine x_zret rfl rfl (jz01 (by omega)) ?_
      exact hQ _ _ (jr_of rfl (by omega)) J Sm _ _ qu18 qu19 (by omega)
  ·
    refine x_iloadn (x := 6) rfl rfl ?_
    refine x_bipush (v := 8) rfl kb_8 ?_
    refine x_iclt (tgt := 26) rfl rfl (ti_lt jk_6 jk_8 (br_t (by omega) ?_))
    refine x_aloadn (x := 95) rfl rfl ?_
    refine z_getR (N := 6) (b := 68) 2 0 rfl f_2_30 rfl J rfl 12160 ⟨rfl, rfl⟩ rfl ?_
    refine x_inv (N := m_X9_step) (As := []) (b := 68) (st := []) (dx9 := 2) (mc := 0) (ms := 0) (host := "") 9 rfl t_X9_step ⟨Or.inl q_2_62, i_X9_step.1, i_X9_step.2⟩ ⟨by decide, rfl⟩ (congrArg Prod.fst (J.1.1 68 (9, 6) rfl)) rfl (by decide) rfl rfl ⟨by decide, by decide⟩ (sf_X9_step_r68  hD J qu2 qu3 (by omega)  (fun h J S21 u22 u23 qu22 qu23 ru22 => ?_))
    have Sm := jSm_tr rfl Sm S21
    have eu22 := (show 0 ≤ u22.toInt ∧ u22.toInt ≤ 3 from qu22 ▸ jrg_f J sg_68_5_6_1_0_1)
    have eu23 := (show 0 ≤ u23.toInt ∧ u23.toInt ≤ 400 from qu23 ▸ jrg_f J sg_68_3_4_1_0_1)
    show jX m_X2_readFactor 9 0 0 33 [(0, .ref 95), (1, .int 6)] [] _ 0 0 _
    refine x_aloadn (x := 95) rfl rfl ?_
    refine x_iloadn (x := 6) rfl rfl ?_
    refine x_iconst (v := 1) rfl ki_1 ?_
    refine y_iadd (v := 7) rfl (by decide) ?_
    refine x_inv (N := m_X2_readSum) (As := [.int 7]) (b := 95) (st := []) (dx9 := 8) (mc := 0) (ms := 0) (host := "") 2 rfl t_X2_readSum ⟨Or.inl q_2_86, i_X2_readSum.1, i_X2_readSum.2⟩ ⟨by decide, rfl⟩ (congrArg Prod.fst (J.1.1 95 (2, 6) rfl)) rfl (by decide) rfl rfl ⟨by decide, by decide⟩ (sf_X2_readSum_r95_c7  hD J qu22 qu23 (by omega)  (fun v27 h ev27 J S24 u25 u26 qu25 qu26 ru25 => ?_))
    have Sm := jSm_tr rfl Sm S24
    have eu25 := (show 0 ≤ u25.toInt ∧ u25.toInt ≤ 3 from qu25 ▸ jrg_f J sg_68_5_6_1_0_1)
    have eu26 := (show 0 ≤ u26.toInt ∧ u26.toInt ≤ 400 from qu26 ▸ jrg_f J sg_68_3_4_1_0_1)
    show jX m_X2_readFactor 9 0 0 40 [(0, .ref 95), (1, .int 6)] [.int v27] _ 0 0 _
    refine x_ifeq (tgt := 56) rfl rfl (ti_eq rfl jk_0 ⟨fun c28 => ?_, fun c28 => ?_⟩)
    ·
      exact jX.sub jsb_n (ct_X2_readFactor_r95_c6_56 hD hQ  u26 u25 h (jr_of rfl (by omega)) (jr_of rfl (by omega)) (by omega) qu26 qu25 J Sm)
    ·
      refine x_aloadn (x := 95) rfl rfl ?_
      refine x_bipush (v := 93) rfl kb_93 ?_
      refine x_inv (N := m_X2_readSign) (As := [.int 93]) (b := 95) (st := []) (dx9 := 8) (mc := 0) (ms := 0) (host := "") 2 rfl t_X2_readSign ⟨Or.inl q_2_138, i_X2_readSign.1, i_X2_readSign.2⟩ ⟨by decide, rfl⟩ (congrArg Prod.fst (J.1.1 95 (2, 6) rfl)) rfl (by decide) rfl rfl ⟨by decide, by decide⟩ (jC.of rfl k_X2_readSign rfl ?_)
      show jX m_X2_readSign 8 0 0 0 [(0, .ref 95), (1, .int 93)] [] _ 0 0 _
      refine x_aloadn (x := 95) rfl rfl ?_
      refine z_getR (N := 6) (b := 68) 2 0 rfl f_2_30 rfl J rfl 12160 ⟨rfl, rfl⟩ rfl ?_
      refine x_iloadn (x := 93) rfl rfl ?_
      refine x_inv (N := m_X9_isSign) (As := [.int 93]) (b := 68) (st := []) (dx9 := 1) (mc := 0) (ms := 0) (host := "") 9 rfl t_X9_isSign ⟨Or.inl q_2_55, i_X9_isSign.1, i_X9_isSign.2⟩ ⟨by decide, rfl⟩ (congrArg Prod.fst (J.1.1 68 (9, 6) rfl)) rfl (by decide) rfl rfl ⟨by decide, by decide⟩ (sf_X9_isSign_r68 (jr_of jk_93 (by omega)) hD J qu25 qu26 (by omega)  (fun v32 h ev32 J S29 u30 u31 qu30 qu31 ru30 => ?_))
      have Sm := jSm_tr rfl Sm S29
      have eu30 := (show 0 ≤ u30.toInt ∧ u30.toInt ≤ 3 from qu30 ▸ jrg_f J sg_68_5_6_1_0_1)
      have eu31 := (show 0 ≤ u31.toInt ∧ u31.toInt ≤ 400 from qu31 ▸ jrg_f J sg_68_3_4_1_0_1)
      show jX m_X2_readSign 8 0 0 8 [(0, .ref 95), (1, .int 93)] [.int v32] _ 0 0 _
      refine x_ifne (tgt := 19) rfl rfl (ti_ne rfl jk_0 ⟨fun c33 => ?_, fun c33 => ?_⟩)
      ·
        refine x_aloadn (x := 95) rfl rfl ?_
        refine z_getR (N := 6) (b := 68) 2 0 rfl f_2_30 rfl J rfl 12160 ⟨rfl, rfl⟩ rfl ?_
        refine x_inv (N := m_X9_step) (As := []) (b := 68) (st := []) (dx9 := 2) (mc := 0) (ms := 0) (host := "") 9 rfl t_X9_step ⟨Or.inl q_2_62, i_X9_step.1, i_X9_step.2⟩ ⟨by decide, rfl⟩ (congrArg Prod.fst (J.1.1 68 (9, 6) rfl)) rfl (by decide) rfl rfl ⟨by decide, by decide⟩ (sf_X9_step_r68  hD J qu30 qu31 (by omega)  (fun h J S34 u35 u36 qu35 qu36 ru35 => ?_))
        have Sm := jSm_tr rfl Sm S34
        have eu35 := (show 0 ≤ u35.toInt ∧ u35.toInt ≤ 3 from qu35 ▸ jrg_f J sg_68_5_6_1_0_1)
        have eu36 := (show 0 ≤ u36.toInt ∧ u36.toInt ≤ 400 from qu36 ▸ jrg_f J sg_68_3_4_1_0_1)
        show jX m_X2_readSign 8 0 0 26 [(0, .ref 95), (1, .int 93)] [] _ 0 0 _
        refine x_iconst (v := 1) rfl ki_1 ?_
        refine x_zret rfl rfl (by decide) ?_
        show jX m_X2_readFactor 9 0 0 49 [(0, .ref 95), (1, .int 6)] [.int 1] _ 0 0 _
        refine x_ifeq (tgt := 56) rfl rfl (ti_eq jk_1 jk_0 (br_f (by omega) ?_))
        refine x_iconst (v := 1) rfl ki_1 ?_
        refine x_goto (tgt := 57) rfl rfl ?_
        exact jX.sub jsb_n (ct_X2_readFactor_r95_c6_300057 hD hQ  u36 u35 h (jr_of rfl (by omega)) (jr_of rfl (by omega)) (by omega) qu36 qu35 J Sm)
      ·
        refine x_aloadn (x := 95) rfl rfl ?_
        refine z_getR (N := 6) (b := 68) 2 0 rfl f_2_30 rfl J rfl 12160 ⟨rfl, rfl⟩ rfl ?_
        refine x_inv (N := m_X9_blame) (As := []) (b := 68) (st := []) (dx9 := 7) (mc := 0) (ms := 0) (host := "") 9 rfl t_X9_blame ⟨Or.inl q_2_59, i_X9_blame.1, i_X9_blame.2⟩ ⟨by decide, rfl⟩ (congrArg Prod.fst (J.1.1 68 (9, 6) rfl)) rfl (by decide) rfl rfl ⟨by decide, by decide⟩ (jC.of rfl k_X9_blame rfl ?_)
        show jX m_X9_blame 7 0 0 0 [(0, .ref 68)] [] _ 0 0 _
        refine x_aloadn (x := 68) rfl rfl ?_
        refine x_aloadn (x := 68) rfl rfl ?_
        refine z_getM (N := 6) (v := u31) 9 3 rfl f_9_22 rfl J rfl qu31 ?_
        refine z_putI (N := 6) (w := u31.toInt) 9 2 rfl f_9_19 rfl (jfin_no TX9 RX9 6 rfl rfl) hD J Sm rfl rfl rfl (pw_68_2 (by omega)) rfl (fun h w37 J Sm => ?_)
        refine x_iconst (v := 0) rfl ki_0 ?_
        refine x_zret rfl rfl (by decide) ?_
        show jX m_X2_readSign 8 0 0 18 [(0, .ref 95), (1, .int 93)] [.int 0] _ 0 0 _
        refine x_zret rfl rfl (by decide) ?_
        show jX m_X2_readFactor 9 0 0 49 [(0, .ref 95), (1, .int 6)] [.int 0] _ 0 0 _
        refine x_ifeq (tgt := 56) rfl rfl (ti_eq jk_0 jk_0 (br_t (by omega) ?_))
        exact jX.sub jsb_n (ct_X2_readFactor_r95_c6_56 hD hQ  u31 u30 h (jr_of rfl (by omega)) (jr_of rfl (by omega)) (by omega) (jmo w37 rfl qu31) (jmo w37 rfl qu30) J Sm)
def fp_X2_readSum_r95_c6 : jFp := [(68, 2, 3), (68, 3, 4), (68, 4, 5), (68, 5, 6), (95, 4, 5), (95, 5, 6), (97, 0, 1200)]
set_option maxRecDepth 100000 in
set_option maxHeartbeats 4000000 in
theorem ct_X2_readSum_r95_c6_100148 {Dy : jH → Prop} {h0 : jH} {Q : Option Value → jH → Prop} {R4 : Int} (hD : jDk Dy) (hQ : ∀ (v : Int32) hx9, 0 ≤ v.toInt ∧ v.toInt ≤ 1 → jJ jSgX Dy hx9 → jSm fp_X2_readSum_r95_c6 h0 hx9 → ∀ u0 u1 : Int32, jiv hx9 68 5 = u0 → jiv hx9 68 3 = u1 → (u0.toInt ≠ 3 ∨ u1.toInt ≤ 399) → Q (some (.int v)) hx9) (k4 : ∀ (l2 : Int32) (l3 : Int32) (g0 : Int32) (g1 : Int32) (h : jH), 400 - l3.toInt < R4 → (-1) ≤ l2.toInt ∧ l2.toInt ≤ 4 → 0 ≤ l3.toInt ∧ l3.toInt ≤ 400 → 0 ≤ g0.toInt ∧ g0.toInt ≤ 400 → 0 ≤ g1.toInt ∧ g1.toInt ≤ 3 → (g1.toInt ≠ 3 ∨ g0.toInt ≤ 399) → jiv h 68 3 = g0 → jiv h 68 5 = g1 → jJ jSgX Dy h → jSm fp_X2_readSum_r95_c6 h0 h → jX m_X2_readSum 10 0 0 4 [(0, .ref 95), (1, .int 6), (2, .int l2), (3, .int l3)] [] h 0 0 Q) : ∀ (l3 : Int32) (g0 : Int32) (g1 : Int32) (h : jH), 0 ≤ l3.toInt ∧ l3.toInt ≤ 399 → 0 ≤ g0.toInt ∧ g0.toInt ≤ 400 → 0 ≤ g1.toInt ∧ g1.toInt ≤ 3 → (g1.toInt ≠ 3 ∨ g0.toInt ≤ 399) → jiv h 68 3 = g0 → jiv h 68 5 = g1 → 400 - l3.toInt ≤ R4 → jJ jSgX Dy h → jSm fp_X2_readSum_r95_c6 h0 h → jX m_X2_readSum 10 0 0 148 [(0, .ref 95), (1, .int 6), (3, .int l3)] [.int (-1)] h 0 0 Q := by
  intro l3 g0 g1 h y0 y1 y2 y3 z0 z1 m4 J Sm
  refine x_istoren (lsx9 := [(2, .int (-1)), (0, .ref 95), (1, .int 6), (3, .int l3)]) rfl rfl rfl ?_
  refine x_iloadn (x := (-1)) rfl rfl ?_
  refine x_iconst (v := (-1)) rfl ki_m1 ?_
  refine x_icne (tgt := 156) rfl rfl (ti_ne jk_m1 jk_m1 (bn_f (by omega) ?_))
  refine x_iconst (v := 1) rfl ki_1 ?_
  refine x_zret rfl rfl (by decide) ?_
  exact hQ _ _ (jr_of jk_1 (by omega)) J Sm _ _ z1 z0 (by omega)
set_option maxRecDepth 100000 in
set_option maxHeartbeats 4000000 in
theorem ct_X2_readSum_r95_c6_600148 {Dy : jH → Prop} {h0 : jH} {Q : Option Value → jH → Prop} {R4 : Int} (hD : jDk Dy) (hQ : ∀ (v : Int32) hx9, 0 ≤ v.toInt ∧ v.toInt ≤ 1 → jJ jSgX Dy hx9 → jSm fp_X2_readSum_r95_c6 h0 hx9 → ∀ u0 u1 : Int32, jiv hx9 68 5 = u0 → jiv hx9 68 3 = u1 → (u0.toInt ≠ 3 ∨ u1.toInt ≤ 399) → Q (some (.int v)) hx9) (k4 : ∀ (l2 : Int32) (l3 : Int32) (g0 : Int32) (g1 : Int32) (h : jH), 400 - l3.toInt < R4 → (-1) ≤ l2.toInt ∧ l2.toInt ≤ 4 → 0 ≤ l3.toInt ∧ l3.toInt ≤ 400 → 0 ≤ g0.toInt ∧ g0.toInt ≤ 400 → 0 ≤ g1.toInt ∧ g1.toInt ≤ 3 → (g1.toInt ≠ 3 ∨ g0.toInt ≤ 399) → jiv h 68 3 = g0 → jiv h 68 5 = g1 → jJ jSgX Dy h → jSm fp_X2_readSum_r95_c6 h0 h → jX m_X2_readSum 10 0 0 4 [(0, .ref 95), (1, .int 6), (2, .int l2), (3, .int l3)] [] h 0 0 Q) : ∀ (l3 : Int32) (g0 : Int32) (g1 : Int32) (h : jH), 0 ≤ l3.toInt ∧ l3.toInt ≤ 399 → 0 ≤ g0.toInt ∧ g0.toInt ≤ 400 → 0 ≤ g1.toInt ∧ g1.toInt ≤ 3 → (g1.toInt ≠ 3 ∨ g0.toInt ≤ 399) → jiv h 68 3 = g0 → jiv h 68 5 = g1 → 400 - l3.toInt ≤ R4 → jJ jSgX Dy h → jSm fp_X2_readSum_r95_c6 h0 h → jX m_X2_readSum 10 0 0 148 [(0, .ref 95), (1, .int 6), (3, .int l3)] [.int 4] h 0 0 Q := by
  intro l3 g0 g1 h y0 y1 y2 y3 z0 z1 m4 J Sm
  refine x_istoren (lsx9 := [(2, .int 4), (0, .ref 95), (1, .int 6), (3, .int l3)]) rfl rfl rfl ?_
  refine x_iloadn (x := 4) rfl rfl ?_
  refine x_iconst (v := (-1)) rfl ki_m1 ?_
  refine x_icne (tgt := 156) rfl rfl (ti_ne jk_4 jk_m1 (bn_t (by omega) ?_))
  refine x_aloadn (x := 95) rfl rfl ?_
  refine z_getR (N := 6) (b := 68) 2 0 rfl f_2_30 rfl J rfl 12160 ⟨rfl, rfl⟩ rfl ?_
  refine x_inv (N := m_X9_step) (As := []) (b := 68) (st := []) (dx9 := 2) (mc := 0) (ms := 0) (host := "") 9 rfl t_X9_step ⟨Or.inl q_2_62, i_X9_step.1, i_X9_step.2⟩ ⟨by decide, rfl⟩ (congrArg Prod.fst (J.1.1 68 (9, 6) rfl)) rfl (by decide) rfl rfl ⟨by decide, by decide⟩ (sf_X9_step_r68  hD J z1 z0 (by omega)  (fun h J S1 u2 u3 qu2 qu3 ru2 => ?_))
  have Sm := jSm_tr rfl Sm S1
  have eu2 := (show 0 ≤ u2.toInt ∧ u2.toInt ≤ 3 from qu2 ▸ jrg_f J sg_68_5_6_1_0_1)
  have eu3 := (show 0 ≤ u3.toInt ∧ u3.toInt ≤ 400 from qu3 ▸ jrg_f J sg_68_3_4_1_0_1)
  show jX m_X2_readSum 10 0 0 163 [(2, .int 4), (0, .ref 95), (1, .int 6), (3, .int l3)] [] _ 0 0 _
  refine z_iinc (x := l3) (lsx9 := fun v4 => [(3, .int v4), (2, .int 4), (0, .ref 95), (1, .int 6)]) rfl rfl rfl jko_1 (by omega) rfl (fun _ => rfl) (fun v4 ev4 => ?_)
  refine x_goto (tgt := 4) rfl rfl ?_
  exact jX.sub (jsb_c rfl (jsb_c rfl (jsb_c rfl (jsb_c rfl jsb_n)))) (k4 4 v4 u3 u2 h (by omega) (jr_of jk_4 (by omega)) (jr_of rfl (by omega)) (jr_of rfl (by omega)) (jr_of rfl (by omega)) (by omega) qu3 qu2 J Sm)
set_option maxRecDepth 100000 in
set_option maxHeartbeats 4000000 in
theorem ct_X2_readSum_r95_c6_500148 {Dy : jH → Prop} {h0 : jH} {Q : Option Value → jH → Prop} {R4 : Int} (hD : jDk Dy) (hQ : ∀ (v : Int32) hx9, 0 ≤ v.toInt ∧ v.toInt ≤ 1 → jJ jSgX Dy hx9 → jSm fp_X2_readSum_r95_c6 h0 hx9 → ∀ u0 u1 : Int32, jiv hx9 68 5 = u0 → jiv hx9 68 3 = u1 → (u0.toInt ≠ 3 ∨ u1.toInt ≤ 399) → Q (some (.int v)) hx9) (k4 : ∀ (l2 : Int32) (l3 : Int32) (g0 : Int32) (g1 : Int32) (h : jH), 400 - l3.toInt < R4 → (-1) ≤ l2.toInt ∧ l2.toInt ≤ 4 → 0 ≤ l3.toInt ∧ l3.toInt ≤ 400 → 0 ≤ g0.toInt ∧ g0.toInt ≤ 400 → 0 ≤ g1.toInt ∧ g1.toInt ≤ 3 → (g1.toInt ≠ 3 ∨ g0.toInt ≤ 399) → jiv h 68 3 = g0 → jiv h 68 5 = g1 → jJ jSgX Dy h → jSm fp_X2_readSum_r95_c6 h0 h → jX m_X2_readSum 10 0 0 4 [(0, .ref 95), (1, .int 6), (2, .int l2), (3, .int l3)] [] h 0 0 Q) : ∀ (l3 : Int32) (g0 : Int32) (g1 : Int32) (h : jH), 0 ≤ l3.toInt ∧ l3.toInt ≤ 399 → 0 ≤ g0.toInt ∧ g0.toInt ≤ 400 → 0 ≤ g1.toInt ∧ g1.toInt ≤ 3 → (g1.toInt ≠ 3 ∨ g0.toInt ≤ 399) → jiv h 68 3 = g0 → jiv h 68 5 = g1 → 400 - l3.toInt ≤ R4 → jJ jSgX Dy h → jSm fp_X2_readSum_r95_c6 h0 h → jX m_X2_readSum 10 0 0 148 [(0, .ref 95), (1, .int 6), (3, .int l3)] [.int 3] h 0 0 Q := by
  intro l3 g0 g1 h y0 y1 y2 y3 z0 z1 m4 J Sm
  refine x_istoren (lsx9 := [(2, .int 3), (0, .ref 95), (1, .int 6), (3, .int l3)]) rfl rfl rfl ?_
  refine x_iloadn (x := 3) rfl rfl ?_
  refine x_iconst (v := (-1)) rfl ki_m1 ?_
  refine x_icne (tgt := 156) rfl rfl (ti_ne jk_3 jk_m1 (bn_t (by omega) ?_))
  refine x_aloadn (x := 95) rfl rfl ?_
  refine z_getR (N := 6) (b := 68) 2 0 rfl f_2_30 rfl J rfl 12160 ⟨rfl, rfl⟩ rfl ?_
  refine x_inv (N := m_X9_step) (As := []) (b := 68) (st := []) (dx9 := 2) (mc := 0) (ms := 0) (host := "") 9 rfl t_X9_step ⟨Or.inl q_2_62, i_X9_step.1, i_X9_step.2⟩ ⟨by decide, rfl⟩ (congrArg Prod.fst (J.1.1 68 (9, 6) rfl)) rfl (by decide) rfl rfl ⟨by decide, by decide⟩ (sf_X9_step_r68  hD J z1 z0 (by omega)  (fun h J S1 u2 u3 qu2 qu3 ru2 => ?_))
  have Sm := jSm_tr rfl Sm S1
  have eu2 := (show 0 ≤ u2.toInt ∧ u2.toInt ≤ 3 from qu2 ▸ jrg_f J sg_68_5_6_1_0_1)
  have eu3 := (show 0 ≤ u3.toInt ∧ u3.toInt ≤ 400 from qu3 ▸ jrg_f J sg_68_3_4_1_0_1)
  show jX m_X2_readSum 10 0 0 163 [(2, .int 3), (0, .ref 95), (1, .int 6), (3, .int l3)] [] _ 0 0 _
  refine z_iinc (x := l3) (lsx9 := fun v4 => [(3, .int v4), (2, .int 3), (0, .ref 95), (1, .int 6)]) rfl rfl rfl jko_1 (by omega) rfl (fun _ => rfl) (fun v4 ev4 => ?_)
  refine x_goto (tgt := 4) rfl rfl ?_
  exact jX.sub (jsb_c rfl (jsb_c rfl (jsb_c rfl (jsb_c rfl jsb_n)))) (k4 3 v4 u3 u2 h (by omega) (jr_of jk_3 (by omega)) (jr_of rfl (by omega)) (jr_of rfl (by omega)) (jr_of rfl (by omega)) (by omega) qu3 qu2 J Sm)
set_option maxRecDepth 100000 in
set_option maxHeartbeats 4000000 in
theorem ct_X2_readSum_r95_c6_115 {Dy : jH → Prop} {h0 : jH} {Q : Option Value → jH → Prop} {R4 : Int} (hD : jDk Dy) (hQ : ∀ (v : Int32) hx9, 0 ≤ v.toInt ∧ v.toInt ≤ 1 → jJ jSgX Dy hx9 → jSm fp_X2_readSum_r95_c6 h0 hx9 → ∀ u0 u1 : Int32, jiv hx9 68 5 = u0 → jiv hx9 68 3 = u1 → (u0.toInt ≠ 3 ∨ u1.toInt ≤ 399) → Q (some (.int v)) hx9) (k4 : ∀ (l2 : Int32) (l3 : Int32) (g0 : Int32) (g1 : Int32) (h : jH), 400 - l3.toInt < R4 → (-1) ≤ l2.toInt ∧ l2.toInt ≤ 4 → 0 ≤ l3.toInt ∧ l3.toInt ≤ 400 → 0 ≤ g0.toInt ∧ g0.toInt ≤ 400 → 0 ≤ g1.toInt ∧ g1.toInt ≤ 3 → (g1.toInt ≠ 3 ∨ g0.toInt ≤ 399) → jiv h 68 3 = g0 → jiv h 68 5 = g1 → jJ jSgX Dy h → jSm fp_X2_readSum_r95_c6 h0 h → jX m_X2_readSum 10 0 0 4 [(0, .ref 95), (1, .int 6), (2, .int l2), (3, .int l3)] [] h 0 0 Q) : ∀ (l3 : Int32) (g0 : Int32) (g1 : Int32) (h : jH), 0 ≤ l3.toInt ∧ l3.toInt ≤ 399 → 0 ≤ g0.toInt ∧ g0.toInt ≤ 400 → 0 ≤ g1.toInt ∧ g1.toInt ≤ 3 → (g1.toInt ≠ 3 ∨ g0.toInt ≤ 399) → jiv h 68 3 = g0 → jiv h 68 5 = g1 → 400 - l3.toInt ≤ R4 → jJ jSgX Dy h → jSm fp_X2_readSum_r95_c6 h0 h → jX m_X2_readSum 10 0 0 115 [(0, .ref 95), (1, .int 6), (3, .int l3)] [] h 0 0 Q := by
  intro l3 g0 g1 h y0 y1 y2 y3 z0 z1 m4 J Sm
  refine x_aloadn (x := 95) rfl rfl ?_
  refine z_getR (N := 6) (b := 68) 2 0 rfl f_2_30 rfl J rfl 12160 ⟨rfl, rfl⟩ rfl ?_
  refine x_bipush (v := 43) rfl kb_43 ?_
  refine x_inv (N := m_X9_isSign) (As := [.int 43]) (b := 68) (st := []) (dx9 := 1) (mc := 0) (ms := 0) (host := "") 9 rfl t_X9_isSign ⟨Or.inl q_2_55, i_X9_isSign.1, i_X9_isSign.2⟩ ⟨by decide, rfl⟩ (congrArg Prod.fst (J.1.1 68 (9, 6) rfl)) rfl (by decide) rfl rfl ⟨by decide, by decide⟩ (sf_X9_isSign_r68 (jr_of jk_43 (by omega)) hD J z1 z0 (by omega)  (fun v4 h ev4 J S1 u2 u3 qu2 qu3 ru2 => ?_))
  have Sm := jSm_tr rfl Sm S1
  have eu2 := (show 0 ≤ u2.toInt ∧ u2.toInt ≤ 3 from qu2 ▸ jrg_f J sg_68_5_6_1_0_1)
  have eu3 := (show 0 ≤ u3.toInt ∧ u3.toInt ≤ 400 from qu3 ▸ jrg_f J sg_68_3_4_1_0_1)
  show jX m_X2_readSum 10 0 0 124 [(0, .ref 95), (1, .int 6), (3, .int l3)] [.int v4] _ 0 0 _
  refine x_ifeq (tgt := 131) rfl rfl (ti_eq rfl jk_0 ⟨fun c5 => ?_, fun c5 => ?_⟩)
  ·
    refine x_aloadn (x := 95) rfl rfl ?_
    refine z_getR (N := 6) (b := 68) 2 0 rfl f_2_30 rfl J rfl 12160 ⟨rfl, rfl⟩ rfl ?_
    refine x_bipush (v := 45) rfl kb_45 ?_
    refine x_inv (N := m_X9_isSign) (As := [.int 45]) (b := 68) (st := []) (dx9 := 1) (mc := 0) (ms := 0) (host := "") 9 rfl t_X9_isSign ⟨Or.inl q_2_55, i_X9_isSign.1, i_X9_isSign.2⟩ ⟨by decide, rfl⟩ (congrArg Prod.fst (J.1.1 68 (9, 6) rfl)) rfl (by decide) rfl rfl ⟨by decide, by decide⟩ (sf_X9_isSign_r68 (jr_of jk_45 (by omega)) hD J qu2 qu3 (by omega)  (fun v9 h ev9 J S6 u7 u8 qu7 qu8 ru7 => ?_))
    have Sm := jSm_tr rfl Sm S6
    have eu7 := (show 0 ≤ u7.toInt ∧ u7.toInt ≤ 3 from qu7 ▸ jrg_f J sg_68_5_6_1_0_1)
    have eu8 := (show 0 ≤ u8.toInt ∧ u8.toInt ≤ 400 from qu8 ▸ jrg_f J sg_68_3_4_1_0_1)
    show jX m_X2_readSum 10 0 0 140 [(0, .ref 95), (1, .int 6), (3, .int l3)] [.int v9] _ 0 0 _
    refine x_ifeq (tgt := 147) rfl rfl (ti_eq rfl jk_0 ⟨fun c10 => ?_, fun c10 => ?_⟩)
    ·
      refine x_iconst (v := (-1)) rfl ki_m1 ?_
      exact jX.sub (jsb_c rfl (jsb_c rfl (jsb_c rfl jsb_n))) (ct_X2_readSum_r95_c6_100148 hD hQ k4 l3 u8 u7 h (jr_of rfl (by omega)) (jr_of rfl (by omega)) (jr_of rfl (by omega)) (by omega) qu8 qu7 (by omega) J Sm)
    ·
      refine x_iconst (v := 4) rfl ki_4 ?_
      refine x_goto (tgt := 148) rfl rfl ?_
      exact jX.sub (jsb_c rfl (jsb_c rfl (jsb_c rfl jsb_n))) (ct_X2_readSum_r95_c6_600148 hD hQ k4 l3 u8 u7 h (jr_of rfl (by omega)) (jr_of rfl (by omega)) (jr_of rfl (by omega)) (by omega) qu8 qu7 (by omega) J Sm)
  ·
    refine x_iconst (v := 3) rfl ki_3 ?_
    refine x_goto (tgt := 148) rfl rfl ?_
    exact jX.sub (jsb_c rfl (jsb_c rfl (jsb_c rfl jsb_n))) (ct_X2_readSum_r95_c6_500148 hD hQ k4 l3 u3 u2 h (jr_of rfl (by omega)) (jr_of rfl (by omega)) (jr_of rfl (by omega)) (by omega) qu3 qu2 (by omega) J Sm)
set_option maxRecDepth 100000 in
set_option maxHeartbeats 4000000 in
theorem ct_X2_readSum_r95_c6_105 {Dy : jH → Prop} {h0 : jH} {Q : Option Value → jH → Prop} {R4 : Int} (hD : jDk Dy) (hQ : ∀ (v : Int32) hx9, 0 ≤ v.toInt ∧ v.toInt ≤ 1 → jJ jSgX Dy hx9 → jSm fp_X2_readSum_r95_c6 h0 hx9 → ∀ u0 u1 : Int32, jiv hx9 68 5 = u0 → jiv hx9 68 3 = u1 → (u0.toInt ≠ 3 ∨ u1.toInt ≤ 399) → Q (some (.int v)) hx9) (k4 : ∀ (l2 : Int32) (l3 : Int32) (g0 : Int32) (g1 : Int32) (h : jH), 400 - l3.toInt < R4 → (-1) ≤ l2.toInt ∧ l2.toInt ≤ 4 → 0 ≤ l3.toInt ∧ l3.toInt ≤ 400 → 0 ≤ g0.toInt ∧ g0.toInt ≤ 400 → 0 ≤ g1.toInt ∧ g1.toInt ≤ 3 → (g1.toInt ≠ 3 ∨ g0.toInt ≤ 399) → jiv h 68 3 = g0 → jiv h 68 5 = g1 → jJ jSgX Dy h → jSm fp_X2_readSum_r95_c6 h0 h → jX m_X2_readSum 10 0 0 4 [(0, .ref 95), (1, .int 6), (2, .int l2), (3, .int l3)] [] h 0 0 Q) : ∀ (l2 : Int32) (l3 : Int32) (g0 : Int32) (g1 : Int32) (h : jH), (-1) ≤ l2.toInt ∧ l2.toInt ≤ 4 → 0 ≤ l3.toInt ∧ l3.toInt ≤ 399 → 0 ≤ g0.toInt ∧ g0.toInt ≤ 400 → 0 ≤ g1.toInt ∧ g1.toInt ≤ 3 → (g1.toInt ≠ 3 ∨ g0.toInt ≤ 399) → jiv h 68 3 = g0 → jiv h 68 5 = g1 → 400 - l3.toInt ≤ R4 → jJ jSgX Dy h → jSm fp_X2_readSum_r95_c6 h0 h → jX m_X2_readSum 10 0 0 105 [(0, .ref 95), (1, .int 6), (2, .int l2), (3, .int l3)] [] h 0 0 Q := by
  intro l2 l3 g0 g1 h y0 y1 y2 y3 y4 z0 z1 m4 J Sm
  refine x_iloadn (x := l2) rfl rfl ?_
  refine x_iconst (v := (-1)) rfl ki_m1 ?_
  refine x_iceq (tgt := 115) rfl rfl (ti_eq rfl jk_m1 ⟨fun c1 => ?_, fun c1 => ?_⟩)
  ·
    exact jX.sub (jsb_c rfl (jsb_c rfl (jsb_c rfl jsb_n))) (ct_X2_readSum_r95_c6_115 hD hQ k4 l3 g0 g1 h (jr_of rfl (by omega)) (jr_of rfl (by omega)) (jr_of rfl (by omega)) (by omega) z0 z1 (by omega) J Sm)
  ·
    refine x_aloadn (x := 95) rfl rfl ?_
    refine x_iloadn (x := l2) rfl rfl ?_
    refine x_inv (N := m_X2_emit) (As := [.int l2]) (b := 95) (st := []) (dx9 := 1) (mc := 0) (ms := 0) (host := "") 2 rfl t_X2_emit ⟨Or.inl q_2_89, i_X2_emit.1, i_X2_emit.2⟩ ⟨by decide, rfl⟩ (congrArg Prod.fst (J.1.1 95 (2, 6) rfl)) rfl (by decide) rfl rfl ⟨by decide, by decide⟩ (sf_X2_emit_r95  hD J  (fun h J S2 => ?_))
    have Sm := jSm_tr rfl Sm S2
    show jX m_X2_readSum 10 0 0 115 [(0, .ref 95), (1, .int 6), (2, .int l2), (3, .int l3)] [] _ 0 0 _
    exact jX.sub (jsb_c rfl (jsb_c rfl (jsb_c rfl jsb_n))) (ct_X2_readSum_r95_c6_115 hD hQ k4 l3 g0 g1 h (jr_of rfl (by omega)) (jr_of rfl (by omega)) (jr_of rfl (by omega)) (by omega) (jmc S2 rfl z0) (jmc S2 rfl z1) (by omega) J Sm)
set_option maxRecDepth 100000 in
set_option maxHeartbeats 4000000 in
theorem ct_X2_readSum_r95_c6_100081 {Dy : jH → Prop} {h0 : jH} {Q : Option Value → jH → Prop} {R4 : Int} {R17 : Int} (hD : jDk Dy) (hQ : ∀ (v : Int32) hx9, 0 ≤ v.toInt ∧ v.toInt ≤ 1 → jJ jSgX Dy hx9 → jSm fp_X2_readSum_r95_c6 h0 hx9 → ∀ u0 u1 : Int32, jiv hx9 68 5 = u0 → jiv hx9 68 3 = u1 → (u0.toInt ≠ 3 ∨ u1.toInt ≤ 399) → Q (some (.int v)) hx9) (k4 : ∀ (l2 : Int32) (l3 : Int32) (g0 : Int32) (g1 : Int32) (h : jH), 400 - l3.toInt < R4 → (-1) ≤ l2.toInt ∧ l2.toInt ≤ 4 → 0 ≤ l3.toInt ∧ l3.toInt ≤ 400 → 0 ≤ g0.toInt ∧ g0.toInt ≤ 400 → 0 ≤ g1.toInt ∧ g1.toInt ≤ 3 → (g1.toInt ≠ 3 ∨ g0.toInt ≤ 399) → jiv h 68 3 = g0 → jiv h 68 5 = g1 → jJ jSgX Dy h → jSm fp_X2_readSum_r95_c6 h0 h → jX m_X2_readSum 10 0 0 4 [(0, .ref 95), (1, .int 6), (2, .int l2), (3, .int l3)] [] h 0 0 Q) (k17 : ∀ (l2 : Int32) (l3 : Int32) (l4 : Int32) (l5 : Int32) (g0 : Int32) (g1 : Int32) (h : jH), 400 - l5.toInt < R17 → (-1) ≤ l2.toInt ∧ l2.toInt ≤ 4 → 0 ≤ l3.toInt ∧ l3.toInt ≤ 399 → (-1) ≤ l4.toInt ∧ l4.toInt ≤ 6 → 0 ≤ l5.toInt ∧ l5.toInt ≤ 400 → 0 ≤ g0.toInt ∧ g0.toInt ≤ 400 → 0 ≤ g1.toInt ∧ g1.toInt ≤ 3 → (g1.toInt ≠ 3 ∨ g0.toInt ≤ 399) → jiv h 68 3 = g0 → jiv h 68 5 = g1 → 400 - l3.toInt ≤ R4 → jJ jSgX Dy h → jSm fp_X2_readSum_r95_c6 h0 h → jX m_X2_readSum 10 0 0 17 [(0, .ref 95), (1, .int 6), (2, .int l2), (3, .int l3), (4, .int l4), (5, .int l5)] [] h 0 0 Q) : ∀ (l2 : Int32) (l3 : Int32) (l5 : Int32) (g0 : Int32) (g1 : Int32) (h : jH), (-1) ≤ l2.toInt ∧ l2.toInt ≤ 4 → 0 ≤ l3.toInt ∧ l3.toInt ≤ 399 → 0 ≤ l5.toInt ∧ l5.toInt ≤ 399 → 0 ≤ g0.toInt ∧ g0.toInt ≤ 400 → 0 ≤ g1.toInt ∧ g1.toInt ≤ 3 → (g1.toInt ≠ 3 ∨ g0.toInt ≤ 399) → jiv h 68 3 = g0 → jiv h 68 5 = g1 → 400 - l3.toInt ≤ R4 → 400 - l5.toInt ≤ R17 → jJ jSgX Dy h → jSm fp_X2_readSum_r95_c6 h0 h → jX m_X2_readSum 10 0 0 81 [(0, .ref 95), (1, .int 6), (2, .int l2), (3, .int l3), (5, .int l5)] [.int (-1)] h 0 0 Q := by
  intro l2 l3 l5 g0 g1 h y0 y1 y2 y3 y4 y5 z0 z1 m4 m17 J Sm
  refine x_istore (lsx9 := [(4, .int (-1)), (0, .ref 95), (1, .int 6), (2, .int l2), (3, .int l3), (5, .int l5)]) rfl rfl rfl ?_
  refine x_iload (x := (-1)) rfl rfl ?_
  refine x_iconst (v := (-1)) rfl ki_m1 ?_
  refine x_icne (tgt := 92) rfl rfl (ti_ne jk_m1 jk_m1 (bn_f (by omega) ?_))
  refine x_goto (tgt := 105) rfl rfl ?_
  exact jX.sub (jsb_c rfl (jsb_c rfl (jsb_c rfl (jsb_c rfl jsb_n)))) (ct_X2_readSum_r95_c6_105 hD hQ k4 l2 l3 g0 g1 h (jr_of rfl (by omega)) (jr_of rfl (by omega)) (jr_of rfl (by omega)) (jr_of rfl (by omega)) (by omega) z0 z1 (by omega) J Sm)
set_option maxRecDepth 100000 in
set_option maxHeartbeats 4000000 in
theorem ct_X2_readSum_r95_c6_800081 {Dy : jH → Prop} {h0 : jH} {Q : Option Value → jH → Prop} {R4 : Int} {R17 : Int} (hD : jDk Dy) (hQ : ∀ (v : Int32) hx9, 0 ≤ v.toInt ∧ v.toInt ≤ 1 → jJ jSgX Dy hx9 → jSm fp_X2_readSum_r95_c6 h0 hx9 → ∀ u0 u1 : Int32, jiv hx9 68 5 = u0 → jiv hx9 68 3 = u1 → (u0.toInt ≠ 3 ∨ u1.toInt ≤ 399) → Q (some (.int v)) hx9) (k4 : ∀ (l2 : Int32) (l3 : Int32) (g0 : Int32) (g1 : Int32) (h : jH), 400 - l3.toInt < R4 → (-1) ≤ l2.toInt ∧ l2.toInt ≤ 4 → 0 ≤ l3.toInt ∧ l3.toInt ≤ 400 → 0 ≤ g0.toInt ∧ g0.toInt ≤ 400 → 0 ≤ g1.toInt ∧ g1.toInt ≤ 3 → (g1.toInt ≠ 3 ∨ g0.toInt ≤ 399) → jiv h 68 3 = g0 → jiv h 68 5 = g1 → jJ jSgX Dy h → jSm fp_X2_readSum_r95_c6 h0 h → jX m_X2_readSum 10 0 0 4 [(0, .ref 95), (1, .int 6), (2, .int l2), (3, .int l3)] [] h 0 0 Q) (k17 : ∀ (l2 : Int32) (l3 : Int32) (l4 : Int32) (l5 : Int32) (g0 : Int32) (g1 : Int32) (h : jH), 400 - l5.toInt < R17 → (-1) ≤ l2.toInt ∧ l2.toInt ≤ 4 → 0 ≤ l3.toInt ∧ l3.toInt ≤ 399 → (-1) ≤ l4.toInt ∧ l4.toInt ≤ 6 → 0 ≤ l5.toInt ∧ l5.toInt ≤ 400 → 0 ≤ g0.toInt ∧ g0.toInt ≤ 400 → 0 ≤ g1.toInt ∧ g1.toInt ≤ 3 → (g1.toInt ≠ 3 ∨ g0.toInt ≤ 399) → jiv h 68 3 = g0 → jiv h 68 5 = g1 → 400 - l3.toInt ≤ R4 → jJ jSgX Dy h → jSm fp_X2_readSum_r95_c6 h0 h → jX m_X2_readSum 10 0 0 17 [(0, .ref 95), (1, .int 6), (2, .int l2), (3, .int l3), (4, .int l4), (5, .int l5)] [] h 0 0 Q) : ∀ (l2 : Int32) (l3 : Int32) (l5 : Int32) (g0 : Int32) (g1 : Int32) (h : jH), (-1) ≤ l2.toInt ∧ l2.toInt ≤ 4 → 0 ≤ l3.toInt ∧ l3.toInt ≤ 399 → 0 ≤ l5.toInt ∧ l5.toInt ≤ 399 → 0 ≤ g0.toInt ∧ g0.toInt ≤ 400 → 0 ≤ g1.toInt ∧ g1.toInt ≤ 3 → (g1.toInt ≠ 3 ∨ g0.toInt ≤ 399) → jiv h 68 3 = g0 → jiv h 68 5 = g1 → 400 - l3.toInt ≤ R4 → 400 - l5.toInt ≤ R17 → jJ jSgX Dy h → jSm fp_X2_readSum_r95_c6 h0 h → jX m_X2_readSum 10 0 0 81 [(0, .ref 95), (1, .int 6), (2, .int l2), (3, .int l3), (5, .int l5)] [.int 6] h 0 0 Q := by
  intro l2 l3 l5 g0 g1 h y0 y1 y2 y3 y4 y5 z0 z1 m4 m17 J Sm
  refine x_istore (lsx9 := [(4, .int 6), (0, .ref 95), (1, .int 6), (2, .int l2), (3, .int l3), (5, .int l5)]) rfl rfl rfl ?_
  refine x_iload (x := 6) rfl rfl ?_
  refine x_iconst (v := (-1)) rfl ki_m1 ?_
  refine x_icne (tgt := 92) rfl rfl (ti_ne jk_6 jk_m1 (bn_t (by omega) ?_))
  refine x_aloadn (x := 95) rfl rfl ?_
  refine z_getR (N := 6) (b := 68) 2 0 rfl f_2_30 rfl J rfl 12160 ⟨rfl, rfl⟩ rfl ?_
  refine x_inv (N := m_X9_step) (As := []) (b := 68) (st := []) (dx9 := 2) (mc := 0) (ms := 0) (host := "") 9 rfl t_X9_step ⟨Or.inl q_2_62, i_X9_step.1, i_X9_step.2⟩ ⟨by decide, rfl⟩ (congrArg Prod.fst (J.1.1 68 (9, 6) rfl)) rfl (by decide) rfl rfl ⟨by decide, by decide⟩ (sf_X9_step_r68  hD J z1 z0 (by omega)  (fun h J S1 u2 u3 qu2 qu3 ru2 => ?_))
  have Sm := jSm_tr rfl Sm S1
  have eu2 := (show 0 ≤ u2.toInt ∧ u2.toInt ≤ 3 from qu2 ▸ jrg_f J sg_68_5_6_1_0_1)
  have eu3 := (show 0 ≤ u3.toInt ∧ u3.toInt ≤ 400 from qu3 ▸ jrg_f J sg_68_3_4_1_0_1)
  show jX m_X2_readSum 10 0 0 99 [(4, .int 6), (0, .ref 95), (1, .int 6), (2, .int l2), (3, .int l3), (5, .int l5)] [] _ 0 0 _
  refine z_iinc (x := l5) (lsx9 := fun v4 => [(5, .int v4), (4, .int 6), (0, .ref 95), (1, .int 6), (2, .int l2), (3, .int l3)]) rfl rfl rfl jko_1 (by omega) rfl (fun _ => rfl) (fun v4 ev4 => ?_)
  refine x_goto (tgt := 17) rfl rfl ?_
  exact jX.sub (jsb_c rfl (jsb_c rfl (jsb_c rfl (jsb_c rfl (jsb_c rfl (jsb_c rfl jsb_n)))))) (k17 l2 l3 6 v4 u3 u2 h (by omega) (jr_of rfl (by omega)) (jr_of rfl (by omega)) (jr_of jk_6 (by omega)) (jr_of rfl (by omega)) (jr_of rfl (by omega)) (jr_of rfl (by omega)) (by omega) qu3 qu2 (by omega) J Sm)
set_option maxRecDepth 100000 in
set_option maxHeartbeats 4000000 in
theorem ct_X2_readSum_r95_c6_700081 {Dy : jH → Prop} {h0 : jH} {Q : Option Value → jH → Prop} {R4 : Int} {R17 : Int} (hD : jDk Dy) (hQ : ∀ (v : Int32) hx9, 0 ≤ v.toInt ∧ v.toInt ≤ 1 → jJ jSgX Dy hx9 → jSm fp_X2_readSum_r95_c6 h0 hx9 → ∀ u0 u1 : Int32, jiv hx9 68 5 = u0 → jiv hx9 68 3 = u1 → (u0.toInt ≠ 3 ∨ u1.toInt ≤ 399) → Q (some (.int v)) hx9) (k4 : ∀ (l2 : Int32) (l3 : Int32) (g0 : Int32) (g1 : Int32) (h : jH), 400 - l3.toInt < R4 → (-1) ≤ l2.toInt ∧ l2.toInt ≤ 4 → 0 ≤ l3.toInt ∧ l3.toInt ≤ 400 → 0 ≤ g0.toInt ∧ g0.toInt ≤ 400 → 0 ≤ g1.toInt ∧ g1.toInt ≤ 3 → (g1.toInt ≠ 3 ∨ g0.toInt ≤ 399) → jiv h 68 3 = g0 → jiv h 68 5 = g1 → jJ jSgX Dy h → jSm fp_X2_readSum_r95_c6 h0 h → jX m_X2_readSum 10 0 0 4 [(0, .ref 95), (1, .int 6), (2, .int l2), (3, .int l3)] [] h 0 0 Q) (k17 : ∀ (l2 : Int32) (l3 : Int32) (l4 : Int32) (l5 : Int32) (g0 : Int32) (g1 : Int32) (h : jH), 400 - l5.toInt < R17 → (-1) ≤ l2.toInt ∧ l2.toInt ≤ 4 → 0 ≤ l3.toInt ∧ l3.toInt ≤ 399 → (-1) ≤ l4.toInt ∧ l4.toInt ≤ 6 → 0 ≤ l5.toInt ∧ l5.toInt ≤ 400 → 0 ≤ g0.toInt ∧ g0.toInt ≤ 400 → 0 ≤ g1.toInt ∧ g1.toInt ≤ 3 → (g1.toInt ≠ 3 ∨ g0.toInt ≤ 399) → jiv h 68 3 = g0 → jiv h 68 5 = g1 → 400 - l3.toInt ≤ R4 → jJ jSgX Dy h → jSm fp_X2_readSum_r95_c6 h0 h → jX m_X2_readSum 10 0 0 17 [(0, .ref 95), (1, .int 6), (2, .int l2), (3, .int l3), (4, .int l4), (5, .int l5)] [] h 0 0 Q) : ∀ (l2 : Int32) (l3 : Int32) (l5 : Int32) (g0 : Int32) (g1 : Int32) (h : jH), (-1) ≤ l2.toInt ∧ l2.toInt ≤ 4 → 0 ≤ l3.toInt ∧ l3.toInt ≤ 399 → 0 ≤ l5.toInt ∧ l5.toInt ≤ 399 → 0 ≤ g0.toInt ∧ g0.toInt ≤ 400 → 0 ≤ g1.toInt ∧ g1.toInt ≤ 3 → (g1.toInt ≠ 3 ∨ g0.toInt ≤ 399) → jiv h 68 3 = g0 → jiv h 68 5 = g1 → 400 - l3.toInt ≤ R4 → 400 - l5.toInt ≤ R17 → jJ jSgX Dy h → jSm fp_X2_readSum_r95_c6 h0 h → jX m_X2_readSum 10 0 0 81 [(0, .ref 95), (1, .int 6), (2, .int l2), (3, .int l3), (5, .int l5)] [.int 5] h 0 0 Q := by
  intro l2 l3 l5 g0 g1 h y0 y1 y2 y3 y4 y5 z0 z1 m4 m17 J Sm
  refine x_istore (lsx9 := [(4, .int 5), (0, .ref 95), (1, .int 6), (2, .int l2), (3, .int l3), (5, .int l5)]) rfl rfl rfl ?_
  refine x_iload (x := 5) rfl rfl ?_
  refine x_iconst (v := (-1)) rfl ki_m1 ?_
  refine x_icne (tgt := 92) rfl rfl (ti_ne jk_5 jk_m1 (bn_t (by omega) ?_))
  refine x_aloadn (x := 95) rfl rfl ?_
  refine z_getR (N := 6) (b := 68) 2 0 rfl f_2_30 rfl J rfl 12160 ⟨rfl, rfl⟩ rfl ?_
  refine x_inv (N := m_X9_step) (As := []) (b := 68) (st := []) (dx9 := 2) (mc := 0) (ms := 0) (host := "") 9 rfl t_X9_step ⟨Or.inl q_2_62, i_X9_step.1, i_X9_step.2⟩ ⟨by decide, rfl⟩ (congrArg Prod.fst (J.1.1 68 (9, 6) rfl)) rfl (by decide) rfl rfl ⟨by decide, by decide⟩ (sf_X9_step_r68  hD J z1 z0 (by omega)  (fun h J S1 u2 u3 qu2 qu3 ru2 => ?_))
  have Sm := jSm_tr rfl Sm S1
  have eu2 := (show 0 ≤ u2.toInt ∧ u2.toInt ≤ 3 from qu2 ▸ jrg_f J sg_68_5_6_1_0_1)
  have eu3 := (show 0 ≤ u3.toInt ∧ u3.toInt ≤ 400 from qu3 ▸ jrg_f J sg_68_3_4_1_0_1)
  show jX m_X2_readSum 10 0 0 99 [(4, .int 5), (0, .ref 95), (1, .int 6), (2, .int l2), (3, .int l3), (5, .int l5)] [] _ 0 0 _
  refine z_iinc (x := l5) (lsx9 := fun v4 => [(5, .int v4), (4, .int 5), (0, .ref 95), (1, .int 6), (2, .int l2), (3, .int l3)]) rfl rfl rfl jko_1 (by omega) rfl (fun _ => rfl) (fun v4 ev4 => ?_)
  refine x_goto (tgt := 17) rfl rfl ?_
  exact jX.sub (jsb_c rfl (jsb_c rfl (jsb_c rfl (jsb_c rfl (jsb_c rfl (jsb_c rfl jsb_n)))))) (k17 l2 l3 5 v4 u3 u2 h (by omega) (jr_of rfl (by omega)) (jr_of rfl (by omega)) (jr_of jk_5 (by omega)) (jr_of rfl (by omega)) (jr_of rfl (by omega)) (jr_of rfl (by omega)) (by omega) qu3 qu2 (by omega) J Sm)
set_option maxRecDepth 100000 in
set_option maxHeartbeats 4000000 in
theorem ct_X2_readSum_r95_c6_47 {Dy : jH → Prop} {h0 : jH} {Q : Option Value → jH → Prop} {R4 : Int} {R17 : Int} (hD : jDk Dy) (hQ : ∀ (v : Int32) hx9, 0 ≤ v.toInt ∧ v.toInt ≤ 1 → jJ jSgX Dy hx9 → jSm fp_X2_readSum_r95_c6 h0 hx9 → ∀ u0 u1 : Int32, jiv hx9 68 5 = u0 → jiv hx9 68 3 = u1 → (u0.toInt ≠ 3 ∨ u1.toInt ≤ 399) → Q (some (.int v)) hx9) (k4 : ∀ (l2 : Int32) (l3 : Int32) (g0 : Int32) (g1 : Int32) (h : jH), 400 - l3.toInt < R4 → (-1) ≤ l2.toInt ∧ l2.toInt ≤ 4 → 0 ≤ l3.toInt ∧ l3.toInt ≤ 400 → 0 ≤ g0.toInt ∧ g0.toInt ≤ 400 → 0 ≤ g1.toInt ∧ g1.toInt ≤ 3 → (g1.toInt ≠ 3 ∨ g0.toInt ≤ 399) → jiv h 68 3 = g0 → jiv h 68 5 = g1 → jJ jSgX Dy h → jSm fp_X2_readSum_r95_c6 h0 h → jX m_X2_readSum 10 0 0 4 [(0, .ref 95), (1, .int 6), (2, .int l2), (3, .int l3)] [] h 0 0 Q) (k17 : ∀ (l2 : Int32) (l3 : Int32) (l4 : Int32) (l5 : Int32) (g0 : Int32) (g1 : Int32) (h : jH), 400 - l5.toInt < R17 → (-1) ≤ l2.toInt ∧ l2.toInt ≤ 4 → 0 ≤ l3.toInt ∧ l3.toInt ≤ 399 → (-1) ≤ l4.toInt ∧ l4.toInt ≤ 6 → 0 ≤ l5.toInt ∧ l5.toInt ≤ 400 → 0 ≤ g0.toInt ∧ g0.toInt ≤ 400 → 0 ≤ g1.toInt ∧ g1.toInt ≤ 3 → (g1.toInt ≠ 3 ∨ g0.toInt ≤ 399) → jiv h 68 3 = g0 → jiv h 68 5 = g1 → 400 - l3.toInt ≤ R4 → jJ jSgX Dy h → jSm fp_X2_readSum_r95_c6 h0 h → jX m_X2_readSum 10 0 0 17 [(0, .ref 95), (1, .int 6), (2, .int l2), (3, .int l3), (4, .int l4), (5, .int l5)] [] h 0 0 Q) : ∀ (l2 : Int32) (l3 : Int32) (l5 : Int32) (g0 : Int32) (g1 : Int32) (h : jH), (-1) ≤ l2.toInt ∧ l2.toInt ≤ 4 → 0 ≤ l3.toInt ∧ l3.toInt ≤ 399 → 0 ≤ l5.toInt ∧ l5.toInt ≤ 399 → 0 ≤ g0.toInt ∧ g0.toInt ≤ 400 → 0 ≤ g1.toInt ∧ g1.toInt ≤ 3 → (g1.toInt ≠ 3 ∨ g0.toInt ≤ 399) → jiv h 68 3 = g0 → jiv h 68 5 = g1 → 400 - l3.toInt ≤ R4 → 400 - l5.toInt ≤ R17 → jJ jSgX Dy h → jSm fp_X2_readSum_r95_c6 h0 h → jX m_X2_readSum 10 0 0 47 [(0, .ref 95), (1, .int 6), (2, .int l2), (3, .int l3), (5, .int l5)] [] h 0 0 Q := by
  intro l2 l3 l5 g0 g1 h y0 y1 y2 y3 y4 y5 z0 z1 m4 m17 J Sm
  refine x_aloadn (x := 95) rfl rfl ?_
  refine z_getR (N := 6) (b := 68) 2 0 rfl f_2_30 rfl J rfl 12160 ⟨rfl, rfl⟩ rfl ?_
  refine x_bipush (v := 42) rfl kb_42 ?_
  refine x_inv (N := m_X9_isSign) (As := [.int 42]) (b := 68) (st := []) (dx9 := 1) (mc := 0) (ms := 0) (host := "") 9 rfl t_X9_isSign ⟨Or.inl q_2_55, i_X9_isSign.1, i_X9_isSign.2⟩ ⟨by decide, rfl⟩ (congrArg Prod.fst (J.1.1 68 (9, 6) rfl)) rfl (by decide) rfl rfl ⟨by decide, by decide⟩ (sf_X9_isSign_r68 (jr_of jk_42 (by omega)) hD J z1 z0 (by omega)  (fun v4 h ev4 J S1 u2 u3 qu2 qu3 ru2 => ?_))
  have Sm := jSm_tr rfl Sm S1
  have eu2 := (show 0 ≤ u2.toInt ∧ u2.toInt ≤ 3 from qu2 ▸ jrg_f J sg_68_5_6_1_0_1)
  have eu3 := (show 0 ≤ u3.toInt ∧ u3.toInt ≤ 400 from qu3 ▸ jrg_f J sg_68_3_4_1_0_1)
  show jX m_X2_readSum 10 0 0 56 [(0, .ref 95), (1, .int 6), (2, .int l2), (3, .int l3), (5, .int l5)] [.int v4] _ 0 0 _
  refine x_ifeq (tgt := 63) rfl rfl (ti_eq rfl jk_0 ⟨fun c5 => ?_, fun c5 => ?_⟩)
  ·
    refine x_aloadn (x := 95) rfl rfl ?_
    refine z_getR (N := 6) (b := 68) 2 0 rfl f_2_30 rfl J rfl 12160 ⟨rfl, rfl⟩ rfl ?_
    refine x_bipush (v := 47) rfl kb_47 ?_
    refine x_inv (N := m_X9_isSign) (As := [.int 47]) (b := 68) (st := []) (dx9 := 1) (mc := 0) (ms := 0) (host := "") 9 rfl t_X9_isSign ⟨Or.inl q_2_55, i_X9_isSign.1, i_X9_isSign.2⟩ ⟨by decide, rfl⟩ (congrArg Prod.fst (J.1.1 68 (9, 6) rfl)) rfl (by decide) rfl rfl ⟨by decide, by decide⟩ (sf_X9_isSign_r68 (jr_of jk_47 (by omega)) hD J qu2 qu3 (by omega)  (fun v9 h ev9 J S6 u7 u8 qu7 qu8 ru7 => ?_))
    have Sm := jSm_tr rfl Sm S6
    have eu7 := (show 0 ≤ u7.toInt ∧ u7.toInt ≤ 3 from qu7 ▸ jrg_f J sg_68_5_6_1_0_1)
    have eu8 := (show 0 ≤ u8.toInt ∧ u8.toInt ≤ 400 from qu8 ▸ jrg_f J sg_68_3_4_1_0_1)
    show jX m_X2_readSum 10 0 0 72 [(0, .ref 95), (1, .int 6), (2, .int l2), (3, .int l3), (5, .int l5)] [.int v9] _ 0 0 _
    refine x_ifeq (tgt := 80) rfl rfl (ti_eq rfl jk_0 ⟨fun c10 => ?_, fun c10 => ?_⟩)
    ·
      refine x_iconst (v := (-1)) rfl ki_m1 ?_
      exact jX.sub (jsb_c rfl (jsb_c rfl (jsb_c rfl (jsb_c rfl (jsb_c rfl jsb_n))))) (ct_X2_readSum_r95_c6_100081 hD hQ k4 k17 l2 l3 l5 u8 u7 h (jr_of rfl (by omega)) (jr_of rfl (by omega)) (jr_of rfl (by omega)) (jr_of rfl (by omega)) (jr_of rfl (by omega)) (by omega) qu8 qu7 (by omega) (by omega) J Sm)
    ·
      refine x_bipush (v := 6) rfl kb_6 ?_
      refine x_goto (tgt := 81) rfl rfl ?_
      exact jX.sub (jsb_c rfl (jsb_c rfl (jsb_c rfl (jsb_c rfl (jsb_c rfl jsb_n))))) (ct_X2_readSum_r95_c6_800081 hD hQ k4 k17 l2 l3 l5 u8 u7 h (jr_of rfl (by omega)) (jr_of rfl (by omega)) (jr_of rfl (by omega)) (jr_of rfl (by omega)) (jr_of rfl (by omega)) (by omega) qu8 qu7 (by omega) (by omega) J Sm)
  ·
    refine x_iconst (v := 5) rfl ki_5 ?_
    refine x_goto (tgt := 81) rfl rfl ?_
    exact jX.sub (jsb_c rfl (jsb_c rfl (jsb_c rfl (jsb_c rfl (jsb_c rfl jsb_n))))) (ct_X2_readSum_r95_c6_700081 hD hQ k4 k17 l2 l3 l5 u3 u2 h (jr_of rfl (by omega)) (jr_of rfl (by omega)) (jr_of rfl (by omega)) (jr_of rfl (by omega)) (jr_of rfl (by omega)) (by omega) qu3 qu2 (by omega) (by omega) J Sm)
set_option maxRecDepth 100000 in
set_option maxHeartbeats 4000000 in
theorem ct_X2_readSum_r95_c6_17 {Dy : jH → Prop} {h0 : jH} {Q : Option Value → jH → Prop} {R4 : Int} (hD : jDk Dy) (hQ : ∀ (v : Int32) hx9, 0 ≤ v.toInt ∧ v.toInt ≤ 1 → jJ jSgX Dy hx9 → jSm fp_X2_readSum_r95_c6 h0 hx9 → ∀ u0 u1 : Int32, jiv hx9 68 5 = u0 → jiv hx9 68 3 = u1 → (u0.toInt ≠ 3 ∨ u1.toInt ≤ 399) → Q (some (.int v)) hx9) (k4 : ∀ (l2 : Int32) (l3 : Int32) (g0 : Int32) (g1 : Int32) (h : jH), 400 - l3.toInt < R4 → (-1) ≤ l2.toInt ∧ l2.toInt ≤ 4 → 0 ≤ l3.toInt ∧ l3.toInt ≤ 400 → 0 ≤ g0.toInt ∧ g0.toInt ≤ 400 → 0 ≤ g1.toInt ∧ g1.toInt ≤ 3 → (g1.toInt ≠ 3 ∨ g0.toInt ≤ 399) → jiv h 68 3 = g0 → jiv h 68 5 = g1 → jJ jSgX Dy h → jSm fp_X2_readSum_r95_c6 h0 h → jX m_X2_readSum 10 0 0 4 [(0, .ref 95), (1, .int 6), (2, .int l2), (3, .int l3)] [] h 0 0 Q) : ∀ r : Nat, ∀ (l2 : Int32) (l3 : Int32) (l4 : Int32) (l5 : Int32) (g0 : Int32) (g1 : Int32) (h : jH), 400 - l5.toInt < (r : Int) → (-1) ≤ l2.toInt ∧ l2.toInt ≤ 4 → 0 ≤ l3.toInt ∧ l3.toInt ≤ 399 → (-1) ≤ l4.toInt ∧ l4.toInt ≤ 6 → 0 ≤ l5.toInt ∧ l5.toInt ≤ 400 → 0 ≤ g0.toInt ∧ g0.toInt ≤ 400 → 0 ≤ g1.toInt ∧ g1.toInt ≤ 3 → (g1.toInt ≠ 3 ∨ g0.toInt ≤ 399) → jiv h 68 3 = g0 → jiv h 68 5 = g1 → 400 - l3.toInt ≤ R4 → jJ jSgX Dy h → jSm fp_X2_readSum_r95_c6 h0 h → jX m_X2_readSum 10 0 0 17 [(0, .ref 95), (1, .int 6), (2, .int l2), (3, .int l3), (4, .int l4), (5, .int l5)] [] h 0 0 Q := by
  intro r
  induction r with
  | zero =>
    intro l2 l3 l4 l5 g0 g1 h hm y0 y1 y2 y3 y4 y5 y6 z0 z1 m4 J Sm
    exfalso
    omega
  | succ r ih =>
    intro l2 l3 l4 l5 g0 g1 h hm y0 y1 y2 y3 y4 y5 y6 z0 z1 m4 J Sm
    refine x_iload (x := l5) rfl rfl ?_
    refine x_sipush (v := 400) rfl ks_400 ?_
    refine x_icge (tgt := 105) rfl rfl (ti_ge rfl jk_400 ⟨fun c1 => ?_, fun c1 => ?_⟩)
    ·
      exact jX.sub (jsb_c rfl (jsb_c rfl (jsb_c rfl (jsb_c rfl jsb_n)))) (ct_X2_readSum_r95_c6_105 hD hQ k4 l2 l3 g0 g1 h (jr_of rfl (by omega)) (jr_of rfl (by omega)) (jr_of rfl (by omega)) (jr_of rfl (by omega)) (by omega) z0 z1 (by omega) J Sm)
    ·
      refine x_aloadn (x := 95) rfl rfl ?_
      refine x_iloadn (x := 6) rfl rfl ?_
      refine x_inv (N := m_X2_readFactor) (As := [.int 6]) (b := 95) (st := []) (dx9 := 9) (mc := 0) (ms := 0) (host := "") 2 rfl t_X2_readFactor ⟨Or.inl q_2_144, i_X2_readFactor.1, i_X2_readFactor.2⟩ ⟨by decide, rfl⟩ (congrArg Prod.fst (J.1.1 95 (2, 6) rfl)) rfl (by decide) rfl rfl ⟨by decide, by decide⟩ (sf_X2_readFactor_r95_c6  hD J z1 z0 (by omega)  (fun v5 h ev5 J S2 u3 u4 qu3 qu4 ru3 => ?_))
      have Sm := jSm_tr rfl Sm S2
      have eu3 := (show 0 ≤ u3.toInt ∧ u3.toInt ≤ 3 from qu3 ▸ jrg_f J sg_68_5_6_1_0_1)
      have eu4 := (show 0 ≤ u4.toInt ∧ u4.toInt ≤ 400 from qu4 ▸ jrg_f J sg_68_3_4_1_0_1)
      show jX m_X2_readSum 10 0 0 30 [(0, .ref 95), (1, .int 6), (2, .int l2), (3, .int l3), (4, .int l4), (5, .int l5)] [.int v5] _ 0 0 _
      refine x_ifne (tgt := 35) rfl rfl (ti_ne rfl jk_0 ⟨fun c6 => ?_, fun c6 => ?_⟩)
      ·
        refine x_iload (x := l4) rfl rfl ?_
        refine x_iconst (v := (-1)) rfl ki_m1 ?_
        refine x_iceq (tgt := 47) rfl rfl (ti_eq rfl jk_m1 ⟨fun c7 => ?_, fun c7 => ?_⟩)
        ·
          exact jX.sub (jsb_c rfl (jsb_c rfl (jsb_c rfl (jsb_c rfl (jsb_c rfl jsb_n))))) (ct_X2_readSum_r95_c6_47 hD hQ k4 ih l2 l3 l5 u4 u3 h (jr_of rfl (by omega)) (jr_of rfl (by omega)) (jr_of rfl (by omega)) (jr_of rfl (by omega)) (jr_of rfl (by omega)) (by omega) qu4 qu3 (by omega) (by omega) J Sm)
        ·
          refine x_aloadn (x := 95) rfl rfl ?_
          refine x_iload (x := l4) rfl rfl ?_
          refine x_inv (N := m_X2_emit) (As := [.int l4]) (b := 95) (st := []) (dx9 := 1) (mc := 0) (ms := 0) (host := "") 2 rfl t_X2_emit ⟨Or.inl q_2_89, i_X2_emit.1, i_X2_emit.2⟩ ⟨by decide, rfl⟩ (congrArg Prod.fst (J.1.1 95 (2, 6) rfl)) rfl (by decide) rfl rfl ⟨by decide, by decide⟩ (sf_X2_emit_r95  hD J  (fun h J S8 => ?_))
          have Sm := jSm_tr rfl Sm S8
          show jX m_X2_readSum 10 0 0 47 [(0, .ref 95), (1, .int 6), (2, .int l2), (3, .int l3), (4, .int l4), (5, .int l5)] [] _ 0 0 _
          exact jX.sub (jsb_c rfl (jsb_c rfl (jsb_c rfl (jsb_c rfl (jsb_c rfl jsb_n))))) (ct_X2_readSum_r95_c6_47 hD hQ k4 ih l2 l3 l5 u4 u3 h (jr_of rfl (by omega)) (jr_of rfl (by omega)) (jr_of rfl (by omega)) (jr_of rfl (by omega)) (jr_of rfl (by omega)) (by omega) (jmc S8 rfl qu4) (jmc S8 rfl qu3) (by omega) (by omega) J Sm)
      ·
        refine x_iconst (v := 0) rfl ki_0 ?_
        refine x_zret rfl rfl (by decide) ?_
        exact hQ _ _ (jr_of jk_0 (by omega)) J Sm _ _ qu3 qu4 (by omega)
set_option maxRecDepth 100000 in
set_option maxHeartbeats 4000000 in
theorem ct_X2_readSum_r95_c6_4 {Dy : jH → Prop} {h0 : jH} {Q : Option Value → jH → Prop} (hD : jDk Dy) (hQ : ∀ (v : Int32) hx9, 0 ≤ v.toInt ∧ v.toInt ≤ 1 → jJ jSgX Dy hx9 → jSm fp_X2_readSum_r95_c6 h0 hx9 → ∀ u0 u1 : Int32, jiv hx9 68 5 = u0 → jiv hx9 68 3 = u1 → (u0.toInt ≠ 3 ∨ u1.toInt ≤ 399) → Q (some (.int v)) hx9) : ∀ r : Nat, ∀ (l2 : Int32) (l3 : Int32) (g0 : Int32) (g1 : Int32) (h : jH), 400 - l3.toInt < (r : Int) → (-1) ≤ l2.toInt ∧ l2.toInt ≤ 4 → 0 ≤ l3.toInt ∧ l3.toInt ≤ 400 → 0 ≤ g0.toInt ∧ g0.toInt ≤ 400 → 0 ≤ g1.toInt ∧ g1.toInt ≤ 3 → (g1.toInt ≠ 3 ∨ g0.toInt ≤ 399) → jiv h 68 3 = g0 → jiv h 68 5 = g1 → jJ jSgX Dy h → jSm fp_X2_readSum_r95_c6 h0 h → jX m_X2_readSum 10 0 0 4 [(0, .ref 95), (1, .int 6), (2, .int l2), (3, .int l3)] [] h 0 0 Q := by
  intro r
  induction r with
  | zero =>
    intro l2 l3 g0 g1 h hm y0 y1 y2 y3 y4 z0 z1  J Sm
    exfalso
    omega
  | succ r ih =>
    intro l2 l3 g0 g1 h hm y0 y1 y2 y3 y4 z0 z1  J Sm
    refine x_iloadn (x := l3) rfl rfl ?_
    refine x_sipush (v := 400) rfl ks_400 ?_
    refine x_icge (tgt := 169) rfl rfl (ti_ge rfl jk_400 ⟨fun c1 => ?_, fun c1 => ?_⟩)
    ·
      refine x_aloadn (x := 95) rfl rfl ?_
      refine z_getR (N := 6) (b := 68) 2 0 rfl f_2_30 rfl J rfl 12160 ⟨rfl, rfl⟩ rfl ?_
      refine x_inv (N := m_X9_blame) (As := []) (b := 68) (st := []) (dx9 := 9) (mc := 0) (ms := 0) (host := "") 9 rfl t_X9_blame ⟨Or.inl q_2_59, i_X9_blame.1, i_X9_blame.2⟩ ⟨by decide, rfl⟩ (congrArg Prod.fst (J.1.1 68 (9, 6) rfl)) rfl (by decide) rfl rfl ⟨by decide, by decide⟩ (jC.of rfl k_X9_blame rfl ?_)
      show jX m_X9_blame 9 0 0 0 [(0, .ref 68)] [] _ 0 0 _
      refine x_aloadn (x := 68) rfl rfl ?_
      refine x_aloadn (x := 68) rfl rfl ?_
      refine z_getM (N := 6) (v := g0) 9 3 rfl f_9_22 rfl J rfl z0 ?_
      refine z_putI (N := 6) (w := g0.toInt) 9 2 rfl f_9_19 rfl (jfin_no TX9 RX9 6 rfl rfl) hD J Sm rfl rfl rfl (pw_68_2 (by omega)) rfl (fun h w2 J Sm => ?_)
      refine x_iconst (v := 0) rfl ki_0 ?_
      refine x_zret rfl rfl (by decide) ?_
      show jX m_X2_readSum 10 0 0 176 [(0, .ref 95), (1, .int 6), (2, .int l2), (3, .int l3)] [.int 0] _ 0 0 _
      refine x_zret rfl rfl (by decide) ?_
      exact hQ _ _ (jr_of jk_0 (by omega)) J Sm _ _ (jmo w2 rfl z1) (jmo w2 rfl z0) (by omega)
    ·
      refine x_iconst (v := (-1)) rfl ki_m1 ?_
      refine x_istore (lsx9 := [(4, .int (-1)), (0, .ref 95), (1, .int 6), (2, .int l2), (3, .int l3)]) rfl rfl rfl ?_
      refine x_iconst (v := 0) rfl ki_0 ?_
      refine x_istore (lsx9 := [(5, .int 0), (4, .int (-1)), (0, .ref 95), (1, .int 6), (2, .int l2), (3, .int l3)]) rfl rfl rfl ?_
      exact jX.sub (jsb_c rfl (jsb_c rfl (jsb_c rfl (jsb_c rfl (jsb_c rfl (jsb_c rfl jsb_n)))))) (ct_X2_readSum_r95_c6_17 hD hQ ih 401 l2 l3 (-1) 0 g0 g1 h (by have := jk_0; omega) (jr_of rfl (by omega)) (jr_of rfl (by omega)) (jr_of jk_m1 (by omega)) (jr_of jk_0 (by omega)) (jr_of rfl (by omega)) (jr_of rfl (by omega)) (by omega) z0 z1 (by omega) J Sm)
set_option maxRecDepth 100000 in
set_option maxHeartbeats 4000000 in
theorem sf_X2_readSum_r95_c6 {Dy : jH → Prop} {h : jH} {Q : Option Value → jH → Prop} (hD : jDk Dy) (J : jJ jSgX Dy h) {p0 p1 : Int32} (zp0 : jiv h 68 5 = p0) (zp1 : jiv h 68 3 = p1) (rl_p0 : (p0.toInt ≠ 3 ∨ p1.toInt ≤ 399)) (hQ : ∀ (v : Int32) hx9, 0 ≤ v.toInt ∧ v.toInt ≤ 1 → jJ jSgX Dy hx9 → jSm fp_X2_readSum_r95_c6 h hx9 → ∀ u0 u1 : Int32, jiv hx9 68 5 = u0 → jiv hx9 68 3 = u1 → (u0.toInt ≠ 3 ∨ u1.toInt ≤ 399) → Q (some (.int v)) hx9) : jC m_X2_readSum 10 0 0 [.ref 95, .int 6] h Q := by
  refine jC.of rfl k_X2_readSum rfl ?_
  have Sm := jSm_rf fp_X2_readSum_r95_c6 h
  have ep0 := (show 0 ≤ p0.toInt ∧ p0.toInt ≤ 3 from zp0 ▸ jrg_f J sg_68_5_6_1_0_1)
  have ep1 := (show 0 ≤ p1.toInt ∧ p1.toInt ≤ 400 from zp1 ▸ jrg_f J sg_68_3_4_1_0_1)
  show jX m_X2_readSum 10 0 0 0 [(0, .ref 95), (1, .int 6)] [] _ 0 0 _
  refine x_iconst (v := (-1)) rfl ki_m1 ?_
  refine x_istoren (lsx9 := [(2, .int (-1)), (0, .ref 95), (1, .int 6)]) rfl rfl rfl ?_
  refine x_iconst (v := 0) rfl ki_0 ?_
  refine x_istoren (lsx9 := [(3, .int 0), (2, .int (-1)), (0, .ref 95), (1, .int 6)]) rfl rfl rfl ?_
  exact jX.sub (jsb_c rfl (jsb_c rfl (jsb_c rfl (jsb_c rfl jsb_n)))) (ct_X2_readSum_r95_c6_4 hD hQ  401 (-1) 0 p1 p0 h (by have := jk_0; omega) (jr_of jk_m1 (by omega)) (jr_of jk_0 (by omega)) (jr_of rfl (by omega)) (jr_of rfl (by omega)) (by omega) zp1 zp0 J Sm)
def fp_X2_readFactor_r95_c5 : jFp := [(68, 2, 3), (68, 3, 4), (68, 4, 5), (68, 5, 6), (95, 4, 5), (95, 5, 6), (97, 0, 1200)]
set_option maxRecDepth 100000 in
set_option maxHeartbeats 4000000 in
theorem ct_X2_readFactor_r95_c5_111 {Dy : jH → Prop} {h0 : jH} {Q : Option Value → jH → Prop} (hD : jDk Dy) (hQ : ∀ (v : Int32) hx9, 0 ≤ v.toInt ∧ v.toInt ≤ 1 → jJ jSgX Dy hx9 → jSm fp_X2_readFactor_r95_c5 h0 hx9 → ∀ u0 u1 : Int32, jiv hx9 68 5 = u0 → jiv hx9 68 3 = u1 → (u0.toInt ≠ 3 ∨ u1.toInt ≤ 399) → Q (some (.int v)) hx9) : ∀ (s0 : Int32) (g0 : Int32) (g1 : Int32) (h : jH), 0 ≤ s0.toInt ∧ s0.toInt ≤ 1 → 0 ≤ g0.toInt ∧ g0.toInt ≤ 400 → 0 ≤ g1.toInt ∧ g1.toInt ≤ 3 → (g1.toInt ≠ 3 ∨ g0.toInt ≤ 399) → jiv h 68 3 = g0 → jiv h 68 5 = g1 → jJ jSgX Dy h → jSm fp_X2_readFactor_r95_c5 h0 h → jX m_X2_readFactor 11 0 0 111 [] [.int s0] h 0 0 Q := by
  intro s0 g0 g1 h y0 y1 y2 y3 z0 z1  J Sm
  refine x_zret rfl rfl (jz01 (by omega)) ?_
  exact hQ _ _ (jr_of rfl (by omega)) J Sm _ _ z1 z0 (by omega)
set_option maxRecDepth 100000 in
set_option maxHeartbeats 4000000 in
theorem ct_X2_readFactor_r95_c5_200111 {Dy : jH → Prop} {h0 : jH} {Q : Option Value → jH → Prop} (hD : jDk Dy) (hQ : ∀ (v : Int32) hx9, 0 ≤ v.toInt ∧ v.toInt ≤ 1 → jJ jSgX Dy hx9 → jSm fp_X2_readFactor_r95_c5 h0 hx9 → ∀ u0 u1 : Int32, jiv hx9 68 5 = u0 → jiv hx9 68 3 = u1 → (u0.toInt ≠ 3 ∨ u1.toInt ≤ 399) → Q (some (.int v)) hx9) : ∀ (g0 : Int32) (g1 : Int32) (h : jH), 0 ≤ g0.toInt ∧ g0.toInt ≤ 400 → 0 ≤ g1.toInt ∧ g1.toInt ≤ 3 → (g1.toInt ≠ 3 ∨ g0.toInt ≤ 399) → jiv h 68 3 = g0 → jiv h 68 5 = g1 → jJ jSgX Dy h → jSm fp_X2_readFactor_r95_c5 h0 h → jX m_X2_readFactor 11 0 0 111 [] [.int 0] h 0 0 Q := by
  intro g0 g1 h y0 y1 y2 z0 z1  J Sm
  refine x_zret rfl rfl (by decide) ?_
  exact hQ _ _ (jr_of jk_0 (by omega)) J Sm _ _ z1 z0 (by omega)
set_option maxRecDepth 100000 in
set_option maxHeartbeats 4000000 in
theorem ct_X2_readFactor_r95_c5_300057 {Dy : jH → Prop} {h0 : jH} {Q : Option Value → jH → Prop} (hD : jDk Dy) (hQ : ∀ (v : Int32) hx9, 0 ≤ v.toInt ∧ v.toInt ≤ 1 → jJ jSgX Dy hx9 → jSm fp_X2_readFactor_r95_c5 h0 hx9 → ∀ u0 u1 : Int32, jiv hx9 68 5 = u0 → jiv hx9 68 3 = u1 → (u0.toInt ≠ 3 ∨ u1.toInt ≤ 399) → Q (some (.int v)) hx9) : ∀ (g0 : Int32) (g1 : Int32) (h : jH), 0 ≤ g0.toInt ∧ g0.toInt ≤ 400 → 0 ≤ g1.toInt ∧ g1.toInt ≤ 3 → (g1.toInt ≠ 3 ∨ g0.toInt ≤ 399) → jiv h 68 3 = g0 → jiv h 68 5 = g1 → jJ jSgX Dy h → jSm fp_X2_readFactor_r95_c5 h0 h → jX m_X2_readFactor 11 0 0 57 [] [.int 1] h 0 0 Q := by
  intro g0 g1 h y0 y1 y2 z0 z1  J Sm
  refine x_zret rfl rfl (by decide) ?_
  exact hQ _ _ (jr_of jk_1 (by omega)) J Sm _ _ z1 z0 (by omega)
set_option maxRecDepth 100000 in
set_option maxHeartbeats 4000000 in
theorem ct_X2_readFactor_r95_c5_200057 {Dy : jH → Prop} {h0 : jH} {Q : Option Value → jH → Prop} (hD : jDk Dy) (hQ : ∀ (v : Int32) hx9, 0 ≤ v.toInt ∧ v.toInt ≤ 1 → jJ jSgX Dy hx9 → jSm fp_X2_readFactor_r95_c5 h0 hx9 → ∀ u0 u1 : Int32, jiv hx9 68 5 = u0 → jiv hx9 68 3 = u1 → (u0.toInt ≠ 3 ∨ u1.toInt ≤ 399) → Q (some (.int v)) hx9) : ∀ (g0 : Int32) (g1 : Int32) (h : jH), 0 ≤ g0.toInt ∧ g0.toInt ≤ 400 → 0 ≤ g1.toInt ∧ g1.toInt ≤ 3 → (g1.toInt ≠ 3 ∨ g0.toInt ≤ 399) → jiv h 68 3 = g0 → jiv h 68 5 = g1 → jJ jSgX Dy h → jSm fp_X2_readFactor_r95_c5 h0 h → jX m_X2_readFactor 11 0 0 57 [] [.int 0] h 0 0 Q := by
  intro g0 g1 h y0 y1 y2 z0 z1  J Sm
  refine x_zret rfl rfl (by decide) ?_
  exact hQ _ _ (jr_of jk_0 (by omega)) J Sm _ _ z1 z0 (by omega)
set_option maxRecDepth 100000 in
set_option maxHeartbeats 4000000 in
theorem ct_X2_readFactor_r95_c5_56 {Dy : jH → Prop} {h0 : jH} {Q : Option Value → jH → Prop} (hD : jDk Dy) (hQ : ∀ (v : Int32) hx9, 0 ≤ v.toInt ∧ v.toInt ≤ 1 → jJ jSgX Dy hx9 → jSm fp_X2_readFactor_r95_c5 h0 hx9 → ∀ u0 u1 : Int32, jiv hx9 68 5 = u0 → jiv hx9 68 3 = u1 → (u0.toInt ≠ 3 ∨ u1.toInt ≤ 399) → Q (some (.int v)) hx9) : ∀ (g0 : Int32) (g1 : Int32) (h : jH), 0 ≤ g0.toInt ∧ g0.toInt ≤ 400 → 0 ≤ g1.toInt ∧ g1.toInt ≤ 3 → (g1.toInt ≠ 3 ∨ g0.toInt ≤ 399) → jiv h 68 3 = g0 → jiv h 68 5 = g1 → jJ jSgX Dy h → jSm fp_X2_readFactor_r95_c5 h0 h → jX m_X2_readFactor 11 0 0 56 [] [] h 0 0 Q := by
  intro g0 g1 h y0 y1 y2 z0 z1  J Sm
  refine x_iconst (v := 0) rfl ki_0 ?_
  exact jX.sub jsb_n (ct_X2_readFactor_r95_c5_200057 hD hQ  g0 g1 h (jr_of rfl (by omega)) (jr_of rfl (by omega)) (by omega) z0 z1 J Sm)
set_option maxRecDepth 100000 in
set_option maxHeartbeats 4000000 in
theorem sf_X2_readFactor_r95_c5 {Dy : jH → Prop} {h : jH} {Q : Option Value → jH → Prop} (hD : jDk Dy) (J : jJ jSgX Dy h) {p0 p1 : Int32} (zp0 : jiv h 68 5 = p0) (zp1 : jiv h 68 3 = p1) (rl_p0 : (p0.toInt ≠ 3 ∨ p1.toInt ≤ 399)) (hQ : ∀ (v : Int32) hx9, 0 ≤ v.toInt ∧ v.toInt ≤ 1 → jJ jSgX Dy hx9 → jSm fp_X2_readFactor_r95_c5 h hx9 → ∀ u0 u1 : Int32, jiv hx9 68 5 = u0 → jiv hx9 68 3 = u1 → (u0.toInt ≠ 3 ∨ u1.toInt ≤ 399) → Q (some (.int v)) hx9) : jC m_X2_readFactor 11 0 0 [.ref 95, .int 5] h Q := by
  refine jC.of rfl k_X2_readFactor rfl ?_
  have Sm := jSm_rf fp_X2_readFactor_r95_c5 h
  have ep0 := (show 0 ≤ p0.toInt ∧ p0.toInt ≤ 3 from zp0 ▸ jrg_f J sg_68_5_6_1_0_1)
  have ep1 := (show 0 ≤ p1.toInt ∧ p1.toInt ≤ 400 from zp1 ▸ jrg_f J sg_68_3_4_1_0_1)
  show jX m_X2_readFactor 11 0 0 0 [(0, .ref 95), (1, .int 5)] [] _ 0 0 _
  refine x_aloadn (x := 95) rfl rfl ?_
  refine z_getR (N := 6) (b := 68) 2 0 rfl f_2_30 rfl J rfl 12160 ⟨rfl, rfl⟩ rfl ?_
  refine x_bipush (v := 91) rfl kb_91 ?_
  refine x_inv (N := m_X9_isSign) (As := [.int 91]) (b := 68) (st := []) (dx9 := 1) (mc := 0) (ms := 0) (host := "") 9 rfl t_X9_isSign ⟨Or.inl q_2_55, i_X9_isSign.1, i_X9_isSign.2⟩ ⟨by decide, rfl⟩ (congrArg Prod.fst (J.1.1 68 (9, 6) rfl)) rfl (by decide) rfl rfl ⟨by decide, by decide⟩ (sf_X9_isSign_r68 (jr_of jk_91 (by omega)) hD J zp0 zp1 (by omega)  (fun v4 h ev4 J S1 u2 u3 qu2 qu3 ru2 => ?_))
  have Sm := jSm_tr rfl Sm S1
  have eu2 := (show 0 ≤ u2.toInt ∧ u2.toInt ≤ 3 from qu2 ▸ jrg_f J sg_68_5_6_1_0_1)
  have eu3 := (show 0 ≤ u3.toInt ∧ u3.toInt ≤ 400 from qu3 ▸ jrg_f J sg_68_3_4_1_0_1)
  show jX m_X2_readFactor 11 0 0 9 [(0, .ref 95), (1, .int 5)] [.int v4] _ 0 0 _
  refine x_ifeq (tgt := 58) rfl rfl (ti_eq rfl jk_0 ⟨fun c5 => ?_, fun c5 => ?_⟩)
  ·
    refine x_aloadn (x := 95) rfl rfl ?_
    refine z_getR (N := 6) (b := 68) 2 0 rfl f_2_30 rfl J rfl 12160 ⟨rfl, rfl⟩ rfl ?_
    refine x_ldc (v := 100000) rfl z_2_147 ?_
    refine x_inv (N := m_X9_numberTo) (As := [.int 100000]) (b := 68) (st := []) (dx9 := 1) (mc := 0) (ms := 0) (host := "") 9 rfl t_X9_numberTo ⟨Or.inl q_2_117, i_X9_numberTo.1, i_X9_numberTo.2⟩ ⟨by decide, rfl⟩ (congrArg Prod.fst (J.1.1 68 (9, 6) rfl)) rfl (by decide) rfl rfl ⟨by decide, by decide⟩ (sf_X9_numberTo_r68 (jr_of jk_100000 (by omega)) hD J  (fun v7 h ev7 J S6 => ?_))
    have Sm := jSm_tr rfl Sm S6
    show jX m_X2_readFactor 11 0 0 67 [(0, .ref 95), (1, .int 5)] [.int v7] _ 0 0 _
    refine x_istoren (lsx9 := [(2, .int v7), (0, .ref 95), (1, .int 5)]) rfl rfl rfl ?_
    refine x_iloadn (x := v7) rfl rfl ?_
    refine x_iconst (v := (-1)) rfl ki_m1 ?_
    refine x_iceq (tgt := 80) rfl rfl (ti_eq rfl jk_m1 ⟨fun c8 => ?_, fun c8 => ?_⟩)
    ·
      refine x_aloadn (x := 95) rfl rfl ?_
      refine z_getR (N := 6) (b := 68) 2 0 rfl f_2_30 rfl J rfl 12160 ⟨rfl, rfl⟩ rfl ?_
      refine x_ldcS (jstr.getD 6 jstr_0) rfl (List.mem_of_getElem? (i := 6) rfl) rfl rfl ?_
      show jX m_X2_readFactor 11 0 0 86 [(2, .int v7), (0, .ref 95), (1, .int 5)] [.ref 11, .ref 68] _ 0 0 _
      refine x_inv (N := m_X9_wordOf) (As := [.ref 11]) (b := 68) (st := []) (dx9 := 4) (mc := 0) (ms := 0) (host := "") 9 rfl t_X9_wordOf ⟨Or.inl q_2_67, i_X9_wordOf.1, i_X9_wordOf.2⟩ ⟨by decide, rfl⟩ (congrArg Prod.fst (J.1.1 68 (9, 6) rfl)) rfl (by decide) rfl rfl ⟨by decide, by decide⟩ (sf_X9_wordOf_r68_r11  hD J  (fun v10 h J S9 => ?_))
      have ev10 := jfull v10
      have Sm := jSm_tr rfl Sm S9
      show jX m_X2_readFactor 11 0 0 89 [(2, .int v7), (0, .ref 95), (1, .int 5)] [.int v10] _ 0 0 _
      refine x_istoren (lsx9 := [(3, .int v10), (2, .int v7), (0, .ref 95), (1, .int 5)]) rfl rfl rfl ?_
      refine x_iloadn (x := v10) rfl rfl ?_
      refine x_iconst (v := (-1)) rfl ki_m1 ?_
      refine x_icne (tgt := 105) rfl rfl (ti_ne rfl jk_m1 ⟨fun c11 => ?_, fun c11 => ?_⟩)
      ·
        refine x_aloadn (x := 95) rfl rfl ?_
        refine x_iconst (v := 2) rfl ki_2 ?_
        refine x_iloadn (x := v10) rfl rfl ?_
        refine x_inv (N := m_X2_readPart) (As := [.int 2, .int v10]) (b := 95) (st := []) (dx9 := 3) (mc := 0) (ms := 0) (host := "") 2 rfl t_X2_readPart ⟨Or.inl q_2_141, i_X2_readPart.1, i_X2_readPart.2⟩ ⟨by decide, rfl⟩ (congrArg Prod.fst (J.1.1 95 (2, 6) rfl)) rfl (by decide) rfl rfl ⟨by decide, by decide⟩ (sf_X2_readPart_r95 (jr_of jk_2 (by omega)) hD J (jmc S9 rfl (jmc S6 rfl qu2)) (jmc S9 rfl (jmc S6 rfl qu3)) (by omega)  (fun v15 h ev15 J S12 u13 u14 qu13 qu14 ru13 => ?_))
        have Sm := jSm_tr rfl Sm S12
        have eu13 := (show 0 ≤ u13.toInt ∧ u13.toInt ≤ 3 from qu13 ▸ jrg_f J sg_68_5_6_1_0_1)
        have eu14 := (show 0 ≤ u14.toInt ∧ u14.toInt ≤ 400 from qu14 ▸ jrg_f J sg_68_3_4_1_0_1)
        show jX m_X2_readFactor 11 0 0 111 [(3, .int v10), (2, .int v7), (0, .ref 95), (1, .int 5)] [.int v15] _ 0 0 _
        exact jX.sub jsb_n (ct_X2_readFactor_r95_c5_111 hD hQ  v15 u14 u13 h (jr_of rfl (by omega)) (jr_of rfl (by omega)) (jr_of rfl (by omega)) (by omega) qu14 qu13 J Sm)
      ·
        refine x_aloadn (x := 95) rfl rfl ?_
        refine z_getR (N := 6) (b := 68) 2 0 rfl f_2_30 rfl J rfl 12160 ⟨rfl, rfl⟩ rfl ?_
        refine x_inv (N := m_X9_blame) (As := []) (b := 68) (st := []) (dx9 := 10) (mc := 0) (ms := 0) (host := "") 9 rfl t_X9_blame ⟨Or.inl q_2_59, i_X9_blame.1, i_X9_blame.2⟩ ⟨by decide, rfl⟩ (congrArg Prod.fst (J.1.1 68 (9, 6) rfl)) rfl (by decide) rfl rfl ⟨by decide, by decide⟩ (jC.of rfl k_X9_blame rfl ?_)
        show jX m_X9_blame 10 0 0 0 [(0, .ref 68)] [] _ 0 0 _
        refine x_aloadn (x := 68) rfl rfl ?_
        refine x_aloadn (x := 68) rfl rfl ?_
        refine z_getM (N := 6) (v := u3) 9 3 rfl f_9_22 rfl J rfl (jmc S9 rfl (jmc S6 rfl qu3)) ?_
        refine z_putI (N := 6) (w := u3.toInt) 9 2 rfl f_9_19 rfl (jfin_no TX9 RX9 6 rfl rfl) hD J Sm rfl rfl rfl (pw_68_2 (by omega)) rfl (fun h w16 J Sm => ?_)
        refine x_iconst (v := 0) rfl ki_0 ?_
        refine x_zret rfl rfl (by decide) ?_
        show jX m_X2_readFactor 11 0 0 102 [(3, .int v10), (2, .int v7), (0, .ref 95), (1, .int 5)] [.int 0] _ 0 0 _
        refine x_goto (tgt := 111) rfl rfl ?_
        exact jX.sub jsb_n (ct_X2_readFactor_r95_c5_200111 hD hQ  u3 u2 h (jr_of rfl (by omega)) (jr_of rfl (by omega)) (by omega) (jmo w16 rfl (jmc S9 rfl (jmc S6 rfl qu3))) (jmo w16 rfl (jmc S9 rfl (jmc S6 rfl qu2))) J Sm)
    ·
      refine x_aloadn (x := 95) rfl rfl ?_
      refine x_iconst (v := 1) rfl ki_1 ?_
      refine x_iloadn (x := v7) rfl rfl ?_
      refine x_inv (N := m_X2_readPart) (As := [.int 1, .int v7]) (b := 95) (st := []) (dx9 := 3) (mc := 0) (ms := 0) (host := "") 2 rfl t_X2_readPart ⟨Or.inl q_2_141, i_X2_readPart.1, i_X2_readPart.2⟩ ⟨by decide, rfl⟩ (congrArg Prod.fst (J.1.1 95 (2, 6) rfl)) rfl (by decide) rfl rfl ⟨by decide, by decide⟩ (sf_X2_readPart_r95 (jr_of jk_1 (by omega)) hD J (jmc S6 rfl qu2) (jmc S6 rfl qu3) (by omega)  (fun v20 h ev20 J S17 u18 u19 qu18 qu19 ru18 => ?_))
      have Sm := jSm_tr rfl Sm S17
      have eu18 := (show 0 ≤ u18.toInt ∧ u18.toInt ≤ 3 from qu18 ▸ jrg_f J sg_68_5_6_1_0_1)
      have eu19 := (show 0 ≤ u19.toInt ∧ u19.toInt ≤ 400 from qu19 ▸ jrg_f J sg_68_3_4_1_0_1)
      show jX m_X2_readFactor 11 0 0 79 [(2, .int v7), (0, .ref 95), (1, .int 5)] [.int v20] _ 0 0 _
      refine x_zret rfl rfl (jz01 (by omega)) ?_
      exact hQ _ _ (jr_of rfl (by omega)) J Sm _ _ qu18 qu19 (by omega)
  ·
    refine x_iloadn (x := 5) rfl rfl ?_
    refine x_bipush (v := 8) rfl kb_8 ?_
    refine x_iclt (tgt := 26) rfl rfl (ti_lt jk_5 jk_8 (br_t (by omega) ?_))
    refine x_aloadn (x := 95) rfl rfl ?_
    refine z_getR (N := 6) (b := 68) 2 0 rfl f_2_30 rfl J rfl 12160 ⟨rfl, rfl⟩ rfl ?_
    refine x_inv (N := m_X9_step) (As := []) (b := 68) (st := []) (dx9 := 2) (mc := 0) (ms := 0) (host := "") 9 rfl t_X9_step ⟨Or.inl q_2_62, i_X9_step.1, i_X9_step.2⟩ ⟨by decide, rfl⟩ (congrArg Prod.fst (J.1.1 68 (9, 6) rfl)) rfl (by decide) rfl rfl ⟨by decide, by decide⟩ (sf_X9_step_r68  hD J qu2 qu3 (by omega)  (fun h J S21 u22 u23 qu22 qu23 ru22 => ?_))
    have Sm := jSm_tr rfl Sm S21
    have eu22 := (show 0 ≤ u22.toInt ∧ u22.toInt ≤ 3 from qu22 ▸ jrg_f J sg_68_5_6_1_0_1)
    have eu23 := (show 0 ≤ u23.toInt ∧ u23.toInt ≤ 400 from qu23 ▸ jrg_f J sg_68_3_4_1_0_1)
    show jX m_X2_readFactor 11 0 0 33 [(0, .ref 95), (1, .int 5)] [] _ 0 0 _
    refine x_aloadn (x := 95) rfl rfl ?_
    refine x_iloadn (x := 5) rfl rfl ?_
    refine x_iconst (v := 1) rfl ki_1 ?_
    refine y_iadd (v := 6) rfl (by decide) ?_
    refine x_inv (N := m_X2_readSum) (As := [.int 6]) (b := 95) (st := []) (dx9 := 10) (mc := 0) (ms := 0) (host := "") 2 rfl t_X2_readSum ⟨Or.inl q_2_86, i_X2_readSum.1, i_X2_readSum.2⟩ ⟨by decide, rfl⟩ (congrArg Prod.fst (J.1.1 95 (2, 6) rfl)) rfl (by decide) rfl rfl ⟨by decide, by decide⟩ (sf_X2_readSum_r95_c6  hD J qu22 qu23 (by omega)  (fun v27 h ev27 J S24 u25 u26 qu25 qu26 ru25 => ?_))
    have Sm := jSm_tr rfl Sm S24
    have eu25 := (show 0 ≤ u25.toInt ∧ u25.toInt ≤ 3 from qu25 ▸ jrg_f J sg_68_5_6_1_0_1)
    have eu26 := (show 0 ≤ u26.toInt ∧ u26.toInt ≤ 400 from qu26 ▸ jrg_f J sg_68_3_4_1_0_1)
    show jX m_X2_readFactor 11 0 0 40 [(0, .ref 95), (1, .int 5)] [.int v27] _ 0 0 _
    refine x_ifeq (tgt := 56) rfl rfl (ti_eq rfl jk_0 ⟨fun c28 => ?_, fun c28 => ?_⟩)
    ·
      exact jX.sub jsb_n (ct_X2_readFactor_r95_c5_56 hD hQ  u26 u25 h (jr_of rfl (by omega)) (jr_of rfl (by omega)) (by omega) qu26 qu25 J Sm)
    ·
      refine x_aloadn (x := 95) rfl rfl ?_
      refine x_bipush (v := 93) rfl kb_93 ?_
      refine x_inv (N := m_X2_readSign) (As := [.int 93]) (b := 95) (st := []) (dx9 := 10) (mc := 0) (ms := 0) (host := "") 2 rfl t_X2_readSign ⟨Or.inl q_2_138, i_X2_readSign.1, i_X2_readSign.2⟩ ⟨by decide, rfl⟩ (congrArg Prod.fst (J.1.1 95 (2, 6) rfl)) rfl (by decide) rfl rfl ⟨by decide, by decide⟩ (jC.of rfl k_X2_readSign rfl ?_)
      show jX m_X2_readSign 10 0 0 0 [(0, .ref 95), (1, .int 93)] [] _ 0 0 _
      refine x_aloadn (x := 95) rfl rfl ?_
      refine z_getR (N := 6) (b := 68) 2 0 rfl f_2_30 rfl J rfl 12160 ⟨rfl, rfl⟩ rfl ?_
      refine x_iloadn (x := 93) rfl rfl ?_
      refine x_inv (N := m_X9_isSign) (As := [.int 93]) (b := 68) (st := []) (dx9 := 1) (mc := 0) (ms := 0) (host := "") 9 rfl t_X9_isSign ⟨Or.inl q_2_55, i_X9_isSign.1, i_X9_isSign.2⟩ ⟨by decide, rfl⟩ (congrArg Prod.fst (J.1.1 68 (9, 6) rfl)) rfl (by decide) rfl rfl ⟨by decide, by decide⟩ (sf_X9_isSign_r68 (jr_of jk_93 (by omega)) hD J qu25 qu26 (by omega)  (fun v32 h ev32 J S29 u30 u31 qu30 qu31 ru30 => ?_))
      have Sm := jSm_tr rfl Sm S29
      have eu30 := (show 0 ≤ u30.toInt ∧ u30.toInt ≤ 3 from qu30 ▸ jrg_f J sg_68_5_6_1_0_1)
      have eu31 := (show 0 ≤ u31.toInt ∧ u31.toInt ≤ 400 from qu31 ▸ jrg_f J sg_68_3_4_1_0_1)
      show jX m_X2_readSign 10 0 0 8 [(0, .ref 95), (1, .int 93)] [.int v32] _ 0 0 _
      refine x_ifne (tgt := 19) rfl rfl (ti_ne rfl jk_0 ⟨fun c33 => ?_, fun c33 => ?_⟩)
      ·
        refine x_aloadn (x := 95) rfl rfl ?_
        refine z_getR (N := 6) (b := 68) 2 0 rfl f_2_30 rfl J rfl 12160 ⟨rfl, rfl⟩ rfl ?_
        refine x_inv (N := m_X9_step) (As := []) (b := 68) (st := []) (dx9 := 2) (mc := 0) (ms := 0) (host := "") 9 rfl t_X9_step ⟨Or.inl q_2_62, i_X9_step.1, i_X9_step.2⟩ ⟨by decide, rfl⟩ (congrArg Prod.fst (J.1.1 68 (9, 6) rfl)) rfl (by decide) rfl rfl ⟨by decide, by decide⟩ (sf_X9_step_r68  hD J qu30 qu31 (by omega)  (fun h J S34 u35 u36 qu35 qu36 ru35 => ?_))
        have Sm := jSm_tr rfl Sm S34
        have eu35 := (show 0 ≤ u35.toInt ∧ u35.toInt ≤ 3 from qu35 ▸ jrg_f J sg_68_5_6_1_0_1)
        have eu36 := (show 0 ≤ u36.toInt ∧ u36.toInt ≤ 400 from qu36 ▸ jrg_f J sg_68_3_4_1_0_1)
        show jX m_X2_readSign 10 0 0 26 [(0, .ref 95), (1, .int 93)] [] _ 0 0 _
        refine x_iconst (v := 1) rfl ki_1 ?_
        refine x_zret rfl rfl (by decide) ?_
        show jX m_X2_readFactor 11 0 0 49 [(0, .ref 95), (1, .int 5)] [.int 1] _ 0 0 _
        refine x_ifeq (tgt := 56) rfl rfl (ti_eq jk_1 jk_0 (br_f (by omega) ?_))
        refine x_iconst (v := 1) rfl ki_1 ?_
        refine x_goto (tgt := 57) rfl rfl ?_
        exact jX.sub jsb_n (ct_X2_readFactor_r95_c5_300057 hD hQ  u36 u35 h (jr_of rfl (by omega)) (jr_of rfl (by omega)) (by omega) qu36 qu35 J Sm)
      ·
        refine x_aloadn (x := 95) rfl rfl ?_
        refine z_getR (N := 6) (b := 68) 2 0 rfl f_2_30 rfl J rfl 12160 ⟨rfl, rfl⟩ rfl ?_
        refine x_inv (N := m_X9_blame) (As := []) (b := 68) (st := []) (dx9 := 9) (mc := 0) (ms := 0) (host := "") 9 rfl t_X9_blame ⟨Or.inl q_2_59, i_X9_blame.1, i_X9_blame.2⟩ ⟨by decide, rfl⟩ (congrArg Prod.fst (J.1.1 68 (9, 6) rfl)) rfl (by decide) rfl rfl ⟨by decide, by decide⟩ (jC.of rfl k_X9_blame rfl ?_)
        show jX m_X9_blame 9 0 0 0 [(0, .ref 68)] [] _ 0 0 _
        refine x_aloadn (x := 68) rfl rfl ?_
        refine x_aloadn (x := 68) rfl rfl ?_
        refine z_getM (N := 6) (v := u31) 9 3 rfl f_9_22 rfl J rfl qu31 ?_
        refine z_putI (N := 6) (w := u31.toInt) 9 2 rfl f_9_19 rfl (jfin_no TX9 RX9 6 rfl rfl) hD J Sm rfl rfl rfl (pw_68_2 (by omega)) rfl (fun h w37 J Sm => ?_)
        refine x_iconst (v := 0) rfl ki_0 ?_
        refine x_zret rfl rfl (by decide) ?_
        show jX m_X2_readSign 10 0 0 18 [(0, .ref 95), (1, .int 93)] [.int 0] _ 0 0 _
        refine x_zret rfl rfl (by decide) ?_
        show jX m_X2_readFactor 11 0 0 49 [(0, .ref 95), (1, .int 5)] [.int 0] _ 0 0 _
        refine x_ifeq (tgt := 56) rfl rfl (ti_eq jk_0 jk_0 (br_t (by omega) ?_))
        exact jX.sub jsb_n (ct_X2_readFactor_r95_c5_56 hD hQ  u31 u30 h (jr_of rfl (by omega)) (jr_of rfl (by omega)) (by omega) (jmo w37 rfl qu31) (jmo w37 rfl qu30) J Sm)
def fp_X2_readSum_r95_c5 : jFp := [(68, 2, 3), (68, 3, 4), (68, 4, 5), (68, 5, 6), (95, 4, 5), (95, 5, 6), (97, 0, 1200)]
set_option maxRecDepth 100000 in
set_option maxHeartbeats 4000000 in
theorem ct_X2_readSum_r95_c5_100148 {Dy : jH → Prop} {h0 : jH} {Q : Option Value → jH → Prop} {R4 : Int} (hD : jDk Dy) (hQ : ∀ (v : Int32) hx9, 0 ≤ v.toInt ∧ v.toInt ≤ 1 → jJ jSgX Dy hx9 → jSm fp_X2_readSum_r95_c5 h0 hx9 → ∀ u0 u1 : Int32, jiv hx9 68 5 = u0 → jiv hx9 68 3 = u1 → (u0.toInt ≠ 3 ∨ u1.toInt ≤ 399) → Q (some (.int v)) hx9) (k4 : ∀ (l2 : Int32) (l3 : Int32) (g0 : Int32) (g1 : Int32) (h : jH), 400 - l3.toInt < R4 → (-1) ≤ l2.toInt ∧ l2.toInt ≤ 4 → 0 ≤ l3.toInt ∧ l3.toInt ≤ 400 → 0 ≤ g0.toInt ∧ g0.toInt ≤ 400 → 0 ≤ g1.toInt ∧ g1.toInt ≤ 3 → (g1.toInt ≠ 3 ∨ g0.toInt ≤ 399) → jiv h 68 3 = g0 → jiv h 68 5 = g1 → jJ jSgX Dy h → jSm fp_X2_readSum_r95_c5 h0 h → jX m_X2_readSum 12 0 0 4 [(0, .ref 95), (1, .int 5), (2, .int l2), (3, .int l3)] [] h 0 0 Q) : ∀ (l3 : Int32) (g0 : Int32) (g1 : Int32) (h : jH), 0 ≤ l3.toInt ∧ l3.toInt ≤ 399 → 0 ≤ g0.toInt ∧ g0.toInt ≤ 400 → 0 ≤ g1.toInt ∧ g1.toInt ≤ 3 → (g1.toInt ≠ 3 ∨ g0.toInt ≤ 399) → jiv h 68 3 = g0 → jiv h 68 5 = g1 → 400 - l3.toInt ≤ R4 → jJ jSgX Dy h → jSm fp_X2_readSum_r95_c5 h0 h → jX m_X2_readSum 12 0 0 148 [(0, .ref 95), (1, .int 5), (3, .int l3)] [.int (-1)] h 0 0 Q := by
  intro l3 g0 g1 h y0 y1 y2 y3 z0 z1 m4 J Sm
  refine x_istoren (lsx9 := [(2, .int (-1)), (0, .ref 95), (1, .int 5), (3, .int l3)]) rfl rfl rfl ?_
  refine x_iloadn (x := (-1)) rfl rfl ?_
  refine x_iconst (v := (-1)) rfl ki_m1 ?_
  refine x_icne (tgt := 156) rfl rfl (ti_ne jk_m1 jk_m1 (bn_f (by omega) ?_))
  refine x_iconst (v := 1) rfl ki_1 ?_
  refine x_zret rfl rfl (by decide) ?_
  exact hQ _ _ (jr_of jk_1 (by omega)) J Sm _ _ z1 z0 (by omega)
set_option maxRecDepth 100000 in
set_option maxHeartbeats 4000000 in
theorem ct_X2_readSum_r95_c5_600148 {Dy : jH → Prop} {h0 : jH} {Q : Option Value → jH → Prop} {R4 : Int} (hD : jDk Dy) (hQ : ∀ (v : Int32) hx9, 0 ≤ v.toInt ∧ v.toInt ≤ 1 → jJ jSgX Dy hx9 → jSm fp_X2_readSum_r95_c5 h0 hx9 → ∀ u0 u1 : Int32, jiv hx9 68 5 = u0 → jiv hx9 68 3 = u1 → (u0.toInt ≠ 3 ∨ u1.toInt ≤ 399) → Q (some (.int v)) hx9) (k4 : ∀ (l2 : Int32) (l3 : Int32) (g0 : Int32) (g1 : Int32) (h : jH), 400 - l3.toInt < R4 → (-1) ≤ l2.toInt ∧ l2.toInt ≤ 4 → 0 ≤ l3.toInt ∧ l3.toInt ≤ 400 → 0 ≤ g0.toInt ∧ g0.toInt ≤ 400 → 0 ≤ g1.toInt ∧ g1.toInt ≤ 3 → (g1.toInt ≠ 3 ∨ g0.toInt ≤ 399) → jiv h 68 3 = g0 → jiv h 68 5 = g1 → jJ jSgX Dy h → jSm fp_X2_readSum_r95_c5 h0 h → jX m_X2_readSum 12 0 0 4 [(0, .ref 95), (1, .int 5), (2, .int l2), (3, .int l3)] [] h 0 0 Q) : ∀ (l3 : Int32) (g0 : Int32) (g1 : Int32) (h : jH), 0 ≤ l3.toInt ∧ l3.toInt ≤ 399 → 0 ≤ g0.toInt ∧ g0.toInt ≤ 400 → 0 ≤ g1.toInt ∧ g1.toInt ≤ 3 → (g1.toInt ≠ 3 ∨ g0.toInt ≤ 399) → jiv h 68 3 = g0 → jiv h 68 5 = g1 → 400 - l3.toInt ≤ R4 → jJ jSgX Dy h → jSm fp_X2_readSum_r95_c5 h0 h → jX m_X2_readSum 12 0 0 148 [(0, .ref 95), (1, .int 5), (3, .int l3)] [.int 4] h 0 0 Q := by
  intro l3 g0 g1 h y0 y1 y2 y3 z0 z1 m4 J Sm
  refine x_istoren (lsx9 := [(2, .int 4), (0, .ref 95), (1, .int 5), (3, .int l3)]) rfl rfl rfl ?_
  refine x_iloadn (x := 4) rfl rfl ?_
  refine x_iconst (v := (-1)) rfl ki_m1 ?_
  refine x_icne (tgt := 156) rfl rfl (ti_ne jk_4 jk_m1 (bn_t (by omega) ?_))
  refine x_aloadn (x := 95) rfl rfl ?_
  refine z_getR (N := 6) (b := 68) 2 0 rfl f_2_30 rfl J rfl 12160 ⟨rfl, rfl⟩ rfl ?_
  refine x_inv (N := m_X9_step) (As := []) (b := 68) (st := []) (dx9 := 2) (mc := 0) (ms := 0) (host := "") 9 rfl t_X9_step ⟨Or.inl q_2_62, i_X9_step.1, i_X9_step.2⟩ ⟨by decide, rfl⟩ (congrArg Prod.fst (J.1.1 68 (9, 6) rfl)) rfl (by decide) rfl rfl ⟨by decide, by decide⟩ (sf_X9_step_r68  hD J z1 z0 (by omega)  (fun h J S1 u2 u3 qu2 qu3 ru2 => ?_))
  have Sm := jSm_tr rfl Sm S1
  have eu2 := (show 0 ≤ u2.toInt ∧ u2.toInt ≤ 3 from qu2 ▸ jrg_f J sg_68_5_6_1_0_1)
  have eu3 := (show 0 ≤ u3.toInt ∧ u3.toInt ≤ 400 from qu3 ▸ jrg_f J sg_68_3_4_1_0_1)
  show jX m_X2_readSum 12 0 0 163 [(2, .int 4), (0, .ref 95), (1, .int 5), (3, .int l3)] [] _ 0 0 _
  refine z_iinc (x := l3) (lsx9 := fun v4 => [(3, .int v4), (2, .int 4), (0, .ref 95), (1, .int 5)]) rfl rfl rfl jko_1 (by omega) rfl (fun _ => rfl) (fun v4 ev4 => ?_)
  refine x_goto (tgt := 4) rfl rfl ?_
  exact jX.sub (jsb_c rfl (jsb_c rfl (jsb_c rfl (jsb_c rfl jsb_n)))) (k4 4 v4 u3 u2 h (by omega) (jr_of jk_4 (by omega)) (jr_of rfl (by omega)) (jr_of rfl (by omega)) (jr_of rfl (by omega)) (by omega) qu3 qu2 J Sm)
set_option maxRecDepth 100000 in
set_option maxHeartbeats 4000000 in
theorem ct_X2_readSum_r95_c5_500148 {Dy : jH → Prop} {h0 : jH} {Q : Option Value → jH → Prop} {R4 : Int} (hD : jDk Dy) (hQ : ∀ (v : Int32) hx9, 0 ≤ v.toInt ∧ v.toInt ≤ 1 → jJ jSgX Dy hx9 → jSm fp_X2_readSum_r95_c5 h0 hx9 → ∀ u0 u1 : Int32, jiv hx9 68 5 = u0 → jiv hx9 68 3 = u1 → (u0.toInt ≠ 3 ∨ u1.toInt ≤ 399) → Q (some (.int v)) hx9) (k4 : ∀ (l2 : Int32) (l3 : Int32) (g0 : Int32) (g1 : Int32) (h : jH), 400 - l3.toInt < R4 → (-1) ≤ l2.toInt ∧ l2.toInt ≤ 4 → 0 ≤ l3.toInt ∧ l3.toInt ≤ 400 → 0 ≤ g0.toInt ∧ g0.toInt ≤ 400 → 0 ≤ g1.toInt ∧ g1.toInt ≤ 3 → (g1.toInt ≠ 3 ∨ g0.toInt ≤ 399) → jiv h 68 3 = g0 → jiv h 68 5 = g1 → jJ jSgX Dy h → jSm fp_X2_readSum_r95_c5 h0 h → jX m_X2_readSum 12 0 0 4 [(0, .ref 95), (1, .int 5), (2, .int l2), (3, .int l3)] [] h 0 0 Q) : ∀ (l3 : Int32) (g0 : Int32) (g1 : Int32) (h : jH), 0 ≤ l3.toInt ∧ l3.toInt ≤ 399 → 0 ≤ g0.toInt ∧ g0.toInt ≤ 400 → 0 ≤ g1.toInt ∧ g1.toInt ≤ 3 → (g1.toInt ≠ 3 ∨ g0.toInt ≤ 399) → jiv h 68 3 = g0 → jiv h 68 5 = g1 → 400 - l3.toInt ≤ R4 → jJ jSgX Dy h → jSm fp_X2_readSum_r95_c5 h0 h → jX m_X2_readSum 12 0 0 148 [(0, .ref 95), (1, .int 5), (3, .int l3)] [.int 3] h 0 0 Q := by
  intro l3 g0 g1 h y0 y1 y2 y3 z0 z1 m4 J Sm
  refine x_istoren (lsx9 := [(2, .int 3), (0, .ref 95), (1, .int 5), (3, .int l3)]) rfl rfl rfl ?_
  refine x_iloadn (x := 3) rfl rfl ?_
  refine x_iconst (v := (-1)) rfl ki_m1 ?_
  refine x_icne (tgt := 156) rfl rfl (ti_ne jk_3 jk_m1 (bn_t (by omega) ?_))
  refine x_aloadn (x := 95) rfl rfl ?_
  refine z_getR (N := 6) (b := 68) 2 0 rfl f_2_30 rfl J rfl 12160 ⟨rfl, rfl⟩ rfl ?_
  refine x_inv (N := m_X9_step) (As := []) (b := 68) (st := []) (dx9 := 2) (mc := 0) (ms := 0) (host := "") 9 rfl t_X9_step ⟨Or.inl q_2_62, i_X9_step.1, i_X9_step.2⟩ ⟨by decide, rfl⟩ (congrArg Prod.fst (J.1.1 68 (9, 6) rfl)) rfl (by decide) rfl rfl ⟨by decide, by decide⟩ (sf_X9_step_r68  hD J z1 z0 (by omega)  (fun h J S1 u2 u3 qu2 qu3 ru2 => ?_))
  have Sm := jSm_tr rfl Sm S1
  have eu2 := (show 0 ≤ u2.toInt ∧ u2.toInt ≤ 3 from qu2 ▸ jrg_f J sg_68_5_6_1_0_1)
  have eu3 := (show 0 ≤ u3.toInt ∧ u3.toInt ≤ 400 from qu3 ▸ jrg_f J sg_68_3_4_1_0_1)
  show jX m_X2_readSum 12 0 0 163 [(2, .int 3), (0, .ref 95), (1, .int 5), (3, .int l3)] [] _ 0 0 _
  refine z_iinc (x := l3) (lsx9 := fun v4 => [(3, .int v4), (2, .int 3), (0, .ref 95), (1, .int 5)]) rfl rfl rfl jko_1 (by omega) rfl (fun _ => rfl) (fun v4 ev4 => ?_)
  refine x_goto (tgt := 4) rfl rfl ?_
  exact jX.sub (jsb_c rfl (jsb_c rfl (jsb_c rfl (jsb_c rfl jsb_n)))) (k4 3 v4 u3 u2 h (by omega) (jr_of jk_3 (by omega)) (jr_of rfl (by omega)) (jr_of rfl (by omega)) (jr_of rfl (by omega)) (by omega) qu3 qu2 J Sm)
set_option maxRecDepth 100000 in
set_option maxHeartbeats 4000000 in
theorem ct_X2_readSum_r95_c5_115 {Dy : jH → Prop} {h0 : jH} {Q : Option Value → jH → Prop} {R4 : Int} (hD : jDk Dy) (hQ : ∀ (v : Int32) hx9, 0 ≤ v.toInt ∧ v.toInt ≤ 1 → jJ jSgX Dy hx9 → jSm fp_X2_readSum_r95_c5 h0 hx9 → ∀ u0 u1 : Int32, jiv hx9 68 5 = u0 → jiv hx9 68 3 = u1 → (u0.toInt ≠ 3 ∨ u1.toInt ≤ 399) → Q (some (.int v)) hx9) (k4 : ∀ (l2 : Int32) (l3 : Int32) (g0 : Int32) (g1 : Int32) (h : jH), 400 - l3.toInt < R4 → (-1) ≤ l2.toInt ∧ l2.toInt ≤ 4 → 0 ≤ l3.toInt ∧ l3.toInt ≤ 400 → 0 ≤ g0.toInt ∧ g0.toInt ≤ 400 → 0 ≤ g1.toInt ∧ g1.toInt ≤ 3 → (g1.toInt ≠ 3 ∨ g0.toInt ≤ 399) → jiv h 68 3 = g0 → jiv h 68 5 = g1 → jJ jSgX Dy h → jSm fp_X2_readSum_r95_c5 h0 h → jX m_X2_readSum 12 0 0 4 [(0, .ref 95), (1, .int 5), (2, .int l2), (3, .int l3)] [] h 0 0 Q) : ∀ (l3 : Int32) (g0 : Int32) (g1 : Int32) (h : jH), 0 ≤ l3.toInt ∧ l3.toInt ≤ 399 → 0 ≤ g0.toInt ∧ g0.toInt ≤ 400 → 0 ≤ g1.toInt ∧ g1.toInt ≤ 3 → (g1.toInt ≠ 3 ∨ g0.toInt ≤ 399) → jiv h 68 3 = g0 → jiv h 68 5 = g1 → 400 - l3.toInt ≤ R4 → jJ jSgX Dy h → jSm fp_X2_readSum_r95_c5 h0 h → jX m_X2_readSum 12 0 0 115 [(0, .ref 95), (1, .int 5), (3, .int l3)] [] h 0 0 Q := by
  intro l3 g0 g1 h y0 y1 y2 y3 z0 z1 m4 J Sm
  refine x_aloadn (x := 95) rfl rfl ?_
  refine z_getR (N := 6) (b := 68) 2 0 rfl f_2_30 rfl J rfl 12160 ⟨rfl, rfl⟩ rfl ?_
  refine x_bipush (v := 43) rfl kb_43 ?_
  refine x_inv (N := m_X9_isSign) (As := [.int 43]) (b := 68) (st := []) (dx9 := 1) (mc := 0) (ms := 0) (host := "") 9 rfl t_X9_isSign ⟨Or.inl q_2_55, i_X9_isSign.1, i_X9_isSign.2⟩ ⟨by decide, rfl⟩ (congrArg Prod.fst (J.1.1 68 (9, 6) rfl)) rfl (by decide) rfl rfl ⟨by decide, by decide⟩ (sf_X9_isSign_r68 (jr_of jk_43 (by omega)) hD J z1 z0 (by omega)  (fun v4 h ev4 J S1 u2 u3 qu2 qu3 ru2 => ?_))
  have Sm := jSm_tr rfl Sm S1
  have eu2 := (show 0 ≤ u2.toInt ∧ u2.toInt ≤ 3 from qu2 ▸ jrg_f J sg_68_5_6_1_0_1)
  have eu3 := (show 0 ≤ u3.toInt ∧ u3.toInt ≤ 400 from qu3 ▸ jrg_f J sg_68_3_4_1_0_1)
  show jX m_X2_readSum 12 0 0 124 [(0, .ref 95), (1, .int 5), (3, .int l3)] [.int v4] _ 0 0 _
  refine x_ifeq (tgt := 131) rfl rfl (ti_eq rfl jk_0 ⟨fun c5 => ?_, fun c5 => ?_⟩)
  ·
    refine x_aloadn (x := 95) rfl rfl ?_
    refine z_getR (N := 6) (b := 68) 2 0 rfl f_2_30 rfl J rfl 12160 ⟨rfl, rfl⟩ rfl ?_
    refine x_bipush (v := 45) rfl kb_45 ?_
    refine x_inv (N := m_X9_isSign) (As := [.int 45]) (b := 68) (st := []) (dx9 := 1) (mc := 0) (ms := 0) (host := "") 9 rfl t_X9_isSign ⟨Or.inl q_2_55, i_X9_isSign.1, i_X9_isSign.2⟩ ⟨by decide, rfl⟩ (congrArg Prod.fst (J.1.1 68 (9, 6) rfl)) rfl (by decide) rfl rfl ⟨by decide, by decide⟩ (sf_X9_isSign_r68 (jr_of jk_45 (by omega)) hD J qu2 qu3 (by omega)  (fun v9 h ev9 J S6 u7 u8 qu7 qu8 ru7 => ?_))
    have Sm := jSm_tr rfl Sm S6
    have eu7 := (show 0 ≤ u7.toInt ∧ u7.toInt ≤ 3 from qu7 ▸ jrg_f J sg_68_5_6_1_0_1)
    have eu8 := (show 0 ≤ u8.toInt ∧ u8.toInt ≤ 400 from qu8 ▸ jrg_f J sg_68_3_4_1_0_1)
    show jX m_X2_readSum 12 0 0 140 [(0, .ref 95), (1, .int 5), (3, .int l3)] [.int v9] _ 0 0 _
    refine x_ifeq (tgt := 147) rfl rfl (ti_eq rfl jk_0 ⟨fun c10 => ?_, fun c10 => ?_⟩)
    ·
      refine x_iconst (v := (-1)) rfl ki_m1 ?_
      exact jX.sub (jsb_c rfl (jsb_c rfl (jsb_c rfl jsb_n))) (ct_X2_readSum_r95_c5_100148 hD hQ k4 l3 u8 u7 h (jr_of rfl (by omega)) (jr_of rfl (by omega)) (jr_of rfl (by omega)) (by omega) qu8 qu7 (by omega) J Sm)
    ·
      refine x_iconst (v := 4) rfl ki_4 ?_
      refine x_goto (tgt := 148) rfl rfl ?_
      exact jX.sub (jsb_c rfl (jsb_c rfl (jsb_c rfl jsb_n))) (ct_X2_readSum_r95_c5_600148 hD hQ k4 l3 u8 u7 h (jr_of rfl (by omega)) (jr_of rfl (by omega)) (jr_of rfl (by omega)) (by omega) qu8 qu7 (by omega) J Sm)
  ·
    refine x_iconst (v := 3) rfl ki_3 ?_
    refine x_goto (tgt := 148) rfl rfl ?_
    exact jX.sub (jsb_c rfl (jsb_c rfl (jsb_c rfl jsb_n))) (ct_X2_readSum_r95_c5_500148 hD hQ k4 l3 u3 u2 h (jr_of rfl (by omega)) (jr_of rfl (by omega)) (jr_of rfl (by omega)) (by omega) qu3 qu2 (by omega) J Sm)
set_option maxRecDepth 100000 in
set_option maxHeartbeats 4000000 in
theorem ct_X2_readSum_r95_c5_105 {Dy : jH → Prop} {h0 : jH} {Q : Option Value → jH → Prop} {R4 : Int} (hD : jDk Dy) (hQ : ∀ (v : Int32) hx9, 0 ≤ v.toInt ∧ v.toInt ≤ 1 → jJ jSgX Dy hx9 → jSm fp_X2_readSum_r95_c5 h0 hx9 → ∀ u0 u1 : Int32, jiv hx9 68 5 = u0 → jiv hx9 68 3 = u1 → (u0.toInt ≠ 3 ∨ u1.toInt ≤ 399) → Q (some (.int v)) hx9) (k4 : ∀ (l2 : Int32) (l3 : Int32) (g0 : Int32) (g1 : Int32) (h : jH), 400 - l3.toInt < R4 → (-1) ≤ l2.toInt ∧ l2.toInt ≤ 4 → 0 ≤ l3.toInt ∧ l3.toInt ≤ 400 → 0 ≤ g0.toInt ∧ g0.toInt ≤ 400 → 0 ≤ g1.toInt ∧ g1.toInt ≤ 3 → (g1.toInt ≠ 3 ∨ g0.toInt ≤ 399) → jiv h 68 3 = g0 → jiv h 68 5 = g1 → jJ jSgX Dy h → jSm fp_X2_readSum_r95_c5 h0 h → jX m_X2_readSum 12 0 0 4 [(0, .ref 95), (1, .int 5), (2, .int l2), (3, .int l3)] [] h 0 0 Q) : ∀ (l2 : Int32) (l3 : Int32) (g0 : Int32) (g1 : Int32) (h : jH), (-1) ≤ l2.toInt ∧ l2.toInt ≤ 4 → 0 ≤ l3.toInt ∧ l3.toInt ≤ 399 → 0 ≤ g0.toInt ∧ g0.toInt ≤ 400 → 0 ≤ g1.toInt ∧ g1.toInt ≤ 3 → (g1.toInt ≠ 3 ∨ g0.toInt ≤ 399) → jiv h 68 3 = g0 → jiv h 68 5 = g1 → 400 - l3.toInt ≤ R4 → jJ jSgX Dy h → jSm fp_X2_readSum_r95_c5 h0 h → jX m_X2_readSum 12 0 0 105 [(0, .ref 95), (1, .int 5), (2, .int l2), (3, .int l3)] [] h 0 0 Q := by
  intro l2 l3 g0 g1 h y0 y1 y2 y3 y4 z0 z1 m4 J Sm
  refine x_iloadn (x := l2) rfl rfl ?_
  refine x_iconst (v := (-1)) rfl ki_m1 ?_
  refine x_iceq (tgt := 115) rfl rfl (ti_eq rfl jk_m1 ⟨fun c1 => ?_, fun c1 => ?_⟩)
  ·
    exact jX.sub (jsb_c rfl (jsb_c rfl (jsb_c rfl jsb_n))) (ct_X2_readSum_r95_c5_115 hD hQ k4 l3 g0 g1 h (jr_of rfl (by omega)) (jr_of rfl (by omega)) (jr_of rfl (by omega)) (by omega) z0 z1 (by omega) J Sm)
  ·
    refine x_aloadn (x := 95) rfl rfl ?_
    refine x_iloadn (x := l2) rfl rfl ?_
    refine x_inv (N := m_X2_emit) (As := [.int l2]) (b := 95) (st := []) (dx9 := 1) (mc := 0) (ms := 0) (host := "") 2 rfl t_X2_emit ⟨Or.inl q_2_89, i_X2_emit.1, i_X2_emit.2⟩ ⟨by decide, rfl⟩ (congrArg Prod.fst (J.1.1 95 (2, 6) rfl)) rfl (by decide) rfl rfl ⟨by decide, by decide⟩ (sf_X2_emit_r95  hD J  (fun h J S2 => ?_))
    have Sm := jSm_tr rfl Sm S2
    show jX m_X2_readSum 12 0 0 115 [(0, .ref 95), (1, .int 5), (2, .int l2), (3, .int l3)] [] _ 0 0 _
    exact jX.sub (jsb_c rfl (jsb_c rfl (jsb_c rfl jsb_n))) (ct_X2_readSum_r95_c5_115 hD hQ k4 l3 g0 g1 h (jr_of rfl (by omega)) (jr_of rfl (by omega)) (jr_of rfl (by omega)) (by omega) (jmc S2 rfl z0) (jmc S2 rfl z1) (by omega) J Sm)
set_option maxRecDepth 100000 in
set_option maxHeartbeats 4000000 in
theorem ct_X2_readSum_r95_c5_100081 {Dy : jH → Prop} {h0 : jH} {Q : Option Value → jH → Prop} {R4 : Int} {R17 : Int} (hD : jDk Dy) (hQ : ∀ (v : Int32) hx9, 0 ≤ v.toInt ∧ v.toInt ≤ 1 → jJ jSgX Dy hx9 → jSm fp_X2_readSum_r95_c5 h0 hx9 → ∀ u0 u1 : Int32, jiv hx9 68 5 = u0 → jiv hx9 68 3 = u1 → (u0.toInt ≠ 3 ∨ u1.toInt ≤ 399) → Q (some (.int v)) hx9) (k4 : ∀ (l2 : Int32) (l3 : Int32) (g0 : Int32) (g1 : Int32) (h : jH), 400 - l3.toInt < R4 → (-1) ≤ l2.toInt ∧ l2.toInt ≤ 4 → 0 ≤ l3.toInt ∧ l3.toInt ≤ 400 → 0 ≤ g0.toInt ∧ g0.toInt ≤ 400 → 0 ≤ g1.toInt ∧ g1.toInt ≤ 3 → (g1.toInt ≠ 3 ∨ g0.toInt ≤ 399) → jiv h 68 3 = g0 → jiv h 68 5 = g1 → jJ jSgX Dy h → jSm fp_X2_readSum_r95_c5 h0 h → jX m_X2_readSum 12 0 0 4 [(0, .ref 95), (1, .int 5), (2, .int l2), (3, .int l3)] [] h 0 0 Q) (k17 : ∀ (l2 : Int32) (l3 : Int32) (l4 : Int32) (l5 : Int32) (g0 : Int32) (g1 : Int32) (h : jH), 400 - l5.toInt < R17 → (-1) ≤ l2.toInt ∧ l2.toInt ≤ 4 → 0 ≤ l3.toInt ∧ l3.toInt ≤ 399 → (-1) ≤ l4.toInt ∧ l4.toInt ≤ 6 → 0 ≤ l5.toInt ∧ l5.toInt ≤ 400 → 0 ≤ g0.toInt ∧ g0.toInt ≤ 400 → 0 ≤ g1.toInt ∧ g1.toInt ≤ 3 → (g1.toInt ≠ 3 ∨ g0.toInt ≤ 399) → jiv h 68 3 = g0 → jiv h 68 5 = g1 → 400 - l3.toInt ≤ R4 → jJ jSgX Dy h → jSm fp_X2_readSum_r95_c5 h0 h → jX m_X2_readSum 12 0 0 17 [(0, .ref 95), (1, .int 5), (2, .int l2), (3, .int l3), (4, .int l4), (5, .int l5)] [] h 0 0 Q) : ∀ (l2 : Int32) (l3 : Int32) (l5 : Int32) (g0 : Int32) (g1 : Int32) (h : jH), (-1) ≤ l2.toInt ∧ l2.toInt ≤ 4 → 0 ≤ l3.toInt ∧ l3.toInt ≤ 399 → 0 ≤ l5.toInt ∧ l5.toInt ≤ 399 → 0 ≤ g0.toInt ∧ g0.toInt ≤ 400 → 0 ≤ g1.toInt ∧ g1.toInt ≤ 3 → (g1.toInt ≠ 3 ∨ g0.toInt ≤ 399) → jiv h 68 3 = g0 → jiv h 68 5 = g1 → 400 - l3.toInt ≤ R4 → 400 - l5.toInt ≤ R17 → jJ jSgX Dy h → jSm fp_X2_readSum_r95_c5 h0 h → jX m_X2_readSum 12 0 0 81 [(0, .ref 95), (1, .int 5), (2, .int l2), (3, .int l3), (5, .int l5)] [.int (-1)] h 0 0 Q := by
  intro l2 l3 l5 g0 g1 h y0 y1 y2 y3 y4 y5 z0 z1 m4 m17 J Sm
  refine x_istore (lsx9 := [(4, .int (-1)), (0, .ref 95), (1, .int 5), (2, .int l2), (3, .int l3), (5, .int l5)]) rfl rfl rfl ?_
  refine x_iload (x := (-1)) rfl rfl ?_
  refine x_iconst (v := (-1)) rfl ki_m1 ?_
  refine x_icne (tgt := 92) rfl rfl (ti_ne jk_m1 jk_m1 (bn_f (by omega) ?_))
  refine x_goto (tgt := 105) rfl rfl ?_
  exact jX.sub (jsb_c rfl (jsb_c rfl (jsb_c rfl (jsb_c rfl jsb_n)))) (ct_X2_readSum_r95_c5_105 hD hQ k4 l2 l3 g0 g1 h (jr_of rfl (by omega)) (jr_of rfl (by omega)) (jr_of rfl (by omega)) (jr_of rfl (by omega)) (by omega) z0 z1 (by omega) J Sm)
set_option maxRecDepth 100000 in
set_option maxHeartbeats 4000000 in
theorem ct_X2_readSum_r95_c5_800081 {Dy : jH → Prop} {h0 : jH} {Q : Option Value → jH → Prop} {R4 : Int} {R17 : Int} (hD : jDk Dy) (hQ : ∀ (v : Int32) hx9, 0 ≤ v.toInt ∧ v.toInt ≤ 1 → jJ jSgX Dy hx9 → jSm fp_X2_readSum_r95_c5 h0 hx9 → ∀ u0 u1 : Int32, jiv hx9 68 5 = u0 → jiv hx9 68 3 = u1 → (u0.toInt ≠ 3 ∨ u1.toInt ≤ 399) → Q (some (.int v)) hx9) (k4 : ∀ (l2 : Int32) (l3 : Int32) (g0 : Int32) (g1 : Int32) (h : jH), 400 - l3.toInt < R4 → (-1) ≤ l2.toInt ∧ l2.toInt ≤ 4 → 0 ≤ l3.toInt ∧ l3.toInt ≤ 400 → 0 ≤ g0.toInt ∧ g0.toInt ≤ 400 → 0 ≤ g1.toInt ∧ g1.toInt ≤ 3 → (g1.toInt ≠ 3 ∨ g0.toInt ≤ 399) → jiv h 68 3 = g0 → jiv h 68 5 = g1 → jJ jSgX Dy h → jSm fp_X2_readSum_r95_c5 h0 h → jX m_X2_readSum 12 0 0 4 [(0, .ref 95), (1, .int 5), (2, .int l2), (3, .int l3)] [] h 0 0 Q) (k17 : ∀ (l2 : Int32) (l3 : Int32) (l4 : Int32) (l5 : Int32) (g0 : Int32) (g1 : Int32) (h : jH), 400 - l5.toInt < R17 → (-1) ≤ l2.toInt ∧ l2.toInt ≤ 4 → 0 ≤ l3.toInt ∧ l3.toInt ≤ 399 → (-1) ≤ l4.toInt ∧ l4.toInt ≤ 6 → 0 ≤ l5.toInt ∧ l5.toInt ≤ 400 → 0 ≤ g0.toInt ∧ g0.toInt ≤ 400 → 0 ≤ g1.toInt ∧ g1.toInt ≤ 3 → (g1.toInt ≠ 3 ∨ g0.toInt ≤ 399) → jiv h 68 3 = g0 → jiv h 68 5 = g1 → 400 - l3.toInt ≤ R4 → jJ jSgX Dy h → jSm fp_X2_readSum_r95_c5 h0 h → jX m_X2_readSum 12 0 0 17 [(0, .ref 95), (1, .int 5), (2, .int l2), (3, .int l3), (4, .int l4), (5, .int l5)] [] h 0 0 Q) : ∀ (l2 : Int32) (l3 : Int32) (l5 : Int32) (g0 : Int32) (g1 : Int32) (h : jH), (-1) ≤ l2.toInt ∧ l2.toInt ≤ 4 → 0 ≤ l3.toInt ∧ l3.toInt ≤ 399 → 0 ≤ l5.toInt ∧ l5.toInt ≤ 399 → 0 ≤ g0.toInt ∧ g0.toInt ≤ 400 → 0 ≤ g1.toInt ∧ g1.toInt ≤ 3 → (g1.toInt ≠ 3 ∨ g0.toInt ≤ 399) → jiv h 68 3 = g0 → jiv h 68 5 = g1 → 400 - l3.toInt ≤ R4 → 400 - l5.toInt ≤ R17 → jJ jSgX Dy h → jSm fp_X2_readSum_r95_c5 h0 h → jX m_X2_readSum 12 0 0 81 [(0, .ref 95), (1, .int 5), (2, .int l2), (3, .int l3), (5, .int l5)] [.int 6] h 0 0 Q := by
  intro l2 l3 l5 g0 g1 h y0 y1 y2 y3 y4 y5 z0 z1 m4 m17 J Sm
  refine x_istore (lsx9 := [(4, .int 6), (0, .ref 95), (1, .int 5), (2, .int l2), (3, .int l3), (5, .int l5)]) rfl rfl rfl ?_
  refine x_iload (x := 6) rfl rfl ?_
  refine x_iconst (v := (-1)) rfl ki_m1 ?_
  refine x_icne (tgt := 92) rfl rfl (ti_ne jk_6 jk_m1 (bn_t (by omega) ?_))
  refine x_aloadn (x := 95) rfl rfl ?_
  refine z_getR (N := 6) (b := 68) 2 0 rfl f_2_30 rfl J rfl 12160 ⟨rfl, rfl⟩ rfl ?_
  refine x_inv (N := m_X9_step) (As := []) (b := 68) (st := []) (dx9 := 2) (mc := 0) (ms := 0) (host := "") 9 rfl t_X9_step ⟨Or.inl q_2_62, i_X9_step.1, i_X9_step.2⟩ ⟨by decide, rfl⟩ (congrArg Prod.fst (J.1.1 68 (9, 6) rfl)) rfl (by decide) rfl rfl ⟨by decide, by decide⟩ (sf_X9_step_r68  hD J z1 z0 (by omega)  (fun h J S1 u2 u3 qu2 qu3 ru2 => ?_))
  have Sm := jSm_tr rfl Sm S1
  have eu2 := (show 0 ≤ u2.toInt ∧ u2.toInt ≤ 3 from qu2 ▸ jrg_f J sg_68_5_6_1_0_1)
  have eu3 := (show 0 ≤ u3.toInt ∧ u3.toInt ≤ 400 from qu3 ▸ jrg_f J sg_68_3_4_1_0_1)
  show jX m_X2_readSum 12 0 0 99 [(4, .int 6), (0, .ref 95), (1, .int 5), (2, .int l2), (3, .int l3), (5, .int l5)] [] _ 0 0 _
  refine z_iinc (x := l5) (lsx9 := fun v4 => [(5, .int v4), (4, .int 6), (0, .ref 95), (1, .int 5), (2, .int l2), (3, .int l3)]) rfl rfl rfl jko_1 (by omega) rfl (fun _ => rfl) (fun v4 ev4 => ?_)
  refine x_goto (tgt := 17) rfl rfl ?_
  exact jX.sub (jsb_c rfl (jsb_c rfl (jsb_c rfl (jsb_c rfl (jsb_c rfl (jsb_c rfl jsb_n)))))) (k17 l2 l3 6 v4 u3 u2 h (by omega) (jr_of rfl (by omega)) (jr_of rfl (by omega)) (jr_of jk_6 (by omega)) (jr_of rfl (by omega)) (jr_of rfl (by omega)) (jr_of rfl (by omega)) (by omega) qu3 qu2 (by omega) J Sm)
set_option maxRecDepth 100000 in
set_option maxHeartbeats 4000000 in
theorem ct_X2_readSum_r95_c5_700081 {Dy : jH → Prop} {h0 : jH} {Q : Option Value → jH → Prop} {R4 : Int} {R17 : Int} (hD : jDk Dy) (hQ : ∀ (v : Int32) hx9, 0 ≤ v.toInt ∧ v.toInt ≤ 1 → jJ jSgX Dy hx9 → jSm fp_X2_readSum_r95_c5 h0 hx9 → ∀ u0 u1 : Int32, jiv hx9 68 5 = u0 → jiv hx9 68 3 = u1 → (u0.toInt ≠ 3 ∨ u1.toInt ≤ 399) → Q (some (.int v)) hx9) (k4 : ∀ (l2 : Int32) (l3 : Int32) (g0 : Int32) (g1 : Int32) (h : jH), 400 - l3.toInt < R4 → (-1) ≤ l2.toInt ∧ l2.toInt ≤ 4 → 0 ≤ l3.toInt ∧ l3.toInt ≤ 400 → 0 ≤ g0.toInt ∧ g0.toInt ≤ 400 → 0 ≤ g1.toInt ∧ g1.toInt ≤ 3 → (g1.toInt ≠ 3 ∨ g0.toInt ≤ 399) → jiv h 68 3 = g0 → jiv h 68 5 = g1 → jJ jSgX Dy h → jSm fp_X2_readSum_r95_c5 h0 h → jX m_X2_readSum 12 0 0 4 [(0, .ref 95), (1, .int 5), (2, .int l2), (3, .int l3)] [] h 0 0 Q) (k17 : ∀ (l2 : Int32) (l3 : Int32) (l4 : Int32) (l5 : Int32) (g0 : Int32) (g1 : Int32) (h : jH), 400 - l5.toInt < R17 → (-1) ≤ l2.toInt ∧ l2.toInt ≤ 4 → 0 ≤ l3.toInt ∧ l3.toInt ≤ 399 → (-1) ≤ l4.toInt ∧ l4.toInt ≤ 6 → 0 ≤ l5.toInt ∧ l5.toInt ≤ 400 → 0 ≤ g0.toInt ∧ g0.toInt ≤ 400 → 0 ≤ g1.toInt ∧ g1.toInt ≤ 3 → (g1.toInt ≠ 3 ∨ g0.toInt ≤ 399) → jiv h 68 3 = g0 → jiv h 68 5 = g1 → 400 - l3.toInt ≤ R4 → jJ jSgX Dy h → jSm fp_X2_readSum_r95_c5 h0 h → jX m_X2_readSum 12 0 0 17 [(0, .ref 95), (1, .int 5), (2, .int l2), (3, .int l3), (4, .int l4), (5, .int l5)] [] h 0 0 Q) : ∀ (l2 : Int32) (l3 : Int32) (l5 : Int32) (g0 : Int32) (g1 : Int32) (h : jH), (-1) ≤ l2.toInt ∧ l2.toInt ≤ 4 → 0 ≤ l3.toInt ∧ l3.toInt ≤ 399 → 0 ≤ l5.toInt ∧ l5.toInt ≤ 399 → 0 ≤ g0.toInt ∧ g0.toInt ≤ 400 → 0 ≤ g1.toInt ∧ g1.toInt ≤ 3 → (g1.toInt ≠ 3 ∨ g0.toInt ≤ 399) → jiv h 68 3 = g0 → jiv h 68 5 = g1 → 400 - l3.toInt ≤ R4 → 400 - l5.toInt ≤ R17 → jJ jSgX Dy h → jSm fp_X2_readSum_r95_c5 h0 h → jX m_X2_readSum 12 0 0 81 [(0, .ref 95), (1, .int 5), (2, .int l2), (3, .int l3), (5, .int l5)] [.int 5] h 0 0 Q := by
  intro l2 l3 l5 g0 g1 h y0 y1 y2 y3 y4 y5 z0 z1 m4 m17 J Sm
  refine x_istore (lsx9 := [(4, .int 5), (0, .ref 95), (1, .int 5), (2, .int l2), (3, .int l3), (5, .int l5)]) rfl rfl rfl ?_
  refine x_iload (x := 5) rfl rfl ?_
  refine x_iconst (v := (-1)) rfl ki_m1 ?_
  refine x_icne (tgt := 92) rfl rfl (ti_ne jk_5 jk_m1 (bn_t (by omega) ?_))
  refine x_aloadn (x := 95) rfl rfl ?_
  refine z_getR (N := 6) (b := 68) 2 0 rfl f_2_30 rfl J rfl 12160 ⟨rfl, rfl⟩ rfl ?_
  refine x_inv (N := m_X9_step) (As := []) (b := 68) (st := []) (dx9 := 2) (mc := 0) (ms := 0) (host := "") 9 rfl t_X9_step ⟨Or.inl q_2_62, i_X9_step.1, i_X9_step.2⟩ ⟨by decide, rfl⟩ (congrArg Prod.fst (J.1.1 68 (9, 6) rfl)) rfl (by decide) rfl rfl ⟨by decide, by decide⟩ (sf_X9_step_r68  hD J z1 z0 (by omega)  (fun h J S1 u2 u3 qu2 qu3 ru2 => ?_))
  have Sm := jSm_tr rfl Sm S1
  have eu2 := (show 0 ≤ u2.toInt ∧ u2.toInt ≤ 3 from qu2 ▸ jrg_f J sg_68_5_6_1_0_1)
  have eu3 := (show 0 ≤ u3.toInt ∧ u3.toInt ≤ 400 from qu3 ▸ jrg_f J sg_68_3_4_1_0_1)
  show jX m_X2_readSum 12 0 0 99 [(4, .int 5), (0, .ref 95), (1, .int 5), (2, .int l2), (3, .int l3), (5, .int l5)] [] _ 0 0 _
  refine z_iinc (x := l5) (lsx9 := fun v4 => [(5, .int v4), (4, .int 5), (0, .ref 95), (1, .int 5), (2, .int l2), (3, .int l3)]) rfl rfl rfl jko_1 (by omega) rfl (fun _ => rfl) (fun v4 ev4 => ?_)
  refine x_goto (tgt := 17) rfl rfl ?_
  exact jX.sub (jsb_c rfl (jsb_c rfl (jsb_c rfl (jsb_c rfl (jsb_c rfl (jsb_c rfl jsb_n)))))) (k17 l2 l3 5 v4 u3 u2 h (by omega) (jr_of rfl (by omega)) (jr_of rfl (by omega)) (jr_of jk_5 (by omega)) (jr_of rfl (by omega)) (jr_of rfl (by omega)) (jr_of rfl (by omega)) (by omega) qu3 qu2 (by omega) J Sm)
set_option maxRecDepth 100000 in
set_option maxHeartbeats 4000000 in
theorem ct_X2_readSum_r95_c5_47 {Dy : jH → Prop} {h0 : jH} {Q : Option Value → jH → Prop} {R4 : Int} {R17 : Int} (hD : jDk Dy) (hQ : ∀ (v : Int32) hx9, 0 ≤ v.toInt ∧ v.toInt ≤ 1 → jJ jSgX Dy hx9 → jSm fp_X2_readSum_r95_c5 h0 hx9 → ∀ u0 u1 : Int32, jiv hx9 68 5 = u0 → jiv hx9 68 3 = u1 → (u0.toInt ≠ 3 ∨ u1.toInt ≤ 399) → Q (some (.int v)) hx9) (k4 : ∀ (l2 : Int32) (l3 : Int32) (g0 : Int32) (g1 : Int32) (h : jH), 400 - l3.toInt < R4 → (-1) ≤ l2.toInt ∧ l2.toInt ≤ 4 → 0 ≤ l3.toInt ∧ l3.toInt ≤ 400 → 0 ≤ g0.toInt ∧ g0.toInt ≤ 400 → 0 ≤ g1.toInt ∧ g1.toInt ≤ 3 → (g1.toInt ≠ 3 ∨ g0.toInt ≤ 399) → jiv h 68 3 = g0 → jiv h 68 5 = g1 → jJ jSgX Dy h → jSm fp_X2_readSum_r95_c5 h0 h → jX m_X2_readSum 12 0 0 4 [(0, .ref 95), (1, .int 5), (2, .int l2), (3, .int l3)] [] h 0 0 Q) (k17 : ∀ (l2 : Int32) (l3 : Int32) (l4 : Int32) (l5 : Int32) (g0 : Int32) (g1 : Int32) (h : jH), 400 - l5.toInt < R17 → (-1) ≤ l2.toInt ∧ l2.toInt ≤ 4 → 0 ≤ l3.toInt ∧ l3.toInt ≤ 399 → (-1) ≤ l4.toInt ∧ l4.toInt ≤ 6 → 0 ≤ l5.toInt ∧ l5.toInt ≤ 400 → 0 ≤ g0.toInt ∧ g0.toInt ≤ 400 → 0 ≤ g1.toInt ∧ g1.toInt ≤ 3 → (g1.toInt ≠ 3 ∨ g0.toInt ≤ 399) → jiv h 68 3 = g0 → jiv h 68 5 = g1 → 400 - l3.toInt ≤ R4 → jJ jSgX Dy h → jSm fp_X2_readSum_r95_c5 h0 h → jX m_X2_readSum 12 0 0 17 [(0, .ref 95), (1, .int 5), (2, .int l2), (3, .int l3), (4, .int l4), (5, .int l5)] [] h 0 0 Q) : ∀ (l2 : Int32) (l3 : Int32) (l5 : Int32) (g0 : Int32) (g1 : Int32) (h : jH), (-1) ≤ l2.toInt ∧ l2.toInt ≤ 4 → 0 ≤ l3.toInt ∧ l3.toInt ≤ 399 → 0 ≤ l5.toInt ∧ l5.toInt ≤ 399 → 0 ≤ g0.toInt ∧ g0.toInt ≤ 400 → 0 ≤ g1.toInt ∧ g1.toInt ≤ 3 → (g1.toInt ≠ 3 ∨ g0.toInt ≤ 399) → jiv h 68 3 = g0 → jiv h 68 5 = g1 → 400 - l3.toInt ≤ R4 → 400 - l5.toInt ≤ R17 → jJ jSgX Dy h → jSm fp_X2_readSum_r95_c5 h0 h → jX m_X2_readSum 12 0 0 47 [(0, .ref 95), (1, .int 5), (2, .int l2), (3, .int l3), (5, .int l5)] [] h 0 0 Q := by
  intro l2 l3 l5 g0 g1 h y0 y1 y2 y3 y4 y5 z0 z1 m4 m17 J Sm
  refine x_aloadn (x := 95) rfl rfl ?_
  refine z_getR (N := 6) (b := 68) 2 0 rfl f_2_30 rfl J rfl 12160 ⟨rfl, rfl⟩ rfl ?_
  refine x_bipush (v := 42) rfl kb_42 ?_
  refine x_inv (N := m_X9_isSign) (As := [.int 42]) (b := 68) (st := []) (dx9 := 1) (mc := 0) (ms := 0) (host := "") 9 rfl t_X9_isSign ⟨Or.inl q_2_55, i_X9_isSign.1, i_X9_isSign.2⟩ ⟨by decide, rfl⟩ (congrArg Prod.fst (J.1.1 68 (9, 6) rfl)) rfl (by decide) rfl rfl ⟨by decide, by decide⟩ (sf_X9_isSign_r68 (jr_of jk_42 (by omega)) hD J z1 z0 (by omega)  (fun v4 h ev4 J S1 u2 u3 qu2 qu3 ru2 => ?_))
  have Sm := jSm_tr rfl Sm S1
  have eu2 := (show 0 ≤ u2.toInt ∧ u2.toInt ≤ 3 from qu2 ▸ jrg_f J sg_68_5_6_1_0_1)
  have eu3 := (show 0 ≤ u3.toInt ∧ u3.toInt ≤ 400 from qu3 ▸ jrg_f J sg_68_3_4_1_0_1)
  show jX m_X2_readSum 12 0 0 56 [(0, .ref 95), (1, .int 5), (2, .int l2), (3, .int l3), (5, .int l5)] [.int v4] _ 0 0 _
  refine x_ifeq (tgt := 63) rfl rfl (ti_eq rfl jk_0 ⟨fun c5 => ?_, fun c5 => ?_⟩)
  ·
    refine x_aloadn (x := 95) rfl rfl ?_
    refine z_getR (N := 6) (b := 68) 2 0 rfl f_2_30 rfl J rfl 12160 ⟨rfl, rfl⟩ rfl ?_
    refine x_bipush (v := 47) rfl kb_47 ?_
    refine x_inv (N := m_X9_isSign) (As := [.int 47]) (b := 68) (st := []) (dx9 := 1) (mc := 0) (ms := 0) (host := "") 9 rfl t_X9_isSign ⟨Or.inl q_2_55, i_X9_isSign.1, i_X9_isSign.2⟩ ⟨by decide, rfl⟩ (congrArg Prod.fst (J.1.1 68 (9, 6) rfl)) rfl (by decide) rfl rfl ⟨by decide, by decide⟩ (sf_X9_isSign_r68 (jr_of jk_47 (by omega)) hD J qu2 qu3 (by omega)  (fun v9 h ev9 J S6 u7 u8 qu7 qu8 ru7 => ?_))
    have Sm := jSm_tr rfl Sm S6
    have eu7 := (show 0 ≤ u7.toInt ∧ u7.toInt ≤ 3 from qu7 ▸ jrg_f J sg_68_5_6_1_0_1)
    have eu8 := (show 0 ≤ u8.toInt ∧ u8.toInt ≤ 400 from qu8 ▸ jrg_f J sg_68_3_4_1_0_1)
    show jX m_X2_readSum 12 0 0 72 [(0, .ref 95), (1, .int 5), (2, .int l2), (3, .int l3), (5, .int l5)] [.int v9] _ 0 0 _
    refine x_ifeq (tgt := 80) rfl rfl (ti_eq rfl jk_0 ⟨fun c10 => ?_, fun c10 => ?_⟩)
    ·
      refine x_iconst (v := (-1)) rfl ki_m1 ?_
      exact jX.sub (jsb_c rfl (jsb_c rfl (jsb_c rfl (jsb_c rfl (jsb_c rfl jsb_n))))) (ct_X2_readSum_r95_c5_100081 hD hQ k4 k17 l2 l3 l5 u8 u7 h (jr_of rfl (by omega)) (jr_of rfl (by omega)) (jr_of rfl (by omega)) (jr_of rfl (by omega)) (jr_of rfl (by omega)) (by omega) qu8 qu7 (by omega) (by omega) J Sm)
    ·
      refine x_bipush (v := 6) rfl kb_6 ?_
      refine x_goto (tgt := 81) rfl rfl ?_
      exact jX.sub (jsb_c rfl (jsb_c rfl (jsb_c rfl (jsb_c rfl (jsb_c rfl jsb_n))))) (ct_X2_readSum_r95_c5_800081 hD hQ k4 k17 l2 l3 l5 u8 u7 h (jr_of rfl (by omega)) (jr_of rfl (by omega)) (jr_of rfl (by omega)) (jr_of rfl (by omega)) (jr_of rfl (by omega)) (by omega) qu8 qu7 (by omega) (by omega) J Sm)
  ·
    refine x_iconst (v := 5) rfl ki_5 ?_
    refine x_goto (tgt := 81) rfl rfl ?_
    exact jX.sub (jsb_c rfl (jsb_c rfl (jsb_c rfl (jsb_c rfl (jsb_c rfl jsb_n))))) (ct_X2_readSum_r95_c5_700081 hD hQ k4 k17 l2 l3 l5 u3 u2 h (jr_of rfl (by omega)) (jr_of rfl (by omega)) (jr_of rfl (by omega)) (jr_of rfl (by omega)) (jr_of rfl (by omega)) (by omega) qu3 qu2 (by omega) (by omega) J Sm)
set_option maxRecDepth 100000 in
set_option maxHeartbeats 4000000 in
theorem ct_X2_readSum_r95_c5_17 {Dy : jH → Prop} {h0 : jH} {Q : Option Value → jH → Prop} {R4 : Int} (hD : jDk Dy) (hQ : ∀ (v : Int32) hx9, 0 ≤ v.toInt ∧ v.toInt ≤ 1 → jJ jSgX Dy hx9 → jSm fp_X2_readSum_r95_c5 h0 hx9 → ∀ u0 u1 : Int32, jiv hx9 68 5 = u0 → jiv hx9 68 3 = u1 → (u0.toInt ≠ 3 ∨ u1.toInt ≤ 399) → Q (some (.int v)) hx9) (k4 : ∀ (l2 : Int32) (l3 : Int32) (g0 : Int32) (g1 : Int32) (h : jH), 400 - l3.toInt < R4 → (-1) ≤ l2.toInt ∧ l2.toInt ≤ 4 → 0 ≤ l3.toInt ∧ l3.toInt ≤ 400 → 0 ≤ g0.toInt ∧ g0.toInt ≤ 400 → 0 ≤ g1.toInt ∧ g1.toInt ≤ 3 → (g1.toInt ≠ 3 ∨ g0.toInt ≤ 399) → jiv h 68 3 = g0 → jiv h 68 5 = g1 → jJ jSgX Dy h → jSm fp_X2_readSum_r95_c5 h0 h → jX m_X2_readSum 12 0 0 4 [(0, .ref 95), (1, .int 5), (2, .int l2), (3, .int l3)] [] h 0 0 Q) : ∀ r : Nat, ∀ (l2 : Int32) (l3 : Int32) (l4 : Int32) (l5 : Int32) (g0 : Int32) (g1 : Int32) (h : jH), 400 - l5.toInt < (r : Int) → (-1) ≤ l2.toInt ∧ l2.toInt ≤ 4 → 0 ≤ l3.toInt ∧ l3.toInt ≤ 399 → (-1) ≤ l4.toInt ∧ l4.toInt ≤ 6 → 0 ≤ l5.toInt ∧ l5.toInt ≤ 400 → 0 ≤ g0.toInt ∧ g0.toInt ≤ 400 → 0 ≤ g1.toInt ∧ g1.toInt ≤ 3 → (g1.toInt ≠ 3 ∨ g0.toInt ≤ 399) → jiv h 68 3 = g0 → jiv h 68 5 = g1 → 400 - l3.toInt ≤ R4 → jJ jSgX Dy h → jSm fp_X2_readSum_r95_c5 h0 h → jX m_X2_readSum 12 0 0 17 [(0, .ref 95), (1, .int 5), (2, .int l2), (3, .int l3), (4, .int l4), (5, .int l5)] [] h 0 0 Q := by
  intro r
  induction r with
  | zero =>
    intro l2 l3 l4 l5 g0 g1 h hm y0 y1 y2 y3 y4 y5 y6 z0 z1 m4 J Sm
    exfalso
    omega
  | succ r ih =>
    intro l2 l3 l4 l5 g0 g1 h hm y0 y1 y2 y3 y4 y5 y6 z0 z1 m4 J Sm
    refine x_iload (x := l5) rfl rfl ?_
    refine x_sipush (v := 400) rfl ks_400 ?_
    refine x_icge (tgt := 105) rfl rfl (ti_ge rfl jk_400 ⟨fun c1 => ?_, fun c1 => ?_⟩)
    ·
      exact jX.sub (jsb_c rfl (jsb_c rfl (jsb_c rfl (jsb_c rfl jsb_n)))) (ct_X2_readSum_r95_c5_105 hD hQ k4 l2 l3 g0 g1 h (jr_of rfl (by omega)) (jr_of rfl (by omega)) (jr_of rfl (by omega)) (jr_of rfl (by omega)) (by omega) z0 z1 (by omega) J Sm)
    ·
      refine x_aloadn (x := 95) rfl rfl ?_
      refine x_iloadn (x := 5) rfl rfl ?_
      refine x_inv (N := m_X2_readFactor) (As := [.int 5]) (b := 95) (st := []) (dx9 := 11) (mc := 0) (ms := 0) (host := "") 2 rfl t_X2_readFactor ⟨Or.inl q_2_144, i_X2_readFactor.1, i_X2_readFactor.2⟩ ⟨by decide, rfl⟩ (congrArg Prod.fst (J.1.1 95 (2, 6) rfl)) rfl (by decide) rfl rfl ⟨by decide, by decide⟩ (sf_X2_readFactor_r95_c5  hD J z1 z0 (by omega)  (fun v5 h ev5 J S2 u3 u4 qu3 qu4 ru3 => ?_))
      have Sm := jSm_tr rfl Sm S2
      have eu3 := (show 0 ≤ u3.toInt ∧ u3.toInt ≤ 3 from qu3 ▸ jrg_f J sg_68_5_6_1_0_1)
      have eu4 := (show 0 ≤ u4.toInt ∧ u4.toInt ≤ 400 from qu4 ▸ jrg_f J sg_68_3_4_1_0_1)
      show jX m_X2_readSum 12 0 0 30 [(0, .ref 95), (1, .int 5), (2, .int l2), (3, .int l3), (4, .int l4), (5, .int l5)] [.int v5] _ 0 0 _
      refine x_ifne (tgt := 35) rfl rfl (ti_ne rfl jk_0 ⟨fun c6 => ?_, fun c6 => ?_⟩)
      ·
        refine x_iload (x := l4) rfl rfl ?_
        refine x_iconst (v := (-1)) rfl ki_m1 ?_
        refine x_iceq (tgt := 47) rfl rfl (ti_eq rfl jk_m1 ⟨fun c7 => ?_, fun c7 => ?_⟩)
        ·
          exact jX.sub (jsb_c rfl (jsb_c rfl (jsb_c rfl (jsb_c rfl (jsb_c rfl jsb_n))))) (ct_X2_readSum_r95_c5_47 hD hQ k4 ih l2 l3 l5 u4 u3 h (jr_of rfl (by omega)) (jr_of rfl (by omega)) (jr_of rfl (by omega)) (jr_of rfl (by omega)) (jr_of rfl (by omega)) (by omega) qu4 qu3 (by omega) (by omega) J Sm)
        ·
          refine x_aloadn (x := 95) rfl rfl ?_
          refine x_iload (x := l4) rfl rfl ?_
          refine x_inv (N := m_X2_emit) (As := [.int l4]) (b := 95) (st := []) (dx9 := 1) (mc := 0) (ms := 0) (host := "") 2 rfl t_X2_emit ⟨Or.inl q_2_89, i_X2_emit.1, i_X2_emit.2⟩ ⟨by decide, rfl⟩ (congrArg Prod.fst (J.1.1 95 (2, 6) rfl)) rfl (by decide) rfl rfl ⟨by decide, by decide⟩ (sf_X2_emit_r95  hD J  (fun h J S8 => ?_))
          have Sm := jSm_tr rfl Sm S8
          show jX m_X2_readSum 12 0 0 47 [(0, .ref 95), (1, .int 5), (2, .int l2), (3, .int l3), (4, .int l4), (5, .int l5)] [] _ 0 0 _
          exact jX.sub (jsb_c rfl (jsb_c rfl (jsb_c rfl (jsb_c rfl (jsb_c rfl jsb_n))))) (ct_X2_readSum_r95_c5_47 hD hQ k4 ih l2 l3 l5 u4 u3 h (jr_of rfl (by omega)) (jr_of rfl (by omega)) (jr_of rfl (by omega)) (jr_of rfl (by omega)) (jr_of rfl (by omega)) (by omega) (jmc S8 rfl qu4) (jmc S8 rfl qu3) (by omega) (by omega) J Sm)
      ·
        refine x_iconst (v := 0) rfl ki_0 ?_
        refine x_zret rfl rfl (by decide) ?_
        exact hQ _ _ (jr_of jk_0 (by omega)) J Sm _ _ qu3 qu4 (by omega)
set_option maxRecDepth 100000 in
set_option maxHeartbeats 4000000 in
theorem ct_X2_readSum_r95_c5_4 {Dy : jH → Prop} {h0 : jH} {Q : Option Value → jH → Prop} (hD : jDk Dy) (hQ : ∀ (v : Int32) hx9, 0 ≤ v.toInt ∧ v.toInt ≤ 1 → jJ jSgX Dy hx9 → jSm fp_X2_readSum_r95_c5 h0 hx9 → ∀ u0 u1 : Int32, jiv hx9 68 5 = u0 → jiv hx9 68 3 = u1 → (u0.toInt ≠ 3 ∨ u1.toInt ≤ 399) → Q (some (.int v)) hx9) : ∀ r : Nat, ∀ (l2 : Int32) (l3 : Int32) (g0 : Int32) (g1 : Int32) (h : jH), 400 - l3.toInt < (r : Int) → (-1) ≤ l2.toInt ∧ l2.toInt ≤ 4 → 0 ≤ l3.toInt ∧ l3.toInt ≤ 400 → 0 ≤ g0.toInt ∧ g0.toInt ≤ 400 → 0 ≤ g1.toInt ∧ g1.toInt ≤ 3 → (g1.toInt ≠ 3 ∨ g0.toInt ≤ 399) → jiv h 68 3 = g0 → jiv h 68 5 = g1 → jJ jSgX Dy h → jSm fp_X2_readSum_r95_c5 h0 h → jX m_X2_readSum 12 0 0 4 [(0, .ref 95), (1, .int 5), (2, .int l2), (3, .int l3)] [] h 0 0 Q := by
  intro r
  induction r with
  | zero =>
    intro l2 l3 g0 g1 h hm y0 y1 y2 y3 y4 z0 z1  J Sm
    exfalso
    omega
  | succ r ih =>
    intro l2 l3 g0 g1 h hm y0 y1 y2 y3 y4 z0 z1  J Sm
    refine x_iloadn (x := l3) rfl rfl ?_
    refine x_sipush (v := 400) rfl ks_400 ?_
    refine x_icge (tgt := 169) rfl rfl (ti_ge rfl jk_400 ⟨fun c1 => ?_, fun c1 => ?_⟩)
    ·
      refine x_aloadn (x := 95) rfl rfl ?_
      refine z_getR (N := 6) (b := 68) 2 0 rfl f_2_30 rfl J rfl 12160 ⟨rfl, rfl⟩ rfl ?_
      refine x_inv (N := m_X9_blame) (As := []) (b := 68) (st := []) (dx9 := 11) (mc := 0) (ms := 0) (host := "") 9 rfl t_X9_blame ⟨Or.inl q_2_59, i_X9_blame.1, i_X9_blame.2⟩ ⟨by decide, rfl⟩ (congrArg Prod.fst (J.1.1 68 (9, 6) rfl)) rfl (by decide) rfl rfl ⟨by decide, by decide⟩ (jC.of rfl k_X9_blame rfl ?_)
      show jX m_X9_blame 11 0 0 0 [(0, .ref 68)] [] _ 0 0 _
      refine x_aloadn (x := 68) rfl rfl ?_
      refine x_aloadn (x := 68) rfl rfl ?_
      refine z_getM (N := 6) (v := g0) 9 3 rfl f_9_22 rfl J rfl z0 ?_
      refine z_putI (N := 6) (w := g0.toInt) 9 2 rfl f_9_19 rfl (jfin_no TX9 RX9 6 rfl rfl) hD J Sm rfl rfl rfl (pw_68_2 (by omega)) rfl (fun h w2 J Sm => ?_)
      refine x_iconst (v := 0) rfl ki_0 ?_
      refine x_zret rfl rfl (by decide) ?_
      show jX m_X2_readSum 12 0 0 176 [(0, .ref 95), (1, .int 5), (2, .int l2), (3, .int l3)] [.int 0] _ 0 0 _
      refine x_zret rfl rfl (by decide) ?_
      exact hQ _ _ (jr_of jk_0 (by omega)) J Sm _ _ (jmo w2 rfl z1) (jmo w2 rfl z0) (by omega)
    ·
      refine x_iconst (v := (-1)) rfl ki_m1 ?_
      refine x_istore (lsx9 := [(4, .int (-1)), (0, .ref 95), (1, .int 5), (2, .int l2), (3, .int l3)]) rfl rfl rfl ?_
      refine x_iconst (v := 0) rfl ki_0 ?_
      refine x_istore (lsx9 := [(5, .int 0), (4, .int (-1)), (0, .ref 95), (1, .int 5), (2, .int l2), (3, .int l3)]) rfl rfl rfl ?_
      exact jX.sub (jsb_c rfl (jsb_c rfl (jsb_c rfl (jsb_c rfl (jsb_c rfl (jsb_c rfl jsb_n)))))) (ct_X2_readSum_r95_c5_17 hD hQ ih 401 l2 l3 (-1) 0 g0 g1 h (by have := jk_0; omega) (jr_of rfl (by omega)) (jr_of rfl (by omega)) (jr_of jk_m1 (by omega)) (jr_of jk_0 (by omega)) (jr_of rfl (by omega)) (jr_of rfl (by omega)) (by omega) z0 z1 (by omega) J Sm)
set_option maxRecDepth 100000 in
set_option maxHeartbeats 4000000 in
theorem sf_X2_readSum_r95_c5 {Dy : jH → Prop} {h : jH} {Q : Option Value → jH → Prop} (hD : jDk Dy) (J : jJ jSgX Dy h) {p0 p1 : Int32} (zp0 : jiv h 68 5 = p0) (zp1 : jiv h 68 3 = p1) (rl_p0 : (p0.toInt ≠ 3 ∨ p1.toInt ≤ 399)) (hQ : ∀ (v : Int32) hx9, 0 ≤ v.toInt ∧ v.toInt ≤ 1 → jJ jSgX Dy hx9 → jSm fp_X2_readSum_r95_c5 h hx9 → ∀ u0 u1 : Int32, jiv hx9 68 5 = u0 → jiv hx9 68 3 = u1 → (u0.toInt ≠ 3 ∨ u1.toInt ≤ 399) → Q (some (.int v)) hx9) : jC m_X2_readSum 12 0 0 [.ref 95, .int 5] h Q := by
  refine jC.of rfl k_X2_readSum rfl ?_
  have Sm := jSm_rf fp_X2_readSum_r95_c5 h
  have ep0 := (show 0 ≤ p0.toInt ∧ p0.toInt ≤ 3 from zp0 ▸ jrg_f J sg_68_5_6_1_0_1)
  have ep1 := (show 0 ≤ p1.toInt ∧ p1.toInt ≤ 400 from zp1 ▸ jrg_f J sg_68_3_4_1_0_1)
  show jX m_X2_readSum 12 0 0 0 [(0, .ref 95), (1, .int 5)] [] _ 0 0 _
  refine x_iconst (v := (-1)) rfl ki_m1 ?_
  refine x_istoren (lsx9 := [(2, .int (-1)), (0, .ref 95), (1, .int 5)]) rfl rfl rfl ?_
  refine x_iconst (v := 0) rfl ki_0 ?_
  refine x_istoren (lsx9 := [(3, .int 0), (2, .int (-1)), (0, .ref 95), (1, .int 5)]) rfl rfl rfl ?_
  exact jX.sub (jsb_c rfl (jsb_c rfl (jsb_c rfl (jsb_c rfl jsb_n)))) (ct_X2_readSum_r95_c5_4 hD hQ  401 (-1) 0 p1 p0 h (by have := jk_0; omega) (jr_of jk_m1 (by omega)) (jr_of jk_0 (by omega)) (jr_of rfl (by omega)) (jr_of rfl (by omega)) (by omega) zp1 zp0 J Sm)
def fp_X2_readFactor_r95_c4 : jFp := [(68, 2, 3), (68, 3, 4), (68, 4, 5), (68, 5, 6), (95, 4, 5), (95, 5, 6), (97, 0, 1200)]
set_option maxRecDepth 100000 in
set_option maxHeartbeats 4000000 in
theorem ct_X2_readFactor_r95_c4_111 {Dy : jH → Prop} {h0 : jH} {Q : Option Value → jH → Prop} (hD : jDk Dy) (hQ : ∀ (v : Int32) hx9, 0 ≤ v.toInt ∧ v.toInt ≤ 1 → jJ jSgX Dy hx9 → jSm fp_X2_readFactor_r95_c4 h0 hx9 → ∀ u0 u1 : Int32, jiv hx9 68 5 = u0 → jiv hx9 68 3 = u1 → (u0.toInt ≠ 3 ∨ u1.toInt ≤ 399) → Q (some (.int v)) hx9) : ∀ (s0 : Int32) (g0 : Int32) (g1 : Int32) (h : jH), 0 ≤ s0.toInt ∧ s0.toInt ≤ 1 → 0 ≤ g0.toInt ∧ g0.toInt ≤ 400 → 0 ≤ g1.toInt ∧ g1.toInt ≤ 3 → (g1.toInt ≠ 3 ∨ g0.toInt ≤ 399) → jiv h 68 3 = g0 → jiv h 68 5 = g1 → jJ jSgX Dy h → jSm fp_X2_readFactor_r95_c4 h0 h → jX m_X2_readFactor 13 0 0 111 [] [.int s0] h 0 0 Q := by
  intro s0 g0 g1 h y0 y1 y2 y3 z0 z1  J Sm
  refine x_zret rfl rfl (jz01 (by omega)) ?_
  exact hQ _ _ (jr_of rfl (by omega)) J Sm _ _ z1 z0 (by omega)
set_option maxRecDepth 100000 in
set_option maxHeartbeats 4000000 in
theorem ct_X2_readFactor_r95_c4_200111 {Dy : jH → Prop} {h0 : jH} {Q : Option Value → jH → Prop} (hD : jDk Dy) (hQ : ∀ (v : Int32) hx9, 0 ≤ v.toInt ∧ v.toInt ≤ 1 → jJ jSgX Dy hx9 → jSm fp_X2_readFactor_r95_c4 h0 hx9 → ∀ u0 u1 : Int32, jiv hx9 68 5 = u0 → jiv hx9 68 3 = u1 → (u0.toInt ≠ 3 ∨ u1.toInt ≤ 399) → Q (some (.int v)) hx9) : ∀ (g0 : Int32) (g1 : Int32) (h : jH), 0 ≤ g0.toInt ∧ g0.toInt ≤ 400 → 0 ≤ g1.toInt ∧ g1.toInt ≤ 3 → (g1.toInt ≠ 3 ∨ g0.toInt ≤ 399) → jiv h 68 3 = g0 → jiv h 68 5 = g1 → jJ jSgX Dy h → jSm fp_X2_readFactor_r95_c4 h0 h → jX m_X2_readFactor 13 0 0 111 [] [.int 0] h 0 0 Q := by
  intro g0 g1 h y0 y1 y2 z0 z1  J Sm
  refine x_zret rfl rfl (by decide) ?_
  exact hQ _ _ (jr_of jk_0 (by omega)) J Sm _ _ z1 z0 (by omega)
set_option maxRecDepth 100000 in
set_option maxHeartbeats 4000000 in
theorem ct_X2_readFactor_r95_c4_300057 {Dy : jH → Prop} {h0 : jH} {Q : Option Value → jH → Prop} (hD : jDk Dy) (hQ : ∀ (v : Int32) hx9, 0 ≤ v.toInt ∧ v.toInt ≤ 1 → jJ jSgX Dy hx9 → jSm fp_X2_readFactor_r95_c4 h0 hx9 → ∀ u0 u1 : Int32, jiv hx9 68 5 = u0 → jiv hx9 68 3 = u1 → (u0.toInt ≠ 3 ∨ u1.toInt ≤ 399) → Q (some (.int v)) hx9) : ∀ (g0 : Int32) (g1 : Int32) (h : jH), 0 ≤ g0.toInt ∧ g0.toInt ≤ 400 → 0 ≤ g1.toInt ∧ g1.toInt ≤ 3 → (g1.toInt ≠ 3 ∨ g0.toInt ≤ 399) → jiv h 68 3 = g0 → jiv h 68 5 = g1 → jJ jSgX Dy h → jSm fp_X2_readFactor_r95_c4 h0 h → jX m_X2_readFactor 13 0 0 57 [] [.int 1] h 0 0 Q := by
  intro g0 g1 h y0 y1 y2 z0 z1  J Sm
  refine x_zret rfl rfl (by decide) ?_
  exact hQ _ _ (jr_of jk_1 (by omega)) J Sm _ _ z1 z0 (by omega)
set_option maxRecDepth 100000 in
set_option maxHeartbeats 4000000 in
theorem ct_X2_readFactor_r95_c4_200057 {Dy : jH → Prop} {h0 : jH} {Q : Option Value → jH → Prop} (hD : jDk Dy) (hQ : ∀ (v : Int32) hx9, 0 ≤ v.toInt ∧ v.toInt ≤ 1 → jJ jSgX Dy hx9 → jSm fp_X2_readFactor_r95_c4 h0 hx9 → ∀ u0 u1 : Int32, jiv hx9 68 5 = u0 → jiv hx9 68 3 = u1 → (u0.toInt ≠ 3 ∨ u1.toInt ≤ 399) → Q (some (.int v)) hx9) : ∀ (g0 : Int32) (g1 : Int32) (h : jH), 0 ≤ g0.toInt ∧ g0.toInt ≤ 400 → 0 ≤ g1.toInt ∧ g1.toInt ≤ 3 → (g1.toInt ≠ 3 ∨ g0.toInt ≤ 399) → jiv h 68 3 = g0 → jiv h 68 5 = g1 → jJ jSgX Dy h → jSm fp_X2_readFactor_r95_c4 h0 h → jX m_X2_readFactor 13 0 0 57 [] [.int 0] h 0 0 Q := by
  intro g0 g1 h y0 y1 y2 z0 z1  J Sm
  refine x_zret rfl rfl (by decide) ?_
  exact hQ _ _ (jr_of jk_0 (by omega)) J Sm _ _ z1 z0 (by omega)
set_option maxRecDepth 100000 in
set_option maxHeartbeats 4000000 in
theorem ct_X2_readFactor_r95_c4_56 {Dy : jH → Prop} {h0 : jH} {Q : Option Value → jH → Prop} (hD : jDk Dy) (hQ : ∀ (v : Int32) hx9, 0 ≤ v.toInt ∧ v.toInt ≤ 1 → jJ jSgX Dy hx9 → jSm fp_X2_readFactor_r95_c4 h0 hx9 → ∀ u0 u1 : Int32, jiv hx9 68 5 = u0 → jiv hx9 68 3 = u1 → (u0.toInt ≠ 3 ∨ u1.toInt ≤ 399) → Q (some (.int v)) hx9) : ∀ (g0 : Int32) (g1 : Int32) (h : jH), 0 ≤ g0.toInt ∧ g0.toInt ≤ 400 → 0 ≤ g1.toInt ∧ g1.toInt ≤ 3 → (g1.toInt ≠ 3 ∨ g0.toInt ≤ 399) → jiv h 68 3 = g0 → jiv h 68 5 = g1 → jJ jSgX Dy h → jSm fp_X2_readFactor_r95_c4 h0 h → jX m_X2_readFactor 13 0 0 56 [] [] h 0 0 Q := by
  intro g0 g1 h y0 y1 y2 z0 z1  J Sm
  refine x_iconst (v := 0) rfl ki_0 ?_
  exact jX.sub jsb_n (ct_X2_readFactor_r95_c4_200057 hD hQ  g0 g1 h (jr_of rfl (by omega)) (jr_of rfl (by omega)) (by omega) z0 z1 J Sm)
set_option maxRecDepth 100000 in
set_option maxHeartbeats 4000000 in
theorem sf_X2_readFactor_r95_c4 {Dy : jH → Prop} {h : jH} {Q : Option Value → jH → Prop} (hD : jDk Dy) (J : jJ jSgX Dy h) {p0 p1 : Int32} (zp0 : jiv h 68 5 = p0) (zp1 : jiv h 68 3 = p1) (rl_p0 : (p0.toInt ≠ 3 ∨ p1.toInt ≤ 399)) (hQ : ∀ (v : Int32) hx9, 0 ≤ v.toInt ∧ v.toInt ≤ 1 → jJ jSgX Dy hx9 → jSm fp_X2_readFactor_r95_c4 h hx9 → ∀ u0 u1 : Int32, jiv hx9 68 5 = u0 → jiv hx9 68 3 = u1 → (u0.toInt ≠ 3 ∨ u1.toInt ≤ 399) → Q (some (.int v)) hx9) : jC m_X2_readFactor 13 0 0 [.ref 95, .int 4] h Q := by
  refine jC.of rfl k_X2_readFactor rfl ?_
  have Sm := jSm_rf fp_X2_readFactor_r95_c4 h
  have ep0 := (show 0 ≤ p0.toInt ∧ p0.toInt ≤ 3 from zp0 ▸ jrg_f J sg_68_5_6_1_0_1)
  have ep1 := (show 0 ≤ p1.toInt ∧ p1.toInt ≤ 400 from zp1 ▸ jrg_f J sg_68_3_4_1_0_1)
  show jX m_X2_readFactor 13 0 0 0 [(0, .ref 95), (1, .int 4)] [] _ 0 0 _
  refine x_aloadn (x := 95) rfl rfl ?_
  refine z_getR (N := 6) (b := 68) 2 0 rfl f_2_30 rfl J rfl 12160 ⟨rfl, rfl⟩ rfl ?_
  refine x_bipush (v := 91) rfl kb_91 ?_
  refine x_inv (N := m_X9_isSign) (As := [.int 91]) (b := 68) (st := []) (dx9 := 1) (mc := 0) (ms := 0) (host := "") 9 rfl t_X9_isSign ⟨Or.inl q_2_55, i_X9_isSign.1, i_X9_isSign.2⟩ ⟨by decide, rfl⟩ (congrArg Prod.fst (J.1.1 68 (9, 6) rfl)) rfl (by decide) rfl rfl ⟨by decide, by decide⟩ (sf_X9_isSign_r68 (jr_of jk_91 (by omega)) hD J zp0 zp1 (by omega)  (fun v4 h ev4 J S1 u2 u3 qu2 qu3 ru2 => ?_))
  have Sm := jSm_tr rfl Sm S1
  have eu2 := (show 0 ≤ u2.toInt ∧ u2.toInt ≤ 3 from qu2 ▸ jrg_f J sg_68_5_6_1_0_1)
  have eu3 := (show 0 ≤ u3.toInt ∧ u3.toInt ≤ 400 from qu3 ▸ jrg_f J sg_68_3_4_1_0_1)
  show jX m_X2_readFactor 13 0 0 9 [(0, .ref 95), (1, .int 4)] [.int v4] _ 0 0 _
  refine x_ifeq (tgt := 58) rfl rfl (ti_eq rfl jk_0 ⟨fun c5 => ?_, fun c5 => ?_⟩)
  ·
    refine x_aloadn (x := 95) rfl rfl ?_
    refine z_getR (N := 6) (b := 68) 2 0 rfl f_2_30 rfl J rfl 12160 ⟨rfl, rfl⟩ rfl ?_
    refine x_ldc (v := 100000) rfl z_2_147 ?_
    refine x_inv (N := m_X9_numberTo) (As := [.int 100000]) (b := 68) (st := []) (dx9 := 1) (mc := 0) (ms := 0) (host := "") 9 rfl t_X9_numberTo ⟨Or.inl q_2_117, i_X9_numberTo.1, i_X9_numberTo.2⟩ ⟨by decide, rfl⟩ (congrArg Prod.fst (J.1.1 68 (9, 6) rfl)) rfl (by decide) rfl rfl ⟨by decide, by decide⟩ (sf_X9_numberTo_r68 (jr_of jk_100000 (by omega)) hD J  (fun v7 h ev7 J S6 => ?_))
    have Sm := jSm_tr rfl Sm S6
    show jX m_X2_readFactor 13 0 0 67 [(0, .ref 95), (1, .int 4)] [.int v7] _ 0 0 _
    refine x_istoren (lsx9 := [(2, .int v7), (0, .ref 95), (1, .int 4)]) rfl rfl rfl ?_
    refine x_iloadn (x := v7) rfl rfl ?_
    refine x_iconst (v := (-1)) rfl ki_m1 ?_
    refine x_iceq (tgt := 80) rfl rfl (ti_eq rfl jk_m1 ⟨fun c8 => ?_, fun c8 => ?_⟩)
    ·
      refine x_aloadn (x := 95) rfl rfl ?_
      refine z_getR (N := 6) (b := 68) 2 0 rfl f_2_30 rfl J rfl 12160 ⟨rfl, rfl⟩ rfl ?_
      refine x_ldcS (jstr.getD 6 jstr_0) rfl (List.mem_of_getElem? (i := 6) rfl) rfl rfl ?_
      show jX m_X2_readFactor 13 0 0 86 [(2, .int v7), (0, .ref 95), (1, .int 4)] [.ref 11, .ref 68] _ 0 0 _
      refine x_inv (N := m_X9_wordOf) (As := [.ref 11]) (b := 68) (st := []) (dx9 := 4) (mc := 0) (ms := 0) (host := "") 9 rfl t_X9_wordOf ⟨Or.inl q_2_67, i_X9_wordOf.1, i_X9_wordOf.2⟩ ⟨by decide, rfl⟩ (congrArg Prod.fst (J.1.1 68 (9, 6) rfl)) rfl (by decide) rfl rfl ⟨by decide, by decide⟩ (sf_X9_wordOf_r68_r11  hD J  (fun v10 h J S9 => ?_))
      have ev10 := jfull v10
      have Sm := jSm_tr rfl Sm S9
      show jX m_X2_readFactor 13 0 0 89 [(2, .int v7), (0, .ref 95), (1, .int 4)] [.int v10] _ 0 0 _
      refine x_istoren (lsx9 := [(3, .int v10), (2, .int v7), (0, .ref 95), (1, .int 4)]) rfl rfl rfl ?_
      refine x_iloadn (x := v10) rfl rfl ?_
      refine x_iconst (v := (-1)) rfl ki_m1 ?_
      refine x_icne (tgt := 105) rfl rfl (ti_ne rfl jk_m1 ⟨fun c11 => ?_, fun c11 => ?_⟩)
      ·
        refine x_aloadn (x := 95) rfl rfl ?_
        refine x_iconst (v := 2) rfl ki_2 ?_
        refine x_iloadn (x := v10) rfl rfl ?_
        refine x_inv (N := m_X2_readPart) (As := [.int 2, .int v10]) (b := 95) (st := []) (dx9 := 3) (mc := 0) (ms := 0) (host := "") 2 rfl t_X2_readPart ⟨Or.inl q_2_141, i_X2_readPart.1, i_X2_readPart.2⟩ ⟨by decide, rfl⟩ (congrArg Prod.fst (J.1.1 95 (2, 6) rfl)) rfl (by decide) rfl rfl ⟨by decide, by decide⟩ (sf_X2_readPart_r95 (jr_of jk_2 (by omega)) hD J (jmc S9 rfl (jmc S6 rfl qu2)) (jmc S9 rfl (jmc S6 rfl qu3)) (by omega)  (fun v15 h ev15 J S12 u13 u14 qu13 qu14 ru13 => ?_))
        have Sm := jSm_tr rfl Sm S12
        have eu13 := (show 0 ≤ u13.toInt ∧ u13.toInt ≤ 3 from qu13 ▸ jrg_f J sg_68_5_6_1_0_1)
        have eu14 := (show 0 ≤ u14.toInt ∧ u14.toInt ≤ 400 from qu14 ▸ jrg_f J sg_68_3_4_1_0_1)
        show jX m_X2_readFactor 13 0 0 111 [(3, .int v10), (2, .int v7), (0, .ref 95), (1, .int 4)] [.int v15] _ 0 0 _
        exact jX.sub jsb_n (ct_X2_readFactor_r95_c4_111 hD hQ  v15 u14 u13 h (jr_of rfl (by omega)) (jr_of rfl (by omega)) (jr_of rfl (by omega)) (by omega) qu14 qu13 J Sm)
      ·
        refine x_aloadn (x := 95) rfl rfl ?_
        refine z_getR (N := 6) (b := 68) 2 0 rfl f_2_30 rfl J rfl 12160 ⟨rfl, rfl⟩ rfl ?_
        refine x_inv (N := m_X9_blame) (As := []) (b := 68) (st := []) (dx9 := 12) (mc := 0) (ms := 0) (host := "") 9 rfl t_X9_blame ⟨Or.inl q_2_59, i_X9_blame.1, i_X9_blame.2⟩ ⟨by decide, rfl⟩ (congrArg Prod.fst (J.1.1 68 (9, 6) rfl)) rfl (by decide) rfl rfl ⟨by decide, by decide⟩ (jC.of rfl k_X9_blame rfl ?_)
        show jX m_X9_blame 12 0 0 0 [(0, .ref 68)] [] _ 0 0 _
        refine x_aloadn (x := 68) rfl rfl ?_
        refine x_aloadn (x := 68) rfl rfl ?_
        refine z_getM (N := 6) (v := u3) 9 3 rfl f_9_22 rfl J rfl (jmc S9 rfl (jmc S6 rfl qu3)) ?_
        refine z_putI (N := 6) (w := u3.toInt) 9 2 rfl f_9_19 rfl (jfin_no TX9 RX9 6 rfl rfl) hD J Sm rfl rfl rfl (pw_68_2 (by omega)) rfl (fun h w16 J Sm => ?_)
        refine x_iconst (v := 0) rfl ki_0 ?_
        refine x_zret rfl rfl (by decide) ?_
        show jX m_X2_readFactor 13 0 0 102 [(3, .int v10), (2, .int v7), (0, .ref 95), (1, .int 4)] [.int 0] _ 0 0 _
        refine x_goto (tgt := 111) rfl rfl ?_
        exact jX.sub jsb_n (ct_X2_readFactor_r95_c4_200111 hD hQ  u3 u2 h (jr_of rfl (by omega)) (jr_of rfl (by omega)) (by omega) (jmo w16 rfl (jmc S9 rfl (jmc S6 rfl qu3))) (jmo w16 rfl (jmc S9 rfl (jmc S6 rfl qu2))) J Sm)
    ·
      refine x_aloadn (x := 95) rfl rfl ?_
      refine x_iconst (v := 1) rfl ki_1 ?_
      refine x_iloadn (x := v7) rfl rfl ?_
      refine x_inv (N := m_X2_readPart) (As := [.int 1, .int v7]) (b := 95) (st := []) (dx9 := 3) (mc := 0) (ms := 0) (host := "") 2 rfl t_X2_readPart ⟨Or.inl q_2_141, i_X2_readPart.1, i_X2_readPart.2⟩ ⟨by decide, rfl⟩ (congrArg Prod.fst (J.1.1 95 (2, 6) rfl)) rfl (by decide) rfl rfl ⟨by decide, by decide⟩ (sf_X2_readPart_r95 (jr_of jk_1 (by omega)) hD J (jmc S6 rfl qu2) (jmc S6 rfl qu3) (by omega)  (fun v20 h ev20 J S17 u18 u19 qu18 qu19 ru18 => ?_))
      have Sm := jSm_tr rfl Sm S17
      have eu18 := (show 0 ≤ u18.toInt ∧ u18.toInt ≤ 3 from qu18 ▸ jrg_f J sg_68_5_6_1_0_1)
      have eu19 := (show 0 ≤ u19.toInt ∧ u19.toInt ≤ 400 from qu19 ▸ jrg_f J sg_68_3_4_1_0_1)
      show jX m_X2_readFactor 13 0 0 79 [(2, .int v7), (0, .ref 95), (1, .int 4)] [.int v20] _ 0 0 _
      refine x_zret rfl rfl (jz01 (by omega)) ?_
      exact hQ _ _ (jr_of rfl (by omega)) J Sm _ _ qu18 qu19 (by omega)
  ·
    refine x_iloadn (x := 4) rfl rfl ?_
    refine x_bipush (v := 8) rfl kb_8 ?_
    refine x_iclt (tgt := 26) rfl rfl (ti_lt jk_4 jk_8 (br_t (by omega) ?_))
    refine x_aloadn (x := 95) rfl rfl ?_
    refine z_getR (N := 6) (b := 68) 2 0 rfl f_2_30 rfl J rfl 12160 ⟨rfl, rfl⟩ rfl ?_
    refine x_inv (N := m_X9_step) (As := []) (b := 68) (st := []) (dx9 := 2) (mc := 0) (ms := 0) (host := "") 9 rfl t_X9_step ⟨Or.inl q_2_62, i_X9_step.1, i_X9_step.2⟩ ⟨by decide, rfl⟩ (congrArg Prod.fst (J.1.1 68 (9, 6) rfl)) rfl (by decide) rfl rfl ⟨by decide, by decide⟩ (sf_X9_step_r68  hD J qu2 qu3 (by omega)  (fun h J S21 u22 u23 qu22 qu23 ru22 => ?_))
    have Sm := jSm_tr rfl Sm S21
    have eu22 := (show 0 ≤ u22.toInt ∧ u22.toInt ≤ 3 from qu22 ▸ jrg_f J sg_68_5_6_1_0_1)
    have eu23 := (show 0 ≤ u23.toInt ∧ u23.toInt ≤ 400 from qu23 ▸ jrg_f J sg_68_3_4_1_0_1)
    show jX m_X2_readFactor 13 0 0 33 [(0, .ref 95), (1, .int 4)] [] _ 0 0 _
    refine x_aloadn (x := 95) rfl rfl ?_
    refine x_iloadn (x := 4) rfl rfl ?_
    refine x_iconst (v := 1) rfl ki_1 ?_
    refine y_iadd (v := 5) rfl (by decide) ?_
    refine x_inv (N := m_X2_readSum) (As := [.int 5]) (b := 95) (st := []) (dx9 := 12) (mc := 0) (ms := 0) (host := "") 2 rfl t_X2_readSum ⟨Or.inl q_2_86, i_X2_readSum.1, i_X2_readSum.2⟩ ⟨by decide, rfl⟩ (congrArg Prod.fst (J.1.1 95 (2, 6) rfl)) rfl (by decide) rfl rfl ⟨by decide, by decide⟩ (sf_X2_readSum_r95_c5  hD J qu22 qu23 (by omega)  (fun v27 h ev27 J S24 u25 u26 qu25 qu26 ru25 => ?_))
    have Sm := jSm_tr rfl Sm S24
    have eu25 := (show 0 ≤ u25.toInt ∧ u25.toInt ≤ 3 from qu25 ▸ jrg_f J sg_68_5_6_1_0_1)
    have eu26 := (show 0 ≤ u26.toInt ∧ u26.toInt ≤ 400 from qu26 ▸ jrg_f J sg_68_3_4_1_0_1)
    show jX m_X2_readFactor 13 0 0 40 [(0, .ref 95), (1, .int 4)] [.int v27] _ 0 0 _
    refine x_ifeq (tgt := 56) rfl rfl (ti_eq rfl jk_0 ⟨fun c28 => ?_, fun c28 => ?_⟩)
    ·
      exact jX.sub jsb_n (ct_X2_readFactor_r95_c4_56 hD hQ  u26 u25 h (jr_of rfl (by omega)) (jr_of rfl (by omega)) (by omega) qu26 qu25 J Sm)
    ·
      refine x_aloadn (x := 95) rfl rfl ?_
      refine x_bipush (v := 93) rfl kb_93 ?_
      refine x_inv (N := m_X2_readSign) (As := [.int 93]) (b := 95) (st := []) (dx9 := 12) (mc := 0) (ms := 0) (host := "") 2 rfl t_X2_readSign ⟨Or.inl q_2_138, i_X2_readSign.1, i_X2_readSign.2⟩ ⟨by decide, rfl⟩ (congrArg Prod.fst (J.1.1 95 (2, 6) rfl)) rfl (by decide) rfl rfl ⟨by decide, by decide⟩ (jC.of rfl k_X2_readSign rfl ?_)
      show jX m_X2_readSign 12 0 0 0 [(0, .ref 95), (1, .int 93)] [] _ 0 0 _
      refine x_aloadn (x := 95) rfl rfl ?_
      refine z_getR (N := 6) (b := 68) 2 0 rfl f_2_30 rfl J rfl 12160 ⟨rfl, rfl⟩ rfl ?_
      refine x_iloadn (x := 93) rfl rfl ?_
      refine x_inv (N := m_X9_isSign) (As := [.int 93]) (b := 68) (st := []) (dx9 := 1) (mc := 0) (ms := 0) (host := "") 9 rfl t_X9_isSign ⟨Or.inl q_2_55, i_X9_isSign.1, i_X9_isSign.2⟩ ⟨by decide, rfl⟩ (congrArg Prod.fst (J.1.1 68 (9, 6) rfl)) rfl (by decide) rfl rfl ⟨by decide, by decide⟩ (sf_X9_isSign_r68 (jr_of jk_93 (by omega)) hD J qu25 qu26 (by omega)  (fun v32 h ev32 J S29 u30 u31 qu30 qu31 ru30 => ?_))
      have Sm := jSm_tr rfl Sm S29
      have eu30 := (show 0 ≤ u30.toInt ∧ u30.toInt ≤ 3 from qu30 ▸ jrg_f J sg_68_5_6_1_0_1)
      have eu31 := (show 0 ≤ u31.toInt ∧ u31.toInt ≤ 400 from qu31 ▸ jrg_f J sg_68_3_4_1_0_1)
      show jX m_X2_readSign 12 0 0 8 [(0, .ref 95), (1, .int 93)] [.int v32] _ 0 0 _
      refine x_ifne (tgt := 19) rfl rfl (ti_ne rfl jk_0 ⟨fun c33 => ?_, fun c33 => ?_⟩)
      ·
        refine x_aloadn (x := 95) rfl rfl ?_
        refine z_getR (N := 6) (b := 68) 2 0 rfl f_2_30 rfl J rfl 12160 ⟨rfl, rfl⟩ rfl ?_
        refine x_inv (N := m_X9_step) (As := []) (b := 68) (st := []) (dx9 := 2) (mc := 0) (ms := 0) (host := "") 9 rfl t_X9_step ⟨Or.inl q_2_62, i_X9_step.1, i_X9_step.2⟩ ⟨by decide, rfl⟩ (congrArg Prod.fst (J.1.1 68 (9, 6) rfl)) rfl (by decide) rfl rfl ⟨by decide, by decide⟩ (sf_X9_step_r68  hD J qu30 qu31 (by omega)  (fun h J S34 u35 u36 qu35 qu36 ru35 => ?_))
        have Sm := jSm_tr rfl Sm S34
        have eu35 := (show 0 ≤ u35.toInt ∧ u35.toInt ≤ 3 from qu35 ▸ jrg_f J sg_68_5_6_1_0_1)
        have eu36 := (show 0 ≤ u36.toInt ∧ u36.toInt ≤ 400 from qu36 ▸ jrg_f J sg_68_3_4_1_0_1)
        show jX m_X2_readSign 12 0 0 26 [(0, .ref 95), (1, .int 93)] [] _ 0 0 _
        refine x_iconst (v := 1) rfl ki_1 ?_
        refine x_zret rfl rfl (by decide) ?_
        show jX m_X2_readFactor 13 0 0 49 [(0, .ref 95), (1, .int 4)] [.int 1] _ 0 0 _
        refine x_ifeq (tgt := 56) rfl rfl (ti_eq jk_1 jk_0 (br_f (by omega) ?_))
        refine x_iconst (v := 1) rfl ki_1 ?_
        refine x_goto (tgt := 57) rfl rfl ?_
        exact jX.sub jsb_n (ct_X2_readFactor_r95_c4_300057 hD hQ  u36 u35 h (jr_of rfl (by omega)) (jr_of rfl (by omega)) (by omega) qu36 qu35 J Sm)
      ·
        refine x_aloadn (x := 95) rfl rfl ?_
        refine z_getR (N := 6) (b := 68) 2 0 rfl f_2_30 rfl J rfl 12160 ⟨rfl, rfl⟩ rfl ?_
        refine x_inv (N := m_X9_blame) (As := []) (b := 68) (st := []) (dx9 := 11) (mc := 0) (ms := 0) (host := "") 9 rfl t_X9_blame ⟨Or.inl q_2_59, i_X9_blame.1, i_X9_blame.2⟩ ⟨by decide, rfl⟩ (congrArg Prod.fst (J.1.1 68 (9, 6) rfl)) rfl (by decide) rfl rfl ⟨by decide, by decide⟩ (jC.of rfl k_X9_blame rfl ?_)
        show jX m_X9_blame 11 0 0 0 [(0, .ref 68)] [] _ 0 0 _
        refine x_aloadn (x := 68) rfl rfl ?_
        refine x_aloadn (x := 68) rfl rfl ?_
        refine z_getM (N := 6) (v := u31) 9 3 rfl f_9_22 rfl J rfl qu31 ?_
        refine z_putI (N := 6) (w := u31.toInt) 9 2 rfl f_9_19 rfl (jfin_no TX9 RX9 6 rfl rfl) hD J Sm rfl rfl rfl (pw_68_2 (by omega)) rfl (fun h w37 J Sm => ?_)
        refine x_iconst (v := 0) rfl ki_0 ?_
        refine x_zret rfl rfl (by decide) ?_
        show jX m_X2_readSign 12 0 0 18 [(0, .ref 95), (1, .int 93)] [.int 0] _ 0 0 _
        refine x_zret rfl rfl (by decide) ?_
        show jX m_X2_readFactor 13 0 0 49 [(0, .ref 95), (1, .int 4)] [.int 0] _ 0 0 _
        refine x_ifeq (tgt := 56) rfl rfl (ti_eq jk_0 jk_0 (br_t (by omega) ?_))
        exact jX.sub jsb_n (ct_X2_readFactor_r95_c4_56 hD hQ  u31 u30 h (jr_of rfl (by omega)) (jr_of rfl (by omega)) (by omega) (jmo w37 rfl qu31) (jmo w37 rfl qu30) J Sm)
def fp_X2_readSum_r95_c4 : jFp := [(68, 2, 3), (68, 3, 4), (68, 4, 5), (68, 5, 6), (95, 4, 5), (95, 5, 6), (97, 0, 1200)]
set_option maxRecDepth 100000 in
set_option maxHeartbeats 4000000 in
theorem ct_X2_readSum_r95_c4_100148 {Dy : jH → Prop} {h0 : jH} {Q : Option Value → jH → Prop} {R4 : Int} (hD : jDk Dy) (hQ : ∀ (v : Int32) hx9, 0 ≤ v.toInt ∧ v.toInt ≤ 1 → jJ jSgX Dy hx9 → jSm fp_X2_readSum_r95_c4 h0 hx9 → ∀ u0 u1 : Int32, jiv hx9 68 5 = u0 → jiv hx9 68 3 = u1 → (u0.toInt ≠ 3 ∨ u1.toInt ≤ 399) → Q (some (.int v)) hx9) (k4 : ∀ (l2 : Int32) (l3 : Int32) (g0 : Int32) (g1 : Int32) (h : jH), 400 - l3.toInt < R4 → (-1) ≤ l2.toInt ∧ l2.toInt ≤ 4 → 0 ≤ l3.toInt ∧ l3.toInt ≤ 400 → 0 ≤ g0.toInt ∧ g0.toInt ≤ 400 → 0 ≤ g1.toInt ∧ g1.toInt ≤ 3 → (g1.toInt ≠ 3 ∨ g0.toInt ≤ 399) → jiv h 68 3 = g0 → jiv h 68 5 = g1 → jJ jSgX Dy h → jSm fp_X2_readSum_r95_c4 h0 h → jX m_X2_readSum 14 0 0 4 [(0, .ref 95), (1, .int 4), (2, .int l2), (3, .int l3)] [] h 0 0 Q) : ∀ (l3 : Int32) (g0 : Int32) (g1 : Int32) (h : jH), 0 ≤ l3.toInt ∧ l3.toInt ≤ 399 → 0 ≤ g0.toInt ∧ g0.toInt ≤ 400 → 0 ≤ g1.toInt ∧ g1.toInt ≤ 3 → (g1.toInt ≠ 3 ∨ g0.toInt ≤ 399) → jiv h 68 3 = g0 → jiv h 68 5 = g1 → 400 - l3.toInt ≤ R4 → jJ jSgX Dy h → jSm fp_X2_readSum_r95_c4 h0 h → jX m_X2_readSum 14 0 0 148 [(0, .ref 95), (1, .int 4), (3, .int l3)] [.int (-1)] h 0 0 Q := by
  intro l3 g0 g1 h y0 y1 y2 y3 z0 z1 m4 J Sm
  refine x_istoren (lsx9 := [(2, .int (-1)), (0, .ref 95), (1, .int 4), (3, .int l3)]) rfl rfl rfl ?_
  refine x_iloadn (x := (-1)) rfl rfl ?_
  refine x_iconst (v := (-1)) rfl ki_m1 ?_
  refine x_icne (tgt := 156) rfl rfl (ti_ne jk_m1 jk_m1 (bn_f (by omega) ?_))
  refine x_iconst (v := 1) rfl ki_1 ?_
  refine x_zret rfl rfl (by decide) ?_
  exact hQ _ _ (jr_of jk_1 (by omega)) J Sm _ _ z1 z0 (by omega)
set_option maxRecDepth 100000 in
set_option maxHeartbeats 4000000 in
theorem ct_X2_readSum_r95_c4_600148 {Dy : jH → Prop} {h0 : jH} {Q : Option Value → jH → Prop} {R4 : Int} (hD : jDk Dy) (hQ : ∀ (v : Int32) hx9, 0 ≤ v.toInt ∧ v.toInt ≤ 1 → jJ jSgX Dy hx9 → jSm fp_X2_readSum_r95_c4 h0 hx9 → ∀ u0 u1 : Int32, jiv hx9 68 5 = u0 → jiv hx9 68 3 = u1 → (u0.toInt ≠ 3 ∨ u1.toInt ≤ 399) → Q (some (.int v)) hx9) (k4 : ∀ (l2 : Int32) (l3 : Int32) (g0 : Int32) (g1 : Int32) (h : jH), 400 - l3.toInt < R4 → (-1) ≤ l2.toInt ∧ l2.toInt ≤ 4 → 0 ≤ l3.toInt ∧ l3.toInt ≤ 400 → 0 ≤ g0.toInt ∧ g0.toInt ≤ 400 → 0 ≤ g1.toInt ∧ g1.toInt ≤ 3 → (g1.toInt ≠ 3 ∨ g0.toInt ≤ 399) → jiv h 68 3 = g0 → jiv h 68 5 = g1 → jJ jSgX Dy h → jSm fp_X2_readSum_r95_c4 h0 h → jX m_X2_readSum 14 0 0 4 [(0, .ref 95), (1, .int 4), (2, .int l2), (3, .int l3)] [] h 0 0 Q) : ∀ (l3 : Int32) (g0 : Int32) (g1 : Int32) (h : jH), 0 ≤ l3.toInt ∧ l3.toInt ≤ 399 → 0 ≤ g0.toInt ∧ g0.toInt ≤ 400 → 0 ≤ g1.toInt ∧ g1.toInt ≤ 3 → (g1.toInt ≠ 3 ∨ g0.toInt ≤ 399) → jiv h 68 3 = g0 → jiv h 68 5 = g1 → 400 - l3.toInt ≤ R4 → jJ jSgX Dy h → jSm fp_X2_readSum_r95_c4 h0 h → jX m_X2_readSum 14 0 0 148 [(0, .ref 95), (1, .int 4), (3, .int l3)] [.int 4] h 0 0 Q := by
  intro l3 g0 g1 h y0 y1 y2 y3 z0 z1 m4 J Sm
  refine x_istoren (lsx9 := [(2, .int 4), (0, .ref 95), (1, .int 4), (3, .int l3)]) rfl rfl rfl ?_
  refine x_iloadn (x := 4) rfl rfl ?_
  refine x_iconst (v := (-1)) rfl ki_m1 ?_
  refine x_icne (tgt := 156) rfl rfl (ti_ne jk_4 jk_m1 (bn_t (by omega) ?_))
  refine x_aloadn (x := 95) rfl rfl ?_
  refine z_getR (N := 6) (b := 68) 2 0 rfl f_2_30 rfl J rfl 12160 ⟨rfl, rfl⟩ rfl ?_
  refine x_inv (N := m_X9_step) (As := []) (b := 68) (st := []) (dx9 := 2) (mc := 0) (ms := 0) (host := "") 9 rfl t_X9_step ⟨Or.inl q_2_62, i_X9_step.1, i_X9_step.2⟩ ⟨by decide, rfl⟩ (congrArg Prod.fst (J.1.1 68 (9, 6) rfl)) rfl (by decide) rfl rfl ⟨by decide, by decide⟩ (sf_X9_step_r68  hD J z1 z0 (by omega)  (fun h J S1 u2 u3 qu2 qu3 ru2 => ?_))
  have Sm := jSm_tr rfl Sm S1
  have eu2 := (show 0 ≤ u2.toInt ∧ u2.toInt ≤ 3 from qu2 ▸ jrg_f J sg_68_5_6_1_0_1)
  have eu3 := (show 0 ≤ u3.toInt ∧ u3.toInt ≤ 400 from qu3 ▸ jrg_f J sg_68_3_4_1_0_1)
  show jX m_X2_readSum 14 0 0 163 [(2, .int 4), (0, .ref 95), (1, .int 4), (3, .int l3)] [] _ 0 0 _
  refine z_iinc (x := l3) (lsx9 := fun v4 => [(3, .int v4), (2, .int 4), (0, .ref 95), (1, .int 4)]) rfl rfl rfl jko_1 (by omega) rfl (fun _ => rfl) (fun v4 ev4 => ?_)
  refine x_goto (tgt := 4) rfl rfl ?_
  exact jX.sub (jsb_c rfl (jsb_c rfl (jsb_c rfl (jsb_c rfl jsb_n)))) (k4 4 v4 u3 u2 h (by omega) (jr_of jk_4 (by omega)) (jr_of rfl (by omega)) (jr_of rfl (by omega)) (jr_of rfl (by omega)) (by omega) qu3 qu2 J Sm)
set_option maxRecDepth 100000 in
set_option maxHeartbeats 4000000 in
theorem ct_X2_readSum_r95_c4_500148 {Dy : jH → Prop} {h0 : jH} {Q : Option Value → jH → Prop} {R4 : Int} (hD : jDk Dy) (hQ : ∀ (v : Int32) hx9, 0 ≤ v.toInt ∧ v.toInt ≤ 1 → jJ jSgX Dy hx9 → jSm fp_X2_readSum_r95_c4 h0 hx9 → ∀ u0 u1 : Int32, jiv hx9 68 5 = u0 → jiv hx9 68 3 = u1 → (u0.toInt ≠ 3 ∨ u1.toInt ≤ 399) → Q (some (.int v)) hx9) (k4 : ∀ (l2 : Int32) (l3 : Int32) (g0 : Int32) (g1 : Int32) (h : jH), 400 - l3.toInt < R4 → (-1) ≤ l2.toInt ∧ l2.toInt ≤ 4 → 0 ≤ l3.toInt ∧ l3.toInt ≤ 400 → 0 ≤ g0.toInt ∧ g0.toInt ≤ 400 → 0 ≤ g1.toInt ∧ g1.toInt ≤ 3 → (g1.toInt ≠ 3 ∨ g0.toInt ≤ 399) → jiv h 68 3 = g0 → jiv h 68 5 = g1 → jJ jSgX Dy h → jSm fp_X2_readSum_r95_c4 h0 h → jX m_X2_readSum 14 0 0 4 [(0, .ref 95), (1, .int 4), (2, .int l2), (3, .int l3)] [] h 0 0 Q) : ∀ (l3 : Int32) (g0 : Int32) (g1 : Int32) (h : jH), 0 ≤ l3.toInt ∧ l3.toInt ≤ 399 → 0 ≤ g0.toInt ∧ g0.toInt ≤ 400 → 0 ≤ g1.toInt ∧ g1.toInt ≤ 3 → (g1.toInt ≠ 3 ∨ g0.toInt ≤ 399) → jiv h 68 3 = g0 → jiv h 68 5 = g1 → 400 - l3.toInt ≤ R4 → jJ jSgX Dy h → jSm fp_X2_readSum_r95_c4 h0 h → jX m_X2_readSum 14 0 0 148 [(0, .ref 95), (1, .int 4), (3, .int l3)] [.int 3] h 0 0 Q := by
  intro l3 g0 g1 h y0 y1 y2 y3 z0 z1 m4 J Sm
  refine x_istoren (lsx9 := [(2, .int 3), (0, .ref 95), (1, .int 4), (3, .int l3)]) rfl rfl rfl ?_
  refine x_iloadn (x := 3) rfl rfl ?_
  refine x_iconst (v := (-1)) rfl ki_m1 ?_
  refine x_icne (tgt := 156) rfl rfl (ti_ne jk_3 jk_m1 (bn_t (by omega) ?_))
  refine x_aloadn (x := 95) rfl rfl ?_
  refine z_getR (N := 6) (b := 68) 2 0 rfl f_2_30 rfl J rfl 12160 ⟨rfl, rfl⟩ rfl ?_
  refine x_inv (N := m_X9_step) (As := []) (b := 68) (st := []) (dx9 := 2) (mc := 0) (ms := 0) (host := "") 9 rfl t_X9_step ⟨Or.inl q_2_62, i_X9_step.1, i_X9_step.2⟩ ⟨by decide, rfl⟩ (congrArg Prod.fst (J.1.1 68 (9, 6) rfl)) rfl (by decide) rfl rfl ⟨by decide, by decide⟩ (sf_X9_step_r68  hD J z1 z0 (by omega)  (fun h J S1 u2 u3 qu2 qu3 ru2 => ?_))
  have Sm := jSm_tr rfl Sm S1
  have eu2 := (show 0 ≤ u2.toInt ∧ u2.toInt ≤ 3 from qu2 ▸ jrg_f J sg_68_5_6_1_0_1)
  have eu3 := (show 0 ≤ u3.toInt ∧ u3.toInt ≤ 400 from qu3 ▸ jrg_f J sg_68_3_4_1_0_1)
  show jX m_X2_readSum 14 0 0 163 [(2, .int 3), (0, .ref 95), (1, .int 4), (3, .int l3)] [] _ 0 0 _
  refine z_iinc (x := l3) (lsx9 := fun v4 => [(3, .int v4), (2, .int 3), (0, .ref 95), (1, .int 4)]) rfl rfl rfl jko_1 (by omega) rfl (fun _ => rfl) (fun v4 ev4 => ?_)
  refine x_goto (tgt := 4) rfl rfl ?_
  exact jX.sub (jsb_c rfl (jsb_c rfl (jsb_c rfl (jsb_c rfl jsb_n)))) (k4 3 v4 u3 u2 h (by omega) (jr_of jk_3 (by omega)) (jr_of rfl (by omega)) (jr_of rfl (by omega)) (jr_of rfl (by omega)) (by omega) qu3 qu2 J Sm)
set_option maxRecDepth 100000 in
set_option maxHeartbeats 4000000 in
theorem ct_X2_readSum_r95_c4_115 {Dy : jH → Prop} {h0 : jH} {Q : Option Value → jH → Prop} {R4 : Int} (hD : jDk Dy) (hQ : ∀ (v : Int32) hx9, 0 ≤ v.toInt ∧ v.toInt ≤ 1 → jJ jSgX Dy hx9 → jSm fp_X2_readSum_r95_c4 h0 hx9 → ∀ u0 u1 : Int32, jiv hx9 68 5 = u0 → jiv hx9 68 3 = u1 → (u0.toInt ≠ 3 ∨ u1.toInt ≤ 399) → Q (some (.int v)) hx9) (k4 : ∀ (l2 : Int32) (l3 : Int32) (g0 : Int32) (g1 : Int32) (h : jH), 400 - l3.toInt < R4 → (-1) ≤ l2.toInt ∧ l2.toInt ≤ 4 → 0 ≤ l3.toInt ∧ l3.toInt ≤ 400 → 0 ≤ g0.toInt ∧ g0.toInt ≤ 400 → 0 ≤ g1.toInt ∧ g1.toInt ≤ 3 → (g1.toInt ≠ 3 ∨ g0.toInt ≤ 399) → jiv h 68 3 = g0 → jiv h 68 5 = g1 → jJ jSgX Dy h → jSm fp_X2_readSum_r95_c4 h0 h → jX m_X2_readSum 14 0 0 4 [(0, .ref 95), (1, .int 4), (2, .int l2), (3, .int l3)] [] h 0 0 Q) : ∀ (l3 : Int32) (g0 : Int32) (g1 : Int32) (h : jH), 0 ≤ l3.toInt ∧ l3.toInt ≤ 399 → 0 ≤ g0.toInt ∧ g0.toInt ≤ 400 → 0 ≤ g1.toInt ∧ g1.toInt ≤ 3 → (g1.toInt ≠ 3 ∨ g0.toInt ≤ 399) → jiv h 68 3 = g0 → jiv h 68 5 = g1 → 400 - l3.toInt ≤ R4 → jJ jSgX Dy h → jSm fp_X2_readSum_r95_c4 h0 h → jX m_X2_readSum 14 0 0 115 [(0, .ref 95), (1, .int 4), (3, .int l3)] [] h 0 0 Q := by
  intro l3 g0 g1 h y0 y1 y2 y3 z0 z1 m4 J Sm
  refine x_aloadn (x := 95) rfl rfl ?_
  refine z_getR (N := 6) (b := 68) 2 0 rfl f_2_30 rfl J rfl 12160 ⟨rfl, rfl⟩ rfl ?_
  refine x_bipush (v := 43) rfl kb_43 ?_
  refine x_inv (N := m_X9_isSign) (As := [.int 43]) (b := 68) (st := []) (dx9 := 1) (mc := 0) (ms := 0) (host := "") 9 rfl t_X9_isSign ⟨Or.inl q_2_55, i_X9_isSign.1, i_X9_isSign.2⟩ ⟨by decide, rfl⟩ (congrArg Prod.fst (J.1.1 68 (9, 6) rfl)) rfl (by decide) rfl rfl ⟨by decide, by decide⟩ (sf_X9_isSign_r68 (jr_of jk_43 (by omega)) hD J z1 z0 (by omega)  (fun v4 h ev4 J S1 u2 u3 qu2 qu3 ru2 => ?_))
  have Sm := jSm_tr rfl Sm S1
  have eu2 := (show 0 ≤ u2.toInt ∧ u2.toInt ≤ 3 from qu2 ▸ jrg_f J sg_68_5_6_1_0_1)
  have eu3 := (show 0 ≤ u3.toInt ∧ u3.toInt ≤ 400 from qu3 ▸ jrg_f J sg_68_3_4_1_0_1)
  show jX m_X2_readSum 14 0 0 124 [(0, .ref 95), (1, .int 4), (3, .int l3)] [.int v4] _ 0 0 _
  refine x_ifeq (tgt := 131) rfl rfl (ti_eq rfl jk_0 ⟨fun c5 => ?_, fun c5 => ?_⟩)
  ·
    refine x_aloadn (x := 95) rfl rfl ?_
    refine z_getR (N := 6) (b := 68) 2 0 rfl f_2_30 rfl J rfl 12160 ⟨rfl, rfl⟩ rfl ?_
    refine x_bipush (v := 45) rfl kb_45 ?_
    refine x_inv (N := m_X9_isSign) (As := [.int 45]) (b := 68) (st := []) (dx9 := 1) (mc := 0) (ms := 0) (host := "") 9 rfl t_X9_isSign ⟨Or.inl q_2_55, i_X9_isSign.1, i_X9_isSign.2⟩ ⟨by decide, rfl⟩ (congrArg Prod.fst (J.1.1 68 (9, 6) rfl)) rfl (by decide) rfl rfl ⟨by decide, by decide⟩ (sf_X9_isSign_r68 (jr_of jk_45 (by omega)) hD J qu2 qu3 (by omega)  (fun v9 h ev9 J S6 u7 u8 qu7 qu8 ru7 => ?_))
    have Sm := jSm_tr rfl Sm S6
    have eu7 := (show 0 ≤ u7.toInt ∧ u7.toInt ≤ 3 from qu7 ▸ jrg_f J sg_68_5_6_1_0_1)
    have eu8 := (show 0 ≤ u8.toInt ∧ u8.toInt ≤ 400 from qu8 ▸ jrg_f J sg_68_3_4_1_0_1)
    show jX m_X2_readSum 14 0 0 140 [(0, .ref 95), (1, .int 4), (3, .int l3)] [.int v9] _ 0 0 _
    refine x_ifeq (tgt := 147) rfl rfl (ti_eq rfl jk_0 ⟨fun c10 => ?_, fun c10 => ?_⟩)
    ·
      refine x_iconst (v := (-1)) rfl ki_m1 ?_
      exact jX.sub (jsb_c rfl (jsb_c rfl (jsb_c rfl jsb_n))) (ct_X2_readSum_r95_c4_100148 hD hQ k4 l3 u8 u7 h (jr_of rfl (by omega)) (jr_of rfl (by omega)) (jr_of rfl (by omega)) (by omega) qu8 qu7 (by omega) J Sm)
    ·
      refine x_iconst (v := 4) rfl ki_4 ?_
      refine x_goto (tgt := 148) rfl rfl ?_
      exact jX.sub (jsb_c rfl (jsb_c rfl (jsb_c rfl jsb_n))) (ct_X2_readSum_r95_c4_600148 hD hQ k4 l3 u8 u7 h (jr_of rfl (by omega)) (jr_of rfl (by omega)) (jr_of rfl (by omega)) (by omega) qu8 qu7 (by omega) J Sm)
  ·
    refine x_iconst (v := 3) rfl ki_3 ?_
    refine x_goto (tgt := 148) rfl rfl ?_
    exact jX.sub (jsb_c rfl (jsb_c rfl (jsb_c rfl jsb_n))) (ct_X2_readSum_r95_c4_500148 hD hQ k4 l3 u3 u2 h (jr_of rfl (by omega)) (jr_of rfl (by omega)) (jr_of rfl (by omega)) (by omega) qu3 qu2 (by omega) J Sm)
set_option maxRecDepth 100000 in
set_option maxHeartbeats 4000000 in
theorem ct_X2_readSum_r95_c4_105 {Dy : jH → Prop} {h0 : jH} {Q : Option Value → jH → Prop} {R4 : Int} (hD : jDk Dy) (hQ : ∀ (v : Int32) hx9, 0 ≤ v.toInt ∧ v.toInt ≤ 1 → jJ jSgX Dy hx9 → jSm fp_X2_readSum_r95_c4 h0 hx9 → ∀ u0 u1 : Int32, jiv hx9 68 5 = u0 → jiv hx9 68 3 = u1 → (u0.toInt ≠ 3 ∨ u1.toInt ≤ 399) → Q (some (.int v)) hx9) (k4 : ∀ (l2 : Int32) (l3 : Int32) (g0 : Int32) (g1 : Int32) (h : jH), 400 - l3.toInt < R4 → (-1) ≤ l2.toInt ∧ l2.toInt ≤ 4 → 0 ≤ l3.toInt ∧ l3.toInt ≤ 400 → 0 ≤ g0.toInt ∧ g0.toInt ≤ 400 → 0 ≤ g1.toInt ∧ g1.toInt ≤ 3 → (g1.toInt ≠ 3 ∨ g0.toInt ≤ 399) → jiv h 68 3 = g0 → jiv h 68 5 = g1 → jJ jSgX Dy h → jSm fp_X2_readSum_r95_c4 h0 h → jX m_X2_readSum 14 0 0 4 [(0, .ref 95), (1, .int 4), (2, .int l2), (3, .int l3)] [] h 0 0 Q) : ∀ (l2 : Int32) (l3 : Int32) (g0 : Int32) (g1 : Int32) (h : jH), (-1) ≤ l2.toInt ∧ l2.toInt ≤ 4 → 0 ≤ l3.toInt ∧ l3.toInt ≤ 399 → 0 ≤ g0.toInt ∧ g0.toInt ≤ 400 → 0 ≤ g1.toInt ∧ g1.toInt ≤ 3 → (g1.toInt ≠ 3 ∨ g0.toInt ≤ 399) → jiv h 68 3 = g0 → jiv h 68 5 = g1 → 400 - l3.toInt ≤ R4 → jJ jSgX Dy h → jSm fp_X2_readSum_r95_c4 h0 h → jX m_X2_readSum 14 0 0 105 [(0, .ref 95), (1, .int 4), (2, .int l2), (3, .int l3)] [] h 0 0 Q := by
  intro l2 l3 g0 g1 h y0 y1 y2 y3 y4 z0 z1 m4 J Sm
  refine x_iloadn (x := l2) rfl rfl ?_
  refine x_iconst (v := (-1)) rfl ki_m1 ?_
  refine x_iceq (tgt := 115) rfl rfl (ti_eq rfl jk_m1 ⟨fun c1 => ?_, fun c1 => ?_⟩)
  ·
    exact jX.sub (jsb_c rfl (jsb_c rfl (jsb_c rfl jsb_n))) (ct_X2_readSum_r95_c4_115 hD hQ k4 l3 g0 g1 h (jr_of rfl (by omega)) (jr_of rfl (by omega)) (jr_of rfl (by omega)) (by omega) z0 z1 (by omega) J Sm)
  ·
    refine x_aloadn (x := 95) rfl rfl ?_
    refine x_iloadn (x := l2) rfl rfl ?_
    refine x_inv (N := m_X2_emit) (As := [.int l2]) (b := 95) (st := []) (dx9 := 1) (mc := 0) (ms := 0) (host := "") 2 rfl t_X2_emit ⟨Or.inl q_2_89, i_X2_emit.1, i_X2_emit.2⟩ ⟨by decide, rfl⟩ (congrArg Prod.fst (J.1.1 95 (2, 6) rfl)) rfl (by decide) rfl rfl ⟨by decide, by decide⟩ (sf_X2_emit_r95  hD J  (fun h J S2 => ?_))
    have Sm := jSm_tr rfl Sm S2
    show jX m_X2_readSum 14 0 0 115 [(0, .ref 95), (1, .int 4), (2, .int l2), (3, .int l3)] [] _ 0 0 _
    exact jX.sub (jsb_c rfl (jsb_c rfl (jsb_c rfl jsb_n))) (ct_X2_readSum_r95_c4_115 hD hQ k4 l3 g0 g1 h (jr_of rfl (by omega)) (jr_of rfl (by omega)) (jr_of rfl (by omega)) (by omega) (jmc S2 rfl z0) (jmc S2 rfl z1) (by omega) J Sm)
set_option maxRecDepth 100000 in
set_option maxHeartbeats 4000000 in
theorem ct_X2_readSum_r95_c4_100081 {Dy : jH → Prop} {h0 : jH} {Q : Option Value → jH → Prop} {R4 : Int} {R17 : Int} (hD : jDk Dy) (hQ : ∀ (v : Int32) hx9, 0 ≤ v.toInt ∧ v.toInt ≤ 1 → jJ jSgX Dy hx9 → jSm fp_X2_readSum_r95_c4 h0 hx9 → ∀ u0 u1 : Int32, jiv hx9 68 5 = u0 → jiv hx9 68 3 = u1 → (u0.toInt ≠ 3 ∨ u1.toInt ≤ 399) → Q (some (.int v)) hx9) (k4 : ∀ (l2 : Int32) (l3 : Int32) (g0 : Int32) (g1 : Int32) (h : jH), 400 - l3.toInt < R4 → (-1) ≤ l2.toInt ∧ l2.toInt ≤ 4 → 0 ≤ l3.toInt ∧ l3.toInt ≤ 400 → 0 ≤ g0.toInt ∧ g0.toInt ≤ 400 → 0 ≤ g1.toInt ∧ g1.toInt ≤ 3 → (g1.toInt ≠ 3 ∨ g0.toInt ≤ 399) → jiv h 68 3 = g0 → jiv h 68 5 = g1 → jJ jSgX Dy h → jSm fp_X2_readSum_r95_c4 h0 h → jX m_X2_readSum 14 0 0 4 [(0, .ref 95), (1, .int 4), (2, .int l2), (3, .int l3)] [] h 0 0 Q) (k17 : ∀ (l2 : Int32) (l3 : Int32) (l4 : Int32) (l5 : Int32) (g0 : Int32) (g1 : Int32) (h : jH), 400 - l5.toInt < R17 → (-1) ≤ l2.toInt ∧ l2.toInt ≤ 4 → 0 ≤ l3.toInt ∧ l3.toInt ≤ 399 → (-1) ≤ l4.toInt ∧ l4.toInt ≤ 6 → 0 ≤ l5.toInt ∧ l5.toInt ≤ 400 → 0 ≤ g0.toInt ∧ g0.toInt ≤ 400 → 0 ≤ g1.toInt ∧ g1.toInt ≤ 3 → (g1.toInt ≠ 3 ∨ g0.toInt ≤ 399) → jiv h 68 3 = g0 → jiv h 68 5 = g1 → 400 - l3.toInt ≤ R4 → jJ jSgX Dy h → jSm fp_X2_readSum_r95_c4 h0 h → jX m_X2_readSum 14 0 0 17 [(0, .ref 95), (1, .int 4), (2, .int l2), (3, .int l3), (4, .int l4), (5, .int l5)] [] h 0 0 Q) : ∀ (l2 : Int32) (l3 : Int32) (l5 : Int32) (g0 : Int32) (g1 : Int32) (h : jH), (-1) ≤ l2.toInt ∧ l2.toInt ≤ 4 → 0 ≤ l3.toInt ∧ l3.toInt ≤ 399 → 0 ≤ l5.toInt ∧ l5.toInt ≤ 399 → 0 ≤ g0.toInt ∧ g0.toInt ≤ 400 → 0 ≤ g1.toInt ∧ g1.toInt ≤ 3 → (g1.toInt ≠ 3 ∨ g0.toInt ≤ 399) → jiv h 68 3 = g0 → jiv h 68 5 = g1 → 400 - l3.toInt ≤ R4 → 400 - l5.toInt ≤ R17 → jJ jSgX Dy h → jSm fp_X2_readSum_r95_c4 h0 h → jX m_X2_readSum 14 0 0 81 [(0, .ref 95), (1, .int 4), (2, .int l2), (3, .int l3), (5, .int l5)] [.int (-1)] h 0 0 Q := by
  intro l2 l3 l5 g0 g1 h y0 y1 y2 y3 y4 y5 z0 z1 m4 m17 J Sm
  refine x_istore (lsx9 := [(4, .int (-1)), (0, .ref 95), (1, .int 4), (2, .int l2), (3, .int l3), (5, .int l5)]) rfl rfl rfl ?_
  refine x_iload (x := (-1)) rfl rfl ?_
  refine x_iconst (v := (-1)) rfl ki_m1 ?_
  refine x_icne (tgt := 92) rfl rfl (ti_ne jk_m1 jk_m1 (bn_f (by omega) ?_))
  refine x_goto (tgt := 105) rfl rfl ?_
  exact jX.sub (jsb_c rfl (jsb_c rfl (jsb_c rfl (jsb_c rfl jsb_n)))) (ct_X2_readSum_r95_c4_105 hD hQ k4 l2 l3 g0 g1 h (jr_of rfl (by omega)) (jr_of rfl (by omega)) (jr_of rfl (by omega)) (jr_of rfl (by omega)) (by omega) z0 z1 (by omega) J Sm)
set_option maxRecDepth 100000 in
set_option maxHeartbeats 4000000 in
theorem ct_X2_readSum_r95_c4_800081 {Dy : jH → Prop} {h0 : jH} {Q : Option Value → jH → Prop} {R4 : Int} {R17 : Int} (hD : jDk Dy) (hQ : ∀ (v : Int32) hx9, 0 ≤ v.toInt ∧ v.toInt ≤ 1 → jJ jSgX Dy hx9 → jSm fp_X2_readSum_r95_c4 h0 hx9 → ∀ u0 u1 : Int32, jiv hx9 68 5 = u0 → jiv hx9 68 3 = u1 → (u0.toInt ≠ 3 ∨ u1.toInt ≤ 399) → Q (some (.int v)) hx9) (k4 : ∀ (l2 : Int32) (l3 : Int32) (g0 : Int32) (g1 : Int32) (h : jH), 400 - l3.toInt < R4 → (-1) ≤ l2.toInt ∧ l2.toInt ≤ 4 → 0 ≤ l3.toInt ∧ l3.toInt ≤ 400 → 0 ≤ g0.toInt ∧ g0.toInt ≤ 400 → 0 ≤ g1.toInt ∧ g1.toInt ≤ 3 → (g1.toInt ≠ 3 ∨ g0.toInt ≤ 399) → jiv h 68 3 = g0 → jiv h 68 5 = g1 → jJ jSgX Dy h → jSm fp_X2_readSum_r95_c4 h0 h → jX m_X2_readSum 14 0 0 4 [(0, .ref 95), (1, .int 4), (2, .int l2), (3, .int l3)] [] h 0 0 Q) (k17 : ∀ (l2 : Int32) (l3 : Int32) (l4 : Int32) (l5 : Int32) (g0 : Int32) (g1 : Int32) (h : jH), 400 - l5.toInt < R17 → (-1) ≤ l2.toInt ∧ l2.toInt ≤ 4 → 0 ≤ l3.toInt ∧ l3.toInt ≤ 399 → (-1) ≤ l4.toInt ∧ l4.toInt ≤ 6 → 0 ≤ l5.toInt ∧ l5.toInt ≤ 400 → 0 ≤ g0.toInt ∧ g0.toInt ≤ 400 → 0 ≤ g1.toInt ∧ g1.toInt ≤ 3 → (g1.toInt ≠ 3 ∨ g0.toInt ≤ 399) → jiv h 68 3 = g0 → jiv h 68 5 = g1 → 400 - l3.toInt ≤ R4 → jJ jSgX Dy h → jSm fp_X2_readSum_r95_c4 h0 h → jX m_X2_readSum 14 0 0 17 [(0, .ref 95), (1, .int 4), (2, .int l2), (3, .int l3), (4, .int l4), (5, .int l5)] [] h 0 0 Q) : ∀ (l2 : Int32) (l3 : Int32) (l5 : Int32) (g0 : Int32) (g1 : Int32) (h : jH), (-1) ≤ l2.toInt ∧ l2.toInt ≤ 4 → 0 ≤ l3.toInt ∧ l3.toInt ≤ 399 → 0 ≤ l5.toInt ∧ l5.toInt ≤ 399 → 0 ≤ g0.toInt ∧ g0.toInt ≤ 400 → 0 ≤ g1.toInt ∧ g1.toInt ≤ 3 → (g1.toInt ≠ 3 ∨ g0.toInt ≤ 399) → jiv h 68 3 = g0 → jiv h 68 5 = g1 → 400 - l3.toInt ≤ R4 → 400 - l5.toInt ≤ R17 → jJ jSgX Dy h → jSm fp_X2_readSum_r95_c4 h0 h → jX m_X2_readSum 14 0 0 81 [(0, .ref 95), (1, .int 4), (2, .int l2), (3, .int l3), (5, .int l5)] [.int 6] h 0 0 Q := by
  intro l2 l3 l5 g0 g1 h y0 y1 y2 y3 y4 y5 z0 z1 m4 m17 J Sm
  refine x_istore (lsx9 := [(4, .int 6), (0, .ref 95), (1, .int 4), (2, .int l2), (3, .int l3), (5, .int l5)]) rfl rfl rfl ?_
  refine x_iload (x := 6) rfl rfl ?_
  refine x_iconst (v := (-1)) rfl ki_m1 ?_
  refine x_icne (tgt := 92) rfl rfl (ti_ne jk_6 jk_m1 (bn_t (by omega) ?_))
  refine x_aloadn (x := 95) rfl rfl ?_
  refine z_getR (N := 6) (b := 68) 2 0 rfl f_2_30 rfl J rfl 12160 ⟨rfl, rfl⟩ rfl ?_
  refine x_inv (N := m_X9_step) (As := []) (b := 68) (st := []) (dx9 := 2) (mc := 0) (ms := 0) (host := "") 9 rfl t_X9_step ⟨Or.inl q_2_62, i_X9_step.1, i_X9_step.2⟩ ⟨by decide, rfl⟩ (congrArg Prod.fst (J.1.1 68 (9, 6) rfl)) rfl (by decide) rfl rfl ⟨by decide, by decide⟩ (sf_X9_step_r68  hD J z1 z0 (by omega)  (fun h J S1 u2 u3 qu2 qu3 ru2 => ?_))
  have Sm := jSm_tr rfl Sm S1
  have eu2 := (show 0 ≤ u2.toInt ∧ u2.toInt ≤ 3 from qu2 ▸ jrg_f J sg_68_5_6_1_0_1)
  have eu3 := (show 0 ≤ u3.toInt ∧ u3.toInt ≤ 400 from qu3 ▸ jrg_f J sg_68_3_4_1_0_1)
  show jX m_X2_readSum 14 0 0 99 [(4, .int 6), (0, .ref 95), (1, .int 4), (2, .int l2), (3, .int l3), (5, .int l5)] [] _ 0 0 _
  refine z_iinc (x := l5) (lsx9 := fun v4 => [(5, .int v4), (4, .int 6), (0, .ref 95), (1, .int 4), (2, .int l2), (3, .int l3)]) rfl rfl rfl jko_1 (by omega) rfl (fun _ => rfl) (fun v4 ev4 => ?_)
  refine x_goto (tgt := 17) rfl rfl ?_
  exact jX.sub (jsb_c rfl (jsb_c rfl (jsb_c rfl (jsb_c rfl (jsb_c rfl (jsb_c rfl jsb_n)))))) (k17 l2 l3 6 v4 u3 u2 h (by omega) (jr_of rfl (by omega)) (jr_of rfl (by omega)) (jr_of jk_6 (by omega)) (jr_of rfl (by omega)) (jr_of rfl (by omega)) (jr_of rfl (by omega)) (by omega) qu3 qu2 (by omega) J Sm)
set_option maxRecDepth 100000 in
set_option maxHeartbeats 4000000 in
theorem ct_X2_readSum_r95_c4_700081 {Dy : jH → Prop} {h0 : jH} {Q : Option Value → jH → Prop} {R4 : Int} {R17 : Int} (hD : jDk Dy) (hQ : ∀ (v : Int32) hx9, 0 ≤ v.toInt ∧ v.toInt ≤ 1 → jJ jSgX Dy hx9 → jSm fp_X2_readSum_r95_c4 h0 hx9 → ∀ u0 u1 : Int32, jiv hx9 68 5 = u0 → jiv hx9 68 3 = u1 → (u0.toInt ≠ 3 ∨ u1.toInt ≤ 399) → Q (some (.int v)) hx9) (k4 : ∀ (l2 : Int32) (l3 : Int32) (g0 : Int32) (g1 : Int32) (h : jH), 400 - l3.toInt < R4 → (-1) ≤ l2.toInt ∧ l2.toInt ≤ 4 → 0 ≤ l3.toInt ∧ l3.toInt ≤ 400 → 0 ≤ g0.toInt ∧ g0.toInt ≤ 400 → 0 ≤ g1.toInt ∧ g1.toInt ≤ 3 → (g1.toInt ≠ 3 ∨ g0.toInt ≤ 399) → jiv h 68 3 = g0 → jiv h 68 5 = g1 → jJ jSgX Dy h → jSm fp_X2_readSum_r95_c4 h0 h → jX m_X2_readSum 14 0 0 4 [(0, .ref 95), (1, .int 4), (2, .int l2), (3, .int l3)] [] h 0 0 Q) (k17 : ∀ (l2 : Int32) (l3 : Int32) (l4 : Int32) (l5 : Int32) (g0 : Int32) (g1 : Int32) (h : jH), 400 - l5.toInt < R17 → (-1) ≤ l2.toInt ∧ l2.toInt ≤ 4 → 0 ≤ l3.toInt ∧ l3.toInt ≤ 399 → (-1) ≤ l4.toInt ∧ l4.toInt ≤ 6 → 0 ≤ l5.toInt ∧ l5.toInt ≤ 400 → 0 ≤ g0.toInt ∧ g0.toInt ≤ 400 → 0 ≤ g1.toInt ∧ g1.toInt ≤ 3 → (g1.toInt ≠ 3 ∨ g0.toInt ≤ 399) → jiv h 68 3 = g0 → jiv h 68 5 = g1 → 400 - l3.toInt ≤ R4 → jJ jSgX Dy h → jSm fp_X2_readSum_r95_c4 h0 h → jX m_X2_readSum 14 0 0 17 [(0, .ref 95), (1, .int 4), (2, .int l2), (3, .int l3), (4, .int l4), (5, .int l5)] [] h 0 0 Q) : ∀ (l2 : Int32) (l3 : Int32) (l5 : Int32) (g0 : Int32) (g1 : Int32) (h : jH), (-1) ≤ l2.toInt ∧ l2.toInt ≤ 4 → 0 ≤ l3.toInt ∧ l3.toInt ≤ 399 → 0 ≤ l5.toInt ∧ l5.toInt ≤ 399 → 0 ≤ g0.toInt ∧ g0.toInt ≤ 400 → 0 ≤ g1.toInt ∧ g1.toInt ≤ 3 → (g1.toInt ≠ 3 ∨ g0.toInt ≤ 399) → jiv h 68 3 = g0 → jiv h 68 5 = g1 → 400 - l3.toInt ≤ R4 → 400 - l5.toInt ≤ R17 → jJ jSgX Dy h → jSm fp_X2_readSum_r95_c4 h0 h → jX m_X2_readSum 14 0 0 81 [(0, .ref 95), (1, .int 4), (2, .int l2), (3, .int l3), (5, .int l5)] [.int 5] h 0 0 Q := by
  intro l2 l3 l5 g0 g1 h y0 y1 y2 y3 y4 y5 z0 z1 m4 m17 J Sm
  refine x_istore (lsx9 := [(4, .int 5), (0, .ref 95), (1, .int 4), (2, .int l2), (3, .int l3), (5, .int l5)]) rfl rfl rfl ?_
  refine x_iload (x := 5) rfl rfl ?_
  refine x_iconst (v := (-1)) rfl ki_m1 ?_
  refine x_icne (tgt := 92) rfl rfl (ti_ne jk_5 jk_m1 (bn_t (by omega) ?_))
  refine x_aloadn (x := 95) rfl rfl ?_
  refine z_getR (N := 6) (b := 68) 2 0 rfl f_2_30 rfl J rfl 12160 ⟨rfl, rfl⟩ rfl ?_
  refine x_inv (N := m_X9_step) (As := []) (b := 68) (st := []) (dx9 := 2) (mc := 0) (ms := 0) (host := "") 9 rfl t_X9_step ⟨Or.inl q_2_62, i_X9_step.1, i_X9_step.2⟩ ⟨by decide, rfl⟩ (congrArg Prod.fst (J.1.1 68 (9, 6) rfl)) rfl (by decide) rfl rfl ⟨by decide, by decide⟩ (sf_X9_step_r68  hD J z1 z0 (by omega)  (fun h J S1 u2 u3 qu2 qu3 ru2 => ?_))
  have Sm := jSm_tr rfl Sm S1
  have eu2 := (show 0 ≤ u2.toInt ∧ u2.toInt ≤ 3 from qu2 ▸ jrg_f J sg_68_5_6_1_0_1)
  have eu3 := (show 0 ≤ u3.toInt ∧ u3.toInt ≤ 400 from qu3 ▸ jrg_f J sg_68_3_4_1_0_1)
  show jX m_X2_readSum 14 0 0 99 [(4, .int 5), (0, .ref 95), (1, .int 4), (2, .int l2), (3, .int l3), (5, .int l5)] [] _ 0 0 _
  refine z_iinc (x := l5) (lsx9 := fun v4 => [(5, .int v4), (4, .int 5), (0, .ref 95), (1, .int 4), (2, .int l2), (3, .int l3)]) rfl rfl rfl jko_1 (by omega) rfl (fun _ => rfl) (fun v4 ev4 => ?_)
  refine x_goto (tgt := 17) rfl rfl ?_
  exact jX.sub (jsb_c rfl (jsb_c rfl (jsb_c rfl (jsb_c rfl (jsb_c rfl (jsb_c rfl jsb_n)))))) (k17 l2 l3 5 v4 u3 u2 h (by omega) (jr_of rfl (by omega)) (jr_of rfl (by omega)) (jr_of jk_5 (by omega)) (jr_of rfl (by omega)) (jr_of rfl (by omega)) (jr_of rfl (by omega)) (by omega) qu3 qu2 (by omega) J Sm)
set_option maxRecDepth 100000 in
set_option maxHeartbeats 4000000 in
theorem ct_X2_readSum_r95_c4_47 {Dy : jH → Prop} {h0 : jH} {Q : Option Value → jH → Prop} {R4 : Int} {R17 : Int} (hD : jDk Dy) (hQ : ∀ (v : Int32) hx9, 0 ≤ v.toInt ∧ v.toInt ≤ 1 → jJ jSgX Dy hx9 → jSm fp_X2_readSum_r95_c4 h0 hx9 → ∀ u0 u1 : Int32, jiv hx9 68 5 = u0 → jiv hx9 68 3 = u1 → (u0.toInt ≠ 3 ∨ u1.toInt ≤ 399) → Q (some (.int v)) hx9) (k4 : ∀ (l2 : Int32) (l3 : Int32) (g0 : Int32) (g1 : Int32) (h : jH), 400 - l3.toInt < R4 → (-1) ≤ l2.toInt ∧ l2.toInt ≤ 4 → 0 ≤ l3.toInt ∧ l3.toInt ≤ 400 → 0 ≤ g0.toInt ∧ g0.toInt ≤ 400 → 0 ≤ g1.toInt ∧ g1.toInt ≤ 3 → (g1.toInt ≠ 3 ∨ g0.toInt ≤ 399) → jiv h 68 3 = g0 → jiv h 68 5 = g1 → jJ jSgX Dy h → jSm fp_X2_readSum_r95_c4 h0 h → jX m_X2_readSum 14 0 0 4 [(0, .ref 95), (1, .int 4), (2, .int l2), (3, .int l3)] [] h 0 0 Q) (k17 : ∀ (l2 : Int32) (l3 : Int32) (l4 : Int32) (l5 : Int32) (g0 : Int32) (g1 : Int32) (h : jH), 400 - l5.toInt < R17 → (-1) ≤ l2.toInt ∧ l2.toInt ≤ 4 → 0 ≤ l3.toInt ∧ l3.toInt ≤ 399 → (-1) ≤ l4.toInt ∧ l4.toInt ≤ 6 → 0 ≤ l5.toInt ∧ l5.toInt ≤ 400 → 0 ≤ g0.toInt ∧ g0.toInt ≤ 400 → 0 ≤ g1.toInt ∧ g1.toInt ≤ 3 → (g1.toInt ≠ 3 ∨ g0.toInt ≤ 399) → jiv h 68 3 = g0 → jiv h 68 5 = g1 → 400 - l3.toInt ≤ R4 → jJ jSgX Dy h → jSm fp_X2_readSum_r95_c4 h0 h → jX m_X2_readSum 14 0 0 17 [(0, .ref 95), (1, .int 4), (2, .int l2), (3, .int l3), (4, .int l4), (5, .int l5)] [] h 0 0 Q) : ∀ (l2 : Int32) (l3 : Int32) (l5 : Int32) (g0 : Int32) (g1 : Int32) (h : jH), (-1) ≤ l2.toInt ∧ l2.toInt ≤ 4 → 0 ≤ l3.toInt ∧ l3.toInt ≤ 399 → 0 ≤ l5.toInt ∧ l5.toInt ≤ 399 → 0 ≤ g0.toInt ∧ g0.toInt ≤ 400 → 0 ≤ g1.toInt ∧ g1.toInt ≤ 3 → (g1.toInt ≠ 3 ∨ g0.toInt ≤ 399) → jiv h 68 3 = g0 → jiv h 68 5 = g1 → 400 - l3.toInt ≤ R4 → 400 - l5.toInt ≤ R17 → jJ jSgX Dy h → jSm fp_X2_readSum_r95_c4 h0 h → jX m_X2_readSum 14 0 0 47 [(0, .ref 95), (1, .int 4), (2, .int l2), (3, .int l3), (5, .int l5)] [] h 0 0 Q := by
  intro l2 l3 l5 g0 g1 h y0 y1 y2 y3 y4 y5 z0 z1 m4 m17 J Sm
  refine x_aloadn (x := 95) rfl rfl ?_
  refine z_getR (N := 6) (b := 68) 2 0 rfl f_2_30 rfl J rfl 12160 ⟨rfl, rfl⟩ rfl ?_
  refine x_bipush (v := 42) rfl kb_42 ?_
  refine x_inv (N := m_X9_isSign) (As := [.int 42]) (b := 68) (st := []) (dx9 := 1) (mc := 0) (ms := 0) (host := "") 9 rfl t_X9_isSign ⟨Or.inl q_2_55, i_X9_isSign.1, i_X9_isSign.2⟩ ⟨by decide, rfl⟩ (congrArg Prod.fst (J.1.1 68 (9, 6) rfl)) rfl (by decide) rfl rfl ⟨by decide, by decide⟩ (sf_X9_isSign_r68 (jr_of jk_42 (by omega)) hD J z1 z0 (by omega)  (fun v4 h ev4 J S1 u2 u3 qu2 qu3 ru2 => ?_))
  have Sm := jSm_tr rfl Sm S1
  have eu2 := (show 0 ≤ u2.toInt ∧ u2.toInt ≤ 3 from qu2 ▸ jrg_f J sg_68_5_6_1_0_1)
  have eu3 := (show 0 ≤ u3.toInt ∧ u3.toInt ≤ 400 from qu3 ▸ jrg_f J sg_68_3_4_1_0_1)
  show jX m_X2_readSum 14 0 0 56 [(0, .ref 95), (1, .int 4), (2, .int l2), (3, .int l3), (5, .int l5)] [.int v4] _ 0 0 _
  refine x_ifeq (tgt := 63) rfl rfl (ti_eq rfl jk_0 ⟨fun c5 => ?_, fun c5 => ?_⟩)
  ·
    refine x_aloadn (x := 95) rfl rfl ?_
    refine z_getR (N := 6) (b := 68) 2 0 rfl f_2_30 rfl J rfl 12160 ⟨rfl, rfl⟩ rfl ?_
    refine x_bipush (v := 47) rfl kb_47 ?_
    refine x_inv (N := m_X9_isSign) (As := [.int 47]) (b := 68) (st := []) (dx9 := 1) (mc := 0) (ms := 0) (host := "") 9 rfl t_X9_isSign ⟨Or.inl q_2_55, i_X9_isSign.1, i_X9_isSign.2⟩ ⟨by decide, rfl⟩ (congrArg Prod.fst (J.1.1 68 (9, 6) rfl)) rfl (by decide) rfl rfl ⟨by decide, by decide⟩ (sf_X9_isSign_r68 (jr_of jk_47 (by omega)) hD J qu2 qu3 (by omega)  (fun v9 h ev9 J S6 u7 u8 qu7 qu8 ru7 => ?_))
    have Sm := jSm_tr rfl Sm S6
    have eu7 := (show 0 ≤ u7.toInt ∧ u7.toInt ≤ 3 from qu7 ▸ jrg_f J sg_68_5_6_1_0_1)
    have eu8 := (show 0 ≤ u8.toInt ∧ u8.toInt ≤ 400 from qu8 ▸ jrg_f J sg_68_3_4_1_0_1)
    show jX m_X2_readSum 14 0 0 72 [(0, .ref 95), (1, .int 4), (2, .int l2), (3, .int l3), (5, .int l5)] [.int v9] _ 0 0 _
    refine x_ifeq (tgt := 80) rfl rfl (ti_eq rfl jk_0 ⟨fun c10 => ?_, fun c10 => ?_⟩)
    ·
      refine x_iconst (v := (-1)) rfl ki_m1 ?_
      exact jX.sub (jsb_c rfl (jsb_c rfl (jsb_c rfl (jsb_c rfl (jsb_c rfl jsb_n))))) (ct_X2_readSum_r95_c4_100081 hD hQ k4 k17 l2 l3 l5 u8 u7 h (jr_of rfl (by omega)) (jr_of rfl (by omega)) (jr_of rfl (by omega)) (jr_of rfl (by omega)) (jr_of rfl (by omega)) (by omega) qu8 qu7 (by omega) (by omega) J Sm)
    ·
      refine x_bipush (v := 6) rfl kb_6 ?_
      refine x_goto (tgt := 81) rfl rfl ?_
      exact jX.sub (jsb_c rfl (jsb_c rfl (jsb_c rfl (jsb_c rfl (jsb_c rfl jsb_n))))) (ct_X2_readSum_r95_c4_800081 hD hQ k4 k17 l2 l3 l5 u8 u7 h (jr_of rfl (by omega)) (jr_of rfl (by omega)) (jr_of rfl (by omega)) (jr_of rfl (by omega)) (jr_of rfl (by omega)) (by omega) qu8 qu7 (by omega) (by omega) J Sm)
  ·
    refine x_iconst (v := 5) rfl ki_5 ?_
    refine x_goto (tgt := 81) rfl rfl ?_
    exact jX.sub (jsb_c rfl (jsb_c rfl (jsb_c rfl (jsb_c rfl (jsb_c rfl jsb_n))))) (ct_X2_readSum_r95_c4_700081 hD hQ k4 k17 l2 l3 l5 u3 u2 h (jr_of rfl (by omega)) (jr_of rfl (by omega)) (jr_of rfl (by omega)) (jr_of rfl (by omega)) (jr_of rfl (by omega)) (by omega) qu3 qu2 (by omega) (by omega) J Sm)
set_option maxRecDepth 100000 in
set_option maxHeartbeats 4000000 in
theorem ct_X2_readSum_r95_c4_17 {Dy : jH → Prop} {h0 : jH} {Q : Option Value → jH → Prop} {R4 : Int} (hD : jDk Dy) (hQ : ∀ (v : Int32) hx9, 0 ≤ v.toInt ∧ v.toInt ≤ 1 → jJ jSgX Dy hx9 → jSm fp_X2_readSum_r95_c4 h0 hx9 → ∀ u0 u1 : Int32, jiv hx9 68 5 = u0 → jiv hx9 68 3 = u1 → (u0.toInt ≠ 3 ∨ u1.toInt ≤ 399) → Q (some (.int v)) hx9) (k4 : ∀ (l2 : Int32) (l3 : Int32) (g0 : Int32) (g1 : Int32) (h : jH), 400 - l3.toInt < R4 → (-1) ≤ l2.toInt ∧ l2.toInt ≤ 4 → 0 ≤ l3.toInt ∧ l3.toInt ≤ 400 → 0 ≤ g0.toInt ∧ g0.toInt ≤ 400 → 0 ≤ g1.toInt ∧ g1.toInt ≤ 3 → (g1.toInt ≠ 3 ∨ g0.toInt ≤ 399) → jiv h 68 3 = g0 → jiv h 68 5 = g1 → jJ jSgX Dy h → jSm fp_X2_readSum_r95_c4 h0 h → jX m_X2_readSum 14 0 0 4 [(0, .ref 95), (1, .int 4), (2, .int l2), (3, .int l3)] [] h 0 0 Q) : ∀ r : Nat, ∀ (l2 : Int32) (l3 : Int32) (l4 : Int32) (l5 : Int32) (g0 : Int32) (g1 : Int32) (h : jH), 400 - l5.toInt < (r : Int) → (-1) ≤ l2.toInt ∧ l2.toInt ≤ 4 → 0 ≤ l3.toInt ∧ l3.toInt ≤ 399 → (-1) ≤ l4.toInt ∧ l4.toInt ≤ 6 → 0 ≤ l5.toInt ∧ l5.toInt ≤ 400 → 0 ≤ g0.toInt ∧ g0.toInt ≤ 400 → 0 ≤ g1.toInt ∧ g1.toInt ≤ 3 → (g1.toInt ≠ 3 ∨ g0.toInt ≤ 399) → jiv h 68 3 = g0 → jiv h 68 5 = g1 → 400 - l3.toInt ≤ R4 → jJ jSgX Dy h → jSm fp_X2_readSum_r95_c4 h0 h → jX m_X2_readSum 14 0 0 17 [(0, .ref 95), (1, .int 4), (2, .int l2), (3, .int l3), (4, .int l4), (5, .int l5)] [] h 0 0 Q := by
  intro r
  induction r with
  | zero =>
    intro l2 l3 l4 l5 g0 g1 h hm y0 y1 y2 y3 y4 y5 y6 z0 z1 m4 J Sm
    exfalso
    omega
  | succ r ih =>
    intro l2 l3 l4 l5 g0 g1 h hm y0 y1 y2 y3 y4 y5 y6 z0 z1 m4 J Sm
    refine x_iload (x := l5) rfl rfl ?_
    refine x_sipush (v := 400) rfl ks_400 ?_
    refine x_icge (tgt := 105) rfl rfl (ti_ge rfl jk_400 ⟨fun c1 => ?_, fun c1 => ?_⟩)
    ·
      exact jX.sub (jsb_c rfl (jsb_c rfl (jsb_c rfl (jsb_c rfl jsb_n)))) (ct_X2_readSum_r95_c4_105 hD hQ k4 l2 l3 g0 g1 h (jr_of rfl (by omega)) (jr_of rfl (by omega)) (jr_of rfl (by omega)) (jr_of rfl (by omega)) (by omega) z0 z1 (by omega) J Sm)
    ·
      refine x_aloadn (x := 95) rfl rfl ?_
      refine x_iloadn (x := 4) rfl rfl ?_
      refine x_inv (N := m_X2_readFactor) (As := [.int 4]) (b := 95) (st := []) (dx9 := 13) (mc := 0) (ms := 0) (host := "") 2 rfl t_X2_readFactor ⟨Or.inl q_2_144, i_X2_readFactor.1, i_X2_readFactor.2⟩ ⟨by decide, rfl⟩ (congrArg Prod.fst (J.1.1 95 (2, 6) rfl)) rfl (by decide) rfl rfl ⟨by decide, by decide⟩ (sf_X2_readFactor_r95_c4  hD J z1 z0 (by omega)  (fun v5 h ev5 J S2 u3 u4 qu3 qu4 ru3 => ?_))
      have Sm := jSm_tr rfl Sm S2
      have eu3 := (show 0 ≤ u3.toInt ∧ u3.toInt ≤ 3 from qu3 ▸ jrg_f J sg_68_5_6_1_0_1)
      have eu4 := (show 0 ≤ u4.toInt ∧ u4.toInt ≤ 400 from qu4 ▸ jrg_f J sg_68_3_4_1_0_1)
      show jX m_X2_readSum 14 0 0 30 [(0, .ref 95), (1, .int 4), (2, .int l2), (3, .int l3), (4, .int l4), (5, .int l5)] [.int v5] _ 0 0 _
      refine x_ifne (tgt := 35) rfl rfl (ti_ne rfl jk_0 ⟨fun c6 => ?_, fun c6 => ?_⟩)
      ·
        refine x_iload (x := l4) rfl rfl ?_
        refine x_iconst (v := (-1)) rfl ki_m1 ?_
        refine x_iceq (tgt := 47) rfl rfl (ti_eq rfl jk_m1 ⟨fun c7 => ?_, fun c7 => ?_⟩)
        ·
          exact jX.sub (jsb_c rfl (jsb_c rfl (jsb_c rfl (jsb_c rfl (jsb_c rfl jsb_n))))) (ct_X2_readSum_r95_c4_47 hD hQ k4 ih l2 l3 l5 u4 u3 h (jr_of rfl (by omega)) (jr_of rfl (by omega)) (jr_of rfl (by omega)) (jr_of rfl (by omega)) (jr_of rfl (by omega)) (by omega) qu4 qu3 (by omega) (by omega) J Sm)
        ·
          refine x_aloadn (x := 95) rfl rfl ?_
          refine x_iload (x := l4) rfl rfl ?_
          refine x_inv (N := m_X2_emit) (As := [.int l4]) (b := 95) (st := []) (dx9 := 1) (mc := 0) (ms := 0) (host := "") 2 rfl t_X2_emit ⟨Or.inl q_2_89, i_X2_emit.1, i_X2_emit.2⟩ ⟨by decide, rfl⟩ (congrArg Prod.fst (J.1.1 95 (2, 6) rfl)) rfl (by decide) rfl rfl ⟨by decide, by decide⟩ (sf_X2_emit_r95  hD J  (fun h J S8 => ?_))
          have Sm := jSm_tr rfl Sm S8
          show jX m_X2_readSum 14 0 0 47 [(0, .ref 95), (1, .int 4), (2, .int l2), (3, .int l3), (4, .int l4), (5, .int l5)] [] _ 0 0 _
          exact jX.sub (jsb_c rfl (jsb_c rfl (jsb_c rfl (jsb_c rfl (jsb_c rfl jsb_n))))) (ct_X2_readSum_r95_c4_47 hD hQ k4 ih l2 l3 l5 u4 u3 h (jr_of rfl (by omega)) (jr_of rfl (by omega)) (jr_of rfl (by omega)) (jr_of rfl (by omega)) (jr_of rfl (by omega)) (by omega) (jmc S8 rfl qu4) (jmc S8 rfl qu3) (by omega) (by omega) J Sm)
      ·
        refine x_iconst (v := 0) rfl ki_0 ?_
        refine x_zret rfl rfl (by decide) ?_
        exact hQ _ _ (jr_of jk_0 (by omega)) J Sm _ _ qu3 qu4 (by omega)
set_option maxRecDepth 100000 in
set_option maxHeartbeats 4000000 in
theorem ct_X2_readSum_r95_c4_4 {Dy : jH → Prop} {h0 : jH} {Q : Option Value → jH → Prop} (hD : jDk Dy) (hQ : ∀ (v : Int32) hx9, 0 ≤ v.toInt ∧ v.toInt ≤ 1 → jJ jSgX Dy hx9 → jSm fp_X2_readSum_r95_c4 h0 hx9 → ∀ u0 u1 : Int32, jiv hx9 68 5 = u0 → jiv hx9 68 3 = u1 → (u0.toInt ≠ 3 ∨ u1.toInt ≤ 399) → Q (some (.int v)) hx9) : ∀ r : Nat, ∀ (l2 : Int32) (l3 : Int32) (g0 : Int32) (g1 : Int32) (h : jH), 400 - l3.toInt < (r : Int) → (-1) ≤ l2.toInt ∧ l2.toInt ≤ 4 → 0 ≤ l3.toInt ∧ l3.toInt ≤ 400 → 0 ≤ g0.toInt ∧ g0.toInt ≤ 400 → 0 ≤ g1.toInt ∧ g1.toInt ≤ 3 → (g1.toInt ≠ 3 ∨ g0.toInt ≤ 399) → jiv h 68 3 = g0 → jiv h 68 5 = g1 → jJ jSgX Dy h → jSm fp_X2_readSum_r95_c4 h0 h → jX m_X2_readSum 14 0 0 4 [(0, .ref 95), (1, .int 4), (2, .int l2), (3, .int l3)] [] h 0 0 Q := by
  intro r
  induction r with
  | zero =>
    intro l2 l3 g0 g1 h hm y0 y1 y2 y3 y4 z0 z1  J Sm
    exfalso
    omega
  | succ r ih =>
    intro l2 l3 g0 g1 h hm y0 y1 y2 y3 y4 z0 z1  J Sm
    refine x_iloadn (x := l3) rfl rfl ?_
    refine x_sipush (v := 400) rfl ks_400 ?_
    refine x_icge (tgt := 169) rfl rfl (ti_ge rfl jk_400 ⟨fun c1 => ?_, fun c1 => ?_⟩)
    ·
      refine x_aloadn (x := 95) rfl rfl ?_
      refine z_getR (N := 6) (b := 68) 2 0 rfl f_2_30 rfl J rfl 12160 ⟨rfl, rfl⟩ rfl ?_
      refine x_inv (N := m_X9_blame) (As := []) (b := 68) (st := []) (dx9 := 13) (mc := 0) (ms := 0) (host := "") 9 rfl t_X9_blame ⟨Or.inl q_2_59, i_X9_blame.1, i_X9_blame.2⟩ ⟨by decide, rfl⟩ (congrArg Prod.fst (J.1.1 68 (9, 6) rfl)) rfl (by decide) rfl rfl ⟨by decide, by decide⟩ (jC.of rfl k_X9_blame rfl ?_)
      show jX m_X9_blame 13 0 0 0 [(0, .ref 68)] [] _ 0 0 _
      refine x_aloadn (x := 68) rfl rfl ?_
      refine x_aloadn (x := 68) rfl rfl ?_
      refine z_getM (N := 6) (v := g0) 9 3 rfl f_9_22 rfl J rfl z0 ?_
      refine z_putI (N := 6) (w := g0.toInt) 9 2 rfl f_9_19 rfl (jfin_no TX9 RX9 6 rfl rfl) hD J Sm rfl rfl rfl (pw_68_2 (by omega)) rfl (fun h w2 J Sm => ?_)
      refine x_iconst (v := 0) rfl ki_0 ?_
      refine x_zret rfl rfl (by decide) ?_
      show jX m_X2_readSum 14 0 0 176 [(0, .ref 95), (1, .int 4), (2, .int l2), (3, .int l3)] [.int 0] _ 0 0 _
      refine x_zret rfl rfl (by decide) ?_
      exact hQ _ _ (jr_of jk_0 (by omega)) J Sm _ _ (jmo w2 rfl z1) (jmo w2 rfl z0) (by omega)
    ·
      refine x_iconst (v := (-1)) rfl ki_m1 ?_
      refine x_istore (lsx9 := [(4, .int (-1)), (0, .ref 95), (1, .int 4), (2, .int l2), (3, .int l3)]) rfl rfl rfl ?_
      refine x_iconst (v := 0) rfl ki_0 ?_
      refine x_istore (lsx9 := [(5, .int 0), (4, .int (-1)), (0, .ref 95), (1, .int 4), (2, .int l2), (3, .int l3)]) rfl rfl rfl ?_
      exact jX.sub (jsb_c rfl (jsb_c rfl (jsb_c rfl (jsb_c rfl (jsb_c rfl (jsb_c rfl jsb_n)))))) (ct_X2_readSum_r95_c4_17 hD hQ ih 401 l2 l3 (-1) 0 g0 g1 h (by have := jk_0; omega) (jr_of rfl (by omega)) (jr_of rfl (by omega)) (jr_of jk_m1 (by omega)) (jr_of jk_0 (by omega)) (jr_of rfl (by omega)) (jr_of rfl (by omega)) (by omega) z0 z1 (by omega) J Sm)
set_option maxRecDepth 100000 in
set_option maxHeartbeats 4000000 in
theorem sf_X2_readSum_r95_c4 {Dy : jH → Prop} {h : jH} {Q : Option Value → jH → Prop} (hD : jDk Dy) (J : jJ jSgX Dy h) {p0 p1 : Int32} (zp0 : jiv h 68 5 = p0) (zp1 : jiv h 68 3 = p1) (rl_p0 : (p0.toInt ≠ 3 ∨ p1.toInt ≤ 399)) (hQ : ∀ (v : Int32) hx9, 0 ≤ v.toInt ∧ v.toInt ≤ 1 → jJ jSgX Dy hx9 → jSm fp_X2_readSum_r95_c4 h hx9 → ∀ u0 u1 : Int32, jiv hx9 68 5 = u0 → jiv hx9 68 3 = u1 → (u0.toInt ≠ 3 ∨ u1.toInt ≤ 399) → Q (some (.int v)) hx9) : jC m_X2_readSum 14 0 0 [.ref 95, .int 4] h Q := by
  refine jC.of rfl k_X2_readSum rfl ?_
  have Sm := jSm_rf fp_X2_readSum_r95_c4 h
  have ep0 := (show 0 ≤ p0.toInt ∧ p0.toInt ≤ 3 from zp0 ▸ jrg_f J sg_68_5_6_1_0_1)
  have ep1 := (show 0 ≤ p1.toInt ∧ p1.toInt ≤ 400 from zp1 ▸ jrg_f J sg_68_3_4_1_0_1)
  show jX m_X2_readSum 14 0 0 0 [(0, .ref 95), (1, .int 4)] [] _ 0 0 _
  refine x_iconst (v := (-1)) rfl ki_m1 ?_
  refine x_istoren (lsx9 := [(2, .int (-1)), (0, .ref 95), (1, .int 4)]) rfl rfl rfl ?_
  refine x_iconst (v := 0) rfl ki_0 ?_
  refine x_istoren (lsx9 := [(3, .int 0), (2, .int (-1)), (0, .ref 95), (1, .int 4)]) rfl rfl rfl ?_
  exact jX.sub (jsb_c rfl (jsb_c rfl (jsb_c rfl (jsb_c rfl jsb_n)))) (ct_X2_readSum_r95_c4_4 hD hQ  401 (-1) 0 p1 p0 h (by have := jk_0; omega) (jr_of jk_m1 (by omega)) (jr_of jk_0 (by omega)) (jr_of rfl (by omega)) (jr_of rfl (by omega)) (by omega) zp1 zp0 J Sm)
def fp_X2_readFactor_r95_c3 : jFp := [(68, 2, 3), (68, 3, 4), (68, 4, 5), (68, 5, 6), (95, 4, 5), (95, 5, 6), (97, 0, 1200)]
set_option maxRecDepth 100000 in
set_option maxHeartbeats 4000000 in
theorem ct_X2_readFactor_r95_c3_111 {Dy : jH → Prop} {h0 : jH} {Q : Option Value → jH → Prop} (hD : jDk Dy) (hQ : ∀ (v : Int32) hx9, 0 ≤ v.toInt ∧ v.toInt ≤ 1 → jJ jSgX Dy hx9 → jSm fp_X2_readFactor_r95_c3 h0 hx9 → ∀ u0 u1 : Int32, jiv hx9 68 5 = u0 → jiv hx9 68 3 = u1 → (u0.toInt ≠ 3 ∨ u1.toInt ≤ 399) → Q (some (.int v)) hx9) : ∀ (s0 : Int32) (g0 : Int32) (g1 : Int32) (h : jH), 0 ≤ s0.toInt ∧ s0.toInt ≤ 1 → 0 ≤ g0.toInt ∧ g0.toInt ≤ 400 → 0 ≤ g1.toInt ∧ g1.toInt ≤ 3 → (g1.toInt ≠ 3 ∨ g0.toInt ≤ 399) → jiv h 68 3 = g0 → jiv h 68 5 = g1 → jJ jSgX Dy h → jSm fp_X2_readFactor_r95_c3 h0 h → jX m_X2_readFactor 15 0 0 111 [] [.int s0] h 0 0 Q := by
  intro s0 g0 g1 h y0 y1 y2 y3 z0 z1  J Sm
  refine x_zret rfl rfl (jz01 (by omega)) ?_
  exact hQ _ _ (jr_of rfl (by omega)) J Sm _ _ z1 z0 (by omega)
set_option maxRecDepth 100000 in
set_option maxHeartbeats 4000000 in
theorem ct_X2_readFactor_r95_c3_200111 {Dy : jH → Prop} {h0 : jH} {Q : Option Value → jH → Prop} (hD : jDk Dy) (hQ : ∀ (v : Int32) hx9, 0 ≤ v.toInt ∧ v.toInt ≤ 1 → jJ jSgX Dy hx9 → jSm fp_X2_readFactor_r95_c3 h0 hx9 → ∀ u0 u1 : Int32, jiv hx9 68 5 = u0 → jiv hx9 68 3 = u1 → (u0.toInt ≠ 3 ∨ u1.toInt ≤ 399) → Q (some (.int v)) hx9) : ∀ (g0 : Int32) (g1 : Int32) (h : jH), 0 ≤ g0.toInt ∧ g0.toInt ≤ 400 → 0 ≤ g1.toInt ∧ g1.toInt ≤ 3 → (g1.toInt ≠ 3 ∨ g0.toInt ≤ 399) → jiv h 68 3 = g0 → jiv h 68 5 = g1 → jJ jSgX Dy h → jSm fp_X2_readFactor_r95_c3 h0 h → jX m_X2_readFactor 15 0 0 111 [] [.int 0] h 0 0 Q := by
  intro g0 g1 h y0 y1 y2 z0 z1  J Sm
  refine x_zret rfl rfl (by decide) ?_
  exact hQ _ _ (jr_of jk_0 (by omega)) J Sm _ _ z1 z0 (by omega)
set_option maxRecDepth 100000 in
set_option maxHeartbeats 4000000 in
theorem ct_X2_readFactor_r95_c3_300057 {Dy : jH → Prop} {h0 : jH} {Q : Option Value → jH → Prop} (hD : jDk Dy) (hQ : ∀ (v : Int32) hx9, 0 ≤ v.toInt ∧ v.toInt ≤ 1 → jJ jSgX Dy hx9 → jSm fp_X2_readFactor_r95_c3 h0 hx9 → ∀ u0 u1 : Int32, jiv hx9 68 5 = u0 → jiv hx9 68 3 = u1 → (u0.toInt ≠ 3 ∨ u1.toInt ≤ 399) → Q (some (.int v)) hx9) : ∀ (g0 : Int32) (g1 : Int32) (h : jH), 0 ≤ g0.toInt ∧ g0.toInt ≤ 400 → 0 ≤ g1.toInt ∧ g1.toInt ≤ 3 → (g1.toInt ≠ 3 ∨ g0.toInt ≤ 399) → jiv h 68 3 = g0 → jiv h 68 5 = g1 → jJ jSgX Dy h → jSm fp_X2_readFactor_r95_c3 h0 h → jX m_X2_readFactor 15 0 0 57 [] [.int 1] h 0 0 Q := by
  intro g0 g1 h y0 y1 y2 z0 z1  J Sm
  refine x_zret rfl rfl (by decide) ?_
  exact hQ _ _ (jr_of jk_1 (by omega)) J Sm _ _ z1 z0 (by omega)
set_option maxRecDepth 100000 in
set_option maxHeartbeats 4000000 in
theorem ct_X2_readFactor_r95_c3_200057 {Dy : jH → Prop} {h0 : jH} {Q : Option Value → jH → Prop} (hD : jDk Dy) (hQ : ∀ (v : Int32) hx9, 0 ≤ v.toInt ∧ v.toInt ≤ 1 → jJ jSgX Dy hx9 → jSm fp_X2_readFactor_r95_c3 h0 hx9 → ∀ u0 u1 : Int32, jiv hx9 68 5 = u0 → jiv hx9 68 3 = u1 → (u0.toInt ≠ 3 ∨ u1.toInt ≤ 399) → Q (some (.int v)) hx9) : ∀ (g0 : Int32) (g1 : Int32) (h : jH), 0 ≤ g0.toInt ∧ g0.toInt ≤ 400 → 0 ≤ g1.toInt ∧ g1.toInt ≤ 3 → (g1.toInt ≠ 3 ∨ g0.toInt ≤ 399) → jiv h 68 3 = g0 → jiv h 68 5 = g1 → jJ jSgX Dy h → jSm fp_X2_readFactor_r95_c3 h0 h → jX m_X2_readFactor 15 0 0 57 [] [.int 0] h 0 0 Q := by
  intro g0 g1 h y0 y1 y2 z0 z1  J Sm
  refine x_zret rfl rfl (by decide) ?_
  exact hQ _ _ (jr_of jk_0 (by omega)) J Sm _ _ z1 z0 (by omega)
set_option maxRecDepth 100000 in
set_option maxHeartbeats 4000000 in
theorem ct_X2_readFactor_r95_c3_56 {Dy : jH → Prop} {h0 : jH} {Q : Option Value → jH → Prop} (hD : jDk Dy) (hQ : ∀ (v : Int32) hx9, 0 ≤ v.toInt ∧ v.toInt ≤ 1 → jJ jSgX Dy hx9 → jSm fp_X2_readFactor_r95_c3 h0 hx9 → ∀ u0 u1 : Int32, jiv hx9 68 5 = u0 → jiv hx9 68 3 = u1 → (u0.toInt ≠ 3 ∨ u1.toInt ≤ 399) → Q (some (.int v)) hx9) : ∀ (g0 : Int32) (g1 : Int32) (h : jH), 0 ≤ g0.toInt ∧ g0.toInt ≤ 400 → 0 ≤ g1.toInt ∧ g1.toInt ≤ 3 → (g1.toInt ≠ 3 ∨ g0.toInt ≤ 399) → jiv h 68 3 = g0 → jiv h 68 5 = g1 → jJ jSgX Dy h → jSm fp_X2_readFactor_r95_c3 h0 h → jX m_X2_readFactor 15 0 0 56 [] [] h 0 0 Q := by
  intro g0 g1 h y0 y1 y2 z0 z1  J Sm
  refine x_iconst (v := 0) rfl ki_0 ?_
  exact jX.sub jsb_n (ct_X2_readFactor_r95_c3_200057 hD hQ  g0 g1 h (jr_of rfl (by omega)) (jr_of rfl (by omega)) (by omega) z0 z1 J Sm)
set_option maxRecDepth 100000 in
set_option maxHeartbeats 4000000 in
theorem sf_X2_readFactor_r95_c3 {Dy : jH → Prop} {h : jH} {Q : Option Value → jH → Prop} (hD : jDk Dy) (J : jJ jSgX Dy h) {p0 p1 : Int32} (zp0 : jiv h 68 5 = p0) (zp1 : jiv h 68 3 = p1) (rl_p0 : (p0.toInt ≠ 3 ∨ p1.toInt ≤ 399)) (hQ : ∀ (v : Int32) hx9, 0 ≤ v.toInt ∧ v.toInt ≤ 1 → jJ jSgX Dy hx9 → jSm fp_X2_readFactor_r95_c3 h hx9 → ∀ u0 u1 : Int32, jiv hx9 68 5 = u0 → jiv hx9 68 3 = u1 → (u0.toInt ≠ 3 ∨ u1.toInt ≤ 399) → Q (some (.int v)) hx9) : jC m_X2_readFactor 15 0 0 [.ref 95, .int 3] h Q := by
  refine jC.of rfl k_X2_readFactor rfl ?_
  have Sm := jSm_rf fp_X2_readFactor_r95_c3 h
  have ep0 := (show 0 ≤ p0.toInt ∧ p0.toInt ≤ 3 from zp0 ▸ jrg_f J sg_68_5_6_1_0_1)
  have ep1 := (show 0 ≤ p1.toInt ∧ p1.toInt ≤ 400 from zp1 ▸ jrg_f J sg_68_3_4_1_0_1)
  show jX m_X2_readFactor 15 0 0 0 [(0, .ref 95), (1, .int 3)] [] _ 0 0 _
  refine x_aloadn (x := 95) rfl rfl ?_
  refine z_getR (N := 6) (b := 68) 2 0 rfl f_2_30 rfl J rfl 12160 ⟨rfl, rfl⟩ rfl ?_
  refine x_bipush (v := 91) rfl kb_91 ?_
  refine x_inv (N := m_X9_isSign) (As := [.int 91]) (b := 68) (st := []) (dx9 := 1) (mc := 0) (ms := 0) (host := "") 9 rfl t_X9_isSign ⟨Or.inl q_2_55, i_X9_isSign.1, i_X9_isSign.2⟩ ⟨by decide, rfl⟩ (congrArg Prod.fst (J.1.1 68 (9, 6) rfl)) rfl (by decide) rfl rfl ⟨by decide, by decide⟩ (sf_X9_isSign_r68 (jr_of jk_91 (by omega)) hD J zp0 zp1 (by omega)  (fun v4 h ev4 J S1 u2 u3 qu2 qu3 ru2 => ?_))
  have Sm := jSm_tr rfl Sm S1
  have eu2 := (show 0 ≤ u2.toInt ∧ u2.toInt ≤ 3 from qu2 ▸ jrg_f J sg_68_5_6_1_0_1)
  have eu3 := (show 0 ≤ u3.toInt ∧ u3.toInt ≤ 400 from qu3 ▸ jrg_f J sg_68_3_4_1_0_1)
  show jX m_X2_readFactor 15 0 0 9 [(0, .ref 95), (1, .int 3)] [.int v4] _ 0 0 _
  refine x_ifeq (tgt := 58) rfl rfl (ti_eq rfl jk_0 ⟨fun c5 => ?_, fun c5 => ?_⟩)
  ·
    refine x_aloadn (x := 95) rfl rfl ?_
    refine z_getR (N := 6) (b := 68) 2 0 rfl f_2_30 rfl J rfl 12160 ⟨rfl, rfl⟩ rfl ?_
    refine x_ldc (v := 100000) rfl z_2_147 ?_
    refine x_inv (N := m_X9_numberTo) (As := [.int 100000]) (b := 68) (st := []) (dx9 := 1) (mc := 0) (ms := 0) (host := "") 9 rfl t_X9_numberTo ⟨Or.inl q_2_117, i_X9_numberTo.1, i_X9_numberTo.2⟩ ⟨by decide, rfl⟩ (congrArg Prod.fst (J.1.1 68 (9, 6) rfl)) rfl (by decide) rfl rfl ⟨by decide, by decide⟩ (sf_X9_numberTo_r68 (jr_of jk_100000 (by omega)) hD J  (fun v7 h ev7 J S6 => ?_))
    have Sm := jSm_tr rfl Sm S6
    show jX m_X2_readFactor 15 0 0 67 [(0, .ref 95), (1, .int 3)] [.int v7] _ 0 0 _
    refine x_istoren (lsx9 := [(2, .int v7), (0, .ref 95), (1, .int 3)]) rfl rfl rfl ?_
    refine x_iloadn (x := v7) rfl rfl ?_
    refine x_iconst (v := (-1)) rfl ki_m1 ?_
    refine x_iceq (tgt := 80) rfl rfl (ti_eq rfl jk_m1 ⟨fun c8 => ?_, fun c8 => ?_⟩)
    ·
      refine x_aloadn (x := 95) rfl rfl ?_
      refine z_getR (N := 6) (b := 68) 2 0 rfl f_2_30 rfl J rfl 12160 ⟨rfl, rfl⟩ rfl ?_
      refine x_ldcS (jstr.getD 6 jstr_0) rfl (List.mem_of_getElem? (i := 6) rfl) rfl rfl ?_
      show jX m_X2_readFactor 15 0 0 86 [(2, .int v7), (0, .ref 95), (1, .int 3)] [.ref 11, .ref 68] _ 0 0 _
      refine x_inv (N := m_X9_wordOf) (As := [.ref 11]) (b := 68) (st := []) (dx9 := 4) (mc := 0) (ms := 0) (host := "") 9 rfl t_X9_wordOf ⟨Or.inl q_2_67, i_X9_wordOf.1, i_X9_wordOf.2⟩ ⟨by decide, rfl⟩ (congrArg Prod.fst (J.1.1 68 (9, 6) rfl)) rfl (by decide) rfl rfl ⟨by decide, by decide⟩ (sf_X9_wordOf_r68_r11  hD J  (fun v10 h J S9 => ?_))
      have ev10 := jfull v10
      have Sm := jSm_tr rfl Sm S9
      show jX m_X2_readFactor 15 0 0 89 [(2, .int v7), (0, .ref 95), (1, .int 3)] [.int v10] _ 0 0 _
      refine x_istoren (lsx9 := [(3, .int v10), (2, .int v7), (0, .ref 95), (1, .int 3)]) rfl rfl rfl ?_
      refine x_iloadn (x := v10) rfl rfl ?_
      refine x_iconst (v := (-1)) rfl ki_m1 ?_
      refine x_icne (tgt := 105) rfl rfl (ti_ne rfl jk_m1 ⟨fun c11 => ?_, fun c11 => ?_⟩)
      ·
        refine x_aloadn (x := 95) rfl rfl ?_
        refine x_iconst (v := 2) rfl ki_2 ?_
        refine x_iloadn (x := v10) rfl rfl ?_
        refine x_inv (N := m_X2_readPart) (As := [.int 2, .int v10]) (b := 95) (st := []) (dx9 := 3) (mc := 0) (ms := 0) (host := "") 2 rfl t_X2_readPart ⟨Or.inl q_2_141, i_X2_readPart.1, i_X2_readPart.2⟩ ⟨by decide, rfl⟩ (congrArg Prod.fst (J.1.1 95 (2, 6) rfl)) rfl (by decide) rfl rfl ⟨by decide, by decide⟩ (sf_X2_readPart_r95 (jr_of jk_2 (by omega)) hD J (jmc S9 rfl (jmc S6 rfl qu2)) (jmc S9 rfl (jmc S6 rfl qu3)) (by omega)  (fun v15 h ev15 J S12 u13 u14 qu13 qu14 ru13 => ?_))
        have Sm := jSm_tr rfl Sm S12
        have eu13 := (show 0 ≤ u13.toInt ∧ u13.toInt ≤ 3 from qu13 ▸ jrg_f J sg_68_5_6_1_0_1)
        have eu14 := (show 0 ≤ u14.toInt ∧ u14.toInt ≤ 400 from qu14 ▸ jrg_f J sg_68_3_4_1_0_1)
        show jX m_X2_readFactor 15 0 0 111 [(3, .int v10), (2, .int v7), (0, .ref 95), (1, .int 3)] [.int v15] _ 0 0 _
        exact jX.sub jsb_n (ct_X2_readFactor_r95_c3_111 hD hQ  v15 u14 u13 h (jr_of rfl (by omega)) (jr_of rfl (by omega)) (jr_of rfl (by omega)) (by omega) qu14 qu13 J Sm)
      ·
        refine x_aloadn (x := 95) rfl rfl ?_
        refine z_getR (N := 6) (b := 68) 2 0 rfl f_2_30 rfl J rfl 12160 ⟨rfl, rfl⟩ rfl ?_
        refine x_inv (N := m_X9_blame) (As := []) (b := 68) (st := []) (dx9 := 14) (mc := 0) (ms := 0) (host := "") 9 rfl t_X9_blame ⟨Or.inl q_2_59, i_X9_blame.1, i_X9_blame.2⟩ ⟨by decide, rfl⟩ (congrArg Prod.fst (J.1.1 68 (9, 6) rfl)) rfl (by decide) rfl rfl ⟨by decide, by decide⟩ (jC.of rfl k_X9_blame rfl ?_)
        show jX m_X9_blame 14 0 0 0 [(0, .ref 68)] [] _ 0 0 _
        refine x_aloadn (x := 68) rfl rfl ?_
        refine x_aloadn (x := 68) rfl rfl ?_
        refine z_getM (N := 6) (v := u3) 9 3 rfl f_9_22 rfl J rfl (jmc S9 rfl (jmc S6 rfl qu3)) ?_
        refine z_putI (N := 6) (w := u3.toInt) 9 2 rfl f_9_19 rfl (jfin_no TX9 RX9 6 rfl rfl) hD J Sm rfl rfl rfl (pw_68_2 (by omega)) rfl (fun h w16 J Sm => ?_)
        refine x_iconst (v := 0) rfl ki_0 ?_
        refine x_zret rfl rfl (by decide) ?_
        show jX m_X2_readFactor 15 0 0 102 [(3, .int v10), (2, .int v7), (0, .ref 95), (1, .int 3)] [.int 0] _ 0 0 _
        refine x_goto (tgt := 111) rfl rfl ?_
        exact jX.sub jsb_n (ct_X2_readFactor_r95_c3_200111 hD hQ  u3 u2 h (jr_of rfl (by omega)) (jr_of rfl (by omega)) (by omega) (jmo w16 rfl (jmc S9 rfl (jmc S6 rfl qu3))) (jmo w16 rfl (jmc S9 rfl (jmc S6 rfl qu2))) J Sm)
    ·
      refine x_aloadn (x := 95) rfl rfl ?_
      refine x_iconst (v := 1) rfl ki_1 ?_
      refine x_iloadn (x := v7) rfl rfl ?_
      refine x_inv (N := m_X2_readPart) (As := [.int 1, .int v7]) (b := 95) (st := []) (dx9 := 3) (mc := 0) (ms := 0) (host := "") 2 rfl t_X2_readPart ⟨Or.inl q_2_141, i_X2_readPart.1, i_X2_readPart.2⟩ ⟨by decide, rfl⟩ (congrArg Prod.fst (J.1.1 95 (2, 6) rfl)) rfl (by decide) rfl rfl ⟨by decide, by decide⟩ (sf_X2_readPart_r95 (jr_of jk_1 (by omega)) hD J (jmc S6 rfl qu2) (jmc S6 rfl qu3) (by omega)  (fun v20 h ev20 J S17 u18 u19 qu18 qu19 ru18 => ?_))
      have Sm := jSm_tr rfl Sm S17
      have eu18 := (show 0 ≤ u18.toInt ∧ u18.toInt ≤ 3 from qu18 ▸ jrg_f J sg_68_5_6_1_0_1)
      have eu19 := (show 0 ≤ u19.toInt ∧ u19.toInt ≤ 400 from qu19 ▸ jrg_f J sg_68_3_4_1_0_1)
      show jX m_X2_readFactor 15 0 0 79 [(2, .int v7), (0, .ref 95), (1, .int 3)] [.int v20] _ 0 0 _
      refine x_zret rfl rfl (jz01 (by omega)) ?_
      exact hQ _ _ (jr_of rfl (by omega)) J Sm _ _ qu18 qu19 (by omega)
  ·
    refine x_iloadn (x := 3) rfl rfl ?_
    refine x_bipush (v := 8) rfl kb_8 ?_
    refine x_iclt (tgt := 26) rfl rfl (ti_lt jk_3 jk_8 (br_t (by omega) ?_))
    refine x_aloadn (x := 95) rfl rfl ?_
    refine z_getR (N := 6) (b := 68) 2 0 rfl f_2_30 rfl J rfl 12160 ⟨rfl, rfl⟩ rfl ?_
    refine x_inv (N := m_X9_step) (As := []) (b := 68) (st := []) (dx9 := 2) (mc := 0) (ms := 0) (host := "") 9 rfl t_X9_step ⟨Or.inl q_2_62, i_X9_step.1, i_X9_step.2⟩ ⟨by decide, rfl⟩ (congrArg Prod.fst (J.1.1 68 (9, 6) rfl)) rfl (by decide) rfl rfl ⟨by decide, by decide⟩ (sf_X9_step_r68  hD J qu2 qu3 (by omega)  (fun h J S21 u22 u23 qu22 qu23 ru22 => ?_))
    have Sm := jSm_tr rfl Sm S21
    have eu22 := (show 0 ≤ u22.toInt ∧ u22.toInt ≤ 3 from qu22 ▸ jrg_f J sg_68_5_6_1_0_1)
    have eu23 := (show 0 ≤ u23.toInt ∧ u23.toInt ≤ 400 from qu23 ▸ jrg_f J sg_68_3_4_1_0_1)
    show jX m_X2_readFactor 15 0 0 33 [(0, .ref 95), (1, .int 3)] [] _ 0 0 _
    refine x_aloadn (x := 95) rfl rfl ?_
    refine x_iloadn (x := 3) rfl rfl ?_
    refine x_iconst (v := 1) rfl ki_1 ?_
    refine y_iadd (v := 4) rfl (by decide) ?_
    refine x_inv (N := m_X2_readSum) (As := [.int 4]) (b := 95) (st := []) (dx9 := 14) (mc := 0) (ms := 0) (host := "") 2 rfl t_X2_readSum ⟨Or.inl q_2_86, i_X2_readSum.1, i_X2_readSum.2⟩ ⟨by decide, rfl⟩ (congrArg Prod.fst (J.1.1 95 (2, 6) rfl)) rfl (by decide) rfl rfl ⟨by decide, by decide⟩ (sf_X2_readSum_r95_c4  hD J qu22 qu23 (by omega)  (fun v27 h ev27 J S24 u25 u26 qu25 qu26 ru25 => ?_))
    have Sm := jSm_tr rfl Sm S24
    have eu25 := (show 0 ≤ u25.toInt ∧ u25.toInt ≤ 3 from qu25 ▸ jrg_f J sg_68_5_6_1_0_1)
    have eu26 := (show 0 ≤ u26.toInt ∧ u26.toInt ≤ 400 from qu26 ▸ jrg_f J sg_68_3_4_1_0_1)
    show jX m_X2_readFactor 15 0 0 40 [(0, .ref 95), (1, .int 3)] [.int v27] _ 0 0 _
    refine x_ifeq (tgt := 56) rfl rfl (ti_eq rfl jk_0 ⟨fun c28 => ?_, fun c28 => ?_⟩)
    ·
      exact jX.sub jsb_n (ct_X2_readFactor_r95_c3_56 hD hQ  u26 u25 h (jr_of rfl (by omega)) (jr_of rfl (by omega)) (by omega) qu26 qu25 J Sm)
    ·
      refine x_aloadn (x := 95) rfl rfl ?_
      refine x_bipush (v := 93) rfl kb_93 ?_
      refine x_inv (N := m_X2_readSign) (As := [.int 93]) (b := 95) (st := []) (dx9 := 14) (mc := 0) (ms := 0) (host := "") 2 rfl t_X2_readSign ⟨Or.inl q_2_138, i_X2_readSign.1, i_X2_readSign.2⟩ ⟨by decide, rfl⟩ (congrArg Prod.fst (J.1.1 95 (2, 6) rfl)) rfl (by decide) rfl rfl ⟨by decide, by decide⟩ (jC.of rfl k_X2_readSign rfl ?_)
      show jX m_X2_readSign 14 0 0 0 [(0, .ref 95), (1, .int 93)] [] _ 0 0 _
      refine x_aloadn (x := 95) rfl rfl ?_
      refine z_getR (N := 6) (b := 68) 2 0 rfl f_2_30 rfl J rfl 12160 ⟨rfl, rfl⟩ rfl ?_
      refine x_iloadn (x := 93) rfl rfl ?_
      refine x_inv (N := m_X9_isSign) (As := [.int 93]) (b := 68) (st := []) (dx9 := 1) (mc := 0) (ms := 0) (host := "") 9 rfl t_X9_isSign ⟨Or.inl q_2_55, i_X9_isSign.1, i_X9_isSign.2⟩ ⟨by decide, rfl⟩ (congrArg Prod.fst (J.1.1 68 (9, 6) rfl)) rfl (by decide) rfl rfl ⟨by decide, by decide⟩ (sf_X9_isSign_r68 (jr_of jk_93 (by omega)) hD J qu25 qu26 (by omega)  (fun v32 h ev32 J S29 u30 u31 qu30 qu31 ru30 => ?_))
      have Sm := jSm_tr rfl Sm S29
      have eu30 := (show 0 ≤ u30.toInt ∧ u30.toInt ≤ 3 from qu30 ▸ jrg_f J sg_68_5_6_1_0_1)
      have eu31 := (show 0 ≤ u31.toInt ∧ u31.toInt ≤ 400 from qu31 ▸ jrg_f J sg_68_3_4_1_0_1)
      show jX m_X2_readSign 14 0 0 8 [(0, .ref 95), (1, .int 93)] [.int v32] _ 0 0 _
      refine x_ifne (tgt := 19) rfl rfl (ti_ne rfl jk_0 ⟨fun c33 => ?_, fun c33 => ?_⟩)
      ·
        refine x_aloadn (x := 95) rfl rfl ?_
        refine z_getR (N := 6) (b := 68) 2 0 rfl f_2_30 rfl J rfl 12160 ⟨rfl, rfl⟩ rfl ?_
        refine x_inv (N := m_X9_step) (As := []) (b := 68) (st := []) (dx9 := 2) (mc := 0) (ms := 0) (host := "") 9 rfl t_X9_step ⟨Or.inl q_2_62, i_X9_step.1, i_X9_step.2⟩ ⟨by decide, rfl⟩ (congrArg Prod.fst (J.1.1 68 (9, 6) rfl)) rfl (by decide) rfl rfl ⟨by decide, by decide⟩ (sf_X9_step_r68  hD J qu30 qu31 (by omega)  (fun h J S34 u35 u36 qu35 qu36 ru35 => ?_))
        have Sm := jSm_tr rfl Sm S34
        have eu35 := (show 0 ≤ u35.toInt ∧ u35.toInt ≤ 3 from qu35 ▸ jrg_f J sg_68_5_6_1_0_1)
        have eu36 := (show 0 ≤ u36.toInt ∧ u36.toInt ≤ 400 from qu36 ▸ jrg_f J sg_68_3_4_1_0_1)
        show jX m_X2_readSign 14 0 0 26 [(0, .ref 95), (1, .int 93)] [] _ 0 0 _
        refine x_iconst (v := 1) rfl ki_1 ?_
        refine x_zret rfl rfl (by decide) ?_
        show jX m_X2_readFactor 15 0 0 49 [(0, .ref 95), (1, .int 3)] [.int 1] _ 0 0 _
        refine x_ifeq (tgt := 56) rfl rfl (ti_eq jk_1 jk_0 (br_f (by omega) ?_))
        refine x_iconst (v := 1) rfl ki_1 ?_
        refine x_goto (tgt := 57) rfl rfl ?_
        exact jX.sub jsb_n (ct_X2_readFactor_r95_c3_300057 hD hQ  u36 u35 h (jr_of rfl (by omega)) (jr_of rfl (by omega)) (by omega) qu36 qu35 J Sm)
      ·
        refine x_aloadn (x := 95) rfl rfl ?_
        refine z_getR (N := 6) (b := 68) 2 0 rfl f_2_30 rfl J rfl 12160 ⟨rfl, rfl⟩ rfl ?_
        refine x_inv (N := m_X9_blame) (As := []) (b := 68) (st := []) (dx9 := 13) (mc := 0) (ms := 0) (host := "") 9 rfl t_X9_blame ⟨Or.inl q_2_59, i_X9_blame.1, i_X9_blame.2⟩ ⟨by decide, rfl⟩ (congrArg Prod.fst (J.1.1 68 (9, 6) rfl)) rfl (by decide) rfl rfl ⟨by decide, by decide⟩ (jC.of rfl k_X9_blame rfl ?_)
        show jX m_X9_blame 13 0 0 0 [(0, .ref 68)] [] _ 0 0 _
        refine x_aloadn (x := 68) rfl rfl ?_
        refine x_aloadn (x := 68) rfl rfl ?_
        refine z_getM (N := 6) (v := u31) 9 3 rfl f_9_22 rfl J rfl qu31 ?_
        refine z_putI (N := 6) (w := u31.toInt) 9 2 rfl f_9_19 rfl (jfin_no TX9 RX9 6 rfl rfl) hD J Sm rfl rfl rfl (pw_68_2 (by omega)) rfl (fun h w37 J Sm => ?_)
        refine x_iconst (v := 0) rfl ki_0 ?_
        refine x_zret rfl rfl (by decide) ?_
        show jX m_X2_readSign 14 0 0 18 [(0, .ref 95), (1, .int 93)] [.int 0] _ 0 0 _
        refine x_zret rfl rfl (by decide) ?_
        show jX m_X2_readFactor 15 0 0 49 [(0, .ref 95), (1, .int 3)] [.int 0] _ 0 0 _
        refine x_ifeq (tgt := 56) rfl rfl (ti_eq jk_0 jk_0 (br_t (by omega) ?_))
        exact jX.sub jsb_n (ct_X2_readFactor_r95_c3_56 hD hQ  u31 u30 h (jr_of rfl (by omega)) (jr_of rfl (by omega)) (by omega) (jmo w37 rfl qu31) (jmo w37 rfl qu30) J Sm)
def fp_X2_readSum_r95_c3 : jFp := [(68, 2, 3), (68, 3, 4), (68, 4, 5), (68, 5, 6), (95, 4, 5), (95, 5, 6), (97, 0, 1200)]
set_option maxRecDepth 100000 in
set_option maxHeartbeats 4000000 in
theorem ct_X2_readSum_r95_c3_100148 {Dy : jH → Prop} {h0 : jH} {Q : Option Value → jH → Prop} {R4 : Int} (hD : jDk Dy) (hQ : ∀ (v : Int32) hx9, 0 ≤ v.toInt ∧ v.toInt ≤ 1 → jJ jSgX Dy hx9 → jSm fp_X2_readSum_r95_c3 h0 hx9 → ∀ u0 u1 : Int32, jiv hx9 68 5 = u0 → jiv hx9 68 3 = u1 → (u0.toInt ≠ 3 ∨ u1.toInt ≤ 399) → Q (some (.int v)) hx9) (k4 : ∀ (l2 : Int32) (l3 : Int32) (g0 : Int32) (g1 : Int32) (h : jH), 400 - l3.toInt < R4 → (-1) ≤ l2.toInt ∧ l2.toInt ≤ 4 → 0 ≤ l3.toInt ∧ l3.toInt ≤ 400 → 0 ≤ g0.toInt ∧ g0.toInt ≤ 400 → 0 ≤ g1.toInt ∧ g1.toInt ≤ 3 → (g1.toInt ≠ 3 ∨ g0.toInt ≤ 399) → jiv h 68 3 = g0 → jiv h 68 5 = g1 → jJ jSgX Dy h → jSm fp_X2_readSum_r95_c3 h0 h → jX m_X2_readSum 16 0 0 4 [(0, .ref 95), (1, .int 3), (2, .int l2), (3, .int l3)] [] h 0 0 Q) : ∀ (l3 : Int32) (g0 : Int32) (g1 : Int32) (h : jH), 0 ≤ l3.toInt ∧ l3.toInt ≤ 399 → 0 ≤ g0.toInt ∧ g0.toInt ≤ 400 → 0 ≤ g1.toInt ∧ g1.toInt ≤ 3 → (g1.toInt ≠ 3 ∨ g0.toInt ≤ 399) → jiv h 68 3 = g0 → jiv h 68 5 = g1 → 400 - l3.toInt ≤ R4 → jJ jSgX Dy h → jSm fp_X2_readSum_r95_c3 h0 h → jX m_X2_readSum 16 0 0 148 [(0, .ref 95), (1, .int 3), (3, .int l3)] [.int (-1)] h 0 0 Q := by
  intro l3 g0 g1 h y0 y1 y2 y3 z0 z1 m4 J Sm
  refine x_istoren (lsx9 := [(2, .int (-1)), (0, .ref 95), (1, .int 3), (3, .int l3)]) rfl rfl rfl ?_
  refine x_iloadn (x := (-1)) rfl rfl ?_
  refine x_iconst (v := (-1)) rfl ki_m1 ?_
  refine x_icne (tgt := 156) rfl rfl (ti_ne jk_m1 jk_m1 (bn_f (by omega) ?_))
  refine x_iconst (v := 1) rfl ki_1 ?_
  refine x_zret rfl rfl (by decide) ?_
  exact hQ _ _ (jr_of jk_1 (by omega)) J Sm _ _ z1 z0 (by omega)
set_option maxRecDepth 100000 in
set_option maxHeartbeats 4000000 in
theorem ct_X2_readSum_r95_c3_600148 {Dy : jH → Prop} {h0 : jH} {Q : Option Value → jH → Prop} {R4 : Int} (hD : jDk Dy) (hQ : ∀ (v : Int32) hx9, 0 ≤ v.toInt ∧ v.toInt ≤ 1 → jJ jSgX Dy hx9 → jSm fp_X2_readSum_r95_c3 h0 hx9 → ∀ u0 u1 : Int32, jiv hx9 68 5 = u0 → jiv hx9 68 3 = u1 → (u0.toInt ≠ 3 ∨ u1.toInt ≤ 399) → Q (some (.int v)) hx9) (k4 : ∀ (l2 : Int32) (l3 : Int32) (g0 : Int32) (g1 : Int32) (h : jH), 400 - l3.toInt < R4 → (-1) ≤ l2.toInt ∧ l2.toInt ≤ 4 → 0 ≤ l3.toInt ∧ l3.toInt ≤ 400 → 0 ≤ g0.toInt ∧ g0.toInt ≤ 400 → 0 ≤ g1.toInt ∧ g1.toInt ≤ 3 → (g1.toInt ≠ 3 ∨ g0.toInt ≤ 399) → jiv h 68 3 = g0 → jiv h 68 5 = g1 → jJ jSgX Dy h → jSm fp_X2_readSum_r95_c3 h0 h → jX m_X2_readSum 16 0 0 4 [(0, .ref 95), (1, .int 3), (2, .int l2), (3, .int l3)] [] h 0 0 Q) : ∀ (l3 : Int32) (g0 : Int32) (g1 : Int32) (h : jH), 0 ≤ l3.toInt ∧ l3.toInt ≤ 399 → 0 ≤ g0.toInt ∧ g0.toInt ≤ 400 → 0 ≤ g1.toInt ∧ g1.toInt ≤ 3 → (g1.toInt ≠ 3 ∨ g0.toInt ≤ 399) → jiv h 68 3 = g0 → jiv h 68 5 = g1 → 400 - l3.toInt ≤ R4 → jJ jSgX Dy h → jSm fp_X2_readSum_r95_c3 h0 h → jX m_X2_readSum 16 0 0 148 [(0, .ref 95), (1, .int 3), (3, .int l3)] [.int 4] h 0 0 Q := by
  intro l3 g0 g1 h y0 y1 y2 y3 z0 z1 m4 J Sm
  refine x_istoren (lsx9 := [(2, .int 4), (0, .ref 95), (1, .int 3), (3, .int l3)]) rfl rfl rfl ?_
  refine x_iloadn (x := 4) rfl rfl ?_
  refine x_iconst (v := (-1)) rfl ki_m1 ?_
  refine x_icne (tgt := 156) rfl rfl (ti_ne jk_4 jk_m1 (bn_t (by omega) ?_))
  refine x_aloadn (x := 95) rfl rfl ?_
  refine z_getR (N := 6) (b := 68) 2 0 rfl f_2_30 rfl J rfl 12160 ⟨rfl, rfl⟩ rfl ?_
  refine x_inv (N := m_X9_step) (As := []) (b := 68) (st := []) (dx9 := 2) (mc := 0) (ms := 0) (host := "") 9 rfl t_X9_step ⟨Or.inl q_2_62, i_X9_step.1, i_X9_step.2⟩ ⟨by decide, rfl⟩ (congrArg Prod.fst (J.1.1 68 (9, 6) rfl)) rfl (by decide) rfl rfl ⟨by decide, by decide⟩ (sf_X9_step_r68  hD J z1 z0 (by omega)  (fun h J S1 u2 u3 qu2 qu3 ru2 => ?_))
  have Sm := jSm_tr rfl Sm S1
  have eu2 := (show 0 ≤ u2.toInt ∧ u2.toInt ≤ 3 from qu2 ▸ jrg_f J sg_68_5_6_1_0_1)
  have eu3 := (show 0 ≤ u3.toInt ∧ u3.toInt ≤ 400 from qu3 ▸ jrg_f J sg_68_3_4_1_0_1)
  show jX m_X2_readSum 16 0 0 163 [(2, .int 4), (0, .ref 95), (1, .int 3), (3, .int l3)] [] _ 0 0 _
  refine z_iinc (x := l3) (lsx9 := fun v4 => [(3, .int v4), (2, .int 4), (0, .ref 95), (1, .int 3)]) rfl rfl rfl jko_1 (by omega) rfl (fun _ => rfl) (fun v4 ev4 => ?_)
  refine x_goto (tgt := 4) rfl rfl ?_
  exact jX.sub (jsb_c rfl (jsb_c rfl (jsb_c rfl (jsb_c rfl jsb_n)))) (k4 4 v4 u3 u2 h (by omega) (jr_of jk_4 (by omega)) (jr_of rfl (by omega)) (jr_of rfl (by omega)) (jr_of rfl (by omega)) (by omega) qu3 qu2 J Sm)
set_option maxRecDepth 100000 in
set_option maxHeartbeats 4000000 in
theorem ct_X2_readSum_r95_c3_500148 {Dy : jH → Prop} {h0 : jH} {Q : Option Value → jH → Prop} {R4 : Int} (hD : jDk Dy) (hQ : ∀ (v : Int32) hx9, 0 ≤ v.toInt ∧ v.toInt ≤ 1 → jJ jSgX Dy hx9 → jSm fp_X2_readSum_r95_c3 h0 hx9 → ∀ u0 u1 : Int32, jiv hx9 68 5 = u0 → jiv hx9 68 3 = u1 → (u0.toInt ≠ 3 ∨ u1.toInt ≤ 399) → Q (some (.int v)) hx9) (k4 : ∀ (l2 : Int32) (l3 : Int32) (g0 : Int32) (g1 : Int32) (h : jH), 400 - l3.toInt < R4 → (-1) ≤ l2.toInt ∧ l2.toInt ≤ 4 → 0 ≤ l3.toInt ∧ l3.toInt ≤ 400 → 0 ≤ g0.toInt ∧ g0.toInt ≤ 400 → 0 ≤ g1.toInt ∧ g1.toInt ≤ 3 → (g1.toInt ≠ 3 ∨ g0.toInt ≤ 399) → jiv h 68 3 = g0 → jiv h 68 5 = g1 → jJ jSgX Dy h → jSm fp_X2_readSum_r95_c3 h0 h → jX m_X2_readSum 16 0 0 4 [(0, .ref 95), (1, .int 3), (2, .int l2), (3, .int l3)] [] h 0 0 Q) : ∀ (l3 : Int32) (g0 : Int32) (g1 : Int32) (h : jH), 0 ≤ l3.toInt ∧ l3.toInt ≤ 399 → 0 ≤ g0.toInt ∧ g0.toInt ≤ 400 → 0 ≤ g1.toInt ∧ g1.toInt ≤ 3 → (g1.toInt ≠ 3 ∨ g0.toInt ≤ 399) → jiv h 68 3 = g0 → jiv h 68 5 = g1 → 400 - l3.toInt ≤ R4 → jJ jSgX Dy h → jSm fp_X2_readSum_r95_c3 h0 h → jX m_X2_readSum 16 0 0 148 [(0, .ref 95), (1, .int 3), (3, .int l3)] [.int 3] h 0 0 Q := by
  intro l3 g0 g1 h y0 y1 y2 y3 z0 z1 m4 J Sm
  refine x_istoren (lsx9 := [(2, .int 3), (0, .ref 95), (1, .int 3), (3, .int l3)]) rfl rfl rfl ?_
  refine x_iloadn (x := 3) rfl rfl ?_
  refine x_iconst (v := (-1)) rfl ki_m1 ?_
  refine x_icne (tgt := 156) rfl rfl (ti_ne jk_3 jk_m1 (bn_t (by omega) ?_))
  refine x_aloadn (x := 95) rfl rfl ?_
  refine z_getR (N := 6) (b := 68) 2 0 rfl f_2_30 rfl J rfl 12160 ⟨rfl, rfl⟩ rfl ?_
  refine x_inv (N := m_X9_step) (As := []) (b := 68) (st := []) (dx9 := 2) (mc := 0) (ms := 0) (host := "") 9 rfl t_X9_step ⟨Or.inl q_2_62, i_X9_step.1, i_X9_step.2⟩ ⟨by decide, rfl⟩ (congrArg Prod.fst (J.1.1 68 (9, 6) rfl)) rfl (by decide) rfl rfl ⟨by decide, by decide⟩ (sf_X9_step_r68  hD J z1 z0 (by omega)  (fun h J S1 u2 u3 qu2 qu3 ru2 => ?_))
  have Sm := jSm_tr rfl Sm S1
  have eu2 := (show 0 ≤ u2.toInt ∧ u2.toInt ≤ 3 from qu2 ▸ jrg_f J sg_68_5_6_1_0_1)
  have eu3 := (show 0 ≤ u3.toInt ∧ u3.toInt ≤ 400 from qu3 ▸ jrg_f J sg_68_3_4_1_0_1)
  show jX m_X2_readSum 16 0 0 163 [(2, .int 3), (0, .ref 95), (1, .int 3), (3, .int l3)] [] _ 0 0 _
  refine z_iinc (x := l3) (lsx9 := fun v4 => [(3, .int v4), (2, .int 3), (0, .ref 95), (1, .int 3)]) rfl rfl rfl jko_1 (by omega) rfl (fun _ => rfl) (fun v4 ev4 => ?_)
  refine x_goto (tgt := 4) rfl rfl ?_
  exact jX.sub (jsb_c rfl (jsb_c rfl (jsb_c rfl (jsb_c rfl jsb_n)))) (k4 3 v4 u3 u2 h (by omega) (jr_of jk_3 (by omega)) (jr_of rfl (by omega)) (jr_of rfl (by omega)) (jr_of rfl (by omega)) (by omega) qu3 qu2 J Sm)
set_option maxRecDepth 100000 in
set_option maxHeartbeats 4000000 in
theorem ct_X2_readSum_r95_c3_115 {Dy : jH → Prop} {h0 : jH} {Q : Option Value → jH → Prop} {R4 : Int} (hD : jDk Dy) (hQ : ∀ (v : Int32) hx9, 0 ≤ v.toInt ∧ v.toInt ≤ 1 → jJ jSgX Dy hx9 → jSm fp_X2_readSum_r95_c3 h0 hx9 → ∀ u0 u1 : Int32, jiv hx9 68 5 = u0 → jiv hx9 68 3 = u1 → (u0.toInt ≠ 3 ∨ u1.toInt ≤ 399) → Q (some (.int v)) hx9) (k4 : ∀ (l2 : Int32) (l3 : Int32) (g0 : Int32) (g1 : Int32) (h : jH), 400 - l3.toInt < R4 → (-1) ≤ l2.toInt ∧ l2.toInt ≤ 4 → 0 ≤ l3.toInt ∧ l3.toInt ≤ 400 → 0 ≤ g0.toInt ∧ g0.toInt ≤ 400 → 0 ≤ g1.toInt ∧ g1.toInt ≤ 3 → (g1.toInt ≠ 3 ∨ g0.toInt ≤ 399) → jiv h 68 3 = g0 → jiv h 68 5 = g1 → jJ jSgX Dy h → jSm fp_X2_readSum_r95_c3 h0 h → jX m_X2_readSum 16 0 0 4 [(0, .ref 95), (1, .int 3), (2, .int l2), (3, .int l3)] [] h 0 0 Q) : ∀ (l3 : Int32) (g0 : Int32) (g1 : Int32) (h : jH), 0 ≤ l3.toInt ∧ l3.toInt ≤ 399 → 0 ≤ g0.toInt ∧ g0.toInt ≤ 400 → 0 ≤ g1.toInt ∧ g1.toInt ≤ 3 → (g1.toInt ≠ 3 ∨ g0.toInt ≤ 399) → jiv h 68 3 = g0 → jiv h 68 5 = g1 → 400 - l3.toInt ≤ R4 → jJ jSgX Dy h → jSm fp_X2_readSum_r95_c3 h0 h → jX m_X2_readSum 16 0 0 115 [(0, .ref 95), (1, .int 3), (3, .int l3)] [] h 0 0 Q := by
  intro l3 g0 g1 h y0 y1 y2 y3 z0 z1 m4 J Sm
  refine x_aloadn (x := 95) rfl rfl ?_
  refine z_getR (N := 6) (b := 68) 2 0 rfl f_2_30 rfl J rfl 12160 ⟨rfl, rfl⟩ rfl ?_
  refine x_bipush (v := 43) rfl kb_43 ?_
  refine x_inv (N := m_X9_isSign) (As := [.int 43]) (b := 68) (st := []) (dx9 := 1) (mc := 0) (ms := 0) (host := "") 9 rfl t_X9_isSign ⟨Or.inl q_2_55, i_X9_isSign.1, i_X9_isSign.2⟩ ⟨by decide, rfl⟩ (congrArg Prod.fst (J.1.1 68 (9, 6) rfl)) rfl (by decide) rfl rfl ⟨by decide, by decide⟩ (sf_X9_isSign_r68 (jr_of jk_43 (by omega)) hD J z1 z0 (by omega)  (fun v4 h ev4 J S1 u2 u3 qu2 qu3 ru2 => ?_))
  have Sm := jSm_tr rfl Sm S1
  have eu2 := (show 0 ≤ u2.toInt ∧ u2.toInt ≤ 3 from qu2 ▸ jrg_f J sg_68_5_6_1_0_1)
  have eu3 := (show 0 ≤ u3.toInt ∧ u3.toInt ≤ 400 from qu3 ▸ jrg_f J sg_68_3_4_1_0_1)
  show jX m_X2_readSum 16 0 0 124 [(0, .ref 95), (1, .int 3), (3, .int l3)] [.int v4] _ 0 0 _
  refine x_ifeq (tgt := 131) rfl rfl (ti_eq rfl jk_0 ⟨fun c5 => ?_, fun c5 => ?_⟩)
  ·
    refine x_aloadn (x := 95) rfl rfl ?_
    refine z_getR (N := 6) (b := 68) 2 0 rfl f_2_30 rfl J rfl 12160 ⟨rfl, rfl⟩ rfl ?_
    refine x_bipush (v := 45) rfl kb_45 ?_
    refine x_inv (N := m_X9_isSign) (As := [.int 45]) (b := 68) (st := []) (dx9 := 1) (mc := 0) (ms := 0) (host := "") 9 rfl t_X9_isSign ⟨Or.inl q_2_55, i_X9_isSign.1, i_X9_isSign.2⟩ ⟨by decide, rfl⟩ (congrArg Prod.fst (J.1.1 68 (9, 6) rfl)) rfl (by decide) rfl rfl ⟨by decide, by decide⟩ (sf_X9_isSign_r68 (jr_of jk_45 (by omega)) hD J qu2 qu3 (by omega)  (fun v9 h ev9 J S6 u7 u8 qu7 qu8 ru7 => ?_))
    have Sm := jSm_tr rfl Sm S6
    have eu7 := (show 0 ≤ u7.toInt ∧ u7.toInt ≤ 3 from qu7 ▸ jrg_f J sg_68_5_6_1_0_1)
    have eu8 := (show 0 ≤ u8.toInt ∧ u8.toInt ≤ 400 from qu8 ▸ jrg_f J sg_68_3_4_1_0_1)
    show jX m_X2_readSum 16 0 0 140 [(0, .ref 95), (1, .int 3), (3, .int l3)] [.int v9] _ 0 0 _
    refine x_ifeq (tgt := 147) rfl rfl (ti_eq rfl jk_0 ⟨fun c10 => ?_, fun c10 => ?_⟩)
    ·
      refine x_iconst (v := (-1)) rfl ki_m1 ?_
      exact jX.sub (jsb_c rfl (jsb_c rfl (jsb_c rfl jsb_n))) (ct_X2_readSum_r95_c3_100148 hD hQ k4 l3 u8 u7 h (jr_of rfl (by omega)) (jr_of rfl (by omega)) (jr_of rfl (by omega)) (by omega) qu8 qu7 (by omega) J Sm)
    ·
      refine x_iconst (v := 4) rfl ki_4 ?_
      refine x_goto (tgt := 148) rfl rfl ?_
      exact jX.sub (jsb_c rfl (jsb_c rfl (jsb_c rfl jsb_n))) (ct_X2_readSum_r95_c3_600148 hD hQ k4 l3 u8 u7 h (jr_of rfl (by omega)) (jr_of rfl (by omega)) (jr_of rfl (by omega)) (by omega) qu8 qu7 (by omega) J Sm)
  ·
    refine x_iconst (v := 3) rfl ki_3 ?_
    refine x_goto (tgt := 148) rfl rfl ?_
    exact jX.sub (jsb_c rfl (jsb_c rfl (jsb_c rfl jsb_n))) (ct_X2_readSum_r95_c3_500148 hD hQ k4 l3 u3 u2 h (jr_of rfl (by omega)) (jr_of rfl (by omega)) (jr_of rfl (by omega)) (by omega) qu3 qu2 (by omega) J Sm)
set_option maxRecDepth 100000 in
set_option maxHeartbeats 4000000 in
theorem ct_X2_readSum_r95_c3_105 {Dy : jH → Prop} {h0 : jH} {Q : Option Value → jH → Prop} {R4 : Int} (hD : jDk Dy) (hQ : ∀ (v : Int32) hx9, 0 ≤ v.toInt ∧ v.toInt ≤ 1 → jJ jSgX Dy hx9 → jSm fp_X2_readSum_r95_c3 h0 hx9 → ∀ u0 u1 : Int32, jiv hx9 68 5 = u0 → jiv hx9 68 3 = u1 → (u0.toInt ≠ 3 ∨ u1.toInt ≤ 399) → Q (some (.int v)) hx9) (k4 : ∀ (l2 : Int32) (l3 : Int32) (g0 : Int32) (g1 : Int32) (h : jH), 400 - l3.toInt < R4 → (-1) ≤ l2.toInt ∧ l2.toInt ≤ 4 → 0 ≤ l3.toInt ∧ l3.toInt ≤ 400 → 0 ≤ g0.toInt ∧ g0.toInt ≤ 400 → 0 ≤ g1.toInt ∧ g1.toInt ≤ 3 → (g1.toInt ≠ 3 ∨ g0.toInt ≤ 399) → jiv h 68 3 = g0 → jiv h 68 5 = g1 → jJ jSgX Dy h → jSm fp_X2_readSum_r95_c3 h0 h → jX m_X2_readSum 16 0 0 4 [(0, .ref 95), (1, .int 3), (2, .int l2), (3, .int l3)] [] h 0 0 Q) : ∀ (l2 : Int32) (l3 : Int32) (g0 : Int32) (g1 : Int32) (h : jH), (-1) ≤ l2.toInt ∧ l2.toInt ≤ 4 → 0 ≤ l3.toInt ∧ l3.toInt ≤ 399 → 0 ≤ g0.toInt ∧ g0.toInt ≤ 400 → 0 ≤ g1.toInt ∧ g1.toInt ≤ 3 → (g1.toInt ≠ 3 ∨ g0.toInt ≤ 399) → jiv h 68 3 = g0 → jiv h 68 5 = g1 → 400 - l3.toInt ≤ R4 → jJ jSgX Dy h → jSm fp_X2_readSum_r95_c3 h0 h → jX m_X2_readSum 16 0 0 105 [(0, .ref 95), (1, .int 3), (2, .int l2), (3, .int l3)] [] h 0 0 Q := by
  intro l2 l3 g0 g1 h y0 y1 y2 y3 y4 z0 z1 m4 J Sm
  refine x_iloadn (x := l2) rfl rfl ?_
  refine x_iconst (v := (-1)) rfl ki_m1 ?_
  refine x_iceq (tgt := 115) rfl rfl (ti_eq rfl jk_m1 ⟨fun c1 => ?_, fun c1 => ?_⟩)
  ·
    exact jX.sub (jsb_c rfl (jsb_c rfl (jsb_c rfl jsb_n))) (ct_X2_readSum_r95_c3_115 hD hQ k4 l3 g0 g1 h (jr_of rfl (by omega)) (jr_of rfl (by omega)) (jr_of rfl (by omega)) (by omega) z0 z1 (by omega) J Sm)
  ·
    refine x_aloadn (x := 95) rfl rfl ?_
    refine x_iloadn (x := l2) rfl rfl ?_
    refine x_inv (N := m_X2_emit) (As := [.int l2]) (b := 95) (st := []) (dx9 := 1) (mc := 0) (ms := 0) (host := "") 2 rfl t_X2_emit ⟨Or.inl q_2_89, i_X2_emit.1, i_X2_emit.2⟩ ⟨by decide, rfl⟩ (congrArg Prod.fst (J.1.1 95 (2, 6) rfl)) rfl (by decide) rfl rfl ⟨by decide, by decide⟩ (sf_X2_emit_r95  hD J  (fun h J S2 => ?_))
    have Sm := jSm_tr rfl Sm S2
    show jX m_X2_readSum 16 0 0 115 [(0, .ref 95), (1, .int 3), (2, .int l2), (3, .int l3)] [] _ 0 0 _
    exact jX.sub (jsb_c rfl (jsb_c rfl (jsb_c rfl jsb_n))) (ct_X2_readSum_r95_c3_115 hD hQ k4 l3 g0 g1 h (jr_of rfl (by omega)) (jr_of rfl (by omega)) (jr_of rfl (by omega)) (by omega) (jmc S2 rfl z0) (jmc S2 rfl z1) (by omega) J Sm)
set_option maxRecDepth 100000 in
set_option maxHeartbeats 4000000 in
theorem ct_X2_readSum_r95_c3_100081 {Dy : jH → Prop} {h0 : jH} {Q : Option Value → jH → Prop} {R4 : Int} {R17 : Int} (hD : jDk Dy) (hQ : ∀ (v : Int32) hx9, 0 ≤ v.toInt ∧ v.toInt ≤ 1 → jJ jSgX Dy hx9 → jSm fp_X2_readSum_r95_c3 h0 hx9 → ∀ u0 u1 : Int32, jiv hx9 68 5 = u0 → jiv hx9 68 3 = u1 → (u0.toInt ≠ 3 ∨ u1.toInt ≤ 399) → Q (some (.int v)) hx9) (k4 : ∀ (l2 : Int32) (l3 : Int32) (g0 : Int32) (g1 : Int32) (h : jH), 400 - l3.toInt < R4 → (-1) ≤ l2.toInt ∧ l2.toInt ≤ 4 → 0 ≤ l3.toInt ∧ l3.toInt ≤ 400 → 0 ≤ g0.toInt ∧ g0.toInt ≤ 400 → 0 ≤ g1.toInt ∧ g1.toInt ≤ 3 → (g1.toInt ≠ 3 ∨ g0.toInt ≤ 399) → jiv h 68 3 = g0 → jiv h 68 5 = g1 → jJ jSgX Dy h → jSm fp_X2_readSum_r95_c3 h0 h → jX m_X2_readSum 16 0 0 4 [(0, .ref 95), (1, .int 3), (2, .int l2), (3, .int l3)] [] h 0 0 Q) (k17 : ∀ (l2 : Int32) (l3 : Int32) (l4 : Int32) (l5 : Int32) (g0 : Int32) (g1 : Int32) (h : jH), 400 - l5.toInt < R17 → (-1) ≤ l2.toInt ∧ l2.toInt ≤ 4 → 0 ≤ l3.toInt ∧ l3.toInt ≤ 399 → (-1) ≤ l4.toInt ∧ l4.toInt ≤ 6 → 0 ≤ l5.toInt ∧ l5.toInt ≤ 400 → 0 ≤ g0.toInt ∧ g0.toInt ≤ 400 → 0 ≤ g1.toInt ∧ g1.toInt ≤ 3 → (g1.toInt ≠ 3 ∨ g0.toInt ≤ 399) → jiv h 68 3 = g0 → jiv h 68 5 = g1 → 400 - l3.toInt ≤ R4 → jJ jSgX Dy h → jSm fp_X2_readSum_r95_c3 h0 h → jX m_X2_readSum 16 0 0 17 [(0, .ref 95), (1, .int 3), (2, .int l2), (3, .int l3), (4, .int l4), (5, .int l5)] [] h 0 0 Q) : ∀ (l2 : Int32) (l3 : Int32) (l5 : Int32) (g0 : Int32) (g1 : Int32) (h : jH), (-1) ≤ l2.toInt ∧ l2.toInt ≤ 4 → 0 ≤ l3.toInt ∧ l3.toInt ≤ 399 → 0 ≤ l5.toInt ∧ l5.toInt ≤ 399 → 0 ≤ g0.toInt ∧ g0.toInt ≤ 400 → 0 ≤ g1.toInt ∧ g1.toInt ≤ 3 → (g1.toInt ≠ 3 ∨ g0.toInt ≤ 399) → jiv h 68 3 = g0 → jiv h 68 5 = g1 → 400 - l3.toInt ≤ R4 → 400 - l5.toInt ≤ R17 → jJ jSgX Dy h → jSm fp_X2_readSum_r95_c3 h0 h → jX m_X2_readSum 16 0 0 81 [(0, .ref 95), (1, .int 3), (2, .int l2), (3, .int l3), (5, .int l5)] [.int (-1)] h 0 0 Q := by
  intro l2 l3 l5 g0 g1 h y0 y1 y2 y3 y4 y5 z0 z1 m4 m17 J Sm
  refine x_istore (lsx9 := [(4, .int (-1)), (0, .ref 95), (1, .int 3), (2, .int l2), (3, .int l3), (5, .int l5)]) rfl rfl rfl ?_
  refine x_iload (x := (-1)) rfl rfl ?_
  refine x_iconst (v := (-1)) rfl ki_m1 ?_
  refine x_icne (tgt := 92) rfl rfl (ti_ne jk_m1 jk_m1 (bn_f (by omega) ?_))
  refine x_goto (tgt := 105) rfl rfl ?_
  exact jX.sub (jsb_c rfl (jsb_c rfl (jsb_c rfl (jsb_c rfl jsb_n)))) (ct_X2_readSum_r95_c3_105 hD hQ k4 l2 l3 g0 g1 h (jr_of rfl (by omega)) (jr_of rfl (by omega)) (jr_of rfl (by omega)) (jr_of rfl (by omega)) (by omega) z0 z1 (by omega) J Sm)
set_option maxRecDepth 100000 in
set_option maxHeartbeats 4000000 in
theorem ct_X2_readSum_r95_c3_800081 {Dy : jH → Prop} {h0 : jH} {Q : Option Value → jH → Prop} {R4 : Int} {R17 : Int} (hD : jDk Dy) (hQ : ∀ (v : Int32) hx9, 0 ≤ v.toInt ∧ v.toInt ≤ 1 → jJ jSgX Dy hx9 → jSm fp_X2_readSum_r95_c3 h0 hx9 → ∀ u0 u1 : Int32, jiv hx9 68 5 = u0 → jiv hx9 68 3 = u1 → (u0.toInt ≠ 3 ∨ u1.toInt ≤ 399) → Q (some (.int v)) hx9) (k4 : ∀ (l2 : Int32) (l3 : Int32) (g0 : Int32) (g1 : Int32) (h : jH), 400 - l3.toInt < R4 → (-1) ≤ l2.toInt ∧ l2.toInt ≤ 4 → 0 ≤ l3.toInt ∧ l3.toInt ≤ 400 → 0 ≤ g0.toInt ∧ g0.toInt ≤ 400 → 0 ≤ g1.toInt ∧ g1.toInt ≤ 3 → (g1.toInt ≠ 3 ∨ g0.toInt ≤ 399) → jiv h 68 3 = g0 → jiv h 68 5 = g1 → jJ jSgX Dy h → jSm fp_X2_readSum_r95_c3 h0 h → jX m_X2_readSum 16 0 0 4 [(0, .ref 95), (1, .int 3), (2, .int l2), (3, .int l3)] [] h 0 0 Q) (k17 : ∀ (l2 : Int32) (l3 : Int32) (l4 : Int32) (l5 : Int32) (g0 : Int32) (g1 : Int32) (h : jH), 400 - l5.toInt < R17 → (-1) ≤ l2.toInt ∧ l2.toInt ≤ 4 → 0 ≤ l3.toInt ∧ l3.toInt ≤ 399 → (-1) ≤ l4.toInt ∧ l4.toInt ≤ 6 → 0 ≤ l5.toInt ∧ l5.toInt ≤ 400 → 0 ≤ g0.toInt ∧ g0.toInt ≤ 400 → 0 ≤ g1.toInt ∧ g1.toInt ≤ 3 → (g1.toInt ≠ 3 ∨ g0.toInt ≤ 399) → jiv h 68 3 = g0 → jiv h 68 5 = g1 → 400 - l3.toInt ≤ R4 → jJ jSgX Dy h → jSm fp_X2_readSum_r95_c3 h0 h → jX m_X2_readSum 16 0 0 17 [(0, .ref 95), (1, .int 3), (2, .int l2), (3, .int l3), (4, .int l4), (5, .int l5)] [] h 0 0 Q) : ∀ (l2 : Int32) (l3 : Int32) (l5 : Int32) (g0 : Int32) (g1 : Int32) (h : jH), (-1) ≤ l2.toInt ∧ l2.toInt ≤ 4 → 0 ≤ l3.toInt ∧ l3.toInt ≤ 399 → 0 ≤ l5.toInt ∧ l5.toInt ≤ 399 → 0 ≤ g0.toInt ∧ g0.toInt ≤ 400 → 0 ≤ g1.toInt ∧ g1.toInt ≤ 3 → (g1.toInt ≠ 3 ∨ g0.toInt ≤ 399) → jiv h 68 3 = g0 → jiv h 68 5 = g1 → 400 - l3.toInt ≤ R4 → 400 - l5.toInt ≤ R17 → jJ jSgX Dy h → jSm fp_X2_readSum_r95_c3 h0 h → jX m_X2_readSum 16 0 0 81 [(0, .ref 95), (1, .int 3), (2, .int l2), (3, .int l3), (5, .int l5)] [.int 6] h 0 0 Q := by
  intro l2 l3 l5 g0 g1 h y0 y1 y2 y3 y4 y5 z0 z1 m4 m17 J Sm
  refine x_istore (lsx9 := [(4, .int 6), (0, .ref 95), (1, .int 3), (2, .int l2), (3, .int l3), (5, .int l5)]) rfl rfl rfl ?_
  refine x_iload (x := 6) rfl rfl ?_
  refine x_iconst (v := (-1)) rfl ki_m1 ?_
  refine x_icne (tgt := 92) rfl rfl (ti_ne jk_6 jk_m1 (bn_t (by omega) ?_))
  refine x_aloadn (x := 95) rfl rfl ?_
  refine z_getR (N := 6) (b := 68) 2 0 rfl f_2_30 rfl J rfl 12160 ⟨rfl, rfl⟩ rfl ?_
  refine x_inv (N := m_X9_step) (As := []) (b := 68) (st := []) (dx9 := 2) (mc := 0) (ms := 0) (host := "") 9 rfl t_X9_step ⟨Or.inl q_2_62, i_X9_step.1, i_X9_step.2⟩ ⟨by decide, rfl⟩ (congrArg Prod.fst (J.1.1 68 (9, 6) rfl)) rfl (by decide) rfl rfl ⟨by decide, by decide⟩ (sf_X9_step_r68  hD J z1 z0 (by omega)  (fun h J S1 u2 u3 qu2 qu3 ru2 => ?_))
  have Sm := jSm_tr rfl Sm S1
  have eu2 := (show 0 ≤ u2.toInt ∧ u2.toInt ≤ 3 from qu2 ▸ jrg_f J sg_68_5_6_1_0_1)
  have eu3 := (show 0 ≤ u3.toInt ∧ u3.toInt ≤ 400 from qu3 ▸ jrg_f J sg_68_3_4_1_0_1)
  show jX m_X2_readSum 16 0 0 99 [(4, .int 6), (0, .ref 95), (1, .int 3), (2, .int l2), (3, .int l3), (5, .int l5)] [] _ 0 0 _
  refine z_iinc (x := l5) (lsx9 := fun v4 => [(5, .int v4), (4, .int 6), (0, .ref 95), (1, .int 3), (2, .int l2), (3, .int l3)]) rfl rfl rfl jko_1 (by omega) rfl (fun _ => rfl) (fun v4 ev4 => ?_)
  refine x_goto (tgt := 17) rfl rfl ?_
  exact jX.sub (jsb_c rfl (jsb_c rfl (jsb_c rfl (jsb_c rfl (jsb_c rfl (jsb_c rfl jsb_n)))))) (k17 l2 l3 6 v4 u3 u2 h (by omega) (jr_of rfl (by omega)) (jr_of rfl (by omega)) (jr_of jk_6 (by omega)) (jr_of rfl (by omega)) (jr_of rfl (by omega)) (jr_of rfl (by omega)) (by omega) qu3 qu2 (by omega) J Sm)
set_option maxRecDepth 100000 in
set_option maxHeartbeats 4000000 in
theorem ct_X2_readSum_r95_c3_700081 {Dy : jH → Prop} {h0 : jH} {Q : Option Value → jH → Prop} {R4 : Int} {R17 : Int} (hD : jDk Dy) (hQ : ∀ (v : Int32) hx9, 0 ≤ v.toInt ∧ v.toInt ≤ 1 → jJ jSgX Dy hx9 → jSm fp_X2_readSum_r95_c3 h0 hx9 → ∀ u0 u1 : Int32, jiv hx9 68 5 = u0 → jiv hx9 68 3 = u1 → (u0.toInt ≠ 3 ∨ u1.toInt ≤ 399) → Q (some (.int v)) hx9) (k4 : ∀ (l2 : Int32) (l3 : Int32) (g0 : Int32) (g1 : Int32) (h : jH), 400 - l3.toInt < R4 → (-1) ≤ l2.toInt ∧ l2.toInt ≤ 4 → 0 ≤ l3.toInt ∧ l3.toInt ≤ 400 → 0 ≤ g0.toInt ∧ g0.toInt ≤ 400 → 0 ≤ g1.toInt ∧ g1.toInt ≤ 3 → (g1.toInt ≠ 3 ∨ g0.toInt ≤ 399) → jiv h 68 3 = g0 → jiv h 68 5 = g1 → jJ jSgX Dy h → jSm fp_X2_readSum_r95_c3 h0 h → jX m_X2_readSum 16 0 0 4 [(0, .ref 95), (1, .int 3), (2, .int l2), (3, .int l3)] [] h 0 0 Q) (k17 : ∀ (l2 : Int32) (l3 : Int32) (l4 : Int32) (l5 : Int32) (g0 : Int32) (g1 : Int32) (h : jH), 400 - l5.toInt < R17 → (-1) ≤ l2.toInt ∧ l2.toInt ≤ 4 → 0 ≤ l3.toInt ∧ l3.toInt ≤ 399 → (-1) ≤ l4.toInt ∧ l4.toInt ≤ 6 → 0 ≤ l5.toInt ∧ l5.toInt ≤ 400 → 0 ≤ g0.toInt ∧ g0.toInt ≤ 400 → 0 ≤ g1.toInt ∧ g1.toInt ≤ 3 → (g1.toInt ≠ 3 ∨ g0.toInt ≤ 399) → jiv h 68 3 = g0 → jiv h 68 5 = g1 → 400 - l3.toInt ≤ R4 → jJ jSgX Dy h → jSm fp_X2_readSum_r95_c3 h0 h → jX m_X2_readSum 16 0 0 17 [(0, .ref 95), (1, .int 3), (2, .int l2), (3, .int l3), (4, .int l4), (5, .int l5)] [] h 0 0 Q) : ∀ (l2 : Int32) (l3 : Int32) (l5 : Int32) (g0 : Int32) (g1 : Int32) (h : jH), (-1) ≤ l2.toInt ∧ l2.toInt ≤ 4 → 0 ≤ l3.toInt ∧ l3.toInt ≤ 399 → 0 ≤ l5.toInt ∧ l5.toInt ≤ 399 → 0 ≤ g0.toInt ∧ g0.toInt ≤ 400 → 0 ≤ g1.toInt ∧ g1.toInt ≤ 3 → (g1.toInt ≠ 3 ∨ g0.toInt ≤ 399) → jiv h 68 3 = g0 → jiv h 68 5 = g1 → 400 - l3.toInt ≤ R4 → 400 - l5.toInt ≤ R17 → jJ jSgX Dy h → jSm fp_X2_readSum_r95_c3 h0 h → jX m_X2_readSum 16 0 0 81 [(0, .ref 95), (1, .int 3), (2, .int l2), (3, .int l3), (5, .int l5)] [.int 5] h 0 0 Q := by
  intro l2 l3 l5 g0 g1 h y0 y1 y2 y3 y4 y5 z0 z1 m4 m17 J Sm
  refine x_istore (lsx9 := [(4, .int 5), (0, .ref 95), (1, .int 3), (2, .int l2), (3, .int l3), (5, .int l5)]) rfl rfl rfl ?_
  refine x_iload (x := 5) rfl rfl ?_
  refine x_iconst (v := (-1)) rfl ki_m1 ?_
  refine x_icne (tgt := 92) rfl rfl (ti_ne jk_5 jk_m1 (bn_t (by omega) ?_))
  refine x_aloadn (x := 95) rfl rfl ?_
  refine z_getR (N := 6) (b := 68) 2 0 rfl f_2_30 rfl J rfl 12160 ⟨rfl, rfl⟩ rfl ?_
  refine x_inv (N := m_X9_step) (As := []) (b := 68) (st := []) (dx9 := 2) (mc := 0) (ms := 0) (host := "") 9 rfl t_X9_step ⟨Or.inl q_2_62, i_X9_step.1, i_X9_step.2⟩ ⟨by decide, rfl⟩ (congrArg Prod.fst (J.1.1 68 (9, 6) rfl)) rfl (by decide) rfl rfl ⟨by decide, by decide⟩ (sf_X9_step_r68  hD J z1 z0 (by omega)  (fun h J S1 u2 u3 qu2 qu3 ru2 => ?_))
  have Sm := jSm_tr rfl Sm S1
  have eu2 := (show 0 ≤ u2.toInt ∧ u2.toInt ≤ 3 from qu2 ▸ jrg_f J sg_68_5_6_1_0_1)
  have eu3 := (show 0 ≤ u3.toInt ∧ u3.toInt ≤ 400 from qu3 ▸ jrg_f J sg_68_3_4_1_0_1)
  show jX m_X2_readSum 16 0 0 99 [(4, .int 5), (0, .ref 95), (1, .int 3), (2, .int l2), (3, .int l3), (5, .int l5)] [] _ 0 0 _
  refine z_iinc (x := l5) (lsx9 := fun v4 => [(5, .int v4), (4, .int 5), (0, .ref 95), (1, .int 3), (2, .int l2), (3, .int l3)]) rfl rfl rfl jko_1 (by omega) rfl (fun _ => rfl) (fun v4 ev4 => ?_)
  refine x_goto (tgt := 17) rfl rfl ?_
  exact jX.sub (jsb_c rfl (jsb_c rfl (jsb_c rfl (jsb_c rfl (jsb_c rfl (jsb_c rfl jsb_n)))))) (k17 l2 l3 5 v4 u3 u2 h (by omega) (jr_of rfl (by omega)) (jr_of rfl (by omega)) (jr_of jk_5 (by omega)) (jr_of rfl (by omega)) (jr_of rfl (by omega)) (jr_of rfl (by omega)) (by omega) qu3 qu2 (by omega) J Sm)
set_option maxRecDepth 100000 in
set_option maxHeartbeats 4000000 in
theorem ct_X2_readSum_r95_c3_47 {Dy : jH → Prop} {h0 : jH} {Q : Option Value → jH → Prop} {R4 : Int} {R17 : Int} (hD : jDk Dy) (hQ : ∀ (v : Int32) hx9, 0 ≤ v.toInt ∧ v.toInt ≤ 1 → jJ jSgX Dy hx9 → jSm fp_X2_readSum_r95_c3 h0 hx9 → ∀ u0 u1 : Int32, jiv hx9 68 5 = u0 → jiv hx9 68 3 = u1 → (u0.toInt ≠ 3 ∨ u1.toInt ≤ 399) → Q (some (.int v)) hx9) (k4 : ∀ (l2 : Int32) (l3 : Int32) (g0 : Int32) (g1 : Int32) (h : jH), 400 - l3.toInt < R4 → (-1) ≤ l2.toInt ∧ l2.toInt ≤ 4 → 0 ≤ l3.toInt ∧ l3.toInt ≤ 400 → 0 ≤ g0.toInt ∧ g0.toInt ≤ 400 → 0 ≤ g1.toInt ∧ g1.toInt ≤ 3 → (g1.toInt ≠ 3 ∨ g0.toInt ≤ 399) → jiv h 68 3 = g0 → jiv h 68 5 = g1 → jJ jSgX Dy h → jSm fp_X2_readSum_r95_c3 h0 h → jX m_X2_readSum 16 0 0 4 [(0, .ref 95), (1, .int 3), (2, .int l2), (3, .int l3)] [] h 0 0 Q) (k17 : ∀ (l2 : Int32) (l3 : Int32) (l4 : Int32) (l5 : Int32) (g0 : Int32) (g1 : Int32) (h : jH), 400 - l5.toInt < R17 → (-1) ≤ l2.toInt ∧ l2.toInt ≤ 4 → 0 ≤ l3.toInt ∧ l3.toInt ≤ 399 → (-1) ≤ l4.toInt ∧ l4.toInt ≤ 6 → 0 ≤ l5.toInt ∧ l5.toInt ≤ 400 → 0 ≤ g0.toInt ∧ g0.toInt ≤ 400 → 0 ≤ g1.toInt ∧ g1.toInt ≤ 3 → (g1.toInt ≠ 3 ∨ g0.toInt ≤ 399) → jiv h 68 3 = g0 → jiv h 68 5 = g1 → 400 - l3.toInt ≤ R4 → jJ jSgX Dy h → jSm fp_X2_readSum_r95_c3 h0 h → jX m_X2_readSum 16 0 0 17 [(0, .ref 95), (1, .int 3), (2, .int l2), (3, .int l3), (4, .int l4), (5, .int l5)] [] h 0 0 Q) : ∀ (l2 : Int32) (l3 : Int32) (l5 : Int32) (g0 : Int32) (g1 : Int32) (h : jH), (-1) ≤ l2.toInt ∧ l2.toInt ≤ 4 → 0 ≤ l3.toInt ∧ l3.toInt ≤ 399 → 0 ≤ l5.toInt ∧ l5.toInt ≤ 399 → 0 ≤ g0.toInt ∧ g0.toInt ≤ 400 → 0 ≤ g1.toInt ∧ g1.toInt ≤ 3 → (g1.toInt ≠ 3 ∨ g0.toInt ≤ 399) → jiv h 68 3 = g0 → jiv h 68 5 = g1 → 400 - l3.toInt ≤ R4 → 400 - l5.toInt ≤ R17 → jJ jSgX Dy h → jSm fp_X2_readSum_r95_c3 h0 h → jX m_X2_readSum 16 0 0 47 [(0, .ref 95), (1, .int 3), (2, .int l2), (3, .int l3), (5, .int l5)] [] h 0 0 Q := by
  intro l2 l3 l5 g0 g1 h y0 y1 y2 y3 y4 y5 z0 z1 m4 m17 J Sm
  refine x_aloadn (x := 95) rfl rfl ?_
  refine z_getR (N := 6) (b := 68) 2 0 rfl f_2_30 rfl J rfl 12160 ⟨rfl, rfl⟩ rfl ?_
  refine x_bipush (v := 42) rfl kb_42 ?_
  refine x_inv (N := m_X9_isSign) (As := [.int 42]) (b := 68) (st := []) (dx9 := 1) (mc := 0) (ms := 0) (host := "") 9 rfl t_X9_isSign ⟨Or.inl q_2_55, i_X9_isSign.1, i_X9_isSign.2⟩ ⟨by decide, rfl⟩ (congrArg Prod.fst (J.1.1 68 (9, 6) rfl)) rfl (by decide) rfl rfl ⟨by decide, by decide⟩ (sf_X9_isSign_r68 (jr_of jk_42 (by omega)) hD J z1 z0 (by omega)  (fun v4 h ev4 J S1 u2 u3 qu2 qu3 ru2 => ?_))
  have Sm := jSm_tr rfl Sm S1
  have eu2 := (show 0 ≤ u2.toInt ∧ u2.toInt ≤ 3 from qu2 ▸ jrg_f J sg_68_5_6_1_0_1)
  have eu3 := (show 0 ≤ u3.toInt ∧ u3.toInt ≤ 400 from qu3 ▸ jrg_f J sg_68_3_4_1_0_1)
  show jX m_X2_readSum 16 0 0 56 [(0, .ref 95), (1, .int 3), (2, .int l2), (3, .int l3), (5, .int l5)] [.int v4] _ 0 0 _
  refine x_ifeq (tgt := 63) rfl rfl (ti_eq rfl jk_0 ⟨fun c5 => ?_, fun c5 => ?_⟩)
  ·
    refine x_aloadn (x := 95) rfl rfl ?_
    refine z_getR (N := 6) (b := 68) 2 0 rfl f_2_30 rfl J rfl 12160 ⟨rfl, rfl⟩ rfl ?_
    refine x_bipush (v := 47) rfl kb_47 ?_
    refine x_inv (N := m_X9_isSign) (As := [.int 47]) (b := 68) (st := []) (dx9 := 1) (mc := 0) (ms := 0) (host := "") 9 rfl t_X9_isSign ⟨Or.inl q_2_55, i_X9_isSign.1, i_X9_isSign.2⟩ ⟨by decide, rfl⟩ (congrArg Prod.fst (J.1.1 68 (9, 6) rfl)) rfl (by decide) rfl rfl ⟨by decide, by decide⟩ (sf_X9_isSign_r68 (jr_of jk_47 (by omega)) hD J qu2 qu3 (by omega)  (fun v9 h ev9 J S6 u7 u8 qu7 qu8 ru7 => ?_))
    have Sm := jSm_tr rfl Sm S6
    have eu7 := (show 0 ≤ u7.toInt ∧ u7.toInt ≤ 3 from qu7 ▸ jrg_f J sg_68_5_6_1_0_1)
    have eu8 := (show 0 ≤ u8.toInt ∧ u8.toInt ≤ 400 from qu8 ▸ jrg_f J sg_68_3_4_1_0_1)
    show jX m_X2_readSum 16 0 0 72 [(0, .ref 95), (1, .int 3), (2, .int l2), (3, .int l3), (5, .int l5)] [.int v9] _ 0 0 _
    refine x_ifeq (tgt := 80) rfl rfl (ti_eq rfl jk_0 ⟨fun c10 => ?_, fun c10 => ?_⟩)
    ·
      refine x_iconst (v := (-1)) rfl ki_m1 ?_
      exact jX.sub (jsb_c rfl (jsb_c rfl (jsb_c rfl (jsb_c rfl (jsb_c rfl jsb_n))))) (ct_X2_readSum_r95_c3_100081 hD hQ k4 k17 l2 l3 l5 u8 u7 h (jr_of rfl (by omega)) (jr_of rfl (by omega)) (jr_of rfl (by omega)) (jr_of rfl (by omega)) (jr_of rfl (by omega)) (by omega) qu8 qu7 (by omega) (by omega) J Sm)
    ·
      refine x_bipush (v := 6) rfl kb_6 ?_
      refine x_goto (tgt := 81) rfl rfl ?_
      exact jX.sub (jsb_c rfl (jsb_c rfl (jsb_c rfl (jsb_c rfl (jsb_c rfl jsb_n))))) (ct_X2_readSum_r95_c3_800081 hD hQ k4 k17 l2 l3 l5 u8 u7 h (jr_of rfl (by omega)) (jr_of rfl (by omega)) (jr_of rfl (by omega)) (jr_of rfl (by omega)) (jr_of rfl (by omega)) (by omega) qu8 qu7 (by omega) (by omega) J Sm)
  ·
    refine x_iconst (v := 5) rfl ki_5 ?_
    refine x_goto (tgt := 81) rfl rfl ?_
    exact jX.sub (jsb_c rfl (jsb_c rfl (jsb_c rfl (jsb_c rfl (jsb_c rfl jsb_n))))) (ct_X2_readSum_r95_c3_700081 hD hQ k4 k17 l2 l3 l5 u3 u2 h (jr_of rfl (by omega)) (jr_of rfl (by omega)) (jr_of rfl (by omega)) (jr_of rfl (by omega)) (jr_of rfl (by omega)) (by omega) qu3 qu2 (by omega) (by omega) J Sm)
set_option maxRecDepth 100000 in
set_option maxHeartbeats 4000000 in
theorem ct_X2_readSum_r95_c3_17 {Dy : jH → Prop} {h0 : jH} {Q : Option Value → jH → Prop} {R4 : Int} (hD : jDk Dy) (hQ : ∀ (v : Int32) hx9, 0 ≤ v.toInt ∧ v.toInt ≤ 1 → jJ jSgX Dy hx9 → jSm fp_X2_readSum_r95_c3 h0 hx9 → ∀ u0 u1 : Int32, jiv hx9 68 5 = u0 → jiv hx9 68 3 = u1 → (u0.toInt ≠ 3 ∨ u1.toInt ≤ 399) → Q (some (.int v)) hx9) (k4 : ∀ (l2 : Int32) (l3 : Int32) (g0 : Int32) (g1 : Int32) (h : jH), 400 - l3.toInt < R4 → (-1) ≤ l2.toInt ∧ l2.toInt ≤ 4 → 0 ≤ l3.toInt ∧ l3.toInt ≤ 400 → 0 ≤ g0.toInt ∧ g0.toInt ≤ 400 → 0 ≤ g1.toInt ∧ g1.toInt ≤ 3 → (g1.toInt ≠ 3 ∨ g0.toInt ≤ 399) → jiv h 68 3 = g0 → jiv h 68 5 = g1 → jJ jSgX Dy h → jSm fp_X2_readSum_r95_c3 h0 h → jX m_X2_readSum 16 0 0 4 [(0, .ref 95), (1, .int 3), (2, .int l2), (3, .int l3)] [] h 0 0 Q) : ∀ r : Nat, ∀ (l2 : Int32) (l3 : Int32) (l4 : Int32) (l5 : Int32) (g0 : Int32) (g1 : Int32) (h : jH), 400 - l5.toInt < (r : Int) → (-1) ≤ l2.toInt ∧ l2.toInt ≤ 4 → 0 ≤ l3.toInt ∧ l3.toInt ≤ 399 → (-1) ≤ l4.toInt ∧ l4.toInt ≤ 6 → 0 ≤ l5.toInt ∧ l5.toInt ≤ 400 → 0 ≤ g0.toInt ∧ g0.toInt ≤ 400 → 0 ≤ g1.toInt ∧ g1.toInt ≤ 3 → (g1.toInt ≠ 3 ∨ g0.toInt ≤ 399) → jiv h 68 3 = g0 → jiv h 68 5 = g1 → 400 - l3.toInt ≤ R4 → jJ jSgX Dy h → jSm fp_X2_readSum_r95_c3 h0 h → jX m_X2_readSum 16 0 0 17 [(0, .ref 95), (1, .int 3), (2, .int l2), (3, .int l3), (4, .int l4), (5, .int l5)] [] h 0 0 Q := by
  intro r
  induction r with
  | zero =>
    intro l2 l3 l4 l5 g0 g1 h hm y0 y1 y2 y3 y4 y5 y6 z0 z1 m4 J Sm
    exfalso
    omega
  | succ r ih =>
    intro l2 l3 l4 l5 g0 g1 h hm y0 y1 y2 y3 y4 y5 y6 z0 z1 m4 J Sm
    refine x_iload (x := l5) rfl rfl ?_
    refine x_sipush (v := 400) rfl ks_400 ?_
    refine x_icge (tgt := 105) rfl rfl (ti_ge rfl jk_400 ⟨fun c1 => ?_, fun c1 => ?_⟩)
    ·
      exact jX.sub (jsb_c rfl (jsb_c rfl (jsb_c rfl (jsb_c rfl jsb_n)))) (ct_X2_readSum_r95_c3_105 hD hQ k4 l2 l3 g0 g1 h (jr_of rfl (by omega)) (jr_of rfl (by omega)) (jr_of rfl (by omega)) (jr_of rfl (by omega)) (by omega) z0 z1 (by omega) J Sm)
    ·
      refine x_aloadn (x := 95) rfl rfl ?_
      refine x_iloadn (x := 3) rfl rfl ?_
      refine x_inv (N := m_X2_readFactor) (As := [.int 3]) (b := 95) (st := []) (dx9 := 15) (mc := 0) (ms := 0) (host := "") 2 rfl t_X2_readFactor ⟨Or.inl q_2_144, i_X2_readFactor.1, i_X2_readFactor.2⟩ ⟨by decide, rfl⟩ (congrArg Prod.fst (J.1.1 95 (2, 6) rfl)) rfl (by decide) rfl rfl ⟨by decide, by decide⟩ (sf_X2_readFactor_r95_c3  hD J z1 z0 (by omega)  (fun v5 h ev5 J S2 u3 u4 qu3 qu4 ru3 => ?_))
      have Sm := jSm_tr rfl Sm S2
      have eu3 := (show 0 ≤ u3.toInt ∧ u3.toInt ≤ 3 from qu3 ▸ jrg_f J sg_68_5_6_1_0_1)
      have eu4 := (show 0 ≤ u4.toInt ∧ u4.toInt ≤ 400 from qu4 ▸ jrg_f J sg_68_3_4_1_0_1)
      show jX m_X2_readSum 16 0 0 30 [(0, .ref 95), (1, .int 3), (2, .int l2), (3, .int l3), (4, .int l4), (5, .int l5)] [.int v5] _ 0 0 _
      refine x_ifne (tgt := 35) rfl rfl (ti_ne rfl jk_0 ⟨fun c6 => ?_, fun c6 => ?_⟩)
      ·
        refine x_iload (x := l4) rfl rfl ?_
        refine x_iconst (v := (-1)) rfl ki_m1 ?_
        refine x_iceq (tgt := 47) rfl rfl (ti_eq rfl jk_m1 ⟨fun c7 => ?_, fun c7 => ?_⟩)
        ·
          exact jX.sub (jsb_c rfl (jsb_c rfl (jsb_c rfl (jsb_c rfl (jsb_c rfl jsb_n))))) (ct_X2_readSum_r95_c3_47 hD hQ k4 ih l2 l3 l5 u4 u3 h (jr_of rfl (by omega)) (jr_of rfl (by omega)) (jr_of rfl (by omega)) (jr_of rfl (by omega)) (jr_of rfl (by omega)) (by omega) qu4 qu3 (by omega) (by omega) J Sm)
        ·
          refine x_aloadn (x := 95) rfl rfl ?_
          refine x_iload (x := l4) rfl rfl ?_
          refine x_inv (N := m_X2_emit) (As := [.int l4]) (b := 95) (st := []) (dx9 := 1) (mc := 0) (ms := 0) (host := "") 2 rfl t_X2_emit ⟨Or.inl q_2_89, i_X2_emit.1, i_X2_emit.2⟩ ⟨by decide, rfl⟩ (congrArg Prod.fst (J.1.1 95 (2, 6) rfl)) rfl (by decide) rfl rfl ⟨by decide, by decide⟩ (sf_X2_emit_r95  hD J  (fun h J S8 => ?_))
          have Sm := jSm_tr rfl Sm S8
          show jX m_X2_readSum 16 0 0 47 [(0, .ref 95), (1, .int 3), (2, .int l2), (3, .int l3), (4, .int l4), (5, .int l5)] [] _ 0 0 _
          exact jX.sub (jsb_c rfl (jsb_c rfl (jsb_c rfl (jsb_c rfl (jsb_c rfl jsb_n))))) (ct_X2_readSum_r95_c3_47 hD hQ k4 ih l2 l3 l5 u4 u3 h (jr_of rfl (by omega)) (jr_of rfl (by omega)) (jr_of rfl (by omega)) (jr_of rfl (by omega)) (jr_of rfl (by omega)) (by omega) (jmc S8 rfl qu4) (jmc S8 rfl qu3) (by omega) (by omega) J Sm)
      ·
        refine x_iconst (v := 0) rfl ki_0 ?_
        refine x_zret rfl rfl (by decide) ?_
        exact hQ _ _ (jr_of jk_0 (by omega)) J Sm _ _ qu3 qu4 (by omega)
set_option maxRecDepth 100000 in
set_option maxHeartbeats 4000000 in
theorem ct_X2_readSum_r95_c3_4 {Dy : jH → Prop} {h0 : jH} {Q : Option Value → jH → Prop} (hD : jDk Dy) (hQ : ∀ (v : Int32) hx9, 0 ≤ v.toInt ∧ v.toInt ≤ 1 → jJ jSgX Dy hx9 → jSm fp_X2_readSum_r95_c3 h0 hx9 → ∀ u0 u1 : Int32, jiv hx9 68 5 = u0 → jiv hx9 68 3 = u1 → (u0.toInt ≠ 3 ∨ u1.toInt ≤ 399) → Q (some (.int v)) hx9) : ∀ r : Nat, ∀ (l2 : Int32) (l3 : Int32) (g0 : Int32) (g1 : Int32) (h : jH), 400 - l3.toInt < (r : Int) → (-1) ≤ l2.toInt ∧ l2.toInt ≤ 4 → 0 ≤ l3.toInt ∧ l3.toInt ≤ 400 → 0 ≤ g0.toInt ∧ g0.toInt ≤ 400 → 0 ≤ g1.toInt ∧ g1.toInt ≤ 3 → (g1.toInt ≠ 3 ∨ g0.toInt ≤ 399) → jiv h 68 3 = g0 → jiv h 68 5 = g1 → jJ jSgX Dy h → jSm fp_X2_readSum_r95_c3 h0 h → jX m_X2_readSum 16 0 0 4 [(0, .ref 95), (1, .int 3), (2, .int l2), (3, .int l3)] [] h 0 0 Q := by
  intro r
  induction r with
  | zero =>
    intro l2 l3 g0 g1 h hm y0 y1 y2 y3 y4 z0 z1  J Sm
    exfalso
    omega
  | succ r ih =>
    intro l2 l3 g0 g1 h hm y0 y1 y2 y3 y4 z0 z1  J Sm
    refine x_iloadn (x := l3) rfl rfl ?_
    refine x_sipush (v := 400) rfl ks_400 ?_
    refine x_icge (tgt := 169) rfl rfl (ti_ge rfl jk_400 ⟨fun c1 => ?_, fun c1 => ?_⟩)
    ·
      refine x_aloadn (x := 95) rfl rfl ?_
      refine z_getR (N := 6) (b := 68) 2 0 rfl f_2_30 rfl J rfl 12160 ⟨rfl, rfl⟩ rfl ?_
      refine x_inv (N := m_X9_blame) (As := []) (b := 68) (st := []) (dx9 := 15) (mc := 0) (ms := 0) (host := "") 9 rfl t_X9_blame ⟨Or.inl q_2_59, i_X9_blame.1, i_X9_blame.2⟩ ⟨by decide, rfl⟩ (congrArg Prod.fst (J.1.1 68 (9, 6) rfl)) rfl (by decide) rfl rfl ⟨by decide, by decide⟩ (jC.of rfl k_X9_blame rfl ?_)
      show jX m_X9_blame 15 0 0 0 [(0, .ref 68)] [] _ 0 0 _
      refine x_aloadn (x := 68) rfl rfl ?_
      refine x_aloadn (x := 68) rfl rfl ?_
      refine z_getM (N := 6) (v := g0) 9 3 rfl f_9_22 rfl J rfl z0 ?_
      refine z_putI (N := 6) (w := g0.toInt) 9 2 rfl f_9_19 rfl (jfin_no TX9 RX9 6 rfl rfl) hD J Sm rfl rfl rfl (pw_68_2 (by omega)) rfl (fun h w2 J Sm => ?_)
      refine x_iconst (v := 0) rfl ki_0 ?_
      refine x_zret rfl rfl (by decide) ?_
      show jX m_X2_readSum 16 0 0 176 [(0, .ref 95), (1, .int 3), (2, .int l2), (3, .int l3)] [.int 0] _ 0 0 _
      refine x_zret rfl rfl (by decide) ?_
      exact hQ _ _ (jr_of jk_0 (by omega)) J Sm _ _ (jmo w2 rfl z1) (jmo w2 rfl z0) (by omega)
    ·
      refine x_iconst (v := (-1)) rfl ki_m1 ?_
      refine x_istore (lsx9 := [(4, .int (-1)), (0, .ref 95), (1, .int 3), (2, .int l2), (3, .int l3)]) rfl rfl rfl ?_
      refine x_iconst (v := 0) rfl ki_0 ?_
      refine x_istore (lsx9 := [(5, .int 0), (4, .int (-1)), (0, .ref 95), (1, .int 3), (2, .int l2), (3, .int l3)]) rfl rfl rfl ?_
      exact jX.sub (jsb_c rfl (jsb_c rfl (jsb_c rfl (jsb_c rfl (jsb_c rfl (jsb_c rfl jsb_n)))))) (ct_X2_readSum_r95_c3_17 hD hQ ih 401 l2 l3 (-1) 0 g0 g1 h (by have := jk_0; omega) (jr_of rfl (by omega)) (jr_of rfl (by omega)) (jr_of jk_m1 (by omega)) (jr_of jk_0 (by omega)) (jr_of rfl (by omega)) (jr_of rfl (by omega)) (by omega) z0 z1 (by omega) J Sm)
set_option maxRecDepth 100000 in
set_option maxHeartbeats 4000000 in
theorem sf_X2_readSum_r95_c3 {Dy : jH → Prop} {h : jH} {Q : Option Value → jH → Prop} (hD : jDk Dy) (J : jJ jSgX Dy h) {p0 p1 : Int32} (zp0 : jiv h 68 5 = p0) (zp1 : jiv h 68 3 = p1) (rl_p0 : (p0.toInt ≠ 3 ∨ p1.toInt ≤ 399)) (hQ : ∀ (v : Int32) hx9, 0 ≤ v.toInt ∧ v.toInt ≤ 1 → jJ jSgX Dy hx9 → jSm fp_X2_readSum_r95_c3 h hx9 → ∀ u0 u1 : Int32, jiv hx9 68 5 = u0 → jiv hx9 68 3 = u1 → (u0.toInt ≠ 3 ∨ u1.toInt ≤ 399) → Q (some (.int v)) hx9) : jC m_X2_readSum 16 0 0 [.ref 95, .int 3] h Q := by
  refine jC.of rfl k_X2_readSum rfl ?_
  have Sm := jSm_rf fp_X2_readSum_r95_c3 h
  have ep0 := (show 0 ≤ p0.toInt ∧ p0.toInt ≤ 3 from zp0 ▸ jrg_f J sg_68_5_6_1_0_1)
  have ep1 := (show 0 ≤ p1.toInt ∧ p1.toInt ≤ 400 from zp1 ▸ jrg_f J sg_68_3_4_1_0_1)
  show jX m_X2_readSum 16 0 0 0 [(0, .ref 95), (1, .int 3)] [] _ 0 0 _
  refine x_iconst (v := (-1)) rfl ki_m1 ?_
  refine x_istoren (lsx9 := [(2, .int (-1)), (0, .ref 95), (1, .int 3)]) rfl rfl rfl ?_
  refine x_iconst (v := 0) rfl ki_0 ?_
  refine x_istoren (lsx9 := [(3, .int 0), (2, .int (-1)), (0, .ref 95), (1, .int 3)]) rfl rfl rfl ?_
  exact jX.sub (jsb_c rfl (jsb_c rfl (jsb_c rfl (jsb_c rfl jsb_n)))) (ct_X2_readSum_r95_c3_4 hD hQ  401 (-1) 0 p1 p0 h (by have := jk_0; omega) (jr_of jk_m1 (by omega)) (jr_of jk_0 (by omega)) (jr_of rfl (by omega)) (jr_of rfl (by omega)) (by omega) zp1 zp0 J Sm)
def fp_X2_readFactor_r95_c2 : jFp := [(68, 2, 3), (68, 3, 4), (68, 4, 5), (68, 5, 6), (95, 4, 5), (95, 5, 6), (97, 0, 1200)]
set_option maxRecDepth 100000 in
set_option maxHeartbeats 4000000 in
theorem ct_X2_readFactor_r95_c2_111 {Dy : jH → Prop} {h0 : jH} {Q : Option Value → jH → Prop} (hD : jDk Dy) (hQ : ∀ (v : Int32) hx9, 0 ≤ v.toInt ∧ v.toInt ≤ 1 → jJ jSgX Dy hx9 → jSm fp_X2_readFactor_r95_c2 h0 hx9 → ∀ u0 u1 : Int32, jiv hx9 68 5 = u0 → jiv hx9 68 3 = u1 → (u0.toInt ≠ 3 ∨ u1.toInt ≤ 399) → Q (some (.int v)) hx9) : ∀ (s0 : Int32) (g0 : Int32) (g1 : Int32) (h : jH), 0 ≤ s0.toInt ∧ s0.toInt ≤ 1 → 0 ≤ g0.toInt ∧ g0.toInt ≤ 400 → 0 ≤ g1.toInt ∧ g1.toInt ≤ 3 → (g1.toInt ≠ 3 ∨ g0.toInt ≤ 399) → jiv h 68 3 = g0 → jiv h 68 5 = g1 → jJ jSgX Dy h → jSm fp_X2_readFactor_r95_c2 h0 h → jX m_X2_readFactor 17 0 0 111 [] [.int s0] h 0 0 Q := by
  intro s0 g0 g1 h y0 y1 y2 y3 z0 z1  J Sm
  refine x_zret rfl rfl (jz01 (by omega)) ?_
  exact hQ _ _ (jr_of rfl (by omega)) J Sm _ _ z1 z0 (by omega)
set_option maxRecDepth 100000 in
set_option maxHeartbeats 4000000 in
theorem ct_X2_readFactor_r95_c2_200111 {Dy : jH → Prop} {h0 : jH} {Q : Option Value → jH → Prop} (hD : jDk Dy) (hQ : ∀ (v : Int32) hx9, 0 ≤ v.toInt ∧ v.toInt ≤ 1 → jJ jSgX Dy hx9 → jSm fp_X2_readFactor_r95_c2 h0 hx9 → ∀ u0 u1 : Int32, jiv hx9 68 5 = u0 → jiv hx9 68 3 = u1 → (u0.toInt ≠ 3 ∨ u1.toInt ≤ 399) → Q (some (.int v)) hx9) : ∀ (g0 : Int32) (g1 : Int32) (h : jH), 0 ≤ g0.toInt ∧ g0.toInt ≤ 400 → 0 ≤ g1.toInt ∧ g1.toInt ≤ 3 → (g1.toInt ≠ 3 ∨ g0.toInt ≤ 399) → jiv h 68 3 = g0 → jiv h 68 5 = g1 → jJ jSgX Dy h → jSm fp_X2_readFactor_r95_c2 h0 h → jX m_X2_readFactor 17 0 0 111 [] [.int 0] h 0 0 Q := by
  intro g0 g1 h y0 y1 y2 z0 z1  J Sm
  refine x_zret rfl rfl (by decide) ?_
  exact hQ _ _ (jr_of jk_0 (by omega)) J Sm _ _ z1 z0 (by omega)
set_option maxRecDepth 100000 in
set_option maxHeartbeats 4000000 in
theorem ct_X2_readFactor_r95_c2_300057 {Dy : jH → Prop} {h0 : jH} {Q : Option Value → jH → Prop} (hD : jDk Dy) (hQ : ∀ (v : Int32) hx9, 0 ≤ v.toInt ∧ v.toInt ≤ 1 → jJ jSgX Dy hx9 → jSm fp_X2_readFactor_r95_c2 h0 hx9 → ∀ u0 u1 : Int32, jiv hx9 68 5 = u0 → jiv hx9 68 3 = u1 → (u0.toInt ≠ 3 ∨ u1.toInt ≤ 399) → Q (some (.int v)) hx9) : ∀ (g0 : Int32) (g1 : Int32) (h : jH), 0 ≤ g0.toInt ∧ g0.toInt ≤ 400 → 0 ≤ g1.toInt ∧ g1.toInt ≤ 3 → (g1.toInt ≠ 3 ∨ g0.toInt ≤ 399) → jiv h 68 3 = g0 → jiv h 68 5 = g1 → jJ jSgX Dy h → jSm fp_X2_readFactor_r95_c2 h0 h → jX m_X2_readFactor 17 0 0 57 [] [.int 1] h 0 0 Q := by
  intro g0 g1 h y0 y1 y2 z0 z1  J Sm
  refine x_zret rfl rfl (by decide) ?_
  exact hQ _ _ (jr_of jk_1 (by omega)) J Sm _ _ z1 z0 (by omega)
set_option maxRecDepth 100000 in
set_option maxHeartbeats 4000000 in
theorem ct_X2_readFactor_r95_c2_200057 {Dy : jH → Prop} {h0 : jH} {Q : Option Value → jH → Prop} (hD : jDk Dy) (hQ : ∀ (v : Int32) hx9, 0 ≤ v.toInt ∧ v.toInt ≤ 1 → jJ jSgX Dy hx9 → jSm fp_X2_readFactor_r95_c2 h0 hx9 → ∀ u0 u1 : Int32, jiv hx9 68 5 = u0 → jiv hx9 68 3 = u1 → (u0.toInt ≠ 3 ∨ u1.toInt ≤ 399) → Q (some (.int v)) hx9) : ∀ (g0 : Int32) (g1 : Int32) (h : jH), 0 ≤ g0.toInt ∧ g0.toInt ≤ 400 → 0 ≤ g1.toInt ∧ g1.toInt ≤ 3 → (g1.toInt ≠ 3 ∨ g0.toInt ≤ 399) → jiv h 68 3 = g0 → jiv h 68 5 = g1 → jJ jSgX Dy h → jSm fp_X2_readFactor_r95_c2 h0 h → jX m_X2_readFactor 17 0 0 57 [] [.int 0] h 0 0 Q := by
  intro g0 g1 h y0 y1 y2 z0 z1  J Sm
  refine x_zret rfl rfl (by decide) ?_
  exact hQ _ _ (jr_of jk_0 (by omega)) J Sm _ _ z1 z0 (by omega)
set_option maxRecDepth 100000 in
set_option maxHeartbeats 4000000 in
theorem ct_X2_readFactor_r95_c2_56 {Dy : jH → Prop} {h0 : jH} {Q : Option Value → jH → Prop} (hD : jDk Dy) (hQ : ∀ (v : Int32) hx9, 0 ≤ v.toInt ∧ v.toInt ≤ 1 → jJ jSgX Dy hx9 → jSm fp_X2_readFactor_r95_c2 h0 hx9 → ∀ u0 u1 : Int32, jiv hx9 68 5 = u0 → jiv hx9 68 3 = u1 → (u0.toInt ≠ 3 ∨ u1.toInt ≤ 399) → Q (some (.int v)) hx9) : ∀ (g0 : Int32) (g1 : Int32) (h : jH), 0 ≤ g0.toInt ∧ g0.toInt ≤ 400 → 0 ≤ g1.toInt ∧ g1.toInt ≤ 3 → (g1.toInt ≠ 3 ∨ g0.toInt ≤ 399) → jiv h 68 3 = g0 → jiv h 68 5 = g1 → jJ jSgX Dy h → jSm fp_X2_readFactor_r95_c2 h0 h → jX m_X2_readFactor 17 0 0 56 [] [] h 0 0 Q := by
  intro g0 g1 h y0 y1 y2 z0 z1  J Sm
  refine x_iconst (v := 0) rfl ki_0 ?_
  exact jX.sub jsb_n (ct_X2_readFactor_r95_c2_200057 hD hQ  g0 g1 h (jr_of rfl (by omega)) (jr_of rfl (by omega)) (by omega) z0 z1 J Sm)
set_option maxRecDepth 100000 in
set_option maxHeartbeats 4000000 in
theorem sf_X2_readFactor_r95_c2 {Dy : jH → Prop} {h : jH} {Q : Option Value → jH → Prop} (hD : jDk Dy) (J : jJ jSgX Dy h) {p0 p1 : Int32} (zp0 : jiv h 68 5 = p0) (zp1 : jiv h 68 3 = p1) (rl_p0 : (p0.toInt ≠ 3 ∨ p1.toInt ≤ 399)) (hQ : ∀ (v : Int32) hx9, 0 ≤ v.toInt ∧ v.toInt ≤ 1 → jJ jSgX Dy hx9 → jSm fp_X2_readFactor_r95_c2 h hx9 → ∀ u0 u1 : Int32, jiv hx9 68 5 = u0 → jiv hx9 68 3 = u1 → (u0.toInt ≠ 3 ∨ u1.toInt ≤ 399) → Q (some (.int v)) hx9) : jC m_X2_readFactor 17 0 0 [.ref 95, .int 2] h Q := by
  refine jC.of rfl k_X2_readFactor rfl ?_
  have Sm := jSm_rf fp_X2_readFactor_r95_c2 h
  have ep0 := (show 0 ≤ p0.toInt ∧ p0.toInt ≤ 3 from zp0 ▸ jrg_f J sg_68_5_6_1_0_1)
  have ep1 := (show 0 ≤ p1.toInt ∧ p1.toInt ≤ 400 from zp1 ▸ jrg_f J sg_68_3_4_1_0_1)
  show jX m_X2_readFactor 17 0 0 0 [(0, .ref 95), (1, .int 2)] [] _ 0 0 _
  refine x_aloadn (x := 95) rfl rfl ?_
  refine z_getR (N := 6) (b := 68) 2 0 rfl f_2_30 rfl J rfl 12160 ⟨rfl, rfl⟩ rfl ?_
  refine x_bipush (v := 91) rfl kb_91 ?_
  refine x_inv (N := m_X9_isSign) (As := [.int 91]) (b := 68) (st := []) (dx9 := 1) (mc := 0) (ms := 0) (host := "") 9 rfl t_X9_isSign ⟨Or.inl q_2_55, i_X9_isSign.1, i_X9_isSign.2⟩ ⟨by decide, rfl⟩ (congrArg Prod.fst (J.1.1 68 (9, 6) rfl)) rfl (by decide) rfl rfl ⟨by decide, by decide⟩ (sf_X9_isSign_r68 (jr_of jk_91 (by omega)) hD J zp0 zp1 (by omega)  (fun v4 h ev4 J S1 u2 u3 qu2 qu3 ru2 => ?_))
  have Sm := jSm_tr rfl Sm S1
  have eu2 := (show 0 ≤ u2.toInt ∧ u2.toInt ≤ 3 from qu2 ▸ jrg_f J sg_68_5_6_1_0_1)
  have eu3 := (show 0 ≤ u3.toInt ∧ u3.toInt ≤ 400 from qu3 ▸ jrg_f J sg_68_3_4_1_0_1)
  show jX m_X2_readFactor 17 0 0 9 [(0, .ref 95), (1, .int 2)] [.int v4] _ 0 0 _
  refine x_ifeq (tgt := 58) rfl rfl (ti_eq rfl jk_0 ⟨fun c5 => ?_, fun c5 => ?_⟩)
  ·
    refine x_aloadn (x := 95) rfl rfl ?_
    refine z_getR (N := 6) (b := 68) 2 0 rfl f_2_30 rfl J rfl 12160 ⟨rfl, rfl⟩ rfl ?_
    refine x_ldc (v := 100000) rfl z_2_147 ?_
    refine x_inv (N := m_X9_numberTo) (As := [.int 100000]) (b := 68) (st := []) (dx9 := 1) (mc := 0) (ms := 0) (host := "") 9 rfl t_X9_numberTo ⟨Or.inl q_2_117, i_X9_numberTo.1, i_X9_numberTo.2⟩ ⟨by decide, rfl⟩ (congrArg Prod.fst (J.1.1 68 (9, 6) rfl)) rfl (by decide) rfl rfl ⟨by decide, by decide⟩ (sf_X9_numberTo_r68 (jr_of jk_100000 (by omega)) hD J  (fun v7 h ev7 J S6 => ?_))
    have Sm := jSm_tr rfl Sm S6
    show jX m_X2_readFactor 17 0 0 67 [(0, .ref 95), (1, .int 2)] [.int v7] _ 0 0 _
    refine x_istoren (lsx9 := [(2, .int v7), (0, .ref 95), (1, .int 2)]) rfl rfl rfl ?_
    refine x_iloadn (x := v7) rfl rfl ?_
    refine x_iconst (v := (-1)) rfl ki_m1 ?_
    refine x_iceq (tgt := 80) rfl rfl (ti_eq rfl jk_m1 ⟨fun c8 => ?_, fun c8 => ?_⟩)
    ·
      refine x_aloadn (x := 95) rfl rfl ?_
      refine z_getR (N := 6) (b := 68) 2 0 rfl f_2_30 rfl J rfl 12160 ⟨rfl, rfl⟩ rfl ?_
      refine x_ldcS (jstr.getD 6 jstr_0) rfl (List.mem_of_getElem? (i := 6) rfl) rfl rfl ?_
      show jX m_X2_readFactor 17 0 0 86 [(2, .int v7), (0, .ref 95), (1, .int 2)] [.ref 11, .ref 68] _ 0 0 _
      refine x_inv (N := m_X9_wordOf) (As := [.ref 11]) (b := 68) (st := []) (dx9 := 4) (mc := 0) (ms := 0) (host := "") 9 rfl t_X9_wordOf ⟨Or.inl q_2_67, i_X9_wordOf.1, i_X9_wordOf.2⟩ ⟨by decide, rfl⟩ (congrArg Prod.fst (J.1.1 68 (9, 6) rfl)) rfl (by decide) rfl rfl ⟨by decide, by decide⟩ (sf_X9_wordOf_r68_r11  hD J  (fun v10 h J S9 => ?_))
      have ev10 := jfull v10
      have Sm := jSm_tr rfl Sm S9
      show jX m_X2_readFactor 17 0 0 89 [(2, .int v7), (0, .ref 95), (1, .int 2)] [.int v10] _ 0 0 _
      refine x_istoren (lsx9 := [(3, .int v10), (2, .int v7), (0, .ref 95), (1, .int 2)]) rfl rfl rfl ?_
      refine x_iloadn (x := v10) rfl rfl ?_
      refine x_iconst (v := (-1)) rfl ki_m1 ?_
      refine x_icne (tgt := 105) rfl rfl (ti_ne rfl jk_m1 ⟨fun c11 => ?_, fun c11 => ?_⟩)
      ·
        refine x_aloadn (x := 95) rfl rfl ?_
        refine x_iconst (v := 2) rfl ki_2 ?_
        refine x_iloadn (x := v10) rfl rfl ?_
        refine x_inv (N := m_X2_readPart) (As := [.int 2, .int v10]) (b := 95) (st := []) (dx9 := 3) (mc := 0) (ms := 0) (host := "") 2 rfl t_X2_readPart ⟨Or.inl q_2_141, i_X2_readPart.1, i_X2_readPart.2⟩ ⟨by decide, rfl⟩ (congrArg Prod.fst (J.1.1 95 (2, 6) rfl)) rfl (by decide) rfl rfl ⟨by decide, by decide⟩ (sf_X2_readPart_r95 (jr_of jk_2 (by omega)) hD J (jmc S9 rfl (jmc S6 rfl qu2)) (jmc S9 rfl (jmc S6 rfl qu3)) (by omega)  (fun v15 h ev15 J S12 u13 u14 qu13 qu14 ru13 => ?_))
        have Sm := jSm_tr rfl Sm S12
        have eu13 := (show 0 ≤ u13.toInt ∧ u13.toInt ≤ 3 from qu13 ▸ jrg_f J sg_68_5_6_1_0_1)
        have eu14 := (show 0 ≤ u14.toInt ∧ u14.toInt ≤ 400 from qu14 ▸ jrg_f J sg_68_3_4_1_0_1)
        show jX m_X2_readFactor 17 0 0 111 [(3, .int v10), (2, .int v7), (0, .ref 95), (1, .int 2)] [.int v15] _ 0 0 _
        exact jX.sub jsb_n (ct_X2_readFactor_r95_c2_111 hD hQ  v15 u14 u13 h (jr_of rfl (by omega)) (jr_of rfl (by omega)) (jr_of rfl (by omega)) (by omega) qu14 qu13 J Sm)
      ·
        refine x_aloadn (x := 95) rfl rfl ?_
        refine z_getR (N := 6) (b := 68) 2 0 rfl f_2_30 rfl J rfl 12160 ⟨rfl, rfl⟩ rfl ?_
        refine x_inv (N := m_X9_blame) (As := []) (b := 68) (st := []) (dx9 := 16) (mc := 0) (ms := 0) (host := "") 9 rfl t_X9_blame ⟨Or.inl q_2_59, i_X9_blame.1, i_X9_blame.2⟩ ⟨by decide, rfl⟩ (congrArg Prod.fst (J.1.1 68 (9, 6) rfl)) rfl (by decide) rfl rfl ⟨by decide, by decide⟩ (jC.of rfl k_X9_blame rfl ?_)
        show jX m_X9_blame 16 0 0 0 [(0, .ref 68)] [] _ 0 0 _
        refine x_aloadn (x := 68) rfl rfl ?_
        refine x_aloadn (x := 68) rfl rfl ?_
        refine z_getM (N := 6) (v := u3) 9 3 rfl f_9_22 rfl J rfl (jmc S9 rfl (jmc S6 rfl qu3)) ?_
        refine z_putI (N := 6) (w := u3.toInt) 9 2 rfl f_9_19 rfl (jfin_no TX9 RX9 6 rfl rfl) hD J Sm rfl rfl rfl (pw_68_2 (by omega)) rfl (fun h w16 J Sm => ?_)
        refine x_iconst (v := 0) rfl ki_0 ?_
        refine x_zret rfl rfl (by decide) ?_
        show jX m_X2_readFactor 17 0 0 102 [(3, .int v10), (2, .int v7), (0, .ref 95), (1, .int 2)] [.int 0] _ 0 0 _
        refine x_goto (tgt := 111) rfl rfl ?_
        exact jX.sub jsb_n (ct_X2_readFactor_r95_c2_200111 hD hQ  u3 u2 h (jr_of rfl (by omega)) (jr_of rfl (by omega)) (by omega) (jmo w16 rfl (jmc S9 rfl (jmc S6 rfl qu3))) (jmo w16 rfl (jmc S9 rfl (jmc S6 rfl qu2))) J Sm)
    ·
      refine x_aloadn (x := 95) rfl rfl ?_
      refine x_iconst (v := 1) rfl ki_1 ?_
      refine x_iloadn (x := v7) rfl rfl ?_
      refine x_inv (N := m_X2_readPart) (As := [.int 1, .int v7]) (b := 95) (st := []) (dx9 := 3) (mc := 0) (ms := 0) (host := "") 2 rfl t_X2_readPart ⟨Or.inl q_2_141, i_X2_readPart.1, i_X2_readPart.2⟩ ⟨by decide, rfl⟩ (congrArg Prod.fst (J.1.1 95 (2, 6) rfl)) rfl (by decide) rfl rfl ⟨by decide, by decide⟩ (sf_X2_readPart_r95 (jr_of jk_1 (by omega)) hD J (jmc S6 rfl qu2) (jmc S6 rfl qu3) (by omega)  (fun v20 h ev20 J S17 u18 u19 qu18 qu19 ru18 => ?_))
      have Sm := jSm_tr rfl Sm S17
      have eu18 := (show 0 ≤ u18.toInt ∧ u18.toInt ≤ 3 from qu18 ▸ jrg_f J sg_68_5_6_1_0_1)
      have eu19 := (show 0 ≤ u19.toInt ∧ u19.toInt ≤ 400 from qu19 ▸ jrg_f J sg_68_3_4_1_0_1)
      show jX m_X2_readFactor 17 0 0 79 [(2, .int v7), (0, .ref 95), (1, .int 2)] [.int v20] _ 0 0 _
      refine x_zret rfl rfl (jz01 (by omega)) ?_
      exact hQ _ _ (jr_of rfl (by omega)) J Sm _ _ qu18 qu19 (by omega)
  ·
    refine x_iloadn (x := 2) rfl rfl ?_
    refine x_bipush (v := 8) rfl kb_8 ?_
    refine x_iclt (tgt := 26) rfl rfl (ti_lt jk_2 jk_8 (br_t (by omega) ?_))
    refine x_aloadn (x := 95) rfl rfl ?_
    refine z_getR (N := 6) (b := 68) 2 0 rfl f_2_30 rfl J rfl 12160 ⟨rfl, rfl⟩ rfl ?_
    refine x_inv (N := m_X9_step) (As := []) (b := 68) (st := []) (dx9 := 2) (mc := 0) (ms := 0) (host := "") 9 rfl t_X9_step ⟨Or.inl q_2_62, i_X9_step.1, i_X9_step.2⟩ ⟨by decide, rfl⟩ (congrArg Prod.fst (J.1.1 68 (9, 6) rfl)) rfl (by decide) rfl rfl ⟨by decide, by decide⟩ (sf_X9_step_r68  hD J qu2 qu3 (by omega)  (fun h J S21 u22 u23 qu22 qu23 ru22 => ?_))
    have Sm := jSm_tr rfl Sm S21
    have eu22 := (show 0 ≤ u22.toInt ∧ u22.toInt ≤ 3 from qu22 ▸ jrg_f J sg_68_5_6_1_0_1)
    have eu23 := (show 0 ≤ u23.toInt ∧ u23.toInt ≤ 400 from qu23 ▸ jrg_f J sg_68_3_4_1_0_1)
    show jX m_X2_readFactor 17 0 0 33 [(0, .ref 95), (1, .int 2)] [] _ 0 0 _
    refine x_aloadn (x := 95) rfl rfl ?_
    refine x_iloadn (x := 2) rfl rfl ?_
    refine x_iconst (v := 1) rfl ki_1 ?_
    refine y_iadd (v := 3) rfl (by decide) ?_
    refine x_inv (N := m_X2_readSum) (As := [.int 3]) (b := 95) (st := []) (dx9 := 16) (mc := 0) (ms := 0) (host := "") 2 rfl t_X2_readSum ⟨Or.inl q_2_86, i_X2_readSum.1, i_X2_readSum.2⟩ ⟨by decide, rfl⟩ (congrArg Prod.fst (J.1.1 95 (2, 6) rfl)) rfl (by decide) rfl rfl ⟨by decide, by decide⟩ (sf_X2_readSum_r95_c3  hD J qu22 qu23 (by omega)  (fun v27 h ev27 J S24 u25 u26 qu25 qu26 ru25 => ?_))
    have Sm := jSm_tr rfl Sm S24
    have eu25 := (show 0 ≤ u25.toInt ∧ u25.toInt ≤ 3 from qu25 ▸ jrg_f J sg_68_5_6_1_0_1)
    have eu26 := (show 0 ≤ u26.toInt ∧ u26.toInt ≤ 400 from qu26 ▸ jrg_f J sg_68_3_4_1_0_1)
    show jX m_X2_readFactor 17 0 0 40 [(0, .ref 95), (1, .int 2)] [.int v27] _ 0 0 _
    refine x_ifeq (tgt := 56) rfl rfl (ti_eq rfl jk_0 ⟨fun c28 => ?_, fun c28 => ?_⟩)
    ·
      exact jX.sub jsb_n (ct_X2_readFactor_r95_c2_56 hD hQ  u26 u25 h (jr_of rfl (by omega)) (jr_of rfl (by omega)) (by omega) qu26 qu25 J Sm)
    ·
      refine x_aloadn (x := 95) rfl rfl ?_
      refine x_bipush (v := 93) rfl kb_93 ?_
      refine x_inv (N := m_X2_readSign) (As := [.int 93]) (b := 95) (st := []) (dx9 := 16) (mc := 0) (ms := 0) (host := "") 2 rfl t_X2_readSign ⟨Or.inl q_2_138, i_X2_readSign.1, i_X2_readSign.2⟩ ⟨by decide, rfl⟩ (congrArg Prod.fst (J.1.1 95 (2, 6) rfl)) rfl (by decide) rfl rfl ⟨by decide, by decide⟩ (jC.of rfl k_X2_readSign rfl ?_)
      show jX m_X2_readSign 16 0 0 0 [(0, .ref 95), (1, .int 93)] [] _ 0 0 _
      refine x_aloadn (x := 95) rfl rfl ?_
      refine z_getR (N := 6) (b := 68) 2 0 rfl f_2_30 rfl J rfl 12160 ⟨rfl, rfl⟩ rfl ?_
      refine x_iloadn (x := 93) rfl rfl ?_
      refine x_inv (N := m_X9_isSign) (As := [.int 93]) (b := 68) (st := []) (dx9 := 1) (mc := 0) (ms := 0) (host := "") 9 rfl t_X9_isSign ⟨Or.inl q_2_55, i_X9_isSign.1, i_X9_isSign.2⟩ ⟨by decide, rfl⟩ (congrArg Prod.fst (J.1.1 68 (9, 6) rfl)) rfl (by decide) rfl rfl ⟨by decide, by decide⟩ (sf_X9_isSign_r68 (jr_of jk_93 (by omega)) hD J qu25 qu26 (by omega)  (fun v32 h ev32 J S29 u30 u31 qu30 qu31 ru30 => ?_))
      have Sm := jSm_tr rfl Sm S29
      have eu30 := (show 0 ≤ u30.toInt ∧ u30.toInt ≤ 3 from qu30 ▸ jrg_f J sg_68_5_6_1_0_1)
      have eu31 := (show 0 ≤ u31.toInt ∧ u31.toInt ≤ 400 from qu31 ▸ jrg_f J sg_68_3_4_1_0_1)
      show jX m_X2_readSign 16 0 0 8 [(0, .ref 95), (1, .int 93)] [.int v32] _ 0 0 _
      refine x_ifne (tgt := 19) rfl rfl (ti_ne rfl jk_0 ⟨fun c33 => ?_, fun c33 => ?_⟩)
      ·
        refine x_aloadn (x := 95) rfl rfl ?_
        refine z_getR (N := 6) (b := 68) 2 0 rfl f_2_30 rfl J rfl 12160 ⟨rfl, rfl⟩ rfl ?_
        refine x_inv (N := m_X9_step) (As := []) (b := 68) (st := []) (dx9 := 2) (mc := 0) (ms := 0) (host := "") 9 rfl t_X9_step ⟨Or.inl q_2_62, i_X9_step.1, i_X9_step.2⟩ ⟨by decide, rfl⟩ (congrArg Prod.fst (J.1.1 68 (9, 6) rfl)) rfl (by decide) rfl rfl ⟨by decide, by decide⟩ (sf_X9_step_r68  hD J qu30 qu31 (by omega)  (fun h J S34 u35 u36 qu35 qu36 ru35 => ?_))
        have Sm := jSm_tr rfl Sm S34
        have eu35 := (show 0 ≤ u35.toInt ∧ u35.toInt ≤ 3 from qu35 ▸ jrg_f J sg_68_5_6_1_0_1)
        have eu36 := (show 0 ≤ u36.toInt ∧ u36.toInt ≤ 400 from qu36 ▸ jrg_f J sg_68_3_4_1_0_1)
        show jX m_X2_readSign 16 0 0 26 [(0, .ref 95), (1, .int 93)] [] _ 0 0 _
        refine x_iconst (v := 1) rfl ki_1 ?_
        refine x_zret rfl rfl (by decide) ?_
        show jX m_X2_readFactor 17 0 0 49 [(0, .ref 95), (1, .int 2)] [.int 1] _ 0 0 _
        refine x_ifeq (tgt := 56) rfl rfl (ti_eq jk_1 jk_0 (br_f (by omega) ?_))
        refine x_iconst (v := 1) rfl ki_1 ?_
        refine x_goto (tgt := 57) rfl rfl ?_
        exact jX.sub jsb_n (ct_X2_readFactor_r95_c2_300057 hD hQ  u36 u35 h (jr_of rfl (by omega)) (jr_of rfl (by omega)) (by omega) qu36 qu35 J Sm)
      ·
        refine x_aloadn (x := 95) rfl rfl ?_
        refine z_getR (N := 6) (b := 68) 2 0 rfl f_2_30 rfl J rfl 12160 ⟨rfl, rfl⟩ rfl ?_
        refine x_inv (N := m_X9_blame) (As := []) (b := 68) (st := []) (dx9 := 15) (mc := 0) (ms := 0) (host := "") 9 rfl t_X9_blame ⟨Or.inl q_2_59, i_X9_blame.1, i_X9_blame.2⟩ ⟨by decide, rfl⟩ (congrArg Prod.fst (J.1.1 68 (9, 6) rfl)) rfl (by decide) rfl rfl ⟨by decide, by decide⟩ (jC.of rfl k_X9_blame rfl ?_)
        show jX m_X9_blame 15 0 0 0 [(0, .ref 68)] [] _ 0 0 _
        refine x_aloadn (x := 68) rfl rfl ?_
        refine x_aloadn (x := 68) rfl rfl ?_
        refine z_getM (N := 6) (v := u31) 9 3 rfl f_9_22 rfl J rfl qu31 ?_
        refine z_putI (N := 6) (w := u31.toInt) 9 2 rfl f_9_19 rfl (jfin_no TX9 RX9 6 rfl rfl) hD J Sm rfl rfl rfl (pw_68_2 (by omega)) rfl (fun h w37 J Sm => ?_)
        refine x_iconst (v := 0) rfl ki_0 ?_
        refine x_zret rfl rfl (by decide) ?_
        show jX m_X2_readSign 16 0 0 18 [(0, .ref 95), (1, .int 93)] [.int 0] _ 0 0 _
        refine x_zret rfl rfl (by decide) ?_
        show jX m_X2_readFactor 17 0 0 49 [(0, .ref 95), (1, .int 2)] [.int 0] _ 0 0 _
        refine x_ifeq (tgt := 56) rfl rfl (ti_eq jk_0 jk_0 (br_t (by omega) ?_))
        exact jX.sub jsb_n (ct_X2_readFactor_r95_c2_56 hD hQ  u31 u30 h (jr_of rfl (by omega)) (jr_of rfl (by omega)) (by omega) (jmo w37 rfl qu31) (jmo w37 rfl qu30) J Sm)
def fp_X2_readSum_r95_c2 : jFp := [(68, 2, 3), (68, 3, 4), (68, 4, 5), (68, 5, 6), (95, 4, 5), (95, 5, 6), (97, 0, 1200)]
set_option maxRecDepth 100000 in
set_option maxHeartbeats 4000000 in
theorem ct_X2_readSum_r95_c2_100148 {Dy : jH → Prop} {h0 : jH} {Q : Option Value → jH → Prop} {R4 : Int} (hD : jDk Dy) (hQ : ∀ (v : Int32) hx9, 0 ≤ v.toInt ∧ v.toInt ≤ 1 → jJ jSgX Dy hx9 → jSm fp_X2_readSum_r95_c2 h0 hx9 → ∀ u0 u1 : Int32, jiv hx9 68 5 = u0 → jiv hx9 68 3 = u1 → (u0.toInt ≠ 3 ∨ u1.toInt ≤ 399) → Q (some (.int v)) hx9) (k4 : ∀ (l2 : Int32) (l3 : Int32) (g0 : Int32) (g1 : Int32) (h : jH), 400 - l3.toInt < R4 → (-1) ≤ l2.toInt ∧ l2.toInt ≤ 4 → 0 ≤ l3.toInt ∧ l3.toInt ≤ 400 → 0 ≤ g0.toInt ∧ g0.toInt ≤ 400 → 0 ≤ g1.toInt ∧ g1.toInt ≤ 3 → (g1.toInt ≠ 3 ∨ g0.toInt ≤ 399) → jiv h 68 3 = g0 → jiv h 68 5 = g1 → jJ jSgX Dy h → jSm fp_X2_readSum_r95_c2 h0 h → jX m_X2_readSum 18 0 0 4 [(0, .ref 95), (1, .int 2), (2, .int l2), (3, .int l3)] [] h 0 0 Q) : ∀ (l3 : Int32) (g0 : Int32) (g1 : Int32) (h : jH), 0 ≤ l3.toInt ∧ l3.toInt ≤ 399 → 0 ≤ g0.toInt ∧ g0.toInt ≤ 400 → 0 ≤ g1.toInt ∧ g1.toInt ≤ 3 → (g1.toInt ≠ 3 ∨ g0.toInt ≤ 399) → jiv h 68 3 = g0 → jiv h 68 5 = g1 → 400 - l3.toInt ≤ R4 → jJ jSgX Dy h → jSm fp_X2_readSum_r95_c2 h0 h → jX m_X2_readSum 18 0 0 148 [(0, .ref 95), (1, .int 2), (3, .int l3)] [.int (-1)] h 0 0 Q := by
  intro l3 g0 g1 h y0 y1 y2 y3 z0 z1 m4 J Sm
  refine x_istoren (lsx9 := [(2, .int (-1)), (0, .ref 95), (1, .int 2), (3, .int l3)]) rfl rfl rfl ?_
  refine x_iloadn (x := (-1)) rfl rfl ?_
  refine x_iconst (v := (-1)) rfl ki_m1 ?_
  refine x_icne (tgt := 156) rfl rfl (ti_ne jk_m1 jk_m1 (bn_f (by omega) ?_))
  refine x_iconst (v := 1) rfl ki_1 ?_
  refine x_zret rfl rfl (by decide) ?_
  exact hQ _ _ (jr_of jk_1 (by omega)) J Sm _ _ z1 z0 (by omega)
set_option maxRecDepth 100000 in
set_option maxHeartbeats 4000000 in
theorem ct_X2_readSum_r95_c2_600148 {Dy : jH → Prop} {h0 : jH} {Q : Option Value → jH → Prop} {R4 : Int} (hD : jDk Dy) (hQ : ∀ (v : Int32) hx9, 0 ≤ v.toInt ∧ v.toInt ≤ 1 → jJ jSgX Dy hx9 → jSm fp_X2_readSum_r95_c2 h0 hx9 → ∀ u0 u1 : Int32, jiv hx9 68 5 = u0 → jiv hx9 68 3 = u1 → (u0.toInt ≠ 3 ∨ u1.toInt ≤ 399) → Q (some (.int v)) hx9) (k4 : ∀ (l2 : Int32) (l3 : Int32) (g0 : Int32) (g1 : Int32) (h : jH), 400 - l3.toInt < R4 → (-1) ≤ l2.toInt ∧ l2.toInt ≤ 4 → 0 ≤ l3.toInt ∧ l3.toInt ≤ 400 → 0 ≤ g0.toInt ∧ g0.toInt ≤ 400 → 0 ≤ g1.toInt ∧ g1.toInt ≤ 3 → (g1.toInt ≠ 3 ∨ g0.toInt ≤ 399) → jiv h 68 3 = g0 → jiv h 68 5 = g1 → jJ jSgX Dy h → jSm fp_X2_readSum_r95_c2 h0 h → jX m_X2_readSum 18 0 0 4 [(0, .ref 95), (1, .int 2), (2, .int l2), (3, .int l3)] [] h 0 0 Q) : ∀ (l3 : Int32) (g0 : Int32) (g1 : Int32) (h : jH), 0 ≤ l3.toInt ∧ l3.toInt ≤ 399 → 0 ≤ g0.toInt ∧ g0.toInt ≤ 400 → 0 ≤ g1.toInt ∧ g1.toInt ≤ 3 → (g1.toInt ≠ 3 ∨ g0.toInt ≤ 399) → jiv h 68 3 = g0 → jiv h 68 5 = g1 → 400 - l3.toInt ≤ R4 → jJ jSgX Dy h → jSm fp_X2_readSum_r95_c2 h0 h → jX m_X2_readSum 18 0 0 148 [(0, .ref 95), (1, .int 2), (3, .int l3)] [.int 4] h 0 0 Q := by
  intro l3 g0 g1 h y0 y1 y2 y3 z0 z1 m4 J Sm
  refine x_istoren (lsx9 := [(2, .int 4), (0, .ref 95), (1, .int 2), (3, .int l3)]) rfl rfl rfl ?_
  refine x_iloadn (x := 4) rfl rfl ?_
  refine x_iconst (v := (-1)) rfl ki_m1 ?_
  refine x_icne (tgt := 156) rfl rfl (ti_ne jk_4 jk_m1 (bn_t (by omega) ?_))
  refine x_aloadn (x := 95) rfl rfl ?_
  refine z_getR (N := 6) (b := 68) 2 0 rfl f_2_30 rfl J rfl 12160 ⟨rfl, rfl⟩ rfl ?_
  refine x_inv (N := m_X9_step) (As := []) (b := 68) (st := []) (dx9 := 2) (mc := 0) (ms := 0) (host := "") 9 rfl t_X9_step ⟨Or.inl q_2_62, i_X9_step.1, i_X9_step.2⟩ ⟨by decide, rfl⟩ (congrArg Prod.fst (J.1.1 68 (9, 6) rfl)) rfl (by decide) rfl rfl ⟨by decide, by decide⟩ (sf_X9_step_r68  hD J z1 z0 (by omega)  (fun h J S1 u2 u3 qu2 qu3 ru2 => ?_))
  have Sm := jSm_tr rfl Sm S1
  have eu2 := (show 0 ≤ u2.toInt ∧ u2.toInt ≤ 3 from qu2 ▸ jrg_f J sg_68_5_6_1_0_1)
  have eu3 := (show 0 ≤ u3.toInt ∧ u3.toInt ≤ 400 from qu3 ▸ jrg_f J sg_68_3_4_1_0_1)
  show jX m_X2_readSum 18 0 0 163 [(2, .int 4), (0, .ref 95), (1, .int 2), (3, .int l3)] [] _ 0 0 _
  refine z_iinc (x := l3) (lsx9 := fun v4 => [(3, .int v4), (2, .int 4), (0, .ref 95), (1, .int 2)]) rfl rfl rfl jko_1 (by omega) rfl (fun _ => rfl) (fun v4 ev4 => ?_)
  refine x_goto (tgt := 4) rfl rfl ?_
  exact jX.sub (jsb_c rfl (jsb_c rfl (jsb_c rfl (jsb_c rfl jsb_n)))) (k4 4 v4 u3 u2 h (by omega) (jr_of jk_4 (by omega)) (jr_of rfl (by omega)) (jr_of rfl (by omega)) (jr_of rfl (by omega)) (by omega) qu3 qu2 J Sm)
set_option maxRecDepth 100000 in
set_option maxHeartbeats 4000000 in
theorem ct_X2_readSum_r95_c2_500148 {Dy : jH → Prop} {h0 : jH} {Q : Option Value → jH → Prop} {R4 : Int} (hD : jDk Dy) (hQ : ∀ (v : Int32) hx9, 0 ≤ v.toInt ∧ v.toInt ≤ 1 → jJ jSgX Dy hx9 → jSm fp_X2_readSum_r95_c2 h0 hx9 → ∀ u0 u1 : Int32, jiv hx9 68 5 = u0 → jiv hx9 68 3 = u1 → (u0.toInt ≠ 3 ∨ u1.toInt ≤ 399) → Q (some (.int v)) hx9) (k4 : ∀ (l2 : Int32) (l3 : Int32) (g0 : Int32) (g1 : Int32) (h : jH), 400 - l3.toInt < R4 → (-1) ≤ l2.toInt ∧ l2.toInt ≤ 4 → 0 ≤ l3.toInt ∧ l3.toInt ≤ 400 → 0 ≤ g0.toInt ∧ g0.toInt ≤ 400 → 0 ≤ g1.toInt ∧ g1.toInt ≤ 3 → (g1.toInt ≠ 3 ∨ g0.toInt ≤ 399) → jiv h 68 3 = g0 → jiv h 68 5 = g1 → jJ jSgX Dy h → jSm fp_X2_readSum_r95_c2 h0 h → jX m_X2_readSum 18 0 0 4 [(0, .ref 95), (1, .int 2), (2, .int l2), (3, .int l3)] [] h 0 0 Q) : ∀ (l3 : Int32) (g0 : Int32) (g1 : Int32) (h : jH), 0 ≤ l3.toInt ∧ l3.toInt ≤ 399 → 0 ≤ g0.toInt ∧ g0.toInt ≤ 400 → 0 ≤ g1.toInt ∧ g1.toInt ≤ 3 → (g1.toInt ≠ 3 ∨ g0.toInt ≤ 399) → jiv h 68 3 = g0 → jiv h 68 5 = g1 → 400 - l3.toInt ≤ R4 → jJ jSgX Dy h → jSm fp_X2_readSum_r95_c2 h0 h → jX m_X2_readSum 18 0 0 148 [(0, .ref 95), (1, .int 2), (3, .int l3)] [.int 3] h 0 0 Q := by
  intro l3 g0 g1 h y0 y1 y2 y3 z0 z1 m4 J Sm
  refine x_istoren (lsx9 := [(2, .int 3), (0, .ref 95), (1, .int 2), (3, .int l3)]) rfl rfl rfl ?_
  refine x_iloadn (x := 3) rfl rfl ?_
  refine x_iconst (v := (-1)) rfl ki_m1 ?_
  refine x_icne (tgt := 156) rfl rfl (ti_ne jk_3 jk_m1 (bn_t (by omega) ?_))
  refine x_aloadn (x := 95) rfl rfl ?_
  refine z_getR (N := 6) (b := 68) 2 0 rfl f_2_30 rfl J rfl 12160 ⟨rfl, rfl⟩ rfl ?_
  refine x_inv (N := m_X9_step) (As := []) (b := 68) (st := []) (dx9 := 2) (mc := 0) (ms := 0) (host := "") 9 rfl t_X9_step ⟨Or.inl q_2_62, i_X9_step.1, i_X9_step.2⟩ ⟨by decide, rfl⟩ (congrArg Prod.fst (J.1.1 68 (9, 6) rfl)) rfl (by decide) rfl rfl ⟨by decide, by decide⟩ (sf_X9_step_r68  hD J z1 z0 (by omega)  (fun h J S1 u2 u3 qu2 qu3 ru2 => ?_))
  have Sm := jSm_tr rfl Sm S1
  have eu2 := (show 0 ≤ u2.toInt ∧ u2.toInt ≤ 3 from qu2 ▸ jrg_f J sg_68_5_6_1_0_1)
  have eu3 := (show 0 ≤ u3.toInt ∧ u3.toInt ≤ 400 from qu3 ▸ jrg_f J sg_68_3_4_1_0_1)
  show jX m_X2_readSum 18 0 0 163 [(2, .int 3), (0, .ref 95), (1, .int 2), (3, .int l3)] [] _ 0 0 _
  refine z_iinc (x := l3) (lsx9 := fun v4 => [(3, .int v4), (2, .int 3), (0, .ref 95), (1, .int 2)]) rfl rfl rfl jko_1 (by omega) rfl (fun _ => rfl) (fun v4 ev4 => ?_)
  refine x_goto (tgt := 4) rfl rfl ?_
  exact jX.sub (jsb_c rfl (jsb_c rfl (jsb_c rfl (jsb_c rfl jsb_n)))) (k4 3 v4 u3 u2 h (by omega) (jr_of jk_3 (by omega)) (jr_of rfl (by omega)) (jr_of rfl (by omega)) (jr_of rfl (by omega)) (by omega) qu3 qu2 J Sm)
set_option maxRecDepth 100000 in
set_option maxHeartbeats 4000000 in
theorem ct_X2_readSum_r95_c2_115 {Dy : jH → Prop} {h0 : jH} {Q : Option Value → jH → Prop} {R4 : Int} (hD : jDk Dy) (hQ : ∀ (v : Int32) hx9, 0 ≤ v.toInt ∧ v.toInt ≤ 1 → jJ jSgX Dy hx9 → jSm fp_X2_readSum_r95_c2 h0 hx9 → ∀ u0 u1 : Int32, jiv hx9 68 5 = u0 → jiv hx9 68 3 = u1 → (u0.toInt ≠ 3 ∨ u1.toInt ≤ 399) → Q (some (.int v)) hx9) (k4 : ∀ (l2 : Int32) (l3 : Int32) (g0 : Int32) (g1 : Int32) (h : jH), 400 - l3.toInt < R4 → (-1) ≤ l2.toInt ∧ l2.toInt ≤ 4 → 0 ≤ l3.toInt ∧ l3.toInt ≤ 400 → 0 ≤ g0.toInt ∧ g0.toInt ≤ 400 → 0 ≤ g1.toInt ∧ g1.toInt ≤ 3 → (g1.toInt ≠ 3 ∨ g0.toInt ≤ 399) → jiv h 68 3 = g0 → jiv h 68 5 = g1 → jJ jSgX Dy h → jSm fp_X2_readSum_r95_c2 h0 h → jX m_X2_readSum 18 0 0 4 [(0, .ref 95), (1, .int 2), (2, .int l2), (3, .int l3)] [] h 0 0 Q) : ∀ (l3 : Int32) (g0 : Int32) (g1 : Int32) (h : jH), 0 ≤ l3.toInt ∧ l3.toInt ≤ 399 → 0 ≤ g0.toInt ∧ g0.toInt ≤ 400 → 0 ≤ g1.toInt ∧ g1.toInt ≤ 3 → (g1.toInt ≠ 3 ∨ g0.toInt ≤ 399) → jiv h 68 3 = g0 → jiv h 68 5 = g1 → 400 - l3.toInt ≤ R4 → jJ jSgX Dy h → jSm fp_X2_readSum_r95_c2 h0 h → jX m_X2_readSum 18 0 0 115 [(0, .ref 95), (1, .int 2), (3, .int l3)] [] h 0 0 Q := by
  intro l3 g0 g1 h y0 y1 y2 y3 z0 z1 m4 J Sm
  refine x_aloadn (x := 95) rfl rfl ?_
  refine z_getR (N := 6) (b := 68) 2 0 rfl f_2_30 rfl J rfl 12160 ⟨rfl, rfl⟩ rfl ?_
  refine x_bipush (v := 43) rfl kb_43 ?_
  refine x_inv (N := m_X9_isSign) (As := [.int 43]) (b := 68) (st := []) (dx9 := 1) (mc := 0) (ms := 0) (host := "") 9 rfl t_X9_isSign ⟨Or.inl q_2_55, i_X9_isSign.1, i_X9_isSign.2⟩ ⟨by decide, rfl⟩ (congrArg Prod.fst (J.1.1 68 (9, 6) rfl)) rfl (by decide) rfl rfl ⟨by decide, by decide⟩ (sf_X9_isSign_r68 (jr_of jk_43 (by omega)) hD J z1 z0 (by omega)  (fun v4 h ev4 J S1 u2 u3 qu2 qu3 ru2 => ?_))
  have Sm := jSm_tr rfl Sm S1
  have eu2 := (show 0 ≤ u2.toInt ∧ u2.toInt ≤ 3 from qu2 ▸ jrg_f J sg_68_5_6_1_0_1)
  have eu3 := (show 0 ≤ u3.toInt ∧ u3.toInt ≤ 400 from qu3 ▸ jrg_f J sg_68_3_4_1_0_1)
  show jX m_X2_readSum 18 0 0 124 [(0, .ref 95), (1, .int 2), (3, .int l3)] [.int v4] _ 0 0 _
  refine x_ifeq (tgt := 131) rfl rfl (ti_eq rfl jk_0 ⟨fun c5 => ?_, fun c5 => ?_⟩)
  ·
    refine x_aloadn (x := 95) rfl rfl ?_
    refine z_getR (N := 6) (b := 68) 2 0 rfl f_2_30 rfl J rfl 12160 ⟨rfl, rfl⟩ rfl ?_
    refine x_bipush (v := 45) rfl kb_45 ?_
    refine x_inv (N := m_X9_isSign) (As := [.int 45]) (b := 68) (st := []) (dx9 := 1) (mc := 0) (ms := 0) (host := "") 9 rfl t_X9_isSign ⟨Or.inl q_2_55, i_X9_isSign.1, i_X9_isSign.2⟩ ⟨by decide, rfl⟩ (congrArg Prod.fst (J.1.1 68 (9, 6) rfl)) rfl (by decide) rfl rfl ⟨by decide, by decide⟩ (sf_X9_isSign_r68 (jr_of jk_45 (by omega)) hD J qu2 qu3 (by omega)  (fun v9 h ev9 J S6 u7 u8 qu7 qu8 ru7 => ?_))
    have Sm := jSm_tr rfl Sm S6
    have eu7 := (show 0 ≤ u7.toInt ∧ u7.toInt ≤ 3 from qu7 ▸ jrg_f J sg_68_5_6_1_0_1)
    have eu8 := (show 0 ≤ u8.toInt ∧ u8.toInt ≤ 400 from qu8 ▸ jrg_f J sg_68_3_4_1_0_1)
    show jX m_X2_readSum 18 0 0 140 [(0, .ref 95), (1, .int 2), (3, .int l3)] [.int v9] _ 0 0 _
    refine x_ifeq (tgt := 147) rfl rfl (ti_eq rfl jk_0 ⟨fun c10 => ?_, fun c10 => ?_⟩)
    ·
      refine x_iconst (v := (-1)) rfl ki_m1 ?_
      exact jX.sub (jsb_c rfl (jsb_c rfl (jsb_c rfl jsb_n))) (ct_X2_readSum_r95_c2_100148 hD hQ k4 l3 u8 u7 h (jr_of rfl (by omega)) (jr_of rfl (by omega)) (jr_of rfl (by omega)) (by omega) qu8 qu7 (by omega) J Sm)
    ·
      refine x_iconst (v := 4) rfl ki_4 ?_
      refine x_goto (tgt := 148) rfl rfl ?_
      exact jX.sub (jsb_c rfl (jsb_c rfl (jsb_c rfl jsb_n))) (ct_X2_readSum_r95_c2_600148 hD hQ k4 l3 u8 u7 h (jr_of rfl (by omega)) (jr_of rfl (by omega)) (jr_of rfl (by omega)) (by omega) qu8 qu7 (by omega) J Sm)
  ·
    refine x_iconst (v := 3) rfl ki_3 ?_
    refine x_goto (tgt := 148) rfl rfl ?_
    exact jX.sub (jsb_c rfl (jsb_c rfl (jsb_c rfl jsb_n))) (ct_X2_readSum_r95_c2_500148 hD hQ k4 l3 u3 u2 h (jr_of rfl (by omega)) (jr_of rfl (by omega)) (jr_of rfl (by omega)) (by omega) qu3 qu2 (by omega) J Sm)
set_option maxRecDepth 100000 in
set_option maxHeartbeats 4000000 in
theorem ct_X2_readSum_r95_c2_105 {Dy : jH → Prop} {h0 : jH} {Q : Option Value → jH → Prop} {R4 : Int} (hD : jDk Dy) (hQ : ∀ (v : Int32) hx9, 0 ≤ v.toInt ∧ v.toInt ≤ 1 → jJ jSgX Dy hx9 → jSm fp_X2_readSum_r95_c2 h0 hx9 → ∀ u0 u1 : Int32, jiv hx9 68 5 = u0 → jiv hx9 68 3 = u1 → (u0.toInt ≠ 3 ∨ u1.toInt ≤ 399) → Q (some (.int v)) hx9) (k4 : ∀ (l2 : Int32) (l3 : Int32) (g0 : Int32) (g1 : Int32) (h : jH), 400 - l3.toInt < R4 → (-1) ≤ l2.toInt ∧ l2.toInt ≤ 4 → 0 ≤ l3.toInt ∧ l3.toInt ≤ 400 → 0 ≤ g0.toInt ∧ g0.toInt ≤ 400 → 0 ≤ g1.toInt ∧ g1.toInt ≤ 3 → (g1.toInt ≠ 3 ∨ g0.toInt ≤ 399) → jiv h 68 3 = g0 → jiv h 68 5 = g1 → jJ jSgX Dy h → jSm fp_X2_readSum_r95_c2 h0 h → jX m_X2_readSum 18 0 0 4 [(0, .ref 95), (1, .int 2), (2, .int l2), (3, .int l3)] [] h 0 0 Q) : ∀ (l2 : Int32) (l3 : Int32) (g0 : Int32) (g1 : Int32) (h : jH), (-1) ≤ l2.toInt ∧ l2.toInt ≤ 4 → 0 ≤ l3.toInt ∧ l3.toInt ≤ 399 → 0 ≤ g0.toInt ∧ g0.toInt ≤ 400 → 0 ≤ g1.toInt ∧ g1.toInt ≤ 3 → (g1.toInt ≠ 3 ∨ g0.toInt ≤ 399) → jiv h 68 3 = g0 → jiv h 68 5 = g1 → 400 - l3.toInt ≤ R4 → jJ jSgX Dy h → jSm fp_X2_readSum_r95_c2 h0 h → jX m_X2_readSum 18 0 0 105 [(0, .ref 95), (1, .int 2), (2, .int l2), (3, .int l3)] [] h 0 0 Q := by
  intro l2 l3 g0 g1 h y0 y1 y2 y3 y4 z0 z1 m4 J Sm
  refine x_iloadn (x := l2) rfl rfl ?_
  refine x_iconst (v := (-1)) rfl ki_m1 ?_
  refine x_iceq (tgt := 115) rfl rfl (ti_eq rfl jk_m1 ⟨fun c1 => ?_, fun c1 => ?_⟩)
  ·
    exact jX.sub (jsb_c rfl (jsb_c rfl (jsb_c rfl jsb_n))) (ct_X2_readSum_r95_c2_115 hD hQ k4 l3 g0 g1 h (jr_of rfl (by omega)) (jr_of rfl (by omega)) (jr_of rfl (by omega)) (by omega) z0 z1 (by omega) J Sm)
  ·
    refine x_aloadn (x := 95) rfl rfl ?_
    refine x_iloadn (x := l2) rfl rfl ?_
    refine x_inv (N := m_X2_emit) (As := [.int l2]) (b := 95) (st := []) (dx9 := 1) (mc := 0) (ms := 0) (host := "") 2 rfl t_X2_emit ⟨Or.inl q_2_89, i_X2_emit.1, i_X2_emit.2⟩ ⟨by decide, rfl⟩ (congrArg Prod.fst (J.1.1 95 (2, 6) rfl)) rfl (by decide) rfl rfl ⟨by decide, by decide⟩ (sf_X2_emit_r95  hD J  (fun h J S2 => ?_))
    have Sm := jSm_tr rfl Sm S2
    show jX m_X2_readSum 18 0 0 115 [(0, .ref 95), (1, .int 2), (2, .int l2), (3, .int l3)] [] _ 0 0 _
    exact jX.sub (jsb_c rfl (jsb_c rfl (jsb_c rfl jsb_n))) (ct_X2_readSum_r95_c2_115 hD hQ k4 l3 g0 g1 h (jr_of rfl (by omega)) (jr_of rfl (by omega)) (jr_of rfl (by omega)) (by omega) (jmc S2 rfl z0) (jmc S2 rfl z1) (by omega) J Sm)
set_option maxRecDepth 100000 in
set_option maxHeartbeats 4000000 in
theorem ct_X2_readSum_r95_c2_100081 {Dy : jH → Prop} {h0 : jH} {Q : Option Value → jH → Prop} {R4 : Int} {R17 : Int} (hD : jDk Dy) (hQ : ∀ (v : Int32) hx9, 0 ≤ v.toInt ∧ v.toInt ≤ 1 → jJ jSgX Dy hx9 → jSm fp_X2_readSum_r95_c2 h0 hx9 → ∀ u0 u1 : Int32, jiv hx9 68 5 = u0 → jiv hx9 68 3 = u1 → (u0.toInt ≠ 3 ∨ u1.toInt ≤ 399) → Q (some (.int v)) hx9) (k4 : ∀ (l2 : Int32) (l3 : Int32) (g0 : Int32) (g1 : Int32) (h : jH), 400 - l3.toInt < R4 → (-1) ≤ l2.toInt ∧ l2.toInt ≤ 4 → 0 ≤ l3.toInt ∧ l3.toInt ≤ 400 → 0 ≤ g0.toInt ∧ g0.toInt ≤ 400 → 0 ≤ g1.toInt ∧ g1.toInt ≤ 3 → (g1.toInt ≠ 3 ∨ g0.toInt ≤ 399) → jiv h 68 3 = g0 → jiv h 68 5 = g1 → jJ jSgX Dy h → jSm fp_X2_readSum_r95_c2 h0 h → jX m_X2_readSum 18 0 0 4 [(0, .ref 95), (1, .int 2), (2, .int l2), (3, .int l3)] [] h 0 0 Q) (k17 : ∀ (l2 : Int32) (l3 : Int32) (l4 : Int32) (l5 : Int32) (g0 : Int32) (g1 : Int32) (h : jH), 400 - l5.toInt < R17 → (-1) ≤ l2.toInt ∧ l2.toInt ≤ 4 → 0 ≤ l3.toInt ∧ l3.toInt ≤ 399 → (-1) ≤ l4.toInt ∧ l4.toInt ≤ 6 → 0 ≤ l5.toInt ∧ l5.toInt ≤ 400 → 0 ≤ g0.toInt ∧ g0.toInt ≤ 400 → 0 ≤ g1.toInt ∧ g1.toInt ≤ 3 → (g1.toInt ≠ 3 ∨ g0.toInt ≤ 399) → jiv h 68 3 = g0 → jiv h 68 5 = g1 → 400 - l3.toInt ≤ R4 → jJ jSgX Dy h → jSm fp_X2_readSum_r95_c2 h0 h → jX m_X2_readSum 18 0 0 17 [(0, .ref 95), (1, .int 2), (2, .int l2), (3, .int l3), (4, .int l4), (5, .int l5)] [] h 0 0 Q) : ∀ (l2 : Int32) (l3 : Int32) (l5 : Int32) (g0 : Int32) (g1 : Int32) (h : jH), (-1) ≤ l2.toInt ∧ l2.toInt ≤ 4 → 0 ≤ l3.toInt ∧ l3.toInt ≤ 399 → 0 ≤ l5.toInt ∧ l5.toInt ≤ 399 → 0 ≤ g0.toInt ∧ g0.toInt ≤ 400 → 0 ≤ g1.toInt ∧ g1.toInt ≤ 3 → (g1.toInt ≠ 3 ∨ g0.toInt ≤ 399) → jiv h 68 3 = g0 → jiv h 68 5 = g1 → 400 - l3.toInt ≤ R4 → 400 - l5.toInt ≤ R17 → jJ jSgX Dy h → jSm fp_X2_readSum_r95_c2 h0 h → jX m_X2_readSum 18 0 0 81 [(0, .ref 95), (1, .int 2), (2, .int l2), (3, .int l3), (5, .int l5)] [.int (-1)] h 0 0 Q := by
  intro l2 l3 l5 g0 g1 h y0 y1 y2 y3 y4 y5 z0 z1 m4 m17 J Sm
  refine x_istore (lsx9 := [(4, .int (-1)), (0, .ref 95), (1, .int 2), (2, .int l2), (3, .int l3), (5, .int l5)]) rfl rfl rfl ?_
  refine x_iload (x := (-1)) rfl rfl ?_
  refine x_iconst (v := (-1)) rfl ki_m1 ?_
  refine x_icne (tgt := 92) rfl rfl (ti_ne jk_m1 jk_m1 (bn_f (by omega) ?_))
  refine x_goto (tgt := 105) rfl rfl ?_
  exact jX.sub (jsb_c rfl (jsb_c rfl (jsb_c rfl (jsb_c rfl jsb_n)))) (ct_X2_readSum_r95_c2_105 hD hQ k4 l2 l3 g0 g1 h (jr_of rfl (by omega)) (jr_of rfl (by omega)) (jr_of rfl (by omega)) (jr_of rfl (by omega)) (by omega) z0 z1 (by omega) J Sm)
set_option maxRecDepth 100000 in
set_option maxHeartbeats 4000000 in
theorem ct_X2_readSum_r95_c2_800081 {Dy : jH → Prop} {h0 : jH} {Q : Option Value → jH → Prop} {R4 : Int} {R17 : Int} (hD : jDk Dy) (hQ : ∀ (v : Int32) hx9, 0 ≤ v.toInt ∧ v.toInt ≤ 1 → jJ jSgX Dy hx9 → jSm fp_X2_readSum_r95_c2 h0 hx9 → ∀ u0 u1 : Int32, jiv hx9 68 5 = u0 → jiv hx9 68 3 = u1 → (u0.toInt ≠ 3 ∨ u1.toInt ≤ 399) → Q (some (.int v)) hx9) (k4 : ∀ (l2 : Int32) (l3 : Int32) (g0 : Int32) (g1 : Int32) (h : jH), 400 - l3.toInt < R4 → (-1) ≤ l2.toInt ∧ l2.toInt ≤ 4 → 0 ≤ l3.toInt ∧ l3.toInt ≤ 400 → 0 ≤ g0.toInt ∧ g0.toInt ≤ 400 → 0 ≤ g1.toInt ∧ g1.toInt ≤ 3 → (g1.toInt ≠ 3 ∨ g0.toInt ≤ 399) → jiv h 68 3 = g0 → jiv h 68 5 = g1 → jJ jSgX Dy h → jSm fp_X2_readSum_r95_c2 h0 h → jX m_X2_readSum 18 0 0 4 [(0, .ref 95), (1, .int 2), (2, .int l2), (3, .int l3)] [] h 0 0 Q) (k17 : ∀ (l2 : Int32) (l3 : Int32) (l4 : Int32) (l5 : Int32) (g0 : Int32) (g1 : Int32) (h : jH), 400 - l5.toInt < R17 → (-1) ≤ l2.toInt ∧ l2.toInt ≤ 4 → 0 ≤ l3.toInt ∧ l3.toInt ≤ 399 → (-1) ≤ l4.toInt ∧ l4.toInt ≤ 6 → 0 ≤ l5.toInt ∧ l5.toInt ≤ 400 → 0 ≤ g0.toInt ∧ g0.toInt ≤ 400 → 0 ≤ g1.toInt ∧ g1.toInt ≤ 3 → (g1.toInt ≠ 3 ∨ g0.toInt ≤ 399) → jiv h 68 3 = g0 → jiv h 68 5 = g1 → 400 - l3.toInt ≤ R4 → jJ jSgX Dy h → jSm fp_X2_readSum_r95_c2 h0 h → jX m_X2_readSum 18 0 0 17 [(0, .ref 95), (1, .int 2), (2, .int l2), (3, .int l3), (4, .int l4), (5, .int l5)] [] h 0 0 Q) : ∀ (l2 : Int32) (l3 : Int32) (l5 : Int32) (g0 : Int32) (g1 : Int32) (h : jH), (-1) ≤ l2.toInt ∧ l2.toInt ≤ 4 → 0 ≤ l3.toInt ∧ l3.toInt ≤ 399 → 0 ≤ l5.toInt ∧ l5.toInt ≤ 399 → 0 ≤ g0.toInt ∧ g0.toInt ≤ 400 → 0 ≤ g1.toInt ∧ g1.toInt ≤ 3 → (g1.toInt ≠ 3 ∨ g0.toInt ≤ 399) → jiv h 68 3 = g0 → jiv h 68 5 = g1 → 400 - l3.toInt ≤ R4 → 400 - l5.toInt ≤ R17 → jJ jSgX Dy h → jSm fp_X2_readSum_r95_c2 h0 h → jX m_X2_readSum 18 0 0 81 [(0, .ref 95), (1, .int 2), (2, .int l2), (3, .int l3), (5, .int l5)] [.int 6] h 0 0 Q := by
  intro l2 l3 l5 g0 g1 h y0 y1 y2 y3 y4 y5 z0 z1 m4 m17 J Sm
  refine x_istore (lsx9 := [(4, .int 6), (0, .ref 95), (1, .int 2), (2, .int l2), (3, .int l3), (5, .int l5)]) rfl rfl rfl ?_
  refine x_iload (x := 6) rfl rfl ?_
  refine x_iconst (v := (-1)) rfl ki_m1 ?_
  refine x_icne (tgt := 92) rfl rfl (ti_ne jk_6 jk_m1 (bn_t (by omega) ?_))
  refine x_aloadn (x := 95) rfl rfl ?_
  refine z_getR (N := 6) (b := 68) 2 0 rfl f_2_30 rfl J rfl 12160 ⟨rfl, rfl⟩ rfl ?_
  refine x_inv (N := m_X9_step) (As := []) (b := 68) (st := []) (dx9 := 2) (mc := 0) (ms := 0) (host := "") 9 rfl t_X9_step ⟨Or.inl q_2_62, i_X9_step.1, i_X9_step.2⟩ ⟨by decide, rfl⟩ (congrArg Prod.fst (J.1.1 68 (9, 6) rfl)) rfl (by decide) rfl rfl ⟨by decide, by decide⟩ (sf_X9_step_r68  hD J z1 z0 (by omega)  (fun h J S1 u2 u3 qu2 qu3 ru2 => ?_))
  have Sm := jSm_tr rfl Sm S1
  have eu2 := (show 0 ≤ u2.toInt ∧ u2.toInt ≤ 3 from qu2 ▸ jrg_f J sg_68_5_6_1_0_1)
  have eu3 := (show 0 ≤ u3.toInt ∧ u3.toInt ≤ 400 from qu3 ▸ jrg_f J sg_68_3_4_1_0_1)
  show jX m_X2_readSum 18 0 0 99 [(4, .int 6), (0, .ref 95), (1, .int 2), (2, .int l2), (3, .int l3), (5, .int l5)] [] _ 0 0 _
  refine z_iinc (x := l5) (lsx9 := fun v4 => [(5, .int v4), (4, .int 6), (0, .ref 95), (1, .int 2), (2, .int l2), (3, .int l3)]) rfl rfl rfl jko_1 (by omega) rfl (fun _ => rfl) (fun v4 ev4 => ?_)
  refine x_goto (tgt := 17) rfl rfl ?_
  exact jX.sub (jsb_c rfl (jsb_c rfl (jsb_c rfl (jsb_c rfl (jsb_c rfl (jsb_c rfl jsb_n)))))) (k17 l2 l3 6 v4 u3 u2 h (by omega) (jr_of rfl (by omega)) (jr_of rfl (by omega)) (jr_of jk_6 (by omega)) (jr_of rfl (by omega)) (jr_of rfl (by omega)) (jr_of rfl (by omega)) (by omega) qu3 qu2 (by omega) J Sm)
set_option maxRecDepth 100000 in
set_option maxHeartbeats 4000000 in
theorem ct_X2_readSum_r95_c2_700081 {Dy : jH → Prop} {h0 : jH} {Q : Option Value → jH → Prop} {R4 : Int} {R17 : Int} (hD : jDk Dy) (hQ : ∀ (v : Int32) hx9, 0 ≤ v.toInt ∧ v.toInt ≤ 1 → jJ jSgX Dy hx9 → jSm fp_X2_readSum_r95_c2 h0 hx9 → ∀ u0 u1 : Int32, jiv hx9 68 5 = u0 → jiv hx9 68 3 = u1 → (u0.toInt ≠ 3 ∨ u1.toInt ≤ 399) → Q (some (.int v)) hx9) (k4 : ∀ (l2 : Int32) (l3 : Int32) (g0 : Int32) (g1 : Int32) (h : jH), 400 - l3.toInt < R4 → (-1) ≤ l2.toInt ∧ l2.toInt ≤ 4 → 0 ≤ l3.toInt ∧ l3.toInt ≤ 400 → 0 ≤ g0.toInt ∧ g0.toInt ≤ 400 → 0 ≤ g1.toInt ∧ g1.toInt ≤ 3 → (g1.toInt ≠ 3 ∨ g0.toInt ≤ 399) → jiv h 68 3 = g0 → jiv h 68 5 = g1 → jJ jSgX Dy h → jSm fp_X2_readSum_r95_c2 h0 h → jX m_X2_readSum 18 0 0 4 [(0, .ref 95), (1, .int 2), (2, .int l2), (3, .int l3)] [] h 0 0 Q) (k17 : ∀ (l2 : Int32) (l3 : Int32) (l4 : Int32) (l5 : Int32) (g0 : Int32) (g1 : Int32) (h : jH), 400 - l5.toInt < R17 → (-1) ≤ l2.toInt ∧ l2.toInt ≤ 4 → 0 ≤ l3.toInt ∧ l3.toInt ≤ 399 → (-1) ≤ l4.toInt ∧ l4.toInt ≤ 6 → 0 ≤ l5.toInt ∧ l5.toInt ≤ 400 → 0 ≤ g0.toInt ∧ g0.toInt ≤ 400 → 0 ≤ g1.toInt ∧ g1.toInt ≤ 3 → (g1.toInt ≠ 3 ∨ g0.toInt ≤ 399) → jiv h 68 3 = g0 → jiv h 68 5 = g1 → 400 - l3.toInt ≤ R4 → jJ jSgX Dy h → jSm fp_X2_readSum_r95_c2 h0 h → jX m_X2_readSum 18 0 0 17 [(0, .ref 95), (1, .int 2), (2, .int l2), (3, .int l3), (4, .int l4), (5, .int l5)] [] h 0 0 Q) : ∀ (l2 : Int32) (l3 : Int32) (l5 : Int32) (g0 : Int32) (g1 : Int32) (h : jH), (-1) ≤ l2.toInt ∧ l2.toInt ≤ 4 → 0 ≤ l3.toInt ∧ l3.toInt ≤ 399 → 0 ≤ l5.toInt ∧ l5.toInt ≤ 399 → 0 ≤ g0.toInt ∧ g0.toInt ≤ 400 → 0 ≤ g1.toInt ∧ g1.toInt ≤ 3 → (g1.toInt ≠ 3 ∨ g0.toInt ≤ 399) → jiv h 68 3 = g0 → jiv h 68 5 = g1 → 400 - l3.toInt ≤ R4 → 400 - l5.toInt ≤ R17 → jJ jSgX Dy h → jSm fp_X2_readSum_r95_c2 h0 h → jX m_X2_readSum 18 0 0 81 [(0, .ref 95), (1, .int 2), (2, .int l2), (3, .int l3), (5, .int l5)] [.int 5] h 0 0 Q := by
  intro l2 l3 l5 g0 g1 h y0 y1 y2 y3 y4 y5 z0 z1 m4 m17 J Sm
  refine x_istore (lsx9 := [(4, .int 5), (0, .ref 95), (1, .int 2), (2, .int l2), (3, .int l3), (5, .int l5)]) rfl rfl rfl ?_
  refine x_iload (x := 5) rfl rfl ?_
  refine x_iconst (v := (-1)) rfl ki_m1 ?_
  refine x_icne (tgt := 92) rfl rfl (ti_ne jk_5 jk_m1 (bn_t (by omega) ?_))
  refine x_aloadn (x := 95) rfl rfl ?_
  refine z_getR (N := 6) (b := 68) 2 0 rfl f_2_30 rfl J rfl 12160 ⟨rfl, rfl⟩ rfl ?_
  refine x_inv (N := m_X9_step) (As := []) (b := 68) (st := []) (dx9 := 2) (mc := 0) (ms := 0) (host := "") 9 rfl t_X9_step ⟨Or.inl q_2_62, i_X9_step.1, i_X9_step.2⟩ ⟨by decide, rfl⟩ (congrArg Prod.fst (J.1.1 68 (9, 6) rfl)) rfl (by decide) rfl rfl ⟨by decide, by decide⟩ (sf_X9_step_r68  hD J z1 z0 (by omega)  (fun h J S1 u2 u3 qu2 qu3 ru2 => ?_))
  have Sm := jSm_tr rfl Sm S1
  have eu2 := (show 0 ≤ u2.toInt ∧ u2.toInt ≤ 3 from qu2 ▸ jrg_f J sg_68_5_6_1_0_1)
  have eu3 := (show 0 ≤ u3.toInt ∧ u3.toInt ≤ 400 from qu3 ▸ jrg_f J sg_68_3_4_1_0_1)
  show jX m_X2_readSum 18 0 0 99 [(4, .int 5), (0, .ref 95), (1, .int 2), (2, .int l2), (3, .int l3), (5, .int l5)] [] _ 0 0 _
  refine z_iinc (x := l5) (lsx9 := fun v4 => [(5, .int v4), (4, .int 5), (0, .ref 95), (1, .int 2), (2, .int l2), (3, .int l3)]) rfl rfl rfl jko_1 (by omega) rfl (fun _ => rfl) (fun v4 ev4 => ?_)
  refine x_goto (tgt := 17) rfl rfl ?_
  exact jX.sub (jsb_c rfl (jsb_c rfl (jsb_c rfl (jsb_c rfl (jsb_c rfl (jsb_c rfl jsb_n)))))) (k17 l2 l3 5 v4 u3 u2 h (by omega) (jr_of rfl (by omega)) (jr_of rfl (by omega)) (jr_of jk_5 (by omega)) (jr_of rfl (by omega)) (jr_of rfl (by omega)) (jr_of rfl (by omega)) (by omega) qu3 qu2 (by omega) J Sm)
set_option maxRecDepth 100000 in
set_option maxHeartbeats 4000000 in
theorem ct_X2_readSum_r95_c2_47 {Dy : jH → Prop} {h0 : jH} {Q : Option Value → jH → Prop} {R4 : Int} {R17 : Int} (hD : jDk Dy) (hQ : ∀ (v : Int32) hx9, 0 ≤ v.toInt ∧ v.toInt ≤ 1 → jJ jSgX Dy hx9 → jSm fp_X2_readSum_r95_c2 h0 hx9 → ∀ u0 u1 : Int32, jiv hx9 68 5 = u0 → jiv hx9 68 3 = u1 → (u0.toInt ≠ 3 ∨ u1.toInt ≤ 399) → Q (some (.int v)) hx9) (k4 : ∀ (l2 : Int32) (l3 : Int32) (g0 : Int32) (g1 : Int32) (h : jH), 400 - l3.toInt < R4 → (-1) ≤ l2.toInt ∧ l2.toInt ≤ 4 → 0 ≤ l3.toInt ∧ l3.toInt ≤ 400 → 0 ≤ g0.toInt ∧ g0.toInt ≤ 400 → 0 ≤ g1.toInt ∧ g1.toInt ≤ 3 → (g1.toInt ≠ 3 ∨ g0.toInt ≤ 399) → jiv h 68 3 = g0 → jiv h 68 5 = g1 → jJ jSgX Dy h → jSm fp_X2_readSum_r95_c2 h0 h → jX m_X2_readSum 18 0 0 4 [(0, .ref 95), (1, .int 2), (2, .int l2), (3, .int l3)] [] h 0 0 Q) (k17 : ∀ (l2 : Int32) (l3 : Int32) (l4 : Int32) (l5 : Int32) (g0 : Int32) (g1 : Int32) (h : jH), 400 - l5.toInt < R17 → (-1) ≤ l2.toInt ∧ l2.toInt ≤ 4 → 0 ≤ l3.toInt ∧ l3.toInt ≤ 399 → (-1) ≤ l4.toInt ∧ l4.toInt ≤ 6 → 0 ≤ l5.toInt ∧ l5.toInt ≤ 400 → 0 ≤ g0.toInt ∧ g0.toInt ≤ 400 → 0 ≤ g1.toInt ∧ g1.toInt ≤ 3 → (g1.toInt ≠ 3 ∨ g0.toInt ≤ 399) → jiv h 68 3 = g0 → jiv h 68 5 = g1 → 400 - l3.toInt ≤ R4 → jJ jSgX Dy h → jSm fp_X2_readSum_r95_c2 h0 h → jX m_X2_readSum 18 0 0 17 [(0, .ref 95), (1, .int 2), (2, .int l2), (3, .int l3), (4, .int l4), (5, .int l5)] [] h 0 0 Q) : ∀ (l2 : Int32) (l3 : Int32) (l5 : Int32) (g0 : Int32) (g1 : Int32) (h : jH), (-1) ≤ l2.toInt ∧ l2.toInt ≤ 4 → 0 ≤ l3.toInt ∧ l3.toInt ≤ 399 → 0 ≤ l5.toInt ∧ l5.toInt ≤ 399 → 0 ≤ g0.toInt ∧ g0.toInt ≤ 400 → 0 ≤ g1.toInt ∧ g1.toInt ≤ 3 → (g1.toInt ≠ 3 ∨ g0.toInt ≤ 399) → jiv h 68 3 = g0 → jiv h 68 5 = g1 → 400 - l3.toInt ≤ R4 → 400 - l5.toInt ≤ R17 → jJ jSgX Dy h → jSm fp_X2_readSum_r95_c2 h0 h → jX m_X2_readSum 18 0 0 47 [(0, .ref 95), (1, .int 2), (2, .int l2), (3, .int l3), (5, .int l5)] [] h 0 0 Q := by
  intro l2 l3 l5 g0 g1 h y0 y1 y2 y3 y4 y5 z0 z1 m4 m17 J Sm
  refine x_aloadn (x := 95) rfl rfl ?_
  refine z_getR (N := 6) (b := 68) 2 0 rfl f_2_30 rfl J rfl 12160 ⟨rfl, rfl⟩ rfl ?_
  refine x_bipush (v := 42) rfl kb_42 ?_
  refine x_inv (N := m_X9_isSign) (As := [.int 42]) (b := 68) (st := []) (dx9 := 1) (mc := 0) (ms := 0) (host := "") 9 rfl t_X9_isSign ⟨Or.inl q_2_55, i_X9_isSign.1, i_X9_isSign.2⟩ ⟨by decide, rfl⟩ (congrArg Prod.fst (J.1.1 68 (9, 6) rfl)) rfl (by decide) rfl rfl ⟨by decide, by decide⟩ (sf_X9_isSign_r68 (jr_of jk_42 (by omega)) hD J z1 z0 (by omega)  (fun v4 h ev4 J S1 u2 u3 qu2 qu3 ru2 => ?_))
  have Sm := jSm_tr rfl Sm S1
  have eu2 := (show 0 ≤ u2.toInt ∧ u2.toInt ≤ 3 from qu2 ▸ jrg_f J sg_68_5_6_1_0_1)
  have eu3 := (show 0 ≤ u3.toInt ∧ u3.toInt ≤ 400 from qu3 ▸ jrg_f J sg_68_3_4_1_0_1)
  show jX m_X2_readSum 18 0 0 56 [(0, .ref 95), (1, .int 2), (2, .int l2), (3, .int l3), (5, .int l5)] [.int v4] _ 0 0 _
  refine x_ifeq (tgt := 63) rfl rfl (ti_eq rfl jk_0 ⟨fun c5 => ?_, fun c5 => ?_⟩)
  ·
    refine x_aloadn (x := 95) rfl rfl ?_
    refine z_getR (N := 6) (b := 68) 2 0 rfl f_2_30 rfl J rfl 12160 ⟨rfl, rfl⟩ rfl ?_
    refine x_bipush (v := 47) rfl kb_47 ?_
    refine x_inv (N := m_X9_isSign) (As := [.int 47]) (b := 68) (st := []) (dx9 := 1) (mc := 0) (ms := 0) (host := "") 9 rfl t_X9_isSign ⟨Or.inl q_2_55, i_X9_isSign.1, i_X9_isSign.2⟩ ⟨by decide, rfl⟩ (congrArg Prod.fst (J.1.1 68 (9, 6) rfl)) rfl (by decide) rfl rfl ⟨by decide, by decide⟩ (sf_X9_isSign_r68 (jr_of jk_47 (by omega)) hD J qu2 qu3 (by omega)  (fun v9 h ev9 J S6 u7 u8 qu7 qu8 ru7 => ?_))
    have Sm := jSm_tr rfl Sm S6
    have eu7 := (show 0 ≤ u7.toInt ∧ u7.toInt ≤ 3 from qu7 ▸ jrg_f J sg_68_5_6_1_0_1)
    have eu8 := (show 0 ≤ u8.toInt ∧ u8.toInt ≤ 400 from qu8 ▸ jrg_f J sg_68_3_4_1_0_1)
    show jX m_X2_readSum 18 0 0 72 [(0, .ref 95), (1, .int 2), (2, .int l2), (3, .int l3), (5, .int l5)] [.int v9] _ 0 0 _
    refine x_ifeq (tgt := 80) rfl rfl (ti_eq rfl jk_0 ⟨fun c10 => ?_, fun c10 => ?_⟩)
    ·
      refine x_iconst (v := (-1)) rfl ki_m1 ?_
      exact jX.sub (jsb_c rfl (jsb_c rfl (jsb_c rfl (jsb_c rfl (jsb_c rfl jsb_n))))) (ct_X2_readSum_r95_c2_100081 hD hQ k4 k17 l2 l3 l5 u8 u7 h (jr_of rfl (by omega)) (jr_of rfl (by omega)) (jr_of rfl (by omega)) (jr_of rfl (by omega)) (jr_of rfl (by omega)) (by omega) qu8 qu7 (by omega) (by omega) J Sm)
    ·
      refine x_bipush (v := 6) rfl kb_6 ?_
      refine x_goto (tgt := 81) rfl rfl ?_
      exact jX.sub (jsb_c rfl (jsb_c rfl (jsb_c rfl (jsb_c rfl (jsb_c rfl jsb_n))))) (ct_X2_readSum_r95_c2_800081 hD hQ k4 k17 l2 l3 l5 u8 u7 h (jr_of rfl (by omega)) (jr_of rfl (by omega)) (jr_of rfl (by omega)) (jr_of rfl (by omega)) (jr_of rfl (by omega)) (by omega) qu8 qu7 (by omega) (by omega) J Sm)
  ·
    refine x_iconst (v := 5) rfl ki_5 ?_
    refine x_goto (tgt := 81) rfl rfl ?_
    exact jX.sub (jsb_c rfl (jsb_c rfl (jsb_c rfl (jsb_c rfl (jsb_c rfl jsb_n))))) (ct_X2_readSum_r95_c2_700081 hD hQ k4 k17 l2 l3 l5 u3 u2 h (jr_of rfl (by omega)) (jr_of rfl (by omega)) (jr_of rfl (by omega)) (jr_of rfl (by omega)) (jr_of rfl (by omega)) (by omega) qu3 qu2 (by omega) (by omega) J Sm)
set_option maxRecDepth 100000 in
set_option maxHeartbeats 4000000 in
theorem ct_X2_readSum_r95_c2_17 {Dy : jH → Prop} {h0 : jH} {Q : Option Value → jH → Prop} {R4 : Int} (hD : jDk Dy) (hQ : ∀ (v : Int32) hx9, 0 ≤ v.toInt ∧ v.toInt ≤ 1 → jJ jSgX Dy hx9 → jSm fp_X2_readSum_r95_c2 h0 hx9 → ∀ u0 u1 : Int32, jiv hx9 68 5 = u0 → jiv hx9 68 3 = u1 → (u0.toInt ≠ 3 ∨ u1.toInt ≤ 399) → Q (some (.int v)) hx9) (k4 : ∀ (l2 : Int32) (l3 : Int32) (g0 : Int32) (g1 : Int32) (h : jH), 400 - l3.toInt < R4 → (-1) ≤ l2.toInt ∧ l2.toInt ≤ 4 → 0 ≤ l3.toInt ∧ l3.toInt ≤ 400 → 0 ≤ g0.toInt ∧ g0.toInt ≤ 400 → 0 ≤ g1.toInt ∧ g1.toInt ≤ 3 → (g1.toInt ≠ 3 ∨ g0.toInt ≤ 399) → jiv h 68 3 = g0 → jiv h 68 5 = g1 → jJ jSgX Dy h → jSm fp_X2_readSum_r95_c2 h0 h → jX m_X2_readSum 18 0 0 4 [(0, .ref 95), (1, .int 2), (2, .int l2), (3, .int l3)] [] h 0 0 Q) : ∀ r : Nat, ∀ (l2 : Int32) (l3 : Int32) (l4 : Int32) (l5 : Int32) (g0 : Int32) (g1 : Int32) (h : jH), 400 - l5.toInt < (r : Int) → (-1) ≤ l2.toInt ∧ l2.toInt ≤ 4 → 0 ≤ l3.toInt ∧ l3.toInt ≤ 399 → (-1) ≤ l4.toInt ∧ l4.toInt ≤ 6 → 0 ≤ l5.toInt ∧ l5.toInt ≤ 400 → 0 ≤ g0.toInt ∧ g0.toInt ≤ 400 → 0 ≤ g1.toInt ∧ g1.toInt ≤ 3 → (g1.toInt ≠ 3 ∨ g0.toInt ≤ 399) → jiv h 68 3 = g0 → jiv h 68 5 = g1 → 400 - l3.toInt ≤ R4 → jJ jSgX Dy h → jSm fp_X2_readSum_r95_c2 h0 h → jX m_X2_readSum 18 0 0 17 [(0, .ref 95), (1, .int 2), (2, .int l2), (3, .int l3), (4, .int l4), (5, .int l5)] [] h 0 0 Q := by
  intro r
  induction r with
  | zero =>
    intro l2 l3 l4 l5 g0 g1 h hm y0 y1 y2 y3 y4 y5 y6 z0 z1 m4 J Sm
    exfalso
    omega
  | succ r ih =>
    intro l2 l3 l4 l5 g0 g1 h hm y0 y1 y2 y3 y4 y5 y6 z0 z1 m4 J Sm
    refine x_iload (x := l5) rfl rfl ?_
    refine x_sipush (v := 400) rfl ks_400 ?_
    refine x_icge (tgt := 105) rfl rfl (ti_ge rfl jk_400 ⟨fun c1 => ?_, fun c1 => ?_⟩)
    ·
      exact jX.sub (jsb_c rfl (jsb_c rfl (jsb_c rfl (jsb_c rfl jsb_n)))) (ct_X2_readSum_r95_c2_105 hD hQ k4 l2 l3 g0 g1 h (jr_of rfl (by omega)) (jr_of rfl (by omega)) (jr_of rfl (by omega)) (jr_of rfl (by omega)) (by omega) z0 z1 (by omega) J Sm)
    ·
      refine x_aloadn (x := 95) rfl rfl ?_
      refine x_iloadn (x := 2) rfl rfl ?_
      refine x_inv (N := m_X2_readFactor) (As := [.int 2]) (b := 95) (st := []) (dx9 := 17) (mc := 0) (ms := 0) (host := "") 2 rfl t_X2_readFactor ⟨Or.inl q_2_144, i_X2_readFactor.1, i_X2_readFactor.2⟩ ⟨by decide, rfl⟩ (congrArg Prod.fst (J.1.1 95 (2, 6) rfl)) rfl (by decide) rfl rfl ⟨by decide, by decide⟩ (sf_X2_readFactor_r95_c2  hD J z1 z0 (by omega)  (fun v5 h ev5 J S2 u3 u4 qu3 qu4 ru3 => ?_))
      have Sm := jSm_tr rfl Sm S2
      have eu3 := (show 0 ≤ u3.toInt ∧ u3.toInt ≤ 3 from qu3 ▸ jrg_f J sg_68_5_6_1_0_1)
      have eu4 := (show 0 ≤ u4.toInt ∧ u4.toInt ≤ 400 from qu4 ▸ jrg_f J sg_68_3_4_1_0_1)
      show jX m_X2_readSum 18 0 0 30 [(0, .ref 95), (1, .int 2), (2, .int l2), (3, .int l3), (4, .int l4), (5, .int l5)] [.int v5] _ 0 0 _
      refine x_ifne (tgt := 35) rfl rfl (ti_ne rfl jk_0 ⟨fun c6 => ?_, fun c6 => ?_⟩)
      ·
        refine x_iload (x := l4) rfl rfl ?_
        refine x_iconst (v := (-1)) rfl ki_m1 ?_
        refine x_iceq (tgt := 47) rfl rfl (ti_eq rfl jk_m1 ⟨fun c7 => ?_, fun c7 => ?_⟩)
        ·
          exact jX.sub (jsb_c rfl (jsb_c rfl (jsb_c rfl (jsb_c rfl (jsb_c rfl jsb_n))))) (ct_X2_readSum_r95_c2_47 hD hQ k4 ih l2 l3 l5 u4 u3 h (jr_of rfl (by omega)) (jr_of rfl (by omega)) (jr_of rfl (by omega)) (jr_of rfl (by omega)) (jr_of rfl (by omega)) (by omega) qu4 qu3 (by omega) (by omega) J Sm)
        ·
          refine x_aloadn (x := 95) rfl rfl ?_
          refine x_iload (x := l4) rfl rfl ?_
          refine x_inv (N := m_X2_emit) (As := [.int l4]) (b := 95) (st := []) (dx9 := 1) (mc := 0) (ms := 0) (host := "") 2 rfl t_X2_emit ⟨Or.inl q_2_89, i_X2_emit.1, i_X2_emit.2⟩ ⟨by decide, rfl⟩ (congrArg Prod.fst (J.1.1 95 (2, 6) rfl)) rfl (by decide) rfl rfl ⟨by decide, by decide⟩ (sf_X2_emit_r95  hD J  (fun h J S8 => ?_))
          have Sm := jSm_tr rfl Sm S8
          show jX m_X2_readSum 18 0 0 47 [(0, .ref 95), (1, .int 2), (2, .int l2), (3, .int l3), (4, .int l4), (5, .int l5)] [] _ 0 0 _
          exact jX.sub (jsb_c rfl (jsb_c rfl (jsb_c rfl (jsb_c rfl (jsb_c rfl jsb_n))))) (ct_X2_readSum_r95_c2_47 hD hQ k4 ih l2 l3 l5 u4 u3 h (jr_of rfl (by omega)) (jr_of rfl (by omega)) (jr_of rfl (by omega)) (jr_of rfl (by omega)) (jr_of rfl (by omega)) (by omega) (jmc S8 rfl qu4) (jmc S8 rfl qu3) (by omega) (by omega) J Sm)
      ·
        refine x_iconst (v := 0) rfl ki_0 ?_
        refine x_zret rfl rfl (by decide) ?_
        exact hQ _ _ (jr_of jk_0 (by omega)) J Sm _ _ qu3 qu4 (by omega)
set_option maxRecDepth 100000 in
set_option maxHeartbeats 4000000 in
theorem ct_X2_readSum_r95_c2_4 {Dy : jH → Prop} {h0 : jH} {Q : Option Value → jH → Prop} (hD : jDk Dy) (hQ : ∀ (v : Int32) hx9, 0 ≤ v.toInt ∧ v.toInt ≤ 1 → jJ jSgX Dy hx9 → jSm fp_X2_readSum_r95_c2 h0 hx9 → ∀ u0 u1 : Int32, jiv hx9 68 5 = u0 → jiv hx9 68 3 = u1 → (u0.toInt ≠ 3 ∨ u1.toInt ≤ 399) → Q (some (.int v)) hx9) : ∀ r : Nat, ∀ (l2 : Int32) (l3 : Int32) (g0 : Int32) (g1 : Int32) (h : jH), 400 - l3.toInt < (r : Int) → (-1) ≤ l2.toInt ∧ l2.toInt ≤ 4 → 0 ≤ l3.toInt ∧ l3.toInt ≤ 400 → 0 ≤ g0.toInt ∧ g0.toInt ≤ 400 → 0 ≤ g1.toInt ∧ g1.toInt ≤ 3 → (g1.toInt ≠ 3 ∨ g0.toInt ≤ 399) → jiv h 68 3 = g0 → jiv h 68 5 = g1 → jJ jSgX Dy h → jSm fp_X2_readSum_r95_c2 h0 h → jX m_X2_readSum 18 0 0 4 [(0, .ref 95), (1, .int 2), (2, .int l2), (3, .int l3)] [] h 0 0 Q := by
  intro r
  induction r with
  | zero =>
    intro l2 l3 g0 g1 h hm y0 y1 y2 y3 y4 z0 z1  J Sm
    exfalso
    omega
  | succ r ih =>
    intro l2 l3 g0 g1 h hm y0 y1 y2 y3 y4 z0 z1  J Sm
    refine x_iloadn (x := l3) rfl rfl ?_
    refine x_sipush (v := 400) rfl ks_400 ?_
    refine x_icge (tgt := 169) rfl rfl (ti_ge rfl jk_400 ⟨fun c1 => ?_, fun c1 => ?_⟩)
    ·
      refine x_aloadn (x := 95) rfl rfl ?_
      refine z_getR (N := 6) (b := 68) 2 0 rfl f_2_30 rfl J rfl 12160 ⟨rfl, rfl⟩ rfl ?_
      refine x_inv (N := m_X9_blame) (As := []) (b := 68) (st := []) (dx9 := 17) (mc := 0) (ms := 0) (host := "") 9 rfl t_X9_blame ⟨Or.inl q_2_59, i_X9_blame.1, i_X9_blame.2⟩ ⟨by decide, rfl⟩ (congrArg Prod.fst (J.1.1 68 (9, 6) rfl)) rfl (by decide) rfl rfl ⟨by decide, by decide⟩ (jC.of rfl k_X9_blame rfl ?_)
      show jX m_X9_blame 17 0 0 0 [(0, .ref 68)] [] _ 0 0 _
      refine x_aloadn (x := 68) rfl rfl ?_
      refine x_aloadn (x := 68) rfl rfl ?_
      refine z_getM (N := 6) (v := g0) 9 3 rfl f_9_22 rfl J rfl z0 ?_
      refine z_putI (N := 6) (w := g0.toInt) 9 2 rfl f_9_19 rfl (jfin_no TX9 RX9 6 rfl rfl) hD J Sm rfl rfl rfl (pw_68_2 (by omega)) rfl (fun h w2 J Sm => ?_)
      refine x_iconst (v := 0) rfl ki_0 ?_
      refine x_zret rfl rfl (by decide) ?_
      show jX m_X2_readSum 18 0 0 176 [(0, .ref 95), (1, .int 2), (2, .int l2), (3, .int l3)] [.int 0] _ 0 0 _
      refine x_zret rfl rfl (by decide) ?_
      exact hQ _ _ (jr_of jk_0 (by omega)) J Sm _ _ (jmo w2 rfl z1) (jmo w2 rfl z0) (by omega)
    ·
      refine x_iconst (v := (-1)) rfl ki_m1 ?_
      refine x_istore (lsx9 := [(4, .int (-1)), (0, .ref 95), (1, .int 2), (2, .int l2), (3, .int l3)]) rfl rfl rfl ?_
      refine x_iconst (v := 0) rfl ki_0 ?_
      refine x_istore (lsx9 := [(5, .int 0), (4, .int (-1)), (0, .ref 95), (1, .int 2), (2, .int l2), (3, .int l3)]) rfl rfl rfl ?_
      exact jX.sub (jsb_c rfl (jsb_c rfl (jsb_c rfl (jsb_c rfl (jsb_c rfl (jsb_c rfl jsb_n)))))) (ct_X2_readSum_r95_c2_17 hD hQ ih 401 l2 l3 (-1) 0 g0 g1 h (by have := jk_0; omega) (jr_of rfl (by omega)) (jr_of rfl (by omega)) (jr_of jk_m1 (by omega)) (jr_of jk_0 (by omega)) (jr_of rfl (by omega)) (jr_of rfl (by omega)) (by omega) z0 z1 (by omega) J Sm)
set_option maxRecDepth 100000 in
set_option maxHeartbeats 4000000 in
theorem sf_X2_readSum_r95_c2 {Dy : jH → Prop} {h : jH} {Q : Option Value → jH → Prop} (hD : jDk Dy) (J : jJ jSgX Dy h) {p0 p1 : Int32} (zp0 : jiv h 68 5 = p0) (zp1 : jiv h 68 3 = p1) (rl_p0 : (p0.toInt ≠ 3 ∨ p1.toInt ≤ 399)) (hQ : ∀ (v : Int32) hx9, 0 ≤ v.toInt ∧ v.toInt ≤ 1 → jJ jSgX Dy hx9 → jSm fp_X2_readSum_r95_c2 h hx9 → ∀ u0 u1 : Int32, jiv hx9 68 5 = u0 → jiv hx9 68 3 = u1 → (u0.toInt ≠ 3 ∨ u1.toInt ≤ 399) → Q (some (.int v)) hx9) : jC m_X2_readSum 18 0 0 [.ref 95, .int 2] h Q := by
  refine jC.of rfl k_X2_readSum rfl ?_
  have Sm := jSm_rf fp_X2_readSum_r95_c2 h
  have ep0 := (show 0 ≤ p0.toInt ∧ p0.toInt ≤ 3 from zp0 ▸ jrg_f J sg_68_5_6_1_0_1)
  have ep1 := (show 0 ≤ p1.toInt ∧ p1.toInt ≤ 400 from zp1 ▸ jrg_f J sg_68_3_4_1_0_1)
  show jX m_X2_readSum 18 0 0 0 [(0, .ref 95), (1, .int 2)] [] _ 0 0 _
  refine x_iconst (v := (-1)) rfl ki_m1 ?_
  refine x_istoren (lsx9 := [(2, .int (-1)), (0, .ref 95), (1, .int 2)]) rfl rfl rfl ?_
  refine x_iconst (v := 0) rfl ki_0 ?_
  refine x_istoren (lsx9 := [(3, .int 0), (2, .int (-1)), (0, .ref 95), (1, .int 2)]) rfl rfl rfl ?_
  exact jX.sub (jsb_c rfl (jsb_c rfl (jsb_c rfl (jsb_c rfl jsb_n)))) (ct_X2_readSum_r95_c2_4 hD hQ  401 (-1) 0 p1 p0 h (by have := jk_0; omega) (jr_of jk_m1 (by omega)) (jr_of jk_0 (by omega)) (jr_of rfl (by omega)) (jr_of rfl (by omega)) (by omega) zp1 zp0 J Sm)
def fp_X2_readFactor_r95_c1 : jFp := [(68, 2, 3), (68, 3, 4), (68, 4, 5), (68, 5, 6), (95, 4, 5), (95, 5, 6), (97, 0, 1200)]
set_option maxRecDepth 100000 in
set_option maxHeartbeats 4000000 in
theorem ct_X2_readFactor_r95_c1_111 {Dy : jH → Prop} {h0 : jH} {Q : Option Value → jH → Prop} (hD : jDk Dy) (hQ : ∀ (v : Int32) hx9, 0 ≤ v.toInt ∧ v.toInt ≤ 1 → jJ jSgX Dy hx9 → jSm fp_X2_readFactor_r95_c1 h0 hx9 → ∀ u0 u1 : Int32, jiv hx9 68 5 = u0 → jiv hx9 68 3 = u1 → (u0.toInt ≠ 3 ∨ u1.toInt ≤ 399) → Q (some (.int v)) hx9) : ∀ (s0 : Int32) (g0 : Int32) (g1 : Int32) (h : jH), 0 ≤ s0.toInt ∧ s0.toInt ≤ 1 → 0 ≤ g0.toInt ∧ g0.toInt ≤ 400 → 0 ≤ g1.toInt ∧ g1.toInt ≤ 3 → (g1.toInt ≠ 3 ∨ g0.toInt ≤ 399) → jiv h 68 3 = g0 → jiv h 68 5 = g1 → jJ jSgX Dy h → jSm fp_X2_readFactor_r95_c1 h0 h → jX m_X2_readFactor 19 0 0 111 [] [.int s0] h 0 0 Q := by
  intro s0 g0 g1 h y0 y1 y2 y3 z0 z1  J Sm
  refine x_zret rfl rfl (jz01 (by omega)) ?_
  exact hQ _ _ (jr_of rfl (by omega)) J Sm _ _ z1 z0 (by omega)
set_option maxRecDepth 100000 in
set_option maxHeartbeats 4000000 in
theorem ct_X2_readFactor_r95_c1_200111 {Dy : jH → Prop} {h0 : jH} {Q : Option Value → jH → Prop} (hD : jDk Dy) (hQ : ∀ (v : Int32) hx9, 0 ≤ v.toInt ∧ v.toInt ≤ 1 → jJ jSgX Dy hx9 → jSm fp_X2_readFactor_r95_c1 h0 hx9 → ∀ u0 u1 : Int32, jiv hx9 68 5 = u0 → jiv hx9 68 3 = u1 → (u0.toInt ≠ 3 ∨ u1.toInt ≤ 399) → Q (some (.int v)) hx9) : ∀ (g0 : Int32) (g1 : Int32) (h : jH), 0 ≤ g0.toInt ∧ g0.toInt ≤ 400 → 0 ≤ g1.toInt ∧ g1.toInt ≤ 3 → (g1.toInt ≠ 3 ∨ g0.toInt ≤ 399) → jiv h 68 3 = g0 → jiv h 68 5 = g1 → jJ jSgX Dy h → jSm fp_X2_readFactor_r95_c1 h0 h → jX m_X2_readFactor 19 0 0 111 [] [.int 0] h 0 0 Q := by
  intro g0 g1 h y0 y1 y2 z0 z1  J Sm
  refine x_zret rfl rfl (by decide) ?_
  exact hQ _ _ (jr_of jk_0 (by omega)) J Sm _ _ z1 z0 (by omega)
set_option maxRecDepth 100000 in
set_option maxHeartbeats 4000000 in
theorem ct_X2_readFactor_r95_c1_300057 {Dy : jH → Prop} {h0 : jH} {Q : Option Value → jH → Prop} (hD : jDk Dy) (hQ : ∀ (v : Int32) hx9, 0 ≤ v.toInt ∧ v.toInt ≤ 1 → jJ jSgX Dy hx9 → jSm fp_X2_readFactor_r95_c1 h0 hx9 → ∀ u0 u1 : Int32, jiv hx9 68 5 = u0 → jiv hx9 68 3 = u1 → (u0.toInt ≠ 3 ∨ u1.toInt ≤ 399) → Q (some (.int v)) hx9) : ∀ (g0 : Int32) (g1 : Int32) (h : jH), 0 ≤ g0.toInt ∧ g0.toInt ≤ 400 → 0 ≤ g1.toInt ∧ g1.toInt ≤ 3 → (g1.toInt ≠ 3 ∨ g0.toInt ≤ 399) → jiv h 68 3 = g0 → jiv h 68 5 = g1 → jJ jSgX Dy h → jSm fp_X2_readFactor_r95_c1 h0 h → jX m_X2_readFactor 19 0 0 57 [] [.int 1] h 0 0 Q := by
  intro g0 g1 h y0 y1 y2 z0 z1  J Sm
  refine x_zret rfl rfl (by decide) ?_
  exact hQ _ _ (jr_of jk_1 (by omega)) J Sm _ _ z1 z0 (by omega)
set_option maxRecDepth 100000 in
set_option maxHeartbeats 4000000 in
theorem ct_X2_readFactor_r95_c1_200057 {Dy : jH → Prop} {h0 : jH} {Q : Option Value → jH → Prop} (hD : jDk Dy) (hQ : ∀ (v : Int32) hx9, 0 ≤ v.toInt ∧ v.toInt ≤ 1 → jJ jSgX Dy hx9 → jSm fp_X2_readFactor_r95_c1 h0 hx9 → ∀ u0 u1 : Int32, jiv hx9 68 5 = u0 → jiv hx9 68 3 = u1 → (u0.toInt ≠ 3 ∨ u1.toInt ≤ 399) → Q (some (.int v)) hx9) : ∀ (g0 : Int32) (g1 : Int32) (h : jH), 0 ≤ g0.toInt ∧ g0.toInt ≤ 400 → 0 ≤ g1.toInt ∧ g1.toInt ≤ 3 → (g1.toInt ≠ 3 ∨ g0.toInt ≤ 399) → jiv h 68 3 = g0 → jiv h 68 5 = g1 → jJ jSgX Dy h → jSm fp_X2_readFactor_r95_c1 h0 h → jX m_X2_readFactor 19 0 0 57 [] [.int 0] h 0 0 Q := by
  intro g0 g1 h y0 y1 y2 z0 z1  J Sm
  refine x_zret rfl rfl (by decide) ?_
  exact hQ _ _ (jr_of jk_0 (by omega)) J Sm _ _ z1 z0 (by omega)
set_option maxRecDepth 100000 in
set_option maxHeartbeats 4000000 in
theorem ct_X2_readFactor_r95_c1_56 {Dy : jH → Prop} {h0 : jH} {Q : Option Value → jH → Prop} (hD : jDk Dy) (hQ : ∀ (v : Int32) hx9, 0 ≤ v.toInt ∧ v.toInt ≤ 1 → jJ jSgX Dy hx9 → jSm fp_X2_readFactor_r95_c1 h0 hx9 → ∀ u0 u1 : Int32, jiv hx9 68 5 = u0 → jiv hx9 68 3 = u1 → (u0.toInt ≠ 3 ∨ u1.toInt ≤ 399) → Q (some (.int v)) hx9) : ∀ (g0 : Int32) (g1 : Int32) (h : jH), 0 ≤ g0.toInt ∧ g0.toInt ≤ 400 → 0 ≤ g1.toInt ∧ g1.toInt ≤ 3 → (g1.toInt ≠ 3 ∨ g0.toInt ≤ 399) → jiv h 68 3 = g0 → jiv h 68 5 = g1 → jJ jSgX Dy h → jSm fp_X2_readFactor_r95_c1 h0 h → jX m_X2_readFactor 19 0 0 56 [] [] h 0 0 Q := by
  intro g0 g1 h y0 y1 y2 z0 z1  J Sm
  refine x_iconst (v := 0) rfl ki_0 ?_
  exact jX.sub jsb_n (ct_X2_readFactor_r95_c1_200057 hD hQ  g0 g1 h (jr_of rfl (by omega)) (jr_of rfl (by omega)) (by omega) z0 z1 J Sm)
set_option maxRecDepth 100000 in
set_option maxHeartbeats 4000000 in
theorem sf_X2_readFactor_r95_c1 {Dy : jH → Prop} {h : jH} {Q : Option Value → jH → Prop} (hD : jDk Dy) (J : jJ jSgX Dy h) {p0 p1 : Int32} (zp0 : jiv h 68 5 = p0) (zp1 : jiv h 68 3 = p1) (rl_p0 : (p0.toInt ≠ 3 ∨ p1.toInt ≤ 399)) (hQ : ∀ (v : Int32) hx9, 0 ≤ v.toInt ∧ v.toInt ≤ 1 → jJ jSgX Dy hx9 → jSm fp_X2_readFactor_r95_c1 h hx9 → ∀ u0 u1 : Int32, jiv hx9 68 5 = u0 → jiv hx9 68 3 = u1 → (u0.toInt ≠ 3 ∨ u1.toInt ≤ 399) → Q (some (.int v)) hx9) : jC m_X2_readFactor 19 0 0 [.ref 95, .int 1] h Q := by
  refine jC.of rfl k_X2_readFactor rfl ?_
  have Sm := jSm_rf fp_X2_readFactor_r95_c1 h
  have ep0 := (show 0 ≤ p0.toInt ∧ p0.toInt ≤ 3 from zp0 ▸ jrg_f J sg_68_5_6_1_0_1)
  have ep1 := (show 0 ≤ p1.toInt ∧ p1.toInt ≤ 400 from zp1 ▸ jrg_f J sg_68_3_4_1_0_1)
  show jX m_X2_readFactor 19 0 0 0 [(0, .ref 95), (1, .int 1)] [] _ 0 0 _
  refine x_aloadn (x := 95) rfl rfl ?_
  refine z_getR (N := 6) (b := 68) 2 0 rfl f_2_30 rfl J rfl 12160 ⟨rfl, rfl⟩ rfl ?_
  refine x_bipush (v := 91) rfl kb_91 ?_
  refine x_inv (N := m_X9_isSign) (As := [.int 91]) (b := 68) (st := []) (dx9 := 1) (mc := 0) (ms := 0) (host := "") 9 rfl t_X9_isSign ⟨Or.inl q_2_55, i_X9_isSign.1, i_X9_isSign.2⟩ ⟨by decide, rfl⟩ (congrArg Prod.fst (J.1.1 68 (9, 6) rfl)) rfl (by decide) rfl rfl ⟨by decide, by decide⟩ (sf_X9_isSign_r68 (jr_of jk_91 (by omega)) hD J zp0 zp1 (by omega)  (fun v4 h ev4 J S1 u2 u3 qu2 qu3 ru2 => ?_))
  have Sm := jSm_tr rfl Sm S1
  have eu2 := (show 0 ≤ u2.toInt ∧ u2.toInt ≤ 3 from qu2 ▸ jrg_f J sg_68_5_6_1_0_1)
  have eu3 := (show 0 ≤ u3.toInt ∧ u3.toInt ≤ 400 from qu3 ▸ jrg_f J sg_68_3_4_1_0_1)
  show jX m_X2_readFactor 19 0 0 9 [(0, .ref 95), (1, .int 1)] [.int v4] _ 0 0 _
  refine x_ifeq (tgt := 58) rfl rfl (ti_eq rfl jk_0 ⟨fun c5 => ?_, fun c5 => ?_⟩)
  ·
    refine x_aloadn (x := 95) rfl rfl ?_
    refine z_getR (N := 6) (b := 68) 2 0 rfl f_2_30 rfl J rfl 12160 ⟨rfl, rfl⟩ rfl ?_
    refine x_ldc (v := 100000) rfl z_2_147 ?_
    refine x_inv (N := m_X9_numberTo) (As := [.int 100000]) (b := 68) (st := []) (dx9 := 1) (mc := 0) (ms := 0) (host := "") 9 rfl t_X9_numberTo ⟨Or.inl q_2_117, i_X9_numberTo.1, i_X9_numberTo.2⟩ ⟨by decide, rfl⟩ (congrArg Prod.fst (J.1.1 68 (9, 6) rfl)) rfl (by decide) rfl rfl ⟨by decide, by decide⟩ (sf_X9_numberTo_r68 (jr_of jk_100000 (by omega)) hD J  (fun v7 h ev7 J S6 => ?_))
    have Sm := jSm_tr rfl Sm S6
    show jX m_X2_readFactor 19 0 0 67 [(0, .ref 95), (1, .int 1)] [.int v7] _ 0 0 _
    refine x_istoren (lsx9 := [(2, .int v7), (0, .ref 95), (1, .int 1)]) rfl rfl rfl ?_
    refine x_iloadn (x := v7) rfl rfl ?_
    refine x_iconst (v := (-1)) rfl ki_m1 ?_
    refine x_iceq (tgt := 80) rfl rfl (ti_eq rfl jk_m1 ⟨fun c8 => ?_, fun c8 => ?_⟩)
    ·
      refine x_aloadn (x := 95) rfl rfl ?_
      refine z_getR (N := 6) (b := 68) 2 0 rfl f_2_30 rfl J rfl 12160 ⟨rfl, rfl⟩ rfl ?_
      refine x_ldcS (jstr.getD 6 jstr_0) rfl (List.mem_of_getElem? (i := 6) rfl) rfl rfl ?_
      show jX m_X2_readFactor 19 0 0 86 [(2, .int v7), (0, .ref 95), (1, .int 1)] [.ref 11, .ref 68] _ 0 0 _
      refine x_inv (N := m_X9_wordOf) (As := [.ref 11]) (b := 68) (st := []) (dx9 := 4) (mc := 0) (ms := 0) (host := "") 9 rfl t_X9_wordOf ⟨Or.inl q_2_67, i_X9_wordOf.1, i_X9_wordOf.2⟩ ⟨by decide, rfl⟩ (congrArg Prod.fst (J.1.1 68 (9, 6) rfl)) rfl (by decide) rfl rfl ⟨by decide, by decide⟩ (sf_X9_wordOf_r68_r11  hD J  (fun v10 h J S9 => ?_))
      have ev10 := jfull v10
      have Sm := jSm_tr rfl Sm S9
      show jX m_X2_readFactor 19 0 0 89 [(2, .int v7), (0, .ref 95), (1, .int 1)] [.int v10] _ 0 0 _
      refine x_istoren (lsx9 := [(3, .int v10), (2, .int v7), (0, .ref 95), (1, .int 1)]) rfl rfl rfl ?_
      refine x_iloadn (x := v10) rfl rfl ?_
      refine x_iconst (v := (-1)) rfl ki_m1 ?_
      refine x_icne (tgt := 105) rfl rfl (ti_ne rfl jk_m1 ⟨fun c11 => ?_, fun c11 => ?_⟩)
      ·
        refine x_aloadn (x := 95) rfl rfl ?_
        refine x_iconst (v := 2) rfl ki_2 ?_
        refine x_iloadn (x := v10) rfl rfl ?_
        refine x_inv (N := m_X2_readPart) (As := [.int 2, .int v10]) (b := 95) (st := []) (dx9 := 3) (mc := 0) (ms := 0) (host := "") 2 rfl t_X2_readPart ⟨Or.inl q_2_141, i_X2_readPart.1, i_X2_readPart.2⟩ ⟨by decide, rfl⟩ (congrArg Prod.fst (J.1.1 95 (2, 6) rfl)) rfl (by decide) rfl rfl ⟨by decide, by decide⟩ (sf_X2_readPart_r95 (jr_of jk_2 (by omega)) hD J (jmc S9 rfl (jmc S6 rfl qu2)) (jmc S9 rfl (jmc S6 rfl qu3)) (by omega)  (fun v15 h ev15 J S12 u13 u14 qu13 qu14 ru13 => ?_))
        have Sm := jSm_tr rfl Sm S12
        have eu13 := (show 0 ≤ u13.toInt ∧ u13.toInt ≤ 3 from qu13 ▸ jrg_f J sg_68_5_6_1_0_1)
        have eu14 := (show 0 ≤ u14.toInt ∧ u14.toInt ≤ 400 from qu14 ▸ jrg_f J sg_68_3_4_1_0_1)
        show jX m_X2_readFactor 19 0 0 111 [(3, .int v10), (2, .int v7), (0, .ref 95), (1, .int 1)] [.int v15] _ 0 0 _
        exact jX.sub jsb_n (ct_X2_readFactor_r95_c1_111 hD hQ  v15 u14 u13 h (jr_of rfl (by omega)) (jr_of rfl (by omega)) (jr_of rfl (by omega)) (by omega) qu14 qu13 J Sm)
      ·
        refine x_aloadn (x := 95) rfl rfl ?_
        refine z_getR (N := 6) (b := 68) 2 0 rfl f_2_30 rfl J rfl 12160 ⟨rfl, rfl⟩ rfl ?_
        refine x_inv (N := m_X9_blame) (As := []) (b := 68) (st := []) (dx9 := 18) (mc := 0) (ms := 0) (host := "") 9 rfl t_X9_blame ⟨Or.inl q_2_59, i_X9_blame.1, i_X9_blame.2⟩ ⟨by decide, rfl⟩ (congrArg Prod.fst (J.1.1 68 (9, 6) rfl)) rfl (by decide) rfl rfl ⟨by decide, by decide⟩ (jC.of rfl k_X9_blame rfl ?_)
        show jX m_X9_blame 18 0 0 0 [(0, .ref 68)] [] _ 0 0 _
        refine x_aloadn (x := 68) rfl rfl ?_
        refine x_aloadn (x := 68) rfl rfl ?_
        refine z_getM (N := 6) (v := u3) 9 3 rfl f_9_22 rfl J rfl (jmc S9 rfl (jmc S6 rfl qu3)) ?_
        refine z_putI (N := 6) (w := u3.toInt) 9 2 rfl f_9_19 rfl (jfin_no TX9 RX9 6 rfl rfl) hD J Sm rfl rfl rfl (pw_68_2 (by omega)) rfl (fun h w16 J Sm => ?_)
        refine x_iconst (v := 0) rfl ki_0 ?_
        refine x_zret rfl rfl (by decide) ?_
        show jX m_X2_readFactor 19 0 0 102 [(3, .int v10), (2, .int v7), (0, .ref 95), (1, .int 1)] [.int 0] _ 0 0 _
        refine x_goto (tgt := 111) rfl rfl ?_
        exact jX.sub jsb_n (ct_X2_readFactor_r95_c1_200111 hD hQ  u3 u2 h (jr_of rfl (by omega)) (jr_of rfl (by omega)) (by omega) (jmo w16 rfl (jmc S9 rfl (jmc S6 rfl qu3))) (jmo w16 rfl (jmc S9 rfl (jmc S6 rfl qu2))) J Sm)
    ·
      refine x_aloadn (x := 95) rfl rfl ?_
      refine x_iconst (v := 1) rfl ki_1 ?_
      refine x_iloadn (x := v7) rfl rfl ?_
      refine x_inv (N := m_X2_readPart) (As := [.int 1, .int v7]) (b := 95) (st := []) (dx9 := 3) (mc := 0) (ms := 0) (host := "") 2 rfl t_X2_readPart ⟨Or.inl q_2_141, i_X2_readPart.1, i_X2_readPart.2⟩ ⟨by decide, rfl⟩ (congrArg Prod.fst (J.1.1 95 (2, 6) rfl)) rfl (by decide) rfl rfl ⟨by decide, by decide⟩ (sf_X2_readPart_r95 (jr_of jk_1 (by omega)) hD J (jmc S6 rfl qu2) (jmc S6 rfl qu3) (by omega)  (fun v20 h ev20 J S17 u18 u19 qu18 qu19 ru18 => ?_))
      have Sm := jSm_tr rfl Sm S17
      have eu18 := (show 0 ≤ u18.toInt ∧ u18.toInt ≤ 3 from qu18 ▸ jrg_f J sg_68_5_6_1_0_1)
      have eu19 := (show 0 ≤ u19.toInt ∧ u19.toInt ≤ 400 from qu19 ▸ jrg_f J sg_68_3_4_1_0_1)
      show jX m_X2_readFactor 19 0 0 79 [(2, .int v7), (0, .ref 95), (1, .int 1)] [.int v20] _ 0 0 _
      refine x_zret rfl rfl (jz01 (by omega)) ?_
      exact hQ _ _ (jr_of rfl (by omega)) J Sm _ _ qu18 qu19 (by omega)
  ·
    refine x_iloadn (x := 1) rfl rfl ?_
    refine x_bipush (v := 8) rfl kb_8 ?_
    refine x_iclt (tgt := 26) rfl rfl (ti_lt jk_1 jk_8 (br_t (by omega) ?_))
    refine x_aloadn (x := 95) rfl rfl ?_
    refine z_getR (N := 6) (b := 68) 2 0 rfl f_2_30 rfl J rfl 12160 ⟨rfl, rfl⟩ rfl ?_
    refine x_inv (N := m_X9_step) (As := []) (b := 68) (st := []) (dx9 := 2) (mc := 0) (ms := 0) (host := "") 9 rfl t_X9_step ⟨Or.inl q_2_62, i_X9_step.1, i_X9_step.2⟩ ⟨by decide, rfl⟩ (congrArg Prod.fst (J.1.1 68 (9, 6) rfl)) rfl (by decide) rfl rfl ⟨by decide, by decide⟩ (sf_X9_step_r68  hD J qu2 qu3 (by omega)  (fun h J S21 u22 u23 qu22 qu23 ru22 => ?_))
    have Sm := jSm_tr rfl Sm S21
    have eu22 := (show 0 ≤ u22.toInt ∧ u22.toInt ≤ 3 from qu22 ▸ jrg_f J sg_68_5_6_1_0_1)
    have eu23 := (show 0 ≤ u23.toInt ∧ u23.toInt ≤ 400 from qu23 ▸ jrg_f J sg_68_3_4_1_0_1)
    show jX m_X2_readFactor 19 0 0 33 [(0, .ref 95), (1, .int 1)] [] _ 0 0 _
    refine x_aloadn (x := 95) rfl rfl ?_
    refine x_iloadn (x := 1) rfl rfl ?_
    refine x_iconst (v := 1) rfl ki_1 ?_
    refine y_iadd (v := 2) rfl (by decide) ?_
    refine x_inv (N := m_X2_readSum) (As := [.int 2]) (b := 95) (st := []) (dx9 := 18) (mc := 0) (ms := 0) (host := "") 2 rfl t_X2_readSum ⟨Or.inl q_2_86, i_X2_readSum.1, i_X2_readSum.2⟩ ⟨by decide, rfl⟩ (congrArg Prod.fst (J.1.1 95 (2, 6) rfl)) rfl (by decide) rfl rfl ⟨by decide, by decide⟩ (sf_X2_readSum_r95_c2  hD J qu22 qu23 (by omega)  (fun v27 h ev27 J S24 u25 u26 qu25 qu26 ru25 => ?_))
    have Sm := jSm_tr rfl Sm S24
    have eu25 := (show 0 ≤ u25.toInt ∧ u25.toInt ≤ 3 from qu25 ▸ jrg_f J sg_68_5_6_1_0_1)
    have eu26 := (show 0 ≤ u26.toInt ∧ u26.toInt ≤ 400 from qu26 ▸ jrg_f J sg_68_3_4_1_0_1)
    show jX m_X2_readFactor 19 0 0 40 [(0, .ref 95), (1, .int 1)] [.int v27] _ 0 0 _
    refine x_ifeq (tgt := 56) rfl rfl (ti_eq rfl jk_0 ⟨fun c28 => ?_, fun c28 => ?_⟩)
    ·
      exact jX.sub jsb_n (ct_X2_readFactor_r95_c1_56 hD hQ  u26 u25 h (jr_of rfl (by omega)) (jr_of rfl (by omega)) (by omega) qu26 qu25 J Sm)
    ·
      refine x_aloadn (x := 95) rfl rfl ?_
      refine x_bipush (v := 93) rfl kb_93 ?_
      refine x_inv (N := m_X2_readSign) (As := [.int 93]) (b := 95) (st := []) (dx9 := 18) (mc := 0) (ms := 0) (host := "") 2 rfl t_X2_readSign ⟨Or.inl q_2_138, i_X2_readSign.1, i_X2_readSign.2⟩ ⟨by decide, rfl⟩ (congrArg Prod.fst (J.1.1 95 (2, 6) rfl)) rfl (by decide) rfl rfl ⟨by decide, by decide⟩ (jC.of rfl k_X2_readSign rfl ?_)
      show jX m_X2_readSign 18 0 0 0 [(0, .ref 95), (1, .int 93)] [] _ 0 0 _
      refine x_aloadn (x := 95) rfl rfl ?_
      refine z_getR (N := 6) (b := 68) 2 0 rfl f_2_30 rfl J rfl 12160 ⟨rfl, rfl⟩ rfl ?_
      refine x_iloadn (x := 93) rfl rfl ?_
      refine x_inv (N := m_X9_isSign) (As := [.int 93]) (b := 68) (st := []) (dx9 := 1) (mc := 0) (ms := 0) (host := "") 9 rfl t_X9_isSign ⟨Or.inl q_2_55, i_X9_isSign.1, i_X9_isSign.2⟩ ⟨by decide, rfl⟩ (congrArg Prod.fst (J.1.1 68 (9, 6) rfl)) rfl (by decide) rfl rfl ⟨by decide, by decide⟩ (sf_X9_isSign_r68 (jr_of jk_93 (by omega)) hD J qu25 qu26 (by omega)  (fun v32 h ev32 J S29 u30 u31 qu30 qu31 ru30 => ?_))
      have Sm := jSm_tr rfl Sm S29
      have eu30 := (show 0 ≤ u30.toInt ∧ u30.toInt ≤ 3 from qu30 ▸ jrg_f J sg_68_5_6_1_0_1)
      have eu31 := (show 0 ≤ u31.toInt ∧ u31.toInt ≤ 400 from qu31 ▸ jrg_f J sg_68_3_4_1_0_1)
      show jX m_X2_readSign 18 0 0 8 [(0, .ref 95), (1, .int 93)] [.int v32] _ 0 0 _
      refine x_ifne (tgt := 19) rfl rfl (ti_ne rfl jk_0 ⟨fun c33 => ?_, fun c33 => ?_⟩)
      ·
        refine x_aloadn (x := 95) rfl rfl ?_
        refine z_getR (N := 6) (b := 68) 2 0 rfl f_2_30 rfl J rfl 12160 ⟨rfl, rfl⟩ rfl ?_
        refine x_inv (N := m_X9_step) (As := []) (b := 68) (st := []) (dx9 := 2) (mc := 0) (ms := 0) (host := "") 9 rfl t_X9_step ⟨Or.inl q_2_62, i_X9_step.1, i_X9_step.2⟩ ⟨by decide, rfl⟩ (congrArg Prod.fst (J.1.1 68 (9, 6) rfl)) rfl (by decide) rfl rfl ⟨by decide, by decide⟩ (sf_X9_step_r68  hD J qu30 qu31 (by omega)  (fun h J S34 u35 u36 qu35 qu36 ru35 => ?_))
        have Sm := jSm_tr rfl Sm S34
        have eu35 := (show 0 ≤ u35.toInt ∧ u35.toInt ≤ 3 from qu35 ▸ jrg_f J sg_68_5_6_1_0_1)
        have eu36 := (show 0 ≤ u36.toInt ∧ u36.toInt ≤ 400 from qu36 ▸ jrg_f J sg_68_3_4_1_0_1)
        show jX m_X2_readSign 18 0 0 26 [(0, .ref 95), (1, .int 93)] [] _ 0 0 _
        refine x_iconst (v := 1) rfl ki_1 ?_
        refine x_zret rfl rfl (by decide) ?_
        show jX m_X2_readFactor 19 0 0 49 [(0, .ref 95), (1, .int 1)] [.int 1] _ 0 0 _
        refine x_ifeq (tgt := 56) rfl rfl (ti_eq jk_1 jk_0 (br_f (by omega) ?_))
        refine x_iconst (v := 1) rfl ki_1 ?_
        refine x_goto (tgt := 57) rfl rfl ?_
        exact jX.sub jsb_n (ct_X2_readFactor_r95_c1_300057 hD hQ  u36 u35 h (jr_of rfl (by omega)) (jr_of rfl (by omega)) (by omega) qu36 qu35 J Sm)
      ·
        refine x_aloadn (x := 95) rfl rfl ?_
        refine z_getR (N := 6) (b := 68) 2 0 rfl f_2_30 rfl J rfl 12160 ⟨rfl, rfl⟩ rfl ?_
        refine x_inv (N := m_X9_blame) (As := []) (b := 68) (st := []) (dx9 := 17) (mc := 0) (ms := 0) (host := "") 9 rfl t_X9_blame ⟨Or.inl q_2_59, i_X9_blame.1, i_X9_blame.2⟩ ⟨by decide, rfl⟩ (congrArg Prod.fst (J.1.1 68 (9, 6) rfl)) rfl (by decide) rfl rfl ⟨by decide, by decide⟩ (jC.of rfl k_X9_blame rfl ?_)
        show jX m_X9_blame 17 0 0 0 [(0, .ref 68)] [] _ 0 0 _
        refine x_aloadn (x := 68) rfl rfl ?_
        refine x_aloadn (x := 68) rfl rfl ?_
        refine z_getM (N := 6) (v := u31) 9 3 rfl f_9_22 rfl J rfl qu31 ?_
        refine z_putI (N := 6) (w := u31.toInt) 9 2 rfl f_9_19 rfl (jfin_no TX9 RX9 6 rfl rfl) hD J Sm rfl rfl rfl (pw_68_2 (by omega)) rfl (fun h w37 J Sm => ?_)
        refine x_iconst (v := 0) rfl ki_0 ?_
        refine x_zret rfl rfl (by decide) ?_
        show jX m_X2_readSign 18 0 0 18 [(0, .ref 95), (1, .int 93)] [.int 0] _ 0 0 _
        refine x_zret rfl rfl (by decide) ?_
        show jX m_X2_readFactor 19 0 0 49 [(0, .ref 95), (1, .int 1)] [.int 0] _ 0 0 _
        refine x_ifeq (tgt := 56) rfl rfl (ti_eq jk_0 jk_0 (br_t (by omega) ?_))
        exact jX.sub jsb_n (ct_X2_readFactor_r95_c1_56 hD hQ  u31 u30 h (jr_of rfl (by omega)) (jr_of rfl (by omega)) (by omega) (jmo w37 rfl qu31) (jmo w37 rfl qu30) J Sm)
def fp_X2_readSum_r95_c1 : jFp := [(68, 2, 3), (68, 3, 4), (68, 4, 5), (68, 5, 6), (95, 4, 5), (95, 5, 6), (97, 0, 1200)]
set_option maxRecDepth 100000 in
set_option maxHeartbeats 4000000 in
theorem ct_X2_readSum_r95_c1_100148 {Dy : jH → Prop} {h0 : jH} {Q : Option Value → jH → Prop} {R4 : Int} (hD : jDk Dy) (hQ : ∀ (v : Int32) hx9, 0 ≤ v.toInt ∧ v.toInt ≤ 1 → jJ jSgX Dy hx9 → jSm fp_X2_readSum_r95_c1 h0 hx9 → ∀ u0 u1 : Int32, jiv hx9 68 5 = u0 → jiv hx9 68 3 = u1 → (u0.toInt ≠ 3 ∨ u1.toInt ≤ 399) → Q (some (.int v)) hx9) (k4 : ∀ (l2 : Int32) (l3 : Int32) (g0 : Int32) (g1 : Int32) (h : jH), 400 - l3.toInt < R4 → (-1) ≤ l2.toInt ∧ l2.toInt ≤ 4 → 0 ≤ l3.toInt ∧ l3.toInt ≤ 400 → 0 ≤ g0.toInt ∧ g0.toInt ≤ 400 → 0 ≤ g1.toInt ∧ g1.toInt ≤ 3 → (g1.toInt ≠ 3 ∨ g0.toInt ≤ 399) → jiv h 68 3 = g0 → jiv h 68 5 = g1 → jJ jSgX Dy h → jSm fp_X2_readSum_r95_c1 h0 h → jX m_X2_readSum 20 0 0 4 [(0, .ref 95), (1, .int 1), (2, .int l2), (3, .int l3)] [] h 0 0 Q) : ∀ (l3 : Int32) (g0 : Int32) (g1 : Int32) (h : jH), 0 ≤ l3.toInt ∧ l3.toInt ≤ 399 → 0 ≤ g0.toInt ∧ g0.toInt ≤ 400 → 0 ≤ g1.toInt ∧ g1.toInt ≤ 3 → (g1.toInt ≠ 3 ∨ g0.toInt ≤ 399) → jiv h 68 3 = g0 → jiv h 68 5 = g1 → 400 - l3.toInt ≤ R4 → jJ jSgX Dy h → jSm fp_X2_readSum_r95_c1 h0 h → jX m_X2_readSum 20 0 0 148 [(0, .ref 95), (1, .int 1), (3, .int l3)] [.int (-1)] h 0 0 Q := by
  intro l3 g0 g1 h y0 y1 y2 y3 z0 z1 m4 J Sm
  refine x_istoren (lsx9 := [(2, .int (-1)), (0, .ref 95), (1, .int 1), (3, .int l3)]) rfl rfl rfl ?_
  refine x_iloadn (x := (-1)) rfl rfl ?_
  refine x_iconst (v := (-1)) rfl ki_m1 ?_
  refine x_icne (tgt := 156) rfl rfl (ti_ne jk_m1 jk_m1 (bn_f (by omega) ?_))
  refine x_iconst (v := 1) rfl ki_1 ?_
  refine x_zret rfl rfl (by decide) ?_
  exact hQ _ _ (jr_of jk_1 (by omega)) J Sm _ _ z1 z0 (by omega)
set_option maxRecDepth 100000 in
set_option maxHeartbeats 4000000 in
theorem ct_X2_readSum_r95_c1_600148 {Dy : jH → Prop} {h0 : jH} {Q : Option Value → jH → Prop} {R4 : Int} (hD : jDk Dy) (hQ : ∀ (v : Int32) hx9, 0 ≤ v.toInt ∧ v.toInt ≤ 1 → jJ jSgX Dy hx9 → jSm fp_X2_readSum_r95_c1 h0 hx9 → ∀ u0 u1 : Int32, jiv hx9 68 5 = u0 → jiv hx9 68 3 = u1 → (u0.toInt ≠ 3 ∨ u1.toInt ≤ 399) → Q (some (.int v)) hx9) (k4 : ∀ (l2 : Int32) (l3 : Int32) (g0 : Int32) (g1 : Int32) (h : jH), 400 - l3.toInt < R4 → (-1) ≤ l2.toInt ∧ l2.toInt ≤ 4 → 0 ≤ l3.toInt ∧ l3.toInt ≤ 400 → 0 ≤ g0.toInt ∧ g0.toInt ≤ 400 → 0 ≤ g1.toInt ∧ g1.toInt ≤ 3 → (g1.toInt ≠ 3 ∨ g0.toInt ≤ 399) → jiv h 68 3 = g0 → jiv h 68 5 = g1 → jJ jSgX Dy h → jSm fp_X2_readSum_r95_c1 h0 h → jX m_X2_readSum 20 0 0 4 [(0, .ref 95), (1, .int 1), (2, .int l2), (3, .int l3)] [] h 0 0 Q) : ∀ (l3 : Int32) (g0 : Int32) (g1 : Int32) (h : jH), 0 ≤ l3.toInt ∧ l3.toInt ≤ 399 → 0 ≤ g0.toInt ∧ g0.toInt ≤ 400 → 0 ≤ g1.toInt ∧ g1.toInt ≤ 3 → (g1.toInt ≠ 3 ∨ g0.toInt ≤ 399) → jiv h 68 3 = g0 → jiv h 68 5 = g1 → 400 - l3.toInt ≤ R4 → jJ jSgX Dy h → jSm fp_X2_readSum_r95_c1 h0 h → jX m_X2_readSum 20 0 0 148 [(0, .ref 95), (1, .int 1), (3, .int l3)] [.int 4] h 0 0 Q := by
  intro l3 g0 g1 h y0 y1 y2 y3 z0 z1 m4 J Sm
  refine x_istoren (lsx9 := [(2, .int 4), (0, .ref 95), (1, .int 1), (3, .int l3)]) rfl rfl rfl ?_
  refine x_iloadn (x := 4) rfl rfl ?_
  refine x_iconst (v := (-1)) rfl ki_m1 ?_
  refine x_icne (tgt := 156) rfl rfl (ti_ne jk_4 jk_m1 (bn_t (by omega) ?_))
  refine x_aloadn (x := 95) rfl rfl ?_
  refine z_getR (N := 6) (b := 68) 2 0 rfl f_2_30 rfl J rfl 12160 ⟨rfl, rfl⟩ rfl ?_
  refine x_inv (N := m_X9_step) (As := []) (b := 68) (st := []) (dx9 := 2) (mc := 0) (ms := 0) (host := "") 9 rfl t_X9_step ⟨Or.inl q_2_62, i_X9_step.1, i_X9_step.2⟩ ⟨by decide, rfl⟩ (congrArg Prod.fst (J.1.1 68 (9, 6) rfl)) rfl (by decide) rfl rfl ⟨by decide, by decide⟩ (sf_X9_step_r68  hD J z1 z0 (by omega)  (fun h J S1 u2 u3 qu2 qu3 ru2 => ?_))
  have Sm := jSm_tr rfl Sm S1
  have eu2 := (show 0 ≤ u2.toInt ∧ u2.toInt ≤ 3 from qu2 ▸ jrg_f J sg_68_5_6_1_0_1)
  have eu3 := (show 0 ≤ u3.toInt ∧ u3.toInt ≤ 400 from qu3 ▸ jrg_f J sg_68_3_4_1_0_1)
  show jX m_X2_readSum 20 0 0 163 [(2, .int 4), (0, .ref 95), (1, .int 1), (3, .int l3)] [] _ 0 0 _
  refine z_iinc (x := l3) (lsx9 := fun v4 => [(3, .int v4), (2, .int 4), (0, .ref 95), (1, .int 1)]) rfl rfl rfl jko_1 (by omega) rfl (fun _ => rfl) (fun v4 ev4 => ?_)
  refine x_goto (tgt := 4) rfl rfl ?_
  exact jX.sub (jsb_c rfl (jsb_c rfl (jsb_c rfl (jsb_c rfl jsb_n)))) (k4 4 v4 u3 u2 h (by omega) (jr_of jk_4 (by omega)) (jr_of rfl (by omega)) (jr_of rfl (by omega)) (jr_of rfl (by omega)) (by omega) qu3 qu2 J Sm)
set_option maxRecDepth 100000 in
set_option maxHeartbeats 4000000 in
theorem ct_X2_readSum_r95_c1_500148 {Dy : jH → Prop} {h0 : jH} {Q : Option Value → jH → Prop} {R4 : Int} (hD : jDk Dy) (hQ : ∀ (v : Int32) hx9, 0 ≤ v.toInt ∧ v.toInt ≤ 1 → jJ jSgX Dy hx9 → jSm fp_X2_readSum_r95_c1 h0 hx9 → ∀ u0 u1 : Int32, jiv hx9 68 5 = u0 → jiv hx9 68 3 = u1 → (u0.toInt ≠ 3 ∨ u1.toInt ≤ 399) → Q (some (.int v)) hx9) (k4 : ∀ (l2 : Int32) (l3 : Int32) (g0 : Int32) (g1 : Int32) (h : jH), 400 - l3.toInt < R4 → (-1) ≤ l2.toInt ∧ l2.toInt ≤ 4 → 0 ≤ l3.toInt ∧ l3.toInt ≤ 400 → 0 ≤ g0.toInt ∧ g0.toInt ≤ 400 → 0 ≤ g1.toInt ∧ g1.toInt ≤ 3 → (g1.toInt ≠ 3 ∨ g0.toInt ≤ 399) → jiv h 68 3 = g0 → jiv h 68 5 = g1 → jJ jSgX Dy h → jSm fp_X2_readSum_r95_c1 h0 h → jX m_X2_readSum 20 0 0 4 [(0, .ref 95), (1, .int 1), (2, .int l2), (3, .int l3)] [] h 0 0 Q) : ∀ (l3 : Int32) (g0 : Int32) (g1 : Int32) (h : jH), 0 ≤ l3.toInt ∧ l3.toInt ≤ 399 → 0 ≤ g0.toInt ∧ g0.toInt ≤ 400 → 0 ≤ g1.toInt ∧ g1.toInt ≤ 3 → (g1.toInt ≠ 3 ∨ g0.toInt ≤ 399) → jiv h 68 3 = g0 → jiv h 68 5 = g1 → 400 - l3.toInt ≤ R4 → jJ jSgX Dy h → jSm fp_X2_readSum_r95_c1 h0 h → jX m_X2_readSum 20 0 0 148 [(0, .ref 95), (1, .int 1), (3, .int l3)] [.int 3] h 0 0 Q := by
  intro l3 g0 g1 h y0 y1 y2 y3 z0 z1 m4 J Sm
  refine x_istoren (lsx9 := [(2, .int 3), (0, .ref 95), (1, .int 1), (3, .int l3)]) rfl rfl rfl ?_
  refine x_iloadn (x := 3) rfl rfl ?_
  refine x_iconst (v := (-1)) rfl ki_m1 ?_
  refine x_icne (tgt := 156) rfl rfl (ti_ne jk_3 jk_m1 (bn_t (by omega) ?_))
  refine x_aloadn (x := 95) rfl rfl ?_
  refine z_getR (N := 6) (b := 68) 2 0 rfl f_2_30 rfl J rfl 12160 ⟨rfl, rfl⟩ rfl ?_
  refine x_inv (N := m_X9_step) (As := []) (b := 68) (st := []) (dx9 := 2) (mc := 0) (ms := 0) (host := "") 9 rfl t_X9_step ⟨Or.inl q_2_62, i_X9_step.1, i_X9_step.2⟩ ⟨by decide, rfl⟩ (congrArg Prod.fst (J.1.1 68 (9, 6) rfl)) rfl (by decide) rfl rfl ⟨by decide, by decide⟩ (sf_X9_step_r68  hD J z1 z0 (by omega)  (fun h J S1 u2 u3 qu2 qu3 ru2 => ?_))
  have Sm := jSm_tr rfl Sm S1
  have eu2 := (show 0 ≤ u2.toInt ∧ u2.toInt ≤ 3 from qu2 ▸ jrg_f J sg_68_5_6_1_0_1)
  have eu3 := (show 0 ≤ u3.toInt ∧ u3.toInt ≤ 400 from qu3 ▸ jrg_f J sg_68_3_4_1_0_1)
  show jX m_X2_readSum 20 0 0 163 [(2, .int 3), (0, .ref 95), (1, .int 1), (3, .int l3)] [] _ 0 0 _
  refine z_iinc (x := l3) (lsx9 := fun v4 => [(3, .int v4), (2, .int 3), (0, .ref 95), (1, .int 1)]) rfl rfl rfl jko_1 (by omega) rfl (fun _ => rfl) (fun v4 ev4 => ?_)
  refine x_goto (tgt := 4) rfl rfl ?_
  exact jX.sub (jsb_c rfl (jsb_c rfl (jsb_c rfl (jsb_c rfl jsb_n)))) (k4 3 v4 u3 u2 h (by omega) (jr_of jk_3 (by omega)) (jr_of rfl (by omega)) (jr_of rfl (by omega)) (jr_of rfl (by omega)) (by omega) qu3 qu2 J Sm)
set_option maxRecDepth 100000 in
set_option maxHeartbeats 4000000 in
theorem ct_X2_readSum_r95_c1_115 {Dy : jH → Prop} {h0 : jH} {Q : Option Value → jH → Prop} {R4 : Int} (hD : jDk Dy) (hQ : ∀ (v : Int32) hx9, 0 ≤ v.toInt ∧ v.toInt ≤ 1 → jJ jSgX Dy hx9 → jSm fp_X2_readSum_r95_c1 h0 hx9 → ∀ u0 u1 : Int32, jiv hx9 68 5 = u0 → jiv hx9 68 3 = u1 → (u0.toInt ≠ 3 ∨ u1.toInt ≤ 399) → Q (some (.int v)) hx9) (k4 : ∀ (l2 : Int32) (l3 : Int32) (g0 : Int32) (g1 : Int32) (h : jH), 400 - l3.toInt < R4 → (-1) ≤ l2.toInt ∧ l2.toInt ≤ 4 → 0 ≤ l3.toInt ∧ l3.toInt ≤ 400 → 0 ≤ g0.toInt ∧ g0.toInt ≤ 400 → 0 ≤ g1.toInt ∧ g1.toInt ≤ 3 → (g1.toInt ≠ 3 ∨ g0.toInt ≤ 399) → jiv h 68 3 = g0 → jiv h 68 5 = g1 → jJ jSgX Dy h → jSm fp_X2_readSum_r95_c1 h0 h → jX m_X2_readSum 20 0 0 4 [(0, .ref 95), (1, .int 1), (2, .int l2), (3, .int l3)] [] h 0 0 Q) : ∀ (l3 : Int32) (g0 : Int32) (g1 : Int32) (h : jH), 0 ≤ l3.toInt ∧ l3.toInt ≤ 399 → 0 ≤ g0.toInt ∧ g0.toInt ≤ 400 → 0 ≤ g1.toInt ∧ g1.toInt ≤ 3 → (g1.toInt ≠ 3 ∨ g0.toInt ≤ 399) → jiv h 68 3 = g0 → jiv h 68 5 = g1 → 400 - l3.toInt ≤ R4 → jJ jSgX Dy h → jSm fp_X2_readSum_r95_c1 h0 h → jX m_X2_readSum 20 0 0 115 [(0, .ref 95), (1, .int 1), (3, .int l3)] [] h 0 0 Q := by
  intro l3 g0 g1 h y0 y1 y2 y3 z0 z1 m4 J Sm
  refine x_aloadn (x := 95) rfl rfl ?_
  refine z_getR (N := 6) (b := 68) 2 0 rfl f_2_30 rfl J rfl 12160 ⟨rfl, rfl⟩ rfl ?_
  refine x_bipush (v := 43) rfl kb_43 ?_
  refine x_inv (N := m_X9_isSign) (As := [.int 43]) (b := 68) (st := []) (dx9 := 1) (mc := 0) (ms := 0) (host := "") 9 rfl t_X9_isSign ⟨Or.inl q_2_55, i_X9_isSign.1, i_X9_isSign.2⟩ ⟨by decide, rfl⟩ (congrArg Prod.fst (J.1.1 68 (9, 6) rfl)) rfl (by decide) rfl rfl ⟨by decide, by decide⟩ (sf_X9_isSign_r68 (jr_of jk_43 (by omega)) hD J z1 z0 (by omega)  (fun v4 h ev4 J S1 u2 u3 qu2 qu3 ru2 => ?_))
  have Sm := jSm_tr rfl Sm S1
  have eu2 := (show 0 ≤ u2.toInt ∧ u2.toInt ≤ 3 from qu2 ▸ jrg_f J sg_68_5_6_1_0_1)
  have eu3 := (show 0 ≤ u3.toInt ∧ u3.toInt ≤ 400 from qu3 ▸ jrg_f J sg_68_3_4_1_0_1)
  show jX m_X2_readSum 20 0 0 124 [(0, .ref 95), (1, .int 1), (3, .int l3)] [.int v4] _ 0 0 _
  refine x_ifeq (tgt := 131) rfl rfl (ti_eq rfl jk_0 ⟨fun c5 => ?_, fun c5 => ?_⟩)
  ·
    refine x_aloadn (x := 95) rfl rfl ?_
    refine z_getR (N := 6) (b := 68) 2 0 rfl f_2_30 rfl J rfl 12160 ⟨rfl, rfl⟩ rfl ?_
    refine x_bipush (v := 45) rfl kb_45 ?_
    refine x_inv (N := m_X9_isSign) (As := [.int 45]) (b := 68) (st := []) (dx9 := 1) (mc := 0) (ms := 0) (host := "") 9 rfl t_X9_isSign ⟨Or.inl q_2_55, i_X9_isSign.1, i_X9_isSign.2⟩ ⟨by decide, rfl⟩ (congrArg Prod.fst (J.1.1 68 (9, 6) rfl)) rfl (by decide) rfl rfl ⟨by decide, by decide⟩ (sf_X9_isSign_r68 (jr_of jk_45 (by omega)) hD J qu2 qu3 (by omega)  (fun v9 h ev9 J S6 u7 u8 qu7 qu8 ru7 => ?_))
    have Sm := jSm_tr rfl Sm S6
    have eu7 := (show 0 ≤ u7.toInt ∧ u7.toInt ≤ 3 from qu7 ▸ jrg_f J sg_68_5_6_1_0_1)
    have eu8 := (show 0 ≤ u8.toInt ∧ u8.toInt ≤ 400 from qu8 ▸ jrg_f J sg_68_3_4_1_0_1)
    show jX m_X2_readSum 20 0 0 140 [(0, .ref 95), (1, .int 1), (3, .int l3)] [.int v9] _ 0 0 _
    refine x_ifeq (tgt := 147) rfl rfl (ti_eq rfl jk_0 ⟨fun c10 => ?_, fun c10 => ?_⟩)
    ·
      refine x_iconst (v := (-1)) rfl ki_m1 ?_
      exact jX.sub (jsb_c rfl (jsb_c rfl (jsb_c rfl jsb_n))) (ct_X2_readSum_r95_c1_100148 hD hQ k4 l3 u8 u7 h (jr_of rfl (by omega)) (jr_of rfl (by omega)) (jr_of rfl (by omega)) (by omega) qu8 qu7 (by omega) J Sm)
    ·
      refine x_iconst (v := 4) rfl ki_4 ?_
      refine x_goto (tgt := 148) rfl rfl ?_
      exact jX.sub (jsb_c rfl (jsb_c rfl (jsb_c rfl jsb_n))) (ct_X2_readSum_r95_c1_600148 hD hQ k4 l3 u8 u7 h (jr_of rfl (by omega)) (jr_of rfl (by omega)) (jr_of rfl (by omega)) (by omega) qu8 qu7 (by omega) J Sm)
  ·
    refine x_iconst (v := 3) rfl ki_3 ?_
    refine x_goto (tgt := 148) rfl rfl ?_
    exact jX.sub (jsb_c rfl (jsb_c rfl (jsb_c rfl jsb_n))) (ct_X2_readSum_r95_c1_500148 hD hQ k4 l3 u3 u2 h (jr_of rfl (by omega)) (jr_of rfl (by omega)) (jr_of rfl (by omega)) (by omega) qu3 qu2 (by omega) J Sm)
set_option maxRecDepth 100000 in
set_option maxHeartbeats 4000000 in
theorem ct_X2_readSum_r95_c1_105 {Dy : jH → Prop} {h0 : jH} {Q : Option Value → jH → Prop} {R4 : Int} (hD : jDk Dy) (hQ : ∀ (v : Int32) hx9, 0 ≤ v.toInt ∧ v.toInt ≤ 1 → jJ jSgX Dy hx9 → jSm fp_X2_readSum_r95_c1 h0 hx9 → ∀ u0 u1 : Int32, jiv hx9 68 5 = u0 → jiv hx9 68 3 = u1 → (u0.toInt ≠ 3 ∨ u1.toInt ≤ 399) → Q (some (.int v)) hx9) (k4 : ∀ (l2 : Int32) (l3 : Int32) (g0 : Int32) (g1 : Int32) (h : jH), 400 - l3.toInt < R4 → (-1) ≤ l2.toInt ∧ l2.toInt ≤ 4 → 0 ≤ l3.toInt ∧ l3.toInt ≤ 400 → 0 ≤ g0.toInt ∧ g0.toInt ≤ 400 → 0 ≤ g1.toInt ∧ g1.toInt ≤ 3 → (g1.toInt ≠ 3 ∨ g0.toInt ≤ 399) → jiv h 68 3 = g0 → jiv h 68 5 = g1 → jJ jSgX Dy h → jSm fp_X2_readSum_r95_c1 h0 h → jX m_X2_readSum 20 0 0 4 [(0, .ref 95), (1, .int 1), (2, .int l2), (3, .int l3)] [] h 0 0 Q) : ∀ (l2 : Int32) (l3 : Int32) (g0 : Int32) (g1 : Int32) (h : jH), (-1) ≤ l2.toInt ∧ l2.toInt ≤ 4 → 0 ≤ l3.toInt ∧ l3.toInt ≤ 399 → 0 ≤ g0.toInt ∧ g0.toInt ≤ 400 → 0 ≤ g1.toInt ∧ g1.toInt ≤ 3 → (g1.toInt ≠ 3 ∨ g0.toInt ≤ 399) → jiv h 68 3 = g0 → jiv h 68 5 = g1 → 400 - l3.toInt ≤ R4 → jJ jSgX Dy h → jSm fp_X2_readSum_r95_c1 h0 h → jX m_X2_readSum 20 0 0 105 [(0, .ref 95), (1, .int 1), (2, .int l2), (3, .int l3)] [] h 0 0 Q := by
  intro l2 l3 g0 g1 h y0 y1 y2 y3 y4 z0 z1 m4 J Sm
  refine x_iloadn (x := l2) rfl rfl ?_
  refine x_iconst (v := (-1)) rfl ki_m1 ?_
  refine x_iceq (tgt := 115) rfl rfl (ti_eq rfl jk_m1 ⟨fun c1 => ?_, fun c1 => ?_⟩)
  ·
    exact jX.sub (jsb_c rfl (jsb_c rfl (jsb_c rfl jsb_n))) (ct_X2_readSum_r95_c1_115 hD hQ k4 l3 g0 g1 h (jr_of rfl (by omega)) (jr_of rfl (by omega)) (jr_of rfl (by omega)) (by omega) z0 z1 (by omega) J Sm)
  ·
    refine x_aloadn (x := 95) rfl rfl ?_
    refine x_iloadn (x := l2) rfl rfl ?_
    refine x_inv (N := m_X2_emit) (As := [.int l2]) (b := 95) (st := []) (dx9 := 1) (mc := 0) (ms := 0) (host := "") 2 rfl t_X2_emit ⟨Or.inl q_2_89, i_X2_emit.1, i_X2_emit.2⟩ ⟨by decide, rfl⟩ (congrArg Prod.fst (J.1.1 95 (2, 6) rfl)) rfl (by decide) rfl rfl ⟨by decide, by decide⟩ (sf_X2_emit_r95  hD J  (fun h J S2 => ?_))
    have Sm := jSm_tr rfl Sm S2
    show jX m_X2_readSum 20 0 0 115 [(0, .ref 95), (1, .int 1), (2, .int l2), (3, .int l3)] [] _ 0 0 _
    exact jX.sub (jsb_c rfl (jsb_c rfl (jsb_c rfl jsb_n))) (ct_X2_readSum_r95_c1_115 hD hQ k4 l3 g0 g1 h (jr_of rfl (by omega)) (jr_of rfl (by omega)) (jr_of rfl (by omega)) (by omega) (jmc S2 rfl z0) (jmc S2 rfl z1) (by omega) J Sm)
set_option maxRecDepth 100000 in
set_option maxHeartbeats 4000000 in
theorem ct_X2_readSum_r95_c1_100081 {Dy : jH → Prop} {h0 : jH} {Q : Option Value → jH → Prop} {R4 : Int} {R17 : Int} (hD : jDk Dy) (hQ : ∀ (v : Int32) hx9, 0 ≤ v.toInt ∧ v.toInt ≤ 1 → jJ jSgX Dy hx9 → jSm fp_X2_readSum_r95_c1 h0 hx9 → ∀ u0 u1 : Int32, jiv hx9 68 5 = u0 → jiv hx9 68 3 = u1 → (u0.toInt ≠ 3 ∨ u1.toInt ≤ 399) → Q (some (.int v)) hx9) (k4 : ∀ (l2 : Int32) (l3 : Int32) (g0 : Int32) (g1 : Int32) (h : jH), 400 - l3.toInt < R4 → (-1) ≤ l2.toInt ∧ l2.toInt ≤ 4 → 0 ≤ l3.toInt ∧ l3.toInt ≤ 400 → 0 ≤ g0.toInt ∧ g0.toInt ≤ 400 → 0 ≤ g1.toInt ∧ g1.toInt ≤ 3 → (g1.toInt ≠ 3 ∨ g0.toInt ≤ 399) → jiv h 68 3 = g0 → jiv h 68 5 = g1 → jJ jSgX Dy h → jSm fp_X2_readSum_r95_c1 h0 h → jX m_X2_readSum 20 0 0 4 [(0, .ref 95), (1, .int 1), (2, .int l2), (3, .int l3)] [] h 0 0 Q) (k17 : ∀ (l2 : Int32) (l3 : Int32) (l4 : Int32) (l5 : Int32) (g0 : Int32) (g1 : Int32) (h : jH), 400 - l5.toInt < R17 → (-1) ≤ l2.toInt ∧ l2.toInt ≤ 4 → 0 ≤ l3.toInt ∧ l3.toInt ≤ 399 → (-1) ≤ l4.toInt ∧ l4.toInt ≤ 6 → 0 ≤ l5.toInt ∧ l5.toInt ≤ 400 → 0 ≤ g0.toInt ∧ g0.toInt ≤ 400 → 0 ≤ g1.toInt ∧ g1.toInt ≤ 3 → (g1.toInt ≠ 3 ∨ g0.toInt ≤ 399) → jiv h 68 3 = g0 → jiv h 68 5 = g1 → 400 - l3.toInt ≤ R4 → jJ jSgX Dy h → jSm fp_X2_readSum_r95_c1 h0 h → jX m_X2_readSum 20 0 0 17 [(0, .ref 95), (1, .int 1), (2, .int l2), (3, .int l3), (4, .int l4), (5, .int l5)] [] h 0 0 Q) : ∀ (l2 : Int32) (l3 : Int32) (l5 : Int32) (g0 : Int32) (g1 : Int32) (h : jH), (-1) ≤ l2.toInt ∧ l2.toInt ≤ 4 → 0 ≤ l3.toInt ∧ l3.toInt ≤ 399 → 0 ≤ l5.toInt ∧ l5.toInt ≤ 399 → 0 ≤ g0.toInt ∧ g0.toInt ≤ 400 → 0 ≤ g1.toInt ∧ g1.toInt ≤ 3 → (g1.toInt ≠ 3 ∨ g0.toInt ≤ 399) → jiv h 68 3 = g0 → jiv h 68 5 = g1 → 400 - l3.toInt ≤ R4 → 400 - l5.toInt ≤ R17 → jJ jSgX Dy h → jSm fp_X2_readSum_r95_c1 h0 h → jX m_X2_readSum 20 0 0 81 [(0, .ref 95), (1, .int 1), (2, .int l2), (3, .int l3), (5, .int l5)] [.int (-1)] h 0 0 Q := by
  intro l2 l3 l5 g0 g1 h y0 y1 y2 y3 y4 y5 z0 z1 m4 m17 J Sm
  refine x_istore (lsx9 := [(4, .int (-1)), (0, .ref 95), (1, .int 1), (2, .int l2), (3, .int l3), (5, .int l5)]) rfl rfl rfl ?_
  refine x_iload (x := (-1)) rfl rfl ?_
  refine x_iconst (v := (-1)) rfl ki_m1 ?_
  refine x_icne (tgt := 92) rfl rfl (ti_ne jk_m1 jk_m1 (bn_f (by omega) ?_))
  refine x_goto (tgt := 105) rfl rfl ?_
  exact jX.sub (jsb_c rfl (jsb_c rfl (jsb_c rfl (jsb_c rfl jsb_n)))) (ct_X2_readSum_r95_c1_105 hD hQ k4 l2 l3 g0 g1 h (jr_of rfl (by omega)) (jr_of rfl (by omega)) (jr_of rfl (by omega)) (jr_of rfl (by omega)) (by omega) z0 z1 (by omega) J Sm)
set_option maxRecDepth 100000 in
set_option maxHeartbeats 4000000 in
theorem ct_X2_readSum_r95_c1_800081 {Dy : jH → Prop} {h0 : jH} {Q : Option Value → jH → Prop} {R4 : Int} {R17 : Int} (hD : jDk Dy) (hQ : ∀ (v : Int32) hx9, 0 ≤ v.toInt ∧ v.toInt ≤ 1 → jJ jSgX Dy hx9 → jSm fp_X2_readSum_r95_c1 h0 hx9 → ∀ u0 u1 : Int32, jiv hx9 68 5 = u0 → jiv hx9 68 3 = u1 → (u0.toInt ≠ 3 ∨ u1.toInt ≤ 399) → Q (some (.int v)) hx9) (k4 : ∀ (l2 : Int32) (l3 : Int32) (g0 : Int32) (g1 : Int32) (h : jH), 400 - l3.toInt < R4 → (-1) ≤ l2.toInt ∧ l2.toInt ≤ 4 → 0 ≤ l3.toInt ∧ l3.toInt ≤ 400 → 0 ≤ g0.toInt ∧ g0.toInt ≤ 400 → 0 ≤ g1.toInt ∧ g1.toInt ≤ 3 → (g1.toInt ≠ 3 ∨ g0.toInt ≤ 399) → jiv h 68 3 = g0 → jiv h 68 5 = g1 → jJ jSgX Dy h → jSm fp_X2_readSum_r95_c1 h0 h → jX m_X2_readSum 20 0 0 4 [(0, .ref 95), (1, .int 1), (2, .int l2), (3, .int l3)] [] h 0 0 Q) (k17 : ∀ (l2 : Int32) (l3 : Int32) (l4 : Int32) (l5 : Int32) (g0 : Int32) (g1 : Int32) (h : jH), 400 - l5.toInt < R17 → (-1) ≤ l2.toInt ∧ l2.toInt ≤ 4 → 0 ≤ l3.toInt ∧ l3.toInt ≤ 399 → (-1) ≤ l4.toInt ∧ l4.toInt ≤ 6 → 0 ≤ l5.toInt ∧ l5.toInt ≤ 400 → 0 ≤ g0.toInt ∧ g0.toInt ≤ 400 → 0 ≤ g1.toInt ∧ g1.toInt ≤ 3 → (g1.toInt ≠ 3 ∨ g0.toInt ≤ 399) → jiv h 68 3 = g0 → jiv h 68 5 = g1 → 400 - l3.toInt ≤ R4 → jJ jSgX Dy h → jSm fp_X2_readSum_r95_c1 h0 h → jX m_X2_readSum 20 0 0 17 [(0, .ref 95), (1, .int 1), (2, .int l2), (3, .int l3), (4, .int l4), (5, .int l5)] [] h 0 0 Q) : ∀ (l2 : Int32) (l3 : Int32) (l5 : Int32) (g0 : Int32) (g1 : Int32) (h : jH), (-1) ≤ l2.toInt ∧ l2.toInt ≤ 4 → 0 ≤ l3.toInt ∧ l3.toInt ≤ 399 → 0 ≤ l5.toInt ∧ l5.toInt ≤ 399 → 0 ≤ g0.toInt ∧ g0.toInt ≤ 400 → 0 ≤ g1.toInt ∧ g1.toInt ≤ 3 → (g1.toInt ≠ 3 ∨ g0.toInt ≤ 399) → jiv h 68 3 = g0 → jiv h 68 5 = g1 → 400 - l3.toInt ≤ R4 → 400 - l5.toInt ≤ R17 → jJ jSgX Dy h → jSm fp_X2_readSum_r95_c1 h0 h → jX m_X2_readSum 20 0 0 81 [(0, .ref 95), (1, .int 1), (2, .int l2), (3, .int l3), (5, .int l5)] [.int 6] h 0 0 Q := by
  intro l2 l3 l5 g0 g1 h y0 y1 y2 y3 y4 y5 z0 z1 m4 m17 J Sm
  refine x_istore (lsx9 := [(4, .int 6), (0, .ref 95), (1, .int 1), (2, .int l2), (3, .int l3), (5, .int l5)]) rfl rfl rfl ?_
  refine x_iload (x := 6) rfl rfl ?_
  refine x_iconst (v := (-1)) rfl ki_m1 ?_
  refine x_icne (tgt := 92) rfl rfl (ti_ne jk_6 jk_m1 (bn_t (by omega) ?_))
  refine x_aloadn (x := 95) rfl rfl ?_
  refine z_getR (N := 6) (b := 68) 2 0 rfl f_2_30 rfl J rfl 12160 ⟨rfl, rfl⟩ rfl ?_
  refine x_inv (N := m_X9_step) (As := []) (b := 68) (st := []) (dx9 := 2) (mc := 0) (ms := 0) (host := "") 9 rfl t_X9_step ⟨Or.inl q_2_62, i_X9_step.1, i_X9_step.2⟩ ⟨by decide, rfl⟩ (congrArg Prod.fst (J.1.1 68 (9, 6) rfl)) rfl (by decide) rfl rfl ⟨by decide, by decide⟩ (sf_X9_step_r68  hD J z1 z0 (by omega)  (fun h J S1 u2 u3 qu2 qu3 ru2 => ?_))
  have Sm := jSm_tr rfl Sm S1
  have eu2 := (show 0 ≤ u2.toInt ∧ u2.toInt ≤ 3 from qu2 ▸ jrg_f J sg_68_5_6_1_0_1)
  have eu3 := (show 0 ≤ u3.toInt ∧ u3.toInt ≤ 400 from qu3 ▸ jrg_f J sg_68_3_4_1_0_1)
  show jX m_X2_readSum 20 0 0 99 [(4, .int 6), (0, .ref 95), (1, .int 1), (2, .int l2), (3, .int l3), (5, .int l5)] [] _ 0 0 _
  refine z_iinc (x := l5) (lsx9 := fun v4 => [(5, .int v4), (4, .int 6), (0, .ref 95), (1, .int 1), (2, .int l2), (3, .int l3)]) rfl rfl rfl jko_1 (by omega) rfl (fun _ => rfl) (fun v4 ev4 => ?_)
  refine x_goto (tgt := 17) rfl rfl ?_
  exact jX.sub (jsb_c rfl (jsb_c rfl (jsb_c rfl (jsb_c rfl (jsb_c rfl (jsb_c rfl jsb_n)))))) (k17 l2 l3 6 v4 u3 u2 h (by omega) (jr_of rfl (by omega)) (jr_of rfl (by omega)) (jr_of jk_6 (by omega)) (jr_of rfl (by omega)) (jr_of rfl (by omega)) (jr_of rfl (by omega)) (by omega) qu3 qu2 (by omega) J Sm)
set_option maxRecDepth 100000 in
set_option maxHeartbeats 4000000 in
theorem ct_X2_readSum_r95_c1_700081 {Dy : jH → Prop} {h0 : jH} {Q : Option Value → jH → Prop} {R4 : Int} {R17 : Int} (hD : jDk Dy) (hQ : ∀ (v : Int32) hx9, 0 ≤ v.toInt ∧ v.toInt ≤ 1 → jJ jSgX Dy hx9 → jSm fp_X2_readSum_r95_c1 h0 hx9 → ∀ u0 u1 : Int32, jiv hx9 68 5 = u0 → jiv hx9 68 3 = u1 → (u0.toInt ≠ 3 ∨ u1.toInt ≤ 399) → Q (some (.int v)) hx9) (k4 : ∀ (l2 : Int32) (l3 : Int32) (g0 : Int32) (g1 : Int32) (h : jH), 400 - l3.toInt < R4 → (-1) ≤ l2.toInt ∧ l2.toInt ≤ 4 → 0 ≤ l3.toInt ∧ l3.toInt ≤ 400 → 0 ≤ g0.toInt ∧ g0.toInt ≤ 400 → 0 ≤ g1.toInt ∧ g1.toInt ≤ 3 → (g1.toInt ≠ 3 ∨ g0.toInt ≤ 399) → jiv h 68 3 = g0 → jiv h 68 5 = g1 → jJ jSgX Dy h → jSm fp_X2_readSum_r95_c1 h0 h → jX m_X2_readSum 20 0 0 4 [(0, .ref 95), (1, .int 1), (2, .int l2), (3, .int l3)] [] h 0 0 Q) (k17 : ∀ (l2 : Int32) (l3 : Int32) (l4 : Int32) (l5 : Int32) (g0 : Int32) (g1 : Int32) (h : jH), 400 - l5.toInt < R17 → (-1) ≤ l2.toInt ∧ l2.toInt ≤ 4 → 0 ≤ l3.toInt ∧ l3.toInt ≤ 399 → (-1) ≤ l4.toInt ∧ l4.toInt ≤ 6 → 0 ≤ l5.toInt ∧ l5.toInt ≤ 400 → 0 ≤ g0.toInt ∧ g0.toInt ≤ 400 → 0 ≤ g1.toInt ∧ g1.toInt ≤ 3 → (g1.toInt ≠ 3 ∨ g0.toInt ≤ 399) → jiv h 68 3 = g0 → jiv h 68 5 = g1 → 400 - l3.toInt ≤ R4 → jJ jSgX Dy h → jSm fp_X2_readSum_r95_c1 h0 h → jX m_X2_readSum 20 0 0 17 [(0, .ref 95), (1, .int 1), (2, .int l2), (3, .int l3), (4, .int l4), (5, .int l5)] [] h 0 0 Q) : ∀ (l2 : Int32) (l3 : Int32) (l5 : Int32) (g0 : Int32) (g1 : Int32) (h : jH), (-1) ≤ l2.toInt ∧ l2.toInt ≤ 4 → 0 ≤ l3.toInt ∧ l3.toInt ≤ 399 → 0 ≤ l5.toInt ∧ l5.toInt ≤ 399 → 0 ≤ g0.toInt ∧ g0.toInt ≤ 400 → 0 ≤ g1.toInt ∧ g1.toInt ≤ 3 → (g1.toInt ≠ 3 ∨ g0.toInt ≤ 399) → jiv h 68 3 = g0 → jiv h 68 5 = g1 → 400 - l3.toInt ≤ R4 → 400 - l5.toInt ≤ R17 → jJ jSgX Dy h → jSm fp_X2_readSum_r95_c1 h0 h → jX m_X2_readSum 20 0 0 81 [(0, .ref 95), (1, .int 1), (2, .int l2), (3, .int l3), (5, .int l5)] [.int 5] h 0 0 Q := by
  intro l2 l3 l5 g0 g1 h y0 y1 y2 y3 y4 y5 z0 z1 m4 m17 J Sm
  refine x_istore (lsx9 := [(4, .int 5), (0, .ref 95), (1, .int 1), (2, .int l2), (3, .int l3), (5, .int l5)]) rfl rfl rfl ?_
  refine x_iload (x := 5) rfl rfl ?_
  refine x_iconst (v := (-1)) rfl ki_m1 ?_
  refine x_icne (tgt := 92) rfl rfl (ti_ne jk_5 jk_m1 (bn_t (by omega) ?_))
  refine x_aloadn (x := 95) rfl rfl ?_
  refine z_getR (N := 6) (b := 68) 2 0 rfl f_2_30 rfl J rfl 12160 ⟨rfl, rfl⟩ rfl ?_
  refine x_inv (N := m_X9_step) (As := []) (b := 68) (st := []) (dx9 := 2) (mc := 0) (ms := 0) (host := "") 9 rfl t_X9_step ⟨Or.inl q_2_62, i_X9_step.1, i_X9_step.2⟩ ⟨by decide, rfl⟩ (congrArg Prod.fst (J.1.1 68 (9, 6) rfl)) rfl (by decide) rfl rfl ⟨by decide, by decide⟩ (sf_X9_step_r68  hD J z1 z0 (by omega)  (fun h J S1 u2 u3 qu2 qu3 ru2 => ?_))
  have Sm := jSm_tr rfl Sm S1
  have eu2 := (show 0 ≤ u2.toInt ∧ u2.toInt ≤ 3 from qu2 ▸ jrg_f J sg_68_5_6_1_0_1)
  have eu3 := (show 0 ≤ u3.toInt ∧ u3.toInt ≤ 400 from qu3 ▸ jrg_f J sg_68_3_4_1_0_1)
  show jX m_X2_readSum 20 0 0 99 [(4, .int 5), (0, .ref 95), (1, .int 1), (2, .int l2), (3, .int l3), (5, .int l5)] [] _ 0 0 _
  refine z_iinc (x := l5) (lsx9 := fun v4 => [(5, .int v4), (4, .int 5), (0, .ref 95), (1, .int 1), (2, .int l2), (3, .int l3)]) rfl rfl rfl jko_1 (by omega) rfl (fun _ => rfl) (fun v4 ev4 => ?_)
  refine x_goto (tgt := 17) rfl rfl ?_
  exact jX.sub (jsb_c rfl (jsb_c rfl (jsb_c rfl (jsb_c rfl (jsb_c rfl (jsb_c rfl jsb_n)))))) (k17 l2 l3 5 v4 u3 u2 h (by omega) (jr_of rfl (by omega)) (jr_of rfl (by omega)) (jr_of jk_5 (by omega)) (jr_of rfl (by omega)) (jr_of rfl (by omega)) (jr_of rfl (by omega)) (by omega) qu3 qu2 (by omega) J Sm)
set_option maxRecDepth 100000 in
set_option maxHeartbeats 4000000 in
theorem ct_X2_readSum_r95_c1_47 {Dy : jH → Prop} {h0 : jH} {Q : Option Value → jH → Prop} {R4 : Int} {R17 : Int} (hD : jDk Dy) (hQ : ∀ (v : Int32) hx9, 0 ≤ v.toInt ∧ v.toInt ≤ 1 → jJ jSgX Dy hx9 → jSm fp_X2_readSum_r95_c1 h0 hx9 → ∀ u0 u1 : Int32, jiv hx9 68 5 = u0 → jiv hx9 68 3 = u1 → (u0.toInt ≠ 3 ∨ u1.toInt ≤ 399) → Q (some (.int v)) hx9) (k4 : ∀ (l2 : Int32) (l3 : Int32) (g0 : Int32) (g1 : Int32) (h : jH), 400 - l3.toInt < R4 → (-1) ≤ l2.toInt ∧ l2.toInt ≤ 4 → 0 ≤ l3.toInt ∧ l3.toInt ≤ 400 → 0 ≤ g0.toInt ∧ g0.toInt ≤ 400 → 0 ≤ g1.toInt ∧ g1.toInt ≤ 3 → (g1.toInt ≠ 3 ∨ g0.toInt ≤ 399) → jiv h 68 3 = g0 → jiv h 68 5 = g1 → jJ jSgX Dy h → jSm fp_X2_readSum_r95_c1 h0 h → jX m_X2_readSum 20 0 0 4 [(0, .ref 95), (1, .int 1), (2, .int l2), (3, .int l3)] [] h 0 0 Q) (k17 : ∀ (l2 : Int32) (l3 : Int32) (l4 : Int32) (l5 : Int32) (g0 : Int32) (g1 : Int32) (h : jH), 400 - l5.toInt < R17 → (-1) ≤ l2.toInt ∧ l2.toInt ≤ 4 → 0 ≤ l3.toInt ∧ l3.toInt ≤ 399 → (-1) ≤ l4.toInt ∧ l4.toInt ≤ 6 → 0 ≤ l5.toInt ∧ l5.toInt ≤ 400 → 0 ≤ g0.toInt ∧ g0.toInt ≤ 400 → 0 ≤ g1.toInt ∧ g1.toInt ≤ 3 → (g1.toInt ≠ 3 ∨ g0.toInt ≤ 399) → jiv h 68 3 = g0 → jiv h 68 5 = g1 → 400 - l3.toInt ≤ R4 → jJ jSgX Dy h → jSm fp_X2_readSum_r95_c1 h0 h → jX m_X2_readSum 20 0 0 17 [(0, .ref 95), (1, .int 1), (2, .int l2), (3, .int l3), (4, .int l4), (5, .int l5)] [] h 0 0 Q) : ∀ (l2 : Int32) (l3 : Int32) (l5 : Int32) (g0 : Int32) (g1 : Int32) (h : jH), (-1) ≤ l2.toInt ∧ l2.toInt ≤ 4 → 0 ≤ l3.toInt ∧ l3.toInt ≤ 399 → 0 ≤ l5.toInt ∧ l5.toInt ≤ 399 → 0 ≤ g0.toInt ∧ g0.toInt ≤ 400 → 0 ≤ g1.toInt ∧ g1.toInt ≤ 3 → (g1.toInt ≠ 3 ∨ g0.toInt ≤ 399) → jiv h 68 3 = g0 → jiv h 68 5 = g1 → 400 - l3.toInt ≤ R4 → 400 - l5.toInt ≤ R17 → jJ jSgX Dy h → jSm fp_X2_readSum_r95_c1 h0 h → jX m_X2_readSum 20 0 0 47 [(0, .ref 95), (1, .int 1), (2, .int l2), (3, .int l3), (5, .int l5)] [] h 0 0 Q := by
  intro l2 l3 l5 g0 g1 h y0 y1 y2 y3 y4 y5 z0 z1 m4 m17 J Sm
  refine x_aloadn (x := 95) rfl rfl ?_
  refine z_getR (N := 6) (b := 68) 2 0 rfl f_2_30 rfl J rfl 12160 ⟨rfl, rfl⟩ rfl ?_
  refine x_bipush (v := 42) rfl kb_42 ?_
  refine x_inv (N := m_X9_isSign) (As := [.int 42]) (b := 68) (st := []) (dx9 := 1) (mc := 0) (ms := 0) (host := "") 9 rfl t_X9_isSign ⟨Or.inl q_2_55, i_X9_isSign.1, i_X9_isSign.2⟩ ⟨by decide, rfl⟩ (congrArg Prod.fst (J.1.1 68 (9, 6) rfl)) rfl (by decide) rfl rfl ⟨by decide, by decide⟩ (sf_X9_isSign_r68 (jr_of jk_42 (by omega)) hD J z1 z0 (by omega)  (fun v4 h ev4 J S1 u2 u3 qu2 qu3 ru2 => ?_))
  have Sm := jSm_tr rfl Sm S1
  have eu2 := (show 0 ≤ u2.toInt ∧ u2.toInt ≤ 3 from qu2 ▸ jrg_f J sg_68_5_6_1_0_1)
  have eu3 := (show 0 ≤ u3.toInt ∧ u3.toInt ≤ 400 from qu3 ▸ jrg_f J sg_68_3_4_1_0_1)
  show jX m_X2_readSum 20 0 0 56 [(0, .ref 95), (1, .int 1), (2, .int l2), (3, .int l3), (5, .int l5)] [.int v4] _ 0 0 _
  refine x_ifeq (tgt := 63) rfl rfl (ti_eq rfl jk_0 ⟨fun c5 => ?_, fun c5 => ?_⟩)
  ·
    refine x_aloadn (x := 95) rfl rfl ?_
    refine z_getR (N := 6) (b := 68) 2 0 rfl f_2_30 rfl J rfl 12160 ⟨rfl, rfl⟩ rfl ?_
    refine x_bipush (v := 47) rfl kb_47 ?_
    refine x_inv (N := m_X9_isSign) (As := [.int 47]) (b := 68) (st := []) (dx9 := 1) (mc := 0) (ms := 0) (host := "") 9 rfl t_X9_isSign ⟨Or.inl q_2_55, i_X9_isSign.1, i_X9_isSign.2⟩ ⟨by decide, rfl⟩ (congrArg Prod.fst (J.1.1 68 (9, 6) rfl)) rfl (by decide) rfl rfl ⟨by decide, by decide⟩ (sf_X9_isSign_r68 (jr_of jk_47 (by omega)) hD J qu2 qu3 (by omega)  (fun v9 h ev9 J S6 u7 u8 qu7 qu8 ru7 => ?_))
    have Sm := jSm_tr rfl Sm S6
    have eu7 := (show 0 ≤ u7.toInt ∧ u7.toInt ≤ 3 from qu7 ▸ jrg_f J sg_68_5_6_1_0_1)
    have eu8 := (show 0 ≤ u8.toInt ∧ u8.toInt ≤ 400 from qu8 ▸ jrg_f J sg_68_3_4_1_0_1)
    show jX m_X2_readSum 20 0 0 72 [(0, .ref 95), (1, .int 1), (2, .int l2), (3, .int l3), (5, .int l5)] [.int v9] _ 0 0 _
    refine x_ifeq (tgt := 80) rfl rfl (ti_eq rfl jk_0 ⟨fun c10 => ?_, fun c10 => ?_⟩)
    ·
      refine x_iconst (v := (-1)) rfl ki_m1 ?_
      exact jX.sub (jsb_c rfl (jsb_c rfl (jsb_c rfl (jsb_c rfl (jsb_c rfl jsb_n))))) (ct_X2_readSum_r95_c1_100081 hD hQ k4 k17 l2 l3 l5 u8 u7 h (jr_of rfl (by omega)) (jr_of rfl (by omega)) (jr_of rfl (by omega)) (jr_of rfl (by omega)) (jr_of rfl (by omega)) (by omega) qu8 qu7 (by omega) (by omega) J Sm)
    ·
      refine x_bipush (v := 6) rfl kb_6 ?_
      refine x_goto (tgt := 81) rfl rfl ?_
      exact jX.sub (jsb_c rfl (jsb_c rfl (jsb_c rfl (jsb_c rfl (jsb_c rfl jsb_n))))) (ct_X2_readSum_r95_c1_800081 hD hQ k4 k17 l2 l3 l5 u8 u7 h (jr_of rfl (by omega)) (jr_of rfl (by omega)) (jr_of rfl (by omega)) (jr_of rfl (by omega)) (jr_of rfl (by omega)) (by omega) qu8 qu7 (by omega) (by omega) J Sm)
  ·
    refine x_iconst (v := 5) rfl ki_5 ?_
    refine x_goto (tgt := 81) rfl rfl ?_
    exact jX.sub (jsb_c rfl (jsb_c rfl (jsb_c rfl (jsb_c rfl (jsb_c rfl jsb_n))))) (ct_X2_readSum_r95_c1_700081 hD hQ k4 k17 l2 l3 l5 u3 u2 h (jr_of rfl (by omega)) (jr_of rfl (by omega)) (jr_of rfl (by omega)) (jr_of rfl (by omega)) (jr_of rfl (by omega)) (by omega) qu3 qu2 (by omega) (by omega) J Sm)
set_option maxRecDepth 100000 in
set_option maxHeartbeats 4000000 in
theorem ct_X2_readSum_r95_c1_17 {Dy : jH → Prop} {h0 : jH} {Q : Option Value → jH → Prop} {R4 : Int} (hD : jDk Dy) (hQ : ∀ (v : Int32) hx9, 0 ≤ v.toInt ∧ v.toInt ≤ 1 → jJ jSgX Dy hx9 → jSm fp_X2_readSum_r95_c1 h0 hx9 → ∀ u0 u1 : Int32, jiv hx9 68 5 = u0 → jiv hx9 68 3 = u1 → (u0.toInt ≠ 3 ∨ u1.toInt ≤ 399) → Q (some (.int v)) hx9) (k4 : ∀ (l2 : Int32) (l3 : Int32) (g0 : Int32) (g1 : Int32) (h : jH), 400 - l3.toInt < R4 → (-1) ≤ l2.toInt ∧ l2.toInt ≤ 4 → 0 ≤ l3.toInt ∧ l3.toInt ≤ 400 → 0 ≤ g0.toInt ∧ g0.toInt ≤ 400 → 0 ≤ g1.toInt ∧ g1.toInt ≤ 3 → (g1.toInt ≠ 3 ∨ g0.toInt ≤ 399) → jiv h 68 3 = g0 → jiv h 68 5 = g1 → jJ jSgX Dy h → jSm fp_X2_readSum_r95_c1 h0 h → jX m_X2_readSum 20 0 0 4 [(0, .ref 95), (1, .int 1), (2, .int l2), (3, .int l3)] [] h 0 0 Q) : ∀ r : Nat, ∀ (l2 : Int32) (l3 : Int32) (l4 : Int32) (l5 : Int32) (g0 : Int32) (g1 : Int32) (h : jH), 400 - l5.toInt < (r : Int) → (-1) ≤ l2.toInt ∧ l2.toInt ≤ 4 → 0 ≤ l3.toInt ∧ l3.toInt ≤ 399 → (-1) ≤ l4.toInt ∧ l4.toInt ≤ 6 → 0 ≤ l5.toInt ∧ l5.toInt ≤ 400 → 0 ≤ g0.toInt ∧ g0.toInt ≤ 400 → 0 ≤ g1.toInt ∧ g1.toInt ≤ 3 → (g1.toInt ≠ 3 ∨ g0.toInt ≤ 399) → jiv h 68 3 = g0 → jiv h 68 5 = g1 → 400 - l3.toInt ≤ R4 → jJ jSgX Dy h → jSm fp_X2_readSum_r95_c1 h0 h → jX m_X2_readSum 20 0 0 17 [(0, .ref 95), (1, .int 1), (2, .int l2), (3, .int l3), (4, .int l4), (5, .int l5)] [] h 0 0 Q := by
  intro r
  induction r with
  | zero =>
    intro l2 l3 l4 l5 g0 g1 h hm y0 y1 y2 y3 y4 y5 y6 z0 z1 m4 J Sm
    exfalso
    omega
  | succ r ih =>
    intro l2 l3 l4 l5 g0 g1 h hm y0 y1 y2 y3 y4 y5 y6 z0 z1 m4 J Sm
    refine x_iload (x := l5) rfl rfl ?_
    refine x_sipush (v := 400) rfl ks_400 ?_
    refine x_icge (tgt := 105) rfl rfl (ti_ge rfl jk_400 ⟨fun c1 => ?_, fun c1 => ?_⟩)
    ·
      exact jX.sub (jsb_c rfl (jsb_c rfl (jsb_c rfl (jsb_c rfl jsb_n)))) (ct_X2_readSum_r95_c1_105 hD hQ k4 l2 l3 g0 g1 h (jr_of rfl (by omega)) (jr_of rfl (by omega)) (jr_of rfl (by omega)) (jr_of rfl (by omega)) (by omega) z0 z1 (by omega) J Sm)
    ·
      refine x_aloadn (x := 95) rfl rfl ?_
      refine x_iloadn (x := 1) rfl rfl ?_
      refine x_inv (N := m_X2_readFactor) (As := [.int 1]) (b := 95) (st := []) (dx9 := 19) (mc := 0) (ms := 0) (host := "") 2 rfl t_X2_readFactor ⟨Or.inl q_2_144, i_X2_readFactor.1, i_X2_readFactor.2⟩ ⟨by decide, rfl⟩ (congrArg Prod.fst (J.1.1 95 (2, 6) rfl)) rfl (by decide) rfl rfl ⟨by decide, by decide⟩ (sf_X2_readFactor_r95_c1  hD J z1 z0 (by omega)  (fun v5 h ev5 J S2 u3 u4 qu3 qu4 ru3 => ?_))
      have Sm := jSm_tr rfl Sm S2
      have eu3 := (show 0 ≤ u3.toInt ∧ u3.toInt ≤ 3 from qu3 ▸ jrg_f J sg_68_5_6_1_0_1)
      have eu4 := (show 0 ≤ u4.toInt ∧ u4.toInt ≤ 400 from qu4 ▸ jrg_f J sg_68_3_4_1_0_1)
      show jX m_X2_readSum 20 0 0 30 [(0, .ref 95), (1, .int 1), (2, .int l2), (3, .int l3), (4, .int l4), (5, .int l5)] [.int v5] _ 0 0 _
      refine x_ifne (tgt := 35) rfl rfl (ti_ne rfl jk_0 ⟨fun c6 => ?_, fun c6 => ?_⟩)
      ·
        refine x_iload (x := l4) rfl rfl ?_
        refine x_iconst (v := (-1)) rfl ki_m1 ?_
        refine x_iceq (tgt := 47) rfl rfl (ti_eq rfl jk_m1 ⟨fun c7 => ?_, fun c7 => ?_⟩)
        ·
          exact jX.sub (jsb_c rfl (jsb_c rfl (jsb_c rfl (jsb_c rfl (jsb_c rfl jsb_n))))) (ct_X2_readSum_r95_c1_47 hD hQ k4 ih l2 l3 l5 u4 u3 h (jr_of rfl (by omega)) (jr_of rfl (by omega)) (jr_of rfl (by omega)) (jr_of rfl (by omega)) (jr_of rfl (by omega)) (by omega) qu4 qu3 (by omega) (by omega) J Sm)
        ·
          refine x_aloadn (x := 95) rfl rfl ?_
          refine x_iload (x := l4) rfl rfl ?_
          refine x_inv (N := m_X2_emit) (As := [.int l4]) (b := 95) (st := []) (dx9 := 1) (mc := 0) (ms := 0) (host := "") 2 rfl t_X2_emit ⟨Or.inl q_2_89, i_X2_emit.1, i_X2_emit.2⟩ ⟨by decide, rfl⟩ (congrArg Prod.fst (J.1.1 95 (2, 6) rfl)) rfl (by decide) rfl rfl ⟨by decide, by decide⟩ (sf_X2_emit_r95  hD J  (fun h J S8 => ?_))
          have Sm := jSm_tr rfl Sm S8
          show jX m_X2_readSum 20 0 0 47 [(0, .ref 95), (1, .int 1), (2, .int l2), (3, .int l3), (4, .int l4), (5, .int l5)] [] _ 0 0 _
          exact jX.sub (jsb_c rfl (jsb_c rfl (jsb_c rfl (jsb_c rfl (jsb_c rfl jsb_n))))) (ct_X2_readSum_r95_c1_47 hD hQ k4 ih l2 l3 l5 u4 u3 h (jr_of rfl (by omega)) (jr_of rfl (by omega)) (jr_of rfl (by omega)) (jr_of rfl (by omega)) (jr_of rfl (by omega)) (by omega) (jmc S8 rfl qu4) (jmc S8 rfl qu3) (by omega) (by omega) J Sm)
      ·
        refine x_iconst (v := 0) rfl ki_0 ?_
        refine x_zret rfl rfl (by decide) ?_
        exact hQ _ _ (jr_of jk_0 (by omega)) J Sm _ _ qu3 qu4 (by omega)
set_option maxRecDepth 100000 in
set_option maxHeartbeats 4000000 in
theorem ct_X2_readSum_r95_c1_4 {Dy : jH → Prop} {h0 : jH} {Q : Option Value → jH → Prop} (hD : jDk Dy) (hQ : ∀ (v : Int32) hx9, 0 ≤ v.toInt ∧ v.toInt ≤ 1 → jJ jSgX Dy hx9 → jSm fp_X2_readSum_r95_c1 h0 hx9 → ∀ u0 u1 : Int32, jiv hx9 68 5 = u0 → jiv hx9 68 3 = u1 → (u0.toInt ≠ 3 ∨ u1.toInt ≤ 399) → Q (some (.int v)) hx9) : ∀ r : Nat, ∀ (l2 : Int32) (l3 : Int32) (g0 : Int32) (g1 : Int32) (h : jH), 400 - l3.toInt < (r : Int) → (-1) ≤ l2.toInt ∧ l2.toInt ≤ 4 → 0 ≤ l3.toInt ∧ l3.toInt ≤ 400 → 0 ≤ g0.toInt ∧ g0.toInt ≤ 400 → 0 ≤ g1.toInt ∧ g1.toInt ≤ 3 → (g1.toInt ≠ 3 ∨ g0.toInt ≤ 399) → jiv h 68 3 = g0 → jiv h 68 5 = g1 → jJ jSgX Dy h → jSm fp_X2_readSum_r95_c1 h0 h → jX m_X2_readSum 20 0 0 4 [(0, .ref 95), (1, .int 1), (2, .int l2), (3, .int l3)] [] h 0 0 Q := by
  intro r
  induction r with
  | zero =>
    intro l2 l3 g0 g1 h hm y0 y1 y2 y3 y4 z0 z1  J Sm
    exfalso
    omega
  | succ r ih =>
    intro l2 l3 g0 g1 h hm y0 y1 y2 y3 y4 z0 z1  J Sm
    refine x_iloadn (x := l3) rfl rfl ?_
    refine x_sipush (v := 400) rfl ks_400 ?_
    refine x_icge (tgt := 169) rfl rfl (ti_ge rfl jk_400 ⟨fun c1 => ?_, fun c1 => ?_⟩)
    ·
      refine x_aloadn (x := 95) rfl rfl ?_
      refine z_getR (N := 6) (b := 68) 2 0 rfl f_2_30 rfl J rfl 12160 ⟨rfl, rfl⟩ rfl ?_
      refine x_inv (N := m_X9_blame) (As := []) (b := 68) (st := []) (dx9 := 19) (mc := 0) (ms := 0) (host := "") 9 rfl t_X9_blame ⟨Or.inl q_2_59, i_X9_blame.1, i_X9_blame.2⟩ ⟨by decide, rfl⟩ (congrArg Prod.fst (J.1.1 68 (9, 6) rfl)) rfl (by decide) rfl rfl ⟨by decide, by decide⟩ (jC.of rfl k_X9_blame rfl ?_)
      show jX m_X9_blame 19 0 0 0 [(0, .ref 68)] [] _ 0 0 _
      refine x_aloadn (x := 68) rfl rfl ?_
      refine x_aloadn (x := 68) rfl rfl ?_
      refine z_getM (N := 6) (v := g0) 9 3 rfl f_9_22 rfl J rfl z0 ?_
      refine z_putI (N := 6) (w := g0.toInt) 9 2 rfl f_9_19 rfl (jfin_no TX9 RX9 6 rfl rfl) hD J Sm rfl rfl rfl (pw_68_2 (by omega)) rfl (fun h w2 J Sm => ?_)
      refine x_iconst (v := 0) rfl ki_0 ?_
      refine x_zret rfl rfl (by decide) ?_
      show jX m_X2_readSum 20 0 0 176 [(0, .ref 95), (1, .int 1), (2, .int l2), (3, .int l3)] [.int 0] _ 0 0 _
      refine x_zret rfl rfl (by decide) ?_
      exact hQ _ _ (jr_of jk_0 (by omega)) J Sm _ _ (jmo w2 rfl z1) (jmo w2 rfl z0) (by omega)
    ·
      refine x_iconst (v := (-1)) rfl ki_m1 ?_
      refine x_istore (lsx9 := [(4, .int (-1)), (0, .ref 95), (1, .int 1), (2, .int l2), (3, .int l3)]) rfl rfl rfl ?_
      refine x_iconst (v := 0) rfl ki_0 ?_
      refine x_istore (lsx9 := [(5, .int 0), (4, .int (-1)), (0, .ref 95), (1, .int 1), (2, .int l2), (3, .int l3)]) rfl rfl rfl ?_
      exact jX.sub (jsb_c rfl (jsb_c rfl (jsb_c rfl (jsb_c rfl (jsb_c rfl (jsb_c rfl jsb_n)))))) (ct_X2_readSum_r95_c1_17 hD hQ ih 401 l2 l3 (-1) 0 g0 g1 h (by have := jk_0; omega) (jr_of rfl (by omega)) (jr_of rfl (by omega)) (jr_of jk_m1 (by omega)) (jr_of jk_0 (by omega)) (jr_of rfl (by omega)) (jr_of rfl (by omega)) (by omega) z0 z1 (by omega) J Sm)
set_option maxRecDepth 100000 in
set_option maxHeartbeats 4000000 in
theorem sf_X2_readSum_r95_c1 {Dy : jH → Prop} {h : jH} {Q : Option Value → jH → Prop} (hD : jDk Dy) (J : jJ jSgX Dy h) {p0 p1 : Int32} (zp0 : jiv h 68 5 = p0) (zp1 : jiv h 68 3 = p1) (rl_p0 : (p0.toInt ≠ 3 ∨ p1.toInt ≤ 399)) (hQ : ∀ (v : Int32) hx9, 0 ≤ v.toInt ∧ v.toInt ≤ 1 → jJ jSgX Dy hx9 → jSm fp_X2_readSum_r95_c1 h hx9 → ∀ u0 u1 : Int32, jiv hx9 68 5 = u0 → jiv hx9 68 3 = u1 → (u0.toInt ≠ 3 ∨ u1.toInt ≤ 399) → Q (some (.int v)) hx9) : jC m_X2_readSum 20 0 0 [.ref 95, .int 1] h Q := by
  refine jC.of rfl k_X2_readSum rfl ?_
  have Sm := jSm_rf fp_X2_readSum_r95_c1 h
  have ep0 := (show 0 ≤ p0.toInt ∧ p0.toInt ≤ 3 from zp0 ▸ jrg_f J sg_68_5_6_1_0_1)
  have ep1 := (show 0 ≤ p1.toInt ∧ p1.toInt ≤ 400 from zp1 ▸ jrg_f J sg_68_3_4_1_0_1)
  show jX m_X2_readSum 20 0 0 0 [(0, .ref 95), (1, .int 1)] [] _ 0 0 _
  refine x_iconst (v := (-1)) rfl ki_m1 ?_
  refine x_istoren (lsx9 := [(2, .int (-1)), (0, .ref 95), (1, .int 1)]) rfl rfl rfl ?_
  refine x_iconst (v := 0) rfl ki_0 ?_
  refine x_istoren (lsx9 := [(3, .int 0), (2, .int (-1)), (0, .ref 95), (1, .int 1)]) rfl rfl rfl ?_
  exact jX.sub (jsb_c rfl (jsb_c rfl (jsb_c rfl (jsb_c rfl jsb_n)))) (ct_X2_readSum_r95_c1_4 hD hQ  401 (-1) 0 p1 p0 h (by have := jk_0; omega) (jr_of jk_m1 (by omega)) (jr_of jk_0 (by omega)) (jr_of rfl (by omega)) (jr_of rfl (by omega)) (by omega) zp1 zp0 J Sm)
def fp_X2_readFactor_r95_c0 : jFp := [(68, 2, 3), (68, 3, 4), (68, 4, 5), (68, 5, 6), (95, 4, 5), (95, 5, 6), (97, 0, 1200)]
set_option maxRecDepth 100000 in
set_option maxHeartbeats 4000000 in
theorem ct_X2_readFactor_r95_c0_111 {Dy : jH → Prop} {h0 : jH} {Q : Option Value → jH → Prop} (hD : jDk Dy) (hQ : ∀ (v : Int32) hx9, 0 ≤ v.toInt ∧ v.toInt ≤ 1 → jJ jSgX Dy hx9 → jSm fp_X2_readFactor_r95_c0 h0 hx9 → ∀ u0 u1 : Int32, jiv hx9 68 5 = u0 → jiv hx9 68 3 = u1 → (u0.toInt ≠ 3 ∨ u1.toInt ≤ 399) → Q (some (.int v)) hx9) : ∀ (s0 : Int32) (g0 : Int32) (g1 : Int32) (h : jH), 0 ≤ s0.toInt ∧ s0.toInt ≤ 1 → 0 ≤ g0.toInt ∧ g0.toInt ≤ 400 → 0 ≤ g1.toInt ∧ g1.toInt ≤ 3 → (g1.toInt ≠ 3 ∨ g0.toInt ≤ 399) → jiv h 68 3 = g0 → jiv h 68 5 = g1 → jJ jSgX Dy h → jSm fp_X2_readFactor_r95_c0 h0 h → jX m_X2_readFactor 21 0 0 111 [] [.int s0] h 0 0 Q := by
  intro s0 g0 g1 h y0 y1 y2 y3 z0 z1  J Sm
  refine x_zret rfl rfl (jz01 (by omega)) ?_
  exact hQ _ _ (jr_of rfl (by omega)) J Sm _ _ z1 z0 (by omega)
set_option maxRecDepth 100000 in
set_option maxHeartbeats 4000000 in
theorem ct_X2_readFactor_r95_c0_200111 {Dy : jH → Prop} {h0 : jH} {Q : Option Value → jH → Prop} (hD : jDk Dy) (hQ : ∀ (v : Int32) hx9, 0 ≤ v.toInt ∧ v.toInt ≤ 1 → jJ jSgX Dy hx9 → jSm fp_X2_readFactor_r95_c0 h0 hx9 → ∀ u0 u1 : Int32, jiv hx9 68 5 = u0 → jiv hx9 68 3 = u1 → (u0.toInt ≠ 3 ∨ u1.toInt ≤ 399) → Q (some (.int v)) hx9) : ∀ (g0 : Int32) (g1 : Int32) (h : jH), 0 ≤ g0.toInt ∧ g0.toInt ≤ 400 → 0 ≤ g1.toInt ∧ g1.toInt ≤ 3 → (g1.toInt ≠ 3 ∨ g0.toInt ≤ 399) → jiv h 68 3 = g0 → jiv h 68 5 = g1 → jJ jSgX Dy h → jSm fp_X2_readFactor_r95_c0 h0 h → jX m_X2_readFactor 21 0 0 111 [] [.int 0] h 0 0 Q := by
  intro g0 g1 h y0 y1 y2 z0 z1  J Sm
  refine x_zret rfl rfl (by decide) ?_
  exact hQ _ _ (jr_of jk_0 (by omega)) J Sm _ _ z1 z0 (by omega)
set_option maxRecDepth 100000 in
set_option maxHeartbeats 4000000 in
theorem ct_X2_readFactor_r95_c0_300057 {Dy : jH → Prop} {h0 : jH} {Q : Option Value → jH → Prop} (hD : jDk Dy) (hQ : ∀ (v : Int32) hx9, 0 ≤ v.toInt ∧ v.toInt ≤ 1 → jJ jSgX Dy hx9 → jSm fp_X2_readFactor_r95_c0 h0 hx9 → ∀ u0 u1 : Int32, jiv hx9 68 5 = u0 → jiv hx9 68 3 = u1 → (u0.toInt ≠ 3 ∨ u1.toInt ≤ 399) → Q (some (.int v)) hx9) : ∀ (g0 : Int32) (g1 : Int32) (h : jH), 0 ≤ g0.toInt ∧ g0.toInt ≤ 400 → 0 ≤ g1.toInt ∧ g1.toInt ≤ 3 → (g1.toInt ≠ 3 ∨ g0.toInt ≤ 399) → jiv h 68 3 = g0 → jiv h 68 5 = g1 → jJ jSgX Dy h → jSm fp_X2_readFactor_r95_c0 h0 h → jX m_X2_readFactor 21 0 0 57 [] [.int 1] h 0 0 Q := by
  intro g0 g1 h y0 y1 y2 z0 z1  J Sm
  refine x_zret rfl rfl (by decide) ?_
  exact hQ _ _ (jr_of jk_1 (by omega)) J Sm _ _ z1 z0 (by omega)
set_option maxRecDepth 100000 in
set_option maxHeartbeats 4000000 in
theorem ct_X2_readFactor_r95_c0_200057 {Dy : jH → Prop} {h0 : jH} {Q : Option Value → jH → Prop} (hD : jDk Dy) (hQ : ∀ (v : Int32) hx9, 0 ≤ v.toInt ∧ v.toInt ≤ 1 → jJ jSgX Dy hx9 → jSm fp_X2_readFactor_r95_c0 h0 hx9 → ∀ u0 u1 : Int32, jiv hx9 68 5 = u0 → jiv hx9 68 3 = u1 → (u0.toInt ≠ 3 ∨ u1.toInt ≤ 399) → Q (some (.int v)) hx9) : ∀ (g0 : Int32) (g1 : Int32) (h : jH), 0 ≤ g0.toInt ∧ g0.toInt ≤ 400 → 0 ≤ g1.toInt ∧ g1.toInt ≤ 3 → (g1.toInt ≠ 3 ∨ g0.toInt ≤ 399) → jiv h 68 3 = g0 → jiv h 68 5 = g1 → jJ jSgX Dy h → jSm fp_X2_readFactor_r95_c0 h0 h → jX m_X2_readFactor 21 0 0 57 [] [.int 0] h 0 0 Q := by
  intro g0 g1 h y0 y1 y2 z0 z1  J Sm
  refine x_zret rfl rfl (by decide) ?_
  exact hQ _ _ (jr_of jk_0 (by omega)) J Sm _ _ z1 z0 (by omega)
set_option maxRecDepth 100000 in
set_option maxHeartbeats 4000000 in
theorem ct_X2_readFactor_r95_c0_56 {Dy : jH → Prop} {h0 : jH} {Q : Option Value → jH → Prop} (hD : jDk Dy) (hQ : ∀ (v : Int32) hx9, 0 ≤ v.toInt ∧ v.toInt ≤ 1 → jJ jSgX Dy hx9 → jSm fp_X2_readFactor_r95_c0 h0 hx9 → ∀ u0 u1 : Int32, jiv hx9 68 5 = u0 → jiv hx9 68 3 = u1 → (u0.toInt ≠ 3 ∨ u1.toInt ≤ 399) → Q (some (.int v)) hx9) : ∀ (g0 : Int32) (g1 : Int32) (h : jH), 0 ≤ g0.toInt ∧ g0.toInt ≤ 400 → 0 ≤ g1.toInt ∧ g1.toInt ≤ 3 → (g1.toInt ≠ 3 ∨ g0.toInt ≤ 399) → jiv h 68 3 = g0 → jiv h 68 5 = g1 → jJ jSgX Dy h → jSm fp_X2_readFactor_r95_c0 h0 h → jX m_X2_readFactor 21 0 0 56 [] [] h 0 0 Q := by
  intro g0 g1 h y0 y1 y2 z0 z1  J Sm
  refine x_iconst (v := 0) rfl ki_0 ?_
  exact jX.sub jsb_n (ct_X2_readFactor_r95_c0_200057 hD hQ  g0 g1 h (jr_of rfl (by omega)) (jr_of rfl (by omega)) (by omega) z0 z1 J Sm)
set_option maxRecDepth 100000 in
set_option maxHeartbeats 4000000 in
theorem sf_X2_readFactor_r95_c0 {Dy : jH → Prop} {h : jH} {Q : Option Value → jH → Prop} (hD : jDk Dy) (J : jJ jSgX Dy h) {p0 p1 : Int32} (zp0 : jiv h 68 5 = p0) (zp1 : jiv h 68 3 = p1) (rl_p0 : (p0.toInt ≠ 3 ∨ p1.toInt ≤ 399)) (hQ : ∀ (v : Int32) hx9, 0 ≤ v.toInt ∧ v.toInt ≤ 1 → jJ jSgX Dy hx9 → jSm fp_X2_readFactor_r95_c0 h hx9 → ∀ u0 u1 : Int32, jiv hx9 68 5 = u0 → jiv hx9 68 3 = u1 → (u0.toInt ≠ 3 ∨ u1.toInt ≤ 399) → Q (some (.int v)) hx9) : jC m_X2_readFactor 21 0 0 [.ref 95, .int 0] h Q := by
  refine jC.of rfl k_X2_readFactor rfl ?_
  have Sm := jSm_rf fp_X2_readFactor_r95_c0 h
  have ep0 := (show 0 ≤ p0.toInt ∧ p0.toInt ≤ 3 from zp0 ▸ jrg_f J sg_68_5_6_1_0_1)
  have ep1 := (show 0 ≤ p1.toInt ∧ p1.toInt ≤ 400 from zp1 ▸ jrg_f J sg_68_3_4_1_0_1)
  show jX m_X2_readFactor 21 0 0 0 [(0, .ref 95), (1, .int 0)] [] _ 0 0 _
  refine x_aloadn (x := 95) rfl rfl ?_
  refine z_getR (N := 6) (b := 68) 2 0 rfl f_2_30 rfl J rfl 12160 ⟨rfl, rfl⟩ rfl ?_
  refine x_bipush (v := 91) rfl kb_91 ?_
  refine x_inv (N := m_X9_isSign) (As := [.int 91]) (b := 68) (st := []) (dx9 := 1) (mc := 0) (ms := 0) (host := "") 9 rfl t_X9_isSign ⟨Or.inl q_2_55, i_X9_isSign.1, i_X9_isSign.2⟩ ⟨by decide, rfl⟩ (congrArg Prod.fst (J.1.1 68 (9, 6) rfl)) rfl (by decide) rfl rfl ⟨by decide, by decide⟩ (sf_X9_isSign_r68 (jr_of jk_91 (by omega)) hD J zp0 zp1 (by omega)  (fun v4 h ev4 J S1 u2 u3 qu2 qu3 ru2 => ?_))
  have Sm := jSm_tr rfl Sm S1
  have eu2 := (show 0 ≤ u2.toInt ∧ u2.toInt ≤ 3 from qu2 ▸ jrg_f J sg_68_5_6_1_0_1)
  have eu3 := (show 0 ≤ u3.toInt ∧ u3.toInt ≤ 400 from qu3 ▸ jrg_f J sg_68_3_4_1_0_1)
  show jX m_X2_readFactor 21 0 0 9 [(0, .ref 95), (1, .int 0)] [.int v4] _ 0 0 _
  refine x_ifeq (tgt := 58) rfl rfl (ti_eq rfl jk_0 ⟨fun c5 => ?_, fun c5 => ?_⟩)
  ·
    refine x_aloadn (x := 95) rfl rfl ?_
    refine z_getR (N := 6) (b := 68) 2 0 rfl f_2_30 rfl J rfl 12160 ⟨rfl, rfl⟩ rfl ?_
    refine x_ldc (v := 100000) rfl z_2_147 ?_
    refine x_inv (N := m_X9_numberTo) (As := [.int 100000]) (b := 68) (st := []) (dx9 := 1) (mc := 0) (ms := 0) (host := "") 9 rfl t_X9_numberTo ⟨Or.inl q_2_117, i_X9_numberTo.1, i_X9_numberTo.2⟩ ⟨by decide, rfl⟩ (congrArg Prod.fst (J.1.1 68 (9, 6) rfl)) rfl (by decide) rfl rfl ⟨by decide, by decide⟩ (sf_X9_numberTo_r68 (jr_of jk_100000 (by omega)) hD J  (fun v7 h ev7 J S6 => ?_))
    have Sm := jSm_tr rfl Sm S6
    show jX m_X2_readFactor 21 0 0 67 [(0, .ref 95), (1, .int 0)] [.int v7] _ 0 0 _
    refine x_istoren (lsx9 := [(2, .int v7), (0, .ref 95), (1, .int 0)]) rfl rfl rfl ?_
    refine x_iloadn (x := v7) rfl rfl ?_
    refine x_iconst (v := (-1)) rfl ki_m1 ?_
    refine x_iceq (tgt := 80) rfl rfl (ti_eq rfl jk_m1 ⟨fun c8 => ?_, fun c8 => ?_⟩)
    ·
      refine x_aloadn (x := 95) rfl rfl ?_
      refine z_getR (N := 6) (b := 68) 2 0 rfl f_2_30 rfl J rfl 12160 ⟨rfl, rfl⟩ rfl ?_
      refine x_ldcS (jstr.getD 6 jstr_0) rfl (List.mem_of_getElem? (i := 6) rfl) rfl rfl ?_
      show jX m_X2_readFactor 21 0 0 86 [(2, .int v7), (0, .ref 95), (1, .int 0)] [.ref 11, .ref 68] _ 0 0 _
      refine x_inv (N := m_X9_wordOf) (As := [.ref 11]) (b := 68) (st := []) (dx9 := 4) (mc := 0) (ms := 0) (host := "") 9 rfl t_X9_wordOf ⟨Or.inl q_2_67, i_X9_wordOf.1, i_X9_wordOf.2⟩ ⟨by decide, rfl⟩ (congrArg Prod.fst (J.1.1 68 (9, 6) rfl)) rfl (by decide) rfl rfl ⟨by decide, by decide⟩ (sf_X9_wordOf_r68_r11  hD J  (fun v10 h J S9 => ?_))
      have ev10 := jfull v10
      have Sm := jSm_tr rfl Sm S9
      show jX m_X2_readFactor 21 0 0 89 [(2, .int v7), (0, .ref 95), (1, .int 0)] [.int v10] _ 0 0 _
      refine x_istoren (lsx9 := [(3, .int v10), (2, .int v7), (0, .ref 95), (1, .int 0)]) rfl rfl rfl ?_
      refine x_iloadn (x := v10) rfl rfl ?_
      refine x_iconst (v := (-1)) rfl ki_m1 ?_
      refine x_icne (tgt := 105) rfl rfl (ti_ne rfl jk_m1 ⟨fun c11 => ?_, fun c11 => ?_⟩)
      ·
        refine x_aloadn (x := 95) rfl rfl ?_
        refine x_iconst (v := 2) rfl ki_2 ?_
        refine x_iloadn (x := v10) rfl rfl ?_
        refine x_inv (N := m_X2_readPart) (As := [.int 2, .int v10]) (b := 95) (st := []) (dx9 := 3) (mc := 0) (ms := 0) (host := "") 2 rfl t_X2_readPart ⟨Or.inl q_2_141, i_X2_readPart.1, i_X2_readPart.2⟩ ⟨by decide, rfl⟩ (congrArg Prod.fst (J.1.1 95 (2, 6) rfl)) rfl (by decide) rfl rfl ⟨by decide, by decide⟩ (sf_X2_readPart_r95 (jr_of jk_2 (by omega)) hD J (jmc S9 rfl (jmc S6 rfl qu2)) (jmc S9 rfl (jmc S6 rfl qu3)) (by omega)  (fun v15 h ev15 J S12 u13 u14 qu13 qu14 ru13 => ?_))
        have Sm := jSm_tr rfl Sm S12
        have eu13 := (show 0 ≤ u13.toInt ∧ u13.toInt ≤ 3 from qu13 ▸ jrg_f J sg_68_5_6_1_0_1)
        have eu14 := (show 0 ≤ u14.toInt ∧ u14.toInt ≤ 400 from qu14 ▸ jrg_f J sg_68_3_4_1_0_1)
        show jX m_X2_readFactor 21 0 0 111 [(3, .int v10), (2, .int v7), (0, .ref 95), (1, .int 0)] [.int v15] _ 0 0 _
        exact jX.sub jsb_n (ct_X2_readFactor_r95_c0_111 hD hQ  v15 u14 u13 h (jr_of rfl (by omega)) (jr_of rfl (by omega)) (jr_of rfl (by omega)) (by omega) qu14 qu13 J Sm)
      ·
        refine x_aloadn (x := 95) rfl rfl ?_
        refine z_getR (N := 6) (b := 68) 2 0 rfl f_2_30 rfl J rfl 12160 ⟨rfl, rfl⟩ rfl ?_
        refine x_inv (N := m_X9_blame) (As := []) (b := 68) (st := []) (dx9 := 20) (mc := 0) (ms := 0) (host := "") 9 rfl t_X9_blame ⟨Or.inl q_2_59, i_X9_blame.1, i_X9_blame.2⟩ ⟨by decide, rfl⟩ (congrArg Prod.fst (J.1.1 68 (9, 6) rfl)) rfl (by decide) rfl rfl ⟨by decide, by decide⟩ (jC.of rfl k_X9_blame rfl ?_)
        show jX m_X9_blame 20 0 0 0 [(0, .ref 68)] [] _ 0 0 _
        refine x_aloadn (x := 68) rfl rfl ?_
        refine x_aloadn (x := 68) rfl rfl ?_
        refine z_getM (N := 6) (v := u3) 9 3 rfl f_9_22 rfl J rfl (jmc S9 rfl (jmc S6 rfl qu3)) ?_
        refine z_putI (N := 6) (w := u3.toInt) 9 2 rfl f_9_19 rfl (jfin_no TX9 RX9 6 rfl rfl) hD J Sm rfl rfl rfl (pw_68_2 (by omega)) rfl (fun h w16 J Sm => ?_)
        refine x_iconst (v := 0) rfl ki_0 ?_
        refine x_zret rfl rfl (by decide) ?_
        show jX m_X2_readFactor 21 0 0 102 [(3, .int v10), (2, .int v7), (0, .ref 95), (1, .int 0)] [.int 0] _ 0 0 _
        refine x_goto (tgt := 111) rfl rfl ?_
        exact jX.sub jsb_n (ct_X2_readFactor_r95_c0_200111 hD hQ  u3 u2 h (jr_of rfl (by omega)) (jr_of rfl (by omega)) (by omega) (jmo w16 rfl (jmc S9 rfl (jmc S6 rfl qu3))) (jmo w16 rfl (jmc S9 rfl (jmc S6 rfl qu2))) J Sm)
    ·
      refine x_aloadn (x := 95) rfl rfl ?_
      refine x_iconst (v := 1) rfl ki_1 ?_
      refine x_iloadn (x := v7) rfl rfl ?_
      refine x_inv (N := m_X2_readPart) (As := [.int 1, .int v7]) (b := 95) (st := []) (dx9 := 3) (mc := 0) (ms := 0) (host := "") 2 rfl t_X2_readPart ⟨Or.inl q_2_141, i_X2_readPart.1, i_X2_readPart.2⟩ ⟨by decide, rfl⟩ (congrArg Prod.fst (J.1.1 95 (2, 6) rfl)) rfl (by decide) rfl rfl ⟨by decide, by decide⟩ (sf_X2_readPart_r95 (jr_of jk_1 (by omega)) hD J (jmc S6 rfl qu2) (jmc S6 rfl qu3) (by omega)  (fun v20 h ev20 J S17 u18 u19 qu18 qu19 ru18 => ?_))
      have Sm := jSm_tr rfl Sm S17
      have eu18 := (show 0 ≤ u18.toInt ∧ u18.toInt ≤ 3 from qu18 ▸ jrg_f J sg_68_5_6_1_0_1)
      have eu19 := (show 0 ≤ u19.toInt ∧ u19.toInt ≤ 400 from qu19 ▸ jrg_f J sg_68_3_4_1_0_1)
      show jX m_X2_readFactor 21 0 0 79 [(2, .int v7), (0, .ref 95), (1, .int 0)] [.int v20] _ 0 0 _
      refine x_zret rfl rfl (jz01 (by omega)) ?_
      exact hQ _ _ (jr_of rfl (by omega)) J Sm _ _ qu18 qu19 (by omega)
  ·
    refine x_iloadn (x := 0) rfl rfl ?_
    refine x_bipush (v := 8) rfl kb_8 ?_
    refine x_iclt (tgt := 26) rfl rfl (ti_lt jk_0 jk_8 (br_t (by omega) ?_))
    refine x_aloadn (x := 95) rfl rfl ?_
    refine z_getR (N := 6) (b := 68) 2 0 rfl f_2_30 rfl J rfl 12160 ⟨rfl, rfl⟩ rfl ?_
    refine x_inv (N := m_X9_step) (As := []) (b := 68) (st := []) (dx9 := 2) (mc := 0) (ms := 0) (host := "") 9 rfl t_X9_step ⟨Or.inl q_2_62, i_X9_step.1, i_X9_step.2⟩ ⟨by decide, rfl⟩ (congrArg Prod.fst (J.1.1 68 (9, 6) rfl)) rfl (by decide) rfl rfl ⟨by decide, by decide⟩ (sf_X9_step_r68  hD J qu2 qu3 (by omega)  (fun h J S21 u22 u23 qu22 qu23 ru22 => ?_))
    have Sm := jSm_tr rfl Sm S21
    have eu22 := (show 0 ≤ u22.toInt ∧ u22.toInt ≤ 3 from qu22 ▸ jrg_f J sg_68_5_6_1_0_1)
    have eu23 := (show 0 ≤ u23.toInt ∧ u23.toInt ≤ 400 from qu23 ▸ jrg_f J sg_68_3_4_1_0_1)
    show jX m_X2_readFactor 21 0 0 33 [(0, .ref 95), (1, .int 0)] [] _ 0 0 _
    refine x_aloadn (x := 95) rfl rfl ?_
    refine x_iloadn (x := 0) rfl rfl ?_
    refine x_iconst (v := 1) rfl ki_1 ?_
    refine y_iadd (v := 1) rfl (by decide) ?_
    refine x_inv (N := m_X2_readSum) (As := [.int 1]) (b := 95) (st := []) (dx9 := 20) (mc := 0) (ms := 0) (host := "") 2 rfl t_X2_readSum ⟨Or.inl q_2_86, i_X2_readSum.1, i_X2_readSum.2⟩ ⟨by decide, rfl⟩ (congrArg Prod.fst (J.1.1 95 (2, 6) rfl)) rfl (by decide) rfl rfl ⟨by decide, by decide⟩ (sf_X2_readSum_r95_c1  hD J qu22 qu23 (by omega)  (fun v27 h ev27 J S24 u25 u26 qu25 qu26 ru25 => ?_))
    have Sm := jSm_tr rfl Sm S24
    have eu25 := (show 0 ≤ u25.toInt ∧ u25.toInt ≤ 3 from qu25 ▸ jrg_f J sg_68_5_6_1_0_1)
    have eu26 := (show 0 ≤ u26.toInt ∧ u26.toInt ≤ 400 from qu26 ▸ jrg_f J sg_68_3_4_1_0_1)
    show jX m_X2_readFactor 21 0 0 40 [(0, .ref 95), (1, .int 0)] [.int v27] _ 0 0 _
    refine x_ifeq (tgt := 56) rfl rfl (ti_eq rfl jk_0 ⟨fun c28 => ?_, fun c28 => ?_⟩)
    ·
      exact jX.sub jsb_n (ct_X2_readFactor_r95_c0_56 hD hQ  u26 u25 h (jr_of rfl (by omega)) (jr_of rfl (by omega)) (by omega) qu26 qu25 J Sm)
    ·
      refine x_aloadn (x := 95) rfl rfl ?_
      refine x_bipush (v := 93) rfl kb_93 ?_
      refine x_inv (N := m_X2_readSign) (As := [.int 93]) (b := 95) (st := []) (dx9 := 20) (mc := 0) (ms := 0) (host := "") 2 rfl t_X2_readSign ⟨Or.inl q_2_138, i_X2_readSign.1, i_X2_readSign.2⟩ ⟨by decide, rfl⟩ (congrArg Prod.fst (J.1.1 95 (2, 6) rfl)) rfl (by decide) rfl rfl ⟨by decide, by decide⟩ (jC.of rfl k_X2_readSign rfl ?_)
      show jX m_X2_readSign 20 0 0 0 [(0, .ref 95), (1, .int 93)] [] _ 0 0 _
      refine x_aloadn (x := 95) rfl rfl ?_
      refine z_getR (N := 6) (b := 68) 2 0 rfl f_2_30 rfl J rfl 12160 ⟨rfl, rfl⟩ rfl ?_
      refine x_iloadn (x := 93) rfl rfl ?_
      refine x_inv (N := m_X9_isSign) (As := [.int 93]) (b := 68) (st := []) (dx9 := 1) (mc := 0) (ms := 0) (host := "") 9 rfl t_X9_isSign ⟨Or.inl q_2_55, i_X9_isSign.1, i_X9_isSign.2⟩ ⟨by decide, rfl⟩ (congrArg Prod.fst (J.1.1 68 (9, 6) rfl)) rfl (by decide) rfl rfl ⟨by decide, by decide⟩ (sf_X9_isSign_r68 (jr_of jk_93 (by omega)) hD J qu25 qu26 (by omega)  (fun v32 h ev32 J S29 u30 u31 qu30 qu31 ru30 => ?_))
      have Sm := jSm_tr rfl Sm S29
      have eu30 := (show 0 ≤ u30.toInt ∧ u30.toInt ≤ 3 from qu30 ▸ jrg_f J sg_68_5_6_1_0_1)
      have eu31 := (show 0 ≤ u31.toInt ∧ u31.toInt ≤ 400 from qu31 ▸ jrg_f J sg_68_3_4_1_0_1)
      show jX m_X2_readSign 20 0 0 8 [(0, .ref 95), (1, .int 93)] [.int v32] _ 0 0 _
      refine x_ifne (tgt := 19) rfl rfl (ti_ne rfl jk_0 ⟨fun c33 => ?_, fun c33 => ?_⟩)
      ·
        refine x_aloadn (x := 95) rfl rfl ?_
        refine z_getR (N := 6) (b := 68) 2 0 rfl f_2_30 rfl J rfl 12160 ⟨rfl, rfl⟩ rfl ?_
        refine x_inv (N := m_X9_step) (As := []) (b := 68) (st := []) (dx9 := 2) (mc := 0) (ms := 0) (host := "") 9 rfl t_X9_step ⟨Or.inl q_2_62, i_X9_step.1, i_X9_step.2⟩ ⟨by decide, rfl⟩ (congrArg Prod.fst (J.1.1 68 (9, 6) rfl)) rfl (by decide) rfl rfl ⟨by decide, by decide⟩ (sf_X9_step_r68  hD J qu30 qu31 (by omega)  (fun h J S34 u35 u36 qu35 qu36 ru35 => ?_))
        have Sm := jSm_tr rfl Sm S34
        have eu35 := (show 0 ≤ u35.toInt ∧ u35.toInt ≤ 3 from qu35 ▸ jrg_f J sg_68_5_6_1_0_1)
        have eu36 := (show 0 ≤ u36.toInt ∧ u36.toInt ≤ 400 from qu36 ▸ jrg_f J sg_68_3_4_1_0_1)
        show jX m_X2_readSign 20 0 0 26 [(0, .ref 95), (1, .int 93)] [] _ 0 0 _
        refine x_iconst (v := 1) rfl ki_1 ?_
        refine x_zret rfl rfl (by decide) ?_
        show jX m_X2_readFactor 21 0 0 49 [(0, .ref 95), (1, .int 0)] [.int 1] _ 0 0 _
        refine x_ifeq (tgt := 56) rfl rfl (ti_eq jk_1 jk_0 (br_f (by omega) ?_))
        refine x_iconst (v := 1) rfl ki_1 ?_
        refine x_goto (tgt := 57) rfl rfl ?_
        exact jX.sub jsb_n (ct_X2_readFactor_r95_c0_300057 hD hQ  u36 u35 h (jr_of rfl (by omega)) (jr_of rfl (by omega)) (by omega) qu36 qu35 J Sm)
      ·
        refine x_aloadn (x := 95) rfl rfl ?_
        refine z_getR (N := 6) (b := 68) 2 0 rfl f_2_30 rfl J rfl 12160 ⟨rfl, rfl⟩ rfl ?_
        refine x_inv (N := m_X9_blame) (As := []) (b := 68) (st := []) (dx9 := 19) (mc := 0) (ms := 0) (host := "") 9 rfl t_X9_blame ⟨Or.inl q_2_59, i_X9_blame.1, i_X9_blame.2⟩ ⟨by decide, rfl⟩ (congrArg Prod.fst (J.1.1 68 (9, 6) rfl)) rfl (by decide) rfl rfl ⟨by decide, by decide⟩ (jC.of rfl k_X9_blame rfl ?_)
        show jX m_X9_blame 19 0 0 0 [(0, .ref 68)] [] _ 0 0 _
        refine x_aloadn (x := 68) rfl rfl ?_
        refine x_aloadn (x := 68) rfl rfl ?_
        refine z_getM (N := 6) (v := u31) 9 3 rfl f_9_22 rfl J rfl qu31 ?_
        refine z_putI (N := 6) (w := u31.toInt) 9 2 rfl f_9_19 rfl (jfin_no TX9 RX9 6 rfl rfl) hD J Sm rfl rfl rfl (pw_68_2 (by omega)) rfl (fun h w37 J Sm => ?_)
        refine x_iconst (v := 0) rfl ki_0 ?_
        refine x_zret rfl rfl (by decide) ?_
        show jX m_X2_readSign 20 0 0 18 [(0, .ref 95), (1, .int 93)] [.int 0] _ 0 0 _
        refine x_zret rfl rfl (by decide) ?_
        show jX m_X2_readFactor 21 0 0 49 [(0, .ref 95), (1, .int 0)] [.int 0] _ 0 0 _
        refine x_ifeq (tgt := 56) rfl rfl (ti_eq jk_0 jk_0 (br_t (by omega) ?_))
        exact jX.sub jsb_n (ct_X2_readFactor_r95_c0_56 hD hQ  u31 u30 h (jr_of rfl (by omega)) (jr_of rfl (by omega)) (by omega) (jmo w37 rfl qu31) (jmo w37 rfl qu30) J Sm)
def fp_X2_readSum_r95_c0 : jFp := [(68, 2, 3), (68, 3, 4), (68, 4, 5), (68, 5, 6), (95, 4, 5), (95, 5, 6), (97, 0, 1200)]
set_option maxRecDepth 100000 in
set_option maxHeartbeats 4000000 in
theorem ct_X2_readSum_r95_c0_100148 {Dy : jH → Prop} {h0 : jH} {Q : Option Value → jH → Prop} {R4 : Int} (hD : jDk Dy) (hQ : ∀ (v : Int32) hx9, 0 ≤ v.toInt ∧ v.toInt ≤ 1 → jJ jSgX Dy hx9 → jSm fp_X2_readSum_r95_c0 h0 hx9 → ∀ u0 u1 : Int32, jiv hx9 68 5 = u0 → jiv hx9 68 3 = u1 → (u0.toInt ≠ 3 ∨ u1.toInt ≤ 399) → Q (some (.int v)) hx9) (k4 : ∀ (l2 : Int32) (l3 : Int32) (g0 : Int32) (g1 : Int32) (h : jH), 400 - l3.toInt < R4 → (-1) ≤ l2.toInt ∧ l2.toInt ≤ 4 → 0 ≤ l3.toInt ∧ l3.toInt ≤ 400 → 0 ≤ g0.toInt ∧ g0.toInt ≤ 400 → 0 ≤ g1.toInt ∧ g1.toInt ≤ 3 → (g1.toInt ≠ 3 ∨ g0.toInt ≤ 399) → jiv h 68 3 = g0 → jiv h 68 5 = g1 → jJ jSgX Dy h → jSm fp_X2_readSum_r95_c0 h0 h → jX m_X2_readSum 22 0 0 4 [(0, .ref 95), (1, .int 0), (2, .int l2), (3, .int l3)] [] h 0 0 Q) : ∀ (l3 : Int32) (g0 : Int32) (g1 : Int32) (h : jH), 0 ≤ l3.toInt ∧ l3.toInt ≤ 399 → 0 ≤ g0.toInt ∧ g0.toInt ≤ 400 → 0 ≤ g1.toInt ∧ g1.toInt ≤ 3 → (g1.toInt ≠ 3 ∨ g0.toInt ≤ 399) → jiv h 68 3 = g0 → jiv h 68 5 = g1 → 400 - l3.toInt ≤ R4 → jJ jSgX Dy h → jSm fp_X2_readSum_r95_c0 h0 h → jX m_X2_readSum 22 0 0 148 [(0, .ref 95), (1, .int 0), (3, .int l3)] [.int (-1)] h 0 0 Q := by
  intro l3 g0 g1 h y0 y1 y2 y3 z0 z1 m4 J Sm
  refine x_istoren (lsx9 := [(2, .int (-1)), (0, .ref 95), (1, .int 0), (3, .int l3)]) rfl rfl rfl ?_
  refine x_iloadn (x := (-1)) rfl rfl ?_
  refine x_iconst (v := (-1)) rfl ki_m1 ?_
  refine x_icne (tgt := 156) rfl rfl (ti_ne jk_m1 jk_m1 (bn_f (by omega) ?_))
  refine x_iconst (v := 1) rfl ki_1 ?_
  refine x_zret rfl rfl (by decide) ?_
  exact hQ _ _ (jr_of jk_1 (by omega)) J Sm _ _ z1 z0 (by omega)
set_option maxRecDepth 100000 in
set_option maxHeartbeats 4000000 in
theorem ct_X2_readSum_r95_c0_600148 {Dy : jH → Prop} {h0 : jH} {Q : Option Value → jH → Prop} {R4 : Int} (hD : jDk Dy) (hQ : ∀ (v : Int32) hx9, 0 ≤ v.toInt ∧ v.toInt ≤ 1 → jJ jSgX Dy hx9 → jSm fp_X2_readSum_r95_c0 h0 hx9 → ∀ u0 u1 : Int32, jiv hx9 68 5 = u0 → jiv hx9 68 3 = u1 → (u0.toInt ≠ 3 ∨ u1.toInt ≤ 399) → Q (some (.int v)) hx9) (k4 : ∀ (l2 : Int32) (l3 : Int32) (g0 : Int32) (g1 : Int32) (h : jH), 400 - l3.toInt < R4 → (-1) ≤ l2.toInt ∧ l2.toInt ≤ 4 → 0 ≤ l3.toInt ∧ l3.toInt ≤ 400 → 0 ≤ g0.toInt ∧ g0.toInt ≤ 400 → 0 ≤ g1.toInt ∧ g1.toInt ≤ 3 → (g1.toInt ≠ 3 ∨ g0.toInt ≤ 399) → jiv h 68 3 = g0 → jiv h 68 5 = g1 → jJ jSgX Dy h → jSm fp_X2_readSum_r95_c0 h0 h → jX m_X2_readSum 22 0 0 4 [(0, .ref 95), (1, .int 0), (2, .int l2), (3, .int l3)] [] h 0 0 Q) : ∀ (l3 : Int32) (g0 : Int32) (g1 : Int32) (h : jH), 0 ≤ l3.toInt ∧ l3.toInt ≤ 399 → 0 ≤ g0.toInt ∧ g0.toInt ≤ 400 → 0 ≤ g1.toInt ∧ g1.toInt ≤ 3 → (g1.toInt ≠ 3 ∨ g0.toInt ≤ 399) → jiv h 68 3 = g0 → jiv h 68 5 = g1 → 400 - l3.toInt ≤ R4 → jJ jSgX Dy h → jSm fp_X2_readSum_r95_c0 h0 h → jX m_X2_readSum 22 0 0 148 [(0, .ref 95), (1, .int 0), (3, .int l3)] [.int 4] h 0 0 Q := by
  intro l3 g0 g1 h y0 y1 y2 y3 z0 z1 m4 J Sm
  refine x_istoren (lsx9 := [(2, .int 4), (0, .ref 95), (1, .int 0), (3, .int l3)]) rfl rfl rfl ?_
  refine x_iloadn (x := 4) rfl rfl ?_
  refine x_iconst (v := (-1)) rfl ki_m1 ?_
  refine x_icne (tgt := 156) rfl rfl (ti_ne jk_4 jk_m1 (bn_t (by omega) ?_))
  refine x_aloadn (x := 95) rfl rfl ?_
  refine z_getR (N := 6) (b := 68) 2 0 rfl f_2_30 rfl J rfl 12160 ⟨rfl, rfl⟩ rfl ?_
  refine x_inv (N := m_X9_step) (As := []) (b := 68) (st := []) (dx9 := 2) (mc := 0) (ms := 0) (host := "") 9 rfl t_X9_step ⟨Or.inl q_2_62, i_X9_step.1, i_X9_step.2⟩ ⟨by decide, rfl⟩ (congrArg Prod.fst (J.1.1 68 (9, 6) rfl)) rfl (by decide) rfl rfl ⟨by decide, by decide⟩ (sf_X9_step_r68  hD J z1 z0 (by omega)  (fun h J S1 u2 u3 qu2 qu3 ru2 => ?_))
  have Sm := jSm_tr rfl Sm S1
  have eu2 := (show 0 ≤ u2.toInt ∧ u2.toInt ≤ 3 from qu2 ▸ jrg_f J sg_68_5_6_1_0_1)
  have eu3 := (show 0 ≤ u3.toInt ∧ u3.toInt ≤ 400 from qu3 ▸ jrg_f J sg_68_3_4_1_0_1)
  show jX m_X2_readSum 22 0 0 163 [(2, .int 4), (0, .ref 95), (1, .int 0), (3, .int l3)] [] _ 0 0 _
  refine z_iinc (x := l3) (lsx9 := fun v4 => [(3, .int v4), (2, .int 4), (0, .ref 95), (1, .int 0)]) rfl rfl rfl jko_1 (by omega) rfl (fun _ => rfl) (fun v4 ev4 => ?_)
  refine x_goto (tgt := 4) rfl rfl ?_
  exact jX.sub (jsb_c rfl (jsb_c rfl (jsb_c rfl (jsb_c rfl jsb_n)))) (k4 4 v4 u3 u2 h (by omega) (jr_of jk_4 (by omega)) (jr_of rfl (by omega)) (jr_of rfl (by omega)) (jr_of rfl (by omega)) (by omega) qu3 qu2 J Sm)
set_option maxRecDepth 100000 in
set_option maxHeartbeats 4000000 in
theorem ct_X2_readSum_r95_c0_500148 {Dy : jH → Prop} {h0 : jH} {Q : Option Value → jH → Prop} {R4 : Int} (hD : jDk Dy) (hQ : ∀ (v : Int32) hx9, 0 ≤ v.toInt ∧ v.toInt ≤ 1 → jJ jSgX Dy hx9 → jSm fp_X2_readSum_r95_c0 h0 hx9 → ∀ u0 u1 : Int32, jiv hx9 68 5 = u0 → jiv hx9 68 3 = u1 → (u0.toInt ≠ 3 ∨ u1.toInt ≤ 399) → Q (some (.int v)) hx9) (k4 : ∀ (l2 : Int32) (l3 : Int32) (g0 : Int32) (g1 : Int32) (h : jH), 400 - l3.toInt < R4 → (-1) ≤ l2.toInt ∧ l2.toInt ≤ 4 → 0 ≤ l3.toInt ∧ l3.toInt ≤ 400 → 0 ≤ g0.toInt ∧ g0.toInt ≤ 400 → 0 ≤ g1.toInt ∧ g1.toInt ≤ 3 → (g1.toInt ≠ 3 ∨ g0.toInt ≤ 399) → jiv h 68 3 = g0 → jiv h 68 5 = g1 → jJ jSgX Dy h → jSm fp_X2_readSum_r95_c0 h0 h → jX m_X2_readSum 22 0 0 4 [(0, .ref 95), (1, .int 0), (2, .int l2), (3, .int l3)] [] h 0 0 Q) : ∀ (l3 : Int32) (g0 : Int32) (g1 : Int32) (h : jH), 0 ≤ l3.toInt ∧ l3.toInt ≤ 399 → 0 ≤ g0.toInt ∧ g0.toInt ≤ 400 → 0 ≤ g1.toInt ∧ g1.toInt ≤ 3 → (g1.toInt ≠ 3 ∨ g0.toInt ≤ 399) → jiv h 68 3 = g0 → jiv h 68 5 = g1 → 400 - l3.toInt ≤ R4 → jJ jSgX Dy h → jSm fp_X2_readSum_r95_c0 h0 h → jX m_X2_readSum 22 0 0 148 [(0, .ref 95), (1, .int 0), (3, .int l3)] [.int 3] h 0 0 Q := by
  intro l3 g0 g1 h y0 y1 y2 y3 z0 z1 m4 J Sm
  refine x_istoren (lsx9 := [(2, .int 3), (0, .ref 95), (1, .int 0), (3, .int l3)]) rfl rfl rfl ?_
  refine x_iloadn (x := 3) rfl rfl ?_
  refine x_iconst (v := (-1)) rfl ki_m1 ?_
  refine x_icne (tgt := 156) rfl rfl (ti_ne jk_3 jk_m1 (bn_t (by omega) ?_))
  refine x_aloadn (x := 95) rfl rfl ?_
  refine z_getR (N := 6) (b := 68) 2 0 rfl f_2_30 rfl J rfl 12160 ⟨rfl, rfl⟩ rfl ?_
  refine x_inv (N := m_X9_step) (As := []) (b := 68) (st := []) (dx9 := 2) (mc := 0) (ms := 0) (host := "") 9 rfl t_X9_step ⟨Or.inl q_2_62, i_X9_step.1, i_X9_step.2⟩ ⟨by decide, rfl⟩ (congrArg Prod.fst (J.1.1 68 (9, 6) rfl)) rfl (by decide) rfl rfl ⟨by decide, by decide⟩ (sf_X9_step_r68  hD J z1 z0 (by omega)  (fun h J S1 u2 u3 qu2 qu3 ru2 => ?_))
  have Sm := jSm_tr rfl Sm S1
  have eu2 := (show 0 ≤ u2.toInt ∧ u2.toInt ≤ 3 from qu2 ▸ jrg_f J sg_68_5_6_1_0_1)
  have eu3 := (show 0 ≤ u3.toInt ∧ u3.toInt ≤ 400 from qu3 ▸ jrg_f J sg_68_3_4_1_0_1)
  show jX m_X2_readSum 22 0 0 163 [(2, .int 3), (0, .ref 95), (1, .int 0), (3, .int l3)] [] _ 0 0 _
  refine z_iinc (x := l3) (lsx9 := fun v4 => [(3, .int v4), (2, .int 3), (0, .ref 95), (1, .int 0)]) rfl rfl rfl jko_1 (by omega) rfl (fun _ => rfl) (fun v4 ev4 => ?_)
  refine x_goto (tgt := 4) rfl rfl ?_
  exact jX.sub (jsb_c rfl (jsb_c rfl (jsb_c rfl (jsb_c rfl jsb_n)))) (k4 3 v4 u3 u2 h (by omega) (jr_of jk_3 (by omega)) (jr_of rfl (by omega)) (jr_of rfl (by omega)) (jr_of rfl (by omega)) (by omega) qu3 qu2 J Sm)
set_option maxRecDepth 100000 in
set_option maxHeartbeats 4000000 in
theorem ct_X2_readSum_r95_c0_115 {Dy : jH → Prop} {h0 : jH} {Q : Option Value → jH → Prop} {R4 : Int} (hD : jDk Dy) (hQ : ∀ (v : Int32) hx9, 0 ≤ v.toInt ∧ v.toInt ≤ 1 → jJ jSgX Dy hx9 → jSm fp_X2_readSum_r95_c0 h0 hx9 → ∀ u0 u1 : Int32, jiv hx9 68 5 = u0 → jiv hx9 68 3 = u1 → (u0.toInt ≠ 3 ∨ u1.toInt ≤ 399) → Q (some (.int v)) hx9) (k4 : ∀ (l2 : Int32) (l3 : Int32) (g0 : Int32) (g1 : Int32) (h : jH), 400 - l3.toInt < R4 → (-1) ≤ l2.toInt ∧ l2.toInt ≤ 4 → 0 ≤ l3.toInt ∧ l3.toInt ≤ 400 → 0 ≤ g0.toInt ∧ g0.toInt ≤ 400 → 0 ≤ g1.toInt ∧ g1.toInt ≤ 3 → (g1.toInt ≠ 3 ∨ g0.toInt ≤ 399) → jiv h 68 3 = g0 → jiv h 68 5 = g1 → jJ jSgX Dy h → jSm fp_X2_readSum_r95_c0 h0 h → jX m_X2_readSum 22 0 0 4 [(0, .ref 95), (1, .int 0), (2, .int l2), (3, .int l3)] [] h 0 0 Q) : ∀ (l3 : Int32) (g0 : Int32) (g1 : Int32) (h : jH), 0 ≤ l3.toInt ∧ l3.toInt ≤ 399 → 0 ≤ g0.toInt ∧ g0.toInt ≤ 400 → 0 ≤ g1.toInt ∧ g1.toInt ≤ 3 → (g1.toInt ≠ 3 ∨ g0.toInt ≤ 399) → jiv h 68 3 = g0 → jiv h 68 5 = g1 → 400 - l3.toInt ≤ R4 → jJ jSgX Dy h → jSm fp_X2_readSum_r95_c0 h0 h → jX m_X2_readSum 22 0 0 115 [(0, .ref 95), (1, .int 0), (3, .int l3)] [] h 0 0 Q := by
  intro l3 g0 g1 h y0 y1 y2 y3 z0 z1 m4 J Sm
  refine x_aloadn (x := 95) rfl rfl ?_
  refine z_getR (N := 6) (b := 68) 2 0 rfl f_2_30 rfl J rfl 12160 ⟨rfl, rfl⟩ rfl ?_
  refine x_bipush (v := 43) rfl kb_43 ?_
  refine x_inv (N := m_X9_isSign) (As := [.int 43]) (b := 68) (st := []) (dx9 := 1) (mc := 0) (ms := 0) (host := "") 9 rfl t_X9_isSign ⟨Or.inl q_2_55, i_X9_isSign.1, i_X9_isSign.2⟩ ⟨by decide, rfl⟩ (congrArg Prod.fst (J.1.1 68 (9, 6) rfl)) rfl (by decide) rfl rfl ⟨by decide, by decide⟩ (sf_X9_isSign_r68 (jr_of jk_43 (by omega)) hD J z1 z0 (by omega)  (fun v4 h ev4 J S1 u2 u3 qu2 qu3 ru2 => ?_))
  have Sm := jSm_tr rfl Sm S1
  have eu2 := (show 0 ≤ u2.toInt ∧ u2.toInt ≤ 3 from qu2 ▸ jrg_f J sg_68_5_6_1_0_1)
  have eu3 := (show 0 ≤ u3.toInt ∧ u3.toInt ≤ 400 from qu3 ▸ jrg_f J sg_68_3_4_1_0_1)
  show jX m_X2_readSum 22 0 0 124 [(0, .ref 95), (1, .int 0), (3, .int l3)] [.int v4] _ 0 0 _
  refine x_ifeq (tgt := 131) rfl rfl (ti_eq rfl jk_0 ⟨fun c5 => ?_, fun c5 => ?_⟩)
  ·
    refine x_aloadn (x := 95) rfl rfl ?_
    refine z_getR (N := 6) (b := 68) 2 0 rfl f_2_30 rfl J rfl 12160 ⟨rfl, rfl⟩ rfl ?_
    refine x_bipush (v := 45) rfl kb_45 ?_
    refine x_inv (N := m_X9_isSign) (As := [.int 45]) (b := 68) (st := []) (dx9 := 1) (mc := 0) (ms := 0) (host := "") 9 rfl t_X9_isSign ⟨Or.inl q_2_55, i_X9_isSign.1, i_X9_isSign.2⟩ ⟨by decide, rfl⟩ (congrArg Prod.fst (J.1.1 68 (9, 6) rfl)) rfl (by decide) rfl rfl ⟨by decide, by decide⟩ (sf_X9_isSign_r68 (jr_of jk_45 (by omega)) hD J qu2 qu3 (by omega)  (fun v9 h ev9 J S6 u7 u8 qu7 qu8 ru7 => ?_))
    have Sm := jSm_tr rfl Sm S6
    have eu7 := (show 0 ≤ u7.toInt ∧ u7.toInt ≤ 3 from qu7 ▸ jrg_f J sg_68_5_6_1_0_1)
    have eu8 := (show 0 ≤ u8.toInt ∧ u8.toInt ≤ 400 from qu8 ▸ jrg_f J sg_68_3_4_1_0_1)
    show jX m_X2_readSum 22 0 0 140 [(0, .ref 95), (1, .int 0), (3, .int l3)] [.int v9] _ 0 0 _
    refine x_ifeq (tgt := 147) rfl rfl (ti_eq rfl jk_0 ⟨fun c10 => ?_, fun c10 => ?_⟩)
    ·
      refine x_iconst (v := (-1)) rfl ki_m1 ?_
      exact jX.sub (jsb_c rfl (jsb_c rfl (jsb_c rfl jsb_n))) (ct_X2_readSum_r95_c0_100148 hD hQ k4 l3 u8 u7 h (jr_of rfl (by omega)) (jr_of rfl (by omega)) (jr_of rfl (by omega)) (by omega) qu8 qu7 (by omega) J Sm)
    ·
      refine x_iconst (v := 4) rfl ki_4 ?_
      refine x_goto (tgt := 148) rfl rfl ?_
      exact jX.sub (jsb_c rfl (jsb_c rfl (jsb_c rfl jsb_n))) (ct_X2_readSum_r95_c0_600148 hD hQ k4 l3 u8 u7 h (jr_of rfl (by omega)) (jr_of rfl (by omega)) (jr_of rfl (by omega)) (by omega) qu8 qu7 (by omega) J Sm)
  ·
    refine x_iconst (v := 3) rfl ki_3 ?_
    refine x_goto (tgt := 148) rfl rfl ?_
    exact jX.sub (jsb_c rfl (jsb_c rfl (jsb_c rfl jsb_n))) (ct_X2_readSum_r95_c0_500148 hD hQ k4 l3 u3 u2 h (jr_of rfl (by omega)) (jr_of rfl (by omega)) (jr_of rfl (by omega)) (by omega) qu3 qu2 (by omega) J Sm)
set_option maxRecDepth 100000 in
set_option maxHeartbeats 4000000 in
theorem ct_X2_readSum_r95_c0_105 {Dy : jH → Prop} {h0 : jH} {Q : Option Value → jH → Prop} {R4 : Int} (hD : jDk Dy) (hQ : ∀ (v : Int32) hx9, 0 ≤ v.toInt ∧ v.toInt ≤ 1 → jJ jSgX Dy hx9 → jSm fp_X2_readSum_r95_c0 h0 hx9 → ∀ u0 u1 : Int32, jiv hx9 68 5 = u0 → jiv hx9 68 3 = u1 → (u0.toInt ≠ 3 ∨ u1.toInt ≤ 399) → Q (some (.int v)) hx9) (k4 : ∀ (l2 : Int32) (l3 : Int32) (g0 : Int32) (g1 : Int32) (h : jH), 400 - l3.toInt < R4 → (-1) ≤ l2.toInt ∧ l2.toInt ≤ 4 → 0 ≤ l3.toInt ∧ l3.toInt ≤ 400 → 0 ≤ g0.toInt ∧ g0.toInt ≤ 400 → 0 ≤ g1.toInt ∧ g1.toInt ≤ 3 → (g1.toInt ≠ 3 ∨ g0.toInt ≤ 399) → jiv h 68 3 = g0 → jiv h 68 5 = g1 → jJ jSgX Dy h → jSm fp_X2_readSum_r95_c0 h0 h → jX m_X2_readSum 22 0 0 4 [(0, .ref 95), (1, .int 0), (2, .int l2), (3, .int l3)] [] h 0 0 Q) : ∀ (l2 : Int32) (l3 : Int32) (g0 : Int32) (g1 : Int32) (h : jH), (-1) ≤ l2.toInt ∧ l2.toInt ≤ 4 → 0 ≤ l3.toInt ∧ l3.toInt ≤ 399 → 0 ≤ g0.toInt ∧ g0.toInt ≤ 400 → 0 ≤ g1.toInt ∧ g1.toInt ≤ 3 → (g1.toInt ≠ 3 ∨ g0.toInt ≤ 399) → jiv h 68 3 = g0 → jiv h 68 5 = g1 → 400 - l3.toInt ≤ R4 → jJ jSgX Dy h → jSm fp_X2_readSum_r95_c0 h0 h → jX m_X2_readSum 22 0 0 105 [(0, .ref 95), (1, .int 0), (2, .int l2), (3, .int l3)] [] h 0 0 Q := by
  intro l2 l3 g0 g1 h y0 y1 y2 y3 y4 z0 z1 m4 J Sm
  refine x_iloadn (x := l2) rfl rfl ?_
  refine x_iconst (v := (-1)) rfl ki_m1 ?_
  refine x_iceq (tgt := 115) rfl rfl (ti_eq rfl jk_m1 ⟨fun c1 => ?_, fun c1 => ?_⟩)
  ·
    exact jX.sub (jsb_c rfl (jsb_c rfl (jsb_c rfl jsb_n))) (ct_X2_readSum_r95_c0_115 hD hQ k4 l3 g0 g1 h (jr_of rfl (by omega)) (jr_of rfl (by omega)) (jr_of rfl (by omega)) (by omega) z0 z1 (by omega) J Sm)
  ·
    refine x_aloadn (x := 95) rfl rfl ?_
    refine x_iloadn (x := l2) rfl rfl ?_
    refine x_inv (N := m_X2_emit) (As := [.int l2]) (b := 95) (st := []) (dx9 := 1) (mc := 0) (ms := 0) (host := "") 2 rfl t_X2_emit ⟨Or.inl q_2_89, i_X2_emit.1, i_X2_emit.2⟩ ⟨by decide, rfl⟩ (congrArg Prod.fst (J.1.1 95 (2, 6) rfl)) rfl (by decide) rfl rfl ⟨by decide, by decide⟩ (sf_X2_emit_r95  hD J  (fun h J S2 => ?_))
    have Sm := jSm_tr rfl Sm S2
    show jX m_X2_readSum 22 0 0 115 [(0, .ref 95), (1, .int 0), (2, .int l2), (3, .int l3)] [] _ 0 0 _
    exact jX.sub (jsb_c rfl (jsb_c rfl (jsb_c rfl jsb_n))) (ct_X2_readSum_r95_c0_115 hD hQ k4 l3 g0 g1 h (jr_of rfl (by omega)) (jr_of rfl (by omega)) (jr_of rfl (by omega)) (by omega) (jmc S2 rfl z0) (jmc S2 rfl z1) (by omega) J Sm)
set_option maxRecDepth 100000 in
set_option maxHeartbeats 4000000 in
theorem ct_X2_readSum_r95_c0_100081 {Dy : jH → Prop} {h0 : jH} {Q : Option Value → jH → Prop} {R4 : Int} {R17 : Int} (hD : jDk Dy) (hQ : ∀ (v : Int32) hx9, 0 ≤ v.toInt ∧ v.toInt ≤ 1 → jJ jSgX Dy hx9 → jSm fp_X2_readSum_r95_c0 h0 hx9 → ∀ u0 u1 : Int32, jiv hx9 68 5 = u0 → jiv hx9 68 3 = u1 → (u0.toInt ≠ 3 ∨ u1.toInt ≤ 399) → Q (some (.int v)) hx9) (k4 : ∀ (l2 : Int32) (l3 : Int32) (g0 : Int32) (g1 : Int32) (h : jH), 400 - l3.toInt < R4 → (-1) ≤ l2.toInt ∧ l2.toInt ≤ 4 → 0 ≤ l3.toInt ∧ l3.toInt ≤ 400 → 0 ≤ g0.toInt ∧ g0.toInt ≤ 400 → 0 ≤ g1.toInt ∧ g1.toInt ≤ 3 → (g1.toInt ≠ 3 ∨ g0.toInt ≤ 399) → jiv h 68 3 = g0 → jiv h 68 5 = g1 → jJ jSgX Dy h → jSm fp_X2_readSum_r95_c0 h0 h → jX m_X2_readSum 22 0 0 4 [(0, .ref 95), (1, .int 0), (2, .int l2), (3, .int l3)] [] h 0 0 Q) (k17 : ∀ (l2 : Int32) (l3 : Int32) (l4 : Int32) (l5 : Int32) (g0 : Int32) (g1 : Int32) (h : jH), 400 - l5.toInt < R17 → (-1) ≤ l2.toInt ∧ l2.toInt ≤ 4 → 0 ≤ l3.toInt ∧ l3.toInt ≤ 399 → (-1) ≤ l4.toInt ∧ l4.toInt ≤ 6 → 0 ≤ l5.toInt ∧ l5.toInt ≤ 400 → 0 ≤ g0.toInt ∧ g0.toInt ≤ 400 → 0 ≤ g1.toInt ∧ g1.toInt ≤ 3 → (g1.toInt ≠ 3 ∨ g0.toInt ≤ 399) → jiv h 68 3 = g0 → jiv h 68 5 = g1 → 400 - l3.toInt ≤ R4 → jJ jSgX Dy h → jSm fp_X2_readSum_r95_c0 h0 h → jX m_X2_readSum 22 0 0 17 [(0, .ref 95), (1, .int 0), (2, .int l2), (3, .int l3), (4, .int l4), (5, .int l5)] [] h 0 0 Q) : ∀ (l2 : Int32) (l3 : Int32) (l5 : Int32) (g0 : Int32) (g1 : Int32) (h : jH), (-1) ≤ l2.toInt ∧ l2.toInt ≤ 4 → 0 ≤ l3.toInt ∧ l3.toInt ≤ 399 → 0 ≤ l5.toInt ∧ l5.toInt ≤ 399 → 0 ≤ g0.toInt ∧ g0.toInt ≤ 400 → 0 ≤ g1.toInt ∧ g1.toInt ≤ 3 → (g1.toInt ≠ 3 ∨ g0.toInt ≤ 399) → jiv h 68 3 = g0 → jiv h 68 5 = g1 → 400 - l3.toInt ≤ R4 → 400 - l5.toInt ≤ R17 → jJ jSgX Dy h → jSm fp_X2_readSum_r95_c0 h0 h → jX m_X2_readSum 22 0 0 81 [(0, .ref 95), (1, .int 0), (2, .int l2), (3, .int l3), (5, .int l5)] [.int (-1)] h 0 0 Q := by
  intro l2 l3 l5 g0 g1 h y0 y1 y2 y3 y4 y5 z0 z1 m4 m17 J Sm
  refine x_istore (lsx9 := [(4, .int (-1)), (0, .ref 95), (1, .int 0), (2, .int l2), (3, .int l3), (5, .int l5)]) rfl rfl rfl ?_
  refine x_iload (x := (-1)) rfl rfl ?_
  refine x_iconst (v := (-1)) rfl ki_m1 ?_
  refine x_icne (tgt := 92) rfl rfl (ti_ne jk_m1 jk_m1 (bn_f (by omega) ?_))
  refine x_goto (tgt := 105) rfl rfl ?_
  exact jX.sub (jsb_c rfl (jsb_c rfl (jsb_c rfl (jsb_c rfl jsb_n)))) (ct_X2_readSum_r95_c0_105 hD hQ k4 l2 l3 g0 g1 h (jr_of rfl (by omega)) (jr_of rfl (by omega)) (jr_of rfl (by omega)) (jr_of rfl (by omega)) (by omega) z0 z1 (by omega) J Sm)
set_option maxRecDepth 100000 in
set_option maxHeartbeats 4000000 in
theorem ct_X2_readSum_r95_c0_800081 {Dy : jH → Prop} {h0 : jH} {Q : Option Value → jH → Prop} {R4 : Int} {R17 : Int} (hD : jDk Dy) (hQ : ∀ (v : Int32) hx9, 0 ≤ v.toInt ∧ v.toInt ≤ 1 → jJ jSgX Dy hx9 → jSm fp_X2_readSum_r95_c0 h0 hx9 → ∀ u0 u1 : Int32, jiv hx9 68 5 = u0 → jiv hx9 68 3 = u1 → (u0.toInt ≠ 3 ∨ u1.toInt ≤ 399) → Q (some (.int v)) hx9) (k4 : ∀ (l2 : Int32) (l3 : Int32) (g0 : Int32) (g1 : Int32) (h : jH), 400 - l3.toInt < R4 → (-1) ≤ l2.toInt ∧ l2.toInt ≤ 4 → 0 ≤ l3.toInt ∧ l3.toInt ≤ 400 → 0 ≤ g0.toInt ∧ g0.toInt ≤ 400 → 0 ≤ g1.toInt ∧ g1.toInt ≤ 3 → (g1.toInt ≠ 3 ∨ g0.toInt ≤ 399) → jiv h 68 3 = g0 → jiv h 68 5 = g1 → jJ jSgX Dy h → jSm fp_X2_readSum_r95_c0 h0 h → jX m_X2_readSum 22 0 0 4 [(0, .ref 95), (1, .int 0), (2, .int l2), (3, .int l3)] [] h 0 0 Q) (k17 : ∀ (l2 : Int32) (l3 : Int32) (l4 : Int32) (l5 : Int32) (g0 : Int32) (g1 : Int32) (h : jH), 400 - l5.toInt < R17 → (-1) ≤ l2.toInt ∧ l2.toInt ≤ 4 → 0 ≤ l3.toInt ∧ l3.toInt ≤ 399 → (-1) ≤ l4.toInt ∧ l4.toInt ≤ 6 → 0 ≤ l5.toInt ∧ l5.toInt ≤ 400 → 0 ≤ g0.toInt ∧ g0.toInt ≤ 400 → 0 ≤ g1.toInt ∧ g1.toInt ≤ 3 → (g1.toInt ≠ 3 ∨ g0.toInt ≤ 399) → jiv h 68 3 = g0 → jiv h 68 5 = g1 → 400 - l3.toInt ≤ R4 → jJ jSgX Dy h → jSm fp_X2_readSum_r95_c0 h0 h → jX m_X2_readSum 22 0 0 17 [(0, .ref 95), (1, .int 0), (2, .int l2), (3, .int l3), (4, .int l4), (5, .int l5)] [] h 0 0 Q) : ∀ (l2 : Int32) (l3 : Int32) (l5 : Int32) (g0 : Int32) (g1 : Int32) (h : jH), (-1) ≤ l2.toInt ∧ l2.toInt ≤ 4 → 0 ≤ l3.toInt ∧ l3.toInt ≤ 399 → 0 ≤ l5.toInt ∧ l5.toInt ≤ 399 → 0 ≤ g0.toInt ∧ g0.toInt ≤ 400 → 0 ≤ g1.toInt ∧ g1.toInt ≤ 3 → (g1.toInt ≠ 3 ∨ g0.toInt ≤ 399) → jiv h 68 3 = g0 → jiv h 68 5 = g1 → 400 - l3.toInt ≤ R4 → 400 - l5.toInt ≤ R17 → jJ jSgX Dy h → jSm fp_X2_readSum_r95_c0 h0 h → jX m_X2_readSum 22 0 0 81 [(0, .ref 95), (1, .int 0), (2, .int l2), (3, .int l3), (5, .int l5)] [.int 6] h 0 0 Q := by
  intro l2 l3 l5 g0 g1 h y0 y1 y2 y3 y4 y5 z0 z1 m4 m17 J Sm
  refine x_istore (lsx9 := [(4, .int 6), (0, .ref 95), (1, .int 0), (2, .int l2), (3, .int l3), (5, .int l5)]) rfl rfl rfl ?_
  refine x_iload (x := 6) rfl rfl ?_
  refine x_iconst (v := (-1)) rfl ki_m1 ?_
  refine x_icne (tgt := 92) rfl rfl (ti_ne jk_6 jk_m1 (bn_t (by omega) ?_))
  refine x_aloadn (x := 95) rfl rfl ?_
  refine z_getR (N := 6) (b := 68) 2 0 rfl f_2_30 rfl J rfl 12160 ⟨rfl, rfl⟩ rfl ?_
  refine x_inv (N := m_X9_step) (As := []) (b := 68) (st := []) (dx9 := 2) (mc := 0) (ms := 0) (host := "") 9 rfl t_X9_step ⟨Or.inl q_2_62, i_X9_step.1, i_X9_step.2⟩ ⟨by decide, rfl⟩ (congrArg Prod.fst (J.1.1 68 (9, 6) rfl)) rfl (by decide) rfl rfl ⟨by decide, by decide⟩ (sf_X9_step_r68  hD J z1 z0 (by omega)  (fun h J S1 u2 u3 qu2 qu3 ru2 => ?_))
  have Sm := jSm_tr rfl Sm S1
  have eu2 := (show 0 ≤ u2.toInt ∧ u2.toInt ≤ 3 from qu2 ▸ jrg_f J sg_68_5_6_1_0_1)
  have eu3 := (show 0 ≤ u3.toInt ∧ u3.toInt ≤ 400 from qu3 ▸ jrg_f J sg_68_3_4_1_0_1)
  show jX m_X2_readSum 22 0 0 99 [(4, .int 6), (0, .ref 95), (1, .int 0), (2, .int l2), (3, .int l3), (5, .int l5)] [] _ 0 0 _
  refine z_iinc (x := l5) (lsx9 := fun v4 => [(5, .int v4), (4, .int 6), (0, .ref 95), (1, .int 0), (2, .int l2), (3, .int l3)]) rfl rfl rfl jko_1 (by omega) rfl (fun _ => rfl) (fun v4 ev4 => ?_)
  refine x_goto (tgt := 17) rfl rfl ?_
  exact jX.sub (jsb_c rfl (jsb_c rfl (jsb_c rfl (jsb_c rfl (jsb_c rfl (jsb_c rfl jsb_n)))))) (k17 l2 l3 6 v4 u3 u2 h (by omega) (jr_of rfl (by omega)) (jr_of rfl (by omega)) (jr_of jk_6 (by omega)) (jr_of rfl (by omega)) (jr_of rfl (by omega)) (jr_of rfl (by omega)) (by omega) qu3 qu2 (by omega) J Sm)
set_option maxRecDepth 100000 in
set_option maxHeartbeats 4000000 in
theorem ct_X2_readSum_r95_c0_700081 {Dy : jH → Prop} {h0 : jH} {Q : Option Value → jH → Prop} {R4 : Int} {R17 : Int} (hD : jDk Dy) (hQ : ∀ (v : Int32) hx9, 0 ≤ v.toInt ∧ v.toInt ≤ 1 → jJ jSgX Dy hx9 → jSm fp_X2_readSum_r95_c0 h0 hx9 → ∀ u0 u1 : Int32, jiv hx9 68 5 = u0 → jiv hx9 68 3 = u1 → (u0.toInt ≠ 3 ∨ u1.toInt ≤ 399) → Q (some (.int v)) hx9) (k4 : ∀ (l2 : Int32) (l3 : Int32) (g0 : Int32) (g1 : Int32) (h : jH), 400 - l3.toInt < R4 → (-1) ≤ l2.toInt ∧ l2.toInt ≤ 4 → 0 ≤ l3.toInt ∧ l3.toInt ≤ 400 → 0 ≤ g0.toInt ∧ g0.toInt ≤ 400 → 0 ≤ g1.toInt ∧ g1.toInt ≤ 3 → (g1.toInt ≠ 3 ∨ g0.toInt ≤ 399) → jiv h 68 3 = g0 → jiv h 68 5 = g1 → jJ jSgX Dy h → jSm fp_X2_readSum_r95_c0 h0 h → jX m_X2_readSum 22 0 0 4 [(0, .ref 95), (1, .int 0), (2, .int l2), (3, .int l3)] [] h 0 0 Q) (k17 : ∀ (l2 : Int32) (l3 : Int32) (l4 : Int32) (l5 : Int32) (g0 : Int32) (g1 : Int32) (h : jH), 400 - l5.toInt < R17 → (-1) ≤ l2.toInt ∧ l2.toInt ≤ 4 → 0 ≤ l3.toInt ∧ l3.toInt ≤ 399 → (-1) ≤ l4.toInt ∧ l4.toInt ≤ 6 → 0 ≤ l5.toInt ∧ l5.toInt ≤ 400 → 0 ≤ g0.toInt ∧ g0.toInt ≤ 400 → 0 ≤ g1.toInt ∧ g1.toInt ≤ 3 → (g1.toInt ≠ 3 ∨ g0.toInt ≤ 399) → jiv h 68 3 = g0 → jiv h 68 5 = g1 → 400 - l3.toInt ≤ R4 → jJ jSgX Dy h → jSm fp_X2_readSum_r95_c0 h0 h → jX m_X2_readSum 22 0 0 17 [(0, .ref 95), (1, .int 0), (2, .int l2), (3, .int l3), (4, .int l4), (5, .int l5)] [] h 0 0 Q) : ∀ (l2 : Int32) (l3 : Int32) (l5 : Int32) (g0 : Int32) (g1 : Int32) (h : jH), (-1) ≤ l2.toInt ∧ l2.toInt ≤ 4 → 0 ≤ l3.toInt ∧ l3.toInt ≤ 399 → 0 ≤ l5.toInt ∧ l5.toInt ≤ 399 → 0 ≤ g0.toInt ∧ g0.toInt ≤ 400 → 0 ≤ g1.toInt ∧ g1.toInt ≤ 3 → (g1.toInt ≠ 3 ∨ g0.toInt ≤ 399) → jiv h 68 3 = g0 → jiv h 68 5 = g1 → 400 - l3.toInt ≤ R4 → 400 - l5.toInt ≤ R17 → jJ jSgX Dy h → jSm fp_X2_readSum_r95_c0 h0 h → jX m_X2_readSum 22 0 0 81 [(0, .ref 95), (1, .int 0), (2, .int l2), (3, .int l3), (5, .int l5)] [.int 5] h 0 0 Q := by
  intro l2 l3 l5 g0 g1 h y0 y1 y2 y3 y4 y5 z0 z1 m4 m17 J Sm
  refine x_istore (lsx9 := [(4, .int 5), (0, .ref 95), (1, .int 0), (2, .int l2), (3, .int l3), (5, .int l5)]) rfl rfl rfl ?_
  refine x_iload (x := 5) rfl rfl ?_
  refine x_iconst (v := (-1)) rfl ki_m1 ?_
  refine x_icne (tgt := 92) rfl rfl (ti_ne jk_5 jk_m1 (bn_t (by omega) ?_))
  refine x_aloadn (x := 95) rfl rfl ?_
  refine z_getR (N := 6) (b := 68) 2 0 rfl f_2_30 rfl J rfl 12160 ⟨rfl, rfl⟩ rfl ?_
  refine x_inv (N := m_X9_step) (As := []) (b := 68) (st := []) (dx9 := 2) (mc := 0) (ms := 0) (host := "") 9 rfl t_X9_step ⟨Or.inl q_2_62, i_X9_step.1, i_X9_step.2⟩ ⟨by decide, rfl⟩ (congrArg Prod.fst (J.1.1 68 (9, 6) rfl)) rfl (by decide) rfl rfl ⟨by decide, by decide⟩ (sf_X9_step_r68  hD J z1 z0 (by omega)  (fun h J S1 u2 u3 qu2 qu3 ru2 => ?_))
  have Sm := jSm_tr rfl Sm S1
  have eu2 := (show 0 ≤ u2.toInt ∧ u2.toInt ≤ 3 from qu2 ▸ jrg_f J sg_68_5_6_1_0_1)
  have eu3 := (show 0 ≤ u3.toInt ∧ u3.toInt ≤ 400 from qu3 ▸ jrg_f J sg_68_3_4_1_0_1)
  show jX m_X2_readSum 22 0 0 99 [(4, .int 5), (0, .ref 95), (1, .int 0), (2, .int l2), (3, .int l3), (5, .int l5)] [] _ 0 0 _
  refine z_iinc (x := l5) (lsx9 := fun v4 => [(5, .int v4), (4, .int 5), (0, .ref 95), (1, .int 0), (2, .int l2), (3, .int l3)]) rfl rfl rfl jko_1 (by omega) rfl (fun _ => rfl) (fun v4 ev4 => ?_)
  refine x_goto (tgt := 17) rfl rfl ?_
  exact jX.sub (jsb_c rfl (jsb_c rfl (jsb_c rfl (jsb_c rfl (jsb_c rfl (jsb_c rfl jsb_n)))))) (k17 l2 l3 5 v4 u3 u2 h (by omega) (jr_of rfl (by omega)) (jr_of rfl (by omega)) (jr_of jk_5 (by omega)) (jr_of rfl (by omega)) (jr_of rfl (by omega)) (jr_of rfl (by omega)) (by omega) qu3 qu2 (by omega) J Sm)
set_option maxRecDepth 100000 in
set_option maxHeartbeats 4000000 in
theorem ct_X2_readSum_r95_c0_47 {Dy : jH → Prop} {h0 : jH} {Q : Option Value → jH → Prop} {R4 : Int} {R17 : Int} (hD : jDk Dy) (hQ : ∀ (v : Int32) hx9, 0 ≤ v.toInt ∧ v.toInt ≤ 1 → jJ jSgX Dy hx9 → jSm fp_X2_readSum_r95_c0 h0 hx9 → ∀ u0 u1 : Int32, jiv hx9 68 5 = u0 → jiv hx9 68 3 = u1 → (u0.toInt ≠ 3 ∨ u1.toInt ≤ 399) → Q (some (.int v)) hx9) (k4 : ∀ (l2 : Int32) (l3 : Int32) (g0 : Int32) (g1 : Int32) (h : jH), 400 - l3.toInt < R4 → (-1) ≤ l2.toInt ∧ l2.toInt ≤ 4 → 0 ≤ l3.toInt ∧ l3.toInt ≤ 400 → 0 ≤ g0.toInt ∧ g0.toInt ≤ 400 → 0 ≤ g1.toInt ∧ g1.toInt ≤ 3 → (g1.toInt ≠ 3 ∨ g0.toInt ≤ 399) → jiv h 68 3 = g0 → jiv h 68 5 = g1 → jJ jSgX Dy h → jSm fp_X2_readSum_r95_c0 h0 h → jX m_X2_readSum 22 0 0 4 [(0, .ref 95), (1, .int 0), (2, .int l2), (3, .int l3)] [] h 0 0 Q) (k17 : ∀ (l2 : Int32) (l3 : Int32) (l4 : Int32) (l5 : Int32) (g0 : Int32) (g1 : Int32) (h : jH), 400 - l5.toInt < R17 → (-1) ≤ l2.toInt ∧ l2.toInt ≤ 4 → 0 ≤ l3.toInt ∧ l3.toInt ≤ 399 → (-1) ≤ l4.toInt ∧ l4.toInt ≤ 6 → 0 ≤ l5.toInt ∧ l5.toInt ≤ 400 → 0 ≤ g0.toInt ∧ g0.toInt ≤ 400 → 0 ≤ g1.toInt ∧ g1.toInt ≤ 3 → (g1.toInt ≠ 3 ∨ g0.toInt ≤ 399) → jiv h 68 3 = g0 → jiv h 68 5 = g1 → 400 - l3.toInt ≤ R4 → jJ jSgX Dy h → jSm fp_X2_readSum_r95_c0 h0 h → jX m_X2_readSum 22 0 0 17 [(0, .ref 95), (1, .int 0), (2, .int l2), (3, .int l3), (4, .int l4), (5, .int l5)] [] h 0 0 Q) : ∀ (l2 : Int32) (l3 : Int32) (l5 : Int32) (g0 : Int32) (g1 : Int32) (h : jH), (-1) ≤ l2.toInt ∧ l2.toInt ≤ 4 → 0 ≤ l3.toInt ∧ l3.toInt ≤ 399 → 0 ≤ l5.toInt ∧ l5.toInt ≤ 399 → 0 ≤ g0.toInt ∧ g0.toInt ≤ 400 → 0 ≤ g1.toInt ∧ g1.toInt ≤ 3 → (g1.toInt ≠ 3 ∨ g0.toInt ≤ 399) → jiv h 68 3 = g0 → jiv h 68 5 = g1 → 400 - l3.toInt ≤ R4 → 400 - l5.toInt ≤ R17 → jJ jSgX Dy h → jSm fp_X2_readSum_r95_c0 h0 h → jX m_X2_readSum 22 0 0 47 [(0, .ref 95), (1, .int 0), (2, .int l2), (3, .int l3), (5, .int l5)] [] h 0 0 Q := by
  intro l2 l3 l5 g0 g1 h y0 y1 y2 y3 y4 y5 z0 z1 m4 m17 J Sm
  refine x_aloadn (x := 95) rfl rfl ?_
  refine z_getR (N := 6) (b := 68) 2 0 rfl f_2_30 rfl J rfl 12160 ⟨rfl, rfl⟩ rfl ?_
  refine x_bipush (v := 42) rfl kb_42 ?_
  refine x_inv (N := m_X9_isSign) (As := [.int 42]) (b := 68) (st := []) (dx9 := 1) (mc := 0) (ms := 0) (host := "") 9 rfl t_X9_isSign ⟨Or.inl q_2_55, i_X9_isSign.1, i_X9_isSign.2⟩ ⟨by decide, rfl⟩ (congrArg Prod.fst (J.1.1 68 (9, 6) rfl)) rfl (by decide) rfl rfl ⟨by decide, by decide⟩ (sf_X9_isSign_r68 (jr_of jk_42 (by omega)) hD J z1 z0 (by omega)  (fun v4 h ev4 J S1 u2 u3 qu2 qu3 ru2 => ?_))
  have Sm := jSm_tr rfl Sm S1
  have eu2 := (show 0 ≤ u2.toInt ∧ u2.toInt ≤ 3 from qu2 ▸ jrg_f J sg_68_5_6_1_0_1)
  have eu3 := (show 0 ≤ u3.toInt ∧ u3.toInt ≤ 400 from qu3 ▸ jrg_f J sg_68_3_4_1_0_1)
  show jX m_X2_readSum 22 0 0 56 [(0, .ref 95), (1, .int 0), (2, .int l2), (3, .int l3), (5, .int l5)] [.int v4] _ 0 0 _
  refine x_ifeq (tgt := 63) rfl rfl (ti_eq rfl jk_0 ⟨fun c5 => ?_, fun c5 => ?_⟩)
  ·
    refine x_aloadn (x := 95) rfl rfl ?_
    refine z_getR (N := 6) (b := 68) 2 0 rfl f_2_30 rfl J rfl 12160 ⟨rfl, rfl⟩ rfl ?_
    refine x_bipush (v := 47) rfl kb_47 ?_
    refine x_inv (N := m_X9_isSign) (As := [.int 47]) (b := 68) (st := []) (dx9 := 1) (mc := 0) (ms := 0) (host := "") 9 rfl t_X9_isSign ⟨Or.inl q_2_55, i_X9_isSign.1, i_X9_isSign.2⟩ ⟨by decide, rfl⟩ (congrArg Prod.fst (J.1.1 68 (9, 6) rfl)) rfl (by decide) rfl rfl ⟨by decide, by decide⟩ (sf_X9_isSign_r68 (jr_of jk_47 (by omega)) hD J qu2 qu3 (by omega)  (fun v9 h ev9 J S6 u7 u8 qu7 qu8 ru7 => ?_))
    have Sm := jSm_tr rfl Sm S6
    have eu7 := (show 0 ≤ u7.toInt ∧ u7.toInt ≤ 3 from qu7 ▸ jrg_f J sg_68_5_6_1_0_1)
    have eu8 := (show 0 ≤ u8.toInt ∧ u8.toInt ≤ 400 from qu8 ▸ jrg_f J sg_68_3_4_1_0_1)
    show jX m_X2_readSum 22 0 0 72 [(0, .ref 95), (1, .int 0), (2, .int l2), (3, .int l3), (5, .int l5)] [.int v9] _ 0 0 _
    refine x_ifeq (tgt := 80) rfl rfl (ti_eq rfl jk_0 ⟨fun c10 => ?_, fun c10 => ?_⟩)
    ·
      refine x_iconst (v := (-1)) rfl ki_m1 ?_
      exact jX.sub (jsb_c rfl (jsb_c rfl (jsb_c rfl (jsb_c rfl (jsb_c rfl jsb_n))))) (ct_X2_readSum_r95_c0_100081 hD hQ k4 k17 l2 l3 l5 u8 u7 h (jr_of rfl (by omega)) (jr_of rfl (by omega)) (jr_of rfl (by omega)) (jr_of rfl (by omega)) (jr_of rfl (by omega)) (by omega) qu8 qu7 (by omega) (by omega) J Sm)
    ·
      refine x_bipush (v := 6) rfl kb_6 ?_
      refine x_goto (tgt := 81) rfl rfl ?_
      exact jX.sub (jsb_c rfl (jsb_c rfl (jsb_c rfl (jsb_c rfl (jsb_c rfl jsb_n))))) (ct_X2_readSum_r95_c0_800081 hD hQ k4 k17 l2 l3 l5 u8 u7 h (jr_of rfl (by omega)) (jr_of rfl (by omega)) (jr_of rfl (by omega)) (jr_of rfl (by omega)) (jr_of rfl (by omega)) (by omega) qu8 qu7 (by omega) (by omega) J Sm)
  ·
    refine x_iconst (v := 5) rfl ki_5 ?_
    refine x_goto (tgt := 81) rfl rfl ?_
    exact jX.sub (jsb_c rfl (jsb_c rfl (jsb_c rfl (jsb_c rfl (jsb_c rfl jsb_n))))) (ct_X2_readSum_r95_c0_700081 hD hQ k4 k17 l2 l3 l5 u3 u2 h (jr_of rfl (by omega)) (jr_of rfl (by omega)) (jr_of rfl (by omega)) (jr_of rfl (by omega)) (jr_of rfl (by omega)) (by omega) qu3 qu2 (by omega) (by omega) J Sm)
set_option maxRecDepth 100000 in
set_option maxHeartbeats 4000000 in
theorem ct_X2_readSum_r95_c0_17 {Dy : jH → Prop} {h0 : jH} {Q : Option Value → jH → Prop} {R4 : Int} (hD : jDk Dy) (hQ : ∀ (v : Int32) hx9, 0 ≤ v.toInt ∧ v.toInt ≤ 1 → jJ jSgX Dy hx9 → jSm fp_X2_readSum_r95_c0 h0 hx9 → ∀ u0 u1 : Int32, jiv hx9 68 5 = u0 → jiv hx9 68 3 = u1 → (u0.toInt ≠ 3 ∨ u1.toInt ≤ 399) → Q (some (.int v)) hx9) (k4 : ∀ (l2 : Int32) (l3 : Int32) (g0 : Int32) (g1 : Int32) (h : jH), 400 - l3.toInt < R4 → (-1) ≤ l2.toInt ∧ l2.toInt ≤ 4 → 0 ≤ l3.toInt ∧ l3.toInt ≤ 400 → 0 ≤ g0.toInt ∧ g0.toInt ≤ 400 → 0 ≤ g1.toInt ∧ g1.toInt ≤ 3 → (g1.toInt ≠ 3 ∨ g0.toInt ≤ 399) → jiv h 68 3 = g0 → jiv h 68 5 = g1 → jJ jSgX Dy h → jSm fp_X2_readSum_r95_c0 h0 h → jX m_X2_readSum 22 0 0 4 [(0, .ref 95), (1, .int 0), (2, .int l2), (3, .int l3)] [] h 0 0 Q) : ∀ r : Nat, ∀ (l2 : Int32) (l3 : Int32) (l4 : Int32) (l5 : Int32) (g0 : Int32) (g1 : Int32) (h : jH), 400 - l5.toInt < (r : Int) → (-1) ≤ l2.toInt ∧ l2.toInt ≤ 4 → 0 ≤ l3.toInt ∧ l3.toInt ≤ 399 → (-1) ≤ l4.toInt ∧ l4.toInt ≤ 6 → 0 ≤ l5.toInt ∧ l5.toInt ≤ 400 → 0 ≤ g0.toInt ∧ g0.toInt ≤ 400 → 0 ≤ g1.toInt ∧ g1.toInt ≤ 3 → (g1.toInt ≠ 3 ∨ g0.toInt ≤ 399) → jiv h 68 3 = g0 → jiv h 68 5 = g1 → 400 - l3.toInt ≤ R4 → jJ jSgX Dy h → jSm fp_X2_readSum_r95_c0 h0 h → jX m_X2_readSum 22 0 0 17 [(0, .ref 95), (1, .int 0), (2, .int l2), (3, .int l3), (4, .int l4), (5, .int l5)] [] h 0 0 Q := by
  intro r
  induction r with
  | zero =>
    intro l2 l3 l4 l5 g0 g1 h hm y0 y1 y2 y3 y4 y5 y6 z0 z1 m4 J Sm
    exfalso
    omega
  | succ r ih =>
    intro l2 l3 l4 l5 g0 g1 h hm y0 y1 y2 y3 y4 y5 y6 z0 z1 m4 J Sm
    refine x_iload (x := l5) rfl rfl ?_
    refine x_sipush (v := 400) rfl ks_400 ?_
    refine x_icge (tgt := 105) rfl rfl (ti_ge rfl jk_400 ⟨fun c1 => ?_, fun c1 => ?_⟩)
    ·
      exact jX.sub (jsb_c rfl (jsb_c rfl (jsb_c rfl (jsb_c rfl jsb_n)))) (ct_X2_readSum_r95_c0_105 hD hQ k4 l2 l3 g0 g1 h (jr_of rfl (by omega)) (jr_of rfl (by omega)) (jr_of rfl (by omega)) (jr_of rfl (by omega)) (by omega) z0 z1 (by omega) J Sm)
    ·
      refine x_aloadn (x := 95) rfl rfl ?_
      refine x_iloadn (x := 0) rfl rfl ?_
      refine x_inv (N := m_X2_readFactor) (As := [.int 0]) (b := 95) (st := []) (dx9 := 21) (mc := 0) (ms := 0) (host := "") 2 rfl t_X2_readFactor ⟨Or.inl q_2_144, i_X2_readFactor.1, i_X2_readFactor.2⟩ ⟨by decide, rfl⟩ (congrArg Prod.fst (J.1.1 95 (2, 6) rfl)) rfl (by decide) rfl rfl ⟨by decide, by decide⟩ (sf_X2_readFactor_r95_c0  hD J z1 z0 (by omega)  (fun v5 h ev5 J S2 u3 u4 qu3 qu4 ru3 => ?_))
      have Sm := jSm_tr rfl Sm S2
      have eu3 := (show 0 ≤ u3.toInt ∧ u3.toInt ≤ 3 from qu3 ▸ jrg_f J sg_68_5_6_1_0_1)
      have eu4 := (show 0 ≤ u4.toInt ∧ u4.toInt ≤ 400 from qu4 ▸ jrg_f J sg_68_3_4_1_0_1)
      show jX m_X2_readSum 22 0 0 30 [(0, .ref 95), (1, .int 0), (2, .int l2), (3, .int l3), (4, .int l4), (5, .int l5)] [.int v5] _ 0 0 _
      refine x_ifne (tgt := 35) rfl rfl (ti_ne rfl jk_0 ⟨fun c6 => ?_, fun c6 => ?_⟩)
      ·
        refine x_iload (x := l4) rfl rfl ?_
        refine x_iconst (v := (-1)) rfl ki_m1 ?_
        refine x_iceq (tgt := 47) rfl rfl (ti_eq rfl jk_m1 ⟨fun c7 => ?_, fun c7 => ?_⟩)
        ·
          exact jX.sub (jsb_c rfl (jsb_c rfl (jsb_c rfl (jsb_c rfl (jsb_c rfl jsb_n))))) (ct_X2_readSum_r95_c0_47 hD hQ k4 ih l2 l3 l5 u4 u3 h (jr_of rfl (by omega)) (jr_of rfl (by omega)) (jr_of rfl (by omega)) (jr_of rfl (by omega)) (jr_of rfl (by omega)) (by omega) qu4 qu3 (by omega) (by omega) J Sm)
        ·
          refine x_aloadn (x := 95) rfl rfl ?_
          refine x_iload (x := l4) rfl rfl ?_
          refine x_inv (N := m_X2_emit) (As := [.int l4]) (b := 95) (st := []) (dx9 := 1) (mc := 0) (ms := 0) (host := "") 2 rfl t_X2_emit ⟨Or.inl q_2_89, i_X2_emit.1, i_X2_emit.2⟩ ⟨by decide, rfl⟩ (congrArg Prod.fst (J.1.1 95 (2, 6) rfl)) rfl (by decide) rfl rfl ⟨by decide, by decide⟩ (sf_X2_emit_r95  hD J  (fun h J S8 => ?_))
          have Sm := jSm_tr rfl Sm S8
          show jX m_X2_readSum 22 0 0 47 [(0, .ref 95), (1, .int 0), (2, .int l2), (3, .int l3), (4, .int l4), (5, .int l5)] [] _ 0 0 _
          exact jX.sub (jsb_c rfl (jsb_c rfl (jsb_c rfl (jsb_c rfl (jsb_c rfl jsb_n))))) (ct_X2_readSum_r95_c0_47 hD hQ k4 ih l2 l3 l5 u4 u3 h (jr_of rfl (by omega)) (jr_of rfl (by omega)) (jr_of rfl (by omega)) (jr_of rfl (by omega)) (jr_of rfl (by omega)) (by omega) (jmc S8 rfl qu4) (jmc S8 rfl qu3) (by omega) (by omega) J Sm)
      ·
        refine x_iconst (v := 0) rfl ki_0 ?_
        refine x_zret rfl rfl (by decide) ?_
        exact hQ _ _ (jr_of jk_0 (by omega)) J Sm _ _ qu3 qu4 (by omega)
set_option maxRecDepth 100000 in
set_option maxHeartbeats 4000000 in
theorem ct_X2_readSum_r95_c0_4 {Dy : jH → Prop} {h0 : jH} {Q : Option Value → jH → Prop} (hD : jDk Dy) (hQ : ∀ (v : Int32) hx9, 0 ≤ v.toInt ∧ v.toInt ≤ 1 → jJ jSgX Dy hx9 → jSm fp_X2_readSum_r95_c0 h0 hx9 → ∀ u0 u1 : Int32, jiv hx9 68 5 = u0 → jiv hx9 68 3 = u1 → (u0.toInt ≠ 3 ∨ u1.toInt ≤ 399) → Q (some (.int v)) hx9) : ∀ r : Nat, ∀ (l2 : Int32) (l3 : Int32) (g0 : Int32) (g1 : Int32) (h : jH), 400 - l3.toInt < (r : Int) → (-1) ≤ l2.toInt ∧ l2.toInt ≤ 4 → 0 ≤ l3.toInt ∧ l3.toInt ≤ 400 → 0 ≤ g0.toInt ∧ g0.toInt ≤ 400 → 0 ≤ g1.toInt ∧ g1.toInt ≤ 3 → (g1.toInt ≠ 3 ∨ g0.toInt ≤ 399) → jiv h 68 3 = g0 → jiv h 68 5 = g1 → jJ jSgX Dy h → jSm fp_X2_readSum_r95_c0 h0 h → jX m_X2_readSum 22 0 0 4 [(0, .ref 95), (1, .int 0), (2, .int l2), (3, .int l3)] [] h 0 0 Q := by
  intro r
  induction r with
  | zero =>
    intro l2 l3 g0 g1 h hm y0 y1 y2 y3 y4 z0 z1  J Sm
    exfalso
    omega
  | succ r ih =>
    intro l2 l3 g0 g1 h hm y0 y1 y2 y3 y4 z0 z1  J Sm
    refine x_iloadn (x := l3) rfl rfl ?_
    refine x_sipush (v := 400) rfl ks_400 ?_
    refine x_icge (tgt := 169) rfl rfl (ti_ge rfl jk_400 ⟨fun c1 => ?_, fun c1 => ?_⟩)
    ·
      refine x_aloadn (x := 95) rfl rfl ?_
      refine z_getR (N := 6) (b := 68) 2 0 rfl f_2_30 rfl J rfl 12160 ⟨rfl, rfl⟩ rfl ?_
      refine x_inv (N := m_X9_blame) (As := []) (b := 68) (st := []) (dx9 := 21) (mc := 0) (ms := 0) (host := "") 9 rfl t_X9_blame ⟨Or.inl q_2_59, i_X9_blame.1, i_X9_blame.2⟩ ⟨by decide, rfl⟩ (congrArg Prod.fst (J.1.1 68 (9, 6) rfl)) rfl (by decide) rfl rfl ⟨by decide, by decide⟩ (jC.of rfl k_X9_blame rfl ?_)
      show jX m_X9_blame 21 0 0 0 [(0, .ref 68)] [] _ 0 0 _
      refine x_aloadn (x := 68) rfl rfl ?_
      refine x_aloadn (x := 68) rfl rfl ?_
      refine z_getM (N := 6) (v := g0) 9 3 rfl f_9_22 rfl J rfl z0 ?_
      refine z_putI (N := 6) (w := g0.toInt) 9 2 rfl f_9_19 rfl (jfin_no TX9 RX9 6 rfl rfl) hD J Sm rfl rfl rfl (pw_68_2 (by omega)) rfl (fun h w2 J Sm => ?_)
      refine x_iconst (v := 0) rfl ki_0 ?_
      refine x_zret rfl rfl (by decide) ?_
      show jX m_X2_readSum 22 0 0 176 [(0, .ref 95), (1, .int 0), (2, .int l2), (3, .int l3)] [.int 0] _ 0 0 _
      refine x_zret rfl rfl (by decide) ?_
      exact hQ _ _ (jr_of jk_0 (by omega)) J Sm _ _ (jmo w2 rfl z1) (jmo w2 rfl z0) (by omega)
    ·
      refine x_iconst (v := (-1)) rfl ki_m1 ?_
      refine x_istore (lsx9 := [(4, .int (-1)), (0, .ref 95), (1, .int 0), (2, .int l2), (3, .int l3)]) rfl rfl rfl ?_
      refine x_iconst (v := 0) rfl ki_0 ?_
      refine x_istore (lsx9 := [(5, .int 0), (4, .int (-1)), (0, .ref 95), (1, .int 0), (2, .int l2), (3, .int l3)]) rfl rfl rfl ?_
      exact jX.sub (jsb_c rfl (jsb_c rfl (jsb_c rfl (jsb_c rfl (jsb_c rfl (jsb_c rfl jsb_n)))))) (ct_X2_readSum_r95_c0_17 hD hQ ih 401 l2 l3 (-1) 0 g0 g1 h (by have := jk_0; omega) (jr_of rfl (by omega)) (jr_of rfl (by omega)) (jr_of jk_m1 (by omega)) (jr_of jk_0 (by omega)) (jr_of rfl (by omega)) (jr_of rfl (by omega)) (by omega) z0 z1 (by omega) J Sm)
set_option maxRecDepth 100000 in
set_option maxHeartbeats 4000000 in
theorem sf_X2_readSum_r95_c0 {Dy : jH → Prop} {h : jH} {Q : Option Value → jH → Prop} (hD : jDk Dy) (J : jJ jSgX Dy h) {p0 p1 : Int32} (zp0 : jiv h 68 5 = p0) (zp1 : jiv h 68 3 = p1) (rl_p0 : (p0.toInt ≠ 3 ∨ p1.toInt ≤ 399)) (hQ : ∀ (v : Int32) hx9, 0 ≤ v.toInt ∧ v.toInt ≤ 1 → jJ jSgX Dy hx9 → jSm fp_X2_readSum_r95_c0 h hx9 → ∀ u0 u1 : Int32, jiv hx9 68 5 = u0 → jiv hx9 68 3 = u1 → (u0.toInt ≠ 3 ∨ u1.toInt ≤ 399) → Q (some (.int v)) hx9) : jC m_X2_readSum 22 0 0 [.ref 95, .int 0] h Q := by
  refine jC.of rfl k_X2_readSum rfl ?_
  have Sm := jSm_rf fp_X2_readSum_r95_c0 h
  have ep0 := (show 0 ≤ p0.toInt ∧ p0.toInt ≤ 3 from zp0 ▸ jrg_f J sg_68_5_6_1_0_1)
  have ep1 := (show 0 ≤ p1.toInt ∧ p1.toInt ≤ 400 from zp1 ▸ jrg_f J sg_68_3_4_1_0_1)
  show jX m_X2_readSum 22 0 0 0 [(0, .ref 95), (1, .int 0)] [] _ 0 0 _
  refine x_iconst (v := (-1)) rfl ki_m1 ?_
  refine x_istoren (lsx9 := [(2, .int (-1)), (0, .ref 95), (1, .int 0)]) rfl rfl rfl ?_
  refine x_iconst (v := 0) rfl ki_0 ?_
  refine x_istoren (lsx9 := [(3, .int 0), (2, .int (-1)), (0, .ref 95), (1, .int 0)]) rfl rfl rfl ?_
  exact jX.sub (jsb_c rfl (jsb_c rfl (jsb_c rfl (jsb_c rfl jsb_n)))) (ct_X2_readSum_r95_c0_4 hD hQ  401 (-1) 0 p1 p0 h (by have := jk_0; omega) (jr_of jk_m1 (by omega)) (jr_of jk_0 (by omega)) (jr_of rfl (by omega)) (jr_of rfl (by omega)) (by omega) zp1 zp0 J Sm)
def fp_X2_land_r95 : jFp := [(97, 0, 1200)]
set_option maxRecDepth 100000 in
set_option maxHeartbeats 4000000 in
theorem ct_X2_land_r95_22 {Dy : jH → Prop} {h0 : jH} {Q : Option Value → jH → Prop} (hD : jDk Dy) (hQ : ∀ hx9, jJ jSgX Dy hx9 → jSm fp_X2_land_r95 h0 hx9 → Q none hx9) : ∀ (h : jH), jJ jSgX Dy h → jSm fp_X2_land_r95 h0 h → jX m_X2_land 1 0 0 22 [] [] h 0 0 Q := by
  intro  h    J Sm
  refine x_vret rfl rfl ?_
  exact hQ _ J Sm
set_option maxRecDepth 100000 in
set_option maxHeartbeats 4000000 in
theorem sf_X2_land_r95 {Dy : jH → Prop} {h : jH} {Q : Option Value → jH → Prop} {a1 : Int32} (y1 : (-1) ≤ a1.toInt ∧ a1.toInt ≤ 1199) (hD : jDk Dy) (J : jJ jSgX Dy h) (hQ : ∀ hx9, jJ jSgX Dy hx9 → jSm fp_X2_land_r95 h hx9 → Q none hx9) : jC m_X2_land 1 0 0 [.ref 95, .int a1] h Q := by
  refine jC.of rfl k_X2_land rfl ?_
  have Sm := jSm_rf fp_X2_land_r95 h
  show jX m_X2_land 1 0 0 0 [(0, .ref 95), (1, .int a1)] [] _ 0 0 _
  refine x_iloadn (x := a1) rfl rfl ?_
  refine x_iflt (tgt := 22) rfl rfl (ti_lt rfl jk_0 ⟨fun c1 => ?_, fun c1 => ?_⟩)
  ·
    exact jX.sub jsb_n (ct_X2_land_r95_22 hD hQ  h J Sm)
  ·
    refine x_iloadn (x := a1) rfl rfl ?_
    refine x_aloadn (x := 95) rfl rfl ?_
    refine z_getI (N := 6) 2 4 rfl f_2_24 rfl J rfl sg_95_4_5_1_0_1 (fun v2 qv2 ev2 => ?_)
    refine x_icge (tgt := 22) rfl rfl (ti_ge rfl rfl ⟨fun c3 => ?_, fun c3 => ?_⟩)
    ·
      exact jX.sub jsb_n (ct_X2_land_r95_22 hD hQ  h J Sm)
    ·
      refine x_aloadn (x := 95) rfl rfl ?_
      refine z_getR (N := 6) (b := 97) 2 2 rfl f_2_17 rfl J rfl 12162 ⟨rfl, rfl⟩ rfl ?_
      refine x_iloadn (x := a1) rfl rfl ?_
      refine x_aloadn (x := 95) rfl rfl ?_
      refine z_getM (N := 6) (v := v2) 2 4 rfl f_2_24 rfl J rfl qv2 ?_
      refine z_iast (N := 1200) (l := 0) (u := 1200) (w := v2.toInt) rfl hD J Sm rfl rfl rfl (by omega) rfl (wr_97) rfl (fun h w4 J Sm => ?_)
      exact jX.sub jsb_n (ct_X2_land_r95_22 hD hQ  h J Sm)
def fp_X2_leap_r95 : jFp := [(95, 4, 5), (97, 0, 1200)]
set_option maxRecDepth 100000 in
set_option maxHeartbeats 4000000 in
theorem sf_X2_leap_r95 {Dy : jH → Prop} {h : jH} {Q : Option Value → jH → Prop} {a1 : Int32} (y1 : 11 ≤ a1.toInt ∧ a1.toInt ≤ 12) (hD : jDk Dy) (J : jJ jSgX Dy h) (hQ : ∀ (v : Int32) hx9, (-1) ≤ v.toInt ∧ v.toInt ≤ 1199 → jJ jSgX Dy hx9 → jSm fp_X2_leap_r95 h hx9 → Q (some (.int v)) hx9) : jC m_X2_leap 2 0 0 [.ref 95, .int a1] h Q := by
  refine jC.of rfl k_X2_leap rfl ?_
  have Sm := jSm_rf fp_X2_leap_r95 h
  show jX m_X2_leap 2 0 0 0 [(0, .ref 95), (1, .int a1)] [] _ 0 0 _
  refine x_aloadn (x := 95) rfl rfl ?_
  refine x_iloadn (x := a1) rfl rfl ?_
  refine x_inv (N := m_X2_emit) (As := [.int a1]) (b := 95) (st := []) (dx9 := 1) (mc := 0) (ms := 0) (host := "") 2 rfl t_X2_emit ⟨Or.inl q_2_89, i_X2_emit.1, i_X2_emit.2⟩ ⟨by decide, rfl⟩ (congrArg Prod.fst (J.1.1 95 (2, 6) rfl)) rfl (by decide) rfl rfl ⟨by decide, by decide⟩ (sf_X2_emit_r95  hD J  (fun h J S1 => ?_))
  have Sm := jSm_tr rfl Sm S1
  show jX m_X2_leap 2 0 0 5 [(0, .ref 95), (1, .int a1)] [] _ 0 0 _
  refine x_aloadn (x := 95) rfl rfl ?_
  refine x_iconst (v := 0) rfl ki_0 ?_
  refine x_inv (N := m_X2_emit) (As := [.int 0]) (b := 95) (st := []) (dx9 := 1) (mc := 0) (ms := 0) (host := "") 2 rfl t_X2_emit ⟨Or.inl q_2_89, i_X2_emit.1, i_X2_emit.2⟩ ⟨by decide, rfl⟩ (congrArg Prod.fst (J.1.1 95 (2, 6) rfl)) rfl (by decide) rfl rfl ⟨by decide, by decide⟩ (sf_X2_emit_r95  hD J  (fun h J S2 => ?_))
  have Sm := jSm_tr rfl Sm S2
  show jX m_X2_leap 2 0 0 10 [(0, .ref 95), (1, .int a1)] [] _ 0 0 _
  refine x_aloadn (x := 95) rfl rfl ?_
  refine z_getI (N := 6) 2 4 rfl f_2_24 rfl J rfl sg_95_4_5_1_0_1 (fun v3 qv3 ev3 => ?_)
  refine x_iconst (v := 1) rfl ki_1 ?_
  refine z_isub rfl rfl jk_1 (by omega) (fun v4 ev4 => ?_)
  refine x_iret rfl rfl ?_
  exact hQ _ _ (jr_of rfl (by omega)) J Sm
def fp_X9_wordOf_r68_r14 : jFp := []
set_option maxRecDepth 100000 in
set_option maxHeartbeats 4000000 in
theorem ct_X9_wordOf_r68_r14_110 {Dy : jH → Prop} {h0 : jH} {Q : Option Value → jH → Prop} {R23 : Int} (hD : jDk Dy) (hQ : ∀ (v : Int32) hx9, jJ jSgX Dy hx9 → jSm fp_X9_wordOf_r68_r14 h0 hx9 → Q (some (.int v)) hx9) (k23 : ∀ (l2 : Int32) (l3 : Int32) (l4 : Int32) (l5 : Int32) (g0 : Int32) (h : jH), 4 - l5.toInt < R23 → 0 ≤ l3.toInt ∧ l3.toInt ≤ 404 → 0 ≤ l4.toInt ∧ l4.toInt ≤ 1 → 0 ≤ l5.toInt ∧ l5.toInt ≤ 4 → 0 ≤ g0.toInt ∧ g0.toInt ≤ 400 → l3.toInt - l5.toInt ≤ 400 → jiv h 68 3 = g0 → jJ jSgX Dy h → jSm fp_X9_wordOf_r68_r14 h0 h → jX m_X9_wordOf 4 0 0 23 [(0, .ref 68), (1, .ref 14), (2, .int l2), (3, .int l3), (4, .int l4), (5, .int l5)] [] h 0 0 Q) : ∀ (l2 : Int32) (l3 : Int32) (l4 : Int32) (l5 : Int32) (g0 : Int32) (h : jH), 0 ≤ l3.toInt ∧ l3.toInt ≤ 404 → 0 ≤ l4.toInt ∧ l4.toInt ≤ 1 → 0 ≤ l5.toInt ∧ l5.toInt ≤ 3 → 0 ≤ g0.toInt ∧ g0.toInt ≤ 400 → l3.toInt - l5.toInt ≤ 401 → jiv h 68 3 = g0 → 4 - l5.toInt ≤ R23 → jJ jSgX Dy h → jSm fp_X9_wordOf_r68_r14 h0 h → jX m_X9_wordOf 4 0 0 110 [(0, .ref 68), (1, .ref 14), (2, .int l2), (3, .int l3), (4, .int l4), (5, .int l5)] [] h 0 0 Q := by
  intro l2 l3 l4 l5 g0 h y0 y1 y2 y3 y4 z0 m23 J Sm
  have el2 := jfull l2
  refine z_iinc (x := l5) (lsx9 := fun v1 => [(5, .int v1), (0, .ref 68), (1, .ref 14), (2, .int l2), (3, .int l3), (4, .int l4)]) rfl rfl rfl jko_1 (by omega) rfl (fun _ => rfl) (fun v1 ev1 => ?_)
  refine x_goto (tgt := 23) rfl rfl ?_
  exact jX.sub (jsb_c rfl (jsb_c rfl (jsb_c rfl (jsb_c rfl (jsb_c rfl (jsb_c rfl jsb_n)))))) (k23 l2 l3 l4 v1 g0 h (by omega) (jr_of rfl (by omega)) (jr_of rfl (by omega)) (jr_of rfl (by omega)) (jr_of rfl (by omega)) (by omega) z0 J Sm)
set_option maxRecDepth 100000 in
set_option maxHeartbeats 4000000 in
theorem ct_X9_wordOf_r68_r14_300105 {Dy : jH → Prop} {h0 : jH} {Q : Option Value → jH → Prop} {R23 : Int} (hD : jDk Dy) (hQ : ∀ (v : Int32) hx9, jJ jSgX Dy hx9 → jSm fp_X9_wordOf_r68_r14 h0 hx9 → Q (some (.int v)) hx9) (k23 : ∀ (l2 : Int32) (l3 : Int32) (l4 : Int32) (l5 : Int32) (g0 : Int32) (h : jH), 4 - l5.toInt < R23 → 0 ≤ l3.toInt ∧ l3.toInt ≤ 404 → 0 ≤ l4.toInt ∧ l4.toInt ≤ 1 → 0 ≤ l5.toInt ∧ l5.toInt ≤ 4 → 0 ≤ g0.toInt ∧ g0.toInt ≤ 400 → l3.toInt - l5.toInt ≤ 400 → jiv h 68 3 = g0 → jJ jSgX Dy h → jSm fp_X9_wordOf_r68_r14 h0 h → jX m_X9_wordOf 4 0 0 23 [(0, .ref 68), (1, .ref 14), (2, .int l2), (3, .int l3), (4, .int l4), (5, .int l5)] [] h 0 0 Q) : ∀ (l2 : Int32) (l3 : Int32) (l5 : Int32) (g0 : Int32) (h : jH), 0 ≤ l3.toInt ∧ l3.toInt ≤ 399 → 0 ≤ l5.toInt ∧ l5.toInt ≤ 3 → 0 ≤ g0.toInt ∧ g0.toInt ≤ 400 → l3.toInt - l5.toInt ≤ 400 → jiv h 68 3 = g0 → 4 - l5.toInt ≤ R23 → jJ jSgX Dy h → jSm fp_X9_wordOf_r68_r14 h0 h → jX m_X9_wordOf 4 0 0 105 [(0, .ref 68), (1, .ref 14), (2, .int l2), (3, .int l3), (5, .int l5)] [.int 1] h 0 0 Q := by
  intro l2 l3 l5 g0 h y0 y1 y2 y3 z0 m23 J Sm
  have el2 := jfull l2
  refine x_istore (lsx9 := [(4, .int 1), (0, .ref 68), (1, .ref 14), (2, .int l2), (3, .int l3), (5, .int l5)]) rfl rfl rfl ?_
  refine z_iinc (x := l3) (lsx9 := fun v1 => [(3, .int v1), (4, .int 1), (0, .ref 68), (1, .ref 14), (2, .int l2), (5, .int l5)]) rfl rfl rfl jko_1 (by omega) rfl (fun _ => rfl) (fun v1 ev1 => ?_)
  exact jX.sub (jsb_c rfl (jsb_c rfl (jsb_c rfl (jsb_c rfl (jsb_c rfl (jsb_c rfl jsb_n)))))) (ct_X9_wordOf_r68_r14_110 hD hQ k23 l2 v1 1 l5 g0 h (jr_of rfl (by omega)) (jr_of jk_1 (by omega)) (jr_of rfl (by omega)) (jr_of rfl (by omega)) (by omega) z0 (by omega) J Sm)
set_option maxRecDepth 100000 in
set_option maxHeartbeats 4000000 in
theorem ct_X9_wordOf_r68_r14_200105 {Dy : jH → Prop} {h0 : jH} {Q : Option Value → jH → Prop} {R23 : Int} (hD : jDk Dy) (hQ : ∀ (v : Int32) hx9, jJ jSgX Dy hx9 → jSm fp_X9_wordOf_r68_r14 h0 hx9 → Q (some (.int v)) hx9) (k23 : ∀ (l2 : Int32) (l3 : Int32) (l4 : Int32) (l5 : Int32) (g0 : Int32) (h : jH), 4 - l5.toInt < R23 → 0 ≤ l3.toInt ∧ l3.toInt ≤ 404 → 0 ≤ l4.toInt ∧ l4.toInt ≤ 1 → 0 ≤ l5.toInt ∧ l5.toInt ≤ 4 → 0 ≤ g0.toInt ∧ g0.toInt ≤ 400 → l3.toInt - l5.toInt ≤ 400 → jiv h 68 3 = g0 → jJ jSgX Dy h → jSm fp_X9_wordOf_r68_r14 h0 h → jX m_X9_wordOf 4 0 0 23 [(0, .ref 68), (1, .ref 14), (2, .int l2), (3, .int l3), (4, .int l4), (5, .int l5)] [] h 0 0 Q) : ∀ (l2 : Int32) (l3 : Int32) (l5 : Int32) (g0 : Int32) (h : jH), 0 ≤ l3.toInt ∧ l3.toInt ≤ 403 → 0 ≤ l5.toInt ∧ l5.toInt ≤ 3 → 0 ≤ g0.toInt ∧ g0.toInt ≤ 400 → l3.toInt - l5.toInt ≤ 400 → jiv h 68 3 = g0 → 4 - l5.toInt ≤ R23 → jJ jSgX Dy h → jSm fp_X9_wordOf_r68_r14 h0 h → jX m_X9_wordOf 4 0 0 105 [(0, .ref 68), (1, .ref 14), (2, .int l2), (3, .int l3), (5, .int l5)] [.int 0] h 0 0 Q := by
  intro l2 l3 l5 g0 h y0 y1 y2 y3 z0 m23 J Sm
  have el2 := jfull l2
  refine x_istore (lsx9 := [(4, .int 0), (0, .ref 68), (1, .ref 14), (2, .int l2), (3, .int l3), (5, .int l5)]) rfl rfl rfl ?_
  refine z_iinc (x := l3) (lsx9 := fun v1 => [(3, .int v1), (4, .int 0), (0, .ref 68), (1, .ref 14), (2, .int l2), (5, .int l5)]) rfl rfl rfl jko_1 (by omega) rfl (fun _ => rfl) (fun v1 ev1 => ?_)
  exact jX.sub (jsb_c rfl (jsb_c rfl (jsb_c rfl (jsb_c rfl (jsb_c rfl (jsb_c rfl jsb_n)))))) (ct_X9_wordOf_r68_r14_110 hD hQ k23 l2 v1 0 l5 g0 h (jr_of rfl (by omega)) (jr_of jk_0 (by omega)) (jr_of rfl (by omega)) (jr_of rfl (by omega)) (by omega) z0 (by omega) J Sm)
set_option maxRecDepth 100000 in
set_option maxHeartbeats 4000000 in
theorem ct_X9_wordOf_r68_r14_104 {Dy : jH → Prop} {h0 : jH} {Q : Option Value → jH → Prop} {R23 : Int} (hD : jDk Dy) (hQ : ∀ (v : Int32) hx9, jJ jSgX Dy hx9 → jSm fp_X9_wordOf_r68_r14 h0 hx9 → Q (some (.int v)) hx9) (k23 : ∀ (l2 : Int32) (l3 : Int32) (l4 : Int32) (l5 : Int32) (g0 : Int32) (h : jH), 4 - l5.toInt < R23 → 0 ≤ l3.toInt ∧ l3.toInt ≤ 404 → 0 ≤ l4.toInt ∧ l4.toInt ≤ 1 → 0 ≤ l5.toInt ∧ l5.toInt ≤ 4 → 0 ≤ g0.toInt ∧ g0.toInt ≤ 400 → l3.toInt - l5.toInt ≤ 400 → jiv h 68 3 = g0 → jJ jSgX Dy h → jSm fp_X9_wordOf_r68_r14 h0 h → jX m_X9_wordOf 4 0 0 23 [(0, .ref 68), (1, .ref 14), (2, .int l2), (3, .int l3), (4, .int l4), (5, .int l5)] [] h 0 0 Q) : ∀ (l2 : Int32) (l3 : Int32) (l5 : Int32) (g0 : Int32) (h : jH), 0 ≤ l3.toInt ∧ l3.toInt ≤ 403 → 0 ≤ l5.toInt ∧ l5.toInt ≤ 3 → 0 ≤ g0.toInt ∧ g0.toInt ≤ 400 → l3.toInt - l5.toInt ≤ 400 → jiv h 68 3 = g0 → 4 - l5.toInt ≤ R23 → jJ jSgX Dy h → jSm fp_X9_wordOf_r68_r14 h0 h → jX m_X9_wordOf 4 0 0 104 [(0, .ref 68), (1, .ref 14), (2, .int l2), (3, .int l3), (5, .int l5)] [] h 0 0 Q := by
  intro l2 l3 l5 g0 h y0 y1 y2 y3 z0 m23 J Sm
  have el2 := jfull l2
  refine x_iconst (v := 0) rfl ki_0 ?_
  exact jX.sub (jsb_c rfl (jsb_c rfl (jsb_c rfl (jsb_c rfl (jsb_c rfl jsb_n))))) (ct_X9_wordOf_r68_r14_200105 hD hQ k23 l2 l3 l5 g0 h (jr_of rfl (by omega)) (jr_of rfl (by omega)) (jr_of rfl (by omega)) (by omega) z0 (by omega) J Sm)
set_option maxRecDepth 100000 in
set_option maxHeartbeats 4000000 in
theorem ct_X9_wordOf_r68_r14_62 {Dy : jH → Prop} {h0 : jH} {Q : Option Value → jH → Prop} {R23 : Int} (hD : jDk Dy) (hQ : ∀ (v : Int32) hx9, jJ jSgX Dy hx9 → jSm fp_X9_wordOf_r68_r14 h0 hx9 → Q (some (.int v)) hx9) (k23 : ∀ (l2 : Int32) (l3 : Int32) (l4 : Int32) (l5 : Int32) (g0 : Int32) (h : jH), 4 - l5.toInt < R23 → 0 ≤ l3.toInt ∧ l3.toInt ≤ 404 → 0 ≤ l4.toInt ∧ l4.toInt ≤ 1 → 0 ≤ l5.toInt ∧ l5.toInt ≤ 4 → 0 ≤ g0.toInt ∧ g0.toInt ≤ 400 → l3.toInt - l5.toInt ≤ 400 → jiv h 68 3 = g0 → jJ jSgX Dy h → jSm fp_X9_wordOf_r68_r14 h0 h → jX m_X9_wordOf 4 0 0 23 [(0, .ref 68), (1, .ref 14), (2, .int l2), (3, .int l3), (4, .int l4), (5, .int l5)] [] h 0 0 Q) : ∀ (l2 : Int32) (l5 : Int32) (g0 : Int32) (h : jH), 0 ≤ l5.toInt ∧ l5.toInt ≤ 3 → 0 ≤ g0.toInt ∧ g0.toInt ≤ 400 → jiv h 68 3 = g0 → 4 - l5.toInt ≤ R23 → jJ jSgX Dy h → jSm fp_X9_wordOf_r68_r14 h0 h → jX m_X9_wordOf 4 0 0 62 [(0, .ref 68), (1, .ref 14), (2, .int l2), (5, .int l5)] [] h 0 0 Q := by
  intro l2 l5 g0 h y0 y1 z0 m23 J Sm
  have el2 := jfull l2
  refine z_iinc0 (x := l2) (lsx9 := fun v1 => [(2, .int v1), (0, .ref 68), (1, .ref 14), (5, .int l5)]) rfl rfl rfl (fun _ => rfl) (fun v1 => ?_)
  have ev1 := jfull v1
  refine x_aloadn (x := 68) rfl rfl ?_
  refine z_getM (N := 6) (v := g0) 9 3 rfl f_9_22 rfl J rfl z0 ?_
  refine x_istoren (lsx9 := [(3, .int g0), (2, .int v1), (0, .ref 68), (1, .ref 14), (5, .int l5)]) rfl rfl rfl ?_
  refine x_iconst (v := 1) rfl ki_1 ?_
  refine x_istore (lsx9 := [(4, .int 1), (3, .int g0), (2, .int v1), (0, .ref 68), (1, .ref 14), (5, .int l5)]) rfl rfl rfl ?_
  refine x_goto (tgt := 110) rfl rfl ?_
  exact jX.sub (jsb_c rfl (jsb_c rfl (jsb_c rfl (jsb_c rfl (jsb_c rfl (jsb_c rfl jsb_n)))))) (ct_X9_wordOf_r68_r14_110 hD hQ k23 v1 g0 1 l5 g0 h (jr_of rfl (by omega)) (jr_of jk_1 (by omega)) (jr_of rfl (by omega)) (jr_of rfl (by omega)) (by omega) z0 (by omega) J Sm)
set_option maxRecDepth 100000 in
set_option maxHeartbeats 4000000 in
theorem ct_X9_wordOf_r68_r14_23 {Dy : jH → Prop} {h0 : jH} {Q : Option Value → jH → Prop} (hD : jDk Dy) (hQ : ∀ (v : Int32) hx9, jJ jSgX Dy hx9 → jSm fp_X9_wordOf_r68_r14 h0 hx9 → Q (some (.int v)) hx9) : ∀ r : Nat, ∀ (l2 : Int32) (l3 : Int32) (l4 : Int32) (l5 : Int32) (g0 : Int32) (h : jH), 4 - l5.toInt < (r : Int) → 0 ≤ l3.toInt ∧ l3.toInt ≤ 404 → 0 ≤ l4.toInt ∧ l4.toInt ≤ 1 → 0 ≤ l5.toInt ∧ l5.toInt ≤ 4 → 0 ≤ g0.toInt ∧ g0.toInt ≤ 400 → l3.toInt - l5.toInt ≤ 400 → jiv h 68 3 = g0 → jJ jSgX Dy h → jSm fp_X9_wordOf_r68_r14 h0 h → jX m_X9_wordOf 4 0 0 23 [(0, .ref 68), (1, .ref 14), (2, .int l2), (3, .int l3), (4, .int l4), (5, .int l5)] [] h 0 0 Q := by
  intro r
  induction r with
  | zero =>
    intro l2 l3 l4 l5 g0 h hm y0 y1 y2 y3 y4 z0  J Sm
    exfalso
    have el2 := jfull l2
    omega
  | succ r ih =>
    intro l2 l3 l4 l5 g0 h hm y0 y1 y2 y3 y4 z0  J Sm
    have el2 := jfull l2
    refine x_iload (x := l5) rfl rfl ?_
    refine x_aloadn (x := 14) rfl rfl ?_
    refine x_invS (N := m_J0_length_8abf5) (i := 9) (As := []) (st := [.int l5]) (dx9 := 1) (by decide) rfl t_J0_length_8abf5 ⟨q_9_38, i_J0_length_8abf5.1, i_J0_length_8abf5.2⟩ rfl rfl (by decide) rfl rfl (zc_slen (N := 4) (v := 4) rfl J rfl rfl (by decide) ?_)
    show jX m_X9_wordOf 4 0 0 29 [(0, .ref 68), (1, .ref 14), (2, .int l2), (3, .int l3), (4, .int l4), (5, .int l5)] [.int 4, .int l5] _ 0 0 _
    refine x_icge (tgt := 116) rfl rfl (ti_ge rfl jk_4 ⟨fun c1 => ?_, fun c1 => ?_⟩)
    ·
      refine x_iconst (v := (-1)) rfl ki_m1 ?_
      refine x_iret rfl rfl ?_
      exact hQ _ _ J Sm
    ·
      refine x_aloadn (x := 14) rfl rfl ?_
      refine x_iload (x := l5) rfl rfl ?_
      refine x_invS (N := m_J0_charAt_5068e) (i := 9) (As := [.int l5]) (st := []) (dx9 := 3) (by decide) rfl t_J0_charAt_5068e ⟨q_9_43, i_J0_charAt_5068e.1, i_J0_charAt_5068e.2⟩ rfl rfl (by decide) rfl rfl (zc_schar (N := 4) rfl J rfl rfl rfl (by omega) (fun v2 ev2 => ?_))
      show jX m_X9_wordOf 4 0 0 38 [(0, .ref 68), (1, .ref 14), (2, .int l2), (3, .int l3), (4, .int l4), (5, .int l5)] [.int v2] _ 0 0 _
      refine x_istore (lsx9 := [(6, .int v2), (0, .ref 68), (1, .ref 14), (2, .int l2), (3, .int l3), (4, .int l4), (5, .int l5)]) rfl rfl rfl ?_
      refine x_iload (x := v2) rfl rfl ?_
      refine x_bipush (v := 32) rfl kb_32 ?_
      refine x_icne (tgt := 76) rfl rfl (ti_ne rfl jk_32 ⟨fun c3 => ?_, fun c3 => ?_⟩)
      ·
        refine x_iload (x := l4) rfl rfl ?_
        refine x_ifeq (tgt := 104) rfl rfl (ti_eq rfl jk_0 ⟨fun c4 => ?_, fun c4 => ?_⟩)
        ·
          exact jX.sub (jsb_c rfl (jsb_c rfl (jsb_c rfl (jsb_c rfl (jsb_c rfl jsb_n))))) (ct_X9_wordOf_r68_r14_104 hD hQ ih l2 l3 l5 g0 h (jr_of rfl (by omega)) (jr_of rfl (by omega)) (jr_of rfl (by omega)) (by omega) z0 (by omega) J Sm)
        ·
          refine x_iloadn (x := l3) rfl rfl ?_
          refine x_aloadn (x := 68) rfl rfl ?_
          refine z_getI (N := 6) 9 4 rfl f_9_25 rfl J rfl sg_68_4_5_1_0_1 (fun v5 qv5 ev5 => ?_)
          refine x_icge (tgt := 104) rfl rfl (ti_ge rfl rfl ⟨fun c6 => ?_, fun c6 => ?_⟩)
          ·
            exact jX.sub (jsb_c rfl (jsb_c rfl (jsb_c rfl (jsb_c rfl (jsb_c rfl jsb_n))))) (ct_X9_wordOf_r68_r14_104 hD hQ ih l2 l3 l5 g0 h (jr_of rfl (by omega)) (jr_of rfl (by omega)) (jr_of rfl (by omega)) (by omega) z0 (by omega) J Sm)
          ·
            refine x_aloadn (x := 68) rfl rfl ?_
            refine z_getR (N := 6) (b := 69) 9 0 rfl f_9_11 rfl J rfl 8704 ⟨rfl, rfl⟩ rfl ?_
            refine x_iloadn (x := l3) rfl rfl ?_
            refine z_iald (N := 400) rfl J rfl sg_69_0_400_1_0_1 rfl (by omega) (fun v7 qv7 ev7 => ?_)
            refine x_iload (x := v2) rfl rfl ?_
            refine x_icne (tgt := 104) rfl rfl (ti_ne rfl rfl ⟨fun c8 => ?_, fun c8 => ?_⟩)
            ·
              exact jX.sub (jsb_c rfl (jsb_c rfl (jsb_c rfl (jsb_c rfl (jsb_c rfl jsb_n))))) (ct_X9_wordOf_r68_r14_104 hD hQ ih l2 l3 l5 g0 h (jr_of rfl (by omega)) (jr_of rfl (by omega)) (jr_of rfl (by omega)) (by omega) z0 (by omega) J Sm)
            ·
              refine x_iconst (v := 1) rfl ki_1 ?_
              refine x_goto (tgt := 105) rfl rfl ?_
              exact jX.sub (jsb_c rfl (jsb_c rfl (jsb_c rfl (jsb_c rfl (jsb_c rfl jsb_n))))) (ct_X9_wordOf_r68_r14_300105 hD hQ ih l2 l3 l5 g0 h (jr_of rfl (by omega)) (jr_of rfl (by omega)) (jr_of rfl (by omega)) (by omega) z0 (by omega) J Sm)
      ·
        refine x_iload (x := l4) rfl rfl ?_
        refine x_ifeq (tgt := 62) rfl rfl (ti_eq rfl jk_0 ⟨fun c9 => ?_, fun c9 => ?_⟩)
        ·
          exact jX.sub (jsb_c rfl (jsb_c rfl (jsb_c rfl (jsb_c rfl jsb_n)))) (ct_X9_wordOf_r68_r14_62 hD hQ ih l2 l5 g0 h (jr_of rfl (by omega)) (jr_of rfl (by omega)) z0 (by omega) J Sm)
        ·
          refine x_iloadn (x := l3) rfl rfl ?_
          refine x_aloadn (x := 68) rfl rfl ?_
          refine z_getI (N := 6) 9 4 rfl f_9_25 rfl J rfl sg_68_4_5_1_0_1 (fun v10 qv10 ev10 => ?_)
          refine x_icne (tgt := 62) rfl rfl (ti_ne rfl rfl ⟨fun c11 => ?_, fun c11 => ?_⟩)
          ·
            exact jX.sub (jsb_c rfl (jsb_c rfl (jsb_c rfl (jsb_c rfl jsb_n)))) (ct_X9_wordOf_r68_r14_62 hD hQ ih l2 l5 g0 h (jr_of rfl (by omega)) (jr_of rfl (by omega)) z0 (by omega) J Sm)
          ·
            refine x_iloadn (x := l2) rfl rfl ?_
            refine x_iret rfl rfl ?_
            exact hQ _ _ J Sm
set_option maxRecDepth 100000 in
set_option maxHeartbeats 4000000 in
theorem sf_X9_wordOf_r68_r14 {Dy : jH → Prop} {h : jH} {Q : Option Value → jH → Prop} (hD : jDk Dy) (J : jJ jSgX Dy h) (hQ : ∀ (v : Int32) hx9, jJ jSgX Dy hx9 → jSm fp_X9_wordOf_r68_r14 h hx9 → Q (some (.int v)) hx9) : jC m_X9_wordOf 4 0 0 [.ref 68, .ref 14] h Q := by
  refine jC.of rfl k_X9_wordOf rfl ?_
  have Sm := jSm_rf fp_X9_wordOf_r68_r14 h
  show jX m_X9_wordOf 4 0 0 0 [(0, .ref 68), (1, .ref 14)] [] _ 0 0 _
  refine x_aloadn (x := 68) rfl rfl ?_
  refine z_getI (N := 6) 9 5 rfl f_9_28 rfl J rfl sg_68_5_6_1_0_1 (fun v1 qv1 ev1 => ?_)
  refine x_iconst (v := 1) rfl ki_1 ?_
  refine x_iceq (tgt := 10) rfl rfl (ti_eq rfl jk_1 ⟨fun c2 => ?_, fun c2 => ?_⟩)
  ·
    refine x_iconst (v := 0) rfl ki_0 ?_
    refine x_istoren (lsx9 := [(2, .int 0), (0, .ref 68), (1, .ref 14)]) rfl rfl rfl ?_
    refine x_aloadn (x := 68) rfl rfl ?_
    refine z_getI (N := 6) 9 3 rfl f_9_22 rfl J rfl sg_68_3_4_1_0_1 (fun v3 qv3 ev3 => ?_)
    refine x_istoren (lsx9 := [(3, .int v3), (2, .int 0), (0, .ref 68), (1, .ref 14)]) rfl rfl rfl ?_
    refine x_iconst (v := 1) rfl ki_1 ?_
    refine x_istore (lsx9 := [(4, .int 1), (3, .int v3), (2, .int 0), (0, .ref 68), (1, .ref 14)]) rfl rfl rfl ?_
    refine x_iconst (v := 0) rfl ki_0 ?_
    refine x_istore (lsx9 := [(5, .int 0), (4, .int 1), (3, .int v3), (2, .int 0), (0, .ref 68), (1, .ref 14)]) rfl rfl rfl ?_
    exact jX.sub (jsb_c rfl (jsb_c rfl (jsb_c rfl (jsb_c rfl (jsb_c rfl (jsb_c rfl jsb_n)))))) (ct_X9_wordOf_r68_r14_23 hD hQ  5 0 v3 1 0 v3 h (by have := jk_0; omega) (jr_of rfl (by omega)) (jr_of jk_1 (by omega)) (jr_of jk_0 (by omega)) (jr_of rfl (by omega)) (by have := jk_0; omega) qv3 J Sm)
  ·
    refine x_iconst (v := (-1)) rfl ki_m1 ?_
    refine x_iret rfl rfl ?_
    exact hQ _ _ J Sm
