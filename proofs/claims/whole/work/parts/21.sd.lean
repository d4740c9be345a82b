def fp_X12_guessFilled_r125 : jFp := []
set_option maxRecDepth 100000 in
set_option maxHeartbeats 4000000 in
theorem ct_X12_guessFilled_r125_220 {Dy : jH → Prop} {h0 : jH} {Q : Option Value → jH → Prop} (hD : jDk Dy) (hQ : ∀ (v : Int32) h', jJ jSgM Dy h' → jSm fp_X12_guessFilled_r125 h0 h' → Q (some (.int v)) h') : ∀ (s0 : Int32) (h : jH), jJ jSgM Dy h → jSm fp_X12_guessFilled_r125 h0 h → jX m_X12_guessFilled 3 0 0 220 [] [.int s0] h 0 0 Q := by
  intro s0 h    J Sm
  have es0 := jfull s0
  refine x_iret rfl rfl ?_
  exact hQ _ _ J Sm
set_option maxRecDepth 100000 in
set_option maxHeartbeats 4000000 in
theorem ct_X12_guessFilled_r125_200220 {Dy : jH → Prop} {h0 : jH} {Q : Option Value → jH → Prop} (hD : jDk Dy) (hQ : ∀ (v : Int32) h', jJ jSgM Dy h' → jSm fp_X12_guessFilled_r125 h0 h' → Q (some (.int v)) h') : ∀ (h : jH), jJ jSgM Dy h → jSm fp_X12_guessFilled_r125 h0 h → jX m_X12_guessFilled 3 0 0 220 [] [.int 0] h 0 0 Q := by
  intro  h    J Sm
  refine x_iret rfl rfl ?_
  exact hQ _ _ J Sm
set_option maxRecDepth 100000 in
set_option maxHeartbeats 4000000 in
theorem ct_X12_guessFilled_r125_176 {Dy : jH → Prop} {h0 : jH} {Q : Option Value → jH → Prop} {R70 : Int} (hD : jDk Dy) (hQ : ∀ (v : Int32) h', jJ jSgM Dy h' → jSm fp_X12_guessFilled_r125 h0 h' → Q (some (.int v)) h') (k70 : ∀ (l1 : Int32) (l2 : Int32) (l3 : Int32) (l4 : Int64) (l6 : Int64) (l8 : Int32) (h : jH), 200 - l8.toInt < R70 → 0 ≤ l1.toInt ∧ l1.toInt ≤ 5 → 0 ≤ l2.toInt ∧ l2.toInt ≤ 146399 → 0 ≤ l3.toInt ∧ l3.toInt ≤ 146399 → 0 ≤ l4.toInt ∧ l4.toInt ≤ 153719 → 0 ≤ l8.toInt ∧ l8.toInt ≤ 200 → jJ jSgM Dy h → jSm fp_X12_guessFilled_r125 h0 h → jX m_X12_guessFilled 3 0 0 70 [(0, .ref 125), (1, .int l1), (2, .int l2), (3, .int l3), (4, .long l4), (6, .long l6), (8, .int l8)] [] h 0 0 Q) : ∀ (l1 : Int32) (l2 : Int32) (l3 : Int32) (l4 : Int64) (l8 : Int32) (s0 : Int64) (s1 : Int64) (h : jH), 0 ≤ l1.toInt ∧ l1.toInt ≤ 5 → 0 ≤ l2.toInt ∧ l2.toInt ≤ 146399 → 0 ≤ l3.toInt ∧ l3.toInt ≤ 146399 → 0 ≤ l4.toInt ∧ l4.toInt ≤ 153719 → 0 ≤ l8.toInt ∧ l8.toInt ≤ 199 → 0 ≤ s0.toInt ∧ s0.toInt ≤ 1 → 200 - l8.toInt ≤ R70 → jJ jSgM Dy h → jSm fp_X12_guessFilled_r125 h0 h → jX m_X12_guessFilled 3 0 0 176 [(0, .ref 125), (1, .int l1), (2, .int l2), (3, .int l3), (4, .long l4), (8, .int l8)] [.long s0, .long s1] h 0 0 Q := by
  intro l1 l2 l3 l4 l8 s0 s1 h y0 y1 y2 y3 y4 y5  m70 J Sm
  have es1 := jfullL s1
  refine z_ladd0 rfl (fun v1 => ?_)
  have ev1 := jfullL v1
  refine x_lstore (ls' := [(6, .long v1), (0, .ref 125), (1, .int l1), (2, .int l2), (3, .int l3), (4, .long l4), (8, .int l8)]) rfl rfl rfl ?_
  refine z_iinc (x := l8) (ls' := fun v2 => [(8, .int v2), (6, .long v1), (0, .ref 125), (1, .int l1), (2, .int l2), (3, .int l3), (4, .long l4)]) rfl rfl rfl jko_1 (by omega) rfl (fun _ => rfl) (fun v2 ev2 => ?_)
  refine x_goto (tgt := 70) rfl rfl ?_
  exact jX.sub (jsb_c rfl (jsb_c rfl (jsb_c rfl (jsb_c rfl (jsb_c rfl (jsb_c rfl (jsb_c rfl jsb_n))))))) (k70 l1 l2 l3 l4 v1 v2 h (by omega) (jr_of rfl (by omega)) (jr_of rfl (by omega)) (jr_of rfl (by omega)) (jr_ofl rfl (by omega)) (jr_of rfl (by omega)) J Sm)
set_option maxRecDepth 100000 in
set_option maxHeartbeats 4000000 in
theorem ct_X12_guessFilled_r125_175 {Dy : jH → Prop} {h0 : jH} {Q : Option Value → jH → Prop} {R70 : Int} (hD : jDk Dy) (hQ : ∀ (v : Int32) h', jJ jSgM Dy h' → jSm fp_X12_guessFilled_r125 h0 h' → Q (some (.int v)) h') (k70 : ∀ (l1 : Int32) (l2 : Int32) (l3 : Int32) (l4 : Int64) (l6 : Int64) (l8 : Int32) (h : jH), 200 - l8.toInt < R70 → 0 ≤ l1.toInt ∧ l1.toInt ≤ 5 → 0 ≤ l2.toInt ∧ l2.toInt ≤ 146399 → 0 ≤ l3.toInt ∧ l3.toInt ≤ 146399 → 0 ≤ l4.toInt ∧ l4.toInt ≤ 153719 → 0 ≤ l8.toInt ∧ l8.toInt ≤ 200 → jJ jSgM Dy h → jSm fp_X12_guessFilled_r125 h0 h → jX m_X12_guessFilled 3 0 0 70 [(0, .ref 125), (1, .int l1), (2, .int l2), (3, .int l3), (4, .long l4), (6, .long l6), (8, .int l8)] [] h 0 0 Q) : ∀ (l1 : Int32) (l2 : Int32) (l3 : Int32) (l4 : Int64) (l8 : Int32) (s0 : Int64) (h : jH), 0 ≤ l1.toInt ∧ l1.toInt ≤ 5 → 0 ≤ l2.toInt ∧ l2.toInt ≤ 146399 → 0 ≤ l3.toInt ∧ l3.toInt ≤ 146399 → 0 ≤ l4.toInt ∧ l4.toInt ≤ 153719 → 0 ≤ l8.toInt ∧ l8.toInt ≤ 199 → 200 - l8.toInt ≤ R70 → jJ jSgM Dy h → jSm fp_X12_guessFilled_r125 h0 h → jX m_X12_guessFilled 3 0 0 175 [(0, .ref 125), (1, .int l1), (2, .int l2), (3, .int l3), (4, .long l4), (8, .int l8)] [.long s0] h 0 0 Q := by
  intro l1 l2 l3 l4 l8 s0 h y0 y1 y2 y3 y4  m70 J Sm
  have es0 := jfullL s0
  refine x_lconst (v := 0) rfl kl_0 ?_
  exact jX.sub (jsb_c rfl (jsb_c rfl (jsb_c rfl (jsb_c rfl (jsb_c rfl (jsb_c rfl jsb_n)))))) (ct_X12_guessFilled_r125_176 hD hQ k70 l1 l2 l3 l4 l8 0 s0 h (jr_of rfl (by omega)) (jr_of rfl (by omega)) (jr_of rfl (by omega)) (jr_ofl rfl (by omega)) (jr_of rfl (by omega)) (jr_ofl jkl_0 (by omega)) (by omega) J Sm)
set_option maxRecDepth 100000 in
set_option maxHeartbeats 4000000 in
theorem ct_X12_guessFilled_r125_300127 {Dy : jH → Prop} {h0 : jH} {Q : Option Value → jH → Prop} {R70 : Int} (hD : jDk Dy) (hQ : ∀ (v : Int32) h', jJ jSgM Dy h' → jSm fp_X12_guessFilled_r125 h0 h' → Q (some (.int v)) h') (k70 : ∀ (l1 : Int32) (l2 : Int32) (l3 : Int32) (l4 : Int64) (l6 : Int64) (l8 : Int32) (h : jH), 200 - l8.toInt < R70 → 0 ≤ l1.toInt ∧ l1.toInt ≤ 5 → 0 ≤ l2.toInt ∧ l2.toInt ≤ 146399 → 0 ≤ l3.toInt ∧ l3.toInt ≤ 146399 → 0 ≤ l4.toInt ∧ l4.toInt ≤ 153719 → 0 ≤ l8.toInt ∧ l8.toInt ≤ 200 → jJ jSgM Dy h → jSm fp_X12_guessFilled_r125 h0 h → jX m_X12_guessFilled 3 0 0 70 [(0, .ref 125), (1, .int l1), (2, .int l2), (3, .int l3), (4, .long l4), (6, .long l6), (8, .int l8)] [] h 0 0 Q) : ∀ (l1 : Int32) (l2 : Int32) (l3 : Int32) (l4 : Int64) (l6 : Int64) (l8 : Int32) (l9 : Int32) (h : jH), 0 ≤ l1.toInt ∧ l1.toInt ≤ 5 → 0 ≤ l2.toInt ∧ l2.toInt ≤ 146399 → 0 ≤ l3.toInt ∧ l3.toInt ≤ 146399 → 0 ≤ l4.toInt ∧ l4.toInt ≤ 153719 → 0 ≤ l8.toInt ∧ l8.toInt ≤ 199 → 0 ≤ l9.toInt ∧ l9.toInt ≤ 146399 → 200 - l8.toInt ≤ R70 → jJ jSgM Dy h → jSm fp_X12_guessFilled_r125 h0 h → jX m_X12_guessFilled 3 0 0 127 [(0, .ref 125), (1, .int l1), (2, .int l2), (3, .int l3), (4, .long l4), (6, .long l6), (8, .int l8), (9, .int l9)] [.int 1] h 0 0 Q := by
  intro l1 l2 l3 l4 l6 l8 l9 h y0 y1 y2 y3 y4 y5  m70 J Sm
  have el6 := jfullL l6
  refine x_istore (ls' := [(10, .int 1), (0, .ref 125), (1, .int l1), (2, .int l2), (3, .int l3), (4, .long l4), (6, .long l6), (8, .int l8), (9, .int l9)]) rfl rfl rfl ?_
  refine x_lload (x := l6) rfl rfl ?_
  refine x_aloadn (x := 125) rfl rfl ?_
  refine x_iload (x := l8) rfl rfl ?_
  refine x_inv (N := m_X12_bookOf) (As := [.int l8]) (b := 125) (st := [.long l6]) (d' := 2) (mc := 0) (ms := 0) (host := "") 12 rfl t_X12_bookOf ⟨Or.inl q_12_299, i_X12_bookOf.1, i_X12_bookOf.2⟩ ⟨by decide, rfl⟩ (congrArg Prod.fst (J.1.1 125 (12, 92) rfl)) rfl (by decide) rfl rfl ⟨by decide, by decide⟩ (jC.of rfl k_X12_bookOf rfl ?_)
  show jX m_X12_bookOf 2 0 0 0 [(0, .ref 125), (1, .int l8)] [] _ 0 0 _
  refine x_aloadn (x := 125) rfl rfl ?_
  refine z_getR (N := 92) (b := 126) 12 2 rfl f_12_8 rfl J rfl 16002 ⟨rfl, rfl⟩ rfl ?_
  refine x_aloadn (x := 125) rfl rfl ?_
  refine x_iloadn (x := l8) rfl rfl ?_
  refine x_inv (N := m_X12_at) (As := [.int l8]) (b := 125) (st := [.ref 126]) (d' := 1) (mc := 0) (ms := 0) (host := "") 12 rfl t_X12_at ⟨Or.inl q_12_254, i_X12_at.1, i_X12_at.2⟩ ⟨by decide, rfl⟩ (congrArg Prod.fst (J.1.1 125 (12, 92) rfl)) rfl (by decide) rfl rfl ⟨by decide, by decide⟩ (jC.of rfl k_X12_at rfl ?_)
  show jX m_X12_at 1 0 0 0 [(0, .ref 125), (1, .int l8)] [] _ 0 0 _
  refine x_bipush (v := 20) rfl kb_20 ?_
  refine x_bipush (v := 90) rfl kb_90 ?_
  refine x_iloadn (x := l8) rfl rfl ?_
  refine z_imul rfl jk_90 rfl (by omega) (fun v1 ev1 => ?_)
  refine z_iadd rfl jk_20 rfl (by omega) (fun v2 ev2 => ?_)
  refine x_iret rfl rfl ?_
  show jX m_X12_bookOf 2 0 0 9 [(0, .ref 125), (1, .int l8)] [.int v2, .ref 126] _ 0 0 _
  refine z_iald (N := 50660) rfl J rfl sg_126_20_18020_90_0_1 rfl (by omega) (fun v3 qv3 ev3 => ?_)
  refine x_iret rfl rfl ?_
  show jX m_X12_guessFilled 3 0 0 137 [(10, .int 1), (0, .ref 125), (1, .int l1), (2, .int l2), (3, .int l3), (4, .long l4), (6, .long l6), (8, .int l8), (9, .int l9)] [.int v3, .long l6] _ 0 0 _
  refine x_iloadn (x := l1) rfl rfl ?_
  refine x_icne (tgt := 175) rfl rfl (ti_ne rfl rfl ⟨fun c4 => ?_, fun c4 => ?_⟩)
  ·
    exact jX.sub (jsb_c rfl (jsb_c rfl (jsb_c rfl (jsb_c rfl (jsb_c rfl (jsb_c rfl jsb_n)))))) (ct_X12_guessFilled_r125_175 hD hQ k70 l1 l2 l3 l4 l8 l6 h (jr_of rfl (by omega)) (jr_of rfl (by omega)) (jr_of rfl (by omega)) (jr_ofl rfl (by omega)) (jr_of rfl (by omega)) (by omega) J Sm)
  ·
    refine x_aloadn (x := 125) rfl rfl ?_
    refine x_iload (x := l8) rfl rfl ?_
    refine x_aloadn (x := 125) rfl rfl ?_
    refine z_getI (N := 92) 12 28 rfl f_12_377 rfl J rfl sg_125_28_29_1_0_1 (fun v5 qv5 ev5 => ?_)
    refine x_inv (N := m_X12_isKnown) (As := [.int l8, .int v5]) (b := 125) (st := [.long l6]) (d' := 2) (mc := 0) (ms := 0) (host := "") 12 rfl t_X12_isKnown ⟨Or.inl q_12_383, i_X12_isKnown.1, i_X12_isKnown.2⟩ ⟨by decide, rfl⟩ (congrArg Prod.fst (J.1.1 125 (12, 92) rfl)) rfl (by decide) rfl rfl ⟨by decide, by decide⟩ (jC.of rfl k_X12_isKnown rfl ?_)
    show jX m_X12_isKnown 2 0 0 0 [(0, .ref 125), (1, .int l8), (2, .int v5)] [] _ 0 0 _
    refine x_aloadn (x := 125) rfl rfl ?_
    refine z_getR (N := 92) (b := 126) 12 2 rfl f_12_8 rfl J rfl 16002 ⟨rfl, rfl⟩ rfl ?_
    refine x_aloadn (x := 125) rfl rfl ?_
    refine x_iloadn (x := l8) rfl rfl ?_
    refine x_inv (N := m_X12_at) (As := [.int l8]) (b := 125) (st := [.ref 126]) (d' := 1) (mc := 0) (ms := 0) (host := "") 12 rfl t_X12_at ⟨Or.inl q_12_254, i_X12_at.1, i_X12_at.2⟩ ⟨by decide, rfl⟩ (congrArg Prod.fst (J.1.1 125 (12, 92) rfl)) rfl (by decide) rfl rfl ⟨by decide, by decide⟩ (jC.of rfl k_X12_at rfl ?_)
    show jX m_X12_at 1 0 0 0 [(0, .ref 125), (1, .int l8)] [] _ 0 0 _
    refine x_bipush (v := 20) rfl kb_20 ?_
    refine x_bipush (v := 90) rfl kb_90 ?_
    refine x_iloadn (x := l8) rfl rfl ?_
    refine z_imul rfl jk_90 rfl (by omega) (fun v6 ev6 => ?_)
    refine z_iadd rfl jk_20 rfl (by omega) (fun v7 ev7 => ?_)
    refine x_iret rfl rfl ?_
    show jX m_X12_isKnown 2 0 0 9 [(0, .ref 125), (1, .int l8), (2, .int v5)] [.int v7, .ref 126] _ 0 0 _
    refine x_iconst (v := 3) rfl ki_3 ?_
    refine z_iadd rfl rfl jk_3 (by omega) (fun v8 ev8 => ?_)
    refine z_iald (N := 50660) rfl J rfl sg_126_20_18020_90_3_4 rfl (by omega) (fun v9 qv9 ev9 => ?_)
    refine x_iloadn (x := v5) rfl rfl ?_
    refine x_icgt (tgt := 20) rfl rfl (ti_gt rfl rfl ⟨fun c10 => ?_, fun c10 => ?_⟩)
    ·
      refine x_iconst (v := 0) rfl ki_0 ?_
      refine x_zret rfl rfl (by decide) ?_
      show jX m_X12_guessFilled 3 0 0 151 [(10, .int 1), (0, .ref 125), (1, .int l1), (2, .int l2), (3, .int l3), (4, .long l4), (6, .long l6), (8, .int l8), (9, .int l9)] [.int 0, .long l6] _ 0 0 _
      refine x_ifeq (tgt := 175) rfl rfl (ti_eq jk_0 jk_0 (br_t (by omega) ?_))
      exact jX.sub (jsb_c rfl (jsb_c rfl (jsb_c rfl (jsb_c rfl (jsb_c rfl (jsb_c rfl jsb_n)))))) (ct_X12_guessFilled_r125_175 hD hQ k70 l1 l2 l3 l4 l8 l6 h (jr_of rfl (by omega)) (jr_of rfl (by omega)) (jr_of rfl (by omega)) (jr_ofl rfl (by omega)) (jr_of rfl (by omega)) (by omega) J Sm)
    ·
      refine x_iconst (v := 1) rfl ki_1 ?_
      refine x_goto (tgt := 21) rfl rfl ?_
      refine x_zret rfl rfl (by decide) ?_
      show jX m_X12_guessFilled 3 0 0 151 [(10, .int 1), (0, .ref 125), (1, .int l1), (2, .int l2), (3, .int l3), (4, .long l4), (6, .long l6), (8, .int l8), (9, .int l9)] [.int 1, .long l6] _ 0 0 _
      refine x_ifeq (tgt := 175) rfl rfl (ti_eq jk_1 jk_0 (br_f (by omega) ?_))
      refine x_iload (x := 1) rfl rfl ?_
      refine x_ifeq (tgt := 175) rfl rfl (ti_eq jk_1 jk_0 (br_f (by omega) ?_))
      refine x_aloadn (x := 125) rfl rfl ?_
      refine x_iloadn (x := l1) rfl rfl ?_
      refine x_iload (x := l9) rfl rfl ?_
      refine x_iload (x := l9) rfl rfl ?_
      refine x_inv (N := m_X12_isTorn) (As := [.int l1, .int l9, .int l9]) (b := 125) (st := [.long l6]) (d' := 1) (mc := 0) (ms := 0) (host := "") 12 rfl t_X12_isTorn ⟨Or.inl q_12_474, i_X12_isTorn.1, i_X12_isTorn.2⟩ ⟨by decide, rfl⟩ (congrArg Prod.fst (J.1.1 125 (12, 92) rfl)) rfl (by decide) rfl rfl ⟨by decide, by decide⟩ (sf_X12_isTorn_r125 (jr_of rfl (by omega)) (jr_of rfl (by omega)) (jr_of rfl (by omega)) hD J  (fun v12 h ev12 J S11 => ?_))
      have Sm := jSm_tr rfl Sm S11
      show jX m_X12_guessFilled 3 0 0 168 [(10, .int 1), (0, .ref 125), (1, .int l1), (2, .int l2), (3, .int l3), (4, .long l4), (6, .long l6), (8, .int l8), (9, .int l9)] [.int v12, .long l6] _ 0 0 _
      refine x_ifne (tgt := 175) rfl rfl (ti_ne rfl jk_0 ⟨fun c13 => ?_, fun c13 => ?_⟩)
      ·
        exact jX.sub (jsb_c rfl (jsb_c rfl (jsb_c rfl (jsb_c rfl (jsb_c rfl (jsb_c rfl jsb_n)))))) (ct_X12_guessFilled_r125_175 hD hQ k70 l1 l2 l3 l4 l8 l6 h (jr_of rfl (by omega)) (jr_of rfl (by omega)) (jr_of rfl (by omega)) (jr_ofl rfl (by omega)) (jr_of rfl (by omega)) (by omega) J Sm)
      ·
        refine x_lconst (v := 1) rfl kl_1 ?_
        refine x_goto (tgt := 176) rfl rfl ?_
        exact jX.sub (jsb_c rfl (jsb_c rfl (jsb_c rfl (jsb_c rfl (jsb_c rfl (jsb_c rfl jsb_n)))))) (ct_X12_guessFilled_r125_176 hD hQ k70 l1 l2 l3 l4 l8 1 l6 h (jr_of rfl (by omega)) (jr_of rfl (by omega)) (jr_of rfl (by omega)) (jr_ofl rfl (by omega)) (jr_of rfl (by omega)) (jr_ofl jkl_1 (by omega)) (by omega) J Sm)
set_option maxRecDepth 100000 in
set_option maxHeartbeats 4000000 in
theorem ct_X12_guessFilled_r125_200127 {Dy : jH → Prop} {h0 : jH} {Q : Option Value → jH → Prop} {R70 : Int} (hD : jDk Dy) (hQ : ∀ (v : Int32) h', jJ jSgM Dy h' → jSm fp_X12_guessFilled_r125 h0 h' → Q (some (.int v)) h') (k70 : ∀ (l1 : Int32) (l2 : Int32) (l3 : Int32) (l4 : Int64) (l6 : Int64) (l8 : Int32) (h : jH), 200 - l8.toInt < R70 → 0 ≤ l1.toInt ∧ l1.toInt ≤ 5 → 0 ≤ l2.toInt ∧ l2.toInt ≤ 146399 → 0 ≤ l3.toInt ∧ l3.toInt ≤ 146399 → 0 ≤ l4.toInt ∧ l4.toInt ≤ 153719 → 0 ≤ l8.toInt ∧ l8.toInt ≤ 200 → jJ jSgM Dy h → jSm fp_X12_guessFilled_r125 h0 h → jX m_X12_guessFilled 3 0 0 70 [(0, .ref 125), (1, .int l1), (2, .int l2), (3, .int l3), (4, .long l4), (6, .long l6), (8, .int l8)] [] h 0 0 Q) : ∀ (l1 : Int32) (l2 : Int32) (l3 : Int32) (l4 : Int64) (l6 : Int64) (l8 : Int32) (l9 : Int32) (h : jH), 0 ≤ l1.toInt ∧ l1.toInt ≤ 5 → 0 ≤ l2.toInt ∧ l2.toInt ≤ 146399 → 0 ≤ l3.toInt ∧ l3.toInt ≤ 146399 → 0 ≤ l4.toInt ∧ l4.toInt ≤ 153719 → 0 ≤ l8.toInt ∧ l8.toInt ≤ 199 → 0 ≤ l9.toInt ∧ l9.toInt ≤ 146399 → 200 - l8.toInt ≤ R70 → jJ jSgM Dy h → jSm fp_X12_guessFilled_r125 h0 h → jX m_X12_guessFilled 3 0 0 127 [(0, .ref 125), (1, .int l1), (2, .int l2), (3, .int l3), (4, .long l4), (6, .long l6), (8, .int l8), (9, .int l9)] [.int 0] h 0 0 Q := by
  intro l1 l2 l3 l4 l6 l8 l9 h y0 y1 y2 y3 y4 y5  m70 J Sm
  have el6 := jfullL l6
  refine x_istore (ls' := [(10, .int 0), (0, .ref 125), (1, .int l1), (2, .int l2), (3, .int l3), (4, .long l4), (6, .long l6), (8, .int l8), (9, .int l9)]) rfl rfl rfl ?_
  refine x_lload (x := l6) rfl rfl ?_
  refine x_aloadn (x := 125) rfl rfl ?_
  refine x_iload (x := l8) rfl rfl ?_
  refine x_inv (N := m_X12_bookOf) (As := [.int l8]) (b := 125) (st := [.long l6]) (d' := 2) (mc := 0) (ms := 0) (host := "") 12 rfl t_X12_bookOf ⟨Or.inl q_12_299, i_X12_bookOf.1, i_X12_bookOf.2⟩ ⟨by decide, rfl⟩ (congrArg Prod.fst (J.1.1 125 (12, 92) rfl)) rfl (by decide) rfl rfl ⟨by decide, by decide⟩ (jC.of rfl k_X12_bookOf rfl ?_)
  show jX m_X12_bookOf 2 0 0 0 [(0, .ref 125), (1, .int l8)] [] _ 0 0 _
  refine x_aloadn (x := 125) rfl rfl ?_
  refine z_getR (N := 92) (b := 126) 12 2 rfl f_12_8 rfl J rfl 16002 ⟨rfl, rfl⟩ rfl ?_
  refine x_aloadn (x := 125) rfl rfl ?_
  refine x_iloadn (x := l8) rfl rfl ?_
  refine x_inv (N := m_X12_at) (As := [.int l8]) (b := 125) (st := [.ref 126]) (d' := 1) (mc := 0) (ms := 0) (host := "") 12 rfl t_X12_at ⟨Or.inl q_12_254, i_X12_at.1, i_X12_at.2⟩ ⟨by decide, rfl⟩ (congrArg Prod.fst (J.1.1 125 (12, 92) rfl)) rfl (by decide) rfl rfl ⟨by decide, by decide⟩ (jC.of rfl k_X12_at rfl ?_)
  show jX m_X12_at 1 0 0 0 [(0, .ref 125), (1, .int l8)] [] _ 0 0 _
  refine x_bipush (v := 20) rfl kb_20 ?_
  refine x_bipush (v := 90) rfl kb_90 ?_
  refine x_iloadn (x := l8) rfl rfl ?_
  refine z_imul rfl jk_90 rfl (by omega) (fun v1 ev1 => ?_)
  refine z_iadd rfl jk_20 rfl (by omega) (fun v2 ev2 => ?_)
  refine x_iret rfl rfl ?_
  show jX m_X12_bookOf 2 0 0 9 [(0, .ref 125), (1, .int l8)] [.int v2, .ref 126] _ 0 0 _
  refine z_iald (N := 50660) rfl J rfl sg_126_20_18020_90_0_1 rfl (by omega) (fun v3 qv3 ev3 => ?_)
  refine x_iret rfl rfl ?_
  show jX m_X12_guessFilled 3 0 0 137 [(10, .int 0), (0, .ref 125), (1, .int l1), (2, .int l2), (3, .int l3), (4, .long l4), (6, .long l6), (8, .int l8), (9, .int l9)] [.int v3, .long l6] _ 0 0 _
  refine x_iloadn (x := l1) rfl rfl ?_
  refine x_icne (tgt := 175) rfl rfl (ti_ne rfl rfl ⟨fun c4 => ?_, fun c4 => ?_⟩)
  ·
    exact jX.sub (jsb_c rfl (jsb_c rfl (jsb_c rfl (jsb_c rfl (jsb_c rfl (jsb_c rfl jsb_n)))))) (ct_X12_guessFilled_r125_175 hD hQ k70 l1 l2 l3 l4 l8 l6 h (jr_of rfl (by omega)) (jr_of rfl (by omega)) (jr_of rfl (by omega)) (jr_ofl rfl (by omega)) (jr_of rfl (by omega)) (by omega) J Sm)
  ·
    refine x_aloadn (x := 125) rfl rfl ?_
    refine x_iload (x := l8) rfl rfl ?_
    refine x_aloadn (x := 125) rfl rfl ?_
    refine z_getI (N := 92) 12 28 rfl f_12_377 rfl J rfl sg_125_28_29_1_0_1 (fun v5 qv5 ev5 => ?_)
    refine x_inv (N := m_X12_isKnown) (As := [.int l8, .int v5]) (b := 125) (st := [.long l6]) (d' := 2) (mc := 0) (ms := 0) (host := "") 12 rfl t_X12_isKnown ⟨Or.inl q_12_383, i_X12_isKnown.1, i_X12_isKnown.2⟩ ⟨by decide, rfl⟩ (congrArg Prod.fst (J.1.1 125 (12, 92) rfl)) rfl (by decide) rfl rfl ⟨by decide, by decide⟩ (jC.of rfl k_X12_isKnown rfl ?_)
    show jX m_X12_isKnown 2 0 0 0 [(0, .ref 125), (1, .int l8), (2, .int v5)] [] _ 0 0 _
    refine x_aloadn (x := 125) rfl rfl ?_
    refine z_getR (N := 92) (b := 126) 12 2 rfl f_12_8 rfl J rfl 16002 ⟨rfl, rfl⟩ rfl ?_
    refine x_aloadn (x := 125) rfl rfl ?_
    refine x_iloadn (x := l8) rfl rfl ?_
    refine x_inv (N := m_X12_at) (As := [.int l8]) (b := 125) (st := [.ref 126]) (d' := 1) (mc := 0) (ms := 0) (host := "") 12 rfl t_X12_at ⟨Or.inl q_12_254, i_X12_at.1, i_X12_at.2⟩ ⟨by decide, rfl⟩ (congrArg Prod.fst (J.1.1 125 (12, 92) rfl)) rfl (by decide) rfl rfl ⟨by decide, by decide⟩ (jC.of rfl k_X12_at rfl ?_)
    show jX m_X12_at 1 0 0 0 [(0, .ref 125), (1, .int l8)] [] _ 0 0 _
    refine x_bipush (v := 20) rfl kb_20 ?_
    refine x_bipush (v := 90) rfl kb_90 ?_
    refine x_iloadn (x := l8) rfl rfl ?_
    refine z_imul rfl jk_90 rfl (by omega) (fun v6 ev6 => ?_)
    refine z_iadd rfl jk_20 rfl (by omega) (fun v7 ev7 => ?_)
    refine x_iret rfl rfl ?_
    show jX m_X12_isKnown 2 0 0 9 [(0, .ref 125), (1, .int l8), (2, .int v5)] [.int v7, .ref 126] _ 0 0 _
    refine x_iconst (v := 3) rfl ki_3 ?_
    refine z_iadd rfl rfl jk_3 (by omega) (fun v8 ev8 => ?_)
    refine z_iald (N := 50660) rfl J rfl sg_126_20_18020_90_3_4 rfl (by omega) (fun v9 qv9 ev9 => ?_)
    refine x_iloadn (x := v5) rfl rfl ?_
    refine x_icgt (tgt := 20) rfl rfl (ti_gt rfl rfl ⟨fun c10 => ?_, fun c10 => ?_⟩)
    ·
      refine x_iconst (v := 0) rfl ki_0 ?_
      refine x_zret rfl rfl (by decide) ?_
      show jX m_X12_guessFilled 3 0 0 151 [(10, .int 0), (0, .ref 125), (1, .int l1), (2, .int l2), (3, .int l3), (4, .long l4), (6, .long l6), (8, .int l8), (9, .int l9)] [.int 0, .long l6] _ 0 0 _
      refine x_ifeq (tgt := 175) rfl rfl (ti_eq jk_0 jk_0 (br_t (by omega) ?_))
      exact jX.sub (jsb_c rfl (jsb_c rfl (jsb_c rfl (jsb_c rfl (jsb_c rfl (jsb_c rfl jsb_n)))))) (ct_X12_guessFilled_r125_175 hD hQ k70 l1 l2 l3 l4 l8 l6 h (jr_of rfl (by omega)) (jr_of rfl (by omega)) (jr_of rfl (by omega)) (jr_ofl rfl (by omega)) (jr_of rfl (by omega)) (by omega) J Sm)
    ·
      refine x_iconst (v := 1) rfl ki_1 ?_
      refine x_goto (tgt := 21) rfl rfl ?_
      refine x_zret rfl rfl (by decide) ?_
      show jX m_X12_guessFilled 3 0 0 151 [(10, .int 0), (0, .ref 125), (1, .int l1), (2, .int l2), (3, .int l3), (4, .long l4), (6, .long l6), (8, .int l8), (9, .int l9)] [.int 1, .long l6] _ 0 0 _
      refine x_ifeq (tgt := 175) rfl rfl (ti_eq jk_1 jk_0 (br_f (by omega) ?_))
      refine x_iload (x := 0) rfl rfl ?_
      refine x_ifeq (tgt := 175) rfl rfl (ti_eq jk_0 jk_0 (br_t (by omega) ?_))
      exact jX.sub (jsb_c rfl (jsb_c rfl (jsb_c rfl (jsb_c rfl (jsb_c rfl (jsb_c rfl jsb_n)))))) (ct_X12_guessFilled_r125_175 hD hQ k70 l1 l2 l3 l4 l8 l6 h (jr_of rfl (by omega)) (jr_of rfl (by omega)) (jr_of rfl (by omega)) (jr_ofl rfl (by omega)) (jr_of rfl (by omega)) (by omega) J Sm)
set_option maxRecDepth 100000 in
set_option maxHeartbeats 4000000 in
theorem ct_X12_guessFilled_r125_126 {Dy : jH → Prop} {h0 : jH} {Q : Option Value → jH → Prop} {R70 : Int} (hD : jDk Dy) (hQ : ∀ (v : Int32) h', jJ jSgM Dy h' → jSm fp_X12_guessFilled_r125 h0 h' → Q (some (.int v)) h') (k70 : ∀ (l1 : Int32) (l2 : Int32) (l3 : Int32) (l4 : Int64) (l6 : Int64) (l8 : Int32) (h : jH), 200 - l8.toInt < R70 → 0 ≤ l1.toInt ∧ l1.toInt ≤ 5 → 0 ≤ l2.toInt ∧ l2.toInt ≤ 146399 → 0 ≤ l3.toInt ∧ l3.toInt ≤ 146399 → 0 ≤ l4.toInt ∧ l4.toInt ≤ 153719 → 0 ≤ l8.toInt ∧ l8.toInt ≤ 200 → jJ jSgM Dy h → jSm fp_X12_guessFilled_r125 h0 h → jX m_X12_guessFilled 3 0 0 70 [(0, .ref 125), (1, .int l1), (2, .int l2), (3, .int l3), (4, .long l4), (6, .long l6), (8, .int l8)] [] h 0 0 Q) : ∀ (l1 : Int32) (l2 : Int32) (l3 : Int32) (l4 : Int64) (l6 : Int64) (l8 : Int32) (l9 : Int32) (h : jH), 0 ≤ l1.toInt ∧ l1.toInt ≤ 5 → 0 ≤ l2.toInt ∧ l2.toInt ≤ 146399 → 0 ≤ l3.toInt ∧ l3.toInt ≤ 146399 → 0 ≤ l4.toInt ∧ l4.toInt ≤ 153719 → 0 ≤ l8.toInt ∧ l8.toInt ≤ 199 → 0 ≤ l9.toInt ∧ l9.toInt ≤ 146399 → 200 - l8.toInt ≤ R70 → jJ jSgM Dy h → jSm fp_X12_guessFilled_r125 h0 h → jX m_X12_guessFilled 3 0 0 126 [(0, .ref 125), (1, .int l1), (2, .int l2), (3, .int l3), (4, .long l4), (6, .long l6), (8, .int l8), (9, .int l9)] [] h 0 0 Q := by
  intro l1 l2 l3 l4 l6 l8 l9 h y0 y1 y2 y3 y4 y5  m70 J Sm
  have el6 := jfullL l6
  refine x_iconst (v := 0) rfl ki_0 ?_
  exact jX.sub (jsb_c rfl (jsb_c rfl (jsb_c rfl (jsb_c rfl (jsb_c rfl (jsb_c rfl (jsb_c rfl (jsb_c rfl jsb_n)))))))) (ct_X12_guessFilled_r125_200127 hD hQ k70 l1 l2 l3 l4 l6 l8 l9 h (jr_of rfl (by omega)) (jr_of rfl (by omega)) (jr_of rfl (by omega)) (jr_ofl rfl (by omega)) (jr_of rfl (by omega)) (jr_of rfl (by omega)) (by omega) J Sm)
set_option maxRecDepth 100000 in
set_option maxHeartbeats 4000000 in
theorem ct_X12_guessFilled_r125_122 {Dy : jH → Prop} {h0 : jH} {Q : Option Value → jH → Prop} {R70 : Int} (hD : jDk Dy) (hQ : ∀ (v : Int32) h', jJ jSgM Dy h' → jSm fp_X12_guessFilled_r125 h0 h' → Q (some (.int v)) h') (k70 : ∀ (l1 : Int32) (l2 : Int32) (l3 : Int32) (l4 : Int64) (l6 : Int64) (l8 : Int32) (h : jH), 200 - l8.toInt < R70 → 0 ≤ l1.toInt ∧ l1.toInt ≤ 5 → 0 ≤ l2.toInt ∧ l2.toInt ≤ 146399 → 0 ≤ l3.toInt ∧ l3.toInt ≤ 146399 → 0 ≤ l4.toInt ∧ l4.toInt ≤ 153719 → 0 ≤ l8.toInt ∧ l8.toInt ≤ 200 → jJ jSgM Dy h → jSm fp_X12_guessFilled_r125 h0 h → jX m_X12_guessFilled 3 0 0 70 [(0, .ref 125), (1, .int l1), (2, .int l2), (3, .int l3), (4, .long l4), (6, .long l6), (8, .int l8)] [] h 0 0 Q) : ∀ (l1 : Int32) (l2 : Int32) (l3 : Int32) (l4 : Int64) (l6 : Int64) (l8 : Int32) (l9 : Int32) (h : jH), 0 ≤ l1.toInt ∧ l1.toInt ≤ 5 → 0 ≤ l2.toInt ∧ l2.toInt ≤ 146399 → 0 ≤ l3.toInt ∧ l3.toInt ≤ 146399 → 0 ≤ l4.toInt ∧ l4.toInt ≤ 153719 → 0 ≤ l8.toInt ∧ l8.toInt ≤ 199 → 0 ≤ l9.toInt ∧ l9.toInt ≤ 146399 → 200 - l8.toInt ≤ R70 → jJ jSgM Dy h → jSm fp_X12_guessFilled_r125 h0 h → jX m_X12_guessFilled 3 0 0 122 [(0, .ref 125), (1, .int l1), (2, .int l2), (3, .int l3), (4, .long l4), (6, .long l6), (8, .int l8), (9, .int l9)] [] h 0 0 Q := by
  intro l1 l2 l3 l4 l6 l8 l9 h y0 y1 y2 y3 y4 y5  m70 J Sm
  have el6 := jfullL l6
  refine x_iconst (v := 1) rfl ki_1 ?_
  refine x_goto (tgt := 127) rfl rfl ?_
  exact jX.sub (jsb_c rfl (jsb_c rfl (jsb_c rfl (jsb_c rfl (jsb_c rfl (jsb_c rfl (jsb_c rfl (jsb_c rfl jsb_n)))))))) (ct_X12_guessFilled_r125_300127 hD hQ k70 l1 l2 l3 l4 l6 l8 l9 h (jr_of rfl (by omega)) (jr_of rfl (by omega)) (jr_of rfl (by omega)) (jr_ofl rfl (by omega)) (jr_of rfl (by omega)) (jr_of rfl (by omega)) (by omega) J Sm)
set_option maxRecDepth 100000 in
set_option maxHeartbeats 4000000 in
theorem ct_X12_guessFilled_r125_70 {Dy : jH → Prop} {h0 : jH} {Q : Option Value → jH → Prop} (hD : jDk Dy) (hQ : ∀ (v : Int32) h', jJ jSgM Dy h' → jSm fp_X12_guessFilled_r125 h0 h' → Q (some (.int v)) h') : ∀ r : Nat, ∀ (l1 : Int32) (l2 : Int32) (l3 : Int32) (l4 : Int64) (l6 : Int64) (l8 : Int32) (h : jH), 200 - l8.toInt < (r : Int) → 0 ≤ l1.toInt ∧ l1.toInt ≤ 5 → 0 ≤ l2.toInt ∧ l2.toInt ≤ 146399 → 0 ≤ l3.toInt ∧ l3.toInt ≤ 146399 → 0 ≤ l4.toInt ∧ l4.toInt ≤ 153719 → 0 ≤ l8.toInt ∧ l8.toInt ≤ 200 → jJ jSgM Dy h → jSm fp_X12_guessFilled_r125 h0 h → jX m_X12_guessFilled 3 0 0 70 [(0, .ref 125), (1, .int l1), (2, .int l2), (3, .int l3), (4, .long l4), (6, .long l6), (8, .int l8)] [] h 0 0 Q := by
  intro r
  induction r with
  | zero =>
    intro l1 l2 l3 l4 l6 l8 h hm y0 y1 y2 y3 y4   J Sm
    exfalso
    omega
  | succ r ih =>
    intro l1 l2 l3 l4 l6 l8 h hm y0 y1 y2 y3 y4   J Sm
    have el6 := jfullL l6
    refine x_iload (x := l8) rfl rfl ?_
    refine x_aloadn (x := 125) rfl rfl ?_
    refine z_getR (N := 92) (b := 126) 12 2 rfl f_12_8 rfl J rfl 16002 ⟨rfl, rfl⟩ rfl ?_
    refine x_iconst (v := 0) rfl ki_0 ?_
    refine z_iald (N := 50660) rfl J rfl sg_126_0_1_1_0_1 jk_0 (by omega) (fun v1 qv1 ev1 => ?_)
    refine x_icge (tgt := 185) rfl rfl (ti_ge rfl rfl ⟨fun c2 => ?_, fun c2 => ?_⟩)
    ·
      refine x_lload (x := l4) rfl rfl ?_
      refine x_lconst (v := 0) rfl kl_0 ?_
      refine z_lcmp rfl rfl jkl_0 (fun v3 ev3 => ?_)
      refine x_ifne (tgt := 196) rfl rfl (ti_ne rfl jk_0 ⟨fun c4 => ?_, fun c4 => ?_⟩)
      ·
        refine x_ldc2 (v := 2) rfl z_12_482 ?_
        refine x_lload (x := l6) rfl rfl ?_
        refine z_lmul0 rfl (fun v5 => ?_)
        have ev5 := jfullL v5
        refine x_iloadn (x := l3) rfl rfl ?_
        refine x_iloadn (x := l2) rfl rfl ?_
        refine z_isub rfl rfl rfl (by omega) (fun v6 ev6 => ?_)
        refine x_iconst (v := 1) rfl ki_1 ?_
        refine z_iadd rfl rfl jk_1 (by omega) (fun v7 ev7 => ?_)
        refine z_i2l rfl rfl (fun v8 ev8 => ?_)
        refine z_lmul0 rfl (fun v9 => ?_)
        have ev9 := jfullL v9
        refine x_lload (x := l4) rfl rfl ?_
        refine z_ladd0 rfl (fun v10 => ?_)
        have ev10 := jfullL v10
        refine x_ldc2 (v := 2) rfl z_12_482 ?_
        refine x_lload (x := l4) rfl rfl ?_
        refine z_lmul rfl jkl_2 rfl (by omega) (fun v11 ev11 => ?_)
        refine z_ldiv0 rfl rfl (by omega) (fun v12 => ?_)
        have ev12 := jfullL v12
        refine z_l2i0 rfl (fun v13 => ?_)
        exact jX.sub jsb_n (ct_X12_guessFilled_r125_220 hD hQ  v13 h J Sm)
      ·
        refine x_iconst (v := 0) rfl ki_0 ?_
        refine x_goto (tgt := 220) rfl rfl ?_
        exact jX.sub jsb_n (ct_X12_guessFilled_r125_200220 hD hQ  h J Sm)
    ·
      refine x_aloadn (x := 125) rfl rfl ?_
      refine x_iload (x := l8) rfl rfl ?_
      refine x_inv (N := m_X12_dayOf) (As := [.int l8]) (b := 125) (st := []) (d' := 2) (mc := 0) (ms := 0) (host := "") 12 rfl t_X12_dayOf ⟨Or.inl q_12_335, i_X12_dayOf.1, i_X12_dayOf.2⟩ ⟨by decide, rfl⟩ (congrArg Prod.fst (J.1.1 125 (12, 92) rfl)) rfl (by decide) rfl rfl ⟨by decide, by decide⟩ (jC.of rfl k_X12_dayOf rfl ?_)
      show jX m_X12_dayOf 2 0 0 0 [(0, .ref 125), (1, .int l8)] [] _ 0 0 _
      refine x_aloadn (x := 125) rfl rfl ?_
      refine z_getR (N := 92) (b := 126) 12 2 rfl f_12_8 rfl J rfl 16002 ⟨rfl, rfl⟩ rfl ?_
      refine x_aloadn (x := 125) rfl rfl ?_
      refine x_iloadn (x := l8) rfl rfl ?_
      refine x_inv (N := m_X12_at) (As := [.int l8]) (b := 125) (st := [.ref 126]) (d' := 1) (mc := 0) (ms := 0) (host := "") 12 rfl t_X12_at ⟨Or.inl q_12_254, i_X12_at.1, i_X12_at.2⟩ ⟨by decide, rfl⟩ (congrArg Prod.fst (J.1.1 125 (12, 92) rfl)) rfl (by decide) rfl rfl ⟨by decide, by decide⟩ (jC.of rfl k_X12_at rfl ?_)
      show jX m_X12_at 1 0 0 0 [(0, .ref 125), (1, .int l8)] [] _ 0 0 _
      refine x_bipush (v := 20) rfl kb_20 ?_
      refine x_bipush (v := 90) rfl kb_90 ?_
      refine x_iloadn (x := l8) rfl rfl ?_
      refine z_imul rfl jk_90 rfl (by omega) (fun v14 ev14 => ?_)
      refine z_iadd rfl jk_20 rfl (by omega) (fun v15 ev15 => ?_)
      refine x_iret rfl rfl ?_
      show jX m_X12_dayOf 2 0 0 9 [(0, .ref 125), (1, .int l8)] [.int v15, .ref 126] _ 0 0 _
      refine x_iconst (v := 2) rfl ki_2 ?_
      refine z_iadd rfl rfl jk_2 (by omega) (fun v16 ev16 => ?_)
      refine z_iald (N := 50660) rfl J rfl sg_126_20_18020_90_2_3 rfl (by omega) (fun v17 qv17 ev17 => ?_)
      refine x_iret rfl rfl ?_
      show jX m_X12_guessFilled 3 0 0 87 [(0, .ref 125), (1, .int l1), (2, .int l2), (3, .int l3), (4, .long l4), (6, .long l6), (8, .int l8)] [.int v17] _ 0 0 _
      refine x_istore (ls' := [(9, .int v17), (0, .ref 125), (1, .int l1), (2, .int l2), (3, .int l3), (4, .long l4), (6, .long l6), (8, .int l8)]) rfl rfl rfl ?_
      refine x_iload (x := v17) rfl rfl ?_
      refine z_i2l rfl rfl (fun v18 ev18 => ?_)
      refine x_iloadn (x := l2) rfl rfl ?_
      refine z_i2l rfl rfl (fun v19 ev19 => ?_)
      refine x_ldc2 (v := 3660) rfl z_12_480 ?_
      refine z_lsub rfl rfl jkl_3660 (by omega) (fun v20 ev20 => ?_)
      refine x_iloadn (x := l3) rfl rfl ?_
      refine z_i2l rfl rfl (fun v21 ev21 => ?_)
      refine x_ldc2 (v := 3660) rfl z_12_480 ?_
      refine z_ladd rfl rfl jkl_3660 (by omega) (fun v22 ev22 => ?_)
      refine x_inst (N := m_X12_in) (As := [.long v18, .long v20, .long v22]) (st := []) (d' := 1) (mc := 0) (ms := 0) (host := "") rfl t_X12_in ⟨Or.inl q_12_188, s_X12_in⟩ rfl (by decide) rfl rfl ⟨by decide, by decide⟩ (zc_X12_in rfl rfl rfl (fun v23 ev23 => ?_))
      show jX m_X12_guessFilled 3 0 0 107 [(9, .int v17), (0, .ref 125), (1, .int l1), (2, .int l2), (3, .int l3), (4, .long l4), (6, .long l6), (8, .int l8)] [.int v23] _ 0 0 _
      refine x_ifeq (tgt := 126) rfl rfl (ti_eq rfl jk_0 ⟨fun c24 => ?_, fun c24 => ?_⟩)
      ·
        exact jX.sub (jsb_c rfl (jsb_c rfl (jsb_c rfl (jsb_c rfl (jsb_c rfl (jsb_c rfl (jsb_c rfl (jsb_c rfl jsb_n)))))))) (ct_X12_guessFilled_r125_126 hD hQ ih l1 l2 l3 l4 l6 l8 v17 h (jr_of rfl (by omega)) (jr_of rfl (by omega)) (jr_of rfl (by omega)) (jr_ofl rfl (by omega)) (jr_of rfl (by omega)) (jr_of rfl (by omega)) (by omega) J Sm)
      ·
        refine x_iload (x := v17) rfl rfl ?_
        refine x_iloadn (x := l2) rfl rfl ?_
        refine x_iclt (tgt := 122) rfl rfl (ti_lt rfl rfl ⟨fun c25 => ?_, fun c25 => ?_⟩)
        ·
          exact jX.sub (jsb_c rfl (jsb_c rfl (jsb_c rfl (jsb_c rfl (jsb_c rfl (jsb_c rfl (jsb_c rfl (jsb_c rfl jsb_n)))))))) (ct_X12_guessFilled_r125_122 hD hQ ih l1 l2 l3 l4 l6 l8 v17 h (jr_of rfl (by omega)) (jr_of rfl (by omega)) (jr_of rfl (by omega)) (jr_ofl rfl (by omega)) (jr_of rfl (by omega)) (jr_of rfl (by omega)) (by omega) J Sm)
        ·
          refine x_iload (x := v17) rfl rfl ?_
          refine x_iloadn (x := l3) rfl rfl ?_
          refine x_icle (tgt := 126) rfl rfl (ti_le rfl rfl ⟨fun c26 => ?_, fun c26 => ?_⟩)
          ·
            exact jX.sub (jsb_c rfl (jsb_c rfl (jsb_c rfl (jsb_c rfl (jsb_c rfl (jsb_c rfl (jsb_c rfl (jsb_c rfl jsb_n)))))))) (ct_X12_guessFilled_r125_126 hD hQ ih l1 l2 l3 l4 l6 l8 v17 h (jr_of rfl (by omega)) (jr_of rfl (by omega)) (jr_of rfl (by omega)) (jr_ofl rfl (by omega)) (jr_of rfl (by omega)) (jr_of rfl (by omega)) (by omega) J Sm)
          ·
            exact jX.sub (jsb_c rfl (jsb_c rfl (jsb_c rfl (jsb_c rfl (jsb_c rfl (jsb_c rfl (jsb_c rfl (jsb_c rfl jsb_n)))))))) (ct_X12_guessFilled_r125_122 hD hQ ih l1 l2 l3 l4 l6 l8 v17 h (jr_of rfl (by omega)) (jr_of rfl (by omega)) (jr_of rfl (by omega)) (jr_ofl rfl (by omega)) (jr_of rfl (by omega)) (jr_of rfl (by omega)) (by omega) J Sm)
set_option maxRecDepth 100000 in
set_option maxHeartbeats 4000000 in
theorem ct_X12_guessFilled_r125_61 {Dy : jH → Prop} {h0 : jH} {Q : Option Value → jH → Prop} {R13 : Int} (hD : jDk Dy) (hQ : ∀ (v : Int32) h', jJ jSgM Dy h' → jSm fp_X12_guessFilled_r125 h0 h' → Q (some (.int v)) h') (k13 : ∀ (l1 : Int32) (l2 : Int32) (l3 : Int32) (l4 : Int64) (l6 : Int64) (l8 : Int32) (h : jH), 150060 - l8.toInt < R13 → 0 ≤ l1.toInt ∧ l1.toInt ≤ 5 → 0 ≤ l2.toInt ∧ l2.toInt ≤ 146399 → 0 ≤ l3.toInt ∧ l3.toInt ≤ 146399 → 0 ≤ l4.toInt ∧ l4.toInt ≤ 153719 → 0 ≤ l6.toInt ∧ l6.toInt ≤ 0 → (-3660) ≤ l8.toInt ∧ l8.toInt ≤ 150060 → l4.toInt - l8.toInt ≤ 3660 → jJ jSgM Dy h → jSm fp_X12_guessFilled_r125 h0 h → jX m_X12_guessFilled 3 0 0 13 [(0, .ref 125), (1, .int l1), (2, .int l2), (3, .int l3), (4, .long l4), (6, .long l6), (8, .int l8)] [] h 0 0 Q) : ∀ (l1 : Int32) (l2 : Int32) (l3 : Int32) (l4 : Int64) (l6 : Int64) (l8 : Int32) (h : jH), 0 ≤ l1.toInt ∧ l1.toInt ≤ 5 → 0 ≤ l2.toInt ∧ l2.toInt ≤ 146399 → 0 ≤ l3.toInt ∧ l3.toInt ≤ 146399 → 0 ≤ l4.toInt ∧ l4.toInt ≤ 153719 → 0 ≤ l6.toInt ∧ l6.toInt ≤ 0 → (-3660) ≤ l8.toInt ∧ l8.toInt ≤ 150059 → l4.toInt - l8.toInt ≤ 3661 → 150060 - l8.toInt ≤ R13 → jJ jSgM Dy h → jSm fp_X12_guessFilled_r125 h0 h → jX m_X12_guessFilled 3 0 0 61 [(0, .ref 125), (1, .int l1), (2, .int l2), (3, .int l3), (4, .long l4), (6, .long l6), (8, .int l8)] [] h 0 0 Q := by
  intro l1 l2 l3 l4 l6 l8 h y0 y1 y2 y3 y4 y5 y6  m13 J Sm
  refine z_iinc (x := l8) (ls' := fun v1 => [(8, .int v1), (0, .ref 125), (1, .int l1), (2, .int l2), (3, .int l3), (4, .long l4), (6, .long l6)]) rfl rfl rfl jko_1 (by omega) rfl (fun _ => rfl) (fun v1 ev1 => ?_)
  refine x_goto (tgt := 13) rfl rfl ?_
  exact jX.sub (jsb_c rfl (jsb_c rfl (jsb_c rfl (jsb_c rfl (jsb_c rfl (jsb_c rfl (jsb_c rfl jsb_n))))))) (k13 l1 l2 l3 l4 l6 v1 h (by omega) (jr_of rfl (by omega)) (jr_of rfl (by omega)) (jr_of rfl (by omega)) (jr_ofl rfl (by omega)) (jr_ofl rfl (by omega)) (jr_of rfl (by omega)) (by omega) J Sm)
set_option maxRecDepth 100000 in
set_option maxHeartbeats 4000000 in
theorem ct_X12_guessFilled_r125_43 {Dy : jH → Prop} {h0 : jH} {Q : Option Value → jH → Prop} {R13 : Int} (hD : jDk Dy) (hQ : ∀ (v : Int32) h', jJ jSgM Dy h' → jSm fp_X12_guessFilled_r125 h0 h' → Q (some (.int v)) h') (k13 : ∀ (l1 : Int32) (l2 : Int32) (l3 : Int32) (l4 : Int64) (l6 : Int64) (l8 : Int32) (h : jH), 150060 - l8.toInt < R13 → 0 ≤ l1.toInt ∧ l1.toInt ≤ 5 → 0 ≤ l2.toInt ∧ l2.toInt ≤ 146399 → 0 ≤ l3.toInt ∧ l3.toInt ≤ 146399 → 0 ≤ l4.toInt ∧ l4.toInt ≤ 153719 → 0 ≤ l6.toInt ∧ l6.toInt ≤ 0 → (-3660) ≤ l8.toInt ∧ l8.toInt ≤ 150060 → l4.toInt - l8.toInt ≤ 3660 → jJ jSgM Dy h → jSm fp_X12_guessFilled_r125 h0 h → jX m_X12_guessFilled 3 0 0 13 [(0, .ref 125), (1, .int l1), (2, .int l2), (3, .int l3), (4, .long l4), (6, .long l6), (8, .int l8)] [] h 0 0 Q) : ∀ (l1 : Int32) (l2 : Int32) (l3 : Int32) (l4 : Int64) (l6 : Int64) (l8 : Int32) (h : jH), 0 ≤ l1.toInt ∧ l1.toInt ≤ 5 → 0 ≤ l2.toInt ∧ l2.toInt ≤ 146399 → 0 ≤ l3.toInt ∧ l3.toInt ≤ 146399 → 0 ≤ l4.toInt ∧ l4.toInt ≤ 150059 → 0 ≤ l6.toInt ∧ l6.toInt ≤ 0 → 0 ≤ l8.toInt ∧ l8.toInt ≤ 146399 → l4.toInt - l8.toInt ≤ 3660 → 150060 - l8.toInt ≤ R13 → jJ jSgM Dy h → jSm fp_X12_guessFilled_r125 h0 h → jX m_X12_guessFilled 3 0 0 43 [(0, .ref 125), (1, .int l1), (2, .int l2), (3, .int l3), (4, .long l4), (6, .long l6), (8, .int l8)] [] h 0 0 Q := by
  intro l1 l2 l3 l4 l6 l8 h y0 y1 y2 y3 y4 y5 y6  m13 J Sm
  refine x_aloadn (x := 125) rfl rfl ?_
  refine x_iloadn (x := l1) rfl rfl ?_
  refine x_iload (x := l8) rfl rfl ?_
  refine x_iload (x := l8) rfl rfl ?_
  refine x_inv (N := m_X12_isTorn) (As := [.int l1, .int l8, .int l8]) (b := 125) (st := []) (d' := 1) (mc := 0) (ms := 0) (host := "") 12 rfl t_X12_isTorn ⟨Or.inl q_12_474, i_X12_isTorn.1, i_X12_isTorn.2⟩ ⟨by decide, rfl⟩ (congrArg Prod.fst (J.1.1 125 (12, 92) rfl)) rfl (by decide) rfl rfl ⟨by decide, by decide⟩ (sf_X12_isTorn_r125 (jr_of rfl (by omega)) (jr_of rfl (by omega)) (jr_of rfl (by omega)) hD J  (fun v2 h ev2 J S1 => ?_))
  have Sm := jSm_tr rfl Sm S1
  show jX m_X12_guessFilled 3 0 0 52 [(0, .ref 125), (1, .int l1), (2, .int l2), (3, .int l3), (4, .long l4), (6, .long l6), (8, .int l8)] [.int v2] _ 0 0 _
  refine x_ifne (tgt := 61) rfl rfl (ti_ne rfl jk_0 ⟨fun c3 => ?_, fun c3 => ?_⟩)
  ·
    exact jX.sub (jsb_c rfl (jsb_c rfl (jsb_c rfl (jsb_c rfl (jsb_c rfl (jsb_c rfl (jsb_c rfl jsb_n))))))) (ct_X12_guessFilled_r125_61 hD hQ k13 l1 l2 l3 l4 l6 l8 h (jr_of rfl (by omega)) (jr_of rfl (by omega)) (jr_of rfl (by omega)) (jr_ofl rfl (by omega)) (jr_ofl rfl (by omega)) (jr_of rfl (by omega)) (by omega) (by omega) J Sm)
  ·
    refine x_lload (x := l4) rfl rfl ?_
    refine x_lconst (v := 1) rfl kl_1 ?_
    refine z_ladd rfl rfl jkl_1 (by omega) (fun v4 ev4 => ?_)
    refine x_lstore (ls' := [(4, .long v4), (0, .ref 125), (1, .int l1), (2, .int l2), (3, .int l3), (6, .long l6), (8, .int l8)]) rfl rfl rfl ?_
    exact jX.sub (jsb_c rfl (jsb_c rfl (jsb_c rfl (jsb_c rfl (jsb_c rfl (jsb_c rfl (jsb_c rfl jsb_n))))))) (ct_X12_guessFilled_r125_61 hD hQ k13 l1 l2 l3 v4 l6 l8 h (jr_of rfl (by omega)) (jr_of rfl (by omega)) (jr_of rfl (by omega)) (jr_ofl rfl (by omega)) (jr_ofl rfl (by omega)) (jr_of rfl (by omega)) (by omega) (by omega) J Sm)
set_option maxRecDepth 100000 in
set_option maxHeartbeats 4000000 in
theorem ct_X12_guessFilled_r125_13 {Dy : jH → Prop} {h0 : jH} {Q : Option Value → jH → Prop} (hD : jDk Dy) (hQ : ∀ (v : Int32) h', jJ jSgM Dy h' → jSm fp_X12_guessFilled_r125 h0 h' → Q (some (.int v)) h') : ∀ r : Nat, ∀ (l1 : Int32) (l2 : Int32) (l3 : Int32) (l4 : Int64) (l6 : Int64) (l8 : Int32) (h : jH), 150060 - l8.toInt < (r : Int) → 0 ≤ l1.toInt ∧ l1.toInt ≤ 5 → 0 ≤ l2.toInt ∧ l2.toInt ≤ 146399 → 0 ≤ l3.toInt ∧ l3.toInt ≤ 146399 → 0 ≤ l4.toInt ∧ l4.toInt ≤ 153719 → 0 ≤ l6.toInt ∧ l6.toInt ≤ 0 → (-3660) ≤ l8.toInt ∧ l8.toInt ≤ 150060 → l4.toInt - l8.toInt ≤ 3660 → jJ jSgM Dy h → jSm fp_X12_guessFilled_r125 h0 h → jX m_X12_guessFilled 3 0 0 13 [(0, .ref 125), (1, .int l1), (2, .int l2), (3, .int l3), (4, .long l4), (6, .long l6), (8, .int l8)] [] h 0 0 Q := by
  intro r
  induction r with
  | zero =>
    intro l1 l2 l3 l4 l6 l8 h hm y0 y1 y2 y3 y4 y5 y6   J Sm
    exfalso
    omega
  | succ r ih =>
    intro l1 l2 l3 l4 l6 l8 h hm y0 y1 y2 y3 y4 y5 y6   J Sm
    refine x_iload (x := l8) rfl rfl ?_
    refine x_iloadn (x := l3) rfl rfl ?_
    refine x_sipush (v := 3660) rfl ks_3660 ?_
    refine z_iadd rfl rfl jk_3660 (by omega) (fun v1 ev1 => ?_)
    refine x_icgt (tgt := 67) rfl rfl (ti_gt rfl rfl ⟨fun c2 => ?_, fun c2 => ?_⟩)
    ·
      refine x_iconst (v := 0) rfl ki_0 ?_
      refine x_istore (ls' := [(8, .int 0), (0, .ref 125), (1, .int l1), (2, .int l2), (3, .int l3), (4, .long l4), (6, .long l6)]) rfl rfl rfl ?_
      exact jX.sub (jsb_c rfl (jsb_c rfl (jsb_c rfl (jsb_c rfl (jsb_c rfl (jsb_c rfl (jsb_c rfl jsb_n))))))) (ct_X12_guessFilled_r125_70 hD hQ  201 l1 l2 l3 l4 l6 0 h (by have := jk_0; omega) (jr_of rfl (by omega)) (jr_of rfl (by omega)) (jr_of rfl (by omega)) (jr_ofl rfl (by omega)) (jr_of jk_0 (by omega)) J Sm)
    ·
      refine x_iload (x := l8) rfl rfl ?_
      refine x_inst (N := m_X12_isDay) (As := [.int l8]) (st := []) (d' := 2) (mc := 0) (ms := 0) (host := "") rfl t_X12_isDay ⟨Or.inl q_12_273, s_X12_isDay⟩ rfl (by decide) rfl rfl ⟨by decide, by decide⟩ (zc_X12_isDay (d := 1) rfl (fun v3 ev3 => ?_))
      show jX m_X12_guessFilled 3 0 0 28 [(0, .ref 125), (1, .int l1), (2, .int l2), (3, .int l3), (4, .long l4), (6, .long l6), (8, .int l8)] [.int v3] _ 0 0 _
      refine x_ifeq (tgt := 61) rfl rfl (ti_eq rfl jk_0 ⟨fun c4 => ?_, fun c4 => ?_⟩)
      ·
        exact jX.sub (jsb_c rfl (jsb_c rfl (jsb_c rfl (jsb_c rfl (jsb_c rfl (jsb_c rfl (jsb_c rfl jsb_n))))))) (ct_X12_guessFilled_r125_61 hD hQ ih l1 l2 l3 l4 l6 l8 h (jr_of rfl (by omega)) (jr_of rfl (by omega)) (jr_of rfl (by omega)) (jr_ofl rfl (by omega)) (jr_ofl rfl (by omega)) (jr_of rfl (by omega)) (by omega) (by omega) J Sm)
      ·
        refine x_iload (x := l8) rfl rfl ?_
        refine x_iloadn (x := l2) rfl rfl ?_
        refine x_iclt (tgt := 43) rfl rfl (ti_lt rfl rfl ⟨fun c5 => ?_, fun c5 => ?_⟩)
        ·
          exact jX.sub (jsb_c rfl (jsb_c rfl (jsb_c rfl (jsb_c rfl (jsb_c rfl (jsb_c rfl (jsb_c rfl jsb_n))))))) (ct_X12_guessFilled_r125_43 hD hQ ih l1 l2 l3 l4 l6 l8 h (jr_of rfl (by omega)) (jr_of rfl (by omega)) (jr_of rfl (by omega)) (jr_ofl rfl (by omega)) (jr_ofl rfl (by omega)) (jr_of rfl (by omega)) (by omega) (by omega) J Sm)
        ·
          refine x_iload (x := l8) rfl rfl ?_
          refine x_iloadn (x := l3) rfl rfl ?_
          refine x_icle (tgt := 61) rfl rfl (ti_le rfl rfl ⟨fun c6 => ?_, fun c6 => ?_⟩)
          ·
            exact jX.sub (jsb_c rfl (jsb_c rfl (jsb_c rfl (jsb_c rfl (jsb_c rfl (jsb_c rfl (jsb_c rfl jsb_n))))))) (ct_X12_guessFilled_r125_61 hD hQ ih l1 l2 l3 l4 l6 l8 h (jr_of rfl (by omega)) (jr_of rfl (by omega)) (jr_of rfl (by omega)) (jr_ofl rfl (by omega)) (jr_ofl rfl (by omega)) (jr_of rfl (by omega)) (by omega) (by omega) J Sm)
          ·
            exact jX.sub (jsb_c rfl (jsb_c rfl (jsb_c rfl (jsb_c rfl (jsb_c rfl (jsb_c rfl (jsb_c rfl jsb_n))))))) (ct_X12_guessFilled_r125_43 hD hQ ih l1 l2 l3 l4 l6 l8 h (jr_of rfl (by omega)) (jr_of rfl (by omega)) (jr_of rfl (by omega)) (jr_ofl rfl (by omega)) (jr_ofl rfl (by omega)) (jr_of rfl (by omega)) (by omega) (by omega) J Sm)
set_option maxRecDepth 100000 in
set_option maxHeartbeats 4000000 in
theorem sf_X12_guessFilled_r125 {Dy : jH → Prop} {h : jH} {Q : Option Value → jH → Prop} {a1 : Int32} {a2 : Int32} {a3 : Int32} (y1 : 0 ≤ a1.toInt ∧ a1.toInt ≤ 5) (y2 : 0 ≤ a2.toInt ∧ a2.toInt ≤ 146399) (y3 : 0 ≤ a3.toInt ∧ a3.toInt ≤ 146399) (hD : jDk Dy) (J : jJ jSgM Dy h) (hQ : ∀ (v : Int32) h', jJ jSgM Dy h' → jSm fp_X12_guessFilled_r125 h h' → Q (some (.int v)) h') : jC m_X12_guessFilled 3 0 0 [.ref 125, .int a1, .int a2, .int a3] h Q := by
  refine jC.of rfl k_X12_guessFilled rfl ?_
  have Sm := jSm_rf fp_X12_guessFilled_r125 h
  show jX m_X12_guessFilled 3 0 0 0 [(0, .ref 125), (1, .int a1), (2, .int a2), (3, .int a3)] [] _ 0 0 _
  refine x_lconst (v := 0) rfl kl_0 ?_
  refine x_lstore (ls' := [(4, .long 0), (0, .ref 125), (1, .int a1), (2, .int a2), (3, .int a3)]) rfl rfl rfl ?_
  refine x_lconst (v := 0) rfl kl_0 ?_
  refine x_lstore (ls' := [(6, .long 0), (4, .long 0), (0, .ref 125), (1, .int a1), (2, .int a2), (3, .int a3)]) rfl rfl rfl ?_
  refine x_iloadn (x := a2) rfl rfl ?_
  refine x_sipush (v := 3660) rfl ks_3660 ?_
  refine z_isub rfl rfl jk_3660 (by omega) (fun v1 ev1 => ?_)
  refine x_istore (ls' := [(8, .int v1), (6, .long 0), (4, .long 0), (0, .ref 125), (1, .int a1), (2, .int a2), (3, .int a3)]) rfl rfl rfl ?_
  exact jX.sub (jsb_c rfl (jsb_c rfl (jsb_c rfl (jsb_c rfl (jsb_c rfl (jsb_c rfl (jsb_c rfl jsb_n))))))) (ct_X12_guessFilled_r125_13 hD hQ  153721 a1 a2 a3 0 0 v1 h (by omega) (jr_of rfl (by omega)) (jr_of rfl (by omega)) (jr_of rfl (by omega)) (jr_ofl jkl_0 (by omega)) (jr_ofl jkl_0 (by omega)) (jr_of rfl (by omega)) (by have := jkl_0; omega) J Sm)
def fp_X12_leastFilled_r125 : jFp := [(125, 32, 33), (125, 33, 34), (125, 34, 35), (125, 35, 36)]
set_option maxRecDepth 100000 in
set_option maxHeartbeats 4000000 in
theorem ct_X12_leastFilled_r125_139 {Dy : jH → Prop} {h0 : jH} {Q : Option Value → jH → Prop} (hD : jDk Dy) (hQ : ∀ (v : Int32) h', jJ jSgM Dy h' → jSm fp_X12_leastFilled_r125 h0 h' → Q (some (.int v)) h') : ∀ (l4 : Int32) (h : jH), jJ jSgM Dy h → jSm fp_X12_leastFilled_r125 h0 h → jX m_X12_leastFilled 7 0 0 139 [(4, .int l4)] [] h 0 0 Q := by
  intro l4 h    J Sm
  have el4 := jfull l4
  refine x_iload (x := l4) rfl rfl ?_
  refine x_iret rfl rfl ?_
  exact hQ _ _ J Sm
set_option maxRecDepth 100000 in
set_option maxHeartbeats 4000000 in
theorem ct_X12_leastFilled_r125_133 {Dy : jH → Prop} {h0 : jH} {Q : Option Value → jH → Prop} {R6 : Int} (hD : jDk Dy) (hQ : ∀ (v : Int32) h', jJ jSgM Dy h' → jSm fp_X12_leastFilled_r125 h0 h' → Q (some (.int v)) h') (k6 : ∀ (l1 : Int32) (l2 : Int32) (l3 : Int32) (l4 : Int32) (l5 : Int32) (h : jH), 600 - l5.toInt < R6 → 0 ≤ l1.toInt ∧ l1.toInt ≤ 5 → 0 ≤ l2.toInt ∧ l2.toInt ≤ 146399 → 0 ≤ l3.toInt ∧ l3.toInt ≤ 146399 → 0 ≤ l5.toInt ∧ l5.toInt ≤ 600 → jJ jSgM Dy h → jSm fp_X12_leastFilled_r125 h0 h → jX m_X12_leastFilled 7 0 0 6 [(0, .ref 125), (1, .int l1), (2, .int l2), (3, .int l3), (4, .int l4), (5, .int l5)] [] h 0 0 Q) : ∀ (l1 : Int32) (l2 : Int32) (l3 : Int32) (l4 : Int32) (l5 : Int32) (h : jH), 0 ≤ l1.toInt ∧ l1.toInt ≤ 3 → 0 ≤ l2.toInt ∧ l2.toInt ≤ 146399 → 0 ≤ l3.toInt ∧ l3.toInt ≤ 146399 → 0 ≤ l5.toInt ∧ l5.toInt ≤ 599 → 600 - l5.toInt ≤ R6 → jJ jSgM Dy h → jSm fp_X12_leastFilled_r125 h0 h → jX m_X12_leastFilled 7 0 0 133 [(0, .ref 125), (1, .int l1), (2, .int l2), (3, .int l3), (4, .int l4), (5, .int l5)] [] h 0 0 Q := by
  intro l1 l2 l3 l4 l5 h y0 y1 y2 y3  m6 J Sm
  have el4 := jfull l4
  refine z_iinc (x := l5) (ls' := fun v1 => [(5, .int v1), (0, .ref 125), (1, .int l1), (2, .int l2), (3, .int l3), (4, .int l4)]) rfl rfl rfl jko_1 (by omega) rfl (fun _ => rfl) (fun v1 ev1 => ?_)
  refine x_goto (tgt := 6) rfl rfl ?_
  exact jX.sub (jsb_c rfl (jsb_c rfl (jsb_c rfl (jsb_c rfl (jsb_c rfl (jsb_c rfl jsb_n)))))) (k6 l1 l2 l3 l4 v1 h (by omega) (jr_of rfl (by omega)) (jr_of rfl (by omega)) (jr_of rfl (by omega)) (jr_of rfl (by omega)) J Sm)
set_option maxRecDepth 100000 in
set_option maxHeartbeats 4000000 in
theorem ct_X12_leastFilled_r125_300130 {Dy : jH → Prop} {h0 : jH} {Q : Option Value → jH → Prop} {R6 : Int} (hD : jDk Dy) (hQ : ∀ (v : Int32) h', jJ jSgM Dy h' → jSm fp_X12_leastFilled_r125 h0 h' → Q (some (.int v)) h') (k6 : ∀ (l1 : Int32) (l2 : Int32) (l3 : Int32) (l4 : Int32) (l5 : Int32) (h : jH), 600 - l5.toInt < R6 → 0 ≤ l1.toInt ∧ l1.toInt ≤ 5 → 0 ≤ l2.toInt ∧ l2.toInt ≤ 146399 → 0 ≤ l3.toInt ∧ l3.toInt ≤ 146399 → 0 ≤ l5.toInt ∧ l5.toInt ≤ 600 → jJ jSgM Dy h → jSm fp_X12_leastFilled_r125 h0 h → jX m_X12_leastFilled 7 0 0 6 [(0, .ref 125), (1, .int l1), (2, .int l2), (3, .int l3), (4, .int l4), (5, .int l5)] [] h 0 0 Q) : ∀ (l1 : Int32) (l2 : Int32) (l3 : Int32) (l5 : Int32) (s1 : Int32) (h : jH), 0 ≤ l1.toInt ∧ l1.toInt ≤ 3 → 0 ≤ l2.toInt ∧ l2.toInt ≤ 146399 → 0 ≤ l3.toInt ∧ l3.toInt ≤ 146399 → 0 ≤ l5.toInt ∧ l5.toInt ≤ 599 → 600 - l5.toInt ≤ R6 → jJ jSgM Dy h → jSm fp_X12_leastFilled_r125 h0 h → jX m_X12_leastFilled 7 0 0 130 [(0, .ref 125), (1, .int l1), (2, .int l2), (3, .int l3), (5, .int l5)] [.int 1, .int s1] h 0 0 Q := by
  intro l1 l2 l3 l5 s1 h y0 y1 y2 y3  m6 J Sm
  have es1 := jfull s1
  refine z_iadd0 rfl (fun v1 => ?_)
  have ev1 := jfull v1
  refine x_istore (ls' := [(4, .int v1), (0, .ref 125), (1, .int l1), (2, .int l2), (3, .int l3), (5, .int l5)]) rfl rfl rfl ?_
  exact jX.sub (jsb_c rfl (jsb_c rfl (jsb_c rfl (jsb_c rfl (jsb_c rfl (jsb_c rfl jsb_n)))))) (ct_X12_leastFilled_r125_133 hD hQ k6 l1 l2 l3 v1 l5 h (jr_of rfl (by omega)) (jr_of rfl (by omega)) (jr_of rfl (by omega)) (jr_of rfl (by omega)) (by omega) J Sm)
set_option maxRecDepth 100000 in
set_option maxHeartbeats 4000000 in
theorem ct_X12_leastFilled_r125_200130 {Dy : jH → Prop} {h0 : jH} {Q : Option Value → jH → Prop} {R6 : Int} (hD : jDk Dy) (hQ : ∀ (v : Int32) h', jJ jSgM Dy h' → jSm fp_X12_leastFilled_r125 h0 h' → Q (some (.int v)) h') (k6 : ∀ (l1 : Int32) (l2 : Int32) (l3 : Int32) (l4 : Int32) (l5 : Int32) (h : jH), 600 - l5.toInt < R6 → 0 ≤ l1.toInt ∧ l1.toInt ≤ 5 → 0 ≤ l2.toInt ∧ l2.toInt ≤ 146399 → 0 ≤ l3.toInt ∧ l3.toInt ≤ 146399 → 0 ≤ l5.toInt ∧ l5.toInt ≤ 600 → jJ jSgM Dy h → jSm fp_X12_leastFilled_r125 h0 h → jX m_X12_leastFilled 7 0 0 6 [(0, .ref 125), (1, .int l1), (2, .int l2), (3, .int l3), (4, .int l4), (5, .int l5)] [] h 0 0 Q) : ∀ (l1 : Int32) (l2 : Int32) (l3 : Int32) (l5 : Int32) (s1 : Int32) (h : jH), 0 ≤ l1.toInt ∧ l1.toInt ≤ 3 → 0 ≤ l2.toInt ∧ l2.toInt ≤ 146399 → 0 ≤ l3.toInt ∧ l3.toInt ≤ 146399 → 0 ≤ l5.toInt ∧ l5.toInt ≤ 599 → 600 - l5.toInt ≤ R6 → jJ jSgM Dy h → jSm fp_X12_leastFilled_r125 h0 h → jX m_X12_leastFilled 7 0 0 130 [(0, .ref 125), (1, .int l1), (2, .int l2), (3, .int l3), (5, .int l5)] [.int 0, .int s1] h 0 0 Q := by
  intro l1 l2 l3 l5 s1 h y0 y1 y2 y3  m6 J Sm
  have es1 := jfull s1
  refine z_iadd rfl rfl jk_0 (by omega) (fun v1 ev1 => ?_)
  refine x_istore (ls' := [(4, .int v1), (0, .ref 125), (1, .int l1), (2, .int l2), (3, .int l3), (5, .int l5)]) rfl rfl rfl ?_
  exact jX.sub (jsb_c rfl (jsb_c rfl (jsb_c rfl (jsb_c rfl (jsb_c rfl (jsb_c rfl jsb_n)))))) (ct_X12_leastFilled_r125_133 hD hQ k6 l1 l2 l3 v1 l5 h (jr_of rfl (by omega)) (jr_of rfl (by omega)) (jr_of rfl (by omega)) (jr_of rfl (by omega)) (by omega) J Sm)
set_option maxRecDepth 100000 in
set_option maxHeartbeats 4000000 in
theorem ct_X12_leastFilled_r125_129 {Dy : jH → Prop} {h0 : jH} {Q : Option Value → jH → Prop} {R6 : Int} (hD : jDk Dy) (hQ : ∀ (v : Int32) h', jJ jSgM Dy h' → jSm fp_X12_leastFilled_r125 h0 h' → Q (some (.int v)) h') (k6 : ∀ (l1 : Int32) (l2 : Int32) (l3 : Int32) (l4 : Int32) (l5 : Int32) (h : jH), 600 - l5.toInt < R6 → 0 ≤ l1.toInt ∧ l1.toInt ≤ 5 → 0 ≤ l2.toInt ∧ l2.toInt ≤ 146399 → 0 ≤ l3.toInt ∧ l3.toInt ≤ 146399 → 0 ≤ l5.toInt ∧ l5.toInt ≤ 600 → jJ jSgM Dy h → jSm fp_X12_leastFilled_r125 h0 h → jX m_X12_leastFilled 7 0 0 6 [(0, .ref 125), (1, .int l1), (2, .int l2), (3, .int l3), (4, .int l4), (5, .int l5)] [] h 0 0 Q) : ∀ (l1 : Int32) (l2 : Int32) (l3 : Int32) (l5 : Int32) (s0 : Int32) (h : jH), 0 ≤ l1.toInt ∧ l1.toInt ≤ 3 → 0 ≤ l2.toInt ∧ l2.toInt ≤ 146399 → 0 ≤ l3.toInt ∧ l3.toInt ≤ 146399 → 0 ≤ l5.toInt ∧ l5.toInt ≤ 599 → 600 - l5.toInt ≤ R6 → jJ jSgM Dy h → jSm fp_X12_leastFilled_r125 h0 h → jX m_X12_leastFilled 7 0 0 129 [(0, .ref 125), (1, .int l1), (2, .int l2), (3, .int l3), (5, .int l5)] [.int s0] h 0 0 Q := by
  intro l1 l2 l3 l5 s0 h y0 y1 y2 y3  m6 J Sm
  have es0 := jfull s0
  refine x_iconst (v := 0) rfl ki_0 ?_
  exact jX.sub (jsb_c rfl (jsb_c rfl (jsb_c rfl (jsb_c rfl (jsb_c rfl jsb_n))))) (ct_X12_leastFilled_r125_200130 hD hQ k6 l1 l2 l3 l5 s0 h (jr_of rfl (by omega)) (jr_of rfl (by omega)) (jr_of rfl (by omega)) (jr_of rfl (by omega)) (by omega) J Sm)
set_option maxRecDepth 100000 in
set_option maxHeartbeats 4000000 in
theorem ct_X12_leastFilled_r125_102 {Dy : jH → Prop} {h0 : jH} {Q : Option Value → jH → Prop} {R6 : Int} (hD : jDk Dy) (hQ : ∀ (v : Int32) h', jJ jSgM Dy h' → jSm fp_X12_leastFilled_r125 h0 h' → Q (some (.int v)) h') (k6 : ∀ (l1 : Int32) (l2 : Int32) (l3 : Int32) (l4 : Int32) (l5 : Int32) (h : jH), 600 - l5.toInt < R6 → 0 ≤ l1.toInt ∧ l1.toInt ≤ 5 → 0 ≤ l2.toInt ∧ l2.toInt ≤ 146399 → 0 ≤ l3.toInt ∧ l3.toInt ≤ 146399 → 0 ≤ l5.toInt ∧ l5.toInt ≤ 600 → jJ jSgM Dy h → jSm fp_X12_leastFilled_r125 h0 h → jX m_X12_leastFilled 7 0 0 6 [(0, .ref 125), (1, .int l1), (2, .int l2), (3, .int l3), (4, .int l4), (5, .int l5)] [] h 0 0 Q) : ∀ (l1 : Int32) (l2 : Int32) (l3 : Int32) (l4 : Int32) (l5 : Int32) (l6 : Int32) (s0 : Int32) (h : jH), 0 ≤ l1.toInt ∧ l1.toInt ≤ 3 → 0 ≤ l2.toInt ∧ l2.toInt ≤ 146399 → 0 ≤ l3.toInt ∧ l3.toInt ≤ 146399 → 0 ≤ l5.toInt ∧ l5.toInt ≤ 599 → 0 ≤ l6.toInt ∧ l6.toInt ≤ 2147483647 → (-2147483648) ≤ s0.toInt ∧ s0.toInt ≤ 146399 → 600 - l5.toInt ≤ R6 → jJ jSgM Dy h → jSm fp_X12_leastFilled_r125 h0 h → jX m_X12_leastFilled 7 0 0 102 [(0, .ref 125), (1, .int l1), (2, .int l2), (3, .int l3), (4, .int l4), (5, .int l5), (6, .int l6)] [.int s0] h 0 0 Q := by
  intro l1 l2 l3 l4 l5 l6 s0 h y0 y1 y2 y3 y4 y5  m6 J Sm
  have el4 := jfull l4
  refine x_istore (ls' := [(7, .int s0), (0, .ref 125), (1, .int l1), (2, .int l2), (3, .int l3), (4, .int l4), (5, .int l5), (6, .int l6)]) rfl rfl rfl ?_
  refine x_iload (x := l4) rfl rfl ?_
  refine x_iload (x := l6) rfl rfl ?_
  refine x_iloadn (x := l2) rfl rfl ?_
  refine x_iclt (tgt := 129) rfl rfl (ti_lt rfl rfl ⟨fun c1 => ?_, fun c1 => ?_⟩)
  ·
    exact jX.sub (jsb_c rfl (jsb_c rfl (jsb_c rfl (jsb_c rfl (jsb_c rfl jsb_n))))) (ct_X12_leastFilled_r125_129 hD hQ k6 l1 l2 l3 l5 l4 h (jr_of rfl (by omega)) (jr_of rfl (by omega)) (jr_of rfl (by omega)) (jr_of rfl (by omega)) (by omega) J Sm)
  ·
    refine x_iload (x := s0) rfl rfl ?_
    refine x_iloadn (x := l3) rfl rfl ?_
    refine x_icgt (tgt := 129) rfl rfl (ti_gt rfl rfl ⟨fun c2 => ?_, fun c2 => ?_⟩)
    ·
      exact jX.sub (jsb_c rfl (jsb_c rfl (jsb_c rfl (jsb_c rfl (jsb_c rfl jsb_n))))) (ct_X12_leastFilled_r125_129 hD hQ k6 l1 l2 l3 l5 l4 h (jr_of rfl (by omega)) (jr_of rfl (by omega)) (jr_of rfl (by omega)) (jr_of rfl (by omega)) (by omega) J Sm)
    ·
      refine x_iload (x := l6) rfl rfl ?_
      refine x_iload (x := s0) rfl rfl ?_
      refine x_icgt (tgt := 129) rfl rfl (ti_gt rfl rfl ⟨fun c3 => ?_, fun c3 => ?_⟩)
      ·
        exact jX.sub (jsb_c rfl (jsb_c rfl (jsb_c rfl (jsb_c rfl (jsb_c rfl jsb_n))))) (ct_X12_leastFilled_r125_129 hD hQ k6 l1 l2 l3 l5 l4 h (jr_of rfl (by omega)) (jr_of rfl (by omega)) (jr_of rfl (by omega)) (jr_of rfl (by omega)) (by omega) J Sm)
      ·
        refine x_iconst (v := 1) rfl ki_1 ?_
        refine x_goto (tgt := 130) rfl rfl ?_
        exact jX.sub (jsb_c rfl (jsb_c rfl (jsb_c rfl (jsb_c rfl (jsb_c rfl jsb_n))))) (ct_X12_leastFilled_r125_300130 hD hQ k6 l1 l2 l3 l5 l4 h (jr_of rfl (by omega)) (jr_of rfl (by omega)) (jr_of rfl (by omega)) (jr_of rfl (by omega)) (by omega) J Sm)
set_option maxRecDepth 100000 in
set_option maxHeartbeats 4000000 in
theorem ct_X12_leastFilled_r125_85 {Dy : jH → Prop} {h0 : jH} {Q : Option Value → jH → Prop} {R6 : Int} (hD : jDk Dy) (hQ : ∀ (v : Int32) h', jJ jSgM Dy h' → jSm fp_X12_leastFilled_r125 h0 h' → Q (some (.int v)) h') (k6 : ∀ (l1 : Int32) (l2 : Int32) (l3 : Int32) (l4 : Int32) (l5 : Int32) (h : jH), 600 - l5.toInt < R6 → 0 ≤ l1.toInt ∧ l1.toInt ≤ 5 → 0 ≤ l2.toInt ∧ l2.toInt ≤ 146399 → 0 ≤ l3.toInt ∧ l3.toInt ≤ 146399 → 0 ≤ l5.toInt ∧ l5.toInt ≤ 600 → jJ jSgM Dy h → jSm fp_X12_leastFilled_r125 h0 h → jX m_X12_leastFilled 7 0 0 6 [(0, .ref 125), (1, .int l1), (2, .int l2), (3, .int l3), (4, .int l4), (5, .int l5)] [] h 0 0 Q) : ∀ (l1 : Int32) (l2 : Int32) (l3 : Int32) (l4 : Int32) (l5 : Int32) (s0 : Int32) (h : jH), 0 ≤ l1.toInt ∧ l1.toInt ≤ 3 → 0 ≤ l2.toInt ∧ l2.toInt ≤ 146399 → 0 ≤ l3.toInt ∧ l3.toInt ≤ 146399 → 0 ≤ l5.toInt ∧ l5.toInt ≤ 599 → 0 ≤ s0.toInt ∧ s0.toInt ≤ 2147483647 → 600 - l5.toInt ≤ R6 → jJ jSgM Dy h → jSm fp_X12_leastFilled_r125 h0 h → jX m_X12_leastFilled 7 0 0 85 [(0, .ref 125), (1, .int l1), (2, .int l2), (3, .int l3), (4, .int l4), (5, .int l5)] [.int s0] h 0 0 Q := by
  intro l1 l2 l3 l4 l5 s0 h y0 y1 y2 y3 y4  m6 J Sm
  have el4 := jfull l4
  refine x_istore (ls' := [(6, .int s0), (0, .ref 125), (1, .int l1), (2, .int l2), (3, .int l3), (4, .int l4), (5, .int l5)]) rfl rfl rfl ?_
  refine x_iloadn (x := l1) rfl rfl ?_
  refine x_ifne (tgt := 98) rfl rfl (ti_ne rfl jk_0 ⟨fun c1 => ?_, fun c1 => ?_⟩)
  ·
    refine x_aloadn (x := 125) rfl rfl ?_
    refine z_getI (N := 92) 12 35 rfl f_12_421 rfl J rfl sg_125_35_36_1_0_1 (fun v2 qv2 ev2 => ?_)
    exact jX.sub (jsb_c rfl (jsb_c rfl (jsb_c rfl (jsb_c rfl (jsb_c rfl (jsb_c rfl (jsb_c rfl jsb_n))))))) (ct_X12_leastFilled_r125_102 hD hQ k6 l1 l2 l3 l4 l5 s0 v2 h (jr_of rfl (by omega)) (jr_of rfl (by omega)) (jr_of rfl (by omega)) (jr_of rfl (by omega)) (jr_of rfl (by omega)) (jr_of rfl (by omega)) (by omega) J Sm)
  ·
    refine x_aloadn (x := 125) rfl rfl ?_
    refine z_getI (N := 92) 12 33 rfl f_12_415 rfl J rfl sg_125_33_34_1_0_1 (fun v3 qv3 ev3 => ?_)
    refine x_goto (tgt := 102) rfl rfl ?_
    exact jX.sub (jsb_c rfl (jsb_c rfl (jsb_c rfl (jsb_c rfl (jsb_c rfl (jsb_c rfl (jsb_c rfl jsb_n))))))) (ct_X12_leastFilled_r125_102 hD hQ k6 l1 l2 l3 l4 l5 s0 v3 h (jr_of rfl (by omega)) (jr_of rfl (by omega)) (jr_of rfl (by omega)) (jr_of rfl (by omega)) (jr_of rfl (by omega)) (jr_of rfl (by omega)) (by omega) J Sm)
set_option maxRecDepth 100000 in
set_option maxHeartbeats 4000000 in
theorem ct_X12_leastFilled_r125_700054 {Dy : jH → Prop} {h0 : jH} {Q : Option Value → jH → Prop} {R6 : Int} (hD : jDk Dy) (hQ : ∀ (v : Int32) h', jJ jSgM Dy h' → jSm fp_X12_leastFilled_r125 h0 h' → Q (some (.int v)) h') (k6 : ∀ (l1 : Int32) (l2 : Int32) (l3 : Int32) (l4 : Int32) (l5 : Int32) (h : jH), 600 - l5.toInt < R6 → 0 ≤ l1.toInt ∧ l1.toInt ≤ 5 → 0 ≤ l2.toInt ∧ l2.toInt ≤ 146399 → 0 ≤ l3.toInt ∧ l3.toInt ≤ 146399 → 0 ≤ l5.toInt ∧ l5.toInt ≤ 600 → jJ jSgM Dy h → jSm fp_X12_leastFilled_r125 h0 h → jX m_X12_leastFilled 7 0 0 6 [(0, .ref 125), (1, .int l1), (2, .int l2), (3, .int l3), (4, .int l4), (5, .int l5)] [] h 0 0 Q) : ∀ (l1 : Int32) (l2 : Int32) (l3 : Int32) (l4 : Int32) (l5 : Int32) (s1 : Int32) (h : jH), 1 ≤ l1.toInt ∧ l1.toInt ≤ 3 → 0 ≤ l2.toInt ∧ l2.toInt ≤ 146399 → 0 ≤ l3.toInt ∧ l3.toInt ≤ 146399 → 0 ≤ l5.toInt ∧ l5.toInt ≤ 599 → 0 ≤ s1.toInt ∧ s1.toInt ≤ 599 → l1.toInt ≠ 0 → 600 - l5.toInt ≤ R6 → jJ jSgM Dy h → jSm fp_X12_leastFilled_r125 h0 h → jX m_X12_leastFilled 7 0 0 54 [(0, .ref 125), (1, .int l1), (2, .int l2), (3, .int l3), (4, .int l4), (5, .int l5)] [.int 5, .int s1, .ref 125] h 0 0 Q := by
  intro l1 l2 l3 l4 l5 s1 h y0 y1 y2 y3 y4 y5  m6 J Sm
  have el4 := jfull l4
  refine x_ldcw (v := 146399) rfl z_12_392 ?_
  refine x_inv (N := m_X12_mentionOf) (As := [.int s1, .int 5, .int 146399]) (b := 125) (st := []) (d' := 4) (mc := 0) (ms := 0) (host := "") 12 rfl t_X12_mentionOf ⟨Or.inl q_12_405, i_X12_mentionOf.1, i_X12_mentionOf.2⟩ ⟨by decide, rfl⟩ (congrArg Prod.fst (J.1.1 125 (12, 92) rfl)) rfl (by decide) rfl rfl ⟨by decide, by decide⟩ (sf_X12_mentionOf_r125 (jr_of rfl (by omega)) (jr_of jk_5 (by omega)) (jr_of jk_146399 (by omega)) hD J  (fun v2 h ev2 J S1 => ?_))
  have Sm := jSm_tr rfl Sm S1
  show jX m_X12_leastFilled 7 0 0 60 [(0, .ref 125), (1, .int l1), (2, .int l2), (3, .int l3), (4, .int l4), (5, .int l5)] [.int v2] _ 0 0 _
  refine x_iconst (v := (-1)) rfl ki_m1 ?_
  refine x_icne (tgt := 133) rfl rfl (ti_ne rfl jk_m1 ⟨fun c3 => ?_, fun c3 => ?_⟩)
  ·
    exact jX.sub (jsb_c rfl (jsb_c rfl (jsb_c rfl (jsb_c rfl (jsb_c rfl (jsb_c rfl jsb_n)))))) (ct_X12_leastFilled_r125_133 hD hQ k6 l1 l2 l3 l4 l5 h (jr_of rfl (by omega)) (jr_of rfl (by omega)) (jr_of rfl (by omega)) (jr_of rfl (by omega)) (by omega) J Sm)
  ·
    refine x_aloadn (x := 125) rfl rfl ?_
    refine x_iload (x := l5) rfl rfl ?_
    refine x_inv (N := m_X12_findSpan) (As := [.int l5]) (b := 125) (st := []) (d' := 6) (mc := 0) (ms := 0) (host := "") 12 rfl t_X12_findSpan ⟨Or.inl q_12_437, i_X12_findSpan.1, i_X12_findSpan.2⟩ ⟨by decide, rfl⟩ (congrArg Prod.fst (J.1.1 125 (12, 92) rfl)) rfl (by decide) rfl rfl ⟨by decide, by decide⟩ (sf_X12_findSpan_r125 (jr_of rfl (by omega)) hD J  (fun h J S4 => ?_))
    have Sm := jSm_tr rfl Sm S4
    show jX m_X12_leastFilled 7 0 0 70 [(0, .ref 125), (1, .int l1), (2, .int l2), (3, .int l3), (4, .int l4), (5, .int l5)] [] _ 0 0 _
    refine x_iloadn (x := l1) rfl rfl ?_
    refine x_ifne (tgt := 81) rfl rfl (ti_ne rfl jk_0 (bn_t (by omega) ?_))
    refine x_aloadn (x := 125) rfl rfl ?_
    refine z_getI (N := 92) 12 34 rfl f_12_418 rfl J rfl sg_125_34_35_1_0_1 (fun v5 qv5 ev5 => ?_)
    exact jX.sub (jsb_c rfl (jsb_c rfl (jsb_c rfl (jsb_c rfl (jsb_c rfl (jsb_c rfl jsb_n)))))) (ct_X12_leastFilled_r125_85 hD hQ k6 l1 l2 l3 l4 l5 v5 h (jr_of rfl (by omega)) (jr_of rfl (by omega)) (jr_of rfl (by omega)) (jr_of rfl (by omega)) (jr_of rfl (by omega)) (by omega) J Sm)
set_option maxRecDepth 100000 in
set_option maxHeartbeats 4000000 in
theorem ct_X12_leastFilled_r125_200054 {Dy : jH → Prop} {h0 : jH} {Q : Option Value → jH → Prop} {R6 : Int} (hD : jDk Dy) (hQ : ∀ (v : Int32) h', jJ jSgM Dy h' → jSm fp_X12_leastFilled_r125 h0 h' → Q (some (.int v)) h') (k6 : ∀ (l1 : Int32) (l2 : Int32) (l3 : Int32) (l4 : Int32) (l5 : Int32) (h : jH), 600 - l5.toInt < R6 → 0 ≤ l1.toInt ∧ l1.toInt ≤ 5 → 0 ≤ l2.toInt ∧ l2.toInt ≤ 146399 → 0 ≤ l3.toInt ∧ l3.toInt ≤ 146399 → 0 ≤ l5.toInt ∧ l5.toInt ≤ 600 → jJ jSgM Dy h → jSm fp_X12_leastFilled_r125 h0 h → jX m_X12_leastFilled 7 0 0 6 [(0, .ref 125), (1, .int l1), (2, .int l2), (3, .int l3), (4, .int l4), (5, .int l5)] [] h 0 0 Q) : ∀ (l1 : Int32) (l2 : Int32) (l3 : Int32) (l4 : Int32) (l5 : Int32) (s1 : Int32) (h : jH), 0 ≤ l1.toInt ∧ l1.toInt ≤ 0 → 0 ≤ l2.toInt ∧ l2.toInt ≤ 146399 → 0 ≤ l3.toInt ∧ l3.toInt ≤ 146399 → 0 ≤ l5.toInt ∧ l5.toInt ≤ 599 → 0 ≤ s1.toInt ∧ s1.toInt ≤ 599 → 600 - l5.toInt ≤ R6 → jJ jSgM Dy h → jSm fp_X12_leastFilled_r125 h0 h → jX m_X12_leastFilled 7 0 0 54 [(0, .ref 125), (1, .int l1), (2, .int l2), (3, .int l3), (4, .int l4), (5, .int l5)] [.int 0, .int s1, .ref 125] h 0 0 Q := by
  intro l1 l2 l3 l4 l5 s1 h y0 y1 y2 y3 y4  m6 J Sm
  have el4 := jfull l4
  refine x_ldcw (v := 146399) rfl z_12_392 ?_
  refine x_inv (N := m_X12_mentionOf) (As := [.int s1, .int 0, .int 146399]) (b := 125) (st := []) (d' := 4) (mc := 0) (ms := 0) (host := "") 12 rfl t_X12_mentionOf ⟨Or.inl q_12_405, i_X12_mentionOf.1, i_X12_mentionOf.2⟩ ⟨by decide, rfl⟩ (congrArg Prod.fst (J.1.1 125 (12, 92) rfl)) rfl (by decide) rfl rfl ⟨by decide, by decide⟩ (sf_X12_mentionOf_r125 (jr_of rfl (by omega)) (jr_of jk_0 (by omega)) (jr_of jk_146399 (by omega)) hD J  (fun v2 h ev2 J S1 => ?_))
  have Sm := jSm_tr rfl Sm S1
  show jX m_X12_leastFilled 7 0 0 60 [(0, .ref 125), (1, .int l1), (2, .int l2), (3, .int l3), (4, .int l4), (5, .int l5)] [.int v2] _ 0 0 _
  refine x_iconst (v := (-1)) rfl ki_m1 ?_
  refine x_icne (tgt := 133) rfl rfl (ti_ne rfl jk_m1 ⟨fun c3 => ?_, fun c3 => ?_⟩)
  ·
    exact jX.sub (jsb_c rfl (jsb_c rfl (jsb_c rfl (jsb_c rfl (jsb_c rfl (jsb_c rfl jsb_n)))))) (ct_X12_leastFilled_r125_133 hD hQ k6 l1 l2 l3 l4 l5 h (jr_of rfl (by omega)) (jr_of rfl (by omega)) (jr_of rfl (by omega)) (jr_of rfl (by omega)) (by omega) J Sm)
  ·
    refine x_aloadn (x := 125) rfl rfl ?_
    refine x_iload (x := l5) rfl rfl ?_
    refine x_inv (N := m_X12_findSpan) (As := [.int l5]) (b := 125) (st := []) (d' := 6) (mc := 0) (ms := 0) (host := "") 12 rfl t_X12_findSpan ⟨Or.inl q_12_437, i_X12_findSpan.1, i_X12_findSpan.2⟩ ⟨by decide, rfl⟩ (congrArg Prod.fst (J.1.1 125 (12, 92) rfl)) rfl (by decide) rfl rfl ⟨by decide, by decide⟩ (sf_X12_findSpan_r125 (jr_of rfl (by omega)) hD J  (fun h J S4 => ?_))
    have Sm := jSm_tr rfl Sm S4
    show jX m_X12_leastFilled 7 0 0 70 [(0, .ref 125), (1, .int l1), (2, .int l2), (3, .int l3), (4, .int l4), (5, .int l5)] [] _ 0 0 _
    refine x_iloadn (x := l1) rfl rfl ?_
    refine x_ifne (tgt := 81) rfl rfl (ti_ne rfl jk_0 (bn_f (by omega) ?_))
    refine x_aloadn (x := 125) rfl rfl ?_
    refine z_getI (N := 92) 12 32 rfl f_12_412 rfl J rfl sg_125_32_33_1_0_1 (fun v5 qv5 ev5 => ?_)
    refine x_goto (tgt := 85) rfl rfl ?_
    exact jX.sub (jsb_c rfl (jsb_c rfl (jsb_c rfl (jsb_c rfl (jsb_c rfl (jsb_c rfl jsb_n)))))) (ct_X12_leastFilled_r125_85 hD hQ k6 l1 l2 l3 l4 l5 v5 h (jr_of rfl (by omega)) (jr_of rfl (by omega)) (jr_of rfl (by omega)) (jr_of rfl (by omega)) (jr_of rfl (by omega)) (by omega) J Sm)
set_option maxRecDepth 100000 in
set_option maxHeartbeats 4000000 in
theorem ct_X12_leastFilled_r125_6 {Dy : jH → Prop} {h0 : jH} {Q : Option Value → jH → Prop} (hD : jDk Dy) (hQ : ∀ (v : Int32) h', jJ jSgM Dy h' → jSm fp_X12_leastFilled_r125 h0 h' → Q (some (.int v)) h') : ∀ r : Nat, ∀ (l1 : Int32) (l2 : Int32) (l3 : Int32) (l4 : Int32) (l5 : Int32) (h : jH), 600 - l5.toInt < (r : Int) → 0 ≤ l1.toInt ∧ l1.toInt ≤ 5 → 0 ≤ l2.toInt ∧ l2.toInt ≤ 146399 → 0 ≤ l3.toInt ∧ l3.toInt ≤ 146399 → 0 ≤ l5.toInt ∧ l5.toInt ≤ 600 → jJ jSgM Dy h → jSm fp_X12_leastFilled_r125 h0 h → jX m_X12_leastFilled 7 0 0 6 [(0, .ref 125), (1, .int l1), (2, .int l2), (3, .int l3), (4, .int l4), (5, .int l5)] [] h 0 0 Q := by
  intro r
  induction r with
  | zero =>
    intro l1 l2 l3 l4 l5 h hm y0 y1 y2 y3   J Sm
    exfalso
    omega
  | succ r ih =>
    intro l1 l2 l3 l4 l5 h hm y0 y1 y2 y3   J Sm
    have el4 := jfull l4
    refine x_iload (x := l5) rfl rfl ?_
    refine x_iconst (v := 3) rfl ki_3 ?_
    refine x_aloadn (x := 125) rfl rfl ?_
    refine z_getR (N := 92) (b := 126) 12 2 rfl f_12_8 rfl J rfl 16002 ⟨rfl, rfl⟩ rfl ?_
    refine x_iconst (v := 0) rfl ki_0 ?_
    refine z_iald (N := 50660) rfl J rfl sg_126_0_1_1_0_1 jk_0 (by omega) (fun v1 qv1 ev1 => ?_)
    refine z_imul rfl jk_3 rfl (by omega) (fun v2 ev2 => ?_)
    refine x_icge (tgt := 139) rfl rfl (ti_ge rfl rfl ⟨fun c3 => ?_, fun c3 => ?_⟩)
    ·
      exact jX.sub (jsb_c rfl jsb_n) (ct_X12_leastFilled_r125_139 hD hQ  l4 h J Sm)
    ·
      refine x_iloadn (x := l1) rfl rfl ?_
      refine x_iconst (v := 2) rfl ki_2 ?_
      refine z_irem rfl rfl jk_2 (by omega) (by omega) (fun v4 ev4 => ?_)
      refine x_ifne (tgt := 139) rfl rfl (ti_ne rfl jk_0 ⟨fun c5 => ?_, fun c5 => ?_⟩)
      ·
        exact jX.sub (jsb_c rfl jsb_n) (ct_X12_leastFilled_r125_139 hD hQ  l4 h J Sm)
      ·
        refine x_iloadn (x := l1) rfl rfl ?_
        refine x_iconst (v := 4) rfl ki_4 ?_
        refine x_icge (tgt := 139) rfl rfl (ti_ge rfl jk_4 ⟨fun c6 => ?_, fun c6 => ?_⟩)
        ·
          exact jX.sub (jsb_c rfl jsb_n) (ct_X12_leastFilled_r125_139 hD hQ  l4 h J Sm)
        ·
          refine x_aloadn (x := 125) rfl rfl ?_
          refine z_getR (N := 92) (b := 139) 12 29 rfl f_12_72 rfl J rfl 16029 ⟨rfl, rfl⟩ rfl ?_
          refine x_iload (x := l5) rfl rfl ?_
          refine z_iald (N := 600) rfl J rfl sg_139_0_600_1_0_1 rfl (by omega) (fun v7 qv7 ev7 => ?_)
          refine x_iload (x := l5) rfl rfl ?_
          refine x_icne (tgt := 133) rfl rfl (ti_ne rfl rfl ⟨fun c8 => ?_, fun c8 => ?_⟩)
          ·
            exact jX.sub (jsb_c rfl (jsb_c rfl (jsb_c rfl (jsb_c rfl (jsb_c rfl (jsb_c rfl jsb_n)))))) (ct_X12_leastFilled_r125_133 hD hQ ih l1 l2 l3 l4 l5 h (jr_of rfl (by omega)) (jr_of rfl (by omega)) (jr_of rfl (by omega)) (jr_of rfl (by omega)) (by omega) J Sm)
          ·
            refine x_aloadn (x := 125) rfl rfl ?_
            refine x_iload (x := l5) rfl rfl ?_
            refine x_iloadn (x := l1) rfl rfl ?_
            refine x_ifne (tgt := 53) rfl rfl (ti_ne rfl jk_0 ⟨fun c9 => ?_, fun c9 => ?_⟩)
            ·
              refine x_iconst (v := 5) rfl ki_5 ?_
              exact jX.sub (jsb_c rfl (jsb_c rfl (jsb_c rfl (jsb_c rfl (jsb_c rfl (jsb_c rfl jsb_n)))))) (ct_X12_leastFilled_r125_700054 hD hQ ih l1 l2 l3 l4 l5 l5 h (jr_of rfl (by omega)) (jr_of rfl (by omega)) (jr_of rfl (by omega)) (jr_of rfl (by omega)) (jr_of rfl (by omega)) (by omega) (by omega) J Sm)
            ·
              refine x_iconst (v := 0) rfl ki_0 ?_
              refine x_goto (tgt := 54) rfl rfl ?_
              exact jX.sub (jsb_c rfl (jsb_c rfl (jsb_c rfl (jsb_c rfl (jsb_c rfl (jsb_c rfl jsb_n)))))) (ct_X12_leastFilled_r125_200054 hD hQ ih l1 l2 l3 l4 l5 l5 h (jr_of rfl (by omega)) (jr_of rfl (by omega)) (jr_of rfl (by omega)) (jr_of rfl (by omega)) (jr_of rfl (by omega)) (by omega) J Sm)
set_option maxRecDepth 100000 in
set_option maxHeartbeats 4000000 in
theorem sf_X12_leastFilled_r125 {Dy : jH → Prop} {h : jH} {Q : Option Value → jH → Prop} {a1 : Int32} {a2 : Int32} {a3 : Int32} (y1 : 0 ≤ a1.toInt ∧ a1.toInt ≤ 5) (y2 : 0 ≤ a2.toInt ∧ a2.toInt ≤ 146399) (y3 : 0 ≤ a3.toInt ∧ a3.toInt ≤ 146399) (hD : jDk Dy) (J : jJ jSgM Dy h) (hQ : ∀ (v : Int32) h', jJ jSgM Dy h' → jSm fp_X12_leastFilled_r125 h h' → Q (some (.int v)) h') : jC m_X12_leastFilled 7 0 0 [.ref 125, .int a1, .int a2, .int a3] h Q := by
  refine jC.of rfl k_X12_leastFilled rfl ?_
  have Sm := jSm_rf fp_X12_leastFilled_r125 h
  show jX m_X12_leastFilled 7 0 0 0 [(0, .ref 125), (1, .int a1), (2, .int a2), (3, .int a3)] [] _ 0 0 _
  refine x_iconst (v := 0) rfl ki_0 ?_
  refine x_istore (ls' := [(4, .int 0), (0, .ref 125), (1, .int a1), (2, .int a2), (3, .int a3)]) rfl rfl rfl ?_
  refine x_iconst (v := 0) rfl ki_0 ?_
  refine x_istore (ls' := [(5, .int 0), (4, .int 0), (0, .ref 125), (1, .int a1), (2, .int a2), (3, .int a3)]) rfl rfl rfl ?_
  exact jX.sub (jsb_c rfl (jsb_c rfl (jsb_c rfl (jsb_c rfl (jsb_c rfl (jsb_c rfl jsb_n)))))) (ct_X12_leastFilled_r125_6 hD hQ  601 a1 a2 a3 0 0 h (by have := jk_0; omega) (jr_of rfl (by omega)) (jr_of rfl (by omega)) (jr_of rfl (by omega)) (jr_of jk_0 (by omega)) J Sm)
def fp_X12_linesWithin_r125 : jFp := []
set_option maxRecDepth 100000 in
set_option maxHeartbeats 4000000 in
theorem ct_X12_linesWithin_r125_300064 {Dy : jH → Prop} {h0 : jH} {Q : Option Value → jH → Prop} {R6 : Int} (hD : jDk Dy) (hQ : ∀ (v : Int32) h', jJ jSgM Dy h' → jSm fp_X12_linesWithin_r125 h0 h' → Q (some (.int v)) h') (k6 : ∀ (l1 : Int32) (l2 : Int32) (l3 : Int32) (l4 : Int32) (l5 : Int32) (h : jH), 200 - l5.toInt < R6 → 0 ≤ l1.toInt ∧ l1.toInt ≤ 5 → 0 ≤ l2.toInt ∧ l2.toInt ≤ 146399 → (-146399) ≤ l3.toInt ∧ l3.toInt ≤ 292798 → 0 ≤ l5.toInt ∧ l5.toInt ≤ 200 → jJ jSgM Dy h → jSm fp_X12_linesWithin_r125 h0 h → jX m_X12_linesWithin 3 0 0 6 [(0, .ref 125), (1, .int l1), (2, .int l2), (3, .int l3), (4, .int l4), (5, .int l5)] [] h 0 0 Q) : ∀ (l1 : Int32) (l2 : Int32) (l3 : Int32) (l5 : Int32) (s1 : Int32) (h : jH), 0 ≤ l1.toInt ∧ l1.toInt ≤ 5 → 0 ≤ l2.toInt ∧ l2.toInt ≤ 146399 → 0 ≤ l3.toInt ∧ l3.toInt ≤ 292798 → 0 ≤ l5.toInt ∧ l5.toInt ≤ 199 → 200 - l5.toInt ≤ R6 → jJ jSgM Dy h → jSm fp_X12_linesWithin_r125 h0 h → jX m_X12_linesWithin 3 0 0 64 [(0, .ref 125), (1, .int l1), (2, .int l2), (3, .int l3), (5, .int l5)] [.int 1, .int s1] h 0 0 Q := by
  intro l1 l2 l3 l5 s1 h y0 y1 y2 y3  m6 J Sm
  have es1 := jfull s1
  refine z_iadd0 rfl (fun v1 => ?_)
  have ev1 := jfull v1
  refine x_istore (ls' := [(4, .int v1), (0, .ref 125), (1, .int l1), (2, .int l2), (3, .int l3), (5, .int l5)]) rfl rfl rfl ?_
  refine z_iinc (x := l5) (ls' := fun v2 => [(5, .int v2), (4, .int v1), (0, .ref 125), (1, .int l1), (2, .int l2), (3, .int l3)]) rfl rfl rfl jko_1 (by omega) rfl (fun _ => rfl) (fun v2 ev2 => ?_)
  refine x_goto (tgt := 6) rfl rfl ?_
  exact jX.sub (jsb_c rfl (jsb_c rfl (jsb_c rfl (jsb_c rfl (jsb_c rfl (jsb_c rfl jsb_n)))))) (k6 l1 l2 l3 v1 v2 h (by omega) (jr_of rfl (by omega)) (jr_of rfl (by omega)) (jr_of rfl (by omega)) (jr_of rfl (by omega)) J Sm)
set_option maxRecDepth 100000 in
set_option maxHeartbeats 4000000 in
theorem ct_X12_linesWithin_r125_200064 {Dy : jH → Prop} {h0 : jH} {Q : Option Value → jH → Prop} {R6 : Int} (hD : jDk Dy) (hQ : ∀ (v : Int32) h', jJ jSgM Dy h' → jSm fp_X12_linesWithin_r125 h0 h' → Q (some (.int v)) h') (k6 : ∀ (l1 : Int32) (l2 : Int32) (l3 : Int32) (l4 : Int32) (l5 : Int32) (h : jH), 200 - l5.toInt < R6 → 0 ≤ l1.toInt ∧ l1.toInt ≤ 5 → 0 ≤ l2.toInt ∧ l2.toInt ≤ 146399 → (-146399) ≤ l3.toInt ∧ l3.toInt ≤ 292798 → 0 ≤ l5.toInt ∧ l5.toInt ≤ 200 → jJ jSgM Dy h → jSm fp_X12_linesWithin_r125 h0 h → jX m_X12_linesWithin 3 0 0 6 [(0, .ref 125), (1, .int l1), (2, .int l2), (3, .int l3), (4, .int l4), (5, .int l5)] [] h 0 0 Q) : ∀ (l1 : Int32) (l2 : Int32) (l3 : Int32) (l5 : Int32) (s1 : Int32) (h : jH), 0 ≤ l1.toInt ∧ l1.toInt ≤ 5 → 0 ≤ l2.toInt ∧ l2.toInt ≤ 146399 → (-146399) ≤ l3.toInt ∧ l3.toInt ≤ 292798 → 0 ≤ l5.toInt ∧ l5.toInt ≤ 199 → 200 - l5.toInt ≤ R6 → jJ jSgM Dy h → jSm fp_X12_linesWithin_r125 h0 h → jX m_X12_linesWithin 3 0 0 64 [(0, .ref 125), (1, .int l1), (2, .int l2), (3, .int l3), (5, .int l5)] [.int 0, .int s1] h 0 0 Q := by
  intro l1 l2 l3 l5 s1 h y0 y1 y2 y3  m6 J Sm
  have es1 := jfull s1
  refine z_iadd rfl rfl jk_0 (by omega) (fun v1 ev1 => ?_)
  refine x_istore (ls' := [(4, .int v1), (0, .ref 125), (1, .int l1), (2, .int l2), (3, .int l3), (5, .int l5)]) rfl rfl rfl ?_
  refine z_iinc (x := l5) (ls' := fun v2 => [(5, .int v2), (4, .int v1), (0, .ref 125), (1, .int l1), (2, .int l2), (3, .int l3)]) rfl rfl rfl jko_1 (by omega) rfl (fun _ => rfl) (fun v2 ev2 => ?_)
  refine x_goto (tgt := 6) rfl rfl ?_
  exact jX.sub (jsb_c rfl (jsb_c rfl (jsb_c rfl (jsb_c rfl (jsb_c rfl (jsb_c rfl jsb_n)))))) (k6 l1 l2 l3 v1 v2 h (by omega) (jr_of rfl (by omega)) (jr_of rfl (by omega)) (jr_of rfl (by omega)) (jr_of rfl (by omega)) J Sm)
set_option maxRecDepth 100000 in
set_option maxHeartbeats 4000000 in
theorem ct_X12_linesWithin_r125_63 {Dy : jH → Prop} {h0 : jH} {Q : Option Value → jH → Prop} {R6 : Int} (hD : jDk Dy) (hQ : ∀ (v : Int32) h', jJ jSgM Dy h' → jSm fp_X12_linesWithin_r125 h0 h' → Q (some (.int v)) h') (k6 : ∀ (l1 : Int32) (l2 : Int32) (l3 : Int32) (l4 : Int32) (l5 : Int32) (h : jH), 200 - l5.toInt < R6 → 0 ≤ l1.toInt ∧ l1.toInt ≤ 5 → 0 ≤ l2.toInt ∧ l2.toInt ≤ 146399 → (-146399) ≤ l3.toInt ∧ l3.toInt ≤ 292798 → 0 ≤ l5.toInt ∧ l5.toInt ≤ 200 → jJ jSgM Dy h → jSm fp_X12_linesWithin_r125 h0 h → jX m_X12_linesWithin 3 0 0 6 [(0, .ref 125), (1, .int l1), (2, .int l2), (3, .int l3), (4, .int l4), (5, .int l5)] [] h 0 0 Q) : ∀ (l1 : Int32) (l2 : Int32) (l3 : Int32) (l5 : Int32) (s0 : Int32) (h : jH), 0 ≤ l1.toInt ∧ l1.toInt ≤ 5 → 0 ≤ l2.toInt ∧ l2.toInt ≤ 146399 → (-146399) ≤ l3.toInt ∧ l3.toInt ≤ 292798 → 0 ≤ l5.toInt ∧ l5.toInt ≤ 199 → 200 - l5.toInt ≤ R6 → jJ jSgM Dy h → jSm fp_X12_linesWithin_r125 h0 h → jX m_X12_linesWithin 3 0 0 63 [(0, .ref 125), (1, .int l1), (2, .int l2), (3, .int l3), (5, .int l5)] [.int s0] h 0 0 Q := by
  intro l1 l2 l3 l5 s0 h y0 y1 y2 y3  m6 J Sm
  have es0 := jfull s0
  refine x_iconst (v := 0) rfl ki_0 ?_
  exact jX.sub (jsb_c rfl (jsb_c rfl (jsb_c rfl (jsb_c rfl (jsb_c rfl jsb_n))))) (ct_X12_linesWithin_r125_200064 hD hQ k6 l1 l2 l3 l5 s0 h (jr_of rfl (by omega)) (jr_of rfl (by omega)) (jr_of rfl (by omega)) (jr_of rfl (by omega)) (by omega) J Sm)
set_option maxRecDepth 100000 in
set_option maxHeartbeats 4000000 in
theorem ct_X12_linesWithin_r125_6 {Dy : jH → Prop} {h0 : jH} {Q : Option Value → jH → Prop} (hD : jDk Dy) (hQ : ∀ (v : Int32) h', jJ jSgM Dy h' → jSm fp_X12_linesWithin_r125 h0 h' → Q (some (.int v)) h') : ∀ r : Nat, ∀ (l1 : Int32) (l2 : Int32) (l3 : Int32) (l4 : Int32) (l5 : Int32) (h : jH), 200 - l5.toInt < (r : Int) → 0 ≤ l1.toInt ∧ l1.toInt ≤ 5 → 0 ≤ l2.toInt ∧ l2.toInt ≤ 146399 → (-146399) ≤ l3.toInt ∧ l3.toInt ≤ 292798 → 0 ≤ l5.toInt ∧ l5.toInt ≤ 200 → jJ jSgM Dy h → jSm fp_X12_linesWithin_r125 h0 h → jX m_X12_linesWithin 3 0 0 6 [(0, .ref 125), (1, .int l1), (2, .int l2), (3, .int l3), (4, .int l4), (5, .int l5)] [] h 0 0 Q := by
  intro r
  induction r with
  | zero =>
    intro l1 l2 l3 l4 l5 h hm y0 y1 y2 y3   J Sm
    exfalso
    omega
  | succ r ih =>
    intro l1 l2 l3 l4 l5 h hm y0 y1 y2 y3   J Sm
    have el4 := jfull l4
    refine x_iload (x := l5) rfl rfl ?_
    refine x_aloadn (x := 125) rfl rfl ?_
    refine z_getR (N := 92) (b := 126) 12 2 rfl f_12_8 rfl J rfl 16002 ⟨rfl, rfl⟩ rfl ?_
    refine x_iconst (v := 0) rfl ki_0 ?_
    refine z_iald (N := 50660) rfl J rfl sg_126_0_1_1_0_1 jk_0 (by omega) (fun v1 qv1 ev1 => ?_)
    refine x_icge (tgt := 73) rfl rfl (ti_ge rfl rfl ⟨fun c2 => ?_, fun c2 => ?_⟩)
    ·
      refine x_iload (x := l4) rfl rfl ?_
      refine x_iret rfl rfl ?_
      exact hQ _ _ J Sm
    ·
      refine x_iload (x := l4) rfl rfl ?_
      refine x_aloadn (x := 125) rfl rfl ?_
      refine x_iload (x := l5) rfl rfl ?_
      refine x_inv (N := m_X12_bookOf) (As := [.int l5]) (b := 125) (st := [.int l4]) (d' := 2) (mc := 0) (ms := 0) (host := "") 12 rfl t_X12_bookOf ⟨Or.inl q_12_299, i_X12_bookOf.1, i_X12_bookOf.2⟩ ⟨by decide, rfl⟩ (congrArg Prod.fst (J.1.1 125 (12, 92) rfl)) rfl (by decide) rfl rfl ⟨by decide, by decide⟩ (jC.of rfl k_X12_bookOf rfl ?_)
      show jX m_X12_bookOf 2 0 0 0 [(0, .ref 125), (1, .int l5)] [] _ 0 0 _
      refine x_aloadn (x := 125) rfl rfl ?_
      refine z_getR (N := 92) (b := 126) 12 2 rfl f_12_8 rfl J rfl 16002 ⟨rfl, rfl⟩ rfl ?_
      refine x_aloadn (x := 125) rfl rfl ?_
      refine x_iloadn (x := l5) rfl rfl ?_
      refine x_inv (N := m_X12_at) (As := [.int l5]) (b := 125) (st := [.ref 126]) (d' := 1) (mc := 0) (ms := 0) (host := "") 12 rfl t_X12_at ⟨Or.inl q_12_254, i_X12_at.1, i_X12_at.2⟩ ⟨by decide, rfl⟩ (congrArg Prod.fst (J.1.1 125 (12, 92) rfl)) rfl (by decide) rfl rfl ⟨by decide, by decide⟩ (jC.of rfl k_X12_at rfl ?_)
      show jX m_X12_at 1 0 0 0 [(0, .ref 125), (1, .int l5)] [] _ 0 0 _
      refine x_bipush (v := 20) rfl kb_20 ?_
      refine x_bipush (v := 90) rfl kb_90 ?_
      refine x_iloadn (x := l5) rfl rfl ?_
      refine z_imul rfl jk_90 rfl (by omega) (fun v3 ev3 => ?_)
      refine z_iadd rfl jk_20 rfl (by omega) (fun v4 ev4 => ?_)
      refine x_iret rfl rfl ?_
      show jX m_X12_bookOf 2 0 0 9 [(0, .ref 125), (1, .int l5)] [.int v4, .ref 126] _ 0 0 _
      refine z_iald (N := 50660) rfl J rfl sg_126_20_18020_90_0_1 rfl (by omega) (fun v5 qv5 ev5 => ?_)
      refine x_iret rfl rfl ?_
      show jX m_X12_linesWithin 3 0 0 25 [(0, .ref 125), (1, .int l1), (2, .int l2), (3, .int l3), (4, .int l4), (5, .int l5)] [.int v5, .int l4] _ 0 0 _
      refine x_iloadn (x := l1) rfl rfl ?_
      refine x_icne (tgt := 63) rfl rfl (ti_ne rfl rfl ⟨fun c6 => ?_, fun c6 => ?_⟩)
      ·
        exact jX.sub (jsb_c rfl (jsb_c rfl (jsb_c rfl (jsb_c rfl (jsb_c rfl jsb_n))))) (ct_X12_linesWithin_r125_63 hD hQ ih l1 l2 l3 l5 l4 h (jr_of rfl (by omega)) (jr_of rfl (by omega)) (jr_of rfl (by omega)) (jr_of rfl (by omega)) (by omega) J Sm)
      ·
        refine x_aloadn (x := 125) rfl rfl ?_
        refine x_iload (x := l5) rfl rfl ?_
        refine x_aloadn (x := 125) rfl rfl ?_
        refine z_getI (N := 92) 12 28 rfl f_12_377 rfl J rfl sg_125_28_29_1_0_1 (fun v7 qv7 ev7 => ?_)
        refine x_inv (N := m_X12_isKnown) (As := [.int l5, .int v7]) (b := 125) (st := [.int l4]) (d' := 2) (mc := 0) (ms := 0) (host := "") 12 rfl t_X12_isKnown ⟨Or.inl q_12_383, i_X12_isKnown.1, i_X12_isKnown.2⟩ ⟨by decide, rfl⟩ (congrArg Prod.fst (J.1.1 125 (12, 92) rfl)) rfl (by decide) rfl rfl ⟨by decide, by decide⟩ (jC.of rfl k_X12_isKnown rfl ?_)
        show jX m_X12_isKnown 2 0 0 0 [(0, .ref 125), (1, .int l5), (2, .int v7)] [] _ 0 0 _
        refine x_aloadn (x := 125) rfl rfl ?_
        refine z_getR (N := 92) (b := 126) 12 2 rfl f_12_8 rfl J rfl 16002 ⟨rfl, rfl⟩ rfl ?_
        refine x_aloadn (x := 125) rfl rfl ?_
        refine x_iloadn (x := l5) rfl rfl ?_
        refine x_inv (N := m_X12_at) (As := [.int l5]) (b := 125) (st := [.ref 126]) (d' := 1) (mc := 0) (ms := 0) (host := "") 12 rfl t_X12_at ⟨Or.inl q_12_254, i_X12_at.1, i_X12_at.2⟩ ⟨by decide, rfl⟩ (congrArg Prod.fst (J.1.1 125 (12, 92) rfl)) rfl (by decide) rfl rfl ⟨by decide, by decide⟩ (jC.of rfl k_X12_at rfl ?_)
        show jX m_X12_at 1 0 0 0 [(0, .ref 125), (1, .int l5)] [] _ 0 0 _
        refine x_bipush (v := 20) rfl kb_20 ?_
        refine x_bipush (v := 90) rfl kb_90 ?_
        refine x_iloadn (x := l5) rfl rfl ?_
        refine z_imul rfl jk_90 rfl (by omega) (fun v8 ev8 => ?_)
        refine z_iadd rfl jk_20 rfl (by omega) (fun v9 ev9 => ?_)
        refine x_iret rfl rfl ?_
        show jX m_X12_isKnown 2 0 0 9 [(0, .ref 125), (1, .int l5), (2, .int v7)] [.int v9, .ref 126] _ 0 0 _
        refine x_iconst (v := 3) rfl ki_3 ?_
        refine z_iadd rfl rfl jk_3 (by omega) (fun v10 ev10 => ?_)
        refine z_iald (N := 50660) rfl J rfl sg_126_20_18020_90_3_4 rfl (by omega) (fun v11 qv11 ev11 => ?_)
        refine x_iloadn (x := v7) rfl rfl ?_
        refine x_icgt (tgt := 20) rfl rfl (ti_gt rfl rfl ⟨fun c12 => ?_, fun c12 => ?_⟩)
        ·
          refine x_iconst (v := 0) rfl ki_0 ?_
          refine x_zret rfl rfl (by decide) ?_
          show jX m_X12_linesWithin 3 0 0 39 [(0, .ref 125), (1, .int l1), (2, .int l2), (3, .int l3), (4, .int l4), (5, .int l5)] [.int 0, .int l4] _ 0 0 _
          refine x_ifeq (tgt := 63) rfl rfl (ti_eq jk_0 jk_0 (br_t (by omega) ?_))
          exact jX.sub (jsb_c rfl (jsb_c rfl (jsb_c rfl (jsb_c rfl (jsb_c rfl jsb_n))))) (ct_X12_linesWithin_r125_63 hD hQ ih l1 l2 l3 l5 l4 h (jr_of rfl (by omega)) (jr_of rfl (by omega)) (jr_of rfl (by omega)) (jr_of rfl (by omega)) (by omega) J Sm)
        ·
          refine x_iconst (v := 1) rfl ki_1 ?_
          refine x_goto (tgt := 21) rfl rfl ?_
          refine x_zret rfl rfl (by decide) ?_
          show jX m_X12_linesWithin 3 0 0 39 [(0, .ref 125), (1, .int l1), (2, .int l2), (3, .int l3), (4, .int l4), (5, .int l5)] [.int 1, .int l4] _ 0 0 _
          refine x_ifeq (tgt := 63) rfl rfl (ti_eq jk_1 jk_0 (br_f (by omega) ?_))
          refine x_aloadn (x := 125) rfl rfl ?_
          refine x_iload (x := l5) rfl rfl ?_
          refine x_inv (N := m_X12_dayOf) (As := [.int l5]) (b := 125) (st := [.int l4]) (d' := 2) (mc := 0) (ms := 0) (host := "") 12 rfl t_X12_dayOf ⟨Or.inl q_12_335, i_X12_dayOf.1, i_X12_dayOf.2⟩ ⟨by decide, rfl⟩ (congrArg Prod.fst (J.1.1 125 (12, 92) rfl)) rfl (by decide) rfl rfl ⟨by decide, by decide⟩ (jC.of rfl k_X12_dayOf rfl ?_)
          show jX m_X12_dayOf 2 0 0 0 [(0, .ref 125), (1, .int l5)] [] _ 0 0 _
          refine x_aloadn (x := 125) rfl rfl ?_
          refine z_getR (N := 92) (b := 126) 12 2 rfl f_12_8 rfl J rfl 16002 ⟨rfl, rfl⟩ rfl ?_
          refine x_aloadn (x := 125) rfl rfl ?_
          refine x_iloadn (x := l5) rfl rfl ?_
          refine x_inv (N := m_X12_at) (As := [.int l5]) (b := 125) (st := [.ref 126]) (d' := 1) (mc := 0) (ms := 0) (host := "") 12 rfl t_X12_at ⟨Or.inl q_12_254, i_X12_at.1, i_X12_at.2⟩ ⟨by decide, rfl⟩ (congrArg Prod.fst (J.1.1 125 (12, 92) rfl)) rfl (by decide) rfl rfl ⟨by decide, by decide⟩ (jC.of rfl k_X12_at rfl ?_)
          show jX m_X12_at 1 0 0 0 [(0, .ref 125), (1, .int l5)] [] _ 0 0 _
          refine x_bipush (v := 20) rfl kb_20 ?_
          refine x_bipush (v := 90) rfl kb_90 ?_
          refine x_iloadn (x := l5) rfl rfl ?_
          refine z_imul rfl jk_90 rfl (by omega) (fun v13 ev13 => ?_)
          refine z_iadd rfl jk_20 rfl (by omega) (fun v14 ev14 => ?_)
          refine x_iret rfl rfl ?_
          show jX m_X12_dayOf 2 0 0 9 [(0, .ref 125), (1, .int l5)] [.int v14, .ref 126] _ 0 0 _
          refine x_iconst (v := 2) rfl ki_2 ?_
          refine z_iadd rfl rfl jk_2 (by omega) (fun v15 ev15 => ?_)
          refine z_iald (N := 50660) rfl J rfl sg_126_20_18020_90_2_3 rfl (by omega) (fun v16 qv16 ev16 => ?_)
          refine x_iret rfl rfl ?_
          show jX m_X12_linesWithin 3 0 0 48 [(0, .ref 125), (1, .int l1), (2, .int l2), (3, .int l3), (4, .int l4), (5, .int l5)] [.int v16, .int l4] _ 0 0 _
          refine z_i2l rfl rfl (fun v17 ev17 => ?_)
          refine x_iloadn (x := l2) rfl rfl ?_
          refine z_i2l rfl rfl (fun v18 ev18 => ?_)
          refine x_iloadn (x := l3) rfl rfl ?_
          refine z_i2l rfl rfl (fun v19 ev19 => ?_)
          refine x_inst (N := m_X12_in) (As := [.long v17, .long v18, .long v19]) (st := [.int l4]) (d' := 1) (mc := 0) (ms := 0) (host := "") rfl t_X12_in ⟨Or.inl q_12_188, s_X12_in⟩ rfl (by decide) rfl rfl ⟨by decide, by decide⟩ (zc_X12_in rfl rfl rfl (fun v20 ev20 => ?_))
          show jX m_X12_linesWithin 3 0 0 56 [(0, .ref 125), (1, .int l1), (2, .int l2), (3, .int l3), (4, .int l4), (5, .int l5)] [.int v20, .int l4] _ 0 0 _
          refine x_ifeq (tgt := 63) rfl rfl (ti_eq rfl jk_0 ⟨fun c21 => ?_, fun c21 => ?_⟩)
          ·
            exact jX.sub (jsb_c rfl (jsb_c rfl (jsb_c rfl (jsb_c rfl (jsb_c rfl jsb_n))))) (ct_X12_linesWithin_r125_63 hD hQ ih l1 l2 l3 l5 l4 h (jr_of rfl (by omega)) (jr_of rfl (by omega)) (jr_of rfl (by omega)) (jr_of rfl (by omega)) (by omega) J Sm)
          ·
            refine x_iconst (v := 1) rfl ki_1 ?_
            refine x_goto (tgt := 64) rfl rfl ?_
            exact jX.sub (jsb_c rfl (jsb_c rfl (jsb_c rfl (jsb_c rfl (jsb_c rfl jsb_n))))) (ct_X12_linesWithin_r125_300064 hD hQ ih l1 l2 l3 l5 l4 h (jr_of rfl (by omega)) (jr_of rfl (by omega)) (jr_of rfl (by omega)) (jr_of rfl (by omega)) (by omega) J Sm)
set_option maxRecDepth 100000 in
set_option maxHeartbeats 4000000 in
theorem sf_X12_linesWithin_r125 {Dy : jH → Prop} {h : jH} {Q : Option Value → jH → Prop} {a1 : Int32} {a2 : Int32} {a3 : Int32} (y1 : 0 ≤ a1.toInt ∧ a1.toInt ≤ 5) (y2 : 0 ≤ a2.toInt ∧ a2.toInt ≤ 146399) (y3 : (-146399) ≤ a3.toInt ∧ a3.toInt ≤ 292798) (hD : jDk Dy) (J : jJ jSgM Dy h) (hQ : ∀ (v : Int32) h', jJ jSgM Dy h' → jSm fp_X12_linesWithin_r125 h h' → Q (some (.int v)) h') : jC m_X12_linesWithin 3 0 0 [.ref 125, .int a1, .int a2, .int a3] h Q := by
  refine jC.of rfl k_X12_linesWithin rfl ?_
  have Sm := jSm_rf fp_X12_linesWithin_r125 h
  show jX m_X12_linesWithin 3 0 0 0 [(0, .ref 125), (1, .int a1), (2, .int a2), (3, .int a3)] [] _ 0 0 _
  refine x_iconst (v := 0) rfl ki_0 ?_
  refine x_istore (ls' := [(4, .int 0), (0, .ref 125), (1, .int a1), (2, .int a2), (3, .int a3)]) rfl rfl rfl ?_
  refine x_iconst (v := 0) rfl ki_0 ?_
  refine x_istore (ls' := [(5, .int 0), (4, .int 0), (0, .ref 125), (1, .int a1), (2, .int a2), (3, .int a3)]) rfl rfl rfl ?_
  exact jX.sub (jsb_c rfl (jsb_c rfl (jsb_c rfl (jsb_c rfl (jsb_c rfl (jsb_c rfl jsb_n)))))) (ct_X12_linesWithin_r125_6 hD hQ  201 a1 a2 a3 0 0 h (by have := jk_0; omega) (jr_of rfl (by omega)) (jr_of rfl (by omega)) (jr_of rfl (by omega)) (jr_of jk_0 (by omega)) J Sm)
def fp_X12_mostFilled_r125 : jFp := []
set_option maxRecDepth 100000 in
set_option maxHeartbeats 4000000 in
theorem ct_X12_mostFilled_r125_89 {Dy : jH → Prop} {h0 : jH} {Q : Option Value → jH → Prop} {R5 : Int} (hD : jDk Dy) (hQ : ∀ (v : Int32) h', 0 ≤ v.toInt ∧ v.toInt ≤ 2147483647 → jJ jSgM Dy h' → jSm fp_X12_mostFilled_r125 h0 h' → Q (some (.int v)) h') (k5 : ∀ (l1 : Int32) (l2 : Int32) (l3 : Int32) (l4 : Int32) (h : jH), 200 - l4.toInt < R5 → 0 ≤ l1.toInt ∧ l1.toInt ≤ 5 → (-146398) ≤ l2.toInt ∧ l2.toInt ≤ 146400 → 0 ≤ l3.toInt ∧ l3.toInt ≤ 2147483647 → 0 ≤ l4.toInt ∧ l4.toInt ≤ 200 → jJ jSgM Dy h → jSm fp_X12_mostFilled_r125 h0 h → jX m_X12_mostFilled 4 0 0 5 [(0, .ref 125), (1, .int l1), (2, .int l2), (3, .int l3), (4, .int l4)] [] h 0 0 Q) : ∀ (l1 : Int32) (l2 : Int32) (l3 : Int32) (l4 : Int32) (h : jH), 0 ≤ l1.toInt ∧ l1.toInt ≤ 5 → (-146398) ≤ l2.toInt ∧ l2.toInt ≤ 146400 → 0 ≤ l3.toInt ∧ l3.toInt ≤ 2147483647 → 0 ≤ l4.toInt ∧ l4.toInt ≤ 199 → 200 - l4.toInt ≤ R5 → jJ jSgM Dy h → jSm fp_X12_mostFilled_r125 h0 h → jX m_X12_mostFilled 4 0 0 89 [(0, .ref 125), (1, .int l1), (2, .int l2), (3, .int l3), (4, .int l4)] [] h 0 0 Q := by
  intro l1 l2 l3 l4 h y0 y1 y2 y3  m5 J Sm
  refine z_iinc (x := l4) (ls' := fun v1 => [(4, .int v1), (0, .ref 125), (1, .int l1), (2, .int l2), (3, .int l3)]) rfl rfl rfl jko_1 (by omega) rfl (fun _ => rfl) (fun v1 ev1 => ?_)
  refine x_goto (tgt := 5) rfl rfl ?_
  exact jX.sub (jsb_c rfl (jsb_c rfl (jsb_c rfl (jsb_c rfl (jsb_c rfl jsb_n))))) (k5 l1 l2 l3 v1 h (by omega) (jr_of rfl (by omega)) (jr_of rfl (by omega)) (jr_of rfl (by omega)) (jr_of rfl (by omega)) J Sm)
set_option maxRecDepth 100000 in
set_option maxHeartbeats 4000000 in
theorem ct_X12_mostFilled_r125_5 {Dy : jH → Prop} {h0 : jH} {Q : Option Value → jH → Prop} (hD : jDk Dy) (hQ : ∀ (v : Int32) h', 0 ≤ v.toInt ∧ v.toInt ≤ 2147483647 → jJ jSgM Dy h' → jSm fp_X12_mostFilled_r125 h0 h' → Q (some (.int v)) h') : ∀ r : Nat, ∀ (l1 : Int32) (l2 : Int32) (l3 : Int32) (l4 : Int32) (h : jH), 200 - l4.toInt < (r : Int) → 0 ≤ l1.toInt ∧ l1.toInt ≤ 5 → (-146398) ≤ l2.toInt ∧ l2.toInt ≤ 146400 → 0 ≤ l3.toInt ∧ l3.toInt ≤ 2147483647 → 0 ≤ l4.toInt ∧ l4.toInt ≤ 200 → jJ jSgM Dy h → jSm fp_X12_mostFilled_r125 h0 h → jX m_X12_mostFilled 4 0 0 5 [(0, .ref 125), (1, .int l1), (2, .int l2), (3, .int l3), (4, .int l4)] [] h 0 0 Q := by
  intro r
  induction r with
  | zero =>
    intro l1 l2 l3 l4 h hm y0 y1 y2 y3   J Sm
    exfalso
    omega
  | succ r ih =>
    intro l1 l2 l3 l4 h hm y0 y1 y2 y3   J Sm
    refine x_iload (x := l4) rfl rfl ?_
    refine x_aloadn (x := 125) rfl rfl ?_
    refine z_getR (N := 92) (b := 126) 12 2 rfl f_12_8 rfl J rfl 16002 ⟨rfl, rfl⟩ rfl ?_
    refine x_iconst (v := 0) rfl ki_0 ?_
    refine z_iald (N := 50660) rfl J rfl sg_126_0_1_1_0_1 jk_0 (by omega) (fun v1 qv1 ev1 => ?_)
    refine x_icge (tgt := 95) rfl rfl (ti_ge rfl rfl ⟨fun c2 => ?_, fun c2 => ?_⟩)
    ·
      refine x_iloadn (x := l3) rfl rfl ?_
      refine x_iret rfl rfl ?_
      exact hQ _ _ (jr_of rfl (by omega)) J Sm
    ·
      refine x_aloadn (x := 125) rfl rfl ?_
      refine x_iload (x := l4) rfl rfl ?_
      refine x_inv (N := m_X12_bookOf) (As := [.int l4]) (b := 125) (st := []) (d' := 3) (mc := 0) (ms := 0) (host := "") 12 rfl t_X12_bookOf ⟨Or.inl q_12_299, i_X12_bookOf.1, i_X12_bookOf.2⟩ ⟨by decide, rfl⟩ (congrArg Prod.fst (J.1.1 125 (12, 92) rfl)) rfl (by decide) rfl rfl ⟨by decide, by decide⟩ (jC.of rfl k_X12_bookOf rfl ?_)
      show jX m_X12_bookOf 3 0 0 0 [(0, .ref 125), (1, .int l4)] [] _ 0 0 _
      refine x_aloadn (x := 125) rfl rfl ?_
      refine z_getR (N := 92) (b := 126) 12 2 rfl f_12_8 rfl J rfl 16002 ⟨rfl, rfl⟩ rfl ?_
      refine x_aloadn (x := 125) rfl rfl ?_
      refine x_iloadn (x := l4) rfl rfl ?_
      refine x_inv (N := m_X12_at) (As := [.int l4]) (b := 125) (st := [.ref 126]) (d' := 2) (mc := 0) (ms := 0) (host := "") 12 rfl t_X12_at ⟨Or.inl q_12_254, i_X12_at.1, i_X12_at.2⟩ ⟨by decide, rfl⟩ (congrArg Prod.fst (J.1.1 125 (12, 92) rfl)) rfl (by decide) rfl rfl ⟨by decide, by decide⟩ (jC.of rfl k_X12_at rfl ?_)
      show jX m_X12_at 2 0 0 0 [(0, .ref 125), (1, .int l4)] [] _ 0 0 _
      refine x_bipush (v := 20) rfl kb_20 ?_
      refine x_bipush (v := 90) rfl kb_90 ?_
      refine x_iloadn (x := l4) rfl rfl ?_
      refine z_imul rfl jk_90 rfl (by omega) (fun v3 ev3 => ?_)
      refine z_iadd rfl jk_20 rfl (by omega) (fun v4 ev4 => ?_)
      refine x_iret rfl rfl ?_
      show jX m_X12_bookOf 3 0 0 9 [(0, .ref 125), (1, .int l4)] [.int v4, .ref 126] _ 0 0 _
      refine z_iald (N := 50660) rfl J rfl sg_126_20_18020_90_0_1 rfl (by omega) (fun v5 qv5 ev5 => ?_)
      refine x_iret rfl rfl ?_
      show jX m_X12_mostFilled 4 0 0 22 [(0, .ref 125), (1, .int l1), (2, .int l2), (3, .int l3), (4, .int l4)] [.int v5] _ 0 0 _
      refine x_iloadn (x := l1) rfl rfl ?_
      refine x_icne (tgt := 89) rfl rfl (ti_ne rfl rfl ⟨fun c6 => ?_, fun c6 => ?_⟩)
      ·
        exact jX.sub (jsb_c rfl (jsb_c rfl (jsb_c rfl (jsb_c rfl (jsb_c rfl jsb_n))))) (ct_X12_mostFilled_r125_89 hD hQ ih l1 l2 l3 l4 h (jr_of rfl (by omega)) (jr_of rfl (by omega)) (jr_of rfl (by omega)) (jr_of rfl (by omega)) (by omega) J Sm)
      ·
        refine x_aloadn (x := 125) rfl rfl ?_
        refine x_iload (x := l4) rfl rfl ?_
        refine x_aloadn (x := 125) rfl rfl ?_
        refine z_getI (N := 92) 12 28 rfl f_12_377 rfl J rfl sg_125_28_29_1_0_1 (fun v7 qv7 ev7 => ?_)
        refine x_inv (N := m_X12_isKnown) (As := [.int l4, .int v7]) (b := 125) (st := []) (d' := 3) (mc := 0) (ms := 0) (host := "") 12 rfl t_X12_isKnown ⟨Or.inl q_12_383, i_X12_isKnown.1, i_X12_isKnown.2⟩ ⟨by decide, rfl⟩ (congrArg Prod.fst (J.1.1 125 (12, 92) rfl)) rfl (by decide) rfl rfl ⟨by decide, by decide⟩ (jC.of rfl k_X12_isKnown rfl ?_)
        show jX m_X12_isKnown 3 0 0 0 [(0, .ref 125), (1, .int l4), (2, .int v7)] [] _ 0 0 _
        refine x_aloadn (x := 125) rfl rfl ?_
        refine z_getR (N := 92) (b := 126) 12 2 rfl f_12_8 rfl J rfl 16002 ⟨rfl, rfl⟩ rfl ?_
        refine x_aloadn (x := 125) rfl rfl ?_
        refine x_iloadn (x := l4) rfl rfl ?_
        refine x_inv (N := m_X12_at) (As := [.int l4]) (b := 125) (st := [.ref 126]) (d' := 2) (mc := 0) (ms := 0) (host := "") 12 rfl t_X12_at ⟨Or.inl q_12_254, i_X12_at.1, i_X12_at.2⟩ ⟨by decide, rfl⟩ (congrArg Prod.fst (J.1.1 125 (12, 92) rfl)) rfl (by decide) rfl rfl ⟨by decide, by decide⟩ (jC.of rfl k_X12_at rfl ?_)
        show jX m_X12_at 2 0 0 0 [(0, .ref 125), (1, .int l4)] [] _ 0 0 _
        refine x_bipush (v := 20) rfl kb_20 ?_
        refine x_bipush (v := 90) rfl kb_90 ?_
        refine x_iloadn (x := l4) rfl rfl ?_
        refine z_imul rfl jk_90 rfl (by omega) (fun v8 ev8 => ?_)
        refine z_iadd rfl jk_20 rfl (by omega) (fun v9 ev9 => ?_)
        refine x_iret rfl rfl ?_
        show jX m_X12_isKnown 3 0 0 9 [(0, .ref 125), (1, .int l4), (2, .int v7)] [.int v9, .ref 126] _ 0 0 _
        refine x_iconst (v := 3) rfl ki_3 ?_
        refine z_iadd rfl rfl jk_3 (by omega) (fun v10 ev10 => ?_)
        refine z_iald (N := 50660) rfl J rfl sg_126_20_18020_90_3_4 rfl (by omega) (fun v11 qv11 ev11 => ?_)
        refine x_iloadn (x := v7) rfl rfl ?_
        refine x_icgt (tgt := 20) rfl rfl (ti_gt rfl rfl ⟨fun c12 => ?_, fun c12 => ?_⟩)
        ·
          refine x_iconst (v := 0) rfl ki_0 ?_
          refine x_zret rfl rfl (by decide) ?_
          show jX m_X12_mostFilled 4 0 0 36 [(0, .ref 125), (1, .int l1), (2, .int l2), (3, .int l3), (4, .int l4)] [.int 0] _ 0 0 _
          refine x_ifeq (tgt := 89) rfl rfl (ti_eq jk_0 jk_0 (br_t (by omega) ?_))
          exact jX.sub (jsb_c rfl (jsb_c rfl (jsb_c rfl (jsb_c rfl (jsb_c rfl jsb_n))))) (ct_X12_mostFilled_r125_89 hD hQ ih l1 l2 l3 l4 h (jr_of rfl (by omega)) (jr_of rfl (by omega)) (jr_of rfl (by omega)) (jr_of rfl (by omega)) (by omega) J Sm)
        ·
          refine x_iconst (v := 1) rfl ki_1 ?_
          refine x_goto (tgt := 21) rfl rfl ?_
          refine x_zret rfl rfl (by decide) ?_
          show jX m_X12_mostFilled 4 0 0 36 [(0, .ref 125), (1, .int l1), (2, .int l2), (3, .int l3), (4, .int l4)] [.int 1] _ 0 0 _
          refine x_ifeq (tgt := 89) rfl rfl (ti_eq jk_1 jk_0 (br_f (by omega) ?_))
          refine x_aloadn (x := 125) rfl rfl ?_
          refine x_iloadn (x := l1) rfl rfl ?_
          refine x_aloadn (x := 125) rfl rfl ?_
          refine x_iload (x := l4) rfl rfl ?_
          refine x_inv (N := m_X12_dayOf) (As := [.int l4]) (b := 125) (st := [.int l1, .ref 125]) (d' := 3) (mc := 0) (ms := 0) (host := "") 12 rfl t_X12_dayOf ⟨Or.inl q_12_335, i_X12_dayOf.1, i_X12_dayOf.2⟩ ⟨by decide, rfl⟩ (congrArg Prod.fst (J.1.1 125 (12, 92) rfl)) rfl (by decide) rfl rfl ⟨by decide, by decide⟩ (jC.of rfl k_X12_dayOf rfl ?_)
          show jX m_X12_dayOf 3 0 0 0 [(0, .ref 125), (1, .int l4)] [] _ 0 0 _
          refine x_aloadn (x := 125) rfl rfl ?_
          refine z_getR (N := 92) (b := 126) 12 2 rfl f_12_8 rfl J rfl 16002 ⟨rfl, rfl⟩ rfl ?_
          refine x_aloadn (x := 125) rfl rfl ?_
          refine x_iloadn (x := l4) rfl rfl ?_
          refine x_inv (N := m_X12_at) (As := [.int l4]) (b := 125) (st := [.ref 126]) (d' := 2) (mc := 0) (ms := 0) (host := "") 12 rfl t_X12_at ⟨Or.inl q_12_254, i_X12_at.1, i_X12_at.2⟩ ⟨by decide, rfl⟩ (congrArg Prod.fst (J.1.1 125 (12, 92) rfl)) rfl (by decide) rfl rfl ⟨by decide, by decide⟩ (jC.of rfl k_X12_at rfl ?_)
          show jX m_X12_at 2 0 0 0 [(0, .ref 125), (1, .int l4)] [] _ 0 0 _
          refine x_bipush (v := 20) rfl kb_20 ?_
          refine x_bipush (v := 90) rfl kb_90 ?_
          refine x_iloadn (x := l4) rfl rfl ?_
          refine z_imul rfl jk_90 rfl (by omega) (fun v13 ev13 => ?_)
          refine z_iadd rfl jk_20 rfl (by omega) (fun v14 ev14 => ?_)
          refine x_iret rfl rfl ?_
          show jX m_X12_dayOf 3 0 0 9 [(0, .ref 125), (1, .int l4)] [.int v14, .ref 126] _ 0 0 _
          refine x_iconst (v := 2) rfl ki_2 ?_
          refine z_iadd rfl rfl jk_2 (by omega) (fun v15 ev15 => ?_)
          refine z_iald (N := 50660) rfl J rfl sg_126_20_18020_90_2_3 rfl (by omega) (fun v16 qv16 ev16 => ?_)
          refine x_iret rfl rfl ?_
          show jX m_X12_mostFilled 4 0 0 47 [(0, .ref 125), (1, .int l1), (2, .int l2), (3, .int l3), (4, .int l4)] [.int v16, .int l1, .ref 125] _ 0 0 _
          refine x_aloadn (x := 125) rfl rfl ?_
          refine x_iload (x := l4) rfl rfl ?_
          refine x_inv (N := m_X12_dayOf) (As := [.int l4]) (b := 125) (st := [.int v16, .int l1, .ref 125]) (d' := 3) (mc := 0) (ms := 0) (host := "") 12 rfl t_X12_dayOf ⟨Or.inl q_12_335, i_X12_dayOf.1, i_X12_dayOf.2⟩ ⟨by decide, rfl⟩ (congrArg Prod.fst (J.1.1 125 (12, 92) rfl)) rfl (by decide) rfl rfl ⟨by decide, by decide⟩ (jC.of rfl k_X12_dayOf rfl ?_)
          show jX m_X12_dayOf 3 0 0 0 [(0, .ref 125), (1, .int l4)] [] _ 0 0 _
          refine x_aloadn (x := 125) rfl rfl ?_
          refine z_getR (N := 92) (b := 126) 12 2 rfl f_12_8 rfl J rfl 16002 ⟨rfl, rfl⟩ rfl ?_
          refine x_aloadn (x := 125) rfl rfl ?_
          refine x_iloadn (x := l4) rfl rfl ?_
          refine x_inv (N := m_X12_at) (As := [.int l4]) (b := 125) (st := [.ref 126]) (d' := 2) (mc := 0) (ms := 0) (host := "") 12 rfl t_X12_at ⟨Or.inl q_12_254, i_X12_at.1, i_X12_at.2⟩ ⟨by decide, rfl⟩ (congrArg Prod.fst (J.1.1 125 (12, 92) rfl)) rfl (by decide) rfl rfl ⟨by decide, by decide⟩ (jC.of rfl k_X12_at rfl ?_)
          show jX m_X12_at 2 0 0 0 [(0, .ref 125), (1, .int l4)] [] _ 0 0 _
          refine x_bipush (v := 20) rfl kb_20 ?_
          refine x_bipush (v := 90) rfl kb_90 ?_
          refine x_iloadn (x := l4) rfl rfl ?_
          refine z_imul rfl jk_90 rfl (by omega) (fun v17 ev17 => ?_)
          refine z_iadd rfl jk_20 rfl (by omega) (fun v18 ev18 => ?_)
          refine x_iret rfl rfl ?_
          show jX m_X12_dayOf 3 0 0 9 [(0, .ref 125), (1, .int l4)] [.int v18, .ref 126] _ 0 0 _
          refine x_iconst (v := 2) rfl ki_2 ?_
          refine z_iadd rfl rfl jk_2 (by omega) (fun v19 ev19 => ?_)
          refine z_iald (N := 50660) rfl J rfl sg_126_20_18020_90_2_3 rfl (by omega) (fun v20 qv20 ev20 => ?_)
          refine x_iret rfl rfl ?_
          show jX m_X12_mostFilled 4 0 0 53 [(0, .ref 125), (1, .int l1), (2, .int l2), (3, .int l3), (4, .int l4)] [.int v20, .int v16, .int l1, .ref 125] _ 0 0 _
          refine x_iloadn (x := l2) rfl rfl ?_
          refine z_iadd rfl rfl rfl (by omega) (fun v21 ev21 => ?_)
          refine x_iconst (v := 1) rfl ki_1 ?_
          refine z_isub rfl rfl jk_1 (by omega) (fun v22 ev22 => ?_)
          refine x_inv (N := m_X12_isTorn) (As := [.int l1, .int v16, .int v22]) (b := 125) (st := []) (d' := 1) (mc := 0) (ms := 0) (host := "") 12 rfl t_X12_isTorn ⟨Or.inl q_12_474, i_X12_isTorn.1, i_X12_isTorn.2⟩ ⟨by decide, rfl⟩ (congrArg Prod.fst (J.1.1 125 (12, 92) rfl)) rfl (by decide) rfl rfl ⟨by decide, by decide⟩ (sf_X12_isTorn_r125 (jr_of rfl (by omega)) (jr_of rfl (by omega)) (jr_of rfl (by omega)) hD J  (fun v24 h ev24 J S23 => ?_))
          have Sm := jSm_tr rfl Sm S23
          show jX m_X12_mostFilled 4 0 0 60 [(0, .ref 125), (1, .int l1), (2, .int l2), (3, .int l3), (4, .int l4)] [.int v24] _ 0 0 _
          refine x_ifne (tgt := 89) rfl rfl (ti_ne rfl jk_0 ⟨fun c25 => ?_, fun c25 => ?_⟩)
          ·
            exact jX.sub (jsb_c rfl (jsb_c rfl (jsb_c rfl (jsb_c rfl (jsb_c rfl jsb_n))))) (ct_X12_mostFilled_r125_89 hD hQ ih l1 l2 l3 l4 h (jr_of rfl (by omega)) (jr_of rfl (by omega)) (jr_of rfl (by omega)) (jr_of rfl (by omega)) (by omega) J Sm)
          ·
            refine x_iloadn (x := l3) rfl rfl ?_
            refine x_aloadn (x := 125) rfl rfl ?_
            refine x_iloadn (x := l1) rfl rfl ?_
            refine x_aloadn (x := 125) rfl rfl ?_
            refine x_iload (x := l4) rfl rfl ?_
            refine x_inv (N := m_X12_dayOf) (As := [.int l4]) (b := 125) (st := [.int l1, .ref 125, .int l3]) (d' := 3) (mc := 0) (ms := 0) (host := "") 12 rfl t_X12_dayOf ⟨Or.inl q_12_335, i_X12_dayOf.1, i_X12_dayOf.2⟩ ⟨by decide, rfl⟩ (congrArg Prod.fst (J.1.1 125 (12, 92) rfl)) rfl (by decide) rfl rfl ⟨by decide, by decide⟩ (jC.of rfl k_X12_dayOf rfl ?_)
            show jX m_X12_dayOf 3 0 0 0 [(0, .ref 125), (1, .int l4)] [] _ 0 0 _
            refine x_aloadn (x := 125) rfl rfl ?_
            refine z_getR (N := 92) (b := 126) 12 2 rfl f_12_8 rfl J rfl 16002 ⟨rfl, rfl⟩ rfl ?_
            refine x_aloadn (x := 125) rfl rfl ?_
            refine x_iloadn (x := l4) rfl rfl ?_
            refine x_inv (N := m_X12_at) (As := [.int l4]) (b := 125) (st := [.ref 126]) (d' := 2) (mc := 0) (ms := 0) (host := "") 12 rfl t_X12_at ⟨Or.inl q_12_254, i_X12_at.1, i_X12_at.2⟩ ⟨by decide, rfl⟩ (congrArg Prod.fst (J.1.1 125 (12, 92) rfl)) rfl (by decide) rfl rfl ⟨by decide, by decide⟩ (jC.of rfl k_X12_at rfl ?_)
            show jX m_X12_at 2 0 0 0 [(0, .ref 125), (1, .int l4)] [] _ 0 0 _
            refine x_bipush (v := 20) rfl kb_20 ?_
            refine x_bipush (v := 90) rfl kb_90 ?_
            refine x_iloadn (x := l4) rfl rfl ?_
            refine z_imul rfl jk_90 rfl (by omega) (fun v26 ev26 => ?_)
            refine z_iadd rfl jk_20 rfl (by omega) (fun v27 ev27 => ?_)
            refine x_iret rfl rfl ?_
            show jX m_X12_dayOf 3 0 0 9 [(0, .ref 125), (1, .int l4)] [.int v27, .ref 126] _ 0 0 _
            refine x_iconst (v := 2) rfl ki_2 ?_
            refine z_iadd rfl rfl jk_2 (by omega) (fun v28 ev28 => ?_)
            refine z_iald (N := 50660) rfl J rfl sg_126_20_18020_90_2_3 rfl (by omega) (fun v29 qv29 ev29 => ?_)
            refine x_iret rfl rfl ?_
            show jX m_X12_mostFilled 4 0 0 72 [(0, .ref 125), (1, .int l1), (2, .int l2), (3, .int l3), (4, .int l4)] [.int v29, .int l1, .ref 125, .int l3] _ 0 0 _
            refine x_aloadn (x := 125) rfl rfl ?_
            refine x_iload (x := l4) rfl rfl ?_
            refine x_inv (N := m_X12_dayOf) (As := [.int l4]) (b := 125) (st := [.int v29, .int l1, .ref 125, .int l3]) (d' := 3) (mc := 0) (ms := 0) (host := "") 12 rfl t_X12_dayOf ⟨Or.inl q_12_335, i_X12_dayOf.1, i_X12_dayOf.2⟩ ⟨by decide, rfl⟩ (congrArg Prod.fst (J.1.1 125 (12, 92) rfl)) rfl (by decide) rfl rfl ⟨by decide, by decide⟩ (jC.of rfl k_X12_dayOf rfl ?_)
            show jX m_X12_dayOf 3 0 0 0 [(0, .ref 125), (1, .int l4)] [] _ 0 0 _
            refine x_aloadn (x := 125) rfl rfl ?_
            refine z_getR (N := 92) (b := 126) 12 2 rfl f_12_8 rfl J rfl 16002 ⟨rfl, rfl⟩ rfl ?_
            refine x_aloadn (x := 125) rfl rfl ?_
            refine x_iloadn (x := l4) rfl rfl ?_
            refine x_inv (N := m_X12_at) (As := [.int l4]) (b := 125) (st := [.ref 126]) (d' := 2) (mc := 0) (ms := 0) (host := "") 12 rfl t_X12_at ⟨Or.inl q_12_254, i_X12_at.1, i_X12_at.2⟩ ⟨by decide, rfl⟩ (congrArg Prod.fst (J.1.1 125 (12, 92) rfl)) rfl (by decide) rfl rfl ⟨by decide, by decide⟩ (jC.of rfl k_X12_at rfl ?_)
            show jX m_X12_at 2 0 0 0 [(0, .ref 125), (1, .int l4)] [] _ 0 0 _
            refine x_bipush (v := 20) rfl kb_20 ?_
            refine x_bipush (v := 90) rfl kb_90 ?_
            refine x_iloadn (x := l4) rfl rfl ?_
            refine z_imul rfl jk_90 rfl (by omega) (fun v30 ev30 => ?_)
            refine z_iadd rfl jk_20 rfl (by omega) (fun v31 ev31 => ?_)
            refine x_iret rfl rfl ?_
            show jX m_X12_dayOf 3 0 0 9 [(0, .ref 125), (1, .int l4)] [.int v31, .ref 126] _ 0 0 _
            refine x_iconst (v := 2) rfl ki_2 ?_
            refine z_iadd rfl rfl jk_2 (by omega) (fun v32 ev32 => ?_)
            refine z_iald (N := 50660) rfl J rfl sg_126_20_18020_90_2_3 rfl (by omega) (fun v33 qv33 ev33 => ?_)
            refine x_iret rfl rfl ?_
            show jX m_X12_mostFilled 4 0 0 78 [(0, .ref 125), (1, .int l1), (2, .int l2), (3, .int l3), (4, .int l4)] [.int v33, .int v29, .int l1, .ref 125, .int l3] _ 0 0 _
            refine x_iloadn (x := l2) rfl rfl ?_
            refine z_iadd rfl rfl rfl (by omega) (fun v34 ev34 => ?_)
            refine x_iconst (v := 1) rfl ki_1 ?_
            refine z_isub rfl rfl jk_1 (by omega) (fun v35 ev35 => ?_)
            refine x_inv (N := m_X12_linesWithin) (As := [.int l1, .int v29, .int v35]) (b := 125) (st := [.int l3]) (d' := 3) (mc := 0) (ms := 0) (host := "") 12 rfl t_X12_linesWithin ⟨Or.inl q_12_477, i_X12_linesWithin.1, i_X12_linesWithin.2⟩ ⟨by decide, rfl⟩ (congrArg Prod.fst (J.1.1 125 (12, 92) rfl)) rfl (by decide) rfl rfl ⟨by decide, by decide⟩ (sf_X12_linesWithin_r125 (jr_of rfl (by omega)) (jr_of rfl (by omega)) (jr_of rfl (by omega)) hD J  (fun v37 h J S36 => ?_))
            have ev37 := jfull v37
            have Sm := jSm_tr rfl Sm S36
            show jX m_X12_mostFilled 4 0 0 85 [(0, .ref 125), (1, .int l1), (2, .int l2), (3, .int l3), (4, .int l4)] [.int v37, .int l3] _ 0 0 _
            refine x_inst (N := m_X12_more) (As := [.int l3, .int v37]) (st := []) (d' := 3) (mc := 0) (ms := 0) (host := "") rfl t_X12_more ⟨Or.inl q_12_431, s_X12_more⟩ rfl (by decide) rfl rfl ⟨by decide, by decide⟩ (jC.of rfl k_X12_more rfl ?_)
            show jX m_X12_more 3 0 0 0 [(0, .int l3), (1, .int v37)] [] _ 0 0 _
            refine x_iloadn (x := l3) rfl rfl ?_
            refine x_iloadn (x := v37) rfl rfl ?_
            refine x_icle (tgt := 9) rfl rfl (ti_le rfl rfl ⟨fun c38 => ?_, fun c38 => ?_⟩)
            ·
              refine x_iloadn (x := v37) rfl rfl ?_
              refine x_iret rfl rfl ?_
              show jX m_X12_mostFilled 4 0 0 88 [(0, .ref 125), (1, .int l1), (2, .int l2), (3, .int l3), (4, .int l4)] [.int v37] _ 0 0 _
              refine x_istoren (ls' := [(3, .int v37), (0, .ref 125), (1, .int l1), (2, .int l2), (4, .int l4)]) rfl rfl rfl ?_
              exact jX.sub (jsb_c rfl (jsb_c rfl (jsb_c rfl (jsb_c rfl (jsb_c rfl jsb_n))))) (ct_X12_mostFilled_r125_89 hD hQ ih l1 l2 v37 l4 h (jr_of rfl (by omega)) (jr_of rfl (by omega)) (jr_of rfl (by omega)) (jr_of rfl (by omega)) (by omega) J Sm)
            ·
              refine x_iloadn (x := l3) rfl rfl ?_
              refine x_goto (tgt := 10) rfl rfl ?_
              refine x_iret rfl rfl ?_
              show jX m_X12_mostFilled 4 0 0 88 [(0, .ref 125), (1, .int l1), (2, .int l2), (3, .int l3), (4, .int l4)] [.int l3] _ 0 0 _
              refine x_istoren (ls' := [(3, .int l3), (0, .ref 125), (1, .int l1), (2, .int l2), (4, .int l4)]) rfl rfl rfl ?_
              exact jX.sub (jsb_c rfl (jsb_c rfl (jsb_c rfl (jsb_c rfl (jsb_c rfl jsb_n))))) (ct_X12_mostFilled_r125_89 hD hQ ih l1 l2 l3 l4 h (jr_of rfl (by omega)) (jr_of rfl (by omega)) (jr_of rfl (by omega)) (jr_of rfl (by omega)) (by omega) J Sm)
set_option maxRecDepth 100000 in
set_option maxHeartbeats 4000000 in
theorem sf_X12_mostFilled_r125 {Dy : jH → Prop} {h : jH} {Q : Option Value → jH → Prop} {a1 : Int32} {a2 : Int32} (y1 : 0 ≤ a1.toInt ∧ a1.toInt ≤ 5) (y2 : (-146398) ≤ a2.toInt ∧ a2.toInt ≤ 146400) (hD : jDk Dy) (J : jJ jSgM Dy h) (hQ : ∀ (v : Int32) h', 0 ≤ v.toInt ∧ v.toInt ≤ 2147483647 → jJ jSgM Dy h' → jSm fp_X12_mostFilled_r125 h h' → Q (some (.int v)) h') : jC m_X12_mostFilled 4 0 0 [.ref 125, .int a1, .int a2] h Q := by
  refine jC.of rfl k_X12_mostFilled rfl ?_
  have Sm := jSm_rf fp_X12_mostFilled_r125 h
  show jX m_X12_mostFilled 4 0 0 0 [(0, .ref 125), (1, .int a1), (2, .int a2)] [] _ 0 0 _
  refine x_iconst (v := 0) rfl ki_0 ?_
  refine x_istoren (ls' := [(3, .int 0), (0, .ref 125), (1, .int a1), (2, .int a2)]) rfl rfl rfl ?_
  refine x_iconst (v := 0) rfl ki_0 ?_
  refine x_istore (ls' := [(4, .int 0), (3, .int 0), (0, .ref 125), (1, .int a1), (2, .int a2)]) rfl rfl rfl ?_
  exact jX.sub (jsb_c rfl (jsb_c rfl (jsb_c rfl (jsb_c rfl (jsb_c rfl jsb_n))))) (ct_X12_mostFilled_r125_5 hD hQ  201 a1 a2 0 0 h (by have := jk_0; omega) (jr_of rfl (by omega)) (jr_of rfl (by omega)) (jr_of jk_0 (by omega)) (jr_of jk_0 (by omega)) J Sm)
def fp_X12_found_r125 : jFp := [(125, 0, 1), (125, 89, 90), (125, 90, 91), (125, 91, 92)]
set_option maxRecDepth 100000 in
set_option maxHeartbeats 4000000 in
theorem ct_X12_found_r125_25 {Dy : jH → Prop} {h0 : jH} {Q : Option Value → jH → Prop} (hD : jDk Dy) (hQ : ∀ (v : Int32) h', (-3) ≤ v.toInt ∧ v.toInt ≤ 199 → jJ jSgM Dy h' → jSm fp_X12_found_r125 h0 h' → Q (some (.int v)) h') : ∀ (h : jH), jJ jSgM Dy h → jSm fp_X12_found_r125 h0 h → jX m_X12_found 4 0 0 25 [] [] h 0 0 Q := by
  intro  h    J Sm
  refine x_bipush (v := (-3)) rfl kb_m3 ?_
  refine x_iret rfl rfl ?_
  exact hQ _ _ (jr_of jk_m3 (by omega)) J Sm
set_option maxRecDepth 100000 in
set_option maxHeartbeats 4000000 in
theorem ct_X12_found_r125_156 {Dy : jH → Prop} {h0 : jH} {Q : Option Value → jH → Prop} {R114 : Int} (hD : jDk Dy) (hQ : ∀ (v : Int32) h', (-3) ≤ v.toInt ∧ v.toInt ≤ 199 → jJ jSgM Dy h' → jSm fp_X12_found_r125 h0 h' → Q (some (.int v)) h') (k114 : ∀ (l1 : Int32) (l2 : Int64) (l4 : Int64) (l6 : Int32) (l7 : Int32) (h : jH), 200 - l7.toInt < R114 → 0 ≤ l1.toInt ∧ l1.toInt ≤ 399 → 0 ≤ l7.toInt ∧ l7.toInt ≤ 200 → l2.toInt ≠ 0 → jJ jSgM Dy h → jSm fp_X12_found_r125 h0 h → jX m_X12_found 4 0 0 114 [(0, .ref 125), (1, .int l1), (2, .long l2), (4, .long l4), (6, .int l6), (7, .int l7)] [] h 0 0 Q) : ∀ (l1 : Int32) (l2 : Int64) (l4 : Int64) (l6 : Int32) (l7 : Int32) (h : jH), 0 ≤ l1.toInt ∧ l1.toInt ≤ 399 → 0 ≤ l7.toInt ∧ l7.toInt ≤ 199 → l2.toInt ≠ 0 → 200 - l7.toInt ≤ R114 → jJ jSgM Dy h → jSm fp_X12_found_r125 h0 h → jX m_X12_found 4 0 0 156 [(0, .ref 125), (1, .int l1), (2, .long l2), (4, .long l4), (6, .int l6), (7, .int l7)] [] h 0 0 Q := by
  intro l1 l2 l4 l6 l7 h y0 y1 y2  m114 J Sm
  have el2 := jfullL l2
  have el4 := jfullL l4
  have el6 := jfull l6
  refine z_iinc (x := l7) (ls' := fun v1 => [(7, .int v1), (0, .ref 125), (1, .int l1), (2, .long l2), (4, .long l4), (6, .int l6)]) rfl rfl rfl jko_1 (by omega) rfl (fun _ => rfl) (fun v1 ev1 => ?_)
  refine x_goto (tgt := 114) rfl rfl ?_
  exact jX.sub (jsb_c rfl (jsb_c rfl (jsb_c rfl (jsb_c rfl (jsb_c rfl (jsb_c rfl jsb_n)))))) (k114 l1 l2 l4 l6 v1 h (by omega) (jr_of rfl (by omega)) (jr_of rfl (by omega)) (by omega) J Sm)
set_option maxRecDepth 100000 in
set_option maxHeartbeats 4000000 in
theorem ct_X12_found_r125_114 {Dy : jH → Prop} {h0 : jH} {Q : Option Value → jH → Prop} (hD : jDk Dy) (hQ : ∀ (v : Int32) h', (-3) ≤ v.toInt ∧ v.toInt ≤ 199 → jJ jSgM Dy h' → jSm fp_X12_found_r125 h0 h' → Q (some (.int v)) h') : ∀ r : Nat, ∀ (l1 : Int32) (l2 : Int64) (l4 : Int64) (l6 : Int32) (l7 : Int32) (h : jH), 200 - l7.toInt < (r : Int) → 0 ≤ l1.toInt ∧ l1.toInt ≤ 399 → 0 ≤ l7.toInt ∧ l7.toInt ≤ 200 → l2.toInt ≠ 0 → jJ jSgM Dy h → jSm fp_X12_found_r125 h0 h → jX m_X12_found 4 0 0 114 [(0, .ref 125), (1, .int l1), (2, .long l2), (4, .long l4), (6, .int l6), (7, .int l7)] [] h 0 0 Q := by
  intro r
  induction r with
  | zero =>
    intro l1 l2 l4 l6 l7 h hm y0 y1 y2   J Sm
    exfalso
    omega
  | succ r ih =>
    intro l1 l2 l4 l6 l7 h hm y0 y1 y2   J Sm
    have el2 := jfullL l2
    have el4 := jfullL l4
    have el6 := jfull l6
    refine x_iload (x := l7) rfl rfl ?_
    refine x_aloadn (x := 125) rfl rfl ?_
    refine z_getR (N := 92) (b := 126) 12 2 rfl f_12_8 rfl J rfl 16002 ⟨rfl, rfl⟩ rfl ?_
    refine x_iconst (v := 0) rfl ki_0 ?_
    refine z_iald (N := 50660) rfl J rfl sg_126_0_1_1_0_1 jk_0 (by omega) (fun v1 qv1 ev1 => ?_)
    refine x_icge (tgt := 162) rfl rfl (ti_ge rfl rfl ⟨fun c2 => ?_, fun c2 => ?_⟩)
    ·
      refine x_bipush (v := (-2)) rfl kb_m2 ?_
      refine x_iret rfl rfl ?_
      exact hQ _ _ (jr_of jk_m2 (by omega)) J Sm
    ·
      refine x_aloadn (x := 125) rfl rfl ?_
      refine x_iload (x := l7) rfl rfl ?_
      refine x_inv (N := m_X12_dayOf) (As := [.int l7]) (b := 125) (st := []) (d' := 3) (mc := 0) (ms := 0) (host := "") 12 rfl t_X12_dayOf ⟨Or.inl q_12_335, i_X12_dayOf.1, i_X12_dayOf.2⟩ ⟨by decide, rfl⟩ (congrArg Prod.fst (J.1.1 125 (12, 92) rfl)) rfl (by decide) rfl rfl ⟨by decide, by decide⟩ (jC.of rfl k_X12_dayOf rfl ?_)
      show jX m_X12_dayOf 3 0 0 0 [(0, .ref 125), (1, .int l7)] [] _ 0 0 _
      refine x_aloadn (x := 125) rfl rfl ?_
      refine z_getR (N := 92) (b := 126) 12 2 rfl f_12_8 rfl J rfl 16002 ⟨rfl, rfl⟩ rfl ?_
      refine x_aloadn (x := 125) rfl rfl ?_
      refine x_iloadn (x := l7) rfl rfl ?_
      refine x_inv (N := m_X12_at) (As := [.int l7]) (b := 125) (st := [.ref 126]) (d' := 2) (mc := 0) (ms := 0) (host := "") 12 rfl t_X12_at ⟨Or.inl q_12_254, i_X12_at.1, i_X12_at.2⟩ ⟨by decide, rfl⟩ (congrArg Prod.fst (J.1.1 125 (12, 92) rfl)) rfl (by decide) rfl rfl ⟨by decide, by decide⟩ (jC.of rfl k_X12_at rfl ?_)
      show jX m_X12_at 2 0 0 0 [(0, .ref 125), (1, .int l7)] [] _ 0 0 _
      refine x_bipush (v := 20) rfl kb_20 ?_
      refine x_bipush (v := 90) rfl kb_90 ?_
      refine x_iloadn (x := l7) rfl rfl ?_
      refine z_imul rfl jk_90 rfl (by omega) (fun v3 ev3 => ?_)
      refine z_iadd rfl jk_20 rfl (by omega) (fun v4 ev4 => ?_)
      refine x_iret rfl rfl ?_
      show jX m_X12_dayOf 3 0 0 9 [(0, .ref 125), (1, .int l7)] [.int v4, .ref 126] _ 0 0 _
      refine x_iconst (v := 2) rfl ki_2 ?_
      refine z_iadd rfl rfl jk_2 (by omega) (fun v5 ev5 => ?_)
      refine z_iald (N := 50660) rfl J rfl sg_126_20_18020_90_2_3 rfl (by omega) (fun v6 qv6 ev6 => ?_)
      refine x_iret rfl rfl ?_
      show jX m_X12_found 4 0 0 131 [(0, .ref 125), (1, .int l1), (2, .long l2), (4, .long l4), (6, .int l6), (7, .int l7)] [.int v6] _ 0 0 _
      refine x_sipush (v := 366) rfl ks_366 ?_
      refine z_idiv rfl rfl jk_366 (by omega) (by omega) (fun v7 ev7 => ?_)
      refine x_iloadn (x := l1) rfl rfl ?_
      refine x_icne (tgt := 156) rfl rfl (ti_ne rfl rfl ⟨fun c8 => ?_, fun c8 => ?_⟩)
      ·
        exact jX.sub (jsb_c rfl (jsb_c rfl (jsb_c rfl (jsb_c rfl (jsb_c rfl (jsb_c rfl jsb_n)))))) (ct_X12_found_r125_156 hD hQ ih l1 l2 l4 l6 l7 h (jr_of rfl (by omega)) (jr_of rfl (by omega)) (by omega) (by omega) J Sm)
      ·
        refine z_iinc0 (x := l6) (ls' := fun v9 => [(6, .int v9), (0, .ref 125), (1, .int l1), (2, .long l2), (4, .long l4), (7, .int l7)]) rfl rfl rfl (fun _ => rfl) (fun v9 => ?_)
        have ev9 := jfull v9
        refine x_lloadn (x := l2) rfl rfl ?_
        refine x_iload (x := v9) rfl rfl ?_
        refine z_i2l rfl rfl (fun v10 ev10 => ?_)
        refine z_lmul0 rfl (fun v11 => ?_)
        have ev11 := jfullL v11
        refine x_lload (x := l4) rfl rfl ?_
        refine z_lcmp rfl rfl rfl (fun v12 ev12 => ?_)
        refine x_ifne (tgt := 156) rfl rfl (ti_ne rfl jk_0 ⟨fun c13 => ?_, fun c13 => ?_⟩)
        ·
          exact jX.sub (jsb_c rfl (jsb_c rfl (jsb_c rfl (jsb_c rfl (jsb_c rfl (jsb_c rfl jsb_n)))))) (ct_X12_found_r125_156 hD hQ ih l1 l2 l4 v9 l7 h (jr_of rfl (by omega)) (jr_of rfl (by omega)) (by omega) (by omega) J Sm)
        ·
          refine x_iload (x := l7) rfl rfl ?_
          refine x_iret rfl rfl ?_
          exact hQ _ _ (jr_of rfl (by omega)) J Sm
set_option maxRecDepth 100000 in
set_option maxHeartbeats 4000000 in
theorem ct_X12_found_r125_107 {Dy : jH → Prop} {h0 : jH} {Q : Option Value → jH → Prop} (hD : jDk Dy) (hQ : ∀ (v : Int32) h', (-3) ≤ v.toInt ∧ v.toInt ≤ 199 → jJ jSgM Dy h' → jSm fp_X12_found_r125 h0 h' → Q (some (.int v)) h') : ∀ (h : jH), jJ jSgM Dy h → jSm fp_X12_found_r125 h0 h → jX m_X12_found 4 0 0 107 [] [.int (-2)] h 0 0 Q := by
  intro  h    J Sm
  refine x_iret rfl rfl ?_
  exact hQ _ _ (jr_of jk_m2 (by omega)) J Sm
set_option maxRecDepth 100000 in
set_option maxHeartbeats 4000000 in
theorem ct_X12_found_r125_100107 {Dy : jH → Prop} {h0 : jH} {Q : Option Value → jH → Prop} (hD : jDk Dy) (hQ : ∀ (v : Int32) h', (-3) ≤ v.toInt ∧ v.toInt ≤ 199 → jJ jSgM Dy h' → jSm fp_X12_found_r125 h0 h' → Q (some (.int v)) h') : ∀ (h : jH), jJ jSgM Dy h → jSm fp_X12_found_r125 h0 h → jX m_X12_found 4 0 0 107 [] [.int (-1)] h 0 0 Q := by
  intro  h    J Sm
  refine x_iret rfl rfl ?_
  exact hQ _ _ (jr_of jk_m1 (by omega)) J Sm
set_option maxRecDepth 100000 in
set_option maxHeartbeats 4000000 in
theorem sf_X12_found_r125 {Dy : jH → Prop} {h : jH} {Q : Option Value → jH → Prop} {a1 : Int32} (hD : jDk Dy) (J : jJ jSgM Dy h) (hQ : ∀ (v : Int32) h', (-3) ≤ v.toInt ∧ v.toInt ≤ 199 → jJ jSgM Dy h' → jSm fp_X12_found_r125 h h' → Q (some (.int v)) h') : jC m_X12_found 4 0 0 [.ref 125, .int a1] h Q := by
  refine jC.of rfl k_X12_found rfl ?_
  have Sm := jSm_rf fp_X12_found_r125 h
  have ea1 := jfull a1
  show jX m_X12_found 4 0 0 0 [(0, .ref 125), (1, .int a1)] [] _ 0 0 _
  refine x_aloadn (x := 125) rfl rfl ?_
  refine x_iconst (v := 0) rfl ki_0 ?_
  refine z_putI (N := 92) (w := 0) 12 0 rfl f_12_180 rfl (jfin_no TX12 RX12 92 rfl rfl) hD J Sm rfl rfl jk_0 (pw_125_0 (by omega)) rfl (fun h w1 J Sm => ?_)
  refine x_iloadn (x := a1) rfl rfl ?_
  refine x_inst (N := m_X12_isYear) (As := [.int a1]) (st := []) (d' := 2) (mc := 0) (ms := 0) (host := "") rfl t_X12_isYear ⟨Or.inl q_12_817, s_X12_isYear⟩ rfl (by decide) rfl rfl ⟨by decide, by decide⟩ (zc_X12_isYear (d := 1) rfl (fun v2 ev2 => ?_))
  show jX m_X12_found 4 0 0 9 [(0, .ref 125), (1, .int a1)] [.int v2] _ 0 0 _
  refine x_ifeq (tgt := 25) rfl rfl (ti_eq rfl jk_0 ⟨fun c3 => ?_, fun c3 => ?_⟩)
  ·
    exact jX.sub jsb_n (ct_X12_found_r125_25 hD hQ  h J Sm)
  ·
    refine x_aloadn (x := 125) rfl rfl ?_
    refine z_getR (N := 92) (b := 129) 12 5 rfl f_12_22 rfl J rfl 16005 ⟨rfl, rfl⟩ rfl ?_
    refine x_iconst (v := 4) rfl ki_4 ?_
    refine x_iloadn (x := a1) rfl rfl ?_
    refine z_imul rfl jk_4 rfl (by omega) (fun v4 ev4 => ?_)
    refine z_lald0 (N := 1600) rfl J rfl rfl (by omega) (fun v5 => ?_)
    have ev5 := jfullL v5
    refine x_lconst (v := 0) rfl kl_0 ?_
    refine z_lcmp rfl rfl jkl_0 (fun v6 ev6 => ?_)
    refine x_ifne (tgt := 28) rfl rfl (ti_ne rfl jk_0 ⟨fun c7 => ?_, fun c7 => ?_⟩)
    ·
      refine x_aloadn (x := 125) rfl rfl ?_
      refine x_iloadn (x := a1) rfl rfl ?_
      refine x_inv (N := m_X12_addYear) (As := [.int a1]) (b := 125) (st := []) (d' := 3) (mc := 0) (ms := 0) (host := "") 12 rfl t_X12_addYear ⟨Or.inl q_12_872, i_X12_addYear.1, i_X12_addYear.2⟩ ⟨by decide, rfl⟩ (congrArg Prod.fst (J.1.1 125 (12, 92) rfl)) rfl (by decide) rfl rfl ⟨by decide, by decide⟩ (sf_X12_addYear_r125 (jr_of rfl (by omega)) hD J  (fun h J S8 => ?_))
      have Sm := jSm_tr rfl Sm S8
      show jX m_X12_found 4 0 0 33 [(0, .ref 125), (1, .int a1)] [] _ 0 0 _
      refine x_aloadn (x := 125) rfl rfl ?_
      refine z_getI0 (N := 92) 12 89 rfl f_12_863 rfl J rfl (fun v9 qv9 => ?_)
      have ev9 := jfull v9
      refine z_i2l rfl rfl (fun v10 ev10 => ?_)
      refine x_aloadn (x := 125) rfl rfl ?_
      refine z_getR (N := 92) (b := 129) 12 5 rfl f_12_22 rfl J rfl 16005 ⟨rfl, rfl⟩ rfl ?_
      refine x_iconst (v := 4) rfl ki_4 ?_
      refine x_iloadn (x := a1) rfl rfl ?_
      refine z_imul rfl jk_4 rfl (by omega) (fun v11 ev11 => ?_)
      refine x_iconst (v := 1) rfl ki_1 ?_
      refine z_iadd rfl rfl jk_1 (by omega) (fun v12 ev12 => ?_)
      refine z_lald0 (N := 1600) rfl J rfl rfl (by omega) (fun v13 => ?_)
      have ev13 := jfullL v13
      refine z_lcmp rfl rfl rfl (fun v14 ev14 => ?_)
      refine x_ifeq (tgt := 55) rfl rfl (ti_eq rfl jk_0 ⟨fun c15 => ?_, fun c15 => ?_⟩)
      ·
        refine x_aloadn (x := 125) rfl rfl ?_
        refine z_getL0 (N := 92) 12 90 rfl f_12_866 rfl J rfl (fun v16 => ?_)
        have ev16 := jfullL v16
        refine x_aloadn (x := 125) rfl rfl ?_
        refine z_getR (N := 92) (b := 129) 12 5 rfl f_12_22 rfl J rfl 16005 ⟨rfl, rfl⟩ rfl ?_
        refine x_iconst (v := 4) rfl ki_4 ?_
        refine x_iloadn (x := a1) rfl rfl ?_
        refine z_imul rfl jk_4 rfl (by omega) (fun v17 ev17 => ?_)
        refine x_iconst (v := 2) rfl ki_2 ?_
        refine z_iadd rfl rfl jk_2 (by omega) (fun v18 ev18 => ?_)
        refine z_lald0 (N := 1600) rfl J rfl rfl (by omega) (fun v19 => ?_)
        have ev19 := jfullL v19
        refine z_lsub0 rfl (fun v20 => ?_)
        have ev20 := jfullL v20
        refine x_lstoren (ls' := [(2, .long v20), (0, .ref 125), (1, .int a1)]) rfl rfl rfl ?_
        refine x_aloadn (x := 125) rfl rfl ?_
        refine z_getL0 (N := 92) 12 91 rfl f_12_869 rfl J rfl (fun v21 => ?_)
        have ev21 := jfullL v21
        refine x_aloadn (x := 125) rfl rfl ?_
        refine z_getR (N := 92) (b := 129) 12 5 rfl f_12_22 rfl J rfl 16005 ⟨rfl, rfl⟩ rfl ?_
        refine x_iconst (v := 4) rfl ki_4 ?_
        refine x_iloadn (x := a1) rfl rfl ?_
        refine z_imul rfl jk_4 rfl (by omega) (fun v22 ev22 => ?_)
        refine x_iconst (v := 3) rfl ki_3 ?_
        refine z_iadd rfl rfl jk_3 (by omega) (fun v23 ev23 => ?_)
        refine z_lald0 (N := 1600) rfl J rfl rfl (by omega) (fun v24 => ?_)
        have ev24 := jfullL v24
        refine z_lsub0 rfl (fun v25 => ?_)
        have ev25 := jfullL v25
        refine x_lstore (ls' := [(4, .long v25), (2, .long v20), (0, .ref 125), (1, .int a1)]) rfl rfl rfl ?_
        refine x_lloadn (x := v20) rfl rfl ?_
        refine x_lconst (v := 0) rfl kl_0 ?_
        refine z_lcmp rfl rfl jkl_0 (fun v26 ev26 => ?_)
        refine x_ifne (tgt := 108) rfl rfl (ti_ne rfl jk_0 ⟨fun c27 => ?_, fun c27 => ?_⟩)
        ·
          refine x_iconst (v := 0) rfl ki_0 ?_
          refine x_istore (ls' := [(6, .int 0), (4, .long v25), (2, .long v20), (0, .ref 125), (1, .int a1)]) rfl rfl rfl ?_
          refine x_iconst (v := 0) rfl ki_0 ?_
          refine x_istore (ls' := [(7, .int 0), (6, .int 0), (4, .long v25), (2, .long v20), (0, .ref 125), (1, .int a1)]) rfl rfl rfl ?_
          exact jX.sub (jsb_c rfl (jsb_c rfl (jsb_c rfl (jsb_c rfl (jsb_c rfl (jsb_c rfl jsb_n)))))) (ct_X12_found_r125_114 hD hQ  201 a1 v20 v25 0 0 h (by have := jk_0; omega) (jr_of rfl (by omega)) (jr_of jk_0 (by omega)) (by omega) J Sm)
        ·
          refine x_lload (x := v25) rfl rfl ?_
          refine x_lconst (v := 0) rfl kl_0 ?_
          refine z_lcmp rfl rfl jkl_0 (fun v28 ev28 => ?_)
          refine x_ifne (tgt := 105) rfl rfl (ti_ne rfl jk_0 ⟨fun c29 => ?_, fun c29 => ?_⟩)
          ·
            refine x_bipush (v := (-2)) rfl kb_m2 ?_
            exact jX.sub jsb_n (ct_X12_found_r125_107 hD hQ  h J Sm)
          ·
            refine x_iconst (v := (-1)) rfl ki_m1 ?_
            refine x_goto (tgt := 107) rfl rfl ?_
            exact jX.sub jsb_n (ct_X12_found_r125_100107 hD hQ  h J Sm)
      ·
        refine x_bipush (v := (-2)) rfl kb_m2 ?_
        refine x_iret rfl rfl ?_
        exact hQ _ _ (jr_of jk_m2 (by omega)) J Sm
    ·
      exact jX.sub jsb_n (ct_X12_found_r125_25 hD hQ  h J Sm)
def fp_X12_groundAt_r125 : jFp := []
set_option maxRecDepth 100000 in
set_option maxHeartbeats 4000000 in
theorem ct_X12_groundAt_r125_400059 {Dy : jH → Prop} {h0 : jH} {Q : Option Value → jH → Prop} (hD : jDk Dy) (hQ : ∀ (v : Int32) h', (-1) ≤ v.toInt ∧ v.toInt ≤ 5 → jJ jSgM Dy h' → jSm fp_X12_groundAt_r125 h0 h' → Q (some (.int v)) h') : ∀ (h : jH), jJ jSgM Dy h → jSm fp_X12_groundAt_r125 h0 h → jX m_X12_groundAt 2 0 0 59 [] [.int 2] h 0 0 Q := by
  intro  h    J Sm
  refine x_iret rfl rfl ?_
  exact hQ _ _ (jr_of jk_2 (by omega)) J Sm
set_option maxRecDepth 100000 in
set_option maxHeartbeats 4000000 in
theorem ct_X12_groundAt_r125_300059 {Dy : jH → Prop} {h0 : jH} {Q : Option Value → jH → Prop} (hD : jDk Dy) (hQ : ∀ (v : Int32) h', (-1) ≤ v.toInt ∧ v.toInt ≤ 5 → jJ jSgM Dy h' → jSm fp_X12_groundAt_r125 h0 h' → Q (some (.int v)) h') : ∀ (h : jH), jJ jSgM Dy h → jSm fp_X12_groundAt_r125 h0 h → jX m_X12_groundAt 2 0 0 59 [] [.int 1] h 0 0 Q := by
  intro  h    J Sm
  refine x_iret rfl rfl ?_
  exact hQ _ _ (jr_of jk_1 (by omega)) J Sm
set_option maxRecDepth 100000 in
set_option maxHeartbeats 4000000 in
theorem ct_X12_groundAt_r125_200059 {Dy : jH → Prop} {h0 : jH} {Q : Option Value → jH → Prop} (hD : jDk Dy) (hQ : ∀ (v : Int32) h', (-1) ≤ v.toInt ∧ v.toInt ≤ 5 → jJ jSgM Dy h' → jSm fp_X12_groundAt_r125 h0 h' → Q (some (.int v)) h') : ∀ (h : jH), jJ jSgM Dy h → jSm fp_X12_groundAt_r125 h0 h → jX m_X12_groundAt 2 0 0 59 [] [.int 0] h 0 0 Q := by
  intro  h    J Sm
  refine x_iret rfl rfl ?_
  exact hQ _ _ (jr_of jk_0 (by omega)) J Sm
set_option maxRecDepth 100000 in
set_option maxHeartbeats 4000000 in
theorem ct_X12_groundAt_r125_30 {Dy : jH → Prop} {h0 : jH} {Q : Option Value → jH → Prop} (hD : jDk Dy) (hQ : ∀ (v : Int32) h', (-1) ≤ v.toInt ∧ v.toInt ≤ 5 → jJ jSgM Dy h' → jSm fp_X12_groundAt_r125 h0 h' → Q (some (.int v)) h') : ∀ (g0 : Int32) (h : jH), 1 ≤ g0.toInt ∧ g0.toInt ≤ 1 → jiv h 125 11 = g0 → jJ jSgM Dy h → jSm fp_X12_groundAt_r125 h0 h → jX m_X12_groundAt 2 0 0 30 [(0, .ref 125)] [] h 0 0 Q := by
  intro g0 h y0 z0  J Sm
  refine x_aloadn (x := 125) rfl rfl ?_
  refine x_ldc2 (v := 2411144) rfl z_12_585 ?_
  refine x_inv (N := m_X12_isWord) (As := [.long 2411144]) (b := 125) (st := []) (d' := 1) (mc := 0) (ms := 0) (host := "") 12 rfl t_X12_isWord ⟨Or.inl q_12_511, i_X12_isWord.1, i_X12_isWord.2⟩ ⟨by decide, rfl⟩ (congrArg Prod.fst (J.1.1 125 (12, 92) rfl)) rfl (by decide) rfl rfl ⟨by decide, by decide⟩ (jC.of rfl k_X12_isWord rfl ?_)
  show jX m_X12_isWord 1 0 0 0 [(0, .ref 125), (1, .long 2411144)] [] _ 0 0 _
  refine x_aloadn (x := 125) rfl rfl ?_
  refine z_getM (N := 92) (v := g0) 12 11 rfl f_12_235 rfl J rfl z0 ?_
  refine x_iconst (v := 1) rfl ki_1 ?_
  refine x_icne (tgt := 21) rfl rfl (ti_ne rfl jk_1 (bn_f (by omega) ?_))
  refine x_aloadn (x := 125) rfl rfl ?_
  refine z_getL0 (N := 92) 12 12 rfl f_12_224 rfl J rfl (fun v1 => ?_)
  have ev1 := jfullL v1
  refine x_lloadn (x := 2411144) rfl rfl ?_
  refine z_lcmp rfl rfl jkl_2411144 (fun v2 ev2 => ?_)
  refine x_ifne (tgt := 21) rfl rfl (ti_ne rfl jk_0 ⟨fun c3 => ?_, fun c3 => ?_⟩)
  ·
    refine x_iconst (v := 0) rfl ki_0 ?_
    refine x_zret rfl rfl (by decide) ?_
    show jX m_X12_groundAt 2 0 0 37 [(0, .ref 125)] [.int 0] _ 0 0 _
    refine x_ifeq (tgt := 44) rfl rfl (ti_eq jk_0 jk_0 (br_t (by omega) ?_))
    refine x_aloadn (x := 125) rfl rfl ?_
    refine x_ldc2 (v := 271941) rfl z_12_587 ?_
    refine x_inv (N := m_X12_isWord) (As := [.long 271941]) (b := 125) (st := []) (d' := 1) (mc := 0) (ms := 0) (host := "") 12 rfl t_X12_isWord ⟨Or.inl q_12_511, i_X12_isWord.1, i_X12_isWord.2⟩ ⟨by decide, rfl⟩ (congrArg Prod.fst (J.1.1 125 (12, 92) rfl)) rfl (by decide) rfl rfl ⟨by decide, by decide⟩ (jC.of rfl k_X12_isWord rfl ?_)
    show jX m_X12_isWord 1 0 0 0 [(0, .ref 125), (1, .long 271941)] [] _ 0 0 _
    refine x_aloadn (x := 125) rfl rfl ?_
    refine z_getM (N := 92) (v := g0) 12 11 rfl f_12_235 rfl J rfl z0 ?_
    refine x_iconst (v := 1) rfl ki_1 ?_
    refine x_icne (tgt := 21) rfl rfl (ti_ne rfl jk_1 (bn_f (by omega) ?_))
    refine x_aloadn (x := 125) rfl rfl ?_
    refine z_getL0 (N := 92) 12 12 rfl f_12_224 rfl J rfl (fun v4 => ?_)
    have ev4 := jfullL v4
    refine x_lloadn (x := 271941) rfl rfl ?_
    refine z_lcmp rfl rfl jkl_271941 (fun v5 ev5 => ?_)
    refine x_ifne (tgt := 21) rfl rfl (ti_ne rfl jk_0 ⟨fun c6 => ?_, fun c6 => ?_⟩)
    ·
      refine x_iconst (v := 0) rfl ki_0 ?_
      refine x_zret rfl rfl (by decide) ?_
      show jX m_X12_groundAt 2 0 0 51 [(0, .ref 125)] [.int 0] _ 0 0 _
      refine x_ifeq (tgt := 58) rfl rfl (ti_eq jk_0 jk_0 (br_t (by omega) ?_))
      refine x_iconst (v := 2) rfl ki_2 ?_
      exact jX.sub jsb_n (ct_X12_groundAt_r125_400059 hD hQ  h J Sm)
    ·
      refine x_iconst (v := 1) rfl ki_1 ?_
      refine x_goto (tgt := 22) rfl rfl ?_
      refine x_zret rfl rfl (by decide) ?_
      show jX m_X12_groundAt 2 0 0 51 [(0, .ref 125)] [.int 1] _ 0 0 _
      refine x_ifeq (tgt := 58) rfl rfl (ti_eq jk_1 jk_0 (br_f (by omega) ?_))
      refine x_iconst (v := 1) rfl ki_1 ?_
      refine x_goto (tgt := 59) rfl rfl ?_
      exact jX.sub jsb_n (ct_X12_groundAt_r125_300059 hD hQ  h J Sm)
  ·
    refine x_iconst (v := 1) rfl ki_1 ?_
    refine x_goto (tgt := 22) rfl rfl ?_
    refine x_zret rfl rfl (by decide) ?_
    show jX m_X12_groundAt 2 0 0 37 [(0, .ref 125)] [.int 1] _ 0 0 _
    refine x_ifeq (tgt := 44) rfl rfl (ti_eq jk_1 jk_0 (br_f (by omega) ?_))
    refine x_iconst (v := 0) rfl ki_0 ?_
    refine x_goto (tgt := 59) rfl rfl ?_
    exact jX.sub jsb_n (ct_X12_groundAt_r125_200059 hD hQ  h J Sm)
set_option maxRecDepth 100000 in
set_option maxHeartbeats 4000000 in
theorem ct_X12_groundAt_r125_100103 {Dy : jH → Prop} {h0 : jH} {Q : Option Value → jH → Prop} (hD : jDk Dy) (hQ : ∀ (v : Int32) h', (-1) ≤ v.toInt ∧ v.toInt ≤ 5 → jJ jSgM Dy h' → jSm fp_X12_groundAt_r125 h0 h' → Q (some (.int v)) h') : ∀ (h : jH), jJ jSgM Dy h → jSm fp_X12_groundAt_r125 h0 h → jX m_X12_groundAt 2 0 0 103 [] [.int (-1)] h 0 0 Q := by
  intro  h    J Sm
  refine x_iret rfl rfl ?_
  exact hQ _ _ (jr_of jk_m1 (by omega)) J Sm
set_option maxRecDepth 100000 in
set_option maxHeartbeats 4000000 in
theorem ct_X12_groundAt_r125_700103 {Dy : jH → Prop} {h0 : jH} {Q : Option Value → jH → Prop} (hD : jDk Dy) (hQ : ∀ (v : Int32) h', (-1) ≤ v.toInt ∧ v.toInt ≤ 5 → jJ jSgM Dy h' → jSm fp_X12_groundAt_r125 h0 h' → Q (some (.int v)) h') : ∀ (h : jH), jJ jSgM Dy h → jSm fp_X12_groundAt_r125 h0 h → jX m_X12_groundAt 2 0 0 103 [] [.int 5] h 0 0 Q := by
  intro  h    J Sm
  refine x_iret rfl rfl ?_
  exact hQ _ _ (jr_of jk_5 (by omega)) J Sm
set_option maxRecDepth 100000 in
set_option maxHeartbeats 4000000 in
theorem ct_X12_groundAt_r125_600103 {Dy : jH → Prop} {h0 : jH} {Q : Option Value → jH → Prop} (hD : jDk Dy) (hQ : ∀ (v : Int32) h', (-1) ≤ v.toInt ∧ v.toInt ≤ 5 → jJ jSgM Dy h' → jSm fp_X12_groundAt_r125 h0 h' → Q (some (.int v)) h') : ∀ (h : jH), jJ jSgM Dy h → jSm fp_X12_groundAt_r125 h0 h → jX m_X12_groundAt 2 0 0 103 [] [.int 4] h 0 0 Q := by
  intro  h    J Sm
  refine x_iret rfl rfl ?_
  exact hQ _ _ (jr_of jk_4 (by omega)) J Sm
set_option maxRecDepth 100000 in
set_option maxHeartbeats 4000000 in
theorem ct_X12_groundAt_r125_500103 {Dy : jH → Prop} {h0 : jH} {Q : Option Value → jH → Prop} (hD : jDk Dy) (hQ : ∀ (v : Int32) h', (-1) ≤ v.toInt ∧ v.toInt ≤ 5 → jJ jSgM Dy h' → jSm fp_X12_groundAt_r125 h0 h' → Q (some (.int v)) h') : ∀ (h : jH), jJ jSgM Dy h → jSm fp_X12_groundAt_r125 h0 h → jX m_X12_groundAt 2 0 0 103 [] [.int 3] h 0 0 Q := by
  intro  h    J Sm
  refine x_iret rfl rfl ?_
  exact hQ _ _ (jr_of jk_3 (by omega)) J Sm
set_option maxRecDepth 100000 in
set_option maxHeartbeats 4000000 in
theorem sf_X12_groundAt_r125 {Dy : jH → Prop} {h : jH} {Q : Option Value → jH → Prop} (hD : jDk Dy) (J : jJ jSgM Dy h) (hQ : ∀ (v : Int32) h', (-1) ≤ v.toInt ∧ v.toInt ≤ 5 → jJ jSgM Dy h' → jSm fp_X12_groundAt_r125 h h' → Q (some (.int v)) h') : jC m_X12_groundAt 2 0 0 [.ref 125] h Q := by
  refine jC.of rfl k_X12_groundAt rfl ?_
  have Sm := jSm_rf fp_X12_groundAt_r125 h
  show jX m_X12_groundAt 2 0 0 0 [(0, .ref 125)] [] _ 0 0 _
  refine x_aloadn (x := 125) rfl rfl ?_
  refine x_ldc2 (v := 2411144) rfl z_12_585 ?_
  refine x_inv (N := m_X12_isWord) (As := [.long 2411144]) (b := 125) (st := []) (d' := 1) (mc := 0) (ms := 0) (host := "") 12 rfl t_X12_isWord ⟨Or.inl q_12_511, i_X12_isWord.1, i_X12_isWord.2⟩ ⟨by decide, rfl⟩ (congrArg Prod.fst (J.1.1 125 (12, 92) rfl)) rfl (by decide) rfl rfl ⟨by decide, by decide⟩ (jC.of rfl k_X12_isWord rfl ?_)
  show jX m_X12_isWord 1 0 0 0 [(0, .ref 125), (1, .long 2411144)] [] _ 0 0 _
  refine x_aloadn (x := 125) rfl rfl ?_
  refine z_getI (N := 92) 12 11 rfl f_12_235 rfl J rfl sg_125_11_12_1_0_1 (fun v1 qv1 ev1 => ?_)
  refine x_iconst (v := 1) rfl ki_1 ?_
  refine x_icne (tgt := 21) rfl rfl (ti_ne rfl jk_1 ⟨fun c2 => ?_, fun c2 => ?_⟩)
  ·
    refine x_iconst (v := 0) rfl ki_0 ?_
    refine x_zret rfl rfl (by decide) ?_
    show jX m_X12_groundAt 2 0 0 7 [(0, .ref 125)] [.int 0] _ 0 0 _
    refine x_ifne (tgt := 30) rfl rfl (ti_ne jk_0 jk_0 (bn_f (by omega) ?_))
    refine x_aloadn (x := 125) rfl rfl ?_
    refine x_ldc2 (v := 271941) rfl z_12_587 ?_
    refine x_inv (N := m_X12_isWord) (As := [.long 271941]) (b := 125) (st := []) (d' := 1) (mc := 0) (ms := 0) (host := "") 12 rfl t_X12_isWord ⟨Or.inl q_12_511, i_X12_isWord.1, i_X12_isWord.2⟩ ⟨by decide, rfl⟩ (congrArg Prod.fst (J.1.1 125 (12, 92) rfl)) rfl (by decide) rfl rfl ⟨by decide, by decide⟩ (jC.of rfl k_X12_isWord rfl ?_)
    show jX m_X12_isWord 1 0 0 0 [(0, .ref 125), (1, .long 271941)] [] _ 0 0 _
    refine x_aloadn (x := 125) rfl rfl ?_
    refine z_getM (N := 92) (v := v1) 12 11 rfl f_12_235 rfl J rfl qv1 ?_
    refine x_iconst (v := 1) rfl ki_1 ?_
    refine x_icne (tgt := 21) rfl rfl (ti_ne rfl jk_1 ⟨fun c3 => ?_, fun c3 => ?_⟩)
    ·
      refine x_iconst (v := 0) rfl ki_0 ?_
      refine x_zret rfl rfl (by decide) ?_
      show jX m_X12_groundAt 2 0 0 17 [(0, .ref 125)] [.int 0] _ 0 0 _
      refine x_ifne (tgt := 30) rfl rfl (ti_ne jk_0 jk_0 (bn_f (by omega) ?_))
      refine x_aloadn (x := 125) rfl rfl ?_
      refine x_ldc2 (v := 595412) rfl z_12_589 ?_
      refine x_inv (N := m_X12_isWord) (As := [.long 595412]) (b := 125) (st := []) (d' := 1) (mc := 0) (ms := 0) (host := "") 12 rfl t_X12_isWord ⟨Or.inl q_12_511, i_X12_isWord.1, i_X12_isWord.2⟩ ⟨by decide, rfl⟩ (congrArg Prod.fst (J.1.1 125 (12, 92) rfl)) rfl (by decide) rfl rfl ⟨by decide, by decide⟩ (jC.of rfl k_X12_isWord rfl ?_)
      show jX m_X12_isWord 1 0 0 0 [(0, .ref 125), (1, .long 595412)] [] _ 0 0 _
      refine x_aloadn (x := 125) rfl rfl ?_
      refine z_getM (N := 92) (v := v1) 12 11 rfl f_12_235 rfl J rfl qv1 ?_
      refine x_iconst (v := 1) rfl ki_1 ?_
      refine x_icne (tgt := 21) rfl rfl (ti_ne rfl jk_1 ⟨fun c4 => ?_, fun c4 => ?_⟩)
      ·
        refine x_iconst (v := 0) rfl ki_0 ?_
        refine x_zret rfl rfl (by decide) ?_
        show jX m_X12_groundAt 2 0 0 27 [(0, .ref 125)] [.int 0] _ 0 0 _
        refine x_ifeq (tgt := 60) rfl rfl (ti_eq jk_0 jk_0 (br_t (by omega) ?_))
        refine x_aloadn (x := 125) rfl rfl ?_
        refine x_ldc2 (v := 509813861) rfl z_12_591 ?_
        refine x_inv (N := m_X12_isWord) (As := [.long 509813861]) (b := 125) (st := []) (d' := 1) (mc := 0) (ms := 0) (host := "") 12 rfl t_X12_isWord ⟨Or.inl q_12_511, i_X12_isWord.1, i_X12_isWord.2⟩ ⟨by decide, rfl⟩ (congrArg Prod.fst (J.1.1 125 (12, 92) rfl)) rfl (by decide) rfl rfl ⟨by decide, by decide⟩ (jC.of rfl k_X12_isWord rfl ?_)
        show jX m_X12_isWord 1 0 0 0 [(0, .ref 125), (1, .long 509813861)] [] _ 0 0 _
        refine x_aloadn (x := 125) rfl rfl ?_
        refine z_getM (N := 92) (v := v1) 12 11 rfl f_12_235 rfl J rfl qv1 ?_
        refine x_iconst (v := 1) rfl ki_1 ?_
        refine x_icne (tgt := 21) rfl rfl (ti_ne rfl jk_1 ⟨fun c5 => ?_, fun c5 => ?_⟩)
        ·
          refine x_iconst (v := 0) rfl ki_0 ?_
          refine x_zret rfl rfl (by decide) ?_
          show jX m_X12_groundAt 2 0 0 67 [(0, .ref 125)] [.int 0] _ 0 0 _
          refine x_ifeq (tgt := 74) rfl rfl (ti_eq jk_0 jk_0 (br_t (by omega) ?_))
          refine x_aloadn (x := 125) rfl rfl ?_
          refine x_ldc2 (v := 23716) rfl z_12_593 ?_
          refine x_inv (N := m_X12_isWord) (As := [.long 23716]) (b := 125) (st := []) (d' := 1) (mc := 0) (ms := 0) (host := "") 12 rfl t_X12_isWord ⟨Or.inl q_12_511, i_X12_isWord.1, i_X12_isWord.2⟩ ⟨by decide, rfl⟩ (congrArg Prod.fst (J.1.1 125 (12, 92) rfl)) rfl (by decide) rfl rfl ⟨by decide, by decide⟩ (jC.of rfl k_X12_isWord rfl ?_)
          show jX m_X12_isWord 1 0 0 0 [(0, .ref 125), (1, .long 23716)] [] _ 0 0 _
          refine x_aloadn (x := 125) rfl rfl ?_
          refine z_getM (N := 92) (v := v1) 12 11 rfl f_12_235 rfl J rfl qv1 ?_
          refine x_iconst (v := 1) rfl ki_1 ?_
          refine x_icne (tgt := 21) rfl rfl (ti_ne rfl jk_1 ⟨fun c6 => ?_, fun c6 => ?_⟩)
          ·
            refine x_iconst (v := 0) rfl ki_0 ?_
            refine x_zret rfl rfl (by decide) ?_
            show jX m_X12_groundAt 2 0 0 81 [(0, .ref 125)] [.int 0] _ 0 0 _
            refine x_ifeq (tgt := 88) rfl rfl (ti_eq jk_0 jk_0 (br_t (by omega) ?_))
            refine x_aloadn (x := 125) rfl rfl ?_
            refine x_ldc2 (v := 17232476819) rfl z_12_595 ?_
            refine x_inv (N := m_X12_isWord) (As := [.long 17232476819]) (b := 125) (st := []) (d' := 1) (mc := 0) (ms := 0) (host := "") 12 rfl t_X12_isWord ⟨Or.inl q_12_511, i_X12_isWord.1, i_X12_isWord.2⟩ ⟨by decide, rfl⟩ (congrArg Prod.fst (J.1.1 125 (12, 92) rfl)) rfl (by decide) rfl rfl ⟨by decide, by decide⟩ (jC.of rfl k_X12_isWord rfl ?_)
            show jX m_X12_isWord 1 0 0 0 [(0, .ref 125), (1, .long 17232476819)] [] _ 0 0 _
            refine x_aloadn (x := 125) rfl rfl ?_
            refine z_getM (N := 92) (v := v1) 12 11 rfl f_12_235 rfl J rfl qv1 ?_
            refine x_iconst (v := 1) rfl ki_1 ?_
            refine x_icne (tgt := 21) rfl rfl (ti_ne rfl jk_1 ⟨fun c7 => ?_, fun c7 => ?_⟩)
            ·
              refine x_iconst (v := 0) rfl ki_0 ?_
              refine x_zret rfl rfl (by decide) ?_
              show jX m_X12_groundAt 2 0 0 95 [(0, .ref 125)] [.int 0] _ 0 0 _
              refine x_ifeq (tgt := 102) rfl rfl (ti_eq jk_0 jk_0 (br_t (by omega) ?_))
              refine x_iconst (v := (-1)) rfl ki_m1 ?_
              exact jX.sub jsb_n (ct_X12_groundAt_r125_100103 hD hQ  h J Sm)
            ·
              refine x_aloadn (x := 125) rfl rfl ?_
              refine z_getL0 (N := 92) 12 12 rfl f_12_224 rfl J rfl (fun v8 => ?_)
              have ev8 := jfullL v8
              refine x_lloadn (x := 17232476819) rfl rfl ?_
              refine z_lcmp rfl rfl jkl_17232476819 (fun v9 ev9 => ?_)
              refine x_ifne (tgt := 21) rfl rfl (ti_ne rfl jk_0 ⟨fun c10 => ?_, fun c10 => ?_⟩)
              ·
                refine x_iconst (v := 0) rfl ki_0 ?_
                refine x_zret rfl rfl (by decide) ?_
                show jX m_X12_groundAt 2 0 0 95 [(0, .ref 125)] [.int 0] _ 0 0 _
                refine x_ifeq (tgt := 102) rfl rfl (ti_eq jk_0 jk_0 (br_t (by omega) ?_))
                refine x_iconst (v := (-1)) rfl ki_m1 ?_
                exact jX.sub jsb_n (ct_X12_groundAt_r125_100103 hD hQ  h J Sm)
              ·
                refine x_iconst (v := 1) rfl ki_1 ?_
                refine x_goto (tgt := 22) rfl rfl ?_
                refine x_zret rfl rfl (by decide) ?_
                show jX m_X12_groundAt 2 0 0 95 [(0, .ref 125)] [.int 1] _ 0 0 _
                refine x_ifeq (tgt := 102) rfl rfl (ti_eq jk_1 jk_0 (br_f (by omega) ?_))
                refine x_iconst (v := 5) rfl ki_5 ?_
                refine x_goto (tgt := 103) rfl rfl ?_
                exact jX.sub jsb_n (ct_X12_groundAt_r125_700103 hD hQ  h J Sm)
          ·
            refine x_aloadn (x := 125) rfl rfl ?_
            refine z_getL0 (N := 92) 12 12 rfl f_12_224 rfl J rfl (fun v11 => ?_)
            have ev11 := jfullL v11
            refine x_lloadn (x := 23716) rfl rfl ?_
            refine z_lcmp rfl rfl jkl_23716 (fun v12 ev12 => ?_)
            refine x_ifne (tgt := 21) rfl rfl (ti_ne rfl jk_0 ⟨fun c13 => ?_, fun c13 => ?_⟩)
            ·
              refine x_iconst (v := 0) rfl ki_0 ?_
              refine x_zret rfl rfl (by decide) ?_
              show jX m_X12_groundAt 2 0 0 81 [(0, .ref 125)] [.int 0] _ 0 0 _
              refine x_ifeq (tgt := 88) rfl rfl (ti_eq jk_0 jk_0 (br_t (by omega) ?_))
              refine x_aloadn (x := 125) rfl rfl ?_
              refine x_ldc2 (v := 17232476819) rfl z_12_595 ?_
              refine x_inv (N := m_X12_isWord) (As := [.long 17232476819]) (b := 125) (st := []) (d' := 1) (mc := 0) (ms := 0) (host := "") 12 rfl t_X12_isWord ⟨Or.inl q_12_511, i_X12_isWord.1, i_X12_isWord.2⟩ ⟨by decide, rfl⟩ (congrArg Prod.fst (J.1.1 125 (12, 92) rfl)) rfl (by decide) rfl rfl ⟨by decide, by decide⟩ (jC.of rfl k_X12_isWord rfl ?_)
              show jX m_X12_isWord 1 0 0 0 [(0, .ref 125), (1, .long 17232476819)] [] _ 0 0 _
              refine x_aloadn (x := 125) rfl rfl ?_
              refine z_getM (N := 92) (v := v1) 12 11 rfl f_12_235 rfl J rfl qv1 ?_
              refine x_iconst (v := 1) rfl ki_1 ?_
              refine x_icne (tgt := 21) rfl rfl (ti_ne rfl jk_1 (bn_f (by omega) ?_))
              refine x_aloadn (x := 125) rfl rfl ?_
              refine z_getL0 (N := 92) 12 12 rfl f_12_224 rfl J rfl (fun v14 => ?_)
              have ev14 := jfullL v14
              refine x_lloadn (x := 17232476819) rfl rfl ?_
              refine z_lcmp rfl rfl jkl_17232476819 (fun v15 ev15 => ?_)
              refine x_ifne (tgt := 21) rfl rfl (ti_ne rfl jk_0 ⟨fun c16 => ?_, fun c16 => ?_⟩)
              ·
                refine x_iconst (v := 0) rfl ki_0 ?_
                refine x_zret rfl rfl (by decide) ?_
                show jX m_X12_groundAt 2 0 0 95 [(0, .ref 125)] [.int 0] _ 0 0 _
                refine x_ifeq (tgt := 102) rfl rfl (ti_eq jk_0 jk_0 (br_t (by omega) ?_))
                refine x_iconst (v := (-1)) rfl ki_m1 ?_
                exact jX.sub jsb_n (ct_X12_groundAt_r125_100103 hD hQ  h J Sm)
              ·
                refine x_iconst (v := 1) rfl ki_1 ?_
                refine x_goto (tgt := 22) rfl rfl ?_
                refine x_zret rfl rfl (by decide) ?_
                show jX m_X12_groundAt 2 0 0 95 [(0, .ref 125)] [.int 1] _ 0 0 _
                refine x_ifeq (tgt := 102) rfl rfl (ti_eq jk_1 jk_0 (br_f (by omega) ?_))
                refine x_iconst (v := 5) rfl ki_5 ?_
                refine x_goto (tgt := 103) rfl rfl ?_
                exact jX.sub jsb_n (ct_X12_groundAt_r125_700103 hD hQ  h J Sm)
            ·
              refine x_iconst (v := 1) rfl ki_1 ?_
              refine x_goto (tgt := 22) rfl rfl ?_
              refine x_zret rfl rfl (by decide) ?_
              show jX m_X12_groundAt 2 0 0 81 [(0, .ref 125)] [.int 1] _ 0 0 _
              refine x_ifeq (tgt := 88) rfl rfl (ti_eq jk_1 jk_0 (br_f (by omega) ?_))
              refine x_iconst (v := 4) rfl ki_4 ?_
              refine x_goto (tgt := 103) rfl rfl ?_
              exact jX.sub jsb_n (ct_X12_groundAt_r125_600103 hD hQ  h J Sm)
        ·
          refine x_aloadn (x := 125) rfl rfl ?_
          refine z_getL0 (N := 92) 12 12 rfl f_12_224 rfl J rfl (fun v17 => ?_)
          have ev17 := jfullL v17
          refine x_lloadn (x := 509813861) rfl rfl ?_
          refine z_lcmp rfl rfl jkl_509813861 (fun v18 ev18 => ?_)
          refine x_ifne (tgt := 21) rfl rfl (ti_ne rfl jk_0 ⟨fun c19 => ?_, fun c19 => ?_⟩)
          ·
            refine x_iconst (v := 0) rfl ki_0 ?_
            refine x_zret rfl rfl (by decide) ?_
            show jX m_X12_groundAt 2 0 0 67 [(0, .ref 125)] [.int 0] _ 0 0 _
            refine x_ifeq (tgt := 74) rfl rfl (ti_eq jk_0 jk_0 (br_t (by omega) ?_))
            refine x_aloadn (x := 125) rfl rfl ?_
            refine x_ldc2 (v := 23716) rfl z_12_593 ?_
            refine x_inv (N := m_X12_isWord) (As := [.long 23716]) (b := 125) (st := []) (d' := 1) (mc := 0) (ms := 0) (host := "") 12 rfl t_X12_isWord ⟨Or.inl q_12_511, i_X12_isWord.1, i_X12_isWord.2⟩ ⟨by decide, rfl⟩ (congrArg Prod.fst (J.1.1 125 (12, 92) rfl)) rfl (by decide) rfl rfl ⟨by decide, by decide⟩ (jC.of rfl k_X12_isWord rfl ?_)
            show jX m_X12_isWord 1 0 0 0 [(0, .ref 125), (1, .long 23716)] [] _ 0 0 _
            refine x_aloadn (x := 125) rfl rfl ?_
            refine z_getM (N := 92) (v := v1) 12 11 rfl f_12_235 rfl J rfl qv1 ?_
            refine x_iconst (v := 1) rfl ki_1 ?_
            refine x_icne (tgt := 21) rfl rfl (ti_ne rfl jk_1 (bn_f (by omega) ?_))
            refine x_aloadn (x := 125) rfl rfl ?_
            refine z_getL0 (N := 92) 12 12 rfl f_12_224 rfl J rfl (fun v20 => ?_)
            have ev20 := jfullL v20
            refine x_lloadn (x := 23716) rfl rfl ?_
            refine z_lcmp rfl rfl jkl_23716 (fun v21 ev21 => ?_)
            refine x_ifne (tgt := 21) rfl rfl (ti_ne rfl jk_0 ⟨fun c22 => ?_, fun c22 => ?_⟩)
            ·
              refine x_iconst (v := 0) rfl ki_0 ?_
              refine x_zret rfl rfl (by decide) ?_
              show jX m_X12_groundAt 2 0 0 81 [(0, .ref 125)] [.int 0] _ 0 0 _
              refine x_ifeq (tgt := 88) rfl rfl (ti_eq jk_0 jk_0 (br_t (by omega) ?_))
              refine x_aloadn (x := 125) rfl rfl ?_
              refine x_ldc2 (v := 17232476819) rfl z_12_595 ?_
              refine x_inv (N := m_X12_isWord) (As := [.long 17232476819]) (b := 125) (st := []) (d' := 1) (mc := 0) (ms := 0) (host := "") 12 rfl t_X12_isWord ⟨Or.inl q_12_511, i_X12_isWord.1, i_X12_isWord.2⟩ ⟨by decide, rfl⟩ (congrArg Prod.fst (J.1.1 125 (12, 92) rfl)) rfl (by decide) rfl rfl ⟨by decide, by decide⟩ (jC.of rfl k_X12_isWord rfl ?_)
              show jX m_X12_isWord 1 0 0 0 [(0, .ref 125), (1, .long 17232476819)] [] _ 0 0 _
              refine x_aloadn (x := 125) rfl rfl ?_
              refine z_getM (N := 92) (v := v1) 12 11 rfl f_12_235 rfl J rfl qv1 ?_
              refine x_iconst (v := 1) rfl ki_1 ?_
              refine x_icne (tgt := 21) rfl rfl (ti_ne rfl jk_1 (bn_f (by omega) ?_))
              refine x_aloadn (x := 125) rfl rfl ?_
              refine z_getL0 (N := 92) 12 12 rfl f_12_224 rfl J rfl (fun v23 => ?_)
              have ev23 := jfullL v23
              refine x_lloadn (x := 17232476819) rfl rfl ?_
              refine z_lcmp rfl rfl jkl_17232476819 (fun v24 ev24 => ?_)
              refine x_ifne (tgt := 21) rfl rfl (ti_ne rfl jk_0 ⟨fun c25 => ?_, fun c25 => ?_⟩)
              ·
                refine x_iconst (v := 0) rfl ki_0 ?_
                refine x_zret rfl rfl (by decide) ?_
                show jX m_X12_groundAt 2 0 0 95 [(0, .ref 125)] [.int 0] _ 0 0 _
                refine x_ifeq (tgt := 102) rfl rfl (ti_eq jk_0 jk_0 (br_t (by omega) ?_))
                refine x_iconst (v := (-1)) rfl ki_m1 ?_
                exact jX.sub jsb_n (ct_X12_groundAt_r125_100103 hD hQ  h J Sm)
              ·
                refine x_iconst (v := 1) rfl ki_1 ?_
                refine x_goto (tgt := 22) rfl rfl ?_
                refine x_zret rfl rfl (by decide) ?_
                show jX m_X12_groundAt 2 0 0 95 [(0, .ref 125)] [.int 1] _ 0 0 _
                refine x_ifeq (tgt := 102) rfl rfl (ti_eq jk_1 jk_0 (br_f (by omega) ?_))
                refine x_iconst (v := 5) rfl ki_5 ?_
                refine x_goto (tgt := 103) rfl rfl ?_
                exact jX.sub jsb_n (ct_X12_groundAt_r125_700103 hD hQ  h J Sm)
            ·
              refine x_iconst (v := 1) rfl ki_1 ?_
              refine x_goto (tgt := 22) rfl rfl ?_
              refine x_zret rfl rfl (by decide) ?_
              show jX m_X12_groundAt 2 0 0 81 [(0, .ref 125)] [.int 1] _ 0 0 _
              refine x_ifeq (tgt := 88) rfl rfl (ti_eq jk_1 jk_0 (br_f (by omega) ?_))
              refine x_iconst (v := 4) rfl ki_4 ?_
              refine x_goto (tgt := 103) rfl rfl ?_
              exact jX.sub jsb_n (ct_X12_groundAt_r125_600103 hD hQ  h J Sm)
          ·
            refine x_iconst (v := 1) rfl ki_1 ?_
            refine x_goto (tgt := 22) rfl rfl ?_
            refine x_zret rfl rfl (by decide) ?_
            show jX m_X12_groundAt 2 0 0 67 [(0, .ref 125)] [.int 1] _ 0 0 _
            refine x_ifeq (tgt := 74) rfl rfl (ti_eq jk_1 jk_0 (br_f (by omega) ?_))
            refine x_iconst (v := 3) rfl ki_3 ?_
            refine x_goto (tgt := 103) rfl rfl ?_
            exact jX.sub jsb_n (ct_X12_groundAt_r125_500103 hD hQ  h J Sm)
      ·
        refine x_aloadn (x := 125) rfl rfl ?_
        refine z_getL0 (N := 92) 12 12 rfl f_12_224 rfl J rfl (fun v26 => ?_)
        have ev26 := jfullL v26
        refine x_lloadn (x := 595412) rfl rfl ?_
        refine z_lcmp rfl rfl jkl_595412 (fun v27 ev27 => ?_)
        refine x_ifne (tgt := 21) rfl rfl (ti_ne rfl jk_0 ⟨fun c28 => ?_, fun c28 => ?_⟩)
        ·
          refine x_iconst (v := 0) rfl ki_0 ?_
          refine x_zret rfl rfl (by decide) ?_
          show jX m_X12_groundAt 2 0 0 27 [(0, .ref 125)] [.int 0] _ 0 0 _
          refine x_ifeq (tgt := 60) rfl rfl (ti_eq jk_0 jk_0 (br_t (by omega) ?_))
          refine x_aloadn (x := 125) rfl rfl ?_
          refine x_ldc2 (v := 509813861) rfl z_12_591 ?_
          refine x_inv (N := m_X12_isWord) (As := [.long 509813861]) (b := 125) (st := []) (d' := 1) (mc := 0) (ms := 0) (host := "") 12 rfl t_X12_isWord ⟨Or.inl q_12_511, i_X12_isWord.1, i_X12_isWord.2⟩ ⟨by decide, rfl⟩ (congrArg Prod.fst (J.1.1 125 (12, 92) rfl)) rfl (by decide) rfl rfl ⟨by decide, by decide⟩ (jC.of rfl k_X12_isWord rfl ?_)
          show jX m_X12_isWord 1 0 0 0 [(0, .ref 125), (1, .long 509813861)] [] _ 0 0 _
          refine x_aloadn (x := 125) rfl rfl ?_
          refine z_getM (N := 92) (v := v1) 12 11 rfl f_12_235 rfl J rfl qv1 ?_
          refine x_iconst (v := 1) rfl ki_1 ?_
          refine x_icne (tgt := 21) rfl rfl (ti_ne rfl jk_1 (bn_f (by omega) ?_))
          refine x_aloadn (x := 125) rfl rfl ?_
          refine z_getL0 (N := 92) 12 12 rfl f_12_224 rfl J rfl (fun v29 => ?_)
          have ev29 := jfullL v29
          refine x_lloadn (x := 509813861) rfl rfl ?_
          refine z_lcmp rfl rfl jkl_509813861 (fun v30 ev30 => ?_)
          refine x_ifne (tgt := 21) rfl rfl (ti_ne rfl jk_0 ⟨fun c31 => ?_, fun c31 => ?_⟩)
          ·
            refine x_iconst (v := 0) rfl ki_0 ?_
            refine x_zret rfl rfl (by decide) ?_
            show jX m_X12_groundAt 2 0 0 67 [(0, .ref 125)] [.int 0] _ 0 0 _
            refine x_ifeq (tgt := 74) rfl rfl (ti_eq jk_0 jk_0 (br_t (by omega) ?_))
            refine x_aloadn (x := 125) rfl rfl ?_
            refine x_ldc2 (v := 23716) rfl z_12_593 ?_
            refine x_inv (N := m_X12_isWord) (As := [.long 23716]) (b := 125) (st := []) (d' := 1) (mc := 0) (ms := 0) (host := "") 12 rfl t_X12_isWord ⟨Or.inl q_12_511, i_X12_isWord.1, i_X12_isWord.2⟩ ⟨by decide, rfl⟩ (congrArg Prod.fst (J.1.1 125 (12, 92) rfl)) rfl (by decide) rfl rfl ⟨by decide, by decide⟩ (jC.of rfl k_X12_isWord rfl ?_)
            show jX m_X12_isWord 1 0 0 0 [(0, .ref 125), (1, .long 23716)] [] _ 0 0 _
            refine x_aloadn (x := 125) rfl rfl ?_
            refine z_getM (N := 92) (v := v1) 12 11 rfl f_12_235 rfl J rfl qv1 ?_
            refine x_iconst (v := 1) rfl ki_1 ?_
            refine x_icne (tgt := 21) rfl rfl (ti_ne rfl jk_1 (bn_f (by omega) ?_))
            refine x_aloadn (x := 125) rfl rfl ?_
            refine z_getL0 (N := 92) 12 12 rfl f_12_224 rfl J rfl (fun v32 => ?_)
            have ev32 := jfullL v32
            refine x_lloadn (x := 23716) rfl rfl ?_
            refine z_lcmp rfl rfl jkl_23716 (fun v33 ev33 => ?_)
            refine x_ifne (tgt := 21) rfl rfl (ti_ne rfl jk_0 ⟨fun c34 => ?_, fun c34 => ?_⟩)
            ·
              refine x_iconst (v := 0) rfl ki_0 ?_
              refine x_zret rfl rfl (by decide) ?_
              show jX m_X12_groundAt 2 0 0 81 [(0, .ref 125)] [.int 0] _ 0 0 _
              refine x_ifeq (tgt := 88) rfl rfl (ti_eq jk_0 jk_0 (br_t (by omega) ?_))
              refine x_aloadn (x := 125) rfl rfl ?_
              refine x_ldc2 (v := 17232476819) rfl z_12_595 ?_
              refine x_inv (N := m_X12_isWord) (As := [.long 17232476819]) (b := 125) (st := []) (d' := 1) (mc := 0) (ms := 0) (host := "") 12 rfl t_X12_isWord ⟨Or.inl q_12_511, i_X12_isWord.1, i_X12_isWord.2⟩ ⟨by decide, rfl⟩ (congrArg Prod.fst (J.1.1 125 (12, 92) rfl)) rfl (by decide) rfl rfl ⟨by decide, by decide⟩ (jC.of rfl k_X12_isWord rfl ?_)
              show jX m_X12_isWord 1 0 0 0 [(0, .ref 125), (1, .long 17232476819)] [] _ 0 0 _
              refine x_aloadn (x := 125) rfl rfl ?_
              refine z_getM (N := 92) (v := v1) 12 11 rfl f_12_235 rfl J rfl qv1 ?_
              refine x_iconst (v := 1) rfl ki_1 ?_
              refine x_icne (tgt := 21) rfl rfl (ti_ne rfl jk_1 (bn_f (by omega) ?_))
              refine x_aloadn (x := 125) rfl rfl ?_
              refine z_getL0 (N := 92) 12 12 rfl f_12_224 rfl J rfl (fun v35 => ?_)
              have ev35 := jfullL v35
              refine x_lloadn (x := 17232476819) rfl rfl ?_
              refine z_lcmp rfl rfl jkl_17232476819 (fun v36 ev36 => ?_)
              refine x_ifne (tgt := 21) rfl rfl (ti_ne rfl jk_0 ⟨fun c37 => ?_, fun c37 => ?_⟩)
              ·
                refine x_iconst (v := 0) rfl ki_0 ?_
                refine x_zret rfl rfl (by decide) ?_
                show jX m_X12_groundAt 2 0 0 95 [(0, .ref 125)] [.int 0] _ 0 0 _
                refine x_ifeq (tgt := 102) rfl rfl (ti_eq jk_0 jk_0 (br_t (by omega) ?_))
                refine x_iconst (v := (-1)) rfl ki_m1 ?_
                exact jX.sub jsb_n (ct_X12_groundAt_r125_100103 hD hQ  h J Sm)
              ·
                refine x_iconst (v := 1) rfl ki_1 ?_
                refine x_goto (tgt := 22) rfl rfl ?_
                refine x_zret rfl rfl (by decide) ?_
                show jX m_X12_groundAt 2 0 0 95 [(0, .ref 125)] [.int 1] _ 0 0 _
                refine x_ifeq (tgt := 102) rfl rfl (ti_eq jk_1 jk_0 (br_f (by omega) ?_))
                refine x_iconst (v := 5) rfl ki_5 ?_
                refine x_goto (tgt := 103) rfl rfl ?_
                exact jX.sub jsb_n (ct_X12_groundAt_r125_700103 hD hQ  h J Sm)
            ·
              refine x_iconst (v := 1) rfl ki_1 ?_
              refine x_goto (tgt := 22) rfl rfl ?_
              refine x_zret rfl rfl (by decide) ?_
              show jX m_X12_groundAt 2 0 0 81 [(0, .ref 125)] [.int 1] _ 0 0 _
              refine x_ifeq (tgt := 88) rfl rfl (ti_eq jk_1 jk_0 (br_f (by omega) ?_))
              refine x_iconst (v := 4) rfl ki_4 ?_
              refine x_goto (tgt := 103) rfl rfl ?_
              exact jX.sub jsb_n (ct_X12_groundAt_r125_600103 hD hQ  h J Sm)
          ·
            refine x_iconst (v := 1) rfl ki_1 ?_
            refine x_goto (tgt := 22) rfl rfl ?_
            refine x_zret rfl rfl (by decide) ?_
            show jX m_X12_groundAt 2 0 0 67 [(0, .ref 125)] [.int 1] _ 0 0 _
            refine x_ifeq (tgt := 74) rfl rfl (ti_eq jk_1 jk_0 (br_f (by omega) ?_))
            refine x_iconst (v := 3) rfl ki_3 ?_
            refine x_goto (tgt := 103) rfl rfl ?_
            exact jX.sub jsb_n (ct_X12_groundAt_r125_500103 hD hQ  h J Sm)
        ·
          refine x_iconst (v := 1) rfl ki_1 ?_
          refine x_goto (tgt := 22) rfl rfl ?_
          refine x_zret rfl rfl (by decide) ?_
          show jX m_X12_groundAt 2 0 0 27 [(0, .ref 125)] [.int 1] _ 0 0 _
          refine x_ifeq (tgt := 60) rfl rfl (ti_eq jk_1 jk_0 (br_f (by omega) ?_))
          exact jX.sub (jsb_c rfl jsb_n) (ct_X12_groundAt_r125_30 hD hQ  v1 h (jr_of rfl (by omega)) qv1 J Sm)
    ·
      refine x_aloadn (x := 125) rfl rfl ?_
      refine z_getL0 (N := 92) 12 12 rfl f_12_224 rfl J rfl (fun v38 => ?_)
      have ev38 := jfullL v38
      refine x_lloadn (x := 271941) rfl rfl ?_
      refine z_lcmp rfl rfl jkl_271941 (fun v39 ev39 => ?_)
      refine x_ifne (tgt := 21) rfl rfl (ti_ne rfl jk_0 ⟨fun c40 => ?_, fun c40 => ?_⟩)
      ·
        refine x_iconst (v := 0) rfl ki_0 ?_
        refine x_zret rfl rfl (by decide) ?_
        show jX m_X12_groundAt 2 0 0 17 [(0, .ref 125)] [.int 0] _ 0 0 _
        refine x_ifne (tgt := 30) rfl rfl (ti_ne jk_0 jk_0 (bn_f (by omega) ?_))
        refine x_aloadn (x := 125) rfl rfl ?_
        refine x_ldc2 (v := 595412) rfl z_12_589 ?_
        refine x_inv (N := m_X12_isWord) (As := [.long 595412]) (b := 125) (st := []) (d' := 1) (mc := 0) (ms := 0) (host := "") 12 rfl t_X12_isWord ⟨Or.inl q_12_511, i_X12_isWord.1, i_X12_isWord.2⟩ ⟨by decide, rfl⟩ (congrArg Prod.fst (J.1.1 125 (12, 92) rfl)) rfl (by decide) rfl rfl ⟨by decide, by decide⟩ (jC.of rfl k_X12_isWord rfl ?_)
        show jX m_X12_isWord 1 0 0 0 [(0, .ref 125), (1, .long 595412)] [] _ 0 0 _
        refine x_aloadn (x := 125) rfl rfl ?_
        refine z_getM (N := 92) (v := v1) 12 11 rfl f_12_235 rfl J rfl qv1 ?_
        refine x_iconst (v := 1) rfl ki_1 ?_
        refine x_icne (tgt := 21) rfl rfl (ti_ne rfl jk_1 (bn_f (by omega) ?_))
        refine x_aloadn (x := 125) rfl rfl ?_
        refine z_getL0 (N := 92) 12 12 rfl f_12_224 rfl J rfl (fun v41 => ?_)
        have ev41 := jfullL v41
        refine x_lloadn (x := 595412) rfl rfl ?_
        refine z_lcmp rfl rfl jkl_595412 (fun v42 ev42 => ?_)
        refine x_ifne (tgt := 21) rfl rfl (ti_ne rfl jk_0 ⟨fun c43 => ?_, fun c43 => ?_⟩)
        ·
          refine x_iconst (v := 0) rfl ki_0 ?_
          refine x_zret rfl rfl (by decide) ?_
          show jX m_X12_groundAt 2 0 0 27 [(0, .ref 125)] [.int 0] _ 0 0 _
          refine x_ifeq (tgt := 60) rfl rfl (ti_eq jk_0 jk_0 (br_t (by omega) ?_))
          refine x_aloadn (x := 125) rfl rfl ?_
          refine x_ldc2 (v := 509813861) rfl z_12_591 ?_
          refine x_inv (N := m_X12_isWord) (As := [.long 509813861]) (b := 125) (st := []) (d' := 1) (mc := 0) (ms := 0) (host := "") 12 rfl t_X12_isWord ⟨Or.inl q_12_511, i_X12_isWord.1, i_X12_isWord.2⟩ ⟨by decide, rfl⟩ (congrArg Prod.fst (J.1.1 125 (12, 92) rfl)) rfl (by decide) rfl rfl ⟨by decide, by decide⟩ (jC.of rfl k_X12_isWord rfl ?_)
          show jX m_X12_isWord 1 0 0 0 [(0, .ref 125), (1, .long 509813861)] [] _ 0 0 _
          refine x_aloadn (x := 125) rfl rfl ?_
          refine z_getM (N := 92) (v := v1) 12 11 rfl f_12_235 rfl J rfl qv1 ?_
          refine x_iconst (v := 1) rfl ki_1 ?_
          refine x_icne (tgt := 21) rfl rfl (ti_ne rfl jk_1 (bn_f (by omega) ?_))
          refine x_aloadn (x := 125) rfl rfl ?_
          refine z_getL0 (N := 92) 12 12 rfl f_12_224 rfl J rfl (fun v44 => ?_)
          have ev44 := jfullL v44
          refine x_lloadn (x := 509813861) rfl rfl ?_
          refine z_lcmp rfl rfl jkl_509813861 (fun v45 ev45 => ?_)
          refine x_ifne (tgt := 21) rfl rfl (ti_ne rfl jk_0 ⟨fun c46 => ?_, fun c46 => ?_⟩)
          ·
            refine x_iconst (v := 0) rfl ki_0 ?_
            refine x_zret rfl rfl (by decide) ?_
            show jX m_X12_groundAt 2 0 0 67 [(0, .ref 125)] [.int 0] _ 0 0 _
            refine x_ifeq (tgt := 74) rfl rfl (ti_eq jk_0 jk_0 (br_t (by omega) ?_))
            refine x_aloadn (x := 125) rfl rfl ?_
            refine x_ldc2 (v := 23716) rfl z_12_593 ?_
            refine x_inv (N := m_X12_isWord) (As := [.long 23716]) (b := 125) (st := []) (d' := 1) (mc := 0) (ms := 0) (host := "") 12 rfl t_X12_isWord ⟨Or.inl q_12_511, i_X12_isWord.1, i_X12_isWord.2⟩ ⟨by decide, rfl⟩ (congrArg Prod.fst (J.1.1 125 (12, 92) rfl)) rfl (by decide) rfl rfl ⟨by decide, by decide⟩ (jC.of rfl k_X12_isWord rfl ?_)
            show jX m_X12_isWord 1 0 0 0 [(0, .ref 125), (1, .long 23716)] [] _ 0 0 _
            refine x_aloadn (x := 125) rfl rfl ?_
            refine z_getM (N := 92) (v := v1) 12 11 rfl f_12_235 rfl J rfl qv1 ?_
            refine x_iconst (v := 1) rfl ki_1 ?_
            refine x_icne (tgt := 21) rfl rfl (ti_ne rfl jk_1 (bn_f (by omega) ?_))
            refine x_aloadn (x := 125) rfl rfl ?_
            refine z_getL0 (N := 92) 12 12 rfl f_12_224 rfl J rfl (fun v47 => ?_)
            have ev47 := jfullL v47
            refine x_lloadn (x := 23716) rfl rfl ?_
            refine z_lcmp rfl rfl jkl_23716 (fun v48 ev48 => ?_)
            refine x_ifne (tgt := 21) rfl rfl (ti_ne rfl jk_0 ⟨fun c49 => ?_, fun c49 => ?_⟩)
            ·
              refine x_iconst (v := 0) rfl ki_0 ?_
              refine x_zret rfl rfl (by decide) ?_
              show jX m_X12_groundAt 2 0 0 81 [(0, .ref 125)] [.int 0] _ 0 0 _
              refine x_ifeq (tgt := 88) rfl rfl (ti_eq jk_0 jk_0 (br_t (by omega) ?_))
              refine x_aloadn (x := 125) rfl rfl ?_
              refine x_ldc2 (v := 17232476819) rfl z_12_595 ?_
              refine x_inv (N := m_X12_isWord) (As := [.long 17232476819]) (b := 125) (st := []) (d' := 1) (mc := 0) (ms := 0) (host := "") 12 rfl t_X12_isWord ⟨Or.inl q_12_511, i_X12_isWord.1, i_X12_isWord.2⟩ ⟨by decide, rfl⟩ (congrArg Prod.fst (J.1.1 125 (12, 92) rfl)) rfl (by decide) rfl rfl ⟨by decide, by decide⟩ (jC.of rfl k_X12_isWord rfl ?_)
              show jX m_X12_isWord 1 0 0 0 [(0, .ref 125), (1, .long 17232476819)] [] _ 0 0 _
              refine x_aloadn (x := 125) rfl rfl ?_
              refine z_getM (N := 92) (v := v1) 12 11 rfl f_12_235 rfl J rfl qv1 ?_
              refine x_iconst (v := 1) rfl ki_1 ?_
              refine x_icne (tgt := 21) rfl rfl (ti_ne rfl jk_1 (bn_f (by omega) ?_))
              refine x_aloadn (x := 125) rfl rfl ?_
              refine z_getL0 (N := 92) 12 12 rfl f_12_224 rfl J rfl (fun v50 => ?_)
              have ev50 := jfullL v50
              refine x_lloadn (x := 17232476819) rfl rfl ?_
              refine z_lcmp rfl rfl jkl_17232476819 (fun v51 ev51 => ?_)
              refine x_ifne (tgt := 21) rfl rfl (ti_ne rfl jk_0 ⟨fun c52 => ?_, fun c52 => ?_⟩)
              ·
                refine x_iconst (v := 0) rfl ki_0 ?_
                refine x_zret rfl rfl (by decide) ?_
                show jX m_X12_groundAt 2 0 0 95 [(0, .ref 125)] [.int 0] _ 0 0 _
                refine x_ifeq (tgt := 102) rfl rfl (ti_eq jk_0 jk_0 (br_t (by omega) ?_))
                refine x_iconst (v := (-1)) rfl ki_m1 ?_
                exact jX.sub jsb_n (ct_X12_groundAt_r125_100103 hD hQ  h J Sm)
              ·
                refine x_iconst (v := 1) rfl ki_1 ?_
                refine x_goto (tgt := 22) rfl rfl ?_
                refine x_zret rfl rfl (by decide) ?_
                show jX m_X12_groundAt 2 0 0 95 [(0, .ref 125)] [.int 1] _ 0 0 _
                refine x_ifeq (tgt := 102) rfl rfl (ti_eq jk_1 jk_0 (br_f (by omega) ?_))
                refine x_iconst (v := 5) rfl ki_5 ?_
                refine x_goto (tgt := 103) rfl rfl ?_
                exact jX.sub jsb_n (ct_X12_groundAt_r125_700103 hD hQ  h J Sm)
            ·
              refine x_iconst (v := 1) rfl ki_1 ?_
              refine x_goto (tgt := 22) rfl rfl ?_
              refine x_zret rfl rfl (by decide) ?_
              show jX m_X12_groundAt 2 0 0 81 [(0, .ref 125)] [.int 1] _ 0 0 _
              refine x_ifeq (tgt := 88) rfl rfl (ti_eq jk_1 jk_0 (br_f (by omega) ?_))
              refine x_iconst (v := 4) rfl ki_4 ?_
              refine x_goto (tgt := 103) rfl rfl ?_
              exact jX.sub jsb_n (ct_X12_groundAt_r125_600103 hD hQ  h J Sm)
          ·
            refine x_iconst (v := 1) rfl ki_1 ?_
            refine x_goto (tgt := 22) rfl rfl ?_
            refine x_zret rfl rfl (by decide) ?_
            show jX m_X12_groundAt 2 0 0 67 [(0, .ref 125)] [.int 1] _ 0 0 _
            refine x_ifeq (tgt := 74) rfl rfl (ti_eq jk_1 jk_0 (br_f (by omega) ?_))
            refine x_iconst (v := 3) rfl ki_3 ?_
            refine x_goto (tgt := 103) rfl rfl ?_
            exact jX.sub jsb_n (ct_X12_groundAt_r125_500103 hD hQ  h J Sm)
        ·
          refine x_iconst (v := 1) rfl ki_1 ?_
          refine x_goto (tgt := 22) rfl rfl ?_
          refine x_zret rfl rfl (by decide) ?_
          show jX m_X12_groundAt 2 0 0 27 [(0, .ref 125)] [.int 1] _ 0 0 _
          refine x_ifeq (tgt := 60) rfl rfl (ti_eq jk_1 jk_0 (br_f (by omega) ?_))
          exact jX.sub (jsb_c rfl jsb_n) (ct_X12_groundAt_r125_30 hD hQ  v1 h (jr_of rfl (by omega)) qv1 J Sm)
      ·
        refine x_iconst (v := 1) rfl ki_1 ?_
        refine x_goto (tgt := 22) rfl rfl ?_
        refine x_zret rfl rfl (by decide) ?_
        show jX m_X12_groundAt 2 0 0 17 [(0, .ref 125)] [.int 1] _ 0 0 _
        refine x_ifne (tgt := 30) rfl rfl (ti_ne jk_1 jk_0 (bn_t (by omega) ?_))
        exact jX.sub (jsb_c rfl jsb_n) (ct_X12_groundAt_r125_30 hD hQ  v1 h (jr_of rfl (by omega)) qv1 J Sm)
  ·
    refine x_aloadn (x := 125) rfl rfl ?_
    refine z_getL0 (N := 92) 12 12 rfl f_12_224 rfl J rfl (fun v53 => ?_)
    have ev53 := jfullL v53
    refine x_lloadn (x := 2411144) rfl rfl ?_
    refine z_lcmp rfl rfl jkl_2411144 (fun v54 ev54 => ?_)
    refine x_ifne (tgt := 21) rfl rfl (ti_ne rfl jk_0 ⟨fun c55 => ?_, fun c55 => ?_⟩)
    ·
      refine x_iconst (v := 0) rfl ki_0 ?_
      refine x_zret rfl rfl (by decide) ?_
      show jX m_X12_groundAt 2 0 0 7 [(0, .ref 125)] [.int 0] _ 0 0 _
      refine x_ifne (tgt := 30) rfl rfl (ti_ne jk_0 jk_0 (bn_f (by omega) ?_))
      refine x_aloadn (x := 125) rfl rfl ?_
      refine x_ldc2 (v := 271941) rfl z_12_587 ?_
      refine x_inv (N := m_X12_isWord) (As := [.long 271941]) (b := 125) (st := []) (d' := 1) (mc := 0) (ms := 0) (host := "") 12 rfl t_X12_isWord ⟨Or.inl q_12_511, i_X12_isWord.1, i_X12_isWord.2⟩ ⟨by decide, rfl⟩ (congrArg Prod.fst (J.1.1 125 (12, 92) rfl)) rfl (by decide) rfl rfl ⟨by decide, by decide⟩ (jC.of rfl k_X12_isWord rfl ?_)
      show jX m_X12_isWord 1 0 0 0 [(0, .ref 125), (1, .long 271941)] [] _ 0 0 _
      refine x_aloadn (x := 125) rfl rfl ?_
      refine z_getM (N := 92) (v := v1) 12 11 rfl f_12_235 rfl J rfl qv1 ?_
      refine x_iconst (v := 1) rfl ki_1 ?_
      refine x_icne (tgt := 21) rfl rfl (ti_ne rfl jk_1 (bn_f (by omega) ?_))
      refine x_aloadn (x := 125) rfl rfl ?_
      refine z_getL0 (N := 92) 12 12 rfl f_12_224 rfl J rfl (fun v56 => ?_)
      have ev56 := jfullL v56
      refine x_lloadn (x := 271941) rfl rfl ?_
      refine z_lcmp rfl rfl jkl_271941 (fun v57 ev57 => ?_)
      refine x_ifne (tgt := 21) rfl rfl (ti_ne rfl jk_0 ⟨fun c58 => ?_, fun c58 => ?_⟩)
      ·
        refine x_iconst (v := 0) rfl ki_0 ?_
        refine x_zret rfl rfl (by decide) ?_
        show jX m_X12_groundAt 2 0 0 17 [(0, .ref 125)] [.int 0] _ 0 0 _
        refine x_ifne (tgt := 30) rfl rfl (ti_ne jk_0 jk_0 (bn_f (by omega) ?_))
        refine x_aloadn (x := 125) rfl rfl ?_
        refine x_ldc2 (v := 595412) rfl z_12_589 ?_
        refine x_inv (N := m_X12_isWord) (As := [.long 595412]) (b := 125) (st := []) (d' := 1) (mc := 0) (ms := 0) (host := "") 12 rfl t_X12_isWord ⟨Or.inl q_12_511, i_X12_isWord.1, i_X12_isWord.2⟩ ⟨by decide, rfl⟩ (congrArg Prod.fst (J.1.1 125 (12, 92) rfl)) rfl (by decide) rfl rfl ⟨by decide, by decide⟩ (jC.of rfl k_X12_isWord rfl ?_)
        show jX m_X12_isWord 1 0 0 0 [(0, .ref 125), (1, .long 595412)] [] _ 0 0 _
        refine x_aloadn (x := 125) rfl rfl ?_
        refine z_getM (N := 92) (v := v1) 12 11 rfl f_12_235 rfl J rfl qv1 ?_
        refine x_iconst (v := 1) rfl ki_1 ?_
        refine x_icne (tgt := 21) rfl rfl (ti_ne rfl jk_1 (bn_f (by omega) ?_))
        refine x_aloadn (x := 125) rfl rfl ?_
        refine z_getL0 (N := 92) 12 12 rfl f_12_224 rfl J rfl (fun v59 => ?_)
        have ev59 := jfullL v59
        refine x_lloadn (x := 595412) rfl rfl ?_
        refine z_lcmp rfl rfl jkl_595412 (fun v60 ev60 => ?_)
        refine x_ifne (tgt := 21) rfl rfl (ti_ne rfl jk_0 ⟨fun c61 => ?_, fun c61 => ?_⟩)
        ·
          refine x_iconst (v := 0) rfl ki_0 ?_
          refine x_zret rfl rfl (by decide) ?_
          show jX m_X12_groundAt 2 0 0 27 [(0, .ref 125)] [.int 0] _ 0 0 _
          refine x_ifeq (tgt := 60) rfl rfl (ti_eq jk_0 jk_0 (br_t (by omega) ?_))
          refine x_aloadn (x := 125) rfl rfl ?_
          refine x_ldc2 (v := 509813861) rfl z_12_591 ?_
          refine x_inv (N := m_X12_isWord) (As := [.long 509813861]) (b := 125) (st := []) (d' := 1) (mc := 0) (ms := 0) (host := "") 12 rfl t_X12_isWord ⟨Or.inl q_12_511, i_X12_isWord.1, i_X12_isWord.2⟩ ⟨by decide, rfl⟩ (congrArg Prod.fst (J.1.1 125 (12, 92) rfl)) rfl (by decide) rfl rfl ⟨by decide, by decide⟩ (jC.of rfl k_X12_isWord rfl ?_)
          show jX m_X12_isWord 1 0 0 0 [(0, .ref 125), (1, .long 509813861)] [] _ 0 0 _
          refine x_aloadn (x := 125) rfl rfl ?_
          refine z_getM (N := 92) (v := v1) 12 11 rfl f_12_235 rfl J rfl qv1 ?_
          refine x_iconst (v := 1) rfl ki_1 ?_
          refine x_icne (tgt := 21) rfl rfl (ti_ne rfl jk_1 (bn_f (by omega) ?_))
          refine x_aloadn (x := 125) rfl rfl ?_
          refine z_getL0 (N := 92) 12 12 rfl f_12_224 rfl J rfl (fun v62 => ?_)
          have ev62 := jfullL v62
          refine x_lloadn (x := 509813861) rfl rfl ?_
          refine z_lcmp rfl rfl jkl_509813861 (fun v63 ev63 => ?_)
          refine x_ifne (tgt := 21) rfl rfl (ti_ne rfl jk_0 ⟨fun c64 => ?_, fun c64 => ?_⟩)
          ·
            refine x_iconst (v := 0) rfl ki_0 ?_
            refine x_zret rfl rfl (by decide) ?_
            show jX m_X12_groundAt 2 0 0 67 [(0, .ref 125)] [.int 0] _ 0 0 _
            refine x_ifeq (tgt := 74) rfl rfl (ti_eq jk_0 jk_0 (br_t (by omega) ?_))
            refine x_aloadn (x := 125) rfl rfl ?_
            refine x_ldc2 (v := 23716) rfl z_12_593 ?_
            refine x_inv (N := m_X12_isWord) (As := [.long 23716]) (b := 125) (st := []) (d' := 1) (mc := 0) (ms := 0) (host := "") 12 rfl t_X12_isWord ⟨Or.inl q_12_511, i_X12_isWord.1, i_X12_isWord.2⟩ ⟨by decide, rfl⟩ (congrArg Prod.fst (J.1.1 125 (12, 92) rfl)) rfl (by decide) rfl rfl ⟨by decide, by decide⟩ (jC.of rfl k_X12_isWord rfl ?_)
            show jX m_X12_isWord 1 0 0 0 [(0, .ref 125), (1, .long 23716)] [] _ 0 0 _
            refine x_aloadn (x := 125) rfl rfl ?_
            refine z_getM (N := 92) (v := v1) 12 11 rfl f_12_235 rfl J rfl qv1 ?_
            refine x_iconst (v := 1) rfl ki_1 ?_
            refine x_icne (tgt := 21) rfl rfl (ti_ne rfl jk_1 (bn_f (by omega) ?_))
            refine x_aloadn (x := 125) rfl rfl ?_
            refine z_getL0 (N := 92) 12 12 rfl f_12_224 rfl J rfl (fun v65 => ?_)
            have ev65 := jfullL v65
            refine x_lloadn (x := 23716) rfl rfl ?_
            refine z_lcmp rfl rfl jkl_23716 (fun v66 ev66 => ?_)
            refine x_ifne (tgt := 21) rfl rfl (ti_ne rfl jk_0 ⟨fun c67 => ?_, fun c67 => ?_⟩)
            ·
              refine x_iconst (v := 0) rfl ki_0 ?_
              refine x_zret rfl rfl (by decide) ?_
              show jX m_X12_groundAt 2 0 0 81 [(0, .ref 125)] [.int 0] _ 0 0 _
              refine x_ifeq (tgt := 88) rfl rfl (ti_eq jk_0 jk_0 (br_t (by omega) ?_))
              refine x_aloadn (x := 125) rfl rfl ?_
              refine x_ldc2 (v := 17232476819) rfl z_12_595 ?_
              refine x_inv (N := m_X12_isWord) (As := [.long 17232476819]) (b := 125) (st := []) (d' := 1) (mc := 0) (ms := 0) (host := "") 12 rfl t_X12_isWord ⟨Or.inl q_12_511, i_X12_isWord.1, i_X12_isWord.2⟩ ⟨by decide, rfl⟩ (congrArg Prod.fst (J.1.1 125 (12, 92) rfl)) rfl (by decide) rfl rfl ⟨by decide, by decide⟩ (jC.of rfl k_X12_isWord rfl ?_)
              show jX m_X12_isWord 1 0 0 0 [(0, .ref 125), (1, .long 17232476819)] [] _ 0 0 _
              refine x_aloadn (x := 125) rfl rfl ?_
              refine z_getM (N := 92) (v := v1) 12 11 rfl f_12_235 rfl J rfl qv1 ?_
              refine x_iconst (v := 1) rfl ki_1 ?_
              refine x_icne (tgt := 21) rfl rfl (ti_ne rfl jk_1 (bn_f (by omega) ?_))
              refine x_aloadn (x := 125) rfl rfl ?_
              refine z_getL0 (N := 92) 12 12 rfl f_12_224 rfl J rfl (fun v68 => ?_)
              have ev68 := jfullL v68
              refine x_lloadn (x := 17232476819) rfl rfl ?_
              refine z_lcmp rfl rfl jkl_17232476819 (fun v69 ev69 => ?_)
              refine x_ifne (tgt := 21) rfl rfl (ti_ne rfl jk_0 ⟨fun c70 => ?_, fun c70 => ?_⟩)
              ·
                refine x_iconst (v := 0) rfl ki_0 ?_
                refine x_zret rfl rfl (by decide) ?_
                show jX m_X12_groundAt 2 0 0 95 [(0, .ref 125)] [.int 0] _ 0 0 _
                refine x_ifeq (tgt := 102) rfl rfl (ti_eq jk_0 jk_0 (br_t (by omega) ?_))
                refine x_iconst (v := (-1)) rfl ki_m1 ?_
                exact jX.sub jsb_n (ct_X12_groundAt_r125_100103 hD hQ  h J Sm)
              ·
                refine x_iconst (v := 1) rfl ki_1 ?_
                refine x_goto (tgt := 22) rfl rfl ?_
                refine x_zret rfl rfl (by decide) ?_
                show jX m_X12_groundAt 2 0 0 95 [(0, .ref 125)] [.int 1] _ 0 0 _
                refine x_ifeq (tgt := 102) rfl rfl (ti_eq jk_1 jk_0 (br_f (by omega) ?_))
                refine x_iconst (v := 5) rfl ki_5 ?_
                refine x_goto (tgt := 103) rfl rfl ?_
                exact jX.sub jsb_n (ct_X12_groundAt_r125_700103 hD hQ  h J Sm)
            ·
              refine x_iconst (v := 1) rfl ki_1 ?_
              refine x_goto (tgt := 22) rfl rfl ?_
              refine x_zret rfl rfl (by decide) ?_
              show jX m_X12_groundAt 2 0 0 81 [(0, .ref 125)] [.int 1] _ 0 0 _
              refine x_ifeq (tgt := 88) rfl rfl (ti_eq jk_1 jk_0 (br_f (by omega) ?_))
              refine x_iconst (v := 4) rfl ki_4 ?_
              refine x_goto (tgt := 103) rfl rfl ?_
              exact jX.sub jsb_n (ct_X12_groundAt_r125_600103 hD hQ  h J Sm)
          ·
            refine x_iconst (v := 1) rfl ki_1 ?_
            refine x_goto (tgt := 22) rfl rfl ?_
            refine x_zret rfl rfl (by decide) ?_
            show jX m_X12_groundAt 2 0 0 67 [(0, .ref 125)] [.int 1] _ 0 0 _
            refine x_ifeq (tgt := 74) rfl rfl (ti_eq jk_1 jk_0 (br_f (by omega) ?_))
            refine x_iconst (v := 3) rfl ki_3 ?_
            refine x_goto (tgt := 103) rfl rfl ?_
            exact jX.sub jsb_n (ct_X12_groundAt_r125_500103 hD hQ  h J Sm)
        ·
          refine x_iconst (v := 1) rfl ki_1 ?_
          refine x_goto (tgt := 22) rfl rfl ?_
          refine x_zret rfl rfl (by decide) ?_
          show jX m_X12_groundAt 2 0 0 27 [(0, .ref 125)] [.int 1] _ 0 0 _
          refine x_ifeq (tgt := 60) rfl rfl (ti_eq jk_1 jk_0 (br_f (by omega) ?_))
          exact jX.sub (jsb_c rfl jsb_n) (ct_X12_groundAt_r125_30 hD hQ  v1 h (jr_of rfl (by omega)) qv1 J Sm)
      ·
        refine x_iconst (v := 1) rfl ki_1 ?_
        refine x_goto (tgt := 22) rfl rfl ?_
        refine x_zret rfl rfl (by decide) ?_
        show jX m_X12_groundAt 2 0 0 17 [(0, .ref 125)] [.int 1] _ 0 0 _
        refine x_ifne (tgt := 30) rfl rfl (ti_ne jk_1 jk_0 (bn_t (by omega) ?_))
        exact jX.sub (jsb_c rfl jsb_n) (ct_X12_groundAt_r125_30 hD hQ  v1 h (jr_of rfl (by omega)) qv1 J Sm)
    ·
      refine x_iconst (v := 1) rfl ki_1 ?_
      refine x_goto (tgt := 22) rfl rfl ?_
      refine x_zret rfl rfl (by decide) ?_
      show jX m_X12_groundAt 2 0 0 7 [(0, .ref 125)] [.int 1] _ 0 0 _
      refine x_ifne (tgt := 30) rfl rfl (ti_ne jk_1 jk_0 (bn_t (by omega) ?_))
      exact jX.sub (jsb_c rfl jsb_n) (ct_X12_groundAt_r125_30 hD hQ  v1 h (jr_of rfl (by omega)) qv1 J Sm)
def fp_X12_hold_r125 : jFp := [(125, 0, 1), (125, 1, 2), (126, 10, 11), (126, 47900, 48300)]
set_option maxRecDepth 100000 in
set_option maxHeartbeats 4000000 in
theorem ct_X12_hold_r125_20 {Dy : jH → Prop} {h0 : jH} {Q : Option Value → jH → Prop} (hD : jDk Dy) (hQ : ∀ (v : Int32) h', jJ jSgM Dy h' → jSm fp_X12_hold_r125 h0 h' → Q (some (.int v)) h') : ∀ (h : jH), jJ jSgM Dy h → jSm fp_X12_hold_r125 h0 h → jX m_X12_hold 4 0 0 20 [(0, .ref 125)] [] h 0 0 Q := by
  intro  h    J Sm
  refine x_aloadn (x := 125) rfl rfl ?_
  refine x_iconst (v := (-1)) rfl ki_m1 ?_
  refine x_inv (N := m_X12_told) (As := [.int (-1)]) (b := 125) (st := []) (d' := 1) (mc := 0) (ms := 0) (host := "") 12 rfl t_X12_told ⟨Or.inl q_12_197, i_X12_told.1, i_X12_told.2⟩ ⟨by decide, rfl⟩ (congrArg Prod.fst (J.1.1 125 (12, 92) rfl)) rfl (by decide) rfl rfl ⟨by decide, by decide⟩ (sf_X12_told_r125  hD J  (fun v2 h J S1 => ?_))
  have ev2 := jfull v2
  have Sm := jSm_tr rfl Sm S1
  show jX m_X12_hold 4 0 0 25 [(0, .ref 125)] [.int v2] _ 0 0 _
  refine x_iret rfl rfl ?_
  exact hQ _ _ J Sm
set_option maxRecDepth 100000 in
set_option maxHeartbeats 4000000 in
theorem ct_X12_hold_r125_47 {Dy : jH → Prop} {h0 : jH} {Q : Option Value → jH → Prop} (hD : jDk Dy) (hQ : ∀ (v : Int32) h', jJ jSgM Dy h' → jSm fp_X12_hold_r125 h0 h' → Q (some (.int v)) h') : ∀ (h : jH), jJ jSgM Dy h → jSm fp_X12_hold_r125 h0 h → jX m_X12_hold 4 0 0 47 [(0, .ref 125)] [] h 0 0 Q := by
  intro  h    J Sm
  refine x_aloadn (x := 125) rfl rfl ?_
  refine x_bipush (v := (-2)) rfl kb_m2 ?_
  refine x_inv (N := m_X12_told) (As := [.int (-2)]) (b := 125) (st := []) (d' := 1) (mc := 0) (ms := 0) (host := "") 12 rfl t_X12_told ⟨Or.inl q_12_197, i_X12_told.1, i_X12_told.2⟩ ⟨by decide, rfl⟩ (congrArg Prod.fst (J.1.1 125 (12, 92) rfl)) rfl (by decide) rfl rfl ⟨by decide, by decide⟩ (sf_X12_told_r125  hD J  (fun v2 h J S1 => ?_))
  have ev2 := jfull v2
  have Sm := jSm_tr rfl Sm S1
  show jX m_X12_hold 4 0 0 53 [(0, .ref 125)] [.int v2] _ 0 0 _
  refine x_iret rfl rfl ?_
  exact hQ _ _ J Sm
set_option maxRecDepth 100000 in
set_option maxHeartbeats 4000000 in
theorem ct_X12_hold_r125_54 {Dy : jH → Prop} {h0 : jH} {Q : Option Value → jH → Prop} (hD : jDk Dy) (hQ : ∀ (v : Int32) h', jJ jSgM Dy h' → jSm fp_X12_hold_r125 h0 h' → Q (some (.int v)) h') : ∀ (l1 : Int32) (l2 : Int32) (l3 : Int32) (l4 : Int32) (h : jH), 0 ≤ l1.toInt ∧ l1.toInt ≤ 39 → (-1) ≤ l2.toInt ∧ l2.toInt ≤ 599 → 0 ≤ l3.toInt ∧ l3.toInt ≤ 146399 → 0 ≤ l4.toInt ∧ l4.toInt ≤ 146399 → jJ jSgM Dy h → jSm fp_X12_hold_r125 h0 h → jX m_X12_hold 4 0 0 54 [(0, .ref 125), (1, .int l1), (2, .int l2), (3, .int l3), (4, .int l4)] [] h 0 0 Q := by
  intro l1 l2 l3 l4 h y0 y1 y2 y3   J Sm
  refine x_aloadn (x := 125) rfl rfl ?_
  refine z_getR (N := 92) (b := 126) 12 2 rfl f_12_8 rfl J rfl 16002 ⟨rfl, rfl⟩ rfl ?_
  refine x_bipush (v := 10) rfl kb_10 ?_
  refine z_iald (N := 50660) rfl J rfl sg_126_10_11_1_0_1 jk_10 (by omega) (fun v1 qv1 ev1 => ?_)
  refine x_bipush (v := 100) rfl kb_100 ?_
  refine x_icne (tgt := 73) rfl rfl (ti_ne rfl jk_100 ⟨fun c2 => ?_, fun c2 => ?_⟩)
  ·
    refine x_aloadn (x := 125) rfl rfl ?_
    refine x_ldcw (v := 47900) rfl z_12_808 ?_
    refine x_iconst (v := 4) rfl ki_4 ?_
    refine x_aloadn (x := 125) rfl rfl ?_
    refine z_getR (N := 92) (b := 126) 12 2 rfl f_12_8 rfl J rfl 16002 ⟨rfl, rfl⟩ rfl ?_
    refine x_bipush (v := 10) rfl kb_10 ?_
    refine z_ialdM (N := 50660) (v := v1) rfl J rfl jk_10 (by omega) qv1 ?_
    refine z_imul rfl jk_4 rfl (by omega) (fun v3 ev3 => ?_)
    refine z_iadd rfl jk_47900 rfl (by omega) (fun v4 ev4 => ?_)
    refine x_iloadn (x := l1) rfl rfl ?_
    refine x_iloadn (x := l2) rfl rfl ?_
    refine x_iloadn (x := l3) rfl rfl ?_
    refine x_iload (x := l4) rfl rfl ?_
    refine x_inv (N := m_X12_addFour) (As := [.int v4, .int l1, .int l2, .int l3, .int l4]) (b := 125) (st := []) (d' := 3) (mc := 0) (ms := 0) (host := "") 12 rfl t_X12_addFour ⟨Or.inl q_12_814, i_X12_addFour.1, i_X12_addFour.2⟩ ⟨by decide, rfl⟩ (congrArg Prod.fst (J.1.1 125 (12, 92) rfl)) rfl (by decide) rfl rfl ⟨by decide, by decide⟩ (jC.of rfl k_X12_addFour rfl ?_)
    show jX m_X12_addFour 3 0 0 0 [(0, .ref 125), (1, .int v4), (2, .int l1), (3, .int l2), (4, .int l3), (5, .int l4)] [] _ 0 0 _
    refine x_aloadn (x := 125) rfl rfl ?_
    refine z_getR (N := 92) (b := 126) 12 2 rfl f_12_8 rfl J rfl 16002 ⟨rfl, rfl⟩ rfl ?_
    refine x_iloadn (x := v4) rfl rfl ?_
    refine x_iloadn (x := l1) rfl rfl ?_
    refine z_iast (N := 50660) (l := 47900) (u := 48300) (w := l1.toInt) rfl hD J Sm rfl rfl rfl (by omega) rfl (wr_126_47900 (by omega) (fun q1 q2 q3 q4 => by omega) (fun q1 q2 q3 q4 => by omega) (fun q1 q2 q3 q4 => by omega) (fun q1 q2 q3 q4 => by omega)) rfl (fun h w5 J Sm => ?_)
    refine x_aloadn (x := 125) rfl rfl ?_
    refine z_getR (N := 92) (b := 126) 12 2 rfl f_12_8 rfl J rfl 16002 ⟨rfl, rfl⟩ rfl ?_
    refine x_iloadn (x := v4) rfl rfl ?_
    refine x_iconst (v := 1) rfl ki_1 ?_
    refine z_iadd rfl rfl jk_1 (by omega) (fun v6 ev6 => ?_)
    refine x_iloadn (x := l2) rfl rfl ?_
    refine z_iast (N := 50660) (l := 47900) (u := 48300) (w := l2.toInt) rfl hD J Sm rfl rfl rfl (by omega) rfl (wr_126_47900 (by omega) (fun q1 q2 q3 q4 => by omega) (fun q1 q2 q3 q4 => by omega) (fun q1 q2 q3 q4 => by omega) (fun q1 q2 q3 q4 => by omega)) rfl (fun h w7 J Sm => ?_)
    refine x_aloadn (x := 125) rfl rfl ?_
    refine z_getR (N := 92) (b := 126) 12 2 rfl f_12_8 rfl J rfl 16002 ⟨rfl, rfl⟩ rfl ?_
    refine x_iloadn (x := v4) rfl rfl ?_
    refine x_iconst (v := 2) rfl ki_2 ?_
    refine z_iadd rfl rfl jk_2 (by omega) (fun v8 ev8 => ?_)
    refine x_iload (x := l3) rfl rfl ?_
    refine z_iast (N := 50660) (l := 47900) (u := 48300) (w := l3.toInt) rfl hD J Sm rfl rfl rfl (by omega) rfl (wr_126_47900 (by omega) (fun q1 q2 q3 q4 => by omega) (fun q1 q2 q3 q4 => by omega) (fun q1 q2 q3 q4 => by omega) (fun q1 q2 q3 q4 => by omega)) rfl (fun h w9 J Sm => ?_)
    refine x_aloadn (x := 125) rfl rfl ?_
    refine z_getR (N := 92) (b := 126) 12 2 rfl f_12_8 rfl J rfl 16002 ⟨rfl, rfl⟩ rfl ?_
    refine x_iloadn (x := v4) rfl rfl ?_
    refine x_iconst (v := 3) rfl ki_3 ?_
    refine z_iadd rfl rfl jk_3 (by omega) (fun v10 ev10 => ?_)
    refine x_iload (x := l4) rfl rfl ?_
    refine z_iast (N := 50660) (l := 47900) (u := 48300) (w := l4.toInt) rfl hD J Sm rfl rfl rfl (by omega) rfl (wr_126_47900 (by omega) (fun q1 q2 q3 q4 => by omega) (fun q1 q2 q3 q4 => by omega) (fun q1 q2 q3 q4 => by omega) (fun q1 q2 q3 q4 => by omega)) rfl (fun h w11 J Sm => ?_)
    refine x_vret rfl rfl ?_
    show jX m_X12_hold 4 0 0 95 [(0, .ref 125), (1, .int l1), (2, .int l2), (3, .int l3), (4, .int l4)] [] _ 0 0 _
    refine x_aloadn (x := 125) rfl rfl ?_
    refine z_getR (N := 92) (b := 126) 12 2 rfl f_12_8 rfl J rfl 16002 ⟨rfl, rfl⟩ rfl ?_
    refine x_bipush (v := 10) rfl kb_10 ?_
    refine x_dup2 rfl rfl rfl ?_
    refine z_ialdM (N := 50660) (v := v1) rfl J rfl jk_10 (by omega) (jmo2 w11 rfl jk_10 (by omega) (jmo2 w9 rfl jk_10 (by omega) (jmo2 w7 rfl jk_10 (by omega) (jmo2 w5 rfl jk_10 (by omega) qv1)))) ?_
    refine x_iconst (v := 1) rfl ki_1 ?_
    refine z_iadd rfl rfl jk_1 (by omega) (fun v12 ev12 => ?_)
    refine z_iast (N := 50660) (l := 10) (u := 11) (w := v12.toInt) rfl hD J Sm rfl rfl jk_10 (by omega) rfl (wr_126_10 (by omega) (fun q1 q2 q3 q4 => by omega)) rfl (fun h w13 J Sm => ?_)
    refine x_aloadn (x := 125) rfl rfl ?_
    refine x_aloadn (x := 125) rfl rfl ?_
    refine z_getR (N := 92) (b := 126) 12 2 rfl f_12_8 rfl J rfl 16002 ⟨rfl, rfl⟩ rfl ?_
    refine x_bipush (v := 10) rfl kb_10 ?_
    refine z_ialdM (N := 50660) (v := v12) rfl J rfl jk_10 (by omega) (jmw w13) ?_
    refine x_inv (N := m_X12_told) (As := [.int v12]) (b := 125) (st := []) (d' := 1) (mc := 0) (ms := 0) (host := "") 12 rfl t_X12_told ⟨Or.inl q_12_197, i_X12_told.1, i_X12_told.2⟩ ⟨by decide, rfl⟩ (congrArg Prod.fst (J.1.1 125 (12, 92) rfl)) rfl (by decide) rfl rfl ⟨by decide, by decide⟩ (sf_X12_told_r125  hD J  (fun v15 h J S14 => ?_))
    have ev15 := jfull v15
    have Sm := jSm_tr rfl Sm S14
    show jX m_X12_hold 4 0 0 117 [(0, .ref 125), (1, .int l1), (2, .int l2), (3, .int l3), (4, .int l4)] [.int v15] _ 0 0 _
    refine x_iret rfl rfl ?_
    exact hQ _ _ J Sm
  ·
    refine x_aloadn (x := 125) rfl rfl ?_
    refine x_bipush (v := (-5)) rfl kb_m5 ?_
    refine x_inv (N := m_X12_told) (As := [.int (-5)]) (b := 125) (st := []) (d' := 1) (mc := 0) (ms := 0) (host := "") 12 rfl t_X12_told ⟨Or.inl q_12_197, i_X12_told.1, i_X12_told.2⟩ ⟨by decide, rfl⟩ (congrArg Prod.fst (J.1.1 125 (12, 92) rfl)) rfl (by decide) rfl rfl ⟨by decide, by decide⟩ (sf_X12_told_r125  hD J  (fun v17 h J S16 => ?_))
    have ev17 := jfull v17
    have Sm := jSm_tr rfl Sm S16
    show jX m_X12_hold 4 0 0 72 [(0, .ref 125), (1, .int l1), (2, .int l2), (3, .int l3), (4, .int l4)] [.int v17] _ 0 0 _
    refine x_iret rfl rfl ?_
    exact hQ _ _ J Sm
set_option maxRecDepth 100000 in
set_option maxHeartbeats 4000000 in
theorem sf_X12_hold_r125 {Dy : jH → Prop} {h : jH} {Q : Option Value → jH → Prop} {a1 : Int32} {a2 : Int32} {a3 : Int32} {a4 : Int32} (hD : jDk Dy) (J : jJ jSgM Dy h) (hQ : ∀ (v : Int32) h', jJ jSgM Dy h' → jSm fp_X12_hold_r125 h h' → Q (some (.int v)) h') : jC m_X12_hold 4 0 0 [.ref 125, .int a1, .int a2, .int a3, .int a4] h Q := by
  refine jC.of rfl k_X12_hold rfl ?_
  have Sm := jSm_rf fp_X12_hold_r125 h
  have ea1 := jfull a1
  have ea2 := jfull a2
  have ea3 := jfull a3
  have ea4 := jfull a4
  show jX m_X12_hold 4 0 0 0 [(0, .ref 125), (1, .int a1), (2, .int a2), (3, .int a3), (4, .int a4)] [] _ 0 0 _
  refine x_aloadn (x := 125) rfl rfl ?_
  refine x_iconst (v := 0) rfl ki_0 ?_
  refine z_putI (N := 92) (w := 0) 12 0 rfl f_12_180 rfl (jfin_no TX12 RX12 92 rfl rfl) hD J Sm rfl rfl jk_0 (pw_125_0 (by omega)) rfl (fun h w1 J Sm => ?_)
  refine x_iloadn (x := a3) rfl rfl ?_
  refine x_inst (N := m_X12_isDay) (As := [.int a3]) (st := []) (d' := 2) (mc := 0) (ms := 0) (host := "") rfl t_X12_isDay ⟨Or.inl q_12_273, s_X12_isDay⟩ rfl (by decide) rfl rfl ⟨by decide, by decide⟩ (zc_X12_isDay (d := 1) rfl (fun v2 ev2 => ?_))
  show jX m_X12_hold 4 0 0 9 [(0, .ref 125), (1, .int a1), (2, .int a2), (3, .int a3), (4, .int a4)] [.int v2] _ 0 0 _
  refine x_ifeq (tgt := 20) rfl rfl (ti_eq rfl jk_0 ⟨fun c3 => ?_, fun c3 => ?_⟩)
  ·
    exact jX.sub (jsb_c rfl jsb_n) (ct_X12_hold_r125_20 hD hQ  h J Sm)
  ·
    refine x_iload (x := a4) rfl rfl ?_
    refine x_inst (N := m_X12_isDay) (As := [.int a4]) (st := []) (d' := 2) (mc := 0) (ms := 0) (host := "") rfl t_X12_isDay ⟨Or.inl q_12_273, s_X12_isDay⟩ rfl (by decide) rfl rfl ⟨by decide, by decide⟩ (zc_X12_isDay (d := 1) rfl (fun v4 ev4 => ?_))
    show jX m_X12_hold 4 0 0 17 [(0, .ref 125), (1, .int a1), (2, .int a2), (3, .int a3), (4, .int a4)] [.int v4] _ 0 0 _
    refine x_ifne (tgt := 26) rfl rfl (ti_ne rfl jk_0 ⟨fun c5 => ?_, fun c5 => ?_⟩)
    ·
      refine x_aloadn (x := 125) rfl rfl ?_
      refine x_iloadn (x := a1) rfl rfl ?_
      refine x_inv (N := m_X12_isHolding) (As := [.int a1]) (b := 125) (st := []) (d' := 3) (mc := 0) (ms := 0) (host := "") 12 rfl t_X12_isHolding ⟨Or.inl q_12_811, i_X12_isHolding.1, i_X12_isHolding.2⟩ ⟨by decide, rfl⟩ (congrArg Prod.fst (J.1.1 125 (12, 92) rfl)) rfl (by decide) rfl rfl ⟨by decide, by decide⟩ (jC.of rfl k_X12_isHolding rfl ?_)
      show jX m_X12_isHolding 3 0 0 0 [(0, .ref 125), (1, .int a1)] [] _ 0 0 _
      refine x_iloadn (x := a1) rfl rfl ?_
      refine z_i2l rfl rfl (fun v6 ev6 => ?_)
      refine x_lconst (v := 0) rfl kl_0 ?_
      refine x_aloadn (x := 125) rfl rfl ?_
      refine z_getR (N := 92) (b := 126) 12 2 rfl f_12_8 rfl J rfl 16002 ⟨rfl, rfl⟩ rfl ?_
      refine x_bipush (v := 7) rfl kb_7 ?_
      refine z_iald (N := 50660) rfl J rfl sg_126_7_8_1_0_1 jk_7 (by omega) (fun v7 qv7 ev7 => ?_)
      refine z_i2l rfl rfl (fun v8 ev8 => ?_)
      refine x_lconst (v := 1) rfl kl_1 ?_
      refine z_lsub rfl rfl jkl_1 (by omega) (fun v9 ev9 => ?_)
      refine x_inst (N := m_X12_in) (As := [.long v6, .long 0, .long v9]) (st := []) (d' := 1) (mc := 0) (ms := 0) (host := "") rfl t_X12_in ⟨Or.inl q_12_188, s_X12_in⟩ rfl (by decide) rfl rfl ⟨by decide, by decide⟩ (zc_X12_in rfl jkl_0 rfl (fun v10 ev10 => ?_))
      show jX m_X12_isHolding 3 0 0 16 [(0, .ref 125), (1, .int a1)] [.int v10] _ 0 0 _
      refine x_zret rfl rfl (jz01 (by omega)) ?_
      show jX m_X12_hold 4 0 0 31 [(0, .ref 125), (1, .int a1), (2, .int a2), (3, .int a3), (4, .int a4)] [.int v10] _ 0 0 _
      refine x_ifeq (tgt := 47) rfl rfl (ti_eq rfl jk_0 ⟨fun c11 => ?_, fun c11 => ?_⟩)
      ·
        exact jX.sub (jsb_c rfl jsb_n) (ct_X12_hold_r125_47 hD hQ  h J Sm)
      ·
        refine x_iloadn (x := a2) rfl rfl ?_
        refine x_iconst (v := (-1)) rfl ki_m1 ?_
        refine x_iceq (tgt := 54) rfl rfl (ti_eq rfl jk_m1 ⟨fun c12 => ?_, fun c12 => ?_⟩)
        ·
          exact jX.sub (jsb_c rfl (jsb_c rfl (jsb_c rfl (jsb_c rfl (jsb_c rfl jsb_n))))) (ct_X12_hold_r125_54 hD hQ  a1 a2 a3 a4 h (jr_of rfl (by omega)) (jr_of rfl (by omega)) (jr_of rfl (by omega)) (jr_of rfl (by omega)) J Sm)
        ·
          refine x_aloadn (x := 125) rfl rfl ?_
          refine x_iloadn (x := a2) rfl rfl ?_
          refine x_inv (N := m_X12_isMention) (As := [.int a2]) (b := 125) (st := []) (d' := 3) (mc := 0) (ms := 0) (host := "") 12 rfl t_X12_isMention ⟨Or.inl q_12_322, i_X12_isMention.1, i_X12_isMention.2⟩ ⟨by decide, rfl⟩ (congrArg Prod.fst (J.1.1 125 (12, 92) rfl)) rfl (by decide) rfl rfl ⟨by decide, by decide⟩ (jC.of rfl k_X12_isMention rfl ?_)
          show jX m_X12_isMention 3 0 0 0 [(0, .ref 125), (1, .int a2)] [] _ 0 0 _
          refine x_iloadn (x := a2) rfl rfl ?_
          refine x_iflt (tgt := 34) rfl rfl (ti_lt rfl jk_0 ⟨fun c13 => ?_, fun c13 => ?_⟩)
          ·
            refine x_iconst (v := 0) rfl ki_0 ?_
            refine x_zret rfl rfl (by decide) ?_
            show jX m_X12_hold 4 0 0 44 [(0, .ref 125), (1, .int a1), (2, .int a2), (3, .int a3), (4, .int a4)] [.int 0] _ 0 0 _
            refine x_ifne (tgt := 54) rfl rfl (ti_ne jk_0 jk_0 (bn_f (by omega) ?_))
            exact jX.sub (jsb_c rfl jsb_n) (ct_X12_hold_r125_47 hD hQ  h J Sm)
          ·
            refine x_aloadn (x := 125) rfl rfl ?_
            refine x_iloadn (x := a2) rfl rfl ?_
            refine x_iconst (v := 3) rfl ki_3 ?_
            refine z_idiv rfl rfl jk_3 (by omega) (by omega) (fun v14 ev14 => ?_)
            refine x_inv (N := m_X12_isLine) (As := [.int v14]) (b := 125) (st := []) (d' := 2) (mc := 0) (ms := 0) (host := "") 12 rfl t_X12_isLine ⟨Or.inl q_12_293, i_X12_isLine.1, i_X12_isLine.2⟩ ⟨by decide, rfl⟩ (congrArg Prod.fst (J.1.1 125 (12, 92) rfl)) rfl (by decide) rfl rfl ⟨by decide, by decide⟩ (jC.of rfl k_X12_isLine rfl ?_)
            show jX m_X12_isLine 2 0 0 0 [(0, .ref 125), (1, .int v14)] [] _ 0 0 _
            refine x_iloadn (x := v14) rfl rfl ?_
            refine z_i2l rfl rfl (fun v15 ev15 => ?_)
            refine x_lconst (v := 0) rfl kl_0 ?_
            refine x_aloadn (x := 125) rfl rfl ?_
            refine z_getR (N := 92) (b := 126) 12 2 rfl f_12_8 rfl J rfl 16002 ⟨rfl, rfl⟩ rfl ?_
            refine x_iconst (v := 0) rfl ki_0 ?_
            refine z_iald (N := 50660) rfl J rfl sg_126_0_1_1_0_1 jk_0 (by omega) (fun v16 qv16 ev16 => ?_)
            refine z_i2l rfl rfl (fun v17 ev17 => ?_)
            refine x_lconst (v := 1) rfl kl_1 ?_
            refine z_lsub rfl rfl jkl_1 (by omega) (fun v18 ev18 => ?_)
            refine x_inst (N := m_X12_in) (As := [.long v15, .long 0, .long v18]) (st := []) (d' := 1) (mc := 0) (ms := 0) (host := "") rfl t_X12_in ⟨Or.inl q_12_188, s_X12_in⟩ rfl (by decide) rfl rfl ⟨by decide, by decide⟩ (zc_X12_in rfl jkl_0 rfl (fun v19 ev19 => ?_))
            show jX m_X12_isLine 2 0 0 15 [(0, .ref 125), (1, .int v14)] [.int v19] _ 0 0 _
            refine x_zret rfl rfl (jz01 (by omega)) ?_
            show jX m_X12_isMention 3 0 0 11 [(0, .ref 125), (1, .int a2)] [.int v19] _ 0 0 _
            refine x_ifeq (tgt := 34) rfl rfl (ti_eq rfl jk_0 ⟨fun c20 => ?_, fun c20 => ?_⟩)
            ·
              refine x_iconst (v := 0) rfl ki_0 ?_
              refine x_zret rfl rfl (by decide) ?_
              show jX m_X12_hold 4 0 0 44 [(0, .ref 125), (1, .int a1), (2, .int a2), (3, .int a3), (4, .int a4)] [.int 0] _ 0 0 _
              refine x_ifne (tgt := 54) rfl rfl (ti_ne jk_0 jk_0 (bn_f (by omega) ?_))
              exact jX.sub (jsb_c rfl jsb_n) (ct_X12_hold_r125_47 hD hQ  h J Sm)
            ·
              refine x_iloadn (x := a2) rfl rfl ?_
              refine x_iconst (v := 3) rfl ki_3 ?_
              refine z_irem rfl rfl jk_3 (by omega) (by omega) (fun v21 ev21 => ?_)
              refine x_aloadn (x := 125) rfl rfl ?_
              refine x_iloadn (x := a2) rfl rfl ?_
              refine x_iconst (v := 3) rfl ki_3 ?_
              refine z_idiv rfl rfl jk_3 (by omega) (by omega) (fun v22 ev22 => ?_)
              refine x_inv (N := m_X12_bookOf) (As := [.int v22]) (b := 125) (st := [.int v21]) (d' := 2) (mc := 0) (ms := 0) (host := "") 12 rfl t_X12_bookOf ⟨Or.inl q_12_299, i_X12_bookOf.1, i_X12_bookOf.2⟩ ⟨by decide, rfl⟩ (congrArg Prod.fst (J.1.1 125 (12, 92) rfl)) rfl (by decide) rfl rfl ⟨by decide, by decide⟩ (jC.of rfl k_X12_bookOf rfl ?_)
              show jX m_X12_bookOf 2 0 0 0 [(0, .ref 125), (1, .int v22)] [] _ 0 0 _
              refine x_aloadn (x := 125) rfl rfl ?_
              refine z_getR (N := 92) (b := 126) 12 2 rfl f_12_8 rfl J rfl 16002 ⟨rfl, rfl⟩ rfl ?_
              refine x_aloadn (x := 125) rfl rfl ?_
              refine x_iloadn (x := v22) rfl rfl ?_
              refine x_inv (N := m_X12_at) (As := [.int v22]) (b := 125) (st := [.ref 126]) (d' := 1) (mc := 0) (ms := 0) (host := "") 12 rfl t_X12_at ⟨Or.inl q_12_254, i_X12_at.1, i_X12_at.2⟩ ⟨by decide, rfl⟩ (congrArg Prod.fst (J.1.1 125 (12, 92) rfl)) rfl (by decide) rfl rfl ⟨by decide, by decide⟩ (jC.of rfl k_X12_at rfl ?_)
              show jX m_X12_at 1 0 0 0 [(0, .ref 125), (1, .int v22)] [] _ 0 0 _
              refine x_bipush (v := 20) rfl kb_20 ?_
              refine x_bipush (v := 90) rfl kb_90 ?_
              refine x_iloadn (x := v22) rfl rfl ?_
              refine z_imul rfl jk_90 rfl (by omega) (fun v23 ev23 => ?_)
              refine z_iadd rfl jk_20 rfl (by omega) (fun v24 ev24 => ?_)
              refine x_iret rfl rfl ?_
              show jX m_X12_bookOf 2 0 0 9 [(0, .ref 125), (1, .int v22)] [.int v24, .ref 126] _ 0 0 _
              refine z_iald (N := 50660) rfl J rfl sg_126_20_18020_90_0_1 rfl (by omega) (fun v25 qv25 ev25 => ?_)
              refine x_iret rfl rfl ?_
              show jX m_X12_isMention 3 0 0 24 [(0, .ref 125), (1, .int a2)] [.int v25, .int v21] _ 0 0 _
              refine x_inst (N := m_X12_rolesOf) (As := [.int v25]) (st := [.int v21]) (d' := 2) (mc := 0) (ms := 0) (host := "") rfl t_X12_rolesOf ⟨Or.inl q_12_286, s_X12_rolesOf⟩ rfl (by decide) rfl rfl ⟨by decide, by decide⟩ (jC.of rfl k_X12_rolesOf rfl ?_)
              show jX m_X12_rolesOf 2 0 0 0 [(0, .int v25)] [] _ 0 0 _
              refine x_iloadn (x := v25) rfl rfl ?_
              refine x_ifne (tgt := 8) rfl rfl (ti_ne rfl jk_0 ⟨fun c26 => ?_, fun c26 => ?_⟩)
              ·
                refine x_iloadn (x := v25) rfl rfl ?_
                refine x_iconst (v := 1) rfl ki_1 ?_
                refine x_icne (tgt := 17) rfl rfl (ti_ne rfl jk_1 ⟨fun c27 => ?_, fun c27 => ?_⟩)
                ·
                  refine x_iconst (v := 1) rfl ki_1 ?_
                  refine x_iret rfl rfl ?_
                  show jX m_X12_isMention 3 0 0 27 [(0, .ref 125), (1, .int a2)] [.int 1, .int v21] _ 0 0 _
                  refine x_icge (tgt := 34) rfl rfl (ti_ge rfl jk_1 ⟨fun c28 => ?_, fun c28 => ?_⟩)
                  ·
                    refine x_iconst (v := 0) rfl ki_0 ?_
                    refine x_zret rfl rfl (by decide) ?_
                    show jX m_X12_hold 4 0 0 44 [(0, .ref 125), (1, .int a1), (2, .int a2), (3, .int a3), (4, .int a4)] [.int 0] _ 0 0 _
                    refine x_ifne (tgt := 54) rfl rfl (ti_ne jk_0 jk_0 (bn_f (by omega) ?_))
                    exact jX.sub (jsb_c rfl jsb_n) (ct_X12_hold_r125_47 hD hQ  h J Sm)
                  ·
                    refine x_iconst (v := 1) rfl ki_1 ?_
                    refine x_goto (tgt := 35) rfl rfl ?_
                    refine x_zret rfl rfl (by decide) ?_
                    show jX m_X12_hold 4 0 0 44 [(0, .ref 125), (1, .int a1), (2, .int a2), (3, .int a3), (4, .int a4)] [.int 1] _ 0 0 _
                    refine x_ifne (tgt := 54) rfl rfl (ti_ne jk_1 jk_0 (bn_t (by omega) ?_))
                    exact jX.sub (jsb_c rfl (jsb_c rfl (jsb_c rfl (jsb_c rfl (jsb_c rfl jsb_n))))) (ct_X12_hold_r125_54 hD hQ  a1 a2 a3 a4 h (jr_of rfl (by omega)) (jr_of rfl (by omega)) (jr_of rfl (by omega)) (jr_of rfl (by omega)) J Sm)
                ·
                  refine x_iconst (v := 2) rfl ki_2 ?_
                  refine x_goto (tgt := 18) rfl rfl ?_
                  refine x_iret rfl rfl ?_
                  show jX m_X12_isMention 3 0 0 27 [(0, .ref 125), (1, .int a2)] [.int 2, .int v21] _ 0 0 _
                  refine x_icge (tgt := 34) rfl rfl (ti_ge rfl jk_2 ⟨fun c29 => ?_, fun c29 => ?_⟩)
                  ·
                    refine x_iconst (v := 0) rfl ki_0 ?_
                    refine x_zret rfl rfl (by decide) ?_
                    show jX m_X12_hold 4 0 0 44 [(0, .ref 125), (1, .int a1), (2, .int a2), (3, .int a3), (4, .int a4)] [.int 0] _ 0 0 _
                    refine x_ifne (tgt := 54) rfl rfl (ti_ne jk_0 jk_0 (bn_f (by omega) ?_))
                    exact jX.sub (jsb_c rfl jsb_n) (ct_X12_hold_r125_47 hD hQ  h J Sm)
                  ·
                    refine x_iconst (v := 1) rfl ki_1 ?_
                    refine x_goto (tgt := 35) rfl rfl ?_
                    refine x_zret rfl rfl (by decide) ?_
                    show jX m_X12_hold 4 0 0 44 [(0, .ref 125), (1, .int a1), (2, .int a2), (3, .int a3), (4, .int a4)] [.int 1] _ 0 0 _
                    refine x_ifne (tgt := 54) rfl rfl (ti_ne jk_1 jk_0 (bn_t (by omega) ?_))
                    exact jX.sub (jsb_c rfl (jsb_c rfl (jsb_c rfl (jsb_c rfl (jsb_c rfl jsb_n))))) (ct_X12_hold_r125_54 hD hQ  a1 a2 a3 a4 h (jr_of rfl (by omega)) (jr_of rfl (by omega)) (jr_of rfl (by omega)) (jr_of rfl (by omega)) J Sm)
              ·
                refine x_iconst (v := 3) rfl ki_3 ?_
                refine x_goto (tgt := 18) rfl rfl ?_
                refine x_iret rfl rfl ?_
                show jX m_X12_isMention 3 0 0 27 [(0, .ref 125), (1, .int a2)] [.int 3, .int v21] _ 0 0 _
                refine x_icge (tgt := 34) rfl rfl (ti_ge rfl jk_3 (br_f (by omega) ?_))
                refine x_iconst (v := 1) rfl ki_1 ?_
                refine x_goto (tgt := 35) rfl rfl ?_
                refine x_zret rfl rfl (by decide) ?_
                show jX m_X12_hold 4 0 0 44 [(0, .ref 125), (1, .int a1), (2, .int a2), (3, .int a3), (4, .int a4)] [.int 1] _ 0 0 _
                refine x_ifne (tgt := 54) rfl rfl (ti_ne jk_1 jk_0 (bn_t (by omega) ?_))
                exact jX.sub (jsb_c rfl (jsb_c rfl (jsb_c rfl (jsb_c rfl (jsb_c rfl jsb_n))))) (ct_X12_hold_r125_54 hD hQ  a1 a2 a3 a4 h (jr_of rfl (by omega)) (jr_of rfl (by omega)) (jr_of rfl (by omega)) (jr_of rfl (by omega)) J Sm)
    ·
      exact jX.sub (jsb_c rfl jsb_n) (ct_X12_hold_r125_20 hD hQ  h J Sm)
def fp_X12_holding_r125 : jFp := [(125, 0, 1), (125, 1, 2), (126, 7, 8), (126, 16, 17), (126, 49920, 50660)]
set_option maxRecDepth 100000 in
set_option maxHeartbeats 4000000 in
theorem sf_X12_holding_r125 {Dy : jH → Prop} {h : jH} {Q : Option Value → jH → Prop} (hD : jDk Dy) (J : jJ jSgM Dy h) {p0 p1 p2 p3 p4 : Int32} {p5 p6 : Int32} (zp0 : jiv h 126 (16 : Int32).toNatClampNeg = p0) (zp1 : jiv h 126 (0 : Int32).toNatClampNeg = p1) (zp2 : jiv h 126 (4 : Int32).toNatClampNeg = p2) (zp3 : jiv h 126 (5 : Int32).toNatClampNeg = p3) (zp4 : jiv h 126 (7 : Int32).toNatClampNeg = p4) (rl_p0 : p0.toInt = p1.toInt + p2.toInt + p3.toInt + p4.toInt) (zp5 : jiv h 126 (9 : Int32).toNatClampNeg = p5) (zp6 : jiv h 126 (7 : Int32).toNatClampNeg = p6) (rl_p5 : p5.toInt ≤ p6.toInt) (hQ : ∀ (v : Int32) h', jJ jSgM Dy h' → jSm fp_X12_holding_r125 h h' → ∀ u0 u1 u2 u3 u4 : Int32, jiv h' 126 (16 : Int32).toNatClampNeg = u0 → jiv h' 126 (0 : Int32).toNatClampNeg = u1 → jiv h' 126 (4 : Int32).toNatClampNeg = u2 → jiv h' 126 (5 : Int32).toNatClampNeg = u3 → jiv h' 126 (7 : Int32).toNatClampNeg = u4 → u0.toInt = u1.toInt + u2.toInt + u3.toInt + u4.toInt → ∀ u5 u6 : Int32, jiv h' 126 (9 : Int32).toNatClampNeg = u5 → jiv h' 126 (7 : Int32).toNatClampNeg = u6 → u5.toInt ≤ u6.toInt → Q (some (.int v)) h') : jC m_X12_holding 2 0 0 [.ref 125] h Q := by
  refine jC.of rfl k_X12_holding rfl ?_
  have Sm := jSm_rf fp_X12_holding_r125 h
  have ep0 := (show 0 ≤ p0.toInt ∧ p0.toInt ≤ 370 from zp0 ▸ jrg_c J sg_126_16_17_1_0_1 jk_16 (by omega))
  have ep1 := (show 0 ≤ p1.toInt ∧ p1.toInt ≤ 200 from zp1 ▸ jrg_c J sg_126_0_1_1_0_1 jk_0 (by omega))
  have ep2 := (show 0 ≤ p2.toInt ∧ p2.toInt ≤ 30 from zp2 ▸ jrg_c J sg_126_4_5_1_0_1 jk_4 (by omega))
  have ep3 := (show 0 ≤ p3.toInt ∧ p3.toInt ≤ 100 from zp3 ▸ jrg_c J sg_126_5_6_1_0_1 jk_5 (by omega))
  have ep4 := (show 0 ≤ p4.toInt ∧ p4.toInt ≤ 40 from zp4 ▸ jrg_c J sg_126_7_8_1_0_1 jk_7 (by omega))
  have ep5 := (show 0 ≤ p5.toInt ∧ p5.toInt ≤ 40 from zp5 ▸ jrg_c J sg_126_9_10_1_0_1 jk_9 (by omega))
  have ep6 := (show 0 ≤ p6.toInt ∧ p6.toInt ≤ 40 from zp6 ▸ jrg_c J sg_126_7_8_1_0_1 jk_7 (by omega))
  obtain rfl : p4 = p6 := zp4.symm.trans zp6
  show jX m_X12_holding 2 0 0 0 [(0, .ref 125)] [] _ 0 0 _
  refine x_aloadn (x := 125) rfl rfl ?_
  refine x_iconst (v := 0) rfl ki_0 ?_
  refine z_putI (N := 92) (w := 0) 12 0 rfl f_12_180 rfl (jfin_no TX12 RX12 92 rfl rfl) hD J Sm rfl rfl jk_0 (pw_125_0 (by omega)) rfl (fun h w1 J Sm => ?_)
  refine x_aloadn (x := 125) rfl rfl ?_
  refine z_getR (N := 92) (b := 126) 12 2 rfl f_12_8 rfl J rfl 16002 ⟨rfl, rfl⟩ rfl ?_
  refine x_bipush (v := 7) rfl kb_7 ?_
  refine z_ialdM (N := 50660) (v := p4) rfl J rfl jk_7 (by omega) (jmo w1 rfl zp4) ?_
  refine x_bipush (v := 40) rfl kb_40 ?_
  refine x_icne (tgt := 24) rfl rfl (ti_ne rfl jk_40 ⟨fun c2 => ?_, fun c2 => ?_⟩)
  ·
    refine x_aloadn (x := 125) rfl rfl ?_
    refine z_getR (N := 92) (b := 126) 12 2 rfl f_12_8 rfl J rfl 16002 ⟨rfl, rfl⟩ rfl ?_
    refine x_bipush (v := 7) rfl kb_7 ?_
    refine x_dup2 rfl rfl rfl ?_
    refine z_ialdM (N := 50660) (v := p4) rfl J rfl jk_7 (by omega) (jmo w1 rfl zp4) ?_
    refine x_iconst (v := 1) rfl ki_1 ?_
    refine z_iadd rfl rfl jk_1 (by omega) (fun v3 ev3 => ?_)
    refine z_iast (N := 50660) (l := 7) (u := 8) (w := v3.toInt) rfl hD J Sm rfl rfl jk_7 (by omega) rfl (wr_126_7 (by omega) (fun q1 q2 q3 q4 => by omega)) rfl (fun h w4 J Sm => ?_)
    refine x_aloadn (x := 125) rfl rfl ?_
    refine x_iconst (v := 3) rfl ki_3 ?_
    refine x_aloadn (x := 125) rfl rfl ?_
    refine z_getR (N := 92) (b := 126) 12 2 rfl f_12_8 rfl J rfl 16002 ⟨rfl, rfl⟩ rfl ?_
    refine x_bipush (v := 7) rfl kb_7 ?_
    refine z_ialdM (N := 50660) (v := v3) rfl J rfl jk_7 (by omega) (jmw w4) ?_
    refine x_iconst (v := 1) rfl ki_1 ?_
    refine z_isub rfl rfl jk_1 (by omega) (fun v5 ev5 => ?_)
    refine x_inv (N := m_X12_thing) (As := [.int 3, .int v5]) (b := 125) (st := []) (d' := 1) (mc := 0) (ms := 0) (host := "") 12 rfl t_X12_thing ⟨Or.inl q_12_289, i_X12_thing.1, i_X12_thing.2⟩ ⟨by decide, rfl⟩ (congrArg Prod.fst (J.1.1 125 (12, 92) rfl)) rfl (by decide) rfl rfl ⟨by decide, by decide⟩ (jC.of rfl k_X12_thing rfl ?_)
    show jX m_X12_thing 1 0 0 0 [(0, .ref 125), (1, .int 3), (2, .int v5)] [] _ 0 0 _
    refine x_ldc (v := 49920) rfl z_12_194 ?_
    refine x_iconst (v := 2) rfl ki_2 ?_
    refine x_aloadn (x := 125) rfl rfl ?_
    refine z_getR (N := 92) (b := 126) 12 2 rfl f_12_8 rfl J rfl 16002 ⟨rfl, rfl⟩ rfl ?_
    refine x_bipush (v := 16) rfl kb_16 ?_
    refine z_ialdM (N := 50660) (v := p0) rfl J rfl jk_16 (by omega) (jmo2 w4 jk_7 jk_16 (by omega) (jmo w1 rfl zp0)) ?_
    refine z_imul rfl jk_2 rfl (by omega) (fun v6 ev6 => ?_)
    refine z_iadd rfl jk_49920 rfl (by omega) (fun v7 ev7 => ?_)
    refine x_istoren (ls' := [(3, .int v7), (0, .ref 125), (1, .int 3), (2, .int v5)]) rfl rfl rfl ?_
    refine x_aloadn (x := 125) rfl rfl ?_
    refine z_getR (N := 92) (b := 126) 12 2 rfl f_12_8 rfl J rfl 16002 ⟨rfl, rfl⟩ rfl ?_
    refine x_iloadn (x := v7) rfl rfl ?_
    refine x_iloadn (x := 3) rfl rfl ?_
    refine z_iast (N := 50660) (l := 49920) (u := 50660) (w := 3) rfl hD J Sm rfl rfl rfl (by omega) jk_3 (wr_126_49920 (by omega) (fun q1 q2 q3 q4 => by omega) (fun q1 q2 q3 q4 => by omega)) rfl (fun h w8 J Sm => ?_)
    refine x_aloadn (x := 125) rfl rfl ?_
    refine z_getR (N := 92) (b := 126) 12 2 rfl f_12_8 rfl J rfl 16002 ⟨rfl, rfl⟩ rfl ?_
    refine x_iloadn (x := v7) rfl rfl ?_
    refine x_iconst (v := 1) rfl ki_1 ?_
    refine z_iadd rfl rfl jk_1 (by omega) (fun v9 ev9 => ?_)
    refine x_iloadn (x := v5) rfl rfl ?_
    refine z_iast (N := 50660) (l := 49920) (u := 50660) (w := v5.toInt) rfl hD J Sm rfl rfl rfl (by omega) rfl (wr_126_49920 (by omega) (fun q1 q2 q3 q4 => by omega) (fun q1 q2 q3 q4 => by omega)) rfl (fun h w10 J Sm => ?_)
    refine x_aloadn (x := 125) rfl rfl ?_
    refine z_getR (N := 92) (b := 126) 12 2 rfl f_12_8 rfl J rfl 16002 ⟨rfl, rfl⟩ rfl ?_
    refine x_bipush (v := 16) rfl kb_16 ?_
    refine x_dup2 rfl rfl rfl ?_
    refine z_ialdM (N := 50660) (v := p0) rfl J rfl jk_16 (by omega) (jmo2 w10 rfl jk_16 (by omega) (jmo2 w8 rfl jk_16 (by omega) (jmo2 w4 jk_7 jk_16 (by omega) (jmo w1 rfl zp0)))) ?_
    refine x_iconst (v := 1) rfl ki_1 ?_
    refine z_iadd rfl rfl jk_1 (by omega) (fun v11 ev11 => ?_)
    refine z_iast (N := 50660) (l := 16) (u := 17) (w := v11.toInt) rfl hD J Sm rfl rfl jk_16 (by omega) rfl (wr_126_16 (by omega) (fun q1 q2 q3 q4 => by omega)) rfl (fun h w12 J Sm => ?_)
    refine x_vret rfl rfl ?_
    show jX m_X12_holding 2 0 0 49 [(0, .ref 125)] [] _ 0 0 _
    refine x_aloadn (x := 125) rfl rfl ?_
    refine x_aloadn (x := 125) rfl rfl ?_
    refine z_getR (N := 92) (b := 126) 12 2 rfl f_12_8 rfl J rfl 16002 ⟨rfl, rfl⟩ rfl ?_
    refine x_bipush (v := 7) rfl kb_7 ?_
    refine z_ialdM (N := 50660) (v := v3) rfl J rfl jk_7 (by omega) (jmo2 w12 jk_16 jk_7 (by omega) (jmo2 w10 rfl jk_7 (by omega) (jmo2 w8 rfl jk_7 (by omega) (jmw w4)))) ?_
    refine x_iconst (v := 1) rfl ki_1 ?_
    refine z_isub rfl rfl jk_1 (by omega) (fun v13 ev13 => ?_)
    refine x_inv (N := m_X12_told) (As := [.int v13]) (b := 125) (st := []) (d' := 1) (mc := 0) (ms := 0) (host := "") 12 rfl t_X12_told ⟨Or.inl q_12_197, i_X12_told.1, i_X12_told.2⟩ ⟨by decide, rfl⟩ (congrArg Prod.fst (J.1.1 125 (12, 92) rfl)) rfl (by decide) rfl rfl ⟨by decide, by decide⟩ (sf_X12_told_r125  hD J  (fun v15 h J S14 => ?_))
    have ev15 := jfull v15
    have Sm := jSm_tr rfl Sm S14
    show jX m_X12_holding 2 0 0 62 [(0, .ref 125)] [.int v15] _ 0 0 _
    refine x_iret rfl rfl ?_
    exact hQ _ _ J Sm _ _ _ _ _ (jmc S14 rfl (jmw w12)) (jmc S14 rfl (jmo2 w12 jk_16 jk_0 (by omega) (jmo2 w10 rfl jk_0 (by omega) (jmo2 w8 rfl jk_0 (by omega) (jmo2 w4 jk_7 jk_0 (by omega) (jmo w1 rfl zp1)))))) (jmc S14 rfl (jmo2 w12 jk_16 jk_4 (by omega) (jmo2 w10 rfl jk_4 (by omega) (jmo2 w8 rfl jk_4 (by omega) (jmo2 w4 jk_7 jk_4 (by omega) (jmo w1 rfl zp2)))))) (jmc S14 rfl (jmo2 w12 jk_16 jk_5 (by omega) (jmo2 w10 rfl jk_5 (by omega) (jmo2 w8 rfl jk_5 (by omega) (jmo2 w4 jk_7 jk_5 (by omega) (jmo w1 rfl zp3)))))) (jmc S14 rfl (jmo2 w12 jk_16 jk_7 (by omega) (jmo2 w10 rfl jk_7 (by omega) (jmo2 w8 rfl jk_7 (by omega) (jmw w4))))) (by omega) _ _ (jmc S14 rfl (jmo2 w12 jk_16 jk_9 (by omega) (jmo2 w10 rfl jk_9 (by omega) (jmo2 w8 rfl jk_9 (by omega) (jmo2 w4 jk_7 jk_9 (by omega) (jmo w1 rfl zp5)))))) (jmc S14 rfl (jmo2 w12 jk_16 jk_7 (by omega) (jmo2 w10 rfl jk_7 (by omega) (jmo2 w8 rfl jk_7 (by omega) (jmw w4))))) (by omega)
  ·
    refine x_aloadn (x := 125) rfl rfl ?_
    refine x_bipush (v := (-5)) rfl kb_m5 ?_
    refine x_inv (N := m_X12_told) (As := [.int (-5)]) (b := 125) (st := []) (d' := 1) (mc := 0) (ms := 0) (host := "") 12 rfl t_X12_told ⟨Or.inl q_12_197, i_X12_told.1, i_X12_told.2⟩ ⟨by decide, rfl⟩ (congrArg Prod.fst (J.1.1 125 (12, 92) rfl)) rfl (by decide) rfl rfl ⟨by decide, by decide⟩ (sf_X12_told_r125  hD J  (fun v17 h J S16 => ?_))
    have ev17 := jfull v17
    have Sm := jSm_tr rfl Sm S16
    show jX m_X12_holding 2 0 0 23 [(0, .ref 125)] [.int v17] _ 0 0 _
    refine x_iret rfl rfl ?_
    exact hQ _ _ J Sm _ _ _ _ _ (jmc S16 rfl (jmo w1 rfl zp0)) (jmc S16 rfl (jmo w1 rfl zp1)) (jmc S16 rfl (jmo w1 rfl zp2)) (jmc S16 rfl (jmo w1 rfl zp3)) (jmc S16 rfl (jmo w1 rfl zp4)) (by omega) _ _ (jmc S16 rfl (jmo w1 rfl zp5)) (jmc S16 rfl (jmo w1 rfl zp4)) (by omega)
def fp_X12_kindAt_r125 : jFp := []
set_option maxRecDepth 100000 in
set_option maxHeartbeats 4000000 in
theorem ct_X12_kindAt_r125_400059 {Dy : jH → Prop} {h0 : jH} {Q : Option Value → jH → Prop} (hD : jDk Dy) (hQ : ∀ (v : Int32) h', (-1) ≤ v.toInt ∧ v.toInt ≤ 8 → jJ jSgM Dy h' → jSm fp_X12_kindAt_r125 h0 h' → Q (some (.int v)) h') : ∀ (h : jH), jJ jSgM Dy h → jSm fp_X12_kindAt_r125 h0 h → jX m_X12_kindAt 2 0 0 59 [] [.int 2] h 0 0 Q := by
  intro  h    J Sm
  refine x_iret rfl rfl ?_
  exact hQ _ _ (jr_of jk_2 (by omega)) J Sm
set_option maxRecDepth 100000 in
set_option maxHeartbeats 4000000 in
theorem ct_X12_kindAt_r125_300059 {Dy : jH → Prop} {h0 : jH} {Q : Option Value → jH → Prop} (hD : jDk Dy) (hQ : ∀ (v : Int32) h', (-1) ≤ v.toInt ∧ v.toInt ≤ 8 → jJ jSgM Dy h' → jSm fp_X12_kindAt_r125 h0 h' → Q (some (.int v)) h') : ∀ (h : jH), jJ jSgM Dy h → jSm fp_X12_kindAt_r125 h0 h → jX m_X12_kindAt 2 0 0 59 [] [.int 1] h 0 0 Q := by
  intro  h    J Sm
  refine x_iret rfl rfl ?_
  exact hQ _ _ (jr_of jk_1 (by omega)) J Sm
set_option maxRecDepth 100000 in
set_option maxHeartbeats 4000000 in
theorem ct_X12_kindAt_r125_200059 {Dy : jH → Prop} {h0 : jH} {Q : Option Value → jH → Prop} (hD : jDk Dy) (hQ : ∀ (v : Int32) h', (-1) ≤ v.toInt ∧ v.toInt ≤ 8 → jJ jSgM Dy h' → jSm fp_X12_kindAt_r125 h0 h' → Q (some (.int v)) h') : ∀ (h : jH), jJ jSgM Dy h → jSm fp_X12_kindAt_r125 h0 h → jX m_X12_kindAt 2 0 0 59 [] [.int 0] h 0 0 Q := by
  intro  h    J Sm
  refine x_iret rfl rfl ?_
  exact hQ _ _ (jr_of jk_0 (by omega)) J Sm
set_option maxRecDepth 100000 in
set_option maxHeartbeats 4000000 in
theorem ct_X12_kindAt_r125_30 {Dy : jH → Prop} {h0 : jH} {Q : Option Value → jH → Prop} (hD : jDk Dy) (hQ : ∀ (v : Int32) h', (-1) ≤ v.toInt ∧ v.toInt ≤ 8 → jJ jSgM Dy h' → jSm fp_X12_kindAt_r125 h0 h' → Q (some (.int v)) h') : ∀ (g0 : Int32) (h : jH), 1 ≤ g0.toInt ∧ g0.toInt ≤ 1 → jiv h 125 11 = g0 → jJ jSgM Dy h → jSm fp_X12_kindAt_r125 h0 h → jX m_X12_kindAt 2 0 0 30 [(0, .ref 125)] [] h 0 0 Q := by
  intro g0 h y0 z0  J Sm
  refine x_aloadn (x := 125) rfl rfl ?_
  refine x_ldc2 (v := 659105125) rfl z_12_615 ?_
  refine x_inv (N := m_X12_isWord) (As := [.long 659105125]) (b := 125) (st := []) (d' := 1) (mc := 0) (ms := 0) (host := "") 12 rfl t_X12_isWord ⟨Or.inl q_12_511, i_X12_isWord.1, i_X12_isWord.2⟩ ⟨by decide, rfl⟩ (congrArg Prod.fst (J.1.1 125 (12, 92) rfl)) rfl (by decide) rfl rfl ⟨by decide, by decide⟩ (jC.of rfl k_X12_isWord rfl ?_)
  show jX m_X12_isWord 1 0 0 0 [(0, .ref 125), (1, .long 659105125)] [] _ 0 0 _
  refine x_aloadn (x := 125) rfl rfl ?_
  refine z_getM (N := 92) (v := g0) 12 11 rfl f_12_235 rfl J rfl z0 ?_
  refine x_iconst (v := 1) rfl ki_1 ?_
  refine x_icne (tgt := 21) rfl rfl (ti_ne rfl jk_1 (bn_f (by omega) ?_))
  refine x_aloadn (x := 125) rfl rfl ?_
  refine z_getL0 (N := 92) 12 12 rfl f_12_224 rfl J rfl (fun v1 => ?_)
  have ev1 := jfullL v1
  refine x_lloadn (x := 659105125) rfl rfl ?_
  refine z_lcmp rfl rfl jkl_659105125 (fun v2 ev2 => ?_)
  refine x_ifne (tgt := 21) rfl rfl (ti_ne rfl jk_0 ⟨fun c3 => ?_, fun c3 => ?_⟩)
  ·
    refine x_iconst (v := 0) rfl ki_0 ?_
    refine x_zret rfl rfl (by decide) ?_
    show jX m_X12_kindAt 2 0 0 37 [(0, .ref 125)] [.int 0] _ 0 0 _
    refine x_ifeq (tgt := 44) rfl rfl (ti_eq jk_0 jk_0 (br_t (by omega) ?_))
    refine x_aloadn (x := 125) rfl rfl ?_
    refine x_ldc2 (v := 72760775) rfl z_12_617 ?_
    refine x_inv (N := m_X12_isWord) (As := [.long 72760775]) (b := 125) (st := []) (d' := 1) (mc := 0) (ms := 0) (host := "") 12 rfl t_X12_isWord ⟨Or.inl q_12_511, i_X12_isWord.1, i_X12_isWord.2⟩ ⟨by decide, rfl⟩ (congrArg Prod.fst (J.1.1 125 (12, 92) rfl)) rfl (by decide) rfl rfl ⟨by decide, by decide⟩ (jC.of rfl k_X12_isWord rfl ?_)
    show jX m_X12_isWord 1 0 0 0 [(0, .ref 125), (1, .long 72760775)] [] _ 0 0 _
    refine x_aloadn (x := 125) rfl rfl ?_
    refine z_getM (N := 92) (v := g0) 12 11 rfl f_12_235 rfl J rfl z0 ?_
    refine x_iconst (v := 1) rfl ki_1 ?_
    refine x_icne (tgt := 21) rfl rfl (ti_ne rfl jk_1 (bn_f (by omega) ?_))
    refine x_aloadn (x := 125) rfl rfl ?_
    refine z_getL0 (N := 92) 12 12 rfl f_12_224 rfl J rfl (fun v4 => ?_)
    have ev4 := jfullL v4
    refine x_lloadn (x := 72760775) rfl rfl ?_
    refine z_lcmp rfl rfl jkl_72760775 (fun v5 ev5 => ?_)
    refine x_ifne (tgt := 21) rfl rfl (ti_ne rfl jk_0 ⟨fun c6 => ?_, fun c6 => ?_⟩)
    ·
      refine x_iconst (v := 0) rfl ki_0 ?_
      refine x_zret rfl rfl (by decide) ?_
      show jX m_X12_kindAt 2 0 0 51 [(0, .ref 125)] [.int 0] _ 0 0 _
      refine x_ifeq (tgt := 58) rfl rfl (ti_eq jk_0 jk_0 (br_t (by omega) ?_))
      refine x_iconst (v := 2) rfl ki_2 ?_
      exact jX.sub jsb_n (ct_X12_kindAt_r125_400059 hD hQ  h J Sm)
    ·
      refine x_iconst (v := 1) rfl ki_1 ?_
      refine x_goto (tgt := 22) rfl rfl ?_
      refine x_zret rfl rfl (by decide) ?_
      show jX m_X12_kindAt 2 0 0 51 [(0, .ref 125)] [.int 1] _ 0 0 _
      refine x_ifeq (tgt := 58) rfl rfl (ti_eq jk_1 jk_0 (br_f (by omega) ?_))
      refine x_iconst (v := 1) rfl ki_1 ?_
      refine x_goto (tgt := 59) rfl rfl ?_
      exact jX.sub jsb_n (ct_X12_kindAt_r125_300059 hD hQ  h J Sm)
  ·
    refine x_iconst (v := 1) rfl ki_1 ?_
    refine x_goto (tgt := 22) rfl rfl ?_
    refine x_zret rfl rfl (by decide) ?_
    show jX m_X12_kindAt 2 0 0 37 [(0, .ref 125)] [.int 1] _ 0 0 _
    refine x_ifeq (tgt := 44) rfl rfl (ti_eq jk_1 jk_0 (br_f (by omega) ?_))
    refine x_iconst (v := 0) rfl ki_0 ?_
    refine x_goto (tgt := 59) rfl rfl ?_
    exact jX.sub jsb_n (ct_X12_kindAt_r125_200059 hD hQ  h J Sm)
set_option maxRecDepth 100000 in
set_option maxHeartbeats 4000000 in
theorem ct_X12_kindAt_r125_700119 {Dy : jH → Prop} {h0 : jH} {Q : Option Value → jH → Prop} (hD : jDk Dy) (hQ : ∀ (v : Int32) h', (-1) ≤ v.toInt ∧ v.toInt ≤ 8 → jJ jSgM Dy h' → jSm fp_X12_kindAt_r125 h0 h' → Q (some (.int v)) h') : ∀ (h : jH), jJ jSgM Dy h → jSm fp_X12_kindAt_r125 h0 h → jX m_X12_kindAt 2 0 0 119 [] [.int 5] h 0 0 Q := by
  intro  h    J Sm
  refine x_iret rfl rfl ?_
  exact hQ _ _ (jr_of jk_5 (by omega)) J Sm
set_option maxRecDepth 100000 in
set_option maxHeartbeats 4000000 in
theorem ct_X12_kindAt_r125_600119 {Dy : jH → Prop} {h0 : jH} {Q : Option Value → jH → Prop} (hD : jDk Dy) (hQ : ∀ (v : Int32) h', (-1) ≤ v.toInt ∧ v.toInt ≤ 8 → jJ jSgM Dy h' → jSm fp_X12_kindAt_r125 h0 h' → Q (some (.int v)) h') : ∀ (h : jH), jJ jSgM Dy h → jSm fp_X12_kindAt_r125 h0 h → jX m_X12_kindAt 2 0 0 119 [] [.int 4] h 0 0 Q := by
  intro  h    J Sm
  refine x_iret rfl rfl ?_
  exact hQ _ _ (jr_of jk_4 (by omega)) J Sm
set_option maxRecDepth 100000 in
set_option maxHeartbeats 4000000 in
theorem ct_X12_kindAt_r125_500119 {Dy : jH → Prop} {h0 : jH} {Q : Option Value → jH → Prop} (hD : jDk Dy) (hQ : ∀ (v : Int32) h', (-1) ≤ v.toInt ∧ v.toInt ≤ 8 → jJ jSgM Dy h' → jSm fp_X12_kindAt_r125 h0 h' → Q (some (.int v)) h') : ∀ (h : jH), jJ jSgM Dy h → jSm fp_X12_kindAt_r125 h0 h → jX m_X12_kindAt 2 0 0 119 [] [.int 3] h 0 0 Q := by
  intro  h    J Sm
  refine x_iret rfl rfl ?_
  exact hQ _ _ (jr_of jk_3 (by omega)) J Sm
set_option maxRecDepth 100000 in
set_option maxHeartbeats 4000000 in
theorem ct_X12_kindAt_r125_90 {Dy : jH → Prop} {h0 : jH} {Q : Option Value → jH → Prop} (hD : jDk Dy) (hQ : ∀ (v : Int32) h', (-1) ≤ v.toInt ∧ v.toInt ≤ 8 → jJ jSgM Dy h' → jSm fp_X12_kindAt_r125 h0 h' → Q (some (.int v)) h') : ∀ (g0 : Int32) (h : jH), 1 ≤ g0.toInt ∧ g0.toInt ≤ 1 → jiv h 125 11 = g0 → jJ jSgM Dy h → jSm fp_X12_kindAt_r125 h0 h → jX m_X12_kindAt 2 0 0 90 [(0, .ref 125)] [] h 0 0 Q := by
  intro g0 h y0 z0  J Sm
  refine x_aloadn (x := 125) rfl rfl ?_
  refine x_ldc2 (v := 591493) rfl z_12_621 ?_
  refine x_inv (N := m_X12_isWord) (As := [.long 591493]) (b := 125) (st := []) (d' := 1) (mc := 0) (ms := 0) (host := "") 12 rfl t_X12_isWord ⟨Or.inl q_12_511, i_X12_isWord.1, i_X12_isWord.2⟩ ⟨by decide, rfl⟩ (congrArg Prod.fst (J.1.1 125 (12, 92) rfl)) rfl (by decide) rfl rfl ⟨by decide, by decide⟩ (jC.of rfl k_X12_isWord rfl ?_)
  show jX m_X12_isWord 1 0 0 0 [(0, .ref 125), (1, .long 591493)] [] _ 0 0 _
  refine x_aloadn (x := 125) rfl rfl ?_
  refine z_getM (N := 92) (v := g0) 12 11 rfl f_12_235 rfl J rfl z0 ?_
  refine x_iconst (v := 1) rfl ki_1 ?_
  refine x_icne (tgt := 21) rfl rfl (ti_ne rfl jk_1 (bn_f (by omega) ?_))
  refine x_aloadn (x := 125) rfl rfl ?_
  refine z_getL0 (N := 92) 12 12 rfl f_12_224 rfl J rfl (fun v1 => ?_)
  have ev1 := jfullL v1
  refine x_lloadn (x := 591493) rfl rfl ?_
  refine z_lcmp rfl rfl jkl_591493 (fun v2 ev2 => ?_)
  refine x_ifne (tgt := 21) rfl rfl (ti_ne rfl jk_0 ⟨fun c3 => ?_, fun c3 => ?_⟩)
  ·
    refine x_iconst (v := 0) rfl ki_0 ?_
    refine x_zret rfl rfl (by decide) ?_
    show jX m_X12_kindAt 2 0 0 97 [(0, .ref 125)] [.int 0] _ 0 0 _
    refine x_ifeq (tgt := 104) rfl rfl (ti_eq jk_0 jk_0 (br_t (by omega) ?_))
    refine x_aloadn (x := 125) rfl rfl ?_
    refine x_ldc2 (v := 609625254) rfl z_12_623 ?_
    refine x_inv (N := m_X12_isWord) (As := [.long 609625254]) (b := 125) (st := []) (d' := 1) (mc := 0) (ms := 0) (host := "") 12 rfl t_X12_isWord ⟨Or.inl q_12_511, i_X12_isWord.1, i_X12_isWord.2⟩ ⟨by decide, rfl⟩ (congrArg Prod.fst (J.1.1 125 (12, 92) rfl)) rfl (by decide) rfl rfl ⟨by decide, by decide⟩ (jC.of rfl k_X12_isWord rfl ?_)
    show jX m_X12_isWord 1 0 0 0 [(0, .ref 125), (1, .long 609625254)] [] _ 0 0 _
    refine x_aloadn (x := 125) rfl rfl ?_
    refine z_getM (N := 92) (v := g0) 12 11 rfl f_12_235 rfl J rfl z0 ?_
    refine x_iconst (v := 1) rfl ki_1 ?_
    refine x_icne (tgt := 21) rfl rfl (ti_ne rfl jk_1 (bn_f (by omega) ?_))
    refine x_aloadn (x := 125) rfl rfl ?_
    refine z_getL0 (N := 92) 12 12 rfl f_12_224 rfl J rfl (fun v4 => ?_)
    have ev4 := jfullL v4
    refine x_lloadn (x := 609625254) rfl rfl ?_
    refine z_lcmp rfl rfl jkl_609625254 (fun v5 ev5 => ?_)
    refine x_ifne (tgt := 21) rfl rfl (ti_ne rfl jk_0 ⟨fun c6 => ?_, fun c6 => ?_⟩)
    ·
      refine x_iconst (v := 0) rfl ki_0 ?_
      refine x_zret rfl rfl (by decide) ?_
      show jX m_X12_kindAt 2 0 0 111 [(0, .ref 125)] [.int 0] _ 0 0 _
      refine x_ifeq (tgt := 118) rfl rfl (ti_eq jk_0 jk_0 (br_t (by omega) ?_))
      refine x_iconst (v := 5) rfl ki_5 ?_
      exact jX.sub jsb_n (ct_X12_kindAt_r125_700119 hD hQ  h J Sm)
    ·
      refine x_iconst (v := 1) rfl ki_1 ?_
      refine x_goto (tgt := 22) rfl rfl ?_
      refine x_zret rfl rfl (by decide) ?_
      show jX m_X12_kindAt 2 0 0 111 [(0, .ref 125)] [.int 1] _ 0 0 _
      refine x_ifeq (tgt := 118) rfl rfl (ti_eq jk_1 jk_0 (br_f (by omega) ?_))
      refine x_iconst (v := 4) rfl ki_4 ?_
      refine x_goto (tgt := 119) rfl rfl ?_
      exact jX.sub jsb_n (ct_X12_kindAt_r125_600119 hD hQ  h J Sm)
  ·
    refine x_iconst (v := 1) rfl ki_1 ?_
    refine x_goto (tgt := 22) rfl rfl ?_
    refine x_zret rfl rfl (by decide) ?_
    show jX m_X12_kindAt 2 0 0 97 [(0, .ref 125)] [.int 1] _ 0 0 _
    refine x_ifeq (tgt := 104) rfl rfl (ti_eq jk_1 jk_0 (br_f (by omega) ?_))
    refine x_iconst (v := 3) rfl ki_3 ?_
    refine x_goto (tgt := 119) rfl rfl ?_
    exact jX.sub jsb_n (ct_X12_kindAt_r125_500119 hD hQ  h J Sm)
set_option maxRecDepth 100000 in
set_option maxHeartbeats 4000000 in
theorem ct_X12_kindAt_r125_100166 {Dy : jH → Prop} {h0 : jH} {Q : Option Value → jH → Prop} (hD : jDk Dy) (hQ : ∀ (v : Int32) h', (-1) ≤ v.toInt ∧ v.toInt ≤ 8 → jJ jSgM Dy h' → jSm fp_X12_kindAt_r125 h0 h' → Q (some (.int v)) h') : ∀ (h : jH), jJ jSgM Dy h → jSm fp_X12_kindAt_r125 h0 h → jX m_X12_kindAt 2 0 0 166 [] [.int (-1)] h 0 0 Q := by
  intro  h    J Sm
  refine x_iret rfl rfl ?_
  exact hQ _ _ (jr_of jk_m1 (by omega)) J Sm
set_option maxRecDepth 100000 in
set_option maxHeartbeats 4000000 in
theorem ct_X12_kindAt_r125_1000166 {Dy : jH → Prop} {h0 : jH} {Q : Option Value → jH → Prop} (hD : jDk Dy) (hQ : ∀ (v : Int32) h', (-1) ≤ v.toInt ∧ v.toInt ≤ 8 → jJ jSgM Dy h' → jSm fp_X12_kindAt_r125 h0 h' → Q (some (.int v)) h') : ∀ (h : jH), jJ jSgM Dy h → jSm fp_X12_kindAt_r125 h0 h → jX m_X12_kindAt 2 0 0 166 [] [.int 8] h 0 0 Q := by
  intro  h    J Sm
  refine x_iret rfl rfl ?_
  exact hQ _ _ (jr_of jk_8 (by omega)) J Sm
set_option maxRecDepth 100000 in
set_option maxHeartbeats 4000000 in
theorem ct_X12_kindAt_r125_900166 {Dy : jH → Prop} {h0 : jH} {Q : Option Value → jH → Prop} (hD : jDk Dy) (hQ : ∀ (v : Int32) h', (-1) ≤ v.toInt ∧ v.toInt ≤ 8 → jJ jSgM Dy h' → jSm fp_X12_kindAt_r125 h0 h' → Q (some (.int v)) h') : ∀ (h : jH), jJ jSgM Dy h → jSm fp_X12_kindAt_r125 h0 h → jX m_X12_kindAt 2 0 0 166 [] [.int 7] h 0 0 Q := by
  intro  h    J Sm
  refine x_iret rfl rfl ?_
  exact hQ _ _ (jr_of jk_7 (by omega)) J Sm
set_option maxRecDepth 100000 in
set_option maxHeartbeats 4000000 in
theorem ct_X12_kindAt_r125_800166 {Dy : jH → Prop} {h0 : jH} {Q : Option Value → jH → Prop} (hD : jDk Dy) (hQ : ∀ (v : Int32) h', (-1) ≤ v.toInt ∧ v.toInt ≤ 8 → jJ jSgM Dy h' → jSm fp_X12_kindAt_r125 h0 h' → Q (some (.int v)) h') : ∀ (h : jH), jJ jSgM Dy h → jSm fp_X12_kindAt_r125 h0 h → jX m_X12_kindAt 2 0 0 166 [] [.int 6] h 0 0 Q := by
  intro  h    J Sm
  refine x_iret rfl rfl ?_
  exact hQ _ _ (jr_of jk_6 (by omega)) J Sm
set_option maxRecDepth 100000 in
set_option maxHeartbeats 4000000 in
theorem sf_X12_kindAt_r125 {Dy : jH → Prop} {h : jH} {Q : Option Value → jH → Prop} (hD : jDk Dy) (J : jJ jSgM Dy h) (hQ : ∀ (v : Int32) h', (-1) ≤ v.toInt ∧ v.toInt ≤ 8 → jJ jSgM Dy h' → jSm fp_X12_kindAt_r125 h h' → Q (some (.int v)) h') : jC m_X12_kindAt 2 0 0 [.ref 125] h Q := by
  refine jC.of rfl k_X12_kindAt rfl ?_
  have Sm := jSm_rf fp_X12_kindAt_r125 h
  show jX m_X12_kindAt 2 0 0 0 [(0, .ref 125)] [] _ 0 0 _
  refine x_aloadn (x := 125) rfl rfl ?_
  refine x_ldc2 (v := 659105125) rfl z_12_615 ?_
  refine x_inv (N := m_X12_isWord) (As := [.long 659105125]) (b := 125) (st := []) (d' := 1) (mc := 0) (ms := 0) (host := "") 12 rfl t_X12_isWord ⟨Or.inl q_12_511, i_X12_isWord.1, i_X12_isWord.2⟩ ⟨by decide, rfl⟩ (congrArg Prod.fst (J.1.1 125 (12, 92) rfl)) rfl (by decide) rfl rfl ⟨by decide, by decide⟩ (jC.of rfl k_X12_isWord rfl ?_)
  show jX m_X12_isWord 1 0 0 0 [(0, .ref 125), (1, .long 659105125)] [] _ 0 0 _
  refine x_aloadn (x := 125) rfl rfl ?_
  refine z_getI (N := 92) 12 11 rfl f_12_235 rfl J rfl sg_125_11_12_1_0_1 (fun v1 qv1 ev1 => ?_)
  refine x_iconst (v := 1) rfl ki_1 ?_
  refine x_icne (tgt := 21) rfl rfl (ti_ne rfl jk_1 ⟨fun c2 => ?_, fun c2 => ?_⟩)
  ·
    refine x_iconst (v := 0) rfl ki_0 ?_
    refine x_zret rfl rfl (by decide) ?_
    show jX m_X12_kindAt 2 0 0 7 [(0, .ref 125)] [.int 0] _ 0 0 _
    refine x_ifne (tgt := 30) rfl rfl (ti_ne jk_0 jk_0 (bn_f (by omega) ?_))
    refine x_aloadn (x := 125) rfl rfl ?_
    refine x_ldc2 (v := 72760775) rfl z_12_617 ?_
    refine x_inv (N := m_X12_isWord) (As := [.long 72760775]) (b := 125) (st := []) (d' := 1) (mc := 0) (ms := 0) (host := "") 12 rfl t_X12_isWord ⟨Or.inl q_12_511, i_X12_isWord.1, i_X12_isWord.2⟩ ⟨by decide, rfl⟩ (congrArg Prod.fst (J.1.1 125 (12, 92) rfl)) rfl (by decide) rfl rfl ⟨by decide, by decide⟩ (jC.of rfl k_X12_isWord rfl ?_)
    show jX m_X12_isWord 1 0 0 0 [(0, .ref 125), (1, .long 72760775)] [] _ 0 0 _
    refine x_aloadn (x := 125) rfl rfl ?_
    refine z_getM (N := 92) (v := v1) 12 11 rfl f_12_235 rfl J rfl qv1 ?_
    refine x_iconst (v := 1) rfl ki_1 ?_
    refine x_icne (tgt := 21) rfl rfl (ti_ne rfl jk_1 ⟨fun c3 => ?_, fun c3 => ?_⟩)
    ·
      refine x_iconst (v := 0) rfl ki_0 ?_
      refine x_zret rfl rfl (by decide) ?_
      show jX m_X12_kindAt 2 0 0 17 [(0, .ref 125)] [.int 0] _ 0 0 _
      refine x_ifne (tgt := 30) rfl rfl (ti_ne jk_0 jk_0 (bn_f (by omega) ?_))
      refine x_aloadn (x := 125) rfl rfl ?_
      refine x_ldc2 (v := 193115668) rfl z_12_619 ?_
      refine x_inv (N := m_X12_isWord) (As := [.long 193115668]) (b := 125) (st := []) (d' := 1) (mc := 0) (ms := 0) (host := "") 12 rfl t_X12_isWord ⟨Or.inl q_12_511, i_X12_isWord.1, i_X12_isWord.2⟩ ⟨by decide, rfl⟩ (congrArg Prod.fst (J.1.1 125 (12, 92) rfl)) rfl (by decide) rfl rfl ⟨by decide, by decide⟩ (jC.of rfl k_X12_isWord rfl ?_)
      show jX m_X12_isWord 1 0 0 0 [(0, .ref 125), (1, .long 193115668)] [] _ 0 0 _
      refine x_aloadn (x := 125) rfl rfl ?_
      refine z_getM (N := 92) (v := v1) 12 11 rfl f_12_235 rfl J rfl qv1 ?_
      refine x_iconst (v := 1) rfl ki_1 ?_
      refine x_icne (tgt := 21) rfl rfl (ti_ne rfl jk_1 ⟨fun c4 => ?_, fun c4 => ?_⟩)
      ·
        refine x_iconst (v := 0) rfl ki_0 ?_
        refine x_zret rfl rfl (by decide) ?_
        show jX m_X12_kindAt 2 0 0 27 [(0, .ref 125)] [.int 0] _ 0 0 _
        refine x_ifeq (tgt := 60) rfl rfl (ti_eq jk_0 jk_0 (br_t (by omega) ?_))
        refine x_aloadn (x := 125) rfl rfl ?_
        refine x_ldc2 (v := 591493) rfl z_12_621 ?_
        refine x_inv (N := m_X12_isWord) (As := [.long 591493]) (b := 125) (st := []) (d' := 1) (mc := 0) (ms := 0) (host := "") 12 rfl t_X12_isWord ⟨Or.inl q_12_511, i_X12_isWord.1, i_X12_isWord.2⟩ ⟨by decide, rfl⟩ (congrArg Prod.fst (J.1.1 125 (12, 92) rfl)) rfl (by decide) rfl rfl ⟨by decide, by decide⟩ (jC.of rfl k_X12_isWord rfl ?_)
        show jX m_X12_isWord 1 0 0 0 [(0, .ref 125), (1, .long 591493)] [] _ 0 0 _
        refine x_aloadn (x := 125) rfl rfl ?_
        refine z_getM (N := 92) (v := v1) 12 11 rfl f_12_235 rfl J rfl qv1 ?_
        refine x_iconst (v := 1) rfl ki_1 ?_
        refine x_icne (tgt := 21) rfl rfl (ti_ne rfl jk_1 ⟨fun c5 => ?_, fun c5 => ?_⟩)
        ·
          refine x_iconst (v := 0) rfl ki_0 ?_
          refine x_zret rfl rfl (by decide) ?_
          show jX m_X12_kindAt 2 0 0 67 [(0, .ref 125)] [.int 0] _ 0 0 _
          refine x_ifne (tgt := 90) rfl rfl (ti_ne jk_0 jk_0 (bn_f (by omega) ?_))
          refine x_aloadn (x := 125) rfl rfl ?_
          refine x_ldc2 (v := 609625254) rfl z_12_623 ?_
          refine x_inv (N := m_X12_isWord) (As := [.long 609625254]) (b := 125) (st := []) (d' := 1) (mc := 0) (ms := 0) (host := "") 12 rfl t_X12_isWord ⟨Or.inl q_12_511, i_X12_isWord.1, i_X12_isWord.2⟩ ⟨by decide, rfl⟩ (congrArg Prod.fst (J.1.1 125 (12, 92) rfl)) rfl (by decide) rfl rfl ⟨by decide, by decide⟩ (jC.of rfl k_X12_isWord rfl ?_)
          show jX m_X12_isWord 1 0 0 0 [(0, .ref 125), (1, .long 609625254)] [] _ 0 0 _
          refine x_aloadn (x := 125) rfl rfl ?_
          refine z_getM (N := 92) (v := v1) 12 11 rfl f_12_235 rfl J rfl qv1 ?_
          refine x_iconst (v := 1) rfl ki_1 ?_
          refine x_icne (tgt := 21) rfl rfl (ti_ne rfl jk_1 ⟨fun c6 => ?_, fun c6 => ?_⟩)
          ·
            refine x_iconst (v := 0) rfl ki_0 ?_
            refine x_zret rfl rfl (by decide) ?_
            show jX m_X12_kindAt 2 0 0 77 [(0, .ref 125)] [.int 0] _ 0 0 _
            refine x_ifne (tgt := 90) rfl rfl (ti_ne jk_0 jk_0 (bn_f (by omega) ?_))
            refine x_aloadn (x := 125) rfl rfl ?_
            refine x_ldc2 (v := 2134245) rfl z_12_625 ?_
            refine x_inv (N := m_X12_isWord) (As := [.long 2134245]) (b := 125) (st := []) (d' := 1) (mc := 0) (ms := 0) (host := "") 12 rfl t_X12_isWord ⟨Or.inl q_12_511, i_X12_isWord.1, i_X12_isWord.2⟩ ⟨by decide, rfl⟩ (congrArg Prod.fst (J.1.1 125 (12, 92) rfl)) rfl (by decide) rfl rfl ⟨by decide, by decide⟩ (jC.of rfl k_X12_isWord rfl ?_)
            show jX m_X12_isWord 1 0 0 0 [(0, .ref 125), (1, .long 2134245)] [] _ 0 0 _
            refine x_aloadn (x := 125) rfl rfl ?_
            refine z_getM (N := 92) (v := v1) 12 11 rfl f_12_235 rfl J rfl qv1 ?_
            refine x_iconst (v := 1) rfl ki_1 ?_
            refine x_icne (tgt := 21) rfl rfl (ti_ne rfl jk_1 ⟨fun c7 => ?_, fun c7 => ?_⟩)
            ·
              refine x_iconst (v := 0) rfl ki_0 ?_
              refine x_zret rfl rfl (by decide) ?_
              show jX m_X12_kindAt 2 0 0 87 [(0, .ref 125)] [.int 0] _ 0 0 _
              refine x_ifeq (tgt := 120) rfl rfl (ti_eq jk_0 jk_0 (br_t (by omega) ?_))
              refine x_aloadn (x := 125) rfl rfl ?_
              refine x_ldc2 (v := 677454) rfl z_12_627 ?_
              refine x_inv (N := m_X12_isWord) (As := [.long 677454]) (b := 125) (st := []) (d' := 1) (mc := 0) (ms := 0) (host := "") 12 rfl t_X12_isWord ⟨Or.inl q_12_511, i_X12_isWord.1, i_X12_isWord.2⟩ ⟨by decide, rfl⟩ (congrArg Prod.fst (J.1.1 125 (12, 92) rfl)) rfl (by decide) rfl rfl ⟨by decide, by decide⟩ (jC.of rfl k_X12_isWord rfl ?_)
              show jX m_X12_isWord 1 0 0 0 [(0, .ref 125), (1, .long 677454)] [] _ 0 0 _
              refine x_aloadn (x := 125) rfl rfl ?_
              refine z_getM (N := 92) (v := v1) 12 11 rfl f_12_235 rfl J rfl qv1 ?_
              refine x_iconst (v := 1) rfl ki_1 ?_
              refine x_icne (tgt := 21) rfl rfl (ti_ne rfl jk_1 ⟨fun c8 => ?_, fun c8 => ?_⟩)
              ·
                refine x_iconst (v := 0) rfl ki_0 ?_
                refine x_zret rfl rfl (by decide) ?_
                show jX m_X12_kindAt 2 0 0 127 [(0, .ref 125)] [.int 0] _ 0 0 _
                refine x_ifeq (tgt := 135) rfl rfl (ti_eq jk_0 jk_0 (br_t (by omega) ?_))
                refine x_aloadn (x := 125) rfl rfl ?_
                refine x_ldc2 (v := 6309) rfl z_12_629 ?_
                refine x_inv (N := m_X12_isWord) (As := [.long 6309]) (b := 125) (st := []) (d' := 1) (mc := 0) (ms := 0) (host := "") 12 rfl t_X12_isWord ⟨Or.inl q_12_511, i_X12_isWord.1, i_X12_isWord.2⟩ ⟨by decide, rfl⟩ (congrArg Prod.fst (J.1.1 125 (12, 92) rfl)) rfl (by decide) rfl rfl ⟨by decide, by decide⟩ (jC.of rfl k_X12_isWord rfl ?_)
                show jX m_X12_isWord 1 0 0 0 [(0, .ref 125), (1, .long 6309)] [] _ 0 0 _
                refine x_aloadn (x := 125) rfl rfl ?_
                refine z_getM (N := 92) (v := v1) 12 11 rfl f_12_235 rfl J rfl qv1 ?_
                refine x_iconst (v := 1) rfl ki_1 ?_
                refine x_icne (tgt := 21) rfl rfl (ti_ne rfl jk_1 ⟨fun c9 => ?_, fun c9 => ?_⟩)
                ·
                  refine x_iconst (v := 0) rfl ki_0 ?_
                  refine x_zret rfl rfl (by decide) ?_
                  show jX m_X12_kindAt 2 0 0 142 [(0, .ref 125)] [.int 0] _ 0 0 _
                  refine x_ifeq (tgt := 150) rfl rfl (ti_eq jk_0 jk_0 (br_t (by omega) ?_))
                  refine x_aloadn (x := 125) rfl rfl ?_
                  refine x_ldc2 (v := 627764) rfl z_12_631 ?_
                  refine x_inv (N := m_X12_isWord) (As := [.long 627764]) (b := 125) (st := []) (d' := 1) (mc := 0) (ms := 0) (host := "") 12 rfl t_X12_isWord ⟨Or.inl q_12_511, i_X12_isWord.1, i_X12_isWord.2⟩ ⟨by decide, rfl⟩ (congrArg Prod.fst (J.1.1 125 (12, 92) rfl)) rfl (by decide) rfl rfl ⟨by decide, by decide⟩ (jC.of rfl k_X12_isWord rfl ?_)
                  show jX m_X12_isWord 1 0 0 0 [(0, .ref 125), (1, .long 627764)] [] _ 0 0 _
                  refine x_aloadn (x := 125) rfl rfl ?_
                  refine z_getM (N := 92) (v := v1) 12 11 rfl f_12_235 rfl J rfl qv1 ?_
                  refine x_iconst (v := 1) rfl ki_1 ?_
                  refine x_icne (tgt := 21) rfl rfl (ti_ne rfl jk_1 ⟨fun c10 => ?_, fun c10 => ?_⟩)
                  ·
                    refine x_iconst (v := 0) rfl ki_0 ?_
                    refine x_zret rfl rfl (by decide) ?_
                    show jX m_X12_kindAt 2 0 0 157 [(0, .ref 125)] [.int 0] _ 0 0 _
                    refine x_ifeq (tgt := 165) rfl rfl (ti_eq jk_0 jk_0 (br_t (by omega) ?_))
                    refine x_iconst (v := (-1)) rfl ki_m1 ?_
                    exact jX.sub jsb_n (ct_X12_kindAt_r125_100166 hD hQ  h J Sm)
                  ·
                    refine x_aloadn (x := 125) rfl rfl ?_
                    refine z_getL0 (N := 92) 12 12 rfl f_12_224 rfl J rfl (fun v11 => ?_)
                    have ev11 := jfullL v11
                    refine x_lloadn (x := 627764) rfl rfl ?_
                    refine z_lcmp rfl rfl jkl_627764 (fun v12 ev12 => ?_)
                    refine x_ifne (tgt := 21) rfl rfl (ti_ne rfl jk_0 ⟨fun c13 => ?_, fun c13 => ?_⟩)
                    ·
                      refine x_iconst (v := 0) rfl ki_0 ?_
                      refine x_zret rfl rfl (by decide) ?_
                      show jX m_X12_kindAt 2 0 0 157 [(0, .ref 125)] [.int 0] _ 0 0 _
                      refine x_ifeq (tgt := 165) rfl rfl (ti_eq jk_0 jk_0 (br_t (by omega) ?_))
                      refine x_iconst (v := (-1)) rfl ki_m1 ?_
                      exact jX.sub jsb_n (ct_X12_kindAt_r125_100166 hD hQ  h J Sm)
                    ·
                      refine x_iconst (v := 1) rfl ki_1 ?_
                      refine x_goto (tgt := 22) rfl rfl ?_
                      refine x_zret rfl rfl (by decide) ?_
                      show jX m_X12_kindAt 2 0 0 157 [(0, .ref 125)] [.int 1] _ 0 0 _
                      refine x_ifeq (tgt := 165) rfl rfl (ti_eq jk_1 jk_0 (br_f (by omega) ?_))
                      refine x_bipush (v := 8) rfl kb_8 ?_
                      refine x_goto (tgt := 166) rfl rfl ?_
                      exact jX.sub jsb_n (ct_X12_kindAt_r125_1000166 hD hQ  h J Sm)
                ·
                  refine x_aloadn (x := 125) rfl rfl ?_
                  refine z_getL0 (N := 92) 12 12 rfl f_12_224 rfl J rfl (fun v14 => ?_)
                  have ev14 := jfullL v14
                  refine x_lloadn (x := 6309) rfl rfl ?_
                  refine z_lcmp rfl rfl jkl_6309 (fun v15 ev15 => ?_)
                  refine x_ifne (tgt := 21) rfl rfl (ti_ne rfl jk_0 ⟨fun c16 => ?_, fun c16 => ?_⟩)
                  ·
                    refine x_iconst (v := 0) rfl ki_0 ?_
                    refine x_zret rfl rfl (by decide) ?_
                    show jX m_X12_kindAt 2 0 0 142 [(0, .ref 125)] [.int 0] _ 0 0 _
                    refine x_ifeq (tgt := 150) rfl rfl (ti_eq jk_0 jk_0 (br_t (by omega) ?_))
                    refine x_aloadn (x := 125) rfl rfl ?_
                    refine x_ldc2 (v := 627764) rfl z_12_631 ?_
                    refine x_inv (N := m_X12_isWord) (As := [.long 627764]) (b := 125) (st := []) (d' := 1) (mc := 0) (ms := 0) (host := "") 12 rfl t_X12_isWord ⟨Or.inl q_12_511, i_X12_isWord.1, i_X12_isWord.2⟩ ⟨by decide, rfl⟩ (congrArg Prod.fst (J.1.1 125 (12, 92) rfl)) rfl (by decide) rfl rfl ⟨by decide, by decide⟩ (jC.of rfl k_X12_isWord rfl ?_)
                    show jX m_X12_isWord 1 0 0 0 [(0, .ref 125), (1, .long 627764)] [] _ 0 0 _
                    refine x_aloadn (x := 125) rfl rfl ?_
                    refine z_getM (N := 92) (v := v1) 12 11 rfl f_12_235 rfl J rfl qv1 ?_
                    refine x_iconst (v := 1) rfl ki_1 ?_
                    refine x_icne (tgt := 21) rfl rfl (ti_ne rfl jk_1 (bn_f (by omega) ?_))
                    refine x_aloadn (x := 125) rfl rfl ?_
                    refine z_getL0 (N := 92) 12 12 rfl f_12_224 rfl J rfl (fun v17 => ?_)
                    have ev17 := jfullL v17
                    refine x_lloadn (x := 627764) rfl rfl ?_
                    refine z_lcmp rfl rfl jkl_627764 (fun v18 ev18 => ?_)
                    refine x_ifne (tgt := 21) rfl rfl (ti_ne rfl jk_0 ⟨fun c19 => ?_, fun c19 => ?_⟩)
                    ·
                      refine x_iconst (v := 0) rfl ki_0 ?_
                      refine x_zret rfl rfl (by decide) ?_
                      show jX m_X12_kindAt 2 0 0 157 [(0, .ref 125)] [.int 0] _ 0 0 _
                      refine x_ifeq (tgt := 165) rfl rfl (ti_eq jk_0 jk_0 (br_t (by omega) ?_))
                      refine x_iconst (v := (-1)) rfl ki_m1 ?_
                      exact jX.sub jsb_n (ct_X12_kindAt_r125_100166 hD hQ  h J Sm)
                    ·
                      refine x_iconst (v := 1) rfl ki_1 ?_
                      refine x_goto (tgt := 22) rfl rfl ?_
                      refine x_zret rfl rfl (by decide) ?_
                      show jX m_X12_kindAt 2 0 0 157 [(0, .ref 125)] [.int 1] _ 0 0 _
                      refine x_ifeq (tgt := 165) rfl rfl (ti_eq jk_1 jk_0 (br_f (by omega) ?_))
                      refine x_bipush (v := 8) rfl kb_8 ?_
                      refine x_goto (tgt := 166) rfl rfl ?_
                      exact jX.sub jsb_n (ct_X12_kindAt_r125_1000166 hD hQ  h J Sm)
                  ·
                    refine x_iconst (v := 1) rfl ki_1 ?_
                    refine x_goto (tgt := 22) rfl rfl ?_
                    refine x_zret rfl rfl (by decide) ?_
                    show jX m_X12_kindAt 2 0 0 142 [(0, .ref 125)] [.int 1] _ 0 0 _
                    refine x_ifeq (tgt := 150) rfl rfl (ti_eq jk_1 jk_0 (br_f (by omega) ?_))
                    refine x_bipush (v := 7) rfl kb_7 ?_
                    refine x_goto (tgt := 166) rfl rfl ?_
                    exact jX.sub jsb_n (ct_X12_kindAt_r125_900166 hD hQ  h J Sm)
              ·
                refine x_aloadn (x := 125) rfl rfl ?_
                refine z_getL0 (N := 92) 12 12 rfl f_12_224 rfl J rfl (fun v20 => ?_)
                have ev20 := jfullL v20
                refine x_lloadn (x := 677454) rfl rfl ?_
                refine z_lcmp rfl rfl jkl_677454 (fun v21 ev21 => ?_)
                refine x_ifne (tgt := 21) rfl rfl (ti_ne rfl jk_0 ⟨fun c22 => ?_, fun c22 => ?_⟩)
                ·
                  refine x_iconst (v := 0) rfl ki_0 ?_
                  refine x_zret rfl rfl (by decide) ?_
                  show jX m_X12_kindAt 2 0 0 127 [(0, .ref 125)] [.int 0] _ 0 0 _
                  refine x_ifeq (tgt := 135) rfl rfl (ti_eq jk_0 jk_0 (br_t (by omega) ?_))
                  refine x_aloadn (x := 125) rfl rfl ?_
                  refine x_ldc2 (v := 6309) rfl z_12_629 ?_
                  refine x_inv (N := m_X12_isWord) (As := [.long 6309]) (b := 125) (st := []) (d' := 1) (mc := 0) (ms := 0) (host := "") 12 rfl t_X12_isWord ⟨Or.inl q_12_511, i_X12_isWord.1, i_X12_isWord.2⟩ ⟨by decide, rfl⟩ (congrArg Prod.fst (J.1.1 125 (12, 92) rfl)) rfl (by decide) rfl rfl ⟨by decide, by decide⟩ (jC.of rfl k_X12_isWord rfl ?_)
                  show jX m_X12_isWord 1 0 0 0 [(0, .ref 125), (1, .long 6309)] [] _ 0 0 _
                  refine x_aloadn (x := 125) rfl rfl ?_
                  refine z_getM (N := 92) (v := v1) 12 11 rfl f_12_235 rfl J rfl qv1 ?_
                  refine x_iconst (v := 1) rfl ki_1 ?_
                  refine x_icne (tgt := 21) rfl rfl (ti_ne rfl jk_1 (bn_f (by omega) ?_))
                  refine x_aloadn (x := 125) rfl rfl ?_
                  refine z_getL0 (N := 92) 12 12 rfl f_12_224 rfl J rfl (fun v23 => ?_)
                  have ev23 := jfullL v23
                  refine x_lloadn (x := 6309) rfl rfl ?_
                  refine z_lcmp rfl rfl jkl_6309 (fun v24 ev24 => ?_)
                  refine x_ifne (tgt := 21) rfl rfl (ti_ne rfl jk_0 ⟨fun c25 => ?_, fun c25 => ?_⟩)
                  ·
                    refine x_iconst (v := 0) rfl ki_0 ?_
                    refine x_zret rfl rfl (by decide) ?_
                    show jX m_X12_kindAt 2 0 0 142 [(0, .ref 125)] [.int 0] _ 0 0 _
                    refine x_ifeq (tgt := 150) rfl rfl (ti_eq jk_0 jk_0 (br_t (by omega) ?_))
                    refine x_aloadn (x := 125) rfl rfl ?_
                    refine x_ldc2 (v := 627764) rfl z_12_631 ?_
                    refine x_inv (N := m_X12_isWord) (As := [.long 627764]) (b := 125) (st := []) (d' := 1) (mc := 0) (ms := 0) (host := "") 12 rfl t_X12_isWord ⟨Or.inl q_12_511, i_X12_isWord.1, i_X12_isWord.2⟩ ⟨by decide, rfl⟩ (congrArg Prod.fst (J.1.1 125 (12, 92) rfl)) rfl (by decide) rfl rfl ⟨by decide, by decide⟩ (jC.of rfl k_X12_isWord rfl ?_)
                    show jX m_X12_isWord 1 0 0 0 [(0, .ref 125), (1, .long 627764)] [] _ 0 0 _
                    refine x_aloadn (x := 125) rfl rfl ?_
                    refine z_getM (N := 92) (v := v1) 12 11 rfl f_12_235 rfl J rfl qv1 ?_
                    refine x_iconst (v := 1) rfl ki_1 ?_
                    refine x_icne (tgt := 21) rfl rfl (ti_ne rfl jk_1 (bn_f (by omega) ?_))
                    refine x_aloadn (x := 125) rfl rfl ?_
                    refine z_getL0 (N := 92) 12 12 rfl f_12_224 rfl J rfl (fun v26 => ?_)
                    have ev26 := jfullL v26
                    refine x_lloadn (x := 627764) rfl rfl ?_
                    refine z_lcmp rfl rfl jkl_627764 (fun v27 ev27 => ?_)
                    refine x_ifne (tgt := 21) rfl rfl (ti_ne rfl jk_0 ⟨fun c28 => ?_, fun c28 => ?_⟩)
                    ·
                      refine x_iconst (v := 0) rfl ki_0 ?_
                      refine x_zret rfl rfl (by decide) ?_
                      show jX m_X12_kindAt 2 0 0 157 [(0, .ref 125)] [.int 0] _ 0 0 _
                      refine x_ifeq (tgt := 165) rfl rfl (ti_eq jk_0 jk_0 (br_t (by omega) ?_))
                      refine x_iconst (v := (-1)) rfl ki_m1 ?_
                      exact jX.sub jsb_n (ct_X12_kindAt_r125_100166 hD hQ  h J Sm)
                    ·
                      refine x_iconst (v := 1) rfl ki_1 ?_
                      refine x_goto (tgt := 22) rfl rfl ?_
                      refine x_zret rfl rfl (by decide) ?_
                      show jX m_X12_kindAt 2 0 0 157 [(0, .ref 125)] [.int 1] _ 0 0 _
                      refine x_ifeq (tgt := 165) rfl rfl (ti_eq jk_1 jk_0 (br_f (by omega) ?_))
                      refine x_bipush (v := 8) rfl kb_8 ?_
                      refine x_goto (tgt := 166) rfl rfl ?_
                      exact jX.sub jsb_n (ct_X12_kindAt_r125_1000166 hD hQ  h J Sm)
                  ·
                    refine x_iconst (v := 1) rfl ki_1 ?_
                    refine x_goto (tgt := 22) rfl rfl ?_
                    refine x_zret rfl rfl (by decide) ?_
                    show jX m_X12_kindAt 2 0 0 142 [(0, .ref 125)] [.int 1] _ 0 0 _
                    refine x_ifeq (tgt := 150) rfl rfl (ti_eq jk_1 jk_0 (br_f (by omega) ?_))
                    refine x_bipush (v := 7) rfl kb_7 ?_
                    refine x_goto (tgt := 166) rfl rfl ?_
                    exact jX.sub jsb_n (ct_X12_kindAt_r125_900166 hD hQ  h J Sm)
                ·
                  refine x_iconst (v := 1) rfl ki_1 ?_
                  refine x_goto (tgt := 22) rfl rfl ?_
                  refine x_zret rfl rfl (by decide) ?_
                  show jX m_X12_kindAt 2 0 0 127 [(0, .ref 125)] [.int 1] _ 0 0 _
                  refine x_ifeq (tgt := 135) rfl rfl (ti_eq jk_1 jk_0 (br_f (by omega) ?_))
                  refine x_bipush (v := 6) rfl kb_6 ?_
                  refine x_goto (tgt := 166) rfl rfl ?_
                  exact jX.sub jsb_n (ct_X12_kindAt_r125_800166 hD hQ  h J Sm)
            ·
              refine x_aloadn (x := 125) rfl rfl ?_
              refine z_getL0 (N := 92) 12 12 rfl f_12_224 rfl J rfl (fun v29 => ?_)
              have ev29 := jfullL v29
              refine x_lloadn (x := 2134245) rfl rfl ?_
              refine z_lcmp rfl rfl jkl_2134245 (fun v30 ev30 => ?_)
              refine x_ifne (tgt := 21) rfl rfl (ti_ne rfl jk_0 ⟨fun c31 => ?_, fun c31 => ?_⟩)
              ·
                refine x_iconst (v := 0) rfl ki_0 ?_
                refine x_zret rfl rfl (by decide) ?_
                show jX m_X12_kindAt 2 0 0 87 [(0, .ref 125)] [.int 0] _ 0 0 _
                refine x_ifeq (tgt := 120) rfl rfl (ti_eq jk_0 jk_0 (br_t (by omega) ?_))
                refine x_aloadn (x := 125) rfl rfl ?_
                refine x_ldc2 (v := 677454) rfl z_12_627 ?_
                refine x_inv (N := m_X12_isWord) (As := [.long 677454]) (b := 125) (st := []) (d' := 1) (mc := 0) (ms := 0) (host := "") 12 rfl t_X12_isWord ⟨Or.inl q_12_511, i_X12_isWord.1, i_X12_isWord.2⟩ ⟨by decide, rfl⟩ (congrArg Prod.fst (J.1.1 125 (12, 92) rfl)) rfl (by decide) rfl rfl ⟨by decide, by decide⟩ (jC.of rfl k_X12_isWord rfl ?_)
                show jX m_X12_isWord 1 0 0 0 [(0, .ref 125), (1, .long 677454)] [] _ 0 0 _
                refine x_aloadn (x := 125) rfl rfl ?_
                refine z_getM (N := 92) (v := v1) 12 11 rfl f_12_235 rfl J rfl qv1 ?_
                refine x_iconst (v := 1) rfl ki_1 ?_
                refine x_icne (tgt := 21) rfl rfl (ti_ne rfl jk_1 (bn_f (by omega) ?_))
                refine x_aloadn (x := 125) rfl rfl ?_
                refine z_getL0 (N := 92) 12 12 rfl f_12_224 rfl J rfl (fun v32 => ?_)
                have ev32 := jfullL v32
                refine x_lloadn (x := 677454) rfl rfl ?_
                refine z_lcmp rfl rfl jkl_677454 (fun v33 ev33 => ?_)
                refine x_ifne (tgt := 21) rfl rfl (ti_ne rfl jk_0 ⟨fun c34 => ?_, fun c34 => ?_⟩)
                ·
                  refine x_iconst (v := 0) rfl ki_0 ?_
                  refine x_zret rfl rfl (by decide) ?_
                  show jX m_X12_kindAt 2 0 0 127 [(0, .ref 125)] [.int 0] _ 0 0 _
                  refine x_ifeq (tgt := 135) rfl rfl (ti_eq jk_0 jk_0 (br_t (by omega) ?_))
                  refine x_aloadn (x := 125) rfl rfl ?_
                  refine x_ldc2 (v := 6309) rfl z_12_629 ?_
                  refine x_inv (N := m_X12_isWord) (As := [.long 6309]) (b := 125) (st := []) (d' := 1) (mc := 0) (ms := 0) (host := "") 12 rfl t_X12_isWord ⟨Or.inl q_12_511, i_X12_isWord.1, i_X12_isWord.2⟩ ⟨by decide, rfl⟩ (congrArg Prod.fst (J.1.1 125 (12, 92) rfl)) rfl (by decide) rfl rfl ⟨by decide, by decide⟩ (jC.of rfl k_X12_isWord rfl ?_)
                  show jX m_X12_isWord 1 0 0 0 [(0, .ref 125), (1, .long 6309)] [] _ 0 0 _
                  refine x_aloadn (x := 125) rfl rfl ?_
                  refine z_getM (N := 92) (v := v1) 12 11 rfl f_12_235 rfl J rfl qv1 ?_
                  refine x_iconst (v := 1) rfl ki_1 ?_
                  refine x_icne (tgt := 21) rfl rfl (ti_ne rfl jk_1 (bn_f (by omega) ?_))
                  refine x_aloadn (x := 125) rfl rfl ?_
                  refine z_getL0 (N := 92) 12 12 rfl f_12_224 rfl J rfl (fun v35 => ?_)
                  have ev35 := jfullL v35
                  refine x_lloadn (x := 6309) rfl rfl ?_
                  refine z_lcmp rfl rfl jkl_6309 (fun v36 ev36 => ?_)
                  refine x_ifne (tgt := 21) rfl rfl (ti_ne rfl jk_0 ⟨fun c37 => ?_, fun c37 => ?_⟩)
                  ·
                    refine x_iconst (v := 0) rfl ki_0 ?_
                    refine x_zret rfl rfl (by decide) ?_
                    show jX m_X12_kindAt 2 0 0 142 [(0, .ref 125)] [.int 0] _ 0 0 _
                    refine x_ifeq (tgt := 150) rfl rfl (ti_eq jk_0 jk_0 (br_t (by omega) ?_))
                    refine x_aloadn (x := 125) rfl rfl ?_
                    refine x_ldc2 (v := 627764) rfl z_12_631 ?_
                    refine x_inv (N := m_X12_isWord) (As := [.long 627764]) (b := 125) (st := []) (d' := 1) (mc := 0) (ms := 0) (host := "") 12 rfl t_X12_isWord ⟨Or.inl q_12_511, i_X12_isWord.1, i_X12_isWord.2⟩ ⟨by decide, rfl⟩ (congrArg Prod.fst (J.1.1 125 (12, 92) rfl)) rfl (by decide) rfl rfl ⟨by decide, by decide⟩ (jC.of rfl k_X12_isWord rfl ?_)
                    show jX m_X12_isWord 1 0 0 0 [(0, .ref 125), (1, .long 627764)] [] _ 0 0 _
                    refine x_aloadn (x := 125) rfl rfl ?_
                    refine z_getM (N := 92) (v := v1) 12 11 rfl f_12_235 rfl J rfl qv1 ?_
                    refine x_iconst (v := 1) rfl ki_1 ?_
                    refine x_icne (tgt := 21) rfl rfl (ti_ne rfl jk_1 (bn_f (by omega) ?_))
                    refine x_aloadn (x := 125) rfl rfl ?_
                    refine z_getL0 (N := 92) 12 12 rfl f_12_224 rfl J rfl (fun v38 => ?_)
                    have ev38 := jfullL v38
                    refine x_lloadn (x := 627764) rfl rfl ?_
                    refine z_lcmp rfl rfl jkl_627764 (fun v39 ev39 => ?_)
                    refine x_ifne (tgt := 21) rfl rfl (ti_ne rfl jk_0 ⟨fun c40 => ?_, fun c40 => ?_⟩)
                    ·
                      refine x_iconst (v := 0) rfl ki_0 ?_
                      refine x_zret rfl rfl (by decide) ?_
                      show jX m_X12_kindAt 2 0 0 157 [(0, .ref 125)] [.int 0] _ 0 0 _
                      refine x_ifeq (tgt := 165) rfl rfl (ti_eq jk_0 jk_0 (br_t (by omega) ?_))
                      refine x_iconst (v := (-1)) rfl ki_m1 ?_
                      exact jX.sub jsb_n (ct_X12_kindAt_r125_100166 hD hQ  h J Sm)
                    ·
                      refine x_iconst (v := 1) rfl ki_1 ?_
                      refine x_goto (tgt := 22) rfl rfl ?_
                      refine x_zret rfl rfl (by decide) ?_
                      show jX m_X12_kindAt 2 0 0 157 [(0, .ref 125)] [.int 1] _ 0 0 _
                      refine x_ifeq (tgt := 165) rfl rfl (ti_eq jk_1 jk_0 (br_f (by omega) ?_))
                      refine x_bipush (v := 8) rfl kb_8 ?_
                      refine x_goto (tgt := 166) rfl rfl ?_
                      exact jX.sub jsb_n (ct_X12_kindAt_r125_1000166 hD hQ  h J Sm)
                  ·
                    refine x_iconst (v := 1) rfl ki_1 ?_
                    refine x_goto (tgt := 22) rfl rfl ?_
                    refine x_zret rfl rfl (by decide) ?_
                    show jX m_X12_kindAt 2 0 0 142 [(0, .ref 125)] [.int 1] _ 0 0 _
                    refine x_ifeq (tgt := 150) rfl rfl (ti_eq jk_1 jk_0 (br_f (by omega) ?_))
                    refine x_bipush (v := 7) rfl kb_7 ?_
                    refine x_goto (tgt := 166) rfl rfl ?_
                    exact jX.sub jsb_n (ct_X12_kindAt_r125_900166 hD hQ  h J Sm)
                ·
                  refine x_iconst (v := 1) rfl ki_1 ?_
                  refine x_goto (tgt := 22) rfl rfl ?_
                  refine x_zret rfl rfl (by decide) ?_
                  show jX m_X12_kindAt 2 0 0 127 [(0, .ref 125)] [.int 1] _ 0 0 _
                  refine x_ifeq (tgt := 135) rfl rfl (ti_eq jk_1 jk_0 (br_f (by omega) ?_))
                  refine x_bipush (v := 6) rfl kb_6 ?_
                  refine x_goto (tgt := 166) rfl rfl ?_
                  exact jX.sub jsb_n (ct_X12_kindAt_r125_800166 hD hQ  h J Sm)
              ·
                refine x_iconst (v := 1) rfl ki_1 ?_
                refine x_goto (tgt := 22) rfl rfl ?_
                refine x_zret rfl rfl (by decide) ?_
                show jX m_X12_kindAt 2 0 0 87 [(0, .ref 125)] [.int 1] _ 0 0 _
                refine x_ifeq (tgt := 120) rfl rfl (ti_eq jk_1 jk_0 (br_f (by omega) ?_))
                exact jX.sub (jsb_c rfl jsb_n) (ct_X12_kindAt_r125_90 hD hQ  v1 h (jr_of rfl (by omega)) qv1 J Sm)
          ·
            refine x_aloadn (x := 125) rfl rfl ?_
            refine z_getL0 (N := 92) 12 12 rfl f_12_224 rfl J rfl (fun v41 => ?_)
            have ev41 := jfullL v41
            refine x_lloadn (x := 609625254) rfl rfl ?_
            refine z_lcmp rfl rfl jkl_609625254 (fun v42 ev42 => ?_)
            refine x_ifne (tgt := 21) rfl rfl (ti_ne rfl jk_0 ⟨fun c43 => ?_, fun c43 => ?_⟩)
            ·
              refine x_iconst (v := 0) rfl ki_0 ?_
              refine x_zret rfl rfl (by decide) ?_
              show jX m_X12_kindAt 2 0 0 77 [(0, .ref 125)] [.int 0] _ 0 0 _
              refine x_ifne (tgt := 90) rfl rfl (ti_ne jk_0 jk_0 (bn_f (by omega) ?_))
              refine x_aloadn (x := 125) rfl rfl ?_
              refine x_ldc2 (v := 2134245) rfl z_12_625 ?_
              refine x_inv (N := m_X12_isWord) (As := [.long 2134245]) (b := 125) (st := []) (d' := 1) (mc := 0) (ms := 0) (host := "") 12 rfl t_X12_isWord ⟨Or.inl q_12_511, i_X12_isWord.1, i_X12_isWord.2⟩ ⟨by decide, rfl⟩ (congrArg Prod.fst (J.1.1 125 (12, 92) rfl)) rfl (by decide) rfl rfl ⟨by decide, by decide⟩ (jC.of rfl k_X12_isWord rfl ?_)
              show jX m_X12_isWord 1 0 0 0 [(0, .ref 125), (1, .long 2134245)] [] _ 0 0 _
              refine x_aloadn (x := 125) rfl rfl ?_
              refine z_getM (N := 92) (v := v1) 12 11 rfl f_12_235 rfl J rfl qv1 ?_
              refine x_iconst (v := 1) rfl ki_1 ?_
              refine x_icne (tgt := 21) rfl rfl (ti_ne rfl jk_1 (bn_f (by omega) ?_))
              refine x_aloadn (x := 125) rfl rfl ?_
              refine z_getL0 (N := 92) 12 12 rfl f_12_224 rfl J rfl (fun v44 => ?_)
              have ev44 := jfullL v44
              refine x_lloadn (x := 2134245) rfl rfl ?_
              refine z_lcmp rfl rfl jkl_2134245 (fun v45 ev45 => ?_)
              refine x_ifne (tgt := 21) rfl rfl (ti_ne rfl jk_0 ⟨fun c46 => ?_, fun c46 => ?_⟩)
              ·
                refine x_iconst (v := 0) rfl ki_0 ?_
                refine x_zret rfl rfl (by decide) ?_
                show jX m_X12_kindAt 2 0 0 87 [(0, .ref 125)] [.int 0] _ 0 0 _
                refine x_ifeq (tgt := 120) rfl rfl (ti_eq jk_0 jk_0 (br_t (by omega) ?_))
                refine x_aloadn (x := 125) rfl rfl ?_
                refine x_ldc2 (v := 677454) rfl z_12_627 ?_
                refine x_inv (N := m_X12_isWord) (As := [.long 677454]) (b := 125) (st := []) (d' := 1) (mc := 0) (ms := 0) (host := "") 12 rfl t_X12_isWord ⟨Or.inl q_12_511, i_X12_isWord.1, i_X12_isWord.2⟩ ⟨by decide, rfl⟩ (congrArg Prod.fst (J.1.1 125 (12, 92) rfl)) rfl (by decide) rfl rfl ⟨by decide, by decide⟩ (jC.of rfl k_X12_isWord rfl ?_)
                show jX m_X12_isWord 1 0 0 0 [(0, .ref 125), (1, .long 677454)] [] _ 0 0 _
                refine x_aloadn (x := 125) rfl rfl ?_
                refine z_getM (N := 92) (v := v1) 12 11 rfl f_12_235 rfl J rfl qv1 ?_
                refine x_iconst (v := 1) rfl ki_1 ?_
                refine x_icne (tgt := 21) rfl rfl (ti_ne rfl jk_1 (bn_f (by omega) ?_))
                refine x_aloadn (x := 125) rfl rfl ?_
                refine z_getL0 (N := 92) 12 12 rfl f_12_224 rfl J rfl (fun v47 => ?_)
                have ev47 := jfullL v47
                refine x_lloadn (x := 677454) rfl rfl ?_
                refine z_lcmp rfl rfl jkl_677454 (fun v48 ev48 => ?_)
                refine x_ifne (tgt := 21) rfl rfl (ti_ne rfl jk_0 ⟨fun c49 => ?_, fun c49 => ?_⟩)
                ·
                  refine x_iconst (v := 0) rfl ki_0 ?_
                  refine x_zret rfl rfl (by decide) ?_
                  show jX m_X12_kindAt 2 0 0 127 [(0, .ref 125)] [.int 0] _ 0 0 _
                  refine x_ifeq (tgt := 135) rfl rfl (ti_eq jk_0 jk_0 (br_t (by omega) ?_))
                  refine x_aloadn (x := 125) rfl rfl ?_
                  refine x_ldc2 (v := 6309) rfl z_12_629 ?_
                  refine x_inv (N := m_X12_isWord) (As := [.long 6309]) (b := 125) (st := []) (d' := 1) (mc := 0) (ms := 0) (host := "") 12 rfl t_X12_isWord ⟨Or.inl q_12_511, i_X12_isWord.1, i_X12_isWord.2⟩ ⟨by decide, rfl⟩ (congrArg Prod.fst (J.1.1 125 (12, 92) rfl)) rfl (by decide) rfl rfl ⟨by decide, by decide⟩ (jC.of rfl k_X12_isWord rfl ?_)
                  show jX m_X12_isWord 1 0 0 0 [(0, .ref 125), (1, .long 6309)] [] _ 0 0 _
                  refine x_aloadn (x := 125) rfl rfl ?_
                  refine z_getM (N := 92) (v := v1) 12 11 rfl f_12_235 rfl J rfl qv1 ?_
                  refine x_iconst (v := 1) rfl ki_1 ?_
                  refine x_icne (tgt := 21) rfl rfl (ti_ne rfl jk_1 (bn_f (by omega) ?_))
                  refine x_aloadn (x := 125) rfl rfl ?_
                  refine z_getL0 (N := 92) 12 12 rfl f_12_224 rfl J rfl (fun v50 => ?_)
                  have ev50 := jfullL v50
                  refine x_lloadn (x := 6309) rfl rfl ?_
                  refine z_lcmp rfl rfl jkl_6309 (fun v51 ev51 => ?_)
                  refine x_ifne (tgt := 21) rfl rfl (ti_ne rfl jk_0 ⟨fun c52 => ?_, fun c52 => ?_⟩)
                  ·
                    refine x_iconst (v := 0) rfl ki_0 ?_
                    refine x_zret rfl rfl (by decide) ?_
                    show jX m_X12_kindAt 2 0 0 142 [(0, .ref 125)] [.int 0] _ 0 0 _
                    refine x_ifeq (tgt := 150) rfl rfl (ti_eq jk_0 jk_0 (br_t (by omega) ?_))
                    refine x_aloadn (x := 125) rfl rfl ?_
                    refine x_ldc2 (v := 627764) rfl z_12_631 ?_
                    refine x_inv (N := m_X12_isWord) (As := [.long 627764]) (b := 125) (st := []) (d' := 1) (mc := 0) (ms := 0) (host := "") 12 rfl t_X12_isWord ⟨Or.inl q_12_511, i_X12_isWord.1, i_X12_isWord.2⟩ ⟨by decide, rfl⟩ (congrArg Prod.fst (J.1.1 125 (12, 92) rfl)) rfl (by decide) rfl rfl ⟨by decide, by decide⟩ (jC.of rfl k_X12_isWord rfl ?_)
                    show jX m_X12_isWord 1 0 0 0 [(0, .ref 125), (1, .long 627764)] [] _ 0 0 _
                    refine x_aloadn (x := 125) rfl rfl ?_
                    refine z_getM (N := 92) (v := v1) 12 11 rfl f_12_235 rfl J rfl qv1 ?_
                    refine x_iconst (v := 1) rfl ki_1 ?_
                    refine x_icne (tgt := 21) rfl rfl (ti_ne rfl jk_1 (bn_f (by omega) ?_))
                    refine x_aloadn (x := 125) rfl rfl ?_
                    refine z_getL0 (N := 92) 12 12 rfl f_12_224 rfl J rfl (fun v53 => ?_)
                    have ev53 := jfullL v53
                    refine x_lloadn (x := 627764) rfl rfl ?_
                    refine z_lcmp rfl rfl jkl_627764 (fun v54 ev54 => ?_)
                    refine x_ifne (tgt := 21) rfl rfl (ti_ne rfl jk_0 ⟨fun c55 => ?_, fun c55 => ?_⟩)
                    ·
                      refine x_iconst (v := 0) rfl ki_0 ?_
                      refine x_zret rfl rfl (by decide) ?_
                      show jX m_X12_kindAt 2 0 0 157 [(0, .ref 125)] [.int 0] _ 0 0 _
                      refine x_ifeq (tgt := 165) rfl rfl (ti_eq jk_0 jk_0 (br_t (by omega) ?_))
                      refine x_iconst (v := (-1)) rfl ki_m1 ?_
                      exact jX.sub jsb_n (ct_X12_kindAt_r125_100166 hD hQ  h J Sm)
                    ·
                      refine x_iconst (v := 1) rfl ki_1 ?_
                      refine x_goto (tgt := 22) rfl rfl ?_
                      refine x_zret rfl rfl (by decide) ?_
                      show jX m_X12_kindAt 2 0 0 157 [(0, .ref 125)] [.int 1] _ 0 0 _
                      refine x_ifeq (tgt := 165) rfl rfl (ti_eq jk_1 jk_0 (br_f (by omega) ?_))
                      refine x_bipush (v := 8) rfl kb_8 ?_
                      refine x_goto (tgt := 166) rfl rfl ?_
                      exact jX.sub jsb_n (ct_X12_kindAt_r125_1000166 hD hQ  h J Sm)
                  ·
                    refine x_iconst (v := 1) rfl ki_1 ?_
                    refine x_goto (tgt := 22) rfl rfl ?_
                    refine x_zret rfl rfl (by decide) ?_
                    show jX m_X12_kindAt 2 0 0 142 [(0, .ref 125)] [.int 1] _ 0 0 _
                    refine x_ifeq (tgt := 150) rfl rfl (ti_eq jk_1 jk_0 (br_f (by omega) ?_))
                    refine x_bipush (v := 7) rfl kb_7 ?_
                    refine x_goto (tgt := 166) rfl rfl ?_
                    exact jX.sub jsb_n (ct_X12_kindAt_r125_900166 hD hQ  h J Sm)
                ·
                  refine x_iconst (v := 1) rfl ki_1 ?_
                  refine x_goto (tgt := 22) rfl rfl ?_
                  refine x_zret rfl rfl (by decide) ?_
                  show jX m_X12_kindAt 2 0 0 127 [(0, .ref 125)] [.int 1] _ 0 0 _
                  refine x_ifeq (tgt := 135) rfl rfl (ti_eq jk_1 jk_0 (br_f (by omega) ?_))
                  refine x_bipush (v := 6) rfl kb_6 ?_
                  refine x_goto (tgt := 166) rfl rfl ?_
                  exact jX.sub jsb_n (ct_X12_kindAt_r125_800166 hD hQ  h J Sm)
              ·
                refine x_iconst (v := 1) rfl ki_1 ?_
                refine x_goto (tgt := 22) rfl rfl ?_
                refine x_zret rfl rfl (by decide) ?_
                show jX m_X12_kindAt 2 0 0 87 [(0, .ref 125)] [.int 1] _ 0 0 _
                refine x_ifeq (tgt := 120) rfl rfl (ti_eq jk_1 jk_0 (br_f (by omega) ?_))
                exact jX.sub (jsb_c rfl jsb_n) (ct_X12_kindAt_r125_90 hD hQ  v1 h (jr_of rfl (by omega)) qv1 J Sm)
            ·
              refine x_iconst (v := 1) rfl ki_1 ?_
              refine x_goto (tgt := 22) rfl rfl ?_
              refine x_zret rfl rfl (by decide) ?_
              show jX m_X12_kindAt 2 0 0 77 [(0, .ref 125)] [.int 1] _ 0 0 _
              refine x_ifne (tgt := 90) rfl rfl (ti_ne jk_1 jk_0 (bn_t (by omega) ?_))
              exact jX.sub (jsb_c rfl jsb_n) (ct_X12_kindAt_r125_90 hD hQ  v1 h (jr_of rfl (by omega)) qv1 J Sm)
        ·
          refine x_aloadn (x := 125) rfl rfl ?_
          refine z_getL0 (N := 92) 12 12 rfl f_12_224 rfl J rfl (fun v56 => ?_)
          have ev56 := jfullL v56
          refine x_lloadn (x := 591493) rfl rfl ?_
          refine z_lcmp rfl rfl jkl_591493 (fun v57 ev57 => ?_)
          refine x_ifne (tgt := 21) rfl rfl (ti_ne rfl jk_0 ⟨fun c58 => ?_, fun c58 => ?_⟩)
          ·
            refine x_iconst (v := 0) rfl ki_0 ?_
            refine x_zret rfl rfl (by decide) ?_
            show jX m_X12_kindAt 2 0 0 67 [(0, .ref 125)] [.int 0] _ 0 0 _
            refine x_ifne (tgt := 90) rfl rfl (ti_ne jk_0 jk_0 (bn_f (by omega) ?_))
            refine x_aloadn (x := 125) rfl rfl ?_
            refine x_ldc2 (v := 609625254) rfl z_12_623 ?_
            refine x_inv (N := m_X12_isWord) (As := [.long 609625254]) (b := 125) (st := []) (d' := 1) (mc := 0) (ms := 0) (host := "") 12 rfl t_X12_isWord ⟨Or.inl q_12_511, i_X12_isWord.1, i_X12_isWord.2⟩ ⟨by decide, rfl⟩ (congrArg Prod.fst (J.1.1 125 (12, 92) rfl)) rfl (by decide) rfl rfl ⟨by decide, by decide⟩ (jC.of rfl k_X12_isWord rfl ?_)
            show jX m_X12_isWord 1 0 0 0 [(0, .ref 125), (1, .long 609625254)] [] _ 0 0 _
            refine x_aloadn (x := 125) rfl rfl ?_
            refine z_getM (N := 92) (v := v1) 12 11 rfl f_12_235 rfl J rfl qv1 ?_
            refine x_iconst (v := 1) rfl ki_1 ?_
            refine x_icne (tgt := 21) rfl rfl (ti_ne rfl jk_1 (bn_f (by omega) ?_))
            refine x_aloadn (x := 125) rfl rfl ?_
            refine z_getL0 (N := 92) 12 12 rfl f_12_224 rfl J rfl (fun v59 => ?_)
            have ev59 := jfullL v59
            refine x_lloadn (x := 609625254) rfl rfl ?_
            refine z_lcmp rfl rfl jkl_609625254 (fun v60 ev60 => ?_)
            refine x_ifne (tgt := 21) rfl rfl (ti_ne rfl jk_0 ⟨fun c61 => ?_, fun c61 => ?_⟩)
            ·
              refine x_iconst (v := 0) rfl ki_0 ?_
              refine x_zret rfl rfl (by decide) ?_
              show jX m_X12_kindAt 2 0 0 77 [(0, .ref 125)] [.int 0] _ 0 0 _
              refine x_ifne (tgt := 90) rfl rfl (ti_ne jk_0 jk_0 (bn_f (by omega) ?_))
              refine x_aloadn (x := 125) rfl rfl ?_
              refine x_ldc2 (v := 2134245) rfl z_12_625 ?_
              refine x_inv (N := m_X12_isWord) (As := [.long 2134245]) (b := 125) (st := []) (d' := 1) (mc := 0) (ms := 0) (host := "") 12 rfl t_X12_isWord ⟨Or.inl q_12_511, i_X12_isWord.1, i_X12_isWord.2⟩ ⟨by decide, rfl⟩ (congrArg Prod.fst (J.1.1 125 (12, 92) rfl)) rfl (by decide) rfl rfl ⟨by decide, by decide⟩ (jC.of rfl k_X12_isWord rfl ?_)
              show jX m_X12_isWord 1 0 0 0 [(0, .ref 125), (1, .long 2134245)] [] _ 0 0 _
              refine x_aloadn (x := 125) rfl rfl ?_
              refine z_getM (N := 92) (v := v1) 12 11 rfl f_12_235 rfl J rfl qv1 ?_
              refine x_iconst (v := 1) rfl ki_1 ?_
              refine x_icne (tgt := 21) rfl rfl (ti_ne rfl jk_1 (bn_f (by omega) ?_))
              refine x_aloadn (x := 125) rfl rfl ?_
              refine z_getL0 (N := 92) 12 12 rfl f_12_224 rfl J rfl (fun v62 => ?_)
              have ev62 := jfullL v62
              refine x_lloadn (x := 2134245) rfl rfl ?_
              refine z_lcmp rfl rfl jkl_2134245 (fun v63 ev63 => ?_)
              refine x_ifne (tgt := 21) rfl rfl (ti_ne rfl jk_0 ⟨fun c64 => ?_, fun c64 => ?_⟩)
              ·
                refine x_iconst (v := 0) rfl ki_0 ?_
                refine x_zret rfl rfl (by decide) ?_
                show jX m_X12_kindAt 2 0 0 87 [(0, .ref 125)] [.int 0] _ 0 0 _
                refine x_ifeq (tgt := 120) rfl rfl (ti_eq jk_0 jk_0 (br_t (by omega) ?_))
                refine x_aloadn (x := 125) rfl rfl ?_
                refine x_ldc2 (v := 677454) rfl z_12_627 ?_
                refine x_inv (N := m_X12_isWord) (As := [.long 677454]) (b := 125) (st := []) (d' := 1) (mc := 0) (ms := 0) (host := "") 12 rfl t_X12_isWord ⟨Or.inl q_12_511, i_X12_isWord.1, i_X12_isWord.2⟩ ⟨by decide, rfl⟩ (congrArg Prod.fst (J.1.1 125 (12, 92) rfl)) rfl (by decide) rfl rfl ⟨by decide, by decide⟩ (jC.of rfl k_X12_isWord rfl ?_)
                show jX m_X12_isWord 1 0 0 0 [(0, .ref 125), (1, .long 677454)] [] _ 0 0 _
                refine x_aloadn (x := 125) rfl rfl ?_
                refine z_getM (N := 92) (v := v1) 12 11 rfl f_12_235 rfl J rfl qv1 ?_
                refine x_iconst (v := 1) rfl ki_1 ?_
                refine x_icne (tgt := 21) rfl rfl (ti_ne rfl jk_1 (bn_f (by omega) ?_))
                refine x_aloadn (x := 125) rfl rfl ?_
                refine z_getL0 (N := 92) 12 12 rfl f_12_224 rfl J rfl (fun v65 => ?_)
                have ev65 := jfullL v65
                refine x_lloadn (x := 677454) rfl rfl ?_
                refine z_lcmp rfl rfl jkl_677454 (fun v66 ev66 => ?_)
                refine x_ifne (tgt := 21) rfl rfl (ti_ne rfl jk_0 ⟨fun c67 => ?_, fun c67 => ?_⟩)
                ·
                  refine x_iconst (v := 0) rfl ki_0 ?_
                  refine x_zret rfl rfl (by decide) ?_
                  show jX m_X12_kindAt 2 0 0 127 [(0, .ref 125)] [.int 0] _ 0 0 _
                  refine x_ifeq (tgt := 135) rfl rfl (ti_eq jk_0 jk_0 (br_t (by omega) ?_))
                  refine x_aloadn (x := 125) rfl rfl ?_
                  refine x_ldc2 (v := 6309) rfl z_12_629 ?_
                  refine x_inv (N := m_X12_isWord) (As := [.long 6309]) (b := 125) (st := []) (d' := 1) (mc := 0) (ms := 0) (host := "") 12 rfl t_X12_isWord ⟨Or.inl q_12_511, i_X12_isWord.1, i_X12_isWord.2⟩ ⟨by decide, rfl⟩ (congrArg Prod.fst (J.1.1 125 (12, 92) rfl)) rfl (by decide) rfl rfl ⟨by decide, by decide⟩ (jC.of rfl k_X12_isWord rfl ?_)
                  show jX m_X12_isWord 1 0 0 0 [(0, .ref 125), (1, .long 6309)] [] _ 0 0 _
                  refine x_aloadn (x := 125) rfl rfl ?_
                  refine z_getM (N := 92) (v := v1) 12 11 rfl f_12_235 rfl J rfl qv1 ?_
                  refine x_iconst (v := 1) rfl ki_1 ?_
                  refine x_icne (tgt := 21) rfl rfl (ti_ne rfl jk_1 (bn_f (by omega) ?_))
                  refine x_aloadn (x := 125) rfl rfl ?_
                  refine z_getL0 (N := 92) 12 12 rfl f_12_224 rfl J rfl (fun v68 => ?_)
                  have ev68 := jfullL v68
                  refine x_lloadn (x := 6309) rfl rfl ?_
                  refine z_lcmp rfl rfl jkl_6309 (fun v69 ev69 => ?_)
                  refine x_ifne (tgt := 21) rfl rfl (ti_ne rfl jk_0 ⟨fun c70 => ?_, fun c70 => ?_⟩)
                  ·
                    refine x_iconst (v := 0) rfl ki_0 ?_
                    refine x_zret rfl rfl (by decide) ?_
                    show jX m_X12_kindAt 2 0 0 142 [(0, .ref 125)] [.int 0] _ 0 0 _
                    refine x_ifeq (tgt := 150) rfl rfl (ti_eq jk_0 jk_0 (br_t (by omega) ?_))
                    refine x_aloadn (x := 125) rfl rfl ?_
                    refine x_ldc2 (v := 627764) rfl z_12_631 ?_
                    refine x_inv (N := m_X12_isWord) (As := [.long 627764]) (b := 125) (st := []) (d' := 1) (mc := 0) (ms := 0) (host := "") 12 rfl t_X12_isWord ⟨Or.inl q_12_511, i_X12_isWord.1, i_X12_isWord.2⟩ ⟨by decide, rfl⟩ (congrArg Prod.fst (J.1.1 125 (12, 92) rfl)) rfl (by decide) rfl rfl ⟨by decide, by decide⟩ (jC.of rfl k_X12_isWord rfl ?_)
                    show jX m_X12_isWord 1 0 0 0 [(0, .ref 125), (1, .long 627764)] [] _ 0 0 _
                    refine x_aloadn (x := 125) rfl rfl ?_
                    refine z_getM (N := 92) (v := v1) 12 11 rfl f_12_235 rfl J rfl qv1 ?_
                    refine x_iconst (v := 1) rfl ki_1 ?_
                    refine x_icne (tgt := 21) rfl rfl (ti_ne rfl jk_1 (bn_f (by omega) ?_))
                    refine x_aloadn (x := 125) rfl rfl ?_
                    refine z_getL0 (N := 92) 12 12 rfl f_12_224 rfl J rfl (fun v71 => ?_)
                    have ev71 := jfullL v71
                    refine x_lloadn (x := 627764) rfl rfl ?_
                    refine z_lcmp rfl rfl jkl_627764 (fun v72 ev72 => ?_)
                    refine x_ifne (tgt := 21) rfl rfl (ti_ne rfl jk_0 ⟨fun c73 => ?_, fun c73 => ?_⟩)
                    ·
                      refine x_iconst (v := 0) rfl ki_0 ?_
                      refine x_zret rfl rfl (by decide) ?_
                      show jX m_X12_kindAt 2 0 0 157 [(0, .ref 125)] [.int 0] _ 0 0 _
                      refine x_ifeq (tgt := 165) rfl rfl (ti_eq jk_0 jk_0 (br_t (by omega) ?_))
                      refine x_iconst (v := (-1)) rfl ki_m1 ?_
                      exact jX.sub jsb_n (ct_X12_kindAt_r125_100166 hD hQ  h J Sm)
                    ·
                      refine x_iconst (v := 1) rfl ki_1 ?_
                      refine x_goto (tgt := 22) rfl rfl ?_
                      refine x_zret rfl rfl (by decide) ?_
                      show jX m_X12_kindAt 2 0 0 157 [(0, .ref 125)] [.int 1] _ 0 0 _
                      refine x_ifeq (tgt := 165) rfl rfl (ti_eq jk_1 jk_0 (br_f (by omega) ?_))
                      refine x_bipush (v := 8) rfl kb_8 ?_
                      refine x_goto (tgt := 166) rfl rfl ?_
                      exact jX.sub jsb_n (ct_X12_kindAt_r125_1000166 hD hQ  h J Sm)
                  ·
                    refine x_iconst (v := 1) rfl ki_1 ?_
                    refine x_goto (tgt := 22) rfl rfl ?_
                    refine x_zret rfl rfl (by decide) ?_
                    show jX m_X12_kindAt 2 0 0 142 [(0, .ref 125)] [.int 1] _ 0 0 _
                    refine x_ifeq (tgt := 150) rfl rfl (ti_eq jk_1 jk_0 (br_f (by omega) ?_))
                    refine x_bipush (v := 7) rfl kb_7 ?_
                    refine x_goto (tgt := 166) rfl rfl ?_
                    exact jX.sub jsb_n (ct_X12_kindAt_r125_900166 hD hQ  h J Sm)
                ·
                  refine x_iconst (v := 1) rfl ki_1 ?_
                  refine x_goto (tgt := 22) rfl rfl ?_
                  refine x_zret rfl rfl (by decide) ?_
                  show jX m_X12_kindAt 2 0 0 127 [(0, .ref 125)] [.int 1] _ 0 0 _
                  refine x_ifeq (tgt := 135) rfl rfl (ti_eq jk_1 jk_0 (br_f (by omega) ?_))
                  refine x_bipush (v := 6) rfl kb_6 ?_
                  refine x_goto (tgt := 166) rfl rfl ?_
                  exact jX.sub jsb_n (ct_X12_kindAt_r125_800166 hD hQ  h J Sm)
              ·
                refine x_iconst (v := 1) rfl ki_1 ?_
                refine x_goto (tgt := 22) rfl rfl ?_
                refine x_zret rfl rfl (by decide) ?_
                show jX m_X12_kindAt 2 0 0 87 [(0, .ref 125)] [.int 1] _ 0 0 _
                refine x_ifeq (tgt := 120) rfl rfl (ti_eq jk_1 jk_0 (br_f (by omega) ?_))
                exact jX.sub (jsb_c rfl jsb_n) (ct_X12_kindAt_r125_90 hD hQ  v1 h (jr_of rfl (by omega)) qv1 J Sm)
            ·
              refine x_iconst (v := 1) rfl ki_1 ?_
              refine x_goto (tgt := 22) rfl rfl ?_
              refine x_zret rfl rfl (by decide) ?_
              show jX m_X12_kindAt 2 0 0 77 [(0, .ref 125)] [.int 1] _ 0 0 _
              refine x_ifne (tgt := 90) rfl rfl (ti_ne jk_1 jk_0 (bn_t (by omega) ?_))
              exact jX.sub (jsb_c rfl jsb_n) (ct_X12_kindAt_r125_90 hD hQ  v1 h (jr_of rfl (by omega)) qv1 J Sm)
          ·
            refine x_iconst (v := 1) rfl ki_1 ?_
            refine x_goto (tgt := 22) rfl rfl ?_
            refine x_zret rfl rfl (by decide) ?_
            show jX m_X12_kindAt 2 0 0 67 [(0, .ref 125)] [.int 1] _ 0 0 _
            refine x_ifne (tgt := 90) rfl rfl (ti_ne jk_1 jk_0 (bn_t (by omega) ?_))
            exact jX.sub (jsb_c rfl jsb_n) (ct_X12_kindAt_r125_90 hD hQ  v1 h (jr_of rfl (by omega)) qv1 J Sm)
      ·
        refine x_aloadn (x := 125) rfl rfl ?_
        refine z_getL0 (N := 92) 12 12 rfl f_12_224 rfl J rfl (fun v74 => ?_)
        have ev74 := jfullL v74
        refine x_lloadn (x := 193115668) rfl rfl ?_
        refine z_lcmp rfl rfl jkl_193115668 (fun v75 ev75 => ?_)
        refine x_ifne (tgt := 21) rfl rfl (ti_ne rfl jk_0 ⟨fun c76 => ?_, fun c76 => ?_⟩)
        ·
          refine x_iconst (v := 0) rfl ki_0 ?_
          refine x_zret rfl rfl (by decide) ?_
          show jX m_X12_kindAt 2 0 0 27 [(0, .ref 125)] [.int 0] _ 0 0 _
          refine x_ifeq (tgt := 60) rfl rfl (ti_eq jk_0 jk_0 (br_t (by omega) ?_))
          refine x_aloadn (x := 125) rfl rfl ?_
          refine x_ldc2 (v := 591493) rfl z_12_621 ?_
          refine x_inv (N := m_X12_isWord) (As := [.long 591493]) (b := 125) (st := []) (d' := 1) (mc := 0) (ms := 0) (host := "") 12 rfl t_X12_isWord ⟨Or.inl q_12_511, i_X12_isWord.1, i_X12_isWord.2⟩ ⟨by decide, rfl⟩ (congrArg Prod.fst (J.1.1 125 (12, 92) rfl)) rfl (by decide) rfl rfl ⟨by decide, by decide⟩ (jC.of rfl k_X12_isWord rfl ?_)
          show jX m_X12_isWord 1 0 0 0 [(0, .ref 125), (1, .long 591493)] [] _ 0 0 _
          refine x_aloadn (x := 125) rfl rfl ?_
          refine z_getM (N := 92) (v := v1) 12 11 rfl f_12_235 rfl J rfl qv1 ?_
          refine x_iconst (v := 1) rfl ki_1 ?_
          refine x_icne (tgt := 21) rfl rfl (ti_ne rfl jk_1 (bn_f (by omega) ?_))
          refine x_aloadn (x := 125) rfl rfl ?_
          refine z_getL0 (N := 92) 12 12 rfl f_12_224 rfl J rfl (fun v77 => ?_)
          have ev77 := jfullL v77
          refine x_lloadn (x := 591493) rfl rfl ?_
          refine z_lcmp rfl rfl jkl_591493 (fun v78 ev78 => ?_)
          refine x_ifne (tgt := 21) rfl rfl (ti_ne rfl jk_0 ⟨fun c79 => ?_, fun c79 => ?_⟩)
          ·
            refine x_iconst (v := 0) rfl ki_0 ?_
            refine x_zret rfl rfl (by decide) ?_
            show jX m_X12_kindAt 2 0 0 67 [(0, .ref 125)] [.int 0] _ 0 0 _
            refine x_ifne (tgt := 90) rfl rfl (ti_ne jk_0 jk_0 (bn_f (by omega) ?_))
            refine x_aloadn (x := 125) rfl rfl ?_
            refine x_ldc2 (v := 609625254) rfl z_12_623 ?_
            refine x_inv (N := m_X12_isWord) (As := [.long 609625254]) (b := 125) (st := []) (d' := 1) (mc := 0) (ms := 0) (host := "") 12 rfl t_X12_isWord ⟨Or.inl q_12_511, i_X12_isWord.1, i_X12_isWord.2⟩ ⟨by decide, rfl⟩ (congrArg Prod.fst (J.1.1 125 (12, 92) rfl)) rfl (by decide) rfl rfl ⟨by decide, by decide⟩ (jC.of rfl k_X12_isWord rfl ?_)
            show jX m_X12_isWord 1 0 0 0 [(0, .ref 125), (1, .long 609625254)] [] _ 0 0 _
            refine x_aloadn (x := 125) rfl rfl ?_
            refine z_getM (N := 92) (v := v1) 12 11 rfl f_12_235 rfl J rfl qv1 ?_
            refine x_iconst (v := 1) rfl ki_1 ?_
            refine x_icne (tgt := 21) rfl rfl (ti_ne rfl jk_1 (bn_f (by omega) ?_))
            refine x_aloadn (x := 125) rfl rfl ?_
            refine z_getL0 (N := 92) 12 12 rfl f_12_224 rfl J rfl (fun v80 => ?_)
            have ev80 := jfullL v80
            refine x_lloadn (x := 609625254) rfl rfl ?_
            refine z_lcmp rfl rfl jkl_609625254 (fun v81 ev81 => ?_)
            refine x_ifne (tgt := 21) rfl rfl (ti_ne rfl jk_0 ⟨fun c82 => ?_, fun c82 => ?_⟩)
            ·
              refine x_iconst (v := 0) rfl ki_0 ?_
              refine x_zret rfl rfl (by decide) ?_
              show jX m_X12_kindAt 2 0 0 77 [(0, .ref 125)] [.int 0] _ 0 0 _
              refine x_ifne (tgt := 90) rfl rfl (ti_ne jk_0 jk_0 (bn_f (by omega) ?_))
              refine x_aloadn (x := 125) rfl rfl ?_
              refine x_ldc2 (v := 2134245) rfl z_12_625 ?_
              refine x_inv (N := m_X12_isWord) (As := [.long 2134245]) (b := 125) (st := []) (d' := 1) (mc := 0) (ms := 0) (host := "") 12 rfl t_X12_isWord ⟨Or.inl q_12_511, i_X12_isWord.1, i_X12_isWord.2⟩ ⟨by decide, rfl⟩ (congrArg Prod.fst (J.1.1 125 (12, 92) rfl)) rfl (by decide) rfl rfl ⟨by decide, by decide⟩ (jC.of rfl k_X12_isWord rfl ?_)
              show jX m_X12_isWord 1 0 0 0 [(0, .ref 125), (1, .long 2134245)] [] _ 0 0 _
              refine x_aloadn (x := 125) rfl rfl ?_
              refine z_getM (N := 92) (v := v1) 12 11 rfl f_12_235 rfl J rfl qv1 ?_
              refine x_iconst (v := 1) rfl ki_1 ?_
              refine x_icne (tgt := 21) rfl rfl (ti_ne rfl jk_1 (bn_f (by omega) ?_))
              refine x_aloadn (x := 125) rfl rfl ?_
              refine z_getL0 (N := 92) 12 12 rfl f_12_224 rfl J rfl (fun v83 => ?_)
              have ev83 := jfullL v83
              refine x_lloadn (x := 2134245) rfl rfl ?_
              refine z_lcmp rfl rfl jkl_2134245 (fun v84 ev84 => ?_)
              refine x_ifne (tgt := 21) rfl rfl (ti_ne rfl jk_0 ⟨fun c85 => ?_, fun c85 => ?_⟩)
              ·
                refine x_iconst (v := 0) rfl ki_0 ?_
                refine x_zret rfl rfl (by decide) ?_
                show jX m_X12_kindAt 2 0 0 87 [(0, .ref 125)] [.int 0] _ 0 0 _
                refine x_ifeq (tgt := 120) rfl rfl (ti_eq jk_0 jk_0 (br_t (by omega) ?_))
                refine x_aloadn (x := 125) rfl rfl ?_
                refine x_ldc2 (v := 677454) rfl z_12_627 ?_
                refine x_inv (N := m_X12_isWord) (As := [.long 677454]) (b := 125) (st := []) (d' := 1) (mc := 0) (ms := 0) (host := "") 12 rfl t_X12_isWord ⟨Or.inl q_12_511, i_X12_isWord.1, i_X12_isWord.2⟩ ⟨by decide, rfl⟩ (congrArg Prod.fst (J.1.1 125 (12, 92) rfl)) rfl (by decide) rfl rfl ⟨by decide, by decide⟩ (jC.of rfl k_X12_isWord rfl ?_)
                show jX m_X12_isWord 1 0 0 0 [(0, .ref 125), (1, .long 677454)] [] _ 0 0 _
                refine x_aloadn (x := 125) rfl rfl ?_
                refine z_getM (N := 92) (v := v1) 12 11 rfl f_12_235 rfl J rfl qv1 ?_
                refine x_iconst (v := 1) rfl ki_1 ?_
                refine x_icne (tgt := 21) rfl rfl (ti_ne rfl jk_1 (bn_f (by omega) ?_))
                refine x_aloadn (x := 125) rfl rfl ?_
                refine z_getL0 (N := 92) 12 12 rfl f_12_224 rfl J rfl (fun v86 => ?_)
                have ev86 := jfullL v86
                refine x_lloadn (x := 677454) rfl rfl ?_
                refine z_lcmp rfl rfl jkl_677454 (fun v87 ev87 => ?_)
                refine x_ifne (tgt := 21) rfl rfl (ti_ne rfl jk_0 ⟨fun c88 => ?_, fun c88 => ?_⟩)
                ·
                  refine x_iconst (v := 0) rfl ki_0 ?_
                  refine x_zret rfl rfl (by decide) ?_
                  show jX m_X12_kindAt 2 0 0 127 [(0, .ref 125)] [.int 0] _ 0 0 _
                  refine x_ifeq (tgt := 135) rfl rfl (ti_eq jk_0 jk_0 (br_t (by omega) ?_))
                  refine x_aloadn (x := 125) rfl rfl ?_
                  refine x_ldc2 (v := 6309) rfl z_12_629 ?_
                  refine x_inv (N := m_X12_isWord) (As := [.long 6309]) (b := 125) (st := []) (d' := 1) (mc := 0) (ms := 0) (host := "") 12 rfl t_X12_isWord ⟨Or.inl q_12_511, i_X12_isWord.1, i_X12_isWord.2⟩ ⟨by decide, rfl⟩ (congrArg Prod.fst (J.1.1 125 (12, 92) rfl)) rfl (by decide) rfl rfl ⟨by decide, by decide⟩ (jC.of rfl k_X12_isWord rfl ?_)
                  show jX m_X12_isWord 1 0 0 0 [(0, .ref 125), (1, .long 6309)] [] _ 0 0 _
                  refine x_aloadn (x := 125) rfl rfl ?_
                  refine z_getM (N := 92) (v := v1) 12 11 rfl f_12_235 rfl J rfl qv1 ?_
                  refine x_iconst (v := 1) rfl ki_1 ?_
                  refine x_icne (tgt := 21) rfl rfl (ti_ne rfl jk_1 (bn_f (by omega) ?_))
                  refine x_aloadn (x := 125) rfl rfl ?_
                  refine z_getL0 (N := 92) 12 12 rfl f_12_224 rfl J rfl (fun v89 => ?_)
                  have ev89 := jfullL v89
                  refine x_lloadn (x := 6309) rfl rfl ?_
                  refine z_lcmp rfl rfl jkl_6309 (fun v90 ev90 => ?_)
                  refine x_ifne (tgt := 21) rfl rfl (ti_ne rfl jk_0 ⟨fun c91 => ?_, fun c91 => ?_⟩)
                  ·
                    refine x_iconst (v := 0) rfl ki_0 ?_
                    refine x_zret rfl rfl (by decide) ?_
                    show jX m_X12_kindAt 2 0 0 142 [(0, .ref 125)] [.int 0] _ 0 0 _
                    refine x_ifeq (tgt := 150) rfl rfl (ti_eq jk_0 jk_0 (br_t (by omega) ?_))
                    refine x_aloadn (x := 125) rfl rfl ?_
                    refine x_ldc2 (v := 627764) rfl z_12_631 ?_
                    refine x_inv (N := m_X12_isWord) (As := [.long 627764]) (b := 125) (st := []) (d' := 1) (mc := 0) (ms := 0) (host := "") 12 rfl t_X12_isWord ⟨Or.inl q_12_511, i_X12_isWord.1, i_X12_isWord.2⟩ ⟨by decide, rfl⟩ (congrArg Prod.fst (J.1.1 125 (12, 92) rfl)) rfl (by decide) rfl rfl ⟨by decide, by decide⟩ (jC.of rfl k_X12_isWord rfl ?_)
                    show jX m_X12_isWord 1 0 0 0 [(0, .ref 125), (1, .long 627764)] [] _ 0 0 _
                    refine x_aloadn (x := 125) rfl rfl ?_
                    refine z_getM (N := 92) (v := v1) 12 11 rfl f_12_235 rfl J rfl qv1 ?_
                    refine x_iconst (v := 1) rfl ki_1 ?_
                    refine x_icne (tgt := 21) rfl rfl (ti_ne rfl jk_1 (bn_f (by omega) ?_))
                    refine x_aloadn (x := 125) rfl rfl ?_
                    refine z_getL0 (N := 92) 12 12 rfl f_12_224 rfl J rfl (fun v92 => ?_)
                    have ev92 := jfullL v92
                    refine x_lloadn (x := 627764) rfl rfl ?_
                    refine z_lcmp rfl rfl jkl_627764 (fun v93 ev93 => ?_)
                    refine x_ifne (tgt := 21) rfl rfl (ti_ne rfl jk_0 ⟨fun c94 => ?_, fun c94 => ?_⟩)
                    ·
                      refine x_iconst (v := 0) rfl ki_0 ?_
                      refine x_zret rfl rfl (by decide) ?_
                      show jX m_X12_kindAt 2 0 0 157 [(0, .ref 125)] [.int 0] _ 0 0 _
                      refine x_ifeq (tgt := 165) rfl rfl (ti_eq jk_0 jk_0 (br_t (by omega) ?_))
                      refine x_iconst (v := (-1)) rfl ki_m1 ?_
                      exact jX.sub jsb_n (ct_X12_kindAt_r125_100166 hD hQ  h J Sm)
                    ·
                      refine x_iconst (v := 1) rfl ki_1 ?_
                      refine x_goto (tgt := 22) rfl rfl ?_
                      refine x_zret rfl rfl (by decide) ?_
                      show jX m_X12_kindAt 2 0 0 157 [(0, .ref 125)] [.int 1] _ 0 0 _
                      refine x_ifeq (tgt := 165) rfl rfl (ti_eq jk_1 jk_0 (br_f (by omega) ?_))
                      refine x_bipush (v := 8) rfl kb_8 ?_
                      refine x_goto (tgt := 166) rfl rfl ?_
                      exact jX.sub jsb_n (ct_X12_kindAt_r125_1000166 hD hQ  h J Sm)
                  ·
                    refine x_iconst (v := 1) rfl ki_1 ?_
                    refine x_goto (tgt := 22) rfl rfl ?_
                    refine x_zret rfl rfl (by decide) ?_
                    show jX m_X12_kindAt 2 0 0 142 [(0, .ref 125)] [.int 1] _ 0 0 _
                    refine x_ifeq (tgt := 150) rfl rfl (ti_eq jk_1 jk_0 (br_f (by omega) ?_))
                    refine x_bipush (v := 7) rfl kb_7 ?_
                    refine x_goto (tgt := 166) rfl rfl ?_
                    exact jX.sub jsb_n (ct_X12_kindAt_r125_900166 hD hQ  h J Sm)
                ·
                  refine x_iconst (v := 1) rfl ki_1 ?_
                  refine x_goto (tgt := 22) rfl rfl ?_
                  refine x_zret rfl rfl (by decide) ?_
                  show jX m_X12_kindAt 2 0 0 127 [(0, .ref 125)] [.int 1] _ 0 0 _
                  refine x_ifeq (tgt := 135) rfl rfl (ti_eq jk_1 jk_0 (br_f (by omega) ?_))
                  refine x_bipush (v := 6) rfl kb_6 ?_
                  refine x_goto (tgt := 166) rfl rfl ?_
                  exact jX.sub jsb_n (ct_X12_kindAt_r125_800166 hD hQ  h J Sm)
              ·
                refine x_iconst (v := 1) rfl ki_1 ?_
                refine x_goto (tgt := 22) rfl rfl ?_
                refine x_zret rfl rfl (by decide) ?_
                show jX m_X12_kindAt 2 0 0 87 [(0, .ref 125)] [.int 1] _ 0 0 _
                refine x_ifeq (tgt := 120) rfl rfl (ti_eq jk_1 jk_0 (br_f (by omega) ?_))
                exact jX.sub (jsb_c rfl jsb_n) (ct_X12_kindAt_r125_90 hD hQ  v1 h (jr_of rfl (by omega)) qv1 J Sm)
            ·
              refine x_iconst (v := 1) rfl ki_1 ?_
              refine x_goto (tgt := 22) rfl rfl ?_
              refine x_zret rfl rfl (by decide) ?_
              show jX m_X12_kindAt 2 0 0 77 [(0, .ref 125)] [.int 1] _ 0 0 _
              refine x_ifne (tgt := 90) rfl rfl (ti_ne jk_1 jk_0 (bn_t (by omega) ?_))
              exact jX.sub (jsb_c rfl jsb_n) (ct_X12_kindAt_r125_90 hD hQ  v1 h (jr_of rfl (by omega)) qv1 J Sm)
          ·
            refine x_iconst (v := 1) rfl ki_1 ?_
            refine x_goto (tgt := 22) rfl rfl ?_
            refine x_zret rfl rfl (by decide) ?_
            show jX m_X12_kindAt 2 0 0 67 [(0, .ref 125)] [.int 1] _ 0 0 _
            refine x_ifne (tgt := 90) rfl rfl (ti_ne jk_1 jk_0 (bn_t (by omega) ?_))
            exact jX.sub (jsb_c rfl jsb_n) (ct_X12_kindAt_r125_90 hD hQ  v1 h (jr_of rfl (by omega)) qv1 J Sm)
        ·
          refine x_iconst (v := 1) rfl ki_1 ?_
          refine x_goto (tgt := 22) rfl rfl ?_
          refine x_zret rfl rfl (by decide) ?_
          show jX m_X12_kindAt 2 0 0 27 [(0, .ref 125)] [.int 1] _ 0 0 _
          refine x_ifeq (tgt := 60) rfl rfl (ti_eq jk_1 jk_0 (br_f (by omega) ?_))
          exact jX.sub (jsb_c rfl jsb_n) (ct_X12_kindAt_r125_30 hD hQ  v1 h (jr_of rfl (by omega)) qv1 J Sm)
    ·
      refine x_aloadn (x := 125) rfl rfl ?_
      refine z_getL0 (N := 92) 12 12 rfl f_12_224 rfl J rfl (fun v95 => ?_)
      have ev95 := jfullL v95
      refine x_lloadn (x := 72760775) rfl rfl ?_
      refine z_lcmp rfl rfl jkl_72760775 (fun v96 ev96 => ?_)
      refine x_ifne (tgt := 21) rfl rfl (ti_ne rfl jk_0 ⟨fun c97 => ?_, fun c97 => ?_⟩)
      ·
        refine x_iconst (v := 0) rfl ki_0 ?_
        refine x_zret rfl rfl (by decide) ?_
        show jX m_X12_kindAt 2 0 0 17 [(0, .ref 125)] [.int 0] _ 0 0 _
        refine x_ifne (tgt := 30) rfl rfl (ti_ne jk_0 jk_0 (bn_f (by omega) ?_))
        refine x_aloadn (x := 125) rfl rfl ?_
        refine x_ldc2 (v := 193115668) rfl z_12_619 ?_
        refine x_inv (N := m_X12_isWord) (As := [.long 193115668]) (b := 125) (st := []) (d' := 1) (mc := 0) (ms := 0) (host := "") 12 rfl t_X12_isWord ⟨Or.inl q_12_511, i_X12_isWord.1, i_X12_isWord.2⟩ ⟨by decide, rfl⟩ (congrArg Prod.fst (J.1.1 125 (12, 92) rfl)) rfl (by decide) rfl rfl ⟨by decide, by decide⟩ (jC.of rfl k_X12_isWord rfl ?_)
        show jX m_X12_isWord 1 0 0 0 [(0, .ref 125), (1, .long 193115668)] [] _ 0 0 _
        refine x_aloadn (x := 125) rfl rfl ?_
        refine z_getM (N := 92) (v := v1) 12 11 rfl f_12_235 rfl J rfl qv1 ?_
        refine x_iconst (v := 1) rfl ki_1 ?_
        refine x_icne (tgt := 21) rfl rfl (ti_ne rfl jk_1 (bn_f (by omega) ?_))
        refine x_aloadn (x := 125) rfl rfl ?_
        refine z_getL0 (N := 92) 12 12 rfl f_12_224 rfl J rfl (fun v98 => ?_)
        have ev98 := jfullL v98
        refine x_lloadn (x := 193115668) rfl rfl ?_
        refine z_lcmp rfl rfl jkl_193115668 (fun v99 ev99 => ?_)
        refine x_ifne (tgt := 21) rfl rfl (ti_ne rfl jk_0 ⟨fun c100 => ?_, fun c100 => ?_⟩)
        ·
          refine x_iconst (v := 0) rfl ki_0 ?_
          refine x_zret rfl rfl (by decide) ?_
          show jX m_X12_kindAt 2 0 0 27 [(0, .ref 125)] [.int 0] _ 0 0 _
          refine x_ifeq (tgt := 60) rfl rfl (ti_eq jk_0 jk_0 (br_t (by omega) ?_))
          refine x_aloadn (x := 125) rfl rfl ?_
          refine x_ldc2 (v := 591493) rfl z_12_621 ?_
          refine x_inv (N := m_X12_isWord) (As := [.long 591493]) (b := 125) (st := []) (d' := 1) (mc := 0) (ms := 0) (host := "") 12 rfl t_X12_isWord ⟨Or.inl q_12_511, i_X12_isWord.1, i_X12_isWord.2⟩ ⟨by decide, rfl⟩ (congrArg Prod.fst (J.1.1 125 (12, 92) rfl)) rfl (by decide) rfl rfl ⟨by decide, by decide⟩ (jC.of rfl k_X12_isWord rfl ?_)
          show jX m_X12_isWord 1 0 0 0 [(0, .ref 125), (1, .long 591493)] [] _ 0 0 _
          refine x_aloadn (x := 125) rfl rfl ?_
          refine z_getM (N := 92) (v := v1) 12 11 rfl f_12_235 rfl J rfl qv1 ?_
          refine x_iconst (v := 1) rfl ki_1 ?_
          refine x_icne (tgt := 21) rfl rfl (ti_ne rfl jk_1 (bn_f (by omega) ?_))
          refine x_aloadn (x := 125) rfl rfl ?_
          refine z_getL0 (N := 92) 12 12 rfl f_12_224 rfl J rfl (fun v101 => ?_)
          have ev101 := jfullL v101
          refine x_lloadn (x := 591493) rfl rfl ?_
          refine z_lcmp rfl rfl jkl_591493 (fun v102 ev102 => ?_)
          refine x_ifne (tgt := 21) rfl rfl (ti_ne rfl jk_0 ⟨fun c103 => ?_, fun c103 => ?_⟩)
          ·
            refine x_iconst (v := 0) rfl ki_0 ?_
            refine x_zret rfl rfl (by decide) ?_
            show jX m_X12_kindAt 2 0 0 67 [(0, .ref 125)] [.int 0] _ 0 0 _
            refine x_ifne (tgt := 90) rfl rfl (ti_ne jk_0 jk_0 (bn_f (by omega) ?_))
            refine x_aloadn (x := 125) rfl rfl ?_
            refine x_ldc2 (v := 609625254) rfl z_12_623 ?_
            refine x_inv (N := m_X12_isWord) (As := [.long 609625254]) (b := 125) (st := []) (d' := 1) (mc := 0) (ms := 0) (host := "") 12 rfl t_X12_isWord ⟨Or.inl q_12_511, i_X12_isWord.1, i_X12_isWord.2⟩ ⟨by decide, rfl⟩ (congrArg Prod.fst (J.1.1 125 (12, 92) rfl)) rfl (by decide) rfl rfl ⟨by decide, by decide⟩ (jC.of rfl k_X12_isWord rfl ?_)
            show jX m_X12_isWord 1 0 0 0 [(0, .ref 125), (1, .long 609625254)] [] _ 0 0 _
            refine x_aloadn (x := 125) rfl rfl ?_
            refine z_getM (N := 92) (v := v1) 12 11 rfl f_12_235 rfl J rfl qv1 ?_
            refine x_iconst (v := 1) rfl ki_1 ?_
            refine x_icne (tgt := 21) rfl rfl (ti_ne rfl jk_1 (bn_f (by omega) ?_))
            refine x_aloadn (x := 125) rfl rfl ?_
            refine z_getL0 (N := 92) 12 12 rfl f_12_224 rfl J rfl (fun v104 => ?_)
            have ev104 := jfullL v104
            refine x_lloadn (x := 609625254) rfl rfl ?_
            refine z_lcmp rfl rfl jkl_609625254 (fun v105 ev105 => ?_)
            refine x_ifne (tgt := 21) rfl rfl (ti_ne rfl jk_0 ⟨fun c106 => ?_, fun c106 => ?_⟩)
            ·
              refine x_iconst (v := 0) rfl ki_0 ?_
              refine x_zret rfl rfl (by decide) ?_
              show jX m_X12_kindAt 2 0 0 77 [(0, .ref 125)] [.int 0] _ 0 0 _
              refine x_ifne (tgt := 90) rfl rfl (ti_ne jk_0 jk_0 (bn_f (by omega) ?_))
              refine x_aloadn (x := 125) rfl rfl ?_
              refine x_ldc2 (v := 2134245) rfl z_12_625 ?_
              refine x_inv (N := m_X12_isWord) (As := [.long 2134245]) (b := 125) (st := []) (d' := 1) (mc := 0) (ms := 0) (host := "") 12 rfl t_X12_isWord ⟨Or.inl q_12_511, i_X12_isWord.1, i_X12_isWord.2⟩ ⟨by decide, rfl⟩ (congrArg Prod.fst (J.1.1 125 (12, 92) rfl)) rfl (by decide) rfl rfl ⟨by decide, by decide⟩ (jC.of rfl k_X12_isWord rfl ?_)
              show jX m_X12_isWord 1 0 0 0 [(0, .ref 125), (1, .long 2134245)] [] _ 0 0 _
              refine x_aloadn (x := 125) rfl rfl ?_
              refine z_getM (N := 92) (v := v1) 12 11 rfl f_12_235 rfl J rfl qv1 ?_
              refine x_iconst (v := 1) rfl ki_1 ?_
              refine x_icne (tgt := 21) rfl rfl (ti_ne rfl jk_1 (bn_f (by omega) ?_))
              refine x_aloadn (x := 125) rfl rfl ?_
              refine z_getL0 (N := 92) 12 12 rfl f_12_224 rfl J rfl (fun v107 => ?_)
              have ev107 := jfullL v107
              refine x_lloadn (x := 2134245) rfl rfl ?_
              refine z_lcmp rfl rfl jkl_2134245 (fun v108 ev108 => ?_)
              refine x_ifne (tgt := 21) rfl rfl (ti_ne rfl jk_0 ⟨fun c109 => ?_, fun c109 => ?_⟩)
              ·
                refine x_iconst (v := 0) rfl ki_0 ?_
                refine x_zret rfl rfl (by decide) ?_
                show jX m_X12_kindAt 2 0 0 87 [(0, .ref 125)] [.int 0] _ 0 0 _
                refine x_ifeq (tgt := 120) rfl rfl (ti_eq jk_0 jk_0 (br_t (by omega) ?_))
                refine x_aloadn (x := 125) rfl rfl ?_
                refine x_ldc2 (v := 677454) rfl z_12_627 ?_
                refine x_inv (N := m_X12_isWord) (As := [.long 677454]) (b := 125) (st := []) (d' := 1) (mc := 0) (ms := 0) (host := "") 12 rfl t_X12_isWord ⟨Or.inl q_12_511, i_X12_isWord.1, i_X12_isWord.2⟩ ⟨by decide, rfl⟩ (congrArg Prod.fst (J.1.1 125 (12, 92) rfl)) rfl (by decide) rfl rfl ⟨by decide, by decide⟩ (jC.of rfl k_X12_isWord rfl ?_)
                show jX m_X12_isWord 1 0 0 0 [(0, .ref 125), (1, .long 677454)] [] _ 0 0 _
                refine x_aloadn (x := 125) rfl rfl ?_
                refine z_getM (N := 92) (v := v1) 12 11 rfl f_12_235 rfl J rfl qv1 ?_
                refine x_iconst (v := 1) rfl ki_1 ?_
                refine x_icne (tgt := 21) rfl rfl (ti_ne rfl jk_1 (bn_f (by omega) ?_))
                refine x_aloadn (x := 125) rfl rfl ?_
                refine z_getL0 (N := 92) 12 12 rfl f_12_224 rfl J rfl (fun v110 => ?_)
                have ev110 := jfullL v110
                refine x_lloadn (x := 677454) rfl rfl ?_
                refine z_lcmp rfl rfl jkl_677454 (fun v111 ev111 => ?_)
                refine x_ifne (tgt := 21) rfl rfl (ti_ne rfl jk_0 ⟨fun c112 => ?_, fun c112 => ?_⟩)
                ·
                  refine x_iconst (v := 0) rfl ki_0 ?_
                  refine x_zret rfl rfl (by decide) ?_
                  show jX m_X12_kindAt 2 0 0 127 [(0, .ref 125)] [.int 0] _ 0 0 _
                  refine x_ifeq (tgt := 135) rfl rfl (ti_eq jk_0 jk_0 (br_t (by omega) ?_))
                  refine x_aloadn (x := 125) rfl rfl ?_
                  refine x_ldc2 (v := 6309) rfl z_12_629 ?_
                  refine x_inv (N := m_X12_isWord) (As := [.long 6309]) (b := 125) (st := []) (d' := 1) (mc := 0) (ms := 0) (host := "") 12 rfl t_X12_isWord ⟨Or.inl q_12_511, i_X12_isWord.1, i_X12_isWord.2⟩ ⟨by decide, rfl⟩ (congrArg Prod.fst (J.1.1 125 (12, 92) rfl)) rfl (by decide) rfl rfl ⟨by decide, by decide⟩ (jC.of rfl k_X12_isWord rfl ?_)
                  show jX m_X12_isWord 1 0 0 0 [(0, .ref 125), (1, .long 6309)] [] _ 0 0 _
                  refine x_aloadn (x := 125) rfl rfl ?_
                  refine z_getM (N := 92) (v := v1) 12 11 rfl f_12_235 rfl J rfl qv1 ?_
                  refine x_iconst (v := 1) rfl ki_1 ?_
                  refine x_icne (tgt := 21) rfl rfl (ti_ne rfl jk_1 (bn_f (by omega) ?_))
                  refine x_aloadn (x := 125) rfl rfl ?_
                  refine z_getL0 (N := 92) 12 12 rfl f_12_224 rfl J rfl (fun v113 => ?_)
                  have ev113 := jfullL v113
                  refine x_lloadn (x := 6309) rfl rfl ?_
                  refine z_lcmp rfl rfl jkl_6309 (fun v114 ev114 => ?_)
                  refine x_ifne (tgt := 21) rfl rfl (ti_ne rfl jk_0 ⟨fun c115 => ?_, fun c115 => ?_⟩)
                  ·
                    refine x_iconst (v := 0) rfl ki_0 ?_
                    refine x_zret rfl rfl (by decide) ?_
                    show jX m_X12_kindAt 2 0 0 142 [(0, .ref 125)] [.int 0] _ 0 0 _
                    refine x_ifeq (tgt := 150) rfl rfl (ti_eq jk_0 jk_0 (br_t (by omega) ?_))
                    refine x_aloadn (x := 125) rfl rfl ?_
                    refine x_ldc2 (v := 627764) rfl z_12_631 ?_
                    refine x_inv (N := m_X12_isWord) (As := [.long 627764]) (b := 125) (st := []) (d' := 1) (mc := 0) (ms := 0) (host := "") 12 rfl t_X12_isWord ⟨Or.inl q_12_511, i_X12_isWord.1, i_X12_isWord.2⟩ ⟨by decide, rfl⟩ (congrArg Prod.fst (J.1.1 125 (12, 92) rfl)) rfl (by decide) rfl rfl ⟨by decide, by decide⟩ (jC.of rfl k_X12_isWord rfl ?_)
                    show jX m_X12_isWord 1 0 0 0 [(0, .ref 125), (1, .long 627764)] [] _ 0 0 _
                    refine x_aloadn (x := 125) rfl rfl ?_
                    refine z_getM (N := 92) (v := v1) 12 11 rfl f_12_235 rfl J rfl qv1 ?_
                    refine x_iconst (v := 1) rfl ki_1 ?_
                    refine x_icne (tgt := 21) rfl rfl (ti_ne rfl jk_1 (bn_f (by omega) ?_))
                    refine x_aloadn (x := 125) rfl rfl ?_
                    refine z_getL0 (N := 92) 12 12 rfl f_12_224 rfl J rfl (fun v116 => ?_)
                    have ev116 := jfullL v116
                    refine x_lloadn (x := 627764) rfl rfl ?_
                    refine z_lcmp rfl rfl jkl_627764 (fun v117 ev117 => ?_)
                    refine x_ifne (tgt := 21) rfl rfl (ti_ne rfl jk_0 ⟨fun c118 => ?_, fun c118 => ?_⟩)
                    ·
                      refine x_iconst (v := 0) rfl ki_0 ?_
                      refine x_zret rfl rfl (by decide) ?_
                      show jX m_X12_kindAt 2 0 0 157 [(0, .ref 125)] [.int 0] _ 0 0 _
                      refine x_ifeq (tgt := 165) rfl rfl (ti_eq jk_0 jk_0 (br_t (by omega) ?_))
                      refine x_iconst (v := (-1)) rfl ki_m1 ?_
                      exact jX.sub jsb_n (ct_X12_kindAt_r125_100166 hD hQ  h J Sm)
                    ·
                      refine x_iconst (v := 1) rfl ki_1 ?_
                      refine x_goto (tgt := 22) rfl rfl ?_
                      refine x_zret rfl rfl (by decide) ?_
                      show jX m_X12_kindAt 2 0 0 157 [(0, .ref 125)] [.int 1] _ 0 0 _
                      refine x_ifeq (tgt := 165) rfl rfl (ti_eq jk_1 jk_0 (br_f (by omega) ?_))
                      refine x_bipush (v := 8) rfl kb_8 ?_
                      refine x_goto (tgt := 166) rfl rfl ?_
                      exact jX.sub jsb_n (ct_X12_kindAt_r125_1000166 hD hQ  h J Sm)
                  ·
                    refine x_iconst (v := 1) rfl ki_1 ?_
                    refine x_goto (tgt := 22) rfl rfl ?_
                    refine x_zret rfl rfl (by decide) ?_
                    show jX m_X12_kindAt 2 0 0 142 [(0, .ref 125)] [.int 1] _ 0 0 _
                    refine x_ifeq (tgt := 150) rfl rfl (ti_eq jk_1 jk_0 (br_f (by omega) ?_))
                    refine x_bipush (v := 7) rfl kb_7 ?_
                    refine x_goto (tgt := 166) rfl rfl ?_
                    exact jX.sub jsb_n (ct_X12_kindAt_r125_900166 hD hQ  h J Sm)
                ·
                  refine x_iconst (v := 1) rfl ki_1 ?_
                  refine x_goto (tgt := 22) rfl rfl ?_
                  refine x_zret rfl rfl (by decide) ?_
                  show jX m_X12_kindAt 2 0 0 127 [(0, .ref 125)] [.int 1] _ 0 0 _
                  refine x_ifeq (tgt := 135) rfl rfl (ti_eq jk_1 jk_0 (br_f (by omega) ?_))
                  refine x_bipush (v := 6) rfl kb_6 ?_
                  refine x_goto (tgt := 166) rfl rfl ?_
                  exact jX.sub jsb_n (ct_X12_kindAt_r125_800166 hD hQ  h J Sm)
              ·
                refine x_iconst (v := 1) rfl ki_1 ?_
                refine x_goto (tgt := 22) rfl rfl ?_
                refine x_zret rfl rfl (by decide) ?_
                show jX m_X12_kindAt 2 0 0 87 [(0, .ref 125)] [.int 1] _ 0 0 _
                refine x_ifeq (tgt := 120) rfl rfl (ti_eq jk_1 jk_0 (br_f (by omega) ?_))
                exact jX.sub (jsb_c rfl jsb_n) (ct_X12_kindAt_r125_90 hD hQ  v1 h (jr_of rfl (by omega)) qv1 J Sm)
            ·
              refine x_iconst (v := 1) rfl ki_1 ?_
              refine x_goto (tgt := 22) rfl rfl ?_
              refine x_zret rfl rfl (by decide) ?_
              show jX m_X12_kindAt 2 0 0 77 [(0, .ref 125)] [.int 1] _ 0 0 _
              refine x_ifne (tgt := 90) rfl rfl (ti_ne jk_1 jk_0 (bn_t (by omega) ?_))
              exact jX.sub (jsb_c rfl jsb_n) (ct_X12_kindAt_r125_90 hD hQ  v1 h (jr_of rfl (by omega)) qv1 J Sm)
          ·
            refine x_iconst (v := 1) rfl ki_1 ?_
            refine x_goto (tgt := 22) rfl rfl ?_
            refine x_zret rfl rfl (by decide) ?_
            show jX m_X12_kindAt 2 0 0 67 [(0, .ref 125)] [.int 1] _ 0 0 _
            refine x_ifne (tgt := 90) rfl rfl (ti_ne jk_1 jk_0 (bn_t (by omega) ?_))
            exact jX.sub (jsb_c rfl jsb_n) (ct_X12_kindAt_r125_90 hD hQ  v1 h (jr_of rfl (by omega)) qv1 J Sm)
        ·
          refine x_iconst (v := 1) rfl ki_1 ?_
          refine x_goto (tgt := 22) rfl rfl ?_
          refine x_zret rfl rfl (by decide) ?_
          show jX m_X12_kindAt 2 0 0 27 [(0, .ref 125)] [.int 1] _ 0 0 _
          refine x_ifeq (tgt := 60) rfl rfl (ti_eq jk_1 jk_0 (br_f (by omega) ?_))
          exact jX.sub (jsb_c rfl jsb_n) (ct_X12_kindAt_r125_30 hD hQ  v1 h (jr_of rfl (by omega)) qv1 J Sm)
      ·
        refine x_iconst (v := 1) rfl ki_1 ?_
        refine x_goto (tgt := 22) rfl rfl ?_
        refine x_zret rfl rfl (by decide) ?_
        show jX m_X12_kindAt 2 0 0 17 [(0, .ref 125)] [.int 1] _ 0 0 _
        refine x_ifne (tgt := 30) rfl rfl (ti_ne jk_1 jk_0 (bn_t (by omega) ?_))
        exact jX.sub (jsb_c rfl jsb_n) (ct_X12_kindAt_r125_30 hD hQ  v1 h (jr_of rfl (by omega)) qv1 J Sm)
  ·
    refine x_aloadn (x := 125) rfl rfl ?_
    refine z_getL0 (N := 92) 12 12 rfl f_12_224 rfl J rfl (fun v119 => ?_)
    have ev119 := jfullL v119
    refine x_lloadn (x := 659105125) rfl rfl ?_
    refine z_lcmp rfl rfl jkl_659105125 (fun v120 ev120 => ?_)
    refine x_ifne (tgt := 21) rfl rfl (ti_ne rfl jk_0 ⟨fun c121 => ?_, fun c121 => ?_⟩)
    ·
      refine x_iconst (v := 0) rfl ki_0 ?_
      refine x_zret rfl rfl (by decide) ?_
      show jX m_X12_kindAt 2 0 0 7 [(0, .ref 125)] [.int 0] _ 0 0 _
      refine x_ifne (tgt := 30) rfl rfl (ti_ne jk_0 jk_0 (bn_f (by omega) ?_))
      refine x_aloadn (x := 125) rfl rfl ?_
      refine x_ldc2 (v := 72760775) rfl z_12_617 ?_
      refine x_inv (N := m_X12_isWord) (As := [.long 72760775]) (b := 125) (st := []) (d' := 1) (mc := 0) (ms := 0) (host := "") 12 rfl t_X12_isWord ⟨Or.inl q_12_511, i_X12_isWord.1, i_X12_isWord.2⟩ ⟨by decide, rfl⟩ (congrArg Prod.fst (J.1.1 125 (12, 92) rfl)) rfl (by decide) rfl rfl ⟨by decide, by decide⟩ (jC.of rfl k_X12_isWord rfl ?_)
      show jX m_X12_isWord 1 0 0 0 [(0, .ref 125), (1, .long 72760775)] [] _ 0 0 _
      refine x_aloadn (x := 125) rfl rfl ?_
      refine z_getM (N := 92) (v := v1) 12 11 rfl f_12_235 rfl J rfl qv1 ?_
      refine x_iconst (v := 1) rfl ki_1 ?_
      refine x_icne (tgt := 21) rfl rfl (ti_ne rfl jk_1 (bn_f (by omega) ?_))
      refine x_aloadn (x := 125) rfl rfl ?_
      refine z_getL0 (N := 92) 12 12 rfl f_12_224 rfl J rfl (fun v122 => ?_)
      have ev122 := jfullL v122
      refine x_lloadn (x := 72760775) rfl rfl ?_
      refine z_lcmp rfl rfl jkl_72760775 (fun v123 ev123 => ?_)
      refine x_ifne (tgt := 21) rfl rfl (ti_ne rfl jk_0 ⟨fun c124 => ?_, fun c124 => ?_⟩)
      ·
        refine x_iconst (v := 0) rfl ki_0 ?_
        refine x_zret rfl rfl (by decide) ?_
        show jX m_X12_kindAt 2 0 0 17 [(0, .ref 125)] [.int 0] _ 0 0 _
        refine x_ifne (tgt := 30) rfl rfl (ti_ne jk_0 jk_0 (bn_f (by omega) ?_))
        refine x_aloadn (x := 125) rfl rfl ?_
        refine x_ldc2 (v := 193115668) rfl z_12_619 ?_
        refine x_inv (N := m_X12_isWord) (As := [.long 193115668]) (b := 125) (st := []) (d' := 1) (mc := 0) (ms := 0) (host := "") 12 rfl t_X12_isWord ⟨Or.inl q_12_511, i_X12_isWord.1, i_X12_isWord.2⟩ ⟨by decide, rfl⟩ (congrArg Prod.fst (J.1.1 125 (12, 92) rfl)) rfl (by decide) rfl rfl ⟨by decide, by decide⟩ (jC.of rfl k_X12_isWord rfl ?_)
        show jX m_X12_isWord 1 0 0 0 [(0, .ref 125), (1, .long 193115668)] [] _ 0 0 _
        refine x_aloadn (x := 125) rfl rfl ?_
        refine z_getM (N := 92) (v := v1) 12 11 rfl f_12_235 rfl J rfl qv1 ?_
        refine x_iconst (v := 1) rfl ki_1 ?_
        refine x_icne (tgt := 21) rfl rfl (ti_ne rfl jk_1 (bn_f (by omega) ?_))
        refine x_aloadn (x := 125) rfl rfl ?_
        refine z_getL0 (N := 92) 12 12 rfl f_12_224 rfl J rfl (fun v125 => ?_)
        have ev125 := jfullL v125
        refine x_lloadn (x := 193115668) rfl rfl ?_
        refine z_lcmp rfl rfl jkl_193115668 (fun v126 ev126 => ?_)
        refine x_ifne (tgt := 21) rfl rfl (ti_ne rfl jk_0 ⟨fun c127 => ?_, fun c127 => ?_⟩)
        ·
          refine x_iconst (v := 0) rfl ki_0 ?_
          refine x_zret rfl rfl (by decide) ?_
          show jX m_X12_kindAt 2 0 0 27 [(0, .ref 125)] [.int 0] _ 0 0 _
          refine x_ifeq (tgt := 60) rfl rfl (ti_eq jk_0 jk_0 (br_t (by omega) ?_))
          refine x_aloadn (x := 125) rfl rfl ?_
          refine x_ldc2 (v := 591493) rfl z_12_621 ?_
          refine x_inv (N := m_X12_isWord) (As := [.long 591493]) (b := 125) (st := []) (d' := 1) (mc := 0) (ms := 0) (host := "") 12 rfl t_X12_isWord ⟨Or.inl q_12_511, i_X12_isWord.1, i_X12_isWord.2⟩ ⟨by decide, rfl⟩ (congrArg Prod.fst (J.1.1 125 (12, 92) rfl)) rfl (by decide) rfl rfl ⟨by decide, by decide⟩ (jC.of rfl k_X12_isWord rfl ?_)
          show jX m_X12_isWord 1 0 0 0 [(0, .ref 125), (1, .long 591493)] [] _ 0 0 _
          refine x_aloadn (x := 125) rfl rfl ?_
          refine z_getM (N := 92) (v := v1) 12 11 rfl f_12_235 rfl J rfl qv1 ?_
          refine x_iconst (v := 1) rfl ki_1 ?_
          refine x_icne (tgt := 21) rfl rfl (ti_ne rfl jk_1 (bn_f (by omega) ?_))
          refine x_aloadn (x := 125) rfl rfl ?_
          refine z_getL0 (N := 92) 12 12 rfl f_12_224 rfl J rfl (fun v128 => ?_)
          have ev128 := jfullL v128
          refine x_lloadn (x := 591493) rfl rfl ?_
          refine z_lcmp rfl rfl jkl_591493 (fun v129 ev129 => ?_)
          refine x_ifne (tgt := 21) rfl rfl (ti_ne rfl jk_0 ⟨fun c130 => ?_, fun c130 => ?_⟩)
          ·
            refine x_iconst (v := 0) rfl ki_0 ?_
            refine x_zret rfl rfl (by decide) ?_
            show jX m_X12_kindAt 2 0 0 67 [(0, .ref 125)] [.int 0] _ 0 0 _
            refine x_ifne (tgt := 90) rfl rfl (ti_ne jk_0 jk_0 (bn_f (by omega) ?_))
            refine x_aloadn (x := 125) rfl rfl ?_
            refine x_ldc2 (v := 609625254) rfl z_12_623 ?_
            refine x_inv (N := m_X12_isWord) (As := [.long 609625254]) (b := 125) (st := []) (d' := 1) (mc := 0) (ms := 0) (host := "") 12 rfl t_X12_isWord ⟨Or.inl q_12_511, i_X12_isWord.1, i_X12_isWord.2⟩ ⟨by decide, rfl⟩ (congrArg Prod.fst (J.1.1 125 (12, 92) rfl)) rfl (by decide) rfl rfl ⟨by decide, by decide⟩ (jC.of rfl k_X12_isWord rfl ?_)
            show jX m_X12_isWord 1 0 0 0 [(0, .ref 125), (1, .long 609625254)] [] _ 0 0 _
            refine x_aloadn (x := 125) rfl rfl ?_
            refine z_getM (N := 92) (v := v1) 12 11 rfl f_12_235 rfl J rfl qv1 ?_
            refine x_iconst (v := 1) rfl ki_1 ?_
            refine x_icne (tgt := 21) rfl rfl (ti_ne rfl jk_1 (bn_f (by omega) ?_))
            refine x_aloadn (x := 125) rfl rfl ?_
            refine z_getL0 (N := 92) 12 12 rfl f_12_224 rfl J rfl (fun v131 => ?_)
            have ev131 := jfullL v131
            refine x_lloadn (x := 609625254) rfl rfl ?_
            refine z_lcmp rfl rfl jkl_609625254 (fun v132 ev132 => ?_)
            refine x_ifne (tgt := 21) rfl rfl (ti_ne rfl jk_0 ⟨fun c133 => ?_, fun c133 => ?_⟩)
            ·
              refine x_iconst (v := 0) rfl ki_0 ?_
              refine x_zret rfl rfl (by decide) ?_
              show jX m_X12_kindAt 2 0 0 77 [(0, .ref 125)] [.int 0] _ 0 0 _
              refine x_ifne (tgt := 90) rfl rfl (ti_ne jk_0 jk_0 (bn_f (by omega) ?_))
              refine x_aloadn (x := 125) rfl rfl ?_
              refine x_ldc2 (v := 2134245) rfl z_12_625 ?_
              refine x_inv (N := m_X12_isWord) (As := [.long 2134245]) (b := 125) (st := []) (d' := 1) (mc := 0) (ms := 0) (host := "") 12 rfl t_X12_isWord ⟨Or.inl q_12_511, i_X12_isWord.1, i_X12_isWord.2⟩ ⟨by decide, rfl⟩ (congrArg Prod.fst (J.1.1 125 (12, 92) rfl)) rfl (by decide) rfl rfl ⟨by decide, by decide⟩ (jC.of rfl k_X12_isWord rfl ?_)
              show jX m_X12_isWord 1 0 0 0 [(0, .ref 125), (1, .long 2134245)] [] _ 0 0 _
              refine x_aloadn (x := 125) rfl rfl ?_
              refine z_getM (N := 92) (v := v1) 12 11 rfl f_12_235 rfl J rfl qv1 ?_
              refine x_iconst (v := 1) rfl ki_1 ?_
              refine x_icne (tgt := 21) rfl rfl (ti_ne rfl jk_1 (bn_f (by omega) ?_))
              refine x_aloadn (x := 125) rfl rfl ?_
              refine z_getL0 (N := 92) 12 12 rfl f_12_224 rfl J rfl (fun v134 => ?_)
              have ev134 := jfullL v134
              refine x_lloadn (x := 2134245) rfl rfl ?_
              refine z_lcmp rfl rfl jkl_2134245 (fun v135 ev135 => ?_)
              refine x_ifne (tgt := 21) rfl rfl (ti_ne rfl jk_0 ⟨fun c136 => ?_, fun c136 => ?_⟩)
              ·
                refine x_iconst (v := 0) rfl ki_0 ?_
                refine x_zret rfl rfl (by decide) ?_
                show jX m_X12_kindAt 2 0 0 87 [(0, .ref 125)] [.int 0] _ 0 0 _
                refine x_ifeq (tgt := 120) rfl rfl (ti_eq jk_0 jk_0 (br_t (by omega) ?_))
                refine x_aloadn (x := 125) rfl rfl ?_
                refine x_ldc2 (v := 677454) rfl z_12_627 ?_
                refine x_inv (N := m_X12_isWord) (As := [.long 677454]) (b := 125) (st := []) (d' := 1) (mc := 0) (ms := 0) (host := "") 12 rfl t_X12_isWord ⟨Or.inl q_12_511, i_X12_isWord.1, i_X12_isWord.2⟩ ⟨by decide, rfl⟩ (congrArg Prod.fst (J.1.1 125 (12, 92) rfl)) rfl (by decide) rfl rfl ⟨by decide, by decide⟩ (jC.of rfl k_X12_isWord rfl ?_)
                show jX m_X12_isWord 1 0 0 0 [(0, .ref 125), (1, .long 677454)] [] _ 0 0 _
                refine x_aloadn (x := 125) rfl rfl ?_
                refine z_getM (N := 92) (v := v1) 12 11 rfl f_12_235 rfl J rfl qv1 ?_
                refine x_iconst (v := 1) rfl ki_1 ?_
                refine x_icne (tgt := 21) rfl rfl (ti_ne rfl jk_1 (bn_f (by omega) ?_))
                refine x_aloadn (x := 125) rfl rfl ?_
                refine z_getL0 (N := 92) 12 12 rfl f_12_224 rfl J rfl (fun v137 => ?_)
                have ev137 := jfullL v137
                refine x_lloadn (x := 677454) rfl rfl ?_
                refine z_lcmp rfl rfl jkl_677454 (fun v138 ev138 => ?_)
                refine x_ifne (tgt := 21) rfl rfl (ti_ne rfl jk_0 ⟨fun c139 => ?_, fun c139 => ?_⟩)
                ·
                  refine x_iconst (v := 0) rfl ki_0 ?_
                  refine x_zret rfl rfl (by decide) ?_
                  show jX m_X12_kindAt 2 0 0 127 [(0, .ref 125)] [.int 0] _ 0 0 _
                  refine x_ifeq (tgt := 135) rfl rfl (ti_eq jk_0 jk_0 (br_t (by omega) ?_))
                  refine x_aloadn (x := 125) rfl rfl ?_
                  refine x_ldc2 (v := 6309) rfl z_12_629 ?_
                  refine x_inv (N := m_X12_isWord) (As := [.long 6309]) (b := 125) (st := []) (d' := 1) (mc := 0) (ms := 0) (host := "") 12 rfl t_X12_isWord ⟨Or.inl q_12_511, i_X12_isWord.1, i_X12_isWord.2⟩ ⟨by decide, rfl⟩ (congrArg Prod.fst (J.1.1 125 (12, 92) rfl)) rfl (by decide) rfl rfl ⟨by decide, by decide⟩ (jC.of rfl k_X12_isWord rfl ?_)
                  show jX m_X12_isWord 1 0 0 0 [(0, .ref 125), (1, .long 6309)] [] _ 0 0 _
                  refine x_aloadn (x := 125) rfl rfl ?_
                  refine z_getM (N := 92) (v := v1) 12 11 rfl f_12_235 rfl J rfl qv1 ?_
                  refine x_iconst (v := 1) rfl ki_1 ?_
                  refine x_icne (tgt := 21) rfl rfl (ti_ne rfl jk_1 (bn_f (by omega) ?_))
                  refine x_aloadn (x := 125) rfl rfl ?_
                  refine z_getL0 (N := 92) 12 12 rfl f_12_224 rfl J rfl (fun v140 => ?_)
                  have ev140 := jfullL v140
                  refine x_lloadn (x := 6309) rfl rfl ?_
                  refine z_lcmp rfl rfl jkl_6309 (fun v141 ev141 => ?_)
                  refine x_ifne (tgt := 21) rfl rfl (ti_ne rfl jk_0 ⟨fun c142 => ?_, fun c142 => ?_⟩)
                  ·
                    refine x_iconst (v := 0) rfl ki_0 ?_
                    refine x_zret rfl rfl (by decide) ?_
                    show jX m_X12_kindAt 2 0 0 142 [(0, .ref 125)] [.int 0] _ 0 0 _
                    refine x_ifeq (tgt := 150) rfl rfl (ti_eq jk_0 jk_0 (br_t (by omega) ?_))
                    refine x_aloadn (x := 125) rfl rfl ?_
                    refine x_ldc2 (v := 627764) rfl z_12_631 ?_
                    refine x_inv (N := m_X12_isWord) (As := [.long 627764]) (b := 125) (st := []) (d' := 1) (mc := 0) (ms := 0) (host := "") 12 rfl t_X12_isWord ⟨Or.inl q_12_511, i_X12_isWord.1, i_X12_isWord.2⟩ ⟨by decide, rfl⟩ (congrArg Prod.fst (J.1.1 125 (12, 92) rfl)) rfl (by decide) rfl rfl ⟨by decide, by decide⟩ (jC.of rfl k_X12_isWord rfl ?_)
                    show jX m_X12_isWord 1 0 0 0 [(0, .ref 125), (1, .long 627764)] [] _ 0 0 _
                    refine x_aloadn (x := 125) rfl rfl ?_
                    refine z_getM (N := 92) (v := v1) 12 11 rfl f_12_235 rfl J rfl qv1 ?_
                    refine x_iconst (v := 1) rfl ki_1 ?_
                    refine x_icne (tgt := 21) rfl rfl (ti_ne rfl jk_1 (bn_f (by omega) ?_))
                    refine x_aloadn (x := 125) rfl rfl ?_
                    refine z_getL0 (N := 92) 12 12 rfl f_12_224 rfl J rfl (fun v143 => ?_)
                    have ev143 := jfullL v143
                    refine x_lloadn (x := 627764) rfl rfl ?_
                    refine z_lcmp rfl rfl jkl_627764 (fun v144 ev144 => ?_)
                    refine x_ifne (tgt := 21) rfl rfl (ti_ne rfl jk_0 ⟨fun c145 => ?_, fun c145 => ?_⟩)
                    ·
                      refine x_iconst (v := 0) rfl ki_0 ?_
                      refine x_zret rfl rfl (by decide) ?_
                      show jX m_X12_kindAt 2 0 0 157 [(0, .ref 125)] [.int 0] _ 0 0 _
                      refine x_ifeq (tgt := 165) rfl rfl (ti_eq jk_0 jk_0 (br_t (by omega) ?_))
                      refine x_iconst (v := (-1)) rfl ki_m1 ?_
                      exact jX.sub jsb_n (ct_X12_kindAt_r125_100166 hD hQ  h J Sm)
                    ·
                      refine x_iconst (v := 1) rfl ki_1 ?_
                      refine x_goto (tgt := 22) rfl rfl ?_
                      refine x_zret rfl rfl (by decide) ?_
                      show jX m_X12_kindAt 2 0 0 157 [(0, .ref 125)] [.int 1] _ 0 0 _
                      refine x_ifeq (tgt := 165) rfl rfl (ti_eq jk_1 jk_0 (br_f (by omega) ?_))
                      refine x_bipush (v := 8) rfl kb_8 ?_
                      refine x_goto (tgt := 166) rfl rfl ?_
                      exact jX.sub jsb_n (ct_X12_kindAt_r125_1000166 hD hQ  h J Sm)
                  ·
                    refine x_iconst (v := 1) rfl ki_1 ?_
                    refine x_goto (tgt := 22) rfl rfl ?_
                    refine x_zret rfl rfl (by decide) ?_
                    show jX m_X12_kindAt 2 0 0 142 [(0, .ref 125)] [.int 1] _ 0 0 _
                    refine x_ifeq (tgt := 150) rfl rfl (ti_eq jk_1 jk_0 (br_f (by omega) ?_))
                    refine x_bipush (v := 7) rfl kb_7 ?_
                    refine x_goto (tgt := 166) rfl rfl ?_
                    exact jX.sub jsb_n (ct_X12_kindAt_r125_900166 hD hQ  h J Sm)
                ·
                  refine x_iconst (v := 1) rfl ki_1 ?_
                  refine x_goto (tgt := 22) rfl rfl ?_
                  refine x_zret rfl rfl (by decide) ?_
                  show jX m_X12_kindAt 2 0 0 127 [(0, .ref 125)] [.int 1] _ 0 0 _
                  refine x_ifeq (tgt := 135) rfl rfl (ti_eq jk_1 jk_0 (br_f (by omega) ?_))
                  refine x_bipush (v := 6) rfl kb_6 ?_
                  refine x_goto (tgt := 166) rfl rfl ?_
                  exact jX.sub jsb_n (ct_X12_kindAt_r125_800166 hD hQ  h J Sm)
              ·
                refine x_iconst (v := 1) rfl ki_1 ?_
                refine x_goto (tgt := 22) rfl rfl ?_
                refine x_zret rfl rfl (by decide) ?_
                show jX m_X12_kindAt 2 0 0 87 [(0, .ref 125)] [.int 1] _ 0 0 _
                refine x_ifeq (tgt := 120) rfl rfl (ti_eq jk_1 jk_0 (br_f (by omega) ?_))
                exact jX.sub (jsb_c rfl jsb_n) (ct_X12_kindAt_r125_90 hD hQ  v1 h (jr_of rfl (by omega)) qv1 J Sm)
            ·
              refine x_iconst (v := 1) rfl ki_1 ?_
              refine x_goto (tgt := 22) rfl rfl ?_
              refine x_zret rfl rfl (by decide) ?_
              show jX m_X12_kindAt 2 0 0 77 [(0, .ref 125)] [.int 1] _ 0 0 _
              refine x_ifne (tgt := 90) rfl rfl (ti_ne jk_1 jk_0 (bn_t (by omega) ?_))
              exact jX.sub (jsb_c rfl jsb_n) (ct_X12_kindAt_r125_90 hD hQ  v1 h (jr_of rfl (by omega)) qv1 J Sm)
          ·
            refine x_iconst (v := 1) rfl ki_1 ?_
            refine x_goto (tgt := 22) rfl rfl ?_
            refine x_zret rfl rfl (by decide) ?_
            show jX m_X12_kindAt 2 0 0 67 [(0, .ref 125)] [.int 1] _ 0 0 _
            refine x_ifne (tgt := 90) rfl rfl (ti_ne jk_1 jk_0 (bn_t (by omega) ?_))
            exact jX.sub (jsb_c rfl jsb_n) (ct_X12_kindAt_r125_90 hD hQ  v1 h (jr_of rfl (by omega)) qv1 J Sm)
        ·
          refine x_iconst (v := 1) rfl ki_1 ?_
          refine x_goto (tgt := 22) rfl rfl ?_
          refine x_zret rfl rfl (by decide) ?_
          show jX m_X12_kindAt 2 0 0 27 [(0, .ref 125)] [.int 1] _ 0 0 _
          refine x_ifeq (tgt := 60) rfl rfl (ti_eq jk_1 jk_0 (br_f (by omega) ?_))
          exact jX.sub (jsb_c rfl jsb_n) (ct_X12_kindAt_r125_30 hD hQ  v1 h (jr_of rfl (by omega)) qv1 J Sm)
      ·
        refine x_iconst (v := 1) rfl ki_1 ?_
        refine x_goto (tgt := 22) rfl rfl ?_
        refine x_zret rfl rfl (by decide) ?_
        show jX m_X12_kindAt 2 0 0 17 [(0, .ref 125)] [.int 1] _ 0 0 _
        refine x_ifne (tgt := 30) rfl rfl (ti_ne jk_1 jk_0 (bn_t (by omega) ?_))
        exact jX.sub (jsb_c rfl jsb_n) (ct_X12_kindAt_r125_30 hD hQ  v1 h (jr_of rfl (by omega)) qv1 J Sm)
    ·
      refine x_iconst (v := 1) rfl ki_1 ?_
      refine x_goto (tgt := 22) rfl rfl ?_
      refine x_zret rfl rfl (by decide) ?_
      show jX m_X12_kindAt 2 0 0 7 [(0, .ref 125)] [.int 1] _ 0 0 _
      refine x_ifne (tgt := 30) rfl rfl (ti_ne jk_1 jk_0 (bn_t (by omega) ?_))
      exact jX.sub (jsb_c rfl jsb_n) (ct_X12_kindAt_r125_30 hD hQ  v1 h (jr_of rfl (by omega)) qv1 J Sm)
def fp_X12_levy_r125 : jFp := [(125, 0, 1), (125, 1, 2), (126, 11, 12), (126, 48300, 48460)]
set_option maxRecDepth 100000 in
set_option maxHeartbeats 4000000 in
theorem ct_X12_levy_r125_44 {Dy : jH → Prop} {h0 : jH} {Q : Option Value → jH → Prop} (hD : jDk Dy) (hQ : ∀ (v : Int32) h', jJ jSgM Dy h' → jSm fp_X12_levy_r125 h0 h' → Q (some (.int v)) h') : ∀ (h : jH), jJ jSgM Dy h → jSm fp_X12_levy_r125 h0 h → jX m_X12_levy 3 0 0 44 [(0, .ref 125)] [] h 0 0 Q := by
  intro  h    J Sm
  refine x_aloadn (x := 125) rfl rfl ?_
  refine x_iconst (v := (-1)) rfl ki_m1 ?_
  refine x_inv (N := m_X12_told) (As := [.int (-1)]) (b := 125) (st := []) (d' := 1) (mc := 0) (ms := 0) (host := "") 12 rfl t_X12_told ⟨Or.inl q_12_197, i_X12_told.1, i_X12_told.2⟩ ⟨by decide, rfl⟩ (congrArg Prod.fst (J.1.1 125 (12, 92) rfl)) rfl (by decide) rfl rfl ⟨by decide, by decide⟩ (sf_X12_told_r125  hD J  (fun v2 h J S1 => ?_))
  have ev2 := jfull v2
  have Sm := jSm_tr rfl Sm S1
  show jX m_X12_levy 3 0 0 49 [(0, .ref 125)] [.int v2] _ 0 0 _
  refine x_iret rfl rfl ?_
  exact hQ _ _ J Sm
set_option maxRecDepth 100000 in
set_option maxHeartbeats 4000000 in
theorem sf_X12_levy_r125 {Dy : jH → Prop} {h : jH} {Q : Option Value → jH → Prop} {a1 : Int32} {a2 : Int32} {a3 : Int32} {a4 : Int32} (hD : jDk Dy) (J : jJ jSgM Dy h) (hQ : ∀ (v : Int32) h', jJ jSgM Dy h' → jSm fp_X12_levy_r125 h h' → Q (some (.int v)) h') : jC m_X12_levy 3 0 0 [.ref 125, .int a1, .int a2, .int a3, .int a4] h Q := by
  refine jC.of rfl k_X12_levy rfl ?_
  have Sm := jSm_rf fp_X12_levy_r125 h
  have ea1 := jfull a1
  have ea2 := jfull a2
  have ea3 := jfull a3
  have ea4 := jfull a4
  show jX m_X12_levy 3 0 0 0 [(0, .ref 125), (1, .int a1), (2, .int a2), (3, .int a3), (4, .int a4)] [] _ 0 0 _
  refine x_aloadn (x := 125) rfl rfl ?_
  refine x_iconst (v := 0) rfl ki_0 ?_
  refine z_putI (N := 92) (w := 0) 12 0 rfl f_12_180 rfl (jfin_no TX12 RX12 92 rfl rfl) hD J Sm rfl rfl jk_0 (pw_125_0 (by omega)) rfl (fun h w1 J Sm => ?_)
  refine x_iloadn (x := a1) rfl rfl ?_
  refine z_i2l rfl rfl (fun v2 ev2 => ?_)
  refine x_lconst (v := 0) rfl kl_0 ?_
  refine x_ldc2 (v := 2) rfl z_12_482 ?_
  refine x_inst (N := m_X12_in) (As := [.long v2, .long 0, .long 2]) (st := []) (d' := 1) (mc := 0) (ms := 0) (host := "") rfl t_X12_in ⟨Or.inl q_12_188, s_X12_in⟩ rfl (by decide) rfl rfl ⟨by decide, by decide⟩ (zc_X12_in rfl jkl_0 jkl_2 (fun v3 ev3 => ?_))
  show jX m_X12_levy 3 0 0 14 [(0, .ref 125), (1, .int a1), (2, .int a2), (3, .int a3), (4, .int a4)] [.int v3] _ 0 0 _
  refine x_ifeq (tgt := 44) rfl rfl (ti_eq rfl jk_0 ⟨fun c4 => ?_, fun c4 => ?_⟩)
  ·
    exact jX.sub (jsb_c rfl jsb_n) (ct_X12_levy_r125_44 hD hQ  h J Sm)
  ·
    refine x_iloadn (x := a2) rfl rfl ?_
    refine x_inst (N := m_X12_isYear) (As := [.int a2]) (st := []) (d' := 2) (mc := 0) (ms := 0) (host := "") rfl t_X12_isYear ⟨Or.inl q_12_817, s_X12_isYear⟩ rfl (by decide) rfl rfl ⟨by decide, by decide⟩ (zc_X12_isYear (d := 1) rfl (fun v5 ev5 => ?_))
    show jX m_X12_levy 3 0 0 21 [(0, .ref 125), (1, .int a1), (2, .int a2), (3, .int a3), (4, .int a4)] [.int v5] _ 0 0 _
    refine x_ifeq (tgt := 44) rfl rfl (ti_eq rfl jk_0 ⟨fun c6 => ?_, fun c6 => ?_⟩)
    ·
      exact jX.sub (jsb_c rfl jsb_n) (ct_X12_levy_r125_44 hD hQ  h J Sm)
    ·
      refine x_iloadn (x := a3) rfl rfl ?_
      refine z_i2l rfl rfl (fun v7 ev7 => ?_)
      refine x_lconst (v := 0) rfl kl_0 ?_
      refine x_ldc2 (v := 1000000) rfl z_12_244 ?_
      refine x_inst (N := m_X12_in) (As := [.long v7, .long 0, .long 1000000]) (st := []) (d' := 1) (mc := 0) (ms := 0) (host := "") rfl t_X12_in ⟨Or.inl q_12_188, s_X12_in⟩ rfl (by decide) rfl rfl ⟨by decide, by decide⟩ (zc_X12_in rfl jkl_0 jkl_1000000 (fun v8 ev8 => ?_))
      show jX m_X12_levy 3 0 0 33 [(0, .ref 125), (1, .int a1), (2, .int a2), (3, .int a3), (4, .int a4)] [.int v8] _ 0 0 _
      refine x_ifeq (tgt := 44) rfl rfl (ti_eq rfl jk_0 ⟨fun c9 => ?_, fun c9 => ?_⟩)
      ·
        exact jX.sub (jsb_c rfl jsb_n) (ct_X12_levy_r125_44 hD hQ  h J Sm)
      ·
        refine x_iload (x := a4) rfl rfl ?_
        refine x_inst (N := m_X12_isDay) (As := [.int a4]) (st := []) (d' := 2) (mc := 0) (ms := 0) (host := "") rfl t_X12_isDay ⟨Or.inl q_12_273, s_X12_isDay⟩ rfl (by decide) rfl rfl ⟨by decide, by decide⟩ (zc_X12_isDay (d := 1) rfl (fun v10 ev10 => ?_))
        show jX m_X12_levy 3 0 0 41 [(0, .ref 125), (1, .int a1), (2, .int a2), (3, .int a3), (4, .int a4)] [.int v10] _ 0 0 _
        refine x_ifne (tgt := 50) rfl rfl (ti_ne rfl jk_0 ⟨fun c11 => ?_, fun c11 => ?_⟩)
        ·
          refine x_aloadn (x := 125) rfl rfl ?_
          refine z_getR (N := 92) (b := 126) 12 2 rfl f_12_8 rfl J rfl 16002 ⟨rfl, rfl⟩ rfl ?_
          refine x_bipush (v := 11) rfl kb_11 ?_
          refine z_iald (N := 50660) rfl J rfl sg_126_11_12_1_0_1 jk_11 (by omega) (fun v12 qv12 ev12 => ?_)
          refine x_bipush (v := 40) rfl kb_40 ?_
          refine x_icne (tgt := 69) rfl rfl (ti_ne rfl jk_40 ⟨fun c13 => ?_, fun c13 => ?_⟩)
          ·
            refine x_aloadn (x := 125) rfl rfl ?_
            refine x_ldcw (v := 48300) rfl z_12_820 ?_
            refine x_iconst (v := 4) rfl ki_4 ?_
            refine x_aloadn (x := 125) rfl rfl ?_
            refine z_getR (N := 92) (b := 126) 12 2 rfl f_12_8 rfl J rfl 16002 ⟨rfl, rfl⟩ rfl ?_
            refine x_bipush (v := 11) rfl kb_11 ?_
            refine z_ialdM (N := 50660) (v := v12) rfl J rfl jk_11 (by omega) qv12 ?_
            refine z_imul rfl jk_4 rfl (by omega) (fun v14 ev14 => ?_)
            refine z_iadd rfl jk_48300 rfl (by omega) (fun v15 ev15 => ?_)
            refine x_iloadn (x := a1) rfl rfl ?_
            refine x_iloadn (x := a2) rfl rfl ?_
            refine x_iloadn (x := a3) rfl rfl ?_
            refine x_iload (x := a4) rfl rfl ?_
            refine x_inv (N := m_X12_addFour) (As := [.int v15, .int a1, .int a2, .int a3, .int a4]) (b := 125) (st := []) (d' := 2) (mc := 0) (ms := 0) (host := "") 12 rfl t_X12_addFour ⟨Or.inl q_12_814, i_X12_addFour.1, i_X12_addFour.2⟩ ⟨by decide, rfl⟩ (congrArg Prod.fst (J.1.1 125 (12, 92) rfl)) rfl (by decide) rfl rfl ⟨by decide, by decide⟩ (jC.of rfl k_X12_addFour rfl ?_)
            show jX m_X12_addFour 2 0 0 0 [(0, .ref 125), (1, .int v15), (2, .int a1), (3, .int a2), (4, .int a3), (5, .int a4)] [] _ 0 0 _
            refine x_aloadn (x := 125) rfl rfl ?_
            refine z_getR (N := 92) (b := 126) 12 2 rfl f_12_8 rfl J rfl 16002 ⟨rfl, rfl⟩ rfl ?_
            refine x_iloadn (x := v15) rfl rfl ?_
            refine x_iloadn (x := a1) rfl rfl ?_
            refine z_iast (N := 50660) (l := 48300) (u := 48460) (w := a1.toInt) rfl hD J Sm rfl rfl rfl (by omega) rfl (wr_126_48300 (by omega) (fun q1 q2 q3 q4 => by omega) (fun q1 q2 q3 q4 => by omega) (fun q1 q2 q3 q4 => by omega) (fun q1 q2 q3 q4 => by omega)) rfl (fun h w16 J Sm => ?_)
            refine x_aloadn (x := 125) rfl rfl ?_
            refine z_getR (N := 92) (b := 126) 12 2 rfl f_12_8 rfl J rfl 16002 ⟨rfl, rfl⟩ rfl ?_
            refine x_iloadn (x := v15) rfl rfl ?_
            refine x_iconst (v := 1) rfl ki_1 ?_
            refine z_iadd rfl rfl jk_1 (by omega) (fun v17 ev17 => ?_)
            refine x_iloadn (x := a2) rfl rfl ?_
            refine z_iast (N := 50660) (l := 48300) (u := 48460) (w := a2.toInt) rfl hD J Sm rfl rfl rfl (by omega) rfl (wr_126_48300 (by omega) (fun q1 q2 q3 q4 => by omega) (fun q1 q2 q3 q4 => by omega) (fun q1 q2 q3 q4 => by omega) (fun q1 q2 q3 q4 => by omega)) rfl (fun h w18 J Sm => ?_)
            refine x_aloadn (x := 125) rfl rfl ?_
            refine z_getR (N := 92) (b := 126) 12 2 rfl f_12_8 rfl J rfl 16002 ⟨rfl, rfl⟩ rfl ?_
            refine x_iloadn (x := v15) rfl rfl ?_
            refine x_iconst (v := 2) rfl ki_2 ?_
            refine z_iadd rfl rfl jk_2 (by omega) (fun v19 ev19 => ?_)
            refine x_iload (x := a3) rfl rfl ?_
            refine z_iast (N := 50660) (l := 48300) (u := 48460) (w := a3.toInt) rfl hD J Sm rfl rfl rfl (by omega) rfl (wr_126_48300 (by omega) (fun q1 q2 q3 q4 => by omega) (fun q1 q2 q3 q4 => by omega) (fun q1 q2 q3 q4 => by omega) (fun q1 q2 q3 q4 => by omega)) rfl (fun h w20 J Sm => ?_)
            refine x_aloadn (x := 125) rfl rfl ?_
            refine z_getR (N := 92) (b := 126) 12 2 rfl f_12_8 rfl J rfl 16002 ⟨rfl, rfl⟩ rfl ?_
            refine x_iloadn (x := v15) rfl rfl ?_
            refine x_iconst (v := 3) rfl ki_3 ?_
            refine z_iadd rfl rfl jk_3 (by omega) (fun v21 ev21 => ?_)
            refine x_iload (x := a4) rfl rfl ?_
            refine z_iast (N := 50660) (l := 48300) (u := 48460) (w := a4.toInt) rfl hD J Sm rfl rfl rfl (by omega) rfl (wr_126_48300 (by omega) (fun q1 q2 q3 q4 => by omega) (fun q1 q2 q3 q4 => by omega) (fun q1 q2 q3 q4 => by omega) (fun q1 q2 q3 q4 => by omega)) rfl (fun h w22 J Sm => ?_)
            refine x_vret rfl rfl ?_
            show jX m_X12_levy 3 0 0 91 [(0, .ref 125), (1, .int a1), (2, .int a2), (3, .int a3), (4, .int a4)] [] _ 0 0 _
            refine x_aloadn (x := 125) rfl rfl ?_
            refine z_getR (N := 92) (b := 126) 12 2 rfl f_12_8 rfl J rfl 16002 ⟨rfl, rfl⟩ rfl ?_
            refine x_bipush (v := 11) rfl kb_11 ?_
            refine x_dup2 rfl rfl rfl ?_
            refine z_ialdM (N := 50660) (v := v12) rfl J rfl jk_11 (by omega) (jmo2 w22 rfl jk_11 (by omega) (jmo2 w20 rfl jk_11 (by omega) (jmo2 w18 rfl jk_11 (by omega) (jmo2 w16 rfl jk_11 (by omega) qv12)))) ?_
            refine x_iconst (v := 1) rfl ki_1 ?_
            refine z_iadd rfl rfl jk_1 (by omega) (fun v23 ev23 => ?_)
            refine z_iast (N := 50660) (l := 11) (u := 12) (w := v23.toInt) rfl hD J Sm rfl rfl jk_11 (by omega) rfl (wr_126_11 (by omega) (fun q1 q2 q3 q4 => by omega)) rfl (fun h w24 J Sm => ?_)
            refine x_aloadn (x := 125) rfl rfl ?_
            refine x_aloadn (x := 125) rfl rfl ?_
            refine z_getR (N := 92) (b := 126) 12 2 rfl f_12_8 rfl J rfl 16002 ⟨rfl, rfl⟩ rfl ?_
            refine x_bipush (v := 11) rfl kb_11 ?_
            refine z_ialdM (N := 50660) (v := v23) rfl J rfl jk_11 (by omega) (jmw w24) ?_
            refine x_iconst (v := 1) rfl ki_1 ?_
            refine z_isub rfl rfl jk_1 (by omega) (fun v25 ev25 => ?_)
            refine x_inv (N := m_X12_told) (As := [.int v25]) (b := 125) (st := []) (d' := 1) (mc := 0) (ms := 0) (host := "") 12 rfl t_X12_told ⟨Or.inl q_12_197, i_X12_told.1, i_X12_told.2⟩ ⟨by decide, rfl⟩ (congrArg Prod.fst (J.1.1 125 (12, 92) rfl)) rfl (by decide) rfl rfl ⟨by decide, by decide⟩ (sf_X12_told_r125  hD J  (fun v27 h J S26 => ?_))
            have ev27 := jfull v27
            have Sm := jSm_tr rfl Sm S26
            show jX m_X12_levy 3 0 0 115 [(0, .ref 125), (1, .int a1), (2, .int a2), (3, .int a3), (4, .int a4)] [.int v27] _ 0 0 _
            refine x_iret rfl rfl ?_
            exact hQ _ _ J Sm
          ·
            refine x_aloadn (x := 125) rfl rfl ?_
            refine x_bipush (v := (-5)) rfl kb_m5 ?_
            refine x_inv (N := m_X12_told) (As := [.int (-5)]) (b := 125) (st := []) (d' := 1) (mc := 0) (ms := 0) (host := "") 12 rfl t_X12_told ⟨Or.inl q_12_197, i_X12_told.1, i_X12_told.2⟩ ⟨by decide, rfl⟩ (congrArg Prod.fst (J.1.1 125 (12, 92) rfl)) rfl (by decide) rfl rfl ⟨by decide, by decide⟩ (sf_X12_told_r125  hD J  (fun v29 h J S28 => ?_))
            have ev29 := jfull v29
            have Sm := jSm_tr rfl Sm S28
            show jX m_X12_levy 3 0 0 68 [(0, .ref 125), (1, .int a1), (2, .int a2), (3, .int a3), (4, .int a4)] [.int v29] _ 0 0 _
            refine x_iret rfl rfl ?_
            exact hQ _ _ J Sm
        ·
          exact jX.sub (jsb_c rfl jsb_n) (ct_X12_levy_r125_44 hD hQ  h J Sm)
def fp_X12_of_r125 : jFp := [(125, 0, 1)]
set_option maxRecDepth 100000 in
set_option maxHeartbeats 4000000 in
theorem ct_X12_of_r125_25 {Dy : jH → Prop} {h0 : jH} {Q : Option Value → jH → Prop} (hD : jDk Dy) (hQ : ∀ (v : Int32) h', jJ jSgM Dy h' → jSm fp_X12_of_r125 h0 h' → Q (some (.int v)) h') : ∀ (h : jH), jJ jSgM Dy h → jSm fp_X12_of_r125 h0 h → jX m_X12_of 3 0 0 25 [] [] h 0 0 Q := by
  intro  h    J Sm
  refine x_bipush (v := (-2)) rfl kb_m2 ?_
  refine x_iret rfl rfl ?_
  exact hQ _ _ J Sm
set_option maxRecDepth 100000 in
set_option maxHeartbeats 4000000 in
theorem ct_X12_of_r125_300087 {Dy : jH → Prop} {h0 : jH} {Q : Option Value → jH → Prop} (hD : jDk Dy) (hQ : ∀ (v : Int32) h', jJ jSgM Dy h' → jSm fp_X12_of_r125 h0 h' → Q (some (.int v)) h') : ∀ (h : jH), jJ jSgM Dy h → jSm fp_X12_of_r125 h0 h → jX m_X12_of 3 0 0 87 [] [.int 1] h 0 0 Q := by
  intro  h    J Sm
  refine x_iret rfl rfl ?_
  exact hQ _ _ J Sm
set_option maxRecDepth 100000 in
set_option maxHeartbeats 4000000 in
theorem ct_X12_of_r125_400087 {Dy : jH → Prop} {h0 : jH} {Q : Option Value → jH → Prop} (hD : jDk Dy) (hQ : ∀ (v : Int32) h', jJ jSgM Dy h' → jSm fp_X12_of_r125 h0 h' → Q (some (.int v)) h') : ∀ (h : jH), jJ jSgM Dy h → jSm fp_X12_of_r125 h0 h → jX m_X12_of 3 0 0 87 [] [.int 2] h 0 0 Q := by
  intro  h    J Sm
  refine x_iret rfl rfl ?_
  exact hQ _ _ J Sm
set_option maxRecDepth 100000 in
set_option maxHeartbeats 4000000 in
theorem ct_X12_of_r125_500087 {Dy : jH → Prop} {h0 : jH} {Q : Option Value → jH → Prop} (hD : jDk Dy) (hQ : ∀ (v : Int32) h', jJ jSgM Dy h' → jSm fp_X12_of_r125 h0 h' → Q (some (.int v)) h') : ∀ (h : jH), jJ jSgM Dy h → jSm fp_X12_of_r125 h0 h → jX m_X12_of 3 0 0 87 [] [.int 3] h 0 0 Q := by
  intro  h    J Sm
  refine x_iret rfl rfl ?_
  exact hQ _ _ J Sm
set_option maxRecDepth 100000 in
set_option maxHeartbeats 4000000 in
theorem ct_X12_of_r125_87 {Dy : jH → Prop} {h0 : jH} {Q : Option Value → jH → Prop} (hD : jDk Dy) (hQ : ∀ (v : Int32) h', jJ jSgM Dy h' → jSm fp_X12_of_r125 h0 h' → Q (some (.int v)) h') : ∀ (s0 : Int32) (h : jH), jJ jSgM Dy h → jSm fp_X12_of_r125 h0 h → jX m_X12_of 3 0 0 87 [] [.int s0] h 0 0 Q := by
  intro s0 h    J Sm
  have es0 := jfull s0
  refine x_iret rfl rfl ?_
  exact hQ _ _ J Sm
set_option maxRecDepth 100000 in
set_option maxHeartbeats 4000000 in
theorem sf_X12_of_r125 {Dy : jH → Prop} {h : jH} {Q : Option Value → jH → Prop} {a1 : Int32} {a2 : Int32} (hD : jDk Dy) (J : jJ jSgM Dy h) (hQ : ∀ (v : Int32) h', jJ jSgM Dy h' → jSm fp_X12_of_r125 h h' → Q (some (.int v)) h') : jC m_X12_of 3 0 0 [.ref 125, .int a1, .int a2] h Q := by
  refine jC.of rfl k_X12_of rfl ?_
  have Sm := jSm_rf fp_X12_of_r125 h
  have ea1 := jfull a1
  have ea2 := jfull a2
  show jX m_X12_of 3 0 0 0 [(0, .ref 125), (1, .int a1), (2, .int a2)] [] _ 0 0 _
  refine x_aloadn (x := 125) rfl rfl ?_
  refine x_iconst (v := 0) rfl ki_0 ?_
  refine z_putI (N := 92) (w := 0) 12 0 rfl f_12_180 rfl (jfin_no TX12 RX12 92 rfl rfl) hD J Sm rfl rfl jk_0 (pw_125_0 (by omega)) rfl (fun h w1 J Sm => ?_)
  refine x_aloadn (x := 125) rfl rfl ?_
  refine x_iloadn (x := a1) rfl rfl ?_
  refine x_inv (N := m_X12_isLine) (As := [.int a1]) (b := 125) (st := []) (d' := 2) (mc := 0) (ms := 0) (host := "") 12 rfl t_X12_isLine ⟨Or.inl q_12_293, i_X12_isLine.1, i_X12_isLine.2⟩ ⟨by decide, rfl⟩ (congrArg Prod.fst (J.1.1 125 (12, 92) rfl)) rfl (by decide) rfl rfl ⟨by decide, by decide⟩ (jC.of rfl k_X12_isLine rfl ?_)
  show jX m_X12_isLine 2 0 0 0 [(0, .ref 125), (1, .int a1)] [] _ 0 0 _
  refine x_iloadn (x := a1) rfl rfl ?_
  refine z_i2l rfl rfl (fun v2 ev2 => ?_)
  refine x_lconst (v := 0) rfl kl_0 ?_
  refine x_aloadn (x := 125) rfl rfl ?_
  refine z_getR (N := 92) (b := 126) 12 2 rfl f_12_8 rfl J rfl 16002 ⟨rfl, rfl⟩ rfl ?_
  refine x_iconst (v := 0) rfl ki_0 ?_
  refine z_iald (N := 50660) rfl J rfl sg_126_0_1_1_0_1 jk_0 (by omega) (fun v3 qv3 ev3 => ?_)
  refine z_i2l rfl rfl (fun v4 ev4 => ?_)
  refine x_lconst (v := 1) rfl kl_1 ?_
  refine z_lsub rfl rfl jkl_1 (by omega) (fun v5 ev5 => ?_)
  refine x_inst (N := m_X12_in) (As := [.long v2, .long 0, .long v5]) (st := []) (d' := 1) (mc := 0) (ms := 0) (host := "") rfl t_X12_in ⟨Or.inl q_12_188, s_X12_in⟩ rfl (by decide) rfl rfl ⟨by decide, by decide⟩ (zc_X12_in rfl jkl_0 rfl (fun v6 ev6 => ?_))
  show jX m_X12_isLine 2 0 0 15 [(0, .ref 125), (1, .int a1)] [.int v6] _ 0 0 _
  refine x_zret rfl rfl (jz01 (by omega)) ?_
  show jX m_X12_of 3 0 0 10 [(0, .ref 125), (1, .int a1), (2, .int a2)] [.int v6] _ 0 0 _
  refine x_ifeq (tgt := 25) rfl rfl (ti_eq rfl jk_0 ⟨fun c7 => ?_, fun c7 => ?_⟩)
  ·
    exact jX.sub jsb_n (ct_X12_of_r125_25 hD hQ  h J Sm)
  ·
    refine x_iloadn (x := a2) rfl rfl ?_
    refine z_i2l rfl rfl (fun v8 ev8 => ?_)
    refine x_lconst (v := 0) rfl kl_0 ?_
    refine x_ldc2 (v := 5) rfl z_12_269 ?_
    refine x_inst (N := m_X12_in) (As := [.long v8, .long 0, .long 5]) (st := []) (d' := 1) (mc := 0) (ms := 0) (host := "") rfl t_X12_in ⟨Or.inl q_12_188, s_X12_in⟩ rfl (by decide) rfl rfl ⟨by decide, by decide⟩ (zc_X12_in rfl jkl_0 jkl_5 (fun v9 ev9 => ?_))
    show jX m_X12_of 3 0 0 22 [(0, .ref 125), (1, .int a1), (2, .int a2)] [.int v9] _ 0 0 _
    refine x_ifne (tgt := 28) rfl rfl (ti_ne rfl jk_0 ⟨fun c10 => ?_, fun c10 => ?_⟩)
    ·
      refine x_aloadn (x := 125) rfl rfl ?_
      refine x_iloadn (x := a1) rfl rfl ?_
      refine x_inv (N := m_X12_at) (As := [.int a1]) (b := 125) (st := []) (d' := 2) (mc := 0) (ms := 0) (host := "") 12 rfl t_X12_at ⟨Or.inl q_12_254, i_X12_at.1, i_X12_at.2⟩ ⟨by decide, rfl⟩ (congrArg Prod.fst (J.1.1 125 (12, 92) rfl)) rfl (by decide) rfl rfl ⟨by decide, by decide⟩ (jC.of rfl k_X12_at rfl ?_)
      show jX m_X12_at 2 0 0 0 [(0, .ref 125), (1, .int a1)] [] _ 0 0 _
      refine x_bipush (v := 20) rfl kb_20 ?_
      refine x_bipush (v := 90) rfl kb_90 ?_
      refine x_iloadn (x := a1) rfl rfl ?_
      refine z_imul rfl jk_90 rfl (by omega) (fun v11 ev11 => ?_)
      refine z_iadd rfl jk_20 rfl (by omega) (fun v12 ev12 => ?_)
      refine x_iret rfl rfl ?_
      show jX m_X12_of 3 0 0 33 [(0, .ref 125), (1, .int a1), (2, .int a2)] [.int v12] _ 0 0 _
      refine x_istoren (ls' := [(3, .int v12), (0, .ref 125), (1, .int a1), (2, .int a2)]) rfl rfl rfl ?_
      refine x_iloadn (x := a2) rfl rfl ?_
      refine x_iconst (v := 3) rfl ki_3 ?_
      refine x_icge (tgt := 50) rfl rfl (ti_ge rfl jk_3 ⟨fun c13 => ?_, fun c13 => ?_⟩)
      ·
        refine x_iloadn (x := a2) rfl rfl ?_
        refine x_iconst (v := 3) rfl ki_3 ?_
        refine x_icne (tgt := 63) rfl rfl (ti_ne rfl jk_3 ⟨fun c14 => ?_, fun c14 => ?_⟩)
        ·
          refine x_iloadn (x := a2) rfl rfl ?_
          refine x_iconst (v := 4) rfl ki_4 ?_
          refine x_icne (tgt := 79) rfl rfl (ti_ne rfl jk_4 ⟨fun c15 => ?_, fun c15 => ?_⟩)
          ·
            refine x_aloadn (x := 125) rfl rfl ?_
            refine x_iloadn (x := a1) rfl rfl ?_
            refine x_inv (N := m_X12_bookOf) (As := [.int a1]) (b := 125) (st := []) (d' := 2) (mc := 0) (ms := 0) (host := "") 12 rfl t_X12_bookOf ⟨Or.inl q_12_299, i_X12_bookOf.1, i_X12_bookOf.2⟩ ⟨by decide, rfl⟩ (congrArg Prod.fst (J.1.1 125 (12, 92) rfl)) rfl (by decide) rfl rfl ⟨by decide, by decide⟩ (jC.of rfl k_X12_bookOf rfl ?_)
            show jX m_X12_bookOf 2 0 0 0 [(0, .ref 125), (1, .int a1)] [] _ 0 0 _
            refine x_aloadn (x := 125) rfl rfl ?_
            refine z_getR (N := 92) (b := 126) 12 2 rfl f_12_8 rfl J rfl 16002 ⟨rfl, rfl⟩ rfl ?_
            refine x_aloadn (x := 125) rfl rfl ?_
            refine x_iloadn (x := a1) rfl rfl ?_
            refine x_inv (N := m_X12_at) (As := [.int a1]) (b := 125) (st := [.ref 126]) (d' := 1) (mc := 0) (ms := 0) (host := "") 12 rfl t_X12_at ⟨Or.inl q_12_254, i_X12_at.1, i_X12_at.2⟩ ⟨by decide, rfl⟩ (congrArg Prod.fst (J.1.1 125 (12, 92) rfl)) rfl (by decide) rfl rfl ⟨by decide, by decide⟩ (jC.of rfl k_X12_at rfl ?_)
            show jX m_X12_at 1 0 0 0 [(0, .ref 125), (1, .int a1)] [] _ 0 0 _
            refine x_bipush (v := 20) rfl kb_20 ?_
            refine x_bipush (v := 90) rfl kb_90 ?_
            refine x_iloadn (x := a1) rfl rfl ?_
            refine z_imul rfl jk_90 rfl (by omega) (fun v16 ev16 => ?_)
            refine z_iadd rfl jk_20 rfl (by omega) (fun v17 ev17 => ?_)
            refine x_iret rfl rfl ?_
            show jX m_X12_bookOf 2 0 0 9 [(0, .ref 125), (1, .int a1)] [.int v17, .ref 126] _ 0 0 _
            refine z_iald (N := 50660) rfl J rfl sg_126_20_18020_90_0_1 rfl (by omega) (fun v18 qv18 ev18 => ?_)
            refine x_iret rfl rfl ?_
            show jX m_X12_of 3 0 0 84 [(3, .int v12), (0, .ref 125), (1, .int a1), (2, .int a2)] [.int v18] _ 0 0 _
            refine x_inst (N := m_X12_rolesOf) (As := [.int v18]) (st := []) (d' := 2) (mc := 0) (ms := 0) (host := "") rfl t_X12_rolesOf ⟨Or.inl q_12_286, s_X12_rolesOf⟩ rfl (by decide) rfl rfl ⟨by decide, by decide⟩ (jC.of rfl k_X12_rolesOf rfl ?_)
            show jX m_X12_rolesOf 2 0 0 0 [(0, .int v18)] [] _ 0 0 _
            refine x_iloadn (x := v18) rfl rfl ?_
            refine x_ifne (tgt := 8) rfl rfl (ti_ne rfl jk_0 ⟨fun c19 => ?_, fun c19 => ?_⟩)
            ·
              refine x_iloadn (x := v18) rfl rfl ?_
              refine x_iconst (v := 1) rfl ki_1 ?_
              refine x_icne (tgt := 17) rfl rfl (ti_ne rfl jk_1 ⟨fun c20 => ?_, fun c20 => ?_⟩)
              ·
                refine x_iconst (v := 1) rfl ki_1 ?_
                refine x_iret rfl rfl ?_
                show jX m_X12_of 3 0 0 87 [(3, .int v12), (0, .ref 125), (1, .int a1), (2, .int a2)] [.int 1] _ 0 0 _
                exact jX.sub jsb_n (ct_X12_of_r125_300087 hD hQ  h J Sm)
              ·
                refine x_iconst (v := 2) rfl ki_2 ?_
                refine x_goto (tgt := 18) rfl rfl ?_
                refine x_iret rfl rfl ?_
                show jX m_X12_of 3 0 0 87 [(3, .int v12), (0, .ref 125), (1, .int a1), (2, .int a2)] [.int 2] _ 0 0 _
                exact jX.sub jsb_n (ct_X12_of_r125_400087 hD hQ  h J Sm)
            ·
              refine x_iconst (v := 3) rfl ki_3 ?_
              refine x_goto (tgt := 18) rfl rfl ?_
              refine x_iret rfl rfl ?_
              show jX m_X12_of 3 0 0 87 [(3, .int v12), (0, .ref 125), (1, .int a1), (2, .int a2)] [.int 3] _ 0 0 _
              exact jX.sub jsb_n (ct_X12_of_r125_500087 hD hQ  h J Sm)
          ·
            refine x_aloadn (x := 125) rfl rfl ?_
            refine z_getR (N := 92) (b := 126) 12 2 rfl f_12_8 rfl J rfl 16002 ⟨rfl, rfl⟩ rfl ?_
            refine x_iloadn (x := v12) rfl rfl ?_
            refine x_iconst (v := 5) rfl ki_5 ?_
            refine z_iadd rfl rfl jk_5 (by omega) (fun v21 ev21 => ?_)
            refine z_iald (N := 50660) rfl J rfl sg_126_20_18020_90_5_6 rfl (by omega) (fun v22 qv22 ev22 => ?_)
            refine x_goto (tgt := 87) rfl rfl ?_
            exact jX.sub jsb_n (ct_X12_of_r125_87 hD hQ  v22 h J Sm)
        ·
          refine x_aloadn (x := 125) rfl rfl ?_
          refine x_iloadn (x := a1) rfl rfl ?_
          refine x_inv (N := m_X12_numberOf) (As := [.int a1]) (b := 125) (st := []) (d' := 2) (mc := 0) (ms := 0) (host := "") 12 rfl t_X12_numberOf ⟨Or.inl q_12_296, i_X12_numberOf.1, i_X12_numberOf.2⟩ ⟨by decide, rfl⟩ (congrArg Prod.fst (J.1.1 125 (12, 92) rfl)) rfl (by decide) rfl rfl ⟨by decide, by decide⟩ (jC.of rfl k_X12_numberOf rfl ?_)
          show jX m_X12_numberOf 2 0 0 0 [(0, .ref 125), (1, .int a1)] [] _ 0 0 _
          refine x_aloadn (x := 125) rfl rfl ?_
          refine z_getR (N := 92) (b := 126) 12 2 rfl f_12_8 rfl J rfl 16002 ⟨rfl, rfl⟩ rfl ?_
          refine x_aloadn (x := 125) rfl rfl ?_
          refine x_iloadn (x := a1) rfl rfl ?_
          refine x_inv (N := m_X12_at) (As := [.int a1]) (b := 125) (st := [.ref 126]) (d' := 1) (mc := 0) (ms := 0) (host := "") 12 rfl t_X12_at ⟨Or.inl q_12_254, i_X12_at.1, i_X12_at.2⟩ ⟨by decide, rfl⟩ (congrArg Prod.fst (J.1.1 125 (12, 92) rfl)) rfl (by decide) rfl rfl ⟨by decide, by decide⟩ (jC.of rfl k_X12_at rfl ?_)
          show jX m_X12_at 1 0 0 0 [(0, .ref 125), (1, .int a1)] [] _ 0 0 _
          refine x_bipush (v := 20) rfl kb_20 ?_
          refine x_bipush (v := 90) rfl kb_90 ?_
          refine x_iloadn (x := a1) rfl rfl ?_
          refine z_imul rfl jk_90 rfl (by omega) (fun v23 ev23 => ?_)
          refine z_iadd rfl jk_20 rfl (by omega) (fun v24 ev24 => ?_)
          refine x_iret rfl rfl ?_
          show jX m_X12_numberOf 2 0 0 9 [(0, .ref 125), (1, .int a1)] [.int v24, .ref 126] _ 0 0 _
          refine x_iconst (v := 4) rfl ki_4 ?_
          refine z_iadd rfl rfl jk_4 (by omega) (fun v25 ev25 => ?_)
          refine z_iald0 (N := 50660) rfl J rfl rfl (by omega) (fun v26 qv26 => ?_)
          have ev26 := jfull v26
          refine x_iret rfl rfl ?_
          show jX m_X12_of 3 0 0 60 [(3, .int v12), (0, .ref 125), (1, .int a1), (2, .int a2)] [.int v26] _ 0 0 _
          refine x_goto (tgt := 87) rfl rfl ?_
          exact jX.sub jsb_n (ct_X12_of_r125_87 hD hQ  v26 h J Sm)
      ·
        refine x_aloadn (x := 125) rfl rfl ?_
        refine z_getR (N := 92) (b := 126) 12 2 rfl f_12_8 rfl J rfl 16002 ⟨rfl, rfl⟩ rfl ?_
        refine x_iloadn (x := v12) rfl rfl ?_
        refine x_iloadn (x := a2) rfl rfl ?_
        refine z_iadd rfl rfl rfl (by omega) (fun v27 ev27 => ?_)
        refine z_iald0 (N := 50660) rfl J rfl rfl (by omega) (fun v28 qv28 => ?_)
        have ev28 := jfull v28
        refine x_goto (tgt := 87) rfl rfl ?_
        exact jX.sub jsb_n (ct_X12_of_r125_87 hD hQ  v28 h J Sm)
    ·
      exact jX.sub jsb_n (ct_X12_of_r125_25 hD hQ  h J Sm)
def fp_X12_pay_r125 : jFp := [(125, 0, 1), (125, 1, 2), (126, 12, 13), (126, 48460, 48960)]
set_option maxRecDepth 100000 in
set_option maxHeartbeats 4000000 in
theorem ct_X12_pay_r125_33 {Dy : jH → Prop} {h0 : jH} {Q : Option Value → jH → Prop} (hD : jDk Dy) (hQ : ∀ (v : Int32) h', jJ jSgM Dy h' → jSm fp_X12_pay_r125 h0 h' → Q (some (.int v)) h') : ∀ (h : jH), jJ jSgM Dy h → jSm fp_X12_pay_r125 h0 h → jX m_X12_pay 3 0 0 33 [(0, .ref 125)] [] h 0 0 Q := by
  intro  h    J Sm
  refine x_aloadn (x := 125) rfl rfl ?_
  refine x_iconst (v := (-1)) rfl ki_m1 ?_
  refine x_inv (N := m_X12_told) (As := [.int (-1)]) (b := 125) (st := []) (d' := 1) (mc := 0) (ms := 0) (host := "") 12 rfl t_X12_told ⟨Or.inl q_12_197, i_X12_told.1, i_X12_told.2⟩ ⟨by decide, rfl⟩ (congrArg Prod.fst (J.1.1 125 (12, 92) rfl)) rfl (by decide) rfl rfl ⟨by decide, by decide⟩ (sf_X12_told_r125  hD J  (fun v2 h J S1 => ?_))
  have ev2 := jfull v2
  have Sm := jSm_tr rfl Sm S1
  show jX m_X12_pay 3 0 0 38 [(0, .ref 125)] [.int v2] _ 0 0 _
  refine x_iret rfl rfl ?_
  exact hQ _ _ J Sm
set_option maxRecDepth 100000 in
set_option maxHeartbeats 4000000 in
theorem ct_X12_pay_r125_55 {Dy : jH → Prop} {h0 : jH} {Q : Option Value → jH → Prop} (hD : jDk Dy) (hQ : ∀ (v : Int32) h', jJ jSgM Dy h' → jSm fp_X12_pay_r125 h0 h' → Q (some (.int v)) h') : ∀ (h : jH), jJ jSgM Dy h → jSm fp_X12_pay_r125 h0 h → jX m_X12_pay 3 0 0 55 [(0, .ref 125)] [] h 0 0 Q := by
  intro  h    J Sm
  refine x_aloadn (x := 125) rfl rfl ?_
  refine x_bipush (v := (-2)) rfl kb_m2 ?_
  refine x_inv (N := m_X12_told) (As := [.int (-2)]) (b := 125) (st := []) (d' := 1) (mc := 0) (ms := 0) (host := "") 12 rfl t_X12_told ⟨Or.inl q_12_197, i_X12_told.1, i_X12_told.2⟩ ⟨by decide, rfl⟩ (congrArg Prod.fst (J.1.1 125 (12, 92) rfl)) rfl (by decide) rfl rfl ⟨by decide, by decide⟩ (sf_X12_told_r125  hD J  (fun v2 h J S1 => ?_))
  have ev2 := jfull v2
  have Sm := jSm_tr rfl Sm S1
  show jX m_X12_pay 3 0 0 61 [(0, .ref 125)] [.int v2] _ 0 0 _
  refine x_iret rfl rfl ?_
  exact hQ _ _ J Sm
set_option maxRecDepth 100000 in
set_option maxHeartbeats 4000000 in
theorem sf_X12_pay_r125 {Dy : jH → Prop} {h : jH} {Q : Option Value → jH → Prop} {a1 : Int32} {a2 : Int32} {a3 : Int32} {a4 : Int32} {a5 : Int32} (hD : jDk Dy) (J : jJ jSgM Dy h) (hQ : ∀ (v : Int32) h', jJ jSgM Dy h' → jSm fp_X12_pay_r125 h h' → Q (some (.int v)) h') : jC m_X12_pay 3 0 0 [.ref 125, .int a1, .int a2, .int a3, .int a4, .int a5] h Q := by
  refine jC.of rfl k_X12_pay rfl ?_
  have Sm := jSm_rf fp_X12_pay_r125 h
  have ea1 := jfull a1
  have ea2 := jfull a2
  have ea3 := jfull a3
  have ea4 := jfull a4
  have ea5 := jfull a5
  show jX m_X12_pay 3 0 0 0 [(0, .ref 125), (1, .int a1), (2, .int a2), (3, .int a3), (4, .int a4), (5, .int a5)] [] _ 0 0 _
  refine x_aloadn (x := 125) rfl rfl ?_
  refine x_iconst (v := 0) rfl ki_0 ?_
  refine z_putI (N := 92) (w := 0) 12 0 rfl f_12_180 rfl (jfin_no TX12 RX12 92 rfl rfl) hD J Sm rfl rfl jk_0 (pw_125_0 (by omega)) rfl (fun h w1 J Sm => ?_)
  refine x_iloadn (x := a3) rfl rfl ?_
  refine z_i2l rfl rfl (fun v2 ev2 => ?_)
  refine x_lconst (v := 1) rfl kl_1 ?_
  refine x_ldc2 (v := 1000000) rfl z_12_244 ?_
  refine x_inst (N := m_X12_in) (As := [.long v2, .long 1, .long 1000000]) (st := []) (d' := 1) (mc := 0) (ms := 0) (host := "") rfl t_X12_in ⟨Or.inl q_12_188, s_X12_in⟩ rfl (by decide) rfl rfl ⟨by decide, by decide⟩ (zc_X12_in rfl jkl_1 jkl_1000000 (fun v3 ev3 => ?_))
  show jX m_X12_pay 3 0 0 14 [(0, .ref 125), (1, .int a1), (2, .int a2), (3, .int a3), (4, .int a4), (5, .int a5)] [.int v3] _ 0 0 _
  refine x_ifeq (tgt := 33) rfl rfl (ti_eq rfl jk_0 ⟨fun c4 => ?_, fun c4 => ?_⟩)
  ·
    exact jX.sub (jsb_c rfl jsb_n) (ct_X12_pay_r125_33 hD hQ  h J Sm)
  ·
    refine x_iload (x := a4) rfl rfl ?_
    refine x_inst (N := m_X12_isDay) (As := [.int a4]) (st := []) (d' := 2) (mc := 0) (ms := 0) (host := "") rfl t_X12_isDay ⟨Or.inl q_12_273, s_X12_isDay⟩ rfl (by decide) rfl rfl ⟨by decide, by decide⟩ (zc_X12_isDay (d := 1) rfl (fun v5 ev5 => ?_))
    show jX m_X12_pay 3 0 0 22 [(0, .ref 125), (1, .int a1), (2, .int a2), (3, .int a3), (4, .int a4), (5, .int a5)] [.int v5] _ 0 0 _
    refine x_ifeq (tgt := 33) rfl rfl (ti_eq rfl jk_0 ⟨fun c6 => ?_, fun c6 => ?_⟩)
    ·
      exact jX.sub (jsb_c rfl jsb_n) (ct_X12_pay_r125_33 hD hQ  h J Sm)
    ·
      refine x_iload (x := a5) rfl rfl ?_
      refine x_inst (N := m_X12_isDay) (As := [.int a5]) (st := []) (d' := 2) (mc := 0) (ms := 0) (host := "") rfl t_X12_isDay ⟨Or.inl q_12_273, s_X12_isDay⟩ rfl (by decide) rfl rfl ⟨by decide, by decide⟩ (zc_X12_isDay (d := 1) rfl (fun v7 ev7 => ?_))
      show jX m_X12_pay 3 0 0 30 [(0, .ref 125), (1, .int a1), (2, .int a2), (3, .int a3), (4, .int a4), (5, .int a5)] [.int v7] _ 0 0 _
      refine x_ifne (tgt := 39) rfl rfl (ti_ne rfl jk_0 ⟨fun c8 => ?_, fun c8 => ?_⟩)
      ·
        refine x_aloadn (x := 125) rfl rfl ?_
        refine x_iloadn (x := a1) rfl rfl ?_
        refine x_inv (N := m_X12_isLevy) (As := [.int a1]) (b := 125) (st := []) (d' := 2) (mc := 0) (ms := 0) (host := "") 12 rfl t_X12_isLevy ⟨Or.inl q_12_824, i_X12_isLevy.1, i_X12_isLevy.2⟩ ⟨by decide, rfl⟩ (congrArg Prod.fst (J.1.1 125 (12, 92) rfl)) rfl (by decide) rfl rfl ⟨by decide, by decide⟩ (jC.of rfl k_X12_isLevy rfl ?_)
        show jX m_X12_isLevy 2 0 0 0 [(0, .ref 125), (1, .int a1)] [] _ 0 0 _
        refine x_iloadn (x := a1) rfl rfl ?_
        refine z_i2l rfl rfl (fun v9 ev9 => ?_)
        refine x_lconst (v := 0) rfl kl_0 ?_
        refine x_aloadn (x := 125) rfl rfl ?_
        refine z_getR (N := 92) (b := 126) 12 2 rfl f_12_8 rfl J rfl 16002 ⟨rfl, rfl⟩ rfl ?_
        refine x_bipush (v := 11) rfl kb_11 ?_
        refine z_iald (N := 50660) rfl J rfl sg_126_11_12_1_0_1 jk_11 (by omega) (fun v10 qv10 ev10 => ?_)
        refine z_i2l rfl rfl (fun v11 ev11 => ?_)
        refine x_lconst (v := 1) rfl kl_1 ?_
        refine z_lsub rfl rfl jkl_1 (by omega) (fun v12 ev12 => ?_)
        refine x_inst (N := m_X12_in) (As := [.long v9, .long 0, .long v12]) (st := []) (d' := 1) (mc := 0) (ms := 0) (host := "") rfl t_X12_in ⟨Or.inl q_12_188, s_X12_in⟩ rfl (by decide) rfl rfl ⟨by decide, by decide⟩ (zc_X12_in rfl jkl_0 rfl (fun v13 ev13 => ?_))
        show jX m_X12_isLevy 2 0 0 16 [(0, .ref 125), (1, .int a1)] [.int v13] _ 0 0 _
        refine x_zret rfl rfl (jz01 (by omega)) ?_
        show jX m_X12_pay 3 0 0 44 [(0, .ref 125), (1, .int a1), (2, .int a2), (3, .int a3), (4, .int a4), (5, .int a5)] [.int v13] _ 0 0 _
        refine x_ifeq (tgt := 55) rfl rfl (ti_eq rfl jk_0 ⟨fun c14 => ?_, fun c14 => ?_⟩)
        ·
          exact jX.sub (jsb_c rfl jsb_n) (ct_X12_pay_r125_55 hD hQ  h J Sm)
        ·
          refine x_aloadn (x := 125) rfl rfl ?_
          refine x_iloadn (x := a2) rfl rfl ?_
          refine x_inv (N := m_X12_isHolding) (As := [.int a2]) (b := 125) (st := []) (d' := 2) (mc := 0) (ms := 0) (host := "") 12 rfl t_X12_isHolding ⟨Or.inl q_12_811, i_X12_isHolding.1, i_X12_isHolding.2⟩ ⟨by decide, rfl⟩ (congrArg Prod.fst (J.1.1 125 (12, 92) rfl)) rfl (by decide) rfl rfl ⟨by decide, by decide⟩ (jC.of rfl k_X12_isHolding rfl ?_)
          show jX m_X12_isHolding 2 0 0 0 [(0, .ref 125), (1, .int a2)] [] _ 0 0 _
          refine x_iloadn (x := a2) rfl rfl ?_
          refine z_i2l rfl rfl (fun v15 ev15 => ?_)
          refine x_lconst (v := 0) rfl kl_0 ?_
          refine x_aloadn (x := 125) rfl rfl ?_
          refine z_getR (N := 92) (b := 126) 12 2 rfl f_12_8 rfl J rfl 16002 ⟨rfl, rfl⟩ rfl ?_
          refine x_bipush (v := 7) rfl kb_7 ?_
          refine z_iald (N := 50660) rfl J rfl sg_126_7_8_1_0_1 jk_7 (by omega) (fun v16 qv16 ev16 => ?_)
          refine z_i2l rfl rfl (fun v17 ev17 => ?_)
          refine x_lconst (v := 1) rfl kl_1 ?_
          refine z_lsub rfl rfl jkl_1 (by omega) (fun v18 ev18 => ?_)
          refine x_inst (N := m_X12_in) (As := [.long v15, .long 0, .long v18]) (st := []) (d' := 1) (mc := 0) (ms := 0) (host := "") rfl t_X12_in ⟨Or.inl q_12_188, s_X12_in⟩ rfl (by decide) rfl rfl ⟨by decide, by decide⟩ (zc_X12_in rfl jkl_0 rfl (fun v19 ev19 => ?_))
          show jX m_X12_isHolding 2 0 0 16 [(0, .ref 125), (1, .int a2)] [.int v19] _ 0 0 _
          refine x_zret rfl rfl (jz01 (by omega)) ?_
          show jX m_X12_pay 3 0 0 52 [(0, .ref 125), (1, .int a1), (2, .int a2), (3, .int a3), (4, .int a4), (5, .int a5)] [.int v19] _ 0 0 _
          refine x_ifne (tgt := 62) rfl rfl (ti_ne rfl jk_0 ⟨fun c20 => ?_, fun c20 => ?_⟩)
          ·
            refine x_aloadn (x := 125) rfl rfl ?_
            refine z_getR (N := 92) (b := 126) 12 2 rfl f_12_8 rfl J rfl 16002 ⟨rfl, rfl⟩ rfl ?_
            refine x_bipush (v := 12) rfl kb_12 ?_
            refine z_iald (N := 50660) rfl J rfl sg_126_12_13_1_0_1 jk_12 (by omega) (fun v21 qv21 ev21 => ?_)
            refine x_bipush (v := 100) rfl kb_100 ?_
            refine x_icne (tgt := 81) rfl rfl (ti_ne rfl jk_100 ⟨fun c22 => ?_, fun c22 => ?_⟩)
            ·
              refine x_ldcw (v := 48460) rfl z_12_830 ?_
              refine x_iconst (v := 5) rfl ki_5 ?_
              refine x_aloadn (x := 125) rfl rfl ?_
              refine z_getR (N := 92) (b := 126) 12 2 rfl f_12_8 rfl J rfl 16002 ⟨rfl, rfl⟩ rfl ?_
              refine x_bipush (v := 12) rfl kb_12 ?_
              refine z_ialdM (N := 50660) (v := v21) rfl J rfl jk_12 (by omega) qv21 ?_
              refine z_imul rfl jk_5 rfl (by omega) (fun v23 ev23 => ?_)
              refine z_iadd rfl jk_48460 rfl (by omega) (fun v24 ev24 => ?_)
              refine x_istore (ls' := [(6, .int v24), (0, .ref 125), (1, .int a1), (2, .int a2), (3, .int a3), (4, .int a4), (5, .int a5)]) rfl rfl rfl ?_
              refine x_aloadn (x := 125) rfl rfl ?_
              refine x_iload (x := v24) rfl rfl ?_
              refine x_iloadn (x := a1) rfl rfl ?_
              refine x_iloadn (x := a2) rfl rfl ?_
              refine x_iloadn (x := a3) rfl rfl ?_
              refine x_iload (x := a4) rfl rfl ?_
              refine x_inv (N := m_X12_addFour) (As := [.int v24, .int a1, .int a2, .int a3, .int a4]) (b := 125) (st := []) (d' := 2) (mc := 0) (ms := 0) (host := "") 12 rfl t_X12_addFour ⟨Or.inl q_12_814, i_X12_addFour.1, i_X12_addFour.2⟩ ⟨by decide, rfl⟩ (congrArg Prod.fst (J.1.1 125 (12, 92) rfl)) rfl (by decide) rfl rfl ⟨by decide, by decide⟩ (jC.of rfl k_X12_addFour rfl ?_)
              show jX m_X12_addFour 2 0 0 0 [(0, .ref 125), (1, .int v24), (2, .int a1), (3, .int a2), (4, .int a3), (5, .int a4)] [] _ 0 0 _
              refine x_aloadn (x := 125) rfl rfl ?_
              refine z_getR (N := 92) (b := 126) 12 2 rfl f_12_8 rfl J rfl 16002 ⟨rfl, rfl⟩ rfl ?_
              refine x_iloadn (x := v24) rfl rfl ?_
              refine x_iloadn (x := a1) rfl rfl ?_
              refine z_iast (N := 50660) (l := 48460) (u := 48960) (w := a1.toInt) rfl hD J Sm rfl rfl rfl (by omega) rfl (wr_126_48460 (by omega) (fun q1 q2 q3 q4 => by omega) (fun q1 q2 q3 q4 => by omega) (fun q1 q2 q3 q4 => by omega) (fun q1 q2 q3 q4 => by omega) (fun q1 q2 q3 q4 => by omega)) rfl (fun h w25 J Sm => ?_)
              refine x_aloadn (x := 125) rfl rfl ?_
              refine z_getR (N := 92) (b := 126) 12 2 rfl f_12_8 rfl J rfl 16002 ⟨rfl, rfl⟩ rfl ?_
              refine x_iloadn (x := v24) rfl rfl ?_
              refine x_iconst (v := 1) rfl ki_1 ?_
              refine z_iadd rfl rfl jk_1 (by omega) (fun v26 ev26 => ?_)
              refine x_iloadn (x := a2) rfl rfl ?_
              refine z_iast (N := 50660) (l := 48460) (u := 48960) (w := a2.toInt) rfl hD J Sm rfl rfl rfl (by omega) rfl (wr_126_48460 (by omega) (fun q1 q2 q3 q4 => by omega) (fun q1 q2 q3 q4 => by omega) (fun q1 q2 q3 q4 => by omega) (fun q1 q2 q3 q4 => by omega) (fun q1 q2 q3 q4 => by omega)) rfl (fun h w27 J Sm => ?_)
              refine x_aloadn (x := 125) rfl rfl ?_
              refine z_getR (N := 92) (b := 126) 12 2 rfl f_12_8 rfl J rfl 16002 ⟨rfl, rfl⟩ rfl ?_
              refine x_iloadn (x := v24) rfl rfl ?_
              refine x_iconst (v := 2) rfl ki_2 ?_
              refine z_iadd rfl rfl jk_2 (by omega) (fun v28 ev28 => ?_)
              refine x_iload (x := a3) rfl rfl ?_
              refine z_iast (N := 50660) (l := 48460) (u := 48960) (w := a3.toInt) rfl hD J Sm rfl rfl rfl (by omega) rfl (wr_126_48460 (by omega) (fun q1 q2 q3 q4 => by omega) (fun q1 q2 q3 q4 => by omega) (fun q1 q2 q3 q4 => by omega) (fun q1 q2 q3 q4 => by omega) (fun q1 q2 q3 q4 => by omega)) rfl (fun h w29 J Sm => ?_)
              refine x_aloadn (x := 125) rfl rfl ?_
              refine z_getR (N := 92) (b := 126) 12 2 rfl f_12_8 rfl J rfl 16002 ⟨rfl, rfl⟩ rfl ?_
              refine x_iloadn (x := v24) rfl rfl ?_
              refine x_iconst (v := 3) rfl ki_3 ?_
              refine z_iadd rfl rfl jk_3 (by omega) (fun v30 ev30 => ?_)
              refine x_iload (x := a4) rfl rfl ?_
              refine z_iast (N := 50660) (l := 48460) (u := 48960) (w := a4.toInt) rfl hD J Sm rfl rfl rfl (by omega) rfl (wr_126_48460 (by omega) (fun q1 q2 q3 q4 => by omega) (fun q1 q2 q3 q4 => by omega) (fun q1 q2 q3 q4 => by omega) (fun q1 q2 q3 q4 => by omega) (fun q1 q2 q3 q4 => by omega)) rfl (fun h w31 J Sm => ?_)
              refine x_vret rfl rfl ?_
              show jX m_X12_pay 3 0 0 107 [(6, .int v24), (0, .ref 125), (1, .int a1), (2, .int a2), (3, .int a3), (4, .int a4), (5, .int a5)] [] _ 0 0 _
              refine x_aloadn (x := 125) rfl rfl ?_
              refine z_getR (N := 92) (b := 126) 12 2 rfl f_12_8 rfl J rfl 16002 ⟨rfl, rfl⟩ rfl ?_
              refine x_iload (x := v24) rfl rfl ?_
              refine x_iconst (v := 4) rfl ki_4 ?_
              refine z_iadd rfl rfl jk_4 (by omega) (fun v32 ev32 => ?_)
              refine x_iload (x := a5) rfl rfl ?_
              refine z_iast (N := 50660) (l := 48460) (u := 48960) (w := a5.toInt) rfl hD J Sm rfl rfl rfl (by omega) rfl (wr_126_48460 (by omega) (fun q1 q2 q3 q4 => by omega) (fun q1 q2 q3 q4 => by omega) (fun q1 q2 q3 q4 => by omega) (fun q1 q2 q3 q4 => by omega) (fun q1 q2 q3 q4 => by omega)) rfl (fun h w33 J Sm => ?_)
              refine x_aloadn (x := 125) rfl rfl ?_
              refine z_getR (N := 92) (b := 126) 12 2 rfl f_12_8 rfl J rfl 16002 ⟨rfl, rfl⟩ rfl ?_
              refine x_bipush (v := 12) rfl kb_12 ?_
              refine x_dup2 rfl rfl rfl ?_
              refine z_ialdM (N := 50660) (v := v21) rfl J rfl jk_12 (by omega) (jmo2 w33 rfl jk_12 (by omega) (jmo2 w31 rfl jk_12 (by omega) (jmo2 w29 rfl jk_12 (by omega) (jmo2 w27 rfl jk_12 (by omega) (jmo2 w25 rfl jk_12 (by omega) qv21))))) ?_
              refine x_iconst (v := 1) rfl ki_1 ?_
              refine z_iadd rfl rfl jk_1 (by omega) (fun v34 ev34 => ?_)
              refine z_iast (N := 50660) (l := 12) (u := 13) (w := v34.toInt) rfl hD J Sm rfl rfl jk_12 (by omega) rfl (wr_126_12 (by omega) (fun q1 q2 q3 q4 => by omega)) rfl (fun h w35 J Sm => ?_)
              refine x_aloadn (x := 125) rfl rfl ?_
              refine x_aloadn (x := 125) rfl rfl ?_
              refine z_getR (N := 92) (b := 126) 12 2 rfl f_12_8 rfl J rfl 16002 ⟨rfl, rfl⟩ rfl ?_
              refine x_bipush (v := 12) rfl kb_12 ?_
              refine z_ialdM (N := 50660) (v := v34) rfl J rfl jk_12 (by omega) (jmw w35) ?_
              refine x_inv (N := m_X12_told) (As := [.int v34]) (b := 125) (st := []) (d' := 1) (mc := 0) (ms := 0) (host := "") 12 rfl t_X12_told ⟨Or.inl q_12_197, i_X12_told.1, i_X12_told.2⟩ ⟨by decide, rfl⟩ (congrArg Prod.fst (J.1.1 125 (12, 92) rfl)) rfl (by decide) rfl rfl ⟨by decide, by decide⟩ (sf_X12_told_r125  hD J  (fun v37 h J S36 => ?_))
              have ev37 := jfull v37
              have Sm := jSm_tr rfl Sm S36
              show jX m_X12_pay 3 0 0 140 [(6, .int v24), (0, .ref 125), (1, .int a1), (2, .int a2), (3, .int a3), (4, .int a4), (5, .int a5)] [.int v37] _ 0 0 _
              refine x_iret rfl rfl ?_
              exact hQ _ _ J Sm
            ·
              refine x_aloadn (x := 125) rfl rfl ?_
              refine x_bipush (v := (-5)) rfl kb_m5 ?_
              refine x_inv (N := m_X12_told) (As := [.int (-5)]) (b := 125) (st := []) (d' := 1) (mc := 0) (ms := 0) (host := "") 12 rfl t_X12_told ⟨Or.inl q_12_197, i_X12_told.1, i_X12_told.2⟩ ⟨by decide, rfl⟩ (congrArg Prod.fst (J.1.1 125 (12, 92) rfl)) rfl (by decide) rfl rfl ⟨by decide, by decide⟩ (sf_X12_told_r125  hD J  (fun v39 h J S38 => ?_))
              have ev39 := jfull v39
              have Sm := jSm_tr rfl Sm S38
              show jX m_X12_pay 3 0 0 80 [(0, .ref 125), (1, .int a1), (2, .int a2), (3, .int a3), (4, .int a4), (5, .int a5)] [.int v39] _ 0 0 _
              refine x_iret rfl rfl ?_
              exact hQ _ _ J Sm
          ·
            exact jX.sub (jsb_c rfl jsb_n) (ct_X12_pay_r125_55 hD hQ  h J Sm)
      ·
        exact jX.sub (jsb_c rfl jsb_n) (ct_X12_pay_r125_33 hD hQ  h J Sm)
def fp_X12_price_r125 : jFp := [(125, 0, 1), (125, 1, 2), (126, 15, 16), (126, 49520, 49920)]
set_option maxRecDepth 100000 in
set_option maxHeartbeats 4000000 in
theorem ct_X12_price_r125_44 {Dy : jH → Prop} {h0 : jH} {Q : Option Value → jH → Prop} (hD : jDk Dy) (hQ : ∀ (v : Int32) h', jJ jSgM Dy h' → jSm fp_X12_price_r125 h0 h' → Q (some (.int v)) h') : ∀ (h : jH), jJ jSgM Dy h → jSm fp_X12_price_r125 h0 h → jX m_X12_price 3 0 0 44 [(0, .ref 125)] [] h 0 0 Q := by
  intro  h    J Sm
  refine x_aloadn (x := 125) rfl rfl ?_
  refine x_iconst (v := (-1)) rfl ki_m1 ?_
  refine x_inv (N := m_X12_told) (As := [.int (-1)]) (b := 125) (st := []) (d' := 1) (mc := 0) (ms := 0) (host := "") 12 rfl t_X12_told ⟨Or.inl q_12_197, i_X12_told.1, i_X12_told.2⟩ ⟨by decide, rfl⟩ (congrArg Prod.fst (J.1.1 125 (12, 92) rfl)) rfl (by decide) rfl rfl ⟨by decide, by decide⟩ (sf_X12_told_r125  hD J  (fun v2 h J S1 => ?_))
  have ev2 := jfull v2
  have Sm := jSm_tr rfl Sm S1
  show jX m_X12_price 3 0 0 49 [(0, .ref 125)] [.int v2] _ 0 0 _
  refine x_iret rfl rfl ?_
  exact hQ _ _ J Sm
set_option maxRecDepth 100000 in
set_option maxHeartbeats 4000000 in
theorem sf_X12_price_r125 {Dy : jH → Prop} {h : jH} {Q : Option Value → jH → Prop} {a1 : Int32} {a2 : Int32} {a3 : Int32} {a4 : Int32} (hD : jDk Dy) (J : jJ jSgM Dy h) (hQ : ∀ (v : Int32) h', jJ jSgM Dy h' → jSm fp_X12_price_r125 h h' → Q (some (.int v)) h') : jC m_X12_price 3 0 0 [.ref 125, .int a1, .int a2, .int a3, .int a4] h Q := by
  refine jC.of rfl k_X12_price rfl ?_
  have Sm := jSm_rf fp_X12_price_r125 h
  have ea1 := jfull a1
  have ea2 := jfull a2
  have ea3 := jfull a3
  have ea4 := jfull a4
  show jX m_X12_price 3 0 0 0 [(0, .ref 125), (1, .int a1), (2, .int a2), (3, .int a3), (4, .int a4)] [] _ 0 0 _
  refine x_aloadn (x := 125) rfl rfl ?_
  refine x_iconst (v := 0) rfl ki_0 ?_
  refine z_putI (N := 92) (w := 0) 12 0 rfl f_12_180 rfl (jfin_no TX12 RX12 92 rfl rfl) hD J Sm rfl rfl jk_0 (pw_125_0 (by omega)) rfl (fun h w1 J Sm => ?_)
  refine x_iloadn (x := a1) rfl rfl ?_
  refine z_i2l rfl rfl (fun v2 ev2 => ?_)
  refine x_lconst (v := 0) rfl kl_0 ?_
  refine x_ldc2 (v := 2) rfl z_12_482 ?_
  refine x_inst (N := m_X12_in) (As := [.long v2, .long 0, .long 2]) (st := []) (d' := 1) (mc := 0) (ms := 0) (host := "") rfl t_X12_in ⟨Or.inl q_12_188, s_X12_in⟩ rfl (by decide) rfl rfl ⟨by decide, by decide⟩ (zc_X12_in rfl jkl_0 jkl_2 (fun v3 ev3 => ?_))
  show jX m_X12_price 3 0 0 14 [(0, .ref 125), (1, .int a1), (2, .int a2), (3, .int a3), (4, .int a4)] [.int v3] _ 0 0 _
  refine x_ifeq (tgt := 44) rfl rfl (ti_eq rfl jk_0 ⟨fun c4 => ?_, fun c4 => ?_⟩)
  ·
    exact jX.sub (jsb_c rfl jsb_n) (ct_X12_price_r125_44 hD hQ  h J Sm)
  ·
    refine x_iloadn (x := a2) rfl rfl ?_
    refine x_inst (N := m_X12_isYear) (As := [.int a2]) (st := []) (d' := 2) (mc := 0) (ms := 0) (host := "") rfl t_X12_isYear ⟨Or.inl q_12_817, s_X12_isYear⟩ rfl (by decide) rfl rfl ⟨by decide, by decide⟩ (zc_X12_isYear (d := 1) rfl (fun v5 ev5 => ?_))
    show jX m_X12_price 3 0 0 21 [(0, .ref 125), (1, .int a1), (2, .int a2), (3, .int a3), (4, .int a4)] [.int v5] _ 0 0 _
    refine x_ifeq (tgt := 44) rfl rfl (ti_eq rfl jk_0 ⟨fun c6 => ?_, fun c6 => ?_⟩)
    ·
      exact jX.sub (jsb_c rfl jsb_n) (ct_X12_price_r125_44 hD hQ  h J Sm)
    ·
      refine x_iloadn (x := a3) rfl rfl ?_
      refine z_i2l rfl rfl (fun v7 ev7 => ?_)
      refine x_lconst (v := 0) rfl kl_0 ?_
      refine x_ldc2 (v := 10000) rfl z_12_809 ?_
      refine x_inst (N := m_X12_in) (As := [.long v7, .long 0, .long 10000]) (st := []) (d' := 1) (mc := 0) (ms := 0) (host := "") rfl t_X12_in ⟨Or.inl q_12_188, s_X12_in⟩ rfl (by decide) rfl rfl ⟨by decide, by decide⟩ (zc_X12_in rfl jkl_0 jkl_10000 (fun v8 ev8 => ?_))
      show jX m_X12_price 3 0 0 33 [(0, .ref 125), (1, .int a1), (2, .int a2), (3, .int a3), (4, .int a4)] [.int v8] _ 0 0 _
      refine x_ifeq (tgt := 44) rfl rfl (ti_eq rfl jk_0 ⟨fun c9 => ?_, fun c9 => ?_⟩)
      ·
        exact jX.sub (jsb_c rfl jsb_n) (ct_X12_price_r125_44 hD hQ  h J Sm)
      ·
        refine x_iload (x := a4) rfl rfl ?_
        refine x_inst (N := m_X12_isDay) (As := [.int a4]) (st := []) (d' := 2) (mc := 0) (ms := 0) (host := "") rfl t_X12_isDay ⟨Or.inl q_12_273, s_X12_isDay⟩ rfl (by decide) rfl rfl ⟨by decide, by decide⟩ (zc_X12_isDay (d := 1) rfl (fun v10 ev10 => ?_))
        show jX m_X12_price 3 0 0 41 [(0, .ref 125), (1, .int a1), (2, .int a2), (3, .int a3), (4, .int a4)] [.int v10] _ 0 0 _
        refine x_ifne (tgt := 50) rfl rfl (ti_ne rfl jk_0 ⟨fun c11 => ?_, fun c11 => ?_⟩)
        ·
          refine x_aloadn (x := 125) rfl rfl ?_
          refine z_getR (N := 92) (b := 126) 12 2 rfl f_12_8 rfl J rfl 16002 ⟨rfl, rfl⟩ rfl ?_
          refine x_bipush (v := 15) rfl kb_15 ?_
          refine z_iald (N := 50660) rfl J rfl sg_126_15_16_1_0_1 jk_15 (by omega) (fun v12 qv12 ev12 => ?_)
          refine x_bipush (v := 100) rfl kb_100 ?_
          refine x_icne (tgt := 69) rfl rfl (ti_ne rfl jk_100 ⟨fun c13 => ?_, fun c13 => ?_⟩)
          ·
            refine x_aloadn (x := 125) rfl rfl ?_
            refine x_ldcw (v := 49520) rfl z_12_857 ?_
            refine x_iconst (v := 4) rfl ki_4 ?_
            refine x_aloadn (x := 125) rfl rfl ?_
            refine z_getR (N := 92) (b := 126) 12 2 rfl f_12_8 rfl J rfl 16002 ⟨rfl, rfl⟩ rfl ?_
            refine x_bipush (v := 15) rfl kb_15 ?_
            refine z_ialdM (N := 50660) (v := v12) rfl J rfl jk_15 (by omega) qv12 ?_
            refine z_imul rfl jk_4 rfl (by omega) (fun v14 ev14 => ?_)
            refine z_iadd rfl jk_49520 rfl (by omega) (fun v15 ev15 => ?_)
            refine x_iloadn (x := a1) rfl rfl ?_
            refine x_iloadn (x := a2) rfl rfl ?_
            refine x_iloadn (x := a3) rfl rfl ?_
            refine x_iload (x := a4) rfl rfl ?_
            refine x_inv (N := m_X12_addFour) (As := [.int v15, .int a1, .int a2, .int a3, .int a4]) (b := 125) (st := []) (d' := 2) (mc := 0) (ms := 0) (host := "") 12 rfl t_X12_addFour ⟨Or.inl q_12_814, i_X12_addFour.1, i_X12_addFour.2⟩ ⟨by decide, rfl⟩ (congrArg Prod.fst (J.1.1 125 (12, 92) rfl)) rfl (by decide) rfl rfl ⟨by decide, by decide⟩ (jC.of rfl k_X12_addFour rfl ?_)
            show jX m_X12_addFour 2 0 0 0 [(0, .ref 125), (1, .int v15), (2, .int a1), (3, .int a2), (4, .int a3), (5, .int a4)] [] _ 0 0 _
            refine x_aloadn (x := 125) rfl rfl ?_
            refine z_getR (N := 92) (b := 126) 12 2 rfl f_12_8 rfl J rfl 16002 ⟨rfl, rfl⟩ rfl ?_
            refine x_iloadn (x := v15) rfl rfl ?_
            refine x_iloadn (x := a1) rfl rfl ?_
            refine z_iast (N := 50660) (l := 49520) (u := 49920) (w := a1.toInt) rfl hD J Sm rfl rfl rfl (by omega) rfl (wr_126_49520 (by omega) (fun q1 q2 q3 q4 => by omega) (fun q1 q2 q3 q4 => by omega) (fun q1 q2 q3 q4 => by omega) (fun q1 q2 q3 q4 => by omega)) rfl (fun h w16 J Sm => ?_)
            refine x_aloadn (x := 125) rfl rfl ?_
            refine z_getR (N := 92) (b := 126) 12 2 rfl f_12_8 rfl J rfl 16002 ⟨rfl, rfl⟩ rfl ?_
            refine x_iloadn (x := v15) rfl rfl ?_
            refine x_iconst (v := 1) rfl ki_1 ?_
            refine z_iadd rfl rfl jk_1 (by omega) (fun v17 ev17 => ?_)
            refine x_iloadn (x := a2) rfl rfl ?_
            refine z_iast (N := 50660) (l := 49520) (u := 49920) (w := a2.toInt) rfl hD J Sm rfl rfl rfl (by omega) rfl (wr_126_49520 (by omega) (fun q1 q2 q3 q4 => by omega) (fun q1 q2 q3 q4 => by omega) (fun q1 q2 q3 q4 => by omega) (fun q1 q2 q3 q4 => by omega)) rfl (fun h w18 J Sm => ?_)
            refine x_aloadn (x := 125) rfl rfl ?_
            refine z_getR (N := 92) (b := 126) 12 2 rfl f_12_8 rfl J rfl 16002 ⟨rfl, rfl⟩ rfl ?_
            refine x_iloadn (x := v15) rfl rfl ?_
            refine x_iconst (v := 2) rfl ki_2 ?_
            refine z_iadd rfl rfl jk_2 (by omega) (fun v19 ev19 => ?_)
            refine x_iload (x := a3) rfl rfl ?_
            refine z_iast (N := 50660) (l := 49520) (u := 49920) (w := a3.toInt) rfl hD J Sm rfl rfl rfl (by omega) rfl (wr_126_49520 (by omega) (fun q1 q2 q3 q4 => by omega) (fun q1 q2 q3 q4 => by omega) (fun q1 q2 q3 q4 => by omega) (fun q1 q2 q3 q4 => by omega)) rfl (fun h w20 J Sm => ?_)
            refine x_aloadn (x := 125) rfl rfl ?_
            refine z_getR (N := 92) (b := 126) 12 2 rfl f_12_8 rfl J rfl 16002 ⟨rfl, rfl⟩ rfl ?_
            refine x_iloadn (x := v15) rfl rfl ?_
            refine x_iconst (v := 3) rfl ki_3 ?_
            refine z_iadd rfl rfl jk_3 (by omega) (fun v21 ev21 => ?_)
            refine x_iload (x := a4) rfl rfl ?_
            refine z_iast (N := 50660) (l := 49520) (u := 49920) (w := a4.toInt) rfl hD J Sm rfl rfl rfl (by omega) rfl (wr_126_49520 (by omega) (fun q1 q2 q3 q4 => by omega) (fun q1 q2 q3 q4 => by omega) (fun q1 q2 q3 q4 => by omega) (fun q1 q2 q3 q4 => by omega)) rfl (fun h w22 J Sm => ?_)
            refine x_vret rfl rfl ?_
            show jX m_X12_price 3 0 0 91 [(0, .ref 125), (1, .int a1), (2, .int a2), (3, .int a3), (4, .int a4)] [] _ 0 0 _
            refine x_aloadn (x := 125) rfl rfl ?_
            refine z_getR (N := 92) (b := 126) 12 2 rfl f_12_8 rfl J rfl 16002 ⟨rfl, rfl⟩ rfl ?_
            refine x_bipush (v := 15) rfl kb_15 ?_
            refine x_dup2 rfl rfl rfl ?_
            refine z_ialdM (N := 50660) (v := v12) rfl J rfl jk_15 (by omega) (jmo2 w22 rfl jk_15 (by omega) (jmo2 w20 rfl jk_15 (by omega) (jmo2 w18 rfl jk_15 (by omega) (jmo2 w16 rfl jk_15 (by omega) qv12)))) ?_
            refine x_iconst (v := 1) rfl ki_1 ?_
            refine z_iadd rfl rfl jk_1 (by omega) (fun v23 ev23 => ?_)
            refine z_iast (N := 50660) (l := 15) (u := 16) (w := v23.toInt) rfl hD J Sm rfl rfl jk_15 (by omega) rfl (wr_126_15 (by omega) (fun q1 q2 q3 q4 => by omega)) rfl (fun h w24 J Sm => ?_)
            refine x_aloadn (x := 125) rfl rfl ?_
            refine x_aloadn (x := 125) rfl rfl ?_
            refine z_getR (N := 92) (b := 126) 12 2 rfl f_12_8 rfl J rfl 16002 ⟨rfl, rfl⟩ rfl ?_
            refine x_bipush (v := 15) rfl kb_15 ?_
            refine z_ialdM (N := 50660) (v := v23) rfl J rfl jk_15 (by omega) (jmw w24) ?_
            refine x_inv (N := m_X12_told) (As := [.int v23]) (b := 125) (st := []) (d' := 1) (mc := 0) (ms := 0) (host := "") 12 rfl t_X12_told ⟨Or.inl q_12_197, i_X12_told.1, i_X12_told.2⟩ ⟨by decide, rfl⟩ (congrArg Prod.fst (J.1.1 125 (12, 92) rfl)) rfl (by decide) rfl rfl ⟨by decide, by decide⟩ (sf_X12_told_r125  hD J  (fun v26 h J S25 => ?_))
            have ev26 := jfull v26
            have Sm := jSm_tr rfl Sm S25
            show jX m_X12_price 3 0 0 113 [(0, .ref 125), (1, .int a1), (2, .int a2), (3, .int a3), (4, .int a4)] [.int v26] _ 0 0 _
            refine x_iret rfl rfl ?_
            exact hQ _ _ J Sm
          ·
            refine x_aloadn (x := 125) rfl rfl ?_
            refine x_bipush (v := (-5)) rfl kb_m5 ?_
            refine x_inv (N := m_X12_told) (As := [.int (-5)]) (b := 125) (st := []) (d' := 1) (mc := 0) (ms := 0) (host := "") 12 rfl t_X12_told ⟨Or.inl q_12_197, i_X12_told.1, i_X12_told.2⟩ ⟨by decide, rfl⟩ (congrArg Prod.fst (J.1.1 125 (12, 92) rfl)) rfl (by decide) rfl rfl ⟨by decide, by decide⟩ (sf_X12_told_r125  hD J  (fun v28 h J S27 => ?_))
            have ev28 := jfull v28
            have Sm := jSm_tr rfl Sm S27
            show jX m_X12_price 3 0 0 68 [(0, .ref 125), (1, .int a1), (2, .int a2), (3, .int a3), (4, .int a4)] [.int v28] _ 0 0 _
            refine x_iret rfl rfl ?_
            exact hQ _ _ J Sm
        ·
          exact jX.sub (jsb_c rfl jsb_n) (ct_X12_price_r125_44 hD hQ  h J Sm)
def fp_X12_seal_r125 : jFp := [(125, 0, 1), (125, 1, 2), (125, 89, 90), (125, 90, 91), (125, 91, 92), (129, 0, 1600)]
set_option maxRecDepth 100000 in
set_option maxHeartbeats 4000000 in
theorem sf_X12_seal_r125 {Dy : jH → Prop} {h : jH} {Q : Option Value → jH → Prop} {a1 : Int32} (hD : jDk Dy) (J : jJ jSgM Dy h) (hQ : ∀ (v : Int32) h', jJ jSgM Dy h' → jSm fp_X12_seal_r125 h h' → Q (some (.int v)) h') : jC m_X12_seal 4 0 0 [.ref 125, .int a1] h Q := by
  refine jC.of rfl k_X12_seal rfl ?_
  have Sm := jSm_rf fp_X12_seal_r125 h
  have ea1 := jfull a1
  show jX m_X12_seal 4 0 0 0 [(0, .ref 125), (1, .int a1)] [] _ 0 0 _
  refine x_aloadn (x := 125) rfl rfl ?_
  refine x_iconst (v := 0) rfl ki_0 ?_
  refine z_putI (N := 92) (w := 0) 12 0 rfl f_12_180 rfl (jfin_no TX12 RX12 92 rfl rfl) hD J Sm rfl rfl jk_0 (pw_125_0 (by omega)) rfl (fun h w1 J Sm => ?_)
  refine x_iloadn (x := a1) rfl rfl ?_
  refine x_inst (N := m_X12_isYear) (As := [.int a1]) (st := []) (d' := 2) (mc := 0) (ms := 0) (host := "") rfl t_X12_isYear ⟨Or.inl q_12_817, s_X12_isYear⟩ rfl (by decide) rfl rfl ⟨by decide, by decide⟩ (zc_X12_isYear (d := 1) rfl (fun v2 ev2 => ?_))
  show jX m_X12_seal 4 0 0 9 [(0, .ref 125), (1, .int a1)] [.int v2] _ 0 0 _
  refine x_ifne (tgt := 18) rfl rfl (ti_ne rfl jk_0 ⟨fun c3 => ?_, fun c3 => ?_⟩)
  ·
    refine x_aloadn (x := 125) rfl rfl ?_
    refine x_iloadn (x := a1) rfl rfl ?_
    refine x_inv (N := m_X12_addYear) (As := [.int a1]) (b := 125) (st := []) (d' := 3) (mc := 0) (ms := 0) (host := "") 12 rfl t_X12_addYear ⟨Or.inl q_12_872, i_X12_addYear.1, i_X12_addYear.2⟩ ⟨by decide, rfl⟩ (congrArg Prod.fst (J.1.1 125 (12, 92) rfl)) rfl (by decide) rfl rfl ⟨by decide, by decide⟩ (sf_X12_addYear_r125 (jr_of rfl (by omega)) hD J  (fun h J S4 => ?_))
    have Sm := jSm_tr rfl Sm S4
    show jX m_X12_seal 4 0 0 23 [(0, .ref 125), (1, .int a1)] [] _ 0 0 _
    refine x_aloadn (x := 125) rfl rfl ?_
    refine z_getR (N := 92) (b := 129) 12 5 rfl f_12_22 rfl J rfl 16005 ⟨rfl, rfl⟩ rfl ?_
    refine x_iconst (v := 4) rfl ki_4 ?_
    refine x_iloadn (x := a1) rfl rfl ?_
    refine z_imul rfl jk_4 rfl (by omega) (fun v5 ev5 => ?_)
    refine x_lconst (v := 1) rfl kl_1 ?_
    refine z_last (N := 1600) (l := 0) (u := 1600) rfl hD J Sm rfl rfl rfl (by omega) rfl (fun h w6 J Sm => ?_)
    refine x_aloadn (x := 125) rfl rfl ?_
    refine z_getR (N := 92) (b := 129) 12 5 rfl f_12_22 rfl J rfl 16005 ⟨rfl, rfl⟩ rfl ?_
    refine x_iconst (v := 4) rfl ki_4 ?_
    refine x_iloadn (x := a1) rfl rfl ?_
    refine z_imul rfl jk_4 rfl (by omega) (fun v7 ev7 => ?_)
    refine x_iconst (v := 1) rfl ki_1 ?_
    refine z_iadd rfl rfl jk_1 (by omega) (fun v8 ev8 => ?_)
    refine x_aloadn (x := 125) rfl rfl ?_
    refine z_getI0 (N := 92) 12 89 rfl f_12_863 rfl J rfl (fun v9 qv9 => ?_)
    have ev9 := jfull v9
    refine z_i2l rfl rfl (fun v10 ev10 => ?_)
    refine z_last (N := 1600) (l := 0) (u := 1600) rfl hD J Sm rfl rfl rfl (by omega) rfl (fun h w11 J Sm => ?_)
    refine x_aloadn (x := 125) rfl rfl ?_
    refine z_getR (N := 92) (b := 129) 12 5 rfl f_12_22 rfl J rfl 16005 ⟨rfl, rfl⟩ rfl ?_
    refine x_iconst (v := 4) rfl ki_4 ?_
    refine x_iloadn (x := a1) rfl rfl ?_
    refine z_imul rfl jk_4 rfl (by omega) (fun v12 ev12 => ?_)
    refine x_iconst (v := 2) rfl ki_2 ?_
    refine z_iadd rfl rfl jk_2 (by omega) (fun v13 ev13 => ?_)
    refine x_aloadn (x := 125) rfl rfl ?_
    refine z_getL0 (N := 92) 12 90 rfl f_12_866 rfl J rfl (fun v14 => ?_)
    have ev14 := jfullL v14
    refine z_last (N := 1600) (l := 0) (u := 1600) rfl hD J Sm rfl rfl rfl (by omega) rfl (fun h w15 J Sm => ?_)
    refine x_aloadn (x := 125) rfl rfl ?_
    refine z_getR (N := 92) (b := 129) 12 5 rfl f_12_22 rfl J rfl 16005 ⟨rfl, rfl⟩ rfl ?_
    refine x_iconst (v := 4) rfl ki_4 ?_
    refine x_iloadn (x := a1) rfl rfl ?_
    refine z_imul rfl jk_4 rfl (by omega) (fun v16 ev16 => ?_)
    refine x_iconst (v := 3) rfl ki_3 ?_
    refine z_iadd rfl rfl jk_3 (by omega) (fun v17 ev17 => ?_)
    refine x_aloadn (x := 125) rfl rfl ?_
    refine z_getL0 (N := 92) 12 91 rfl f_12_869 rfl J rfl (fun v18 => ?_)
    have ev18 := jfullL v18
    refine z_last (N := 1600) (l := 0) (u := 1600) rfl hD J Sm rfl rfl rfl (by omega) rfl (fun h w19 J Sm => ?_)
    refine x_aloadn (x := 125) rfl rfl ?_
    refine x_aloadn (x := 125) rfl rfl ?_
    refine z_getM (N := 92) (v := v9) 12 89 rfl f_12_863 rfl J rfl (jml w19 (jml w15 (jml w11 qv9))) ?_
    refine x_inv (N := m_X12_told) (As := [.int v9]) (b := 125) (st := []) (d' := 1) (mc := 0) (ms := 0) (host := "") 12 rfl t_X12_told ⟨Or.inl q_12_197, i_X12_told.1, i_X12_told.2⟩ ⟨by decide, rfl⟩ (congrArg Prod.fst (J.1.1 125 (12, 92) rfl)) rfl (by decide) rfl rfl ⟨by decide, by decide⟩ (sf_X12_told_r125  hD J  (fun v21 h J S20 => ?_))
    have ev21 := jfull v21
    have Sm := jSm_tr rfl Sm S20
    show jX m_X12_seal 4 0 0 83 [(0, .ref 125), (1, .int a1)] [.int v21] _ 0 0 _
    refine x_iret rfl rfl ?_
    exact hQ _ _ J Sm
  ·
    refine x_aloadn (x := 125) rfl rfl ?_
    refine x_iconst (v := (-1)) rfl ki_m1 ?_
    refine x_inv (N := m_X12_told) (As := [.int (-1)]) (b := 125) (st := []) (d' := 1) (mc := 0) (ms := 0) (host := "") 12 rfl t_X12_told ⟨Or.inl q_12_197, i_X12_told.1, i_X12_told.2⟩ ⟨by decide, rfl⟩ (congrArg Prod.fst (J.1.1 125 (12, 92) rfl)) rfl (by decide) rfl rfl ⟨by decide, by decide⟩ (sf_X12_told_r125  hD J  (fun v23 h J S22 => ?_))
    have ev23 := jfull v23
    have Sm := jSm_tr rfl Sm S22
    show jX m_X12_seal 4 0 0 17 [(0, .ref 125), (1, .int a1)] [.int v23] _ 0 0 _
    refine x_iret rfl rfl ?_
    exact hQ _ _ J Sm
def fp_X12_sitsAhead_r125 : jFp := []
set_option maxRecDepth 100000 in
set_option maxHeartbeats 4000000 in
theorem ct_X12_sitsAhead_r125_200083 {Dy : jH → Prop} {h0 : jH} {Q : Option Value → jH → Prop} (hD : jDk Dy) (hQ : ∀ (v : Int32) h', 0 ≤ v.toInt ∧ v.toInt ≤ 1 → jJ jSgM Dy h' → jSm fp_X12_sitsAhead_r125 h0 h' → Q (some (.int v)) h') : ∀ (h : jH), jJ jSgM Dy h → jSm fp_X12_sitsAhead_r125 h0 h → jX m_X12_sitsAhead 1 0 0 83 [] [.int 0] h 0 0 Q := by
  intro  h    J Sm
  refine x_zret rfl rfl (by decide) ?_
  exact hQ _ _ (jr_of jk_0 (by omega)) J Sm
set_option maxRecDepth 100000 in
set_option maxHeartbeats 4000000 in
theorem ct_X12_sitsAhead_r125_300083 {Dy : jH → Prop} {h0 : jH} {Q : Option Value → jH → Prop} (hD : jDk Dy) (hQ : ∀ (v : Int32) h', 0 ≤ v.toInt ∧ v.toInt ≤ 1 → jJ jSgM Dy h' → jSm fp_X12_sitsAhead_r125 h0 h' → Q (some (.int v)) h') : ∀ (h : jH), jJ jSgM Dy h → jSm fp_X12_sitsAhead_r125 h0 h → jX m_X12_sitsAhead 1 0 0 83 [] [.int 1] h 0 0 Q := by
  intro  h    J Sm
  refine x_zret rfl rfl (by decide) ?_
  exact hQ _ _ (jr_of jk_1 (by omega)) J Sm
set_option maxRecDepth 100000 in
set_option maxHeartbeats 4000000 in
theorem ct_X12_sitsAhead_r125_83 {Dy : jH → Prop} {h0 : jH} {Q : Option Value → jH → Prop} (hD : jDk Dy) (hQ : ∀ (v : Int32) h', 0 ≤ v.toInt ∧ v.toInt ≤ 1 → jJ jSgM Dy h' → jSm fp_X12_sitsAhead_r125 h0 h' → Q (some (.int v)) h') : ∀ (s0 : Int32) (h : jH), 0 ≤ s0.toInt ∧ s0.toInt ≤ 1 → jJ jSgM Dy h → jSm fp_X12_sitsAhead_r125 h0 h → jX m_X12_sitsAhead 1 0 0 83 [] [.int s0] h 0 0 Q := by
  intro s0 h y0   J Sm
  refine x_zret rfl rfl (jz01 (by omega)) ?_
  exact hQ _ _ (jr_of rfl (by omega)) J Sm
set_option maxRecDepth 100000 in
set_option maxHeartbeats 4000000 in
theorem ct_X12_sitsAhead_r125_73 {Dy : jH → Prop} {h0 : jH} {Q : Option Value → jH → Prop} (hD : jDk Dy) (hQ : ∀ (v : Int32) h', 0 ≤ v.toInt ∧ v.toInt ≤ 1 → jJ jSgM Dy h' → jSm fp_X12_sitsAhead_r125 h0 h' → Q (some (.int v)) h') : ∀ (l1 : Int32) (l2 : Int32) (h : jH), 0 ≤ l1.toInt ∧ l1.toInt ≤ 39 → 0 ≤ l2.toInt ∧ l2.toInt ≤ 39 → jJ jSgM Dy h → jSm fp_X12_sitsAhead_r125 h0 h → jX m_X12_sitsAhead 1 0 0 73 [(1, .int l1), (2, .int l2)] [] h 0 0 Q := by
  intro l1 l2 h y0 y1   J Sm
  refine x_iloadn (x := l1) rfl rfl ?_
  refine x_iloadn (x := l2) rfl rfl ?_
  refine x_icge (tgt := 82) rfl rfl (ti_ge rfl rfl ⟨fun c1 => ?_, fun c1 => ?_⟩)
  ·
    refine x_iconst (v := 0) rfl ki_0 ?_
    exact jX.sub jsb_n (ct_X12_sitsAhead_r125_200083 hD hQ  h J Sm)
  ·
    refine x_iconst (v := 1) rfl ki_1 ?_
    refine x_goto (tgt := 83) rfl rfl ?_
    exact jX.sub jsb_n (ct_X12_sitsAhead_r125_300083 hD hQ  h J Sm)
set_option maxRecDepth 100000 in
set_option maxHeartbeats 4000000 in
theorem sf_X12_sitsAhead_r125 {Dy : jH → Prop} {h : jH} {Q : Option Value → jH → Prop} {a1 : Int32} {a2 : Int32} (y1 : 0 ≤ a1.toInt ∧ a1.toInt ≤ 39) (y2 : 0 ≤ a2.toInt ∧ a2.toInt ≤ 39) (hD : jDk Dy) (J : jJ jSgM Dy h) (hQ : ∀ (v : Int32) h', 0 ≤ v.toInt ∧ v.toInt ≤ 1 → jJ jSgM Dy h' → jSm fp_X12_sitsAhead_r125 h h' → Q (some (.int v)) h') : jC m_X12_sitsAhead 1 0 0 [.ref 125, .int a1, .int a2] h Q := by
  refine jC.of rfl k_X12_sitsAhead rfl ?_
  have Sm := jSm_rf fp_X12_sitsAhead_r125 h
  show jX m_X12_sitsAhead 1 0 0 0 [(0, .ref 125), (1, .int a1), (2, .int a2)] [] _ 0 0 _
  refine x_aloadn (x := 125) rfl rfl ?_
  refine z_getR (N := 92) (b := 171) 12 86 rfl f_12_171 rfl J rfl 16086 ⟨rfl, rfl⟩ rfl ?_
  refine x_iloadn (x := a1) rfl rfl ?_
  refine z_zald (N := 40) rfl J rfl sg_171_0_40_1_0_1 rfl (by omega) (fun v1 qv1 ev1 => ?_)
  refine x_aloadn (x := 125) rfl rfl ?_
  refine z_getR (N := 92) (b := 171) 12 86 rfl f_12_171 rfl J rfl 16086 ⟨rfl, rfl⟩ rfl ?_
  refine x_iloadn (x := a2) rfl rfl ?_
  refine z_zald (N := 40) rfl J rfl sg_171_0_40_1_0_1 rfl (by omega) (fun v2 qv2 ev2 => ?_)
  refine x_iceq (tgt := 24) rfl rfl (ti_eq rfl rfl ⟨fun c3 => ?_, fun c3 => ?_⟩)
  ·
    refine x_aloadn (x := 125) rfl rfl ?_
    refine z_getR (N := 92) (b := 171) 12 86 rfl f_12_171 rfl J rfl 16086 ⟨rfl, rfl⟩ rfl ?_
    refine x_iloadn (x := a1) rfl rfl ?_
    refine z_zaldM (N := 40) (v := v1) rfl J rfl rfl (by omega) qv1 ?_
    refine x_ifeq (tgt := 73) rfl rfl (ti_eq rfl jk_0 ⟨fun c4 => ?_, fun c4 => ?_⟩)
    ·
      exact jX.sub (jsb_c rfl (jsb_c rfl jsb_n)) (ct_X12_sitsAhead_r125_73 hD hQ  a1 a2 h (jr_of rfl (by omega)) (jr_of rfl (by omega)) J Sm)
    ·
      refine x_aloadn (x := 125) rfl rfl ?_
      refine z_getR (N := 92) (b := 170) 12 85 rfl f_12_168 rfl J rfl 16085 ⟨rfl, rfl⟩ rfl ?_
      refine x_iloadn (x := a1) rfl rfl ?_
      refine z_lald0 (N := 40) rfl J rfl rfl (by omega) (fun v5 => ?_)
      have ev5 := jfullL v5
      refine x_aloadn (x := 125) rfl rfl ?_
      refine z_getR (N := 92) (b := 170) 12 85 rfl f_12_168 rfl J rfl 16085 ⟨rfl, rfl⟩ rfl ?_
      refine x_iloadn (x := a2) rfl rfl ?_
      refine z_lald0 (N := 40) rfl J rfl rfl (by omega) (fun v6 => ?_)
      have ev6 := jfullL v6
      refine z_lcmp rfl rfl rfl (fun v7 ev7 => ?_)
      refine x_ifeq (tgt := 73) rfl rfl (ti_eq rfl jk_0 ⟨fun c8 => ?_, fun c8 => ?_⟩)
      ·
        exact jX.sub (jsb_c rfl (jsb_c rfl jsb_n)) (ct_X12_sitsAhead_r125_73 hD hQ  a1 a2 h (jr_of rfl (by omega)) (jr_of rfl (by omega)) J Sm)
      ·
        refine x_aloadn (x := 125) rfl rfl ?_
        refine z_getR (N := 92) (b := 170) 12 85 rfl f_12_168 rfl J rfl 16085 ⟨rfl, rfl⟩ rfl ?_
        refine x_iloadn (x := a1) rfl rfl ?_
        refine z_lald0 (N := 40) rfl J rfl rfl (by omega) (fun v9 => ?_)
        have ev9 := jfullL v9
        refine x_aloadn (x := 125) rfl rfl ?_
        refine z_getR (N := 92) (b := 170) 12 85 rfl f_12_168 rfl J rfl 16085 ⟨rfl, rfl⟩ rfl ?_
        refine x_iloadn (x := a2) rfl rfl ?_
        refine z_lald0 (N := 40) rfl J rfl rfl (by omega) (fun v10 => ?_)
        have ev10 := jfullL v10
        refine z_lcmp rfl rfl rfl (fun v11 ev11 => ?_)
        refine x_ifle (tgt := 69) rfl rfl (ti_le rfl jk_0 ⟨fun c12 => ?_, fun c12 => ?_⟩)
        ·
          refine x_iconst (v := 0) rfl ki_0 ?_
          refine x_goto (tgt := 83) rfl rfl ?_
          exact jX.sub jsb_n (ct_X12_sitsAhead_r125_200083 hD hQ  h J Sm)
        ·
          refine x_iconst (v := 1) rfl ki_1 ?_
          refine x_goto (tgt := 83) rfl rfl ?_
          exact jX.sub jsb_n (ct_X12_sitsAhead_r125_300083 hD hQ  h J Sm)
  ·
    refine x_aloadn (x := 125) rfl rfl ?_
    refine z_getR (N := 92) (b := 171) 12 86 rfl f_12_171 rfl J rfl 16086 ⟨rfl, rfl⟩ rfl ?_
    refine x_iloadn (x := a1) rfl rfl ?_
    refine z_zaldM (N := 40) (v := v1) rfl J rfl rfl (by omega) qv1 ?_
    refine x_goto (tgt := 83) rfl rfl ?_
    exact jX.sub jsb_n (ct_X12_sitsAhead_r125_83 hD hQ  v1 h (jr_of rfl (by omega)) J Sm)
def fp_X12_split_r125 : jFp := [(125, 0, 1), (125, 1, 2), (126, 7, 8), (126, 9, 10), (126, 16, 17), (126, 47660, 47900), (126, 49920, 50660)]
set_option maxRecDepth 100000 in
set_option maxHeartbeats 4000000 in
theorem ct_X12_split_r125_46 {Dy : jH → Prop} {h0 : jH} {Q : Option Value → jH → Prop} (hD : jDk Dy) (hQ : ∀ (v : Int32) h', jJ jSgM Dy h' → jSm fp_X12_split_r125 h0 h' → ∀ u0 u1 u2 u3 u4 : Int32, jiv h' 126 (16 : Int32).toNatClampNeg = u0 → jiv h' 126 (0 : Int32).toNatClampNeg = u1 → jiv h' 126 (4 : Int32).toNatClampNeg = u2 → jiv h' 126 (5 : Int32).toNatClampNeg = u3 → jiv h' 126 (7 : Int32).toNatClampNeg = u4 → u0.toInt = u1.toInt + u2.toInt + u3.toInt + u4.toInt → ∀ u5 u6 : Int32, jiv h' 126 (9 : Int32).toNatClampNeg = u5 → jiv h' 126 (7 : Int32).toNatClampNeg = u6 → u5.toInt ≤ u6.toInt → Q (some (.int v)) h') : ∀ (g0 : Int32) (g1 : Int32) (g2 : Int32) (g3 : Int32) (g4 : Int32) (g5 : Int32) (h : jH), 0 ≤ g0.toInt ∧ g0.toInt ≤ 200 → 0 ≤ g1.toInt ∧ g1.toInt ≤ 370 → 0 ≤ g2.toInt ∧ g2.toInt ≤ 30 → 0 ≤ g3.toInt ∧ g3.toInt ≤ 100 → 0 ≤ g4.toInt ∧ g4.toInt ≤ 40 → 0 ≤ g5.toInt ∧ g5.toInt ≤ 40 → g1.toInt = g0.toInt + g2.toInt + g3.toInt + g4.toInt → g5.toInt ≤ g4.toInt → jiv h 126 (0 : Int32).toNatClampNeg = g0 → jiv h 126 (16 : Int32).toNatClampNeg = g1 → jiv h 126 (4 : Int32).toNatClampNeg = g2 → jiv h 126 (5 : Int32).toNatClampNeg = g3 → jiv h 126 (7 : Int32).toNatClampNeg = g4 → jiv h 126 (9 : Int32).toNatClampNeg = g5 → jJ jSgM Dy h → jSm fp_X12_split_r125 h0 h → jX m_X12_split 3 0 0 46 [(0, .ref 125)] [] h 0 0 Q := by
  intro g0 g1 g2 g3 g4 g5 h y0 y1 y2 y3 y4 y5 y6 y7 z0 z1 z2 z3 z4 z5  J Sm
  refine x_aloadn (x := 125) rfl rfl ?_
  refine x_iconst (v := (-1)) rfl ki_m1 ?_
  refine x_inv (N := m_X12_told) (As := [.int (-1)]) (b := 125) (st := []) (d' := 1) (mc := 0) (ms := 0) (host := "") 12 rfl t_X12_told ⟨Or.inl q_12_197, i_X12_told.1, i_X12_told.2⟩ ⟨by decide, rfl⟩ (congrArg Prod.fst (J.1.1 125 (12, 92) rfl)) rfl (by decide) rfl rfl ⟨by decide, by decide⟩ (sf_X12_told_r125  hD J  (fun v2 h J S1 => ?_))
  have ev2 := jfull v2
  have Sm := jSm_tr rfl Sm S1
  show jX m_X12_split 3 0 0 51 [(0, .ref 125)] [.int v2] _ 0 0 _
  refine x_iret rfl rfl ?_
  exact hQ _ _ J Sm _ _ _ _ _ (jmc S1 rfl z1) (jmc S1 rfl z0) (jmc S1 rfl z2) (jmc S1 rfl z3) (jmc S1 rfl z4) (by omega) _ _ (jmc S1 rfl z5) (jmc S1 rfl z4) (by omega)
set_option maxRecDepth 100000 in
set_option maxHeartbeats 4000000 in
theorem sf_X12_split_r125 {Dy : jH → Prop} {h : jH} {Q : Option Value → jH → Prop} {a1 : Int32} {a2 : Int32} {a3 : Int32} {a4 : Int32} {a5 : Int32} (hD : jDk Dy) (J : jJ jSgM Dy h) {p0 p1 p2 p3 p4 : Int32} {p5 p6 : Int32} (zp0 : jiv h 126 (16 : Int32).toNatClampNeg = p0) (zp1 : jiv h 126 (0 : Int32).toNatClampNeg = p1) (zp2 : jiv h 126 (4 : Int32).toNatClampNeg = p2) (zp3 : jiv h 126 (5 : Int32).toNatClampNeg = p3) (zp4 : jiv h 126 (7 : Int32).toNatClampNeg = p4) (rl_p0 : p0.toInt = p1.toInt + p2.toInt + p3.toInt + p4.toInt) (zp5 : jiv h 126 (9 : Int32).toNatClampNeg = p5) (zp6 : jiv h 126 (7 : Int32).toNatClampNeg = p6) (rl_p5 : p5.toInt ≤ p6.toInt) (hQ : ∀ (v : Int32) h', jJ jSgM Dy h' → jSm fp_X12_split_r125 h h' → ∀ u0 u1 u2 u3 u4 : Int32, jiv h' 126 (16 : Int32).toNatClampNeg = u0 → jiv h' 126 (0 : Int32).toNatClampNeg = u1 → jiv h' 126 (4 : Int32).toNatClampNeg = u2 → jiv h' 126 (5 : Int32).toNatClampNeg = u3 → jiv h' 126 (7 : Int32).toNatClampNeg = u4 → u0.toInt = u1.toInt + u2.toInt + u3.toInt + u4.toInt → ∀ u5 u6 : Int32, jiv h' 126 (9 : Int32).toNatClampNeg = u5 → jiv h' 126 (7 : Int32).toNatClampNeg = u6 → u5.toInt ≤ u6.toInt → Q (some (.int v)) h') : jC m_X12_split 3 0 0 [.ref 125, .int a1, .int a2, .int a3, .int a4, .int a5] h Q := by
  refine jC.of rfl k_X12_split rfl ?_
  have Sm := jSm_rf fp_X12_split_r125 h
  have ep0 := (show 0 ≤ p0.toInt ∧ p0.toInt ≤ 370 from zp0 ▸ jrg_c J sg_126_16_17_1_0_1 jk_16 (by omega))
  have ep1 := (show 0 ≤ p1.toInt ∧ p1.toInt ≤ 200 from zp1 ▸ jrg_c J sg_126_0_1_1_0_1 jk_0 (by omega))
  have ep2 := (show 0 ≤ p2.toInt ∧ p2.toInt ≤ 30 from zp2 ▸ jrg_c J sg_126_4_5_1_0_1 jk_4 (by omega))
  have ep3 := (show 0 ≤ p3.toInt ∧ p3.toInt ≤ 100 from zp3 ▸ jrg_c J sg_126_5_6_1_0_1 jk_5 (by omega))
  have ep4 := (show 0 ≤ p4.toInt ∧ p4.toInt ≤ 40 from zp4 ▸ jrg_c J sg_126_7_8_1_0_1 jk_7 (by omega))
  have ep5 := (show 0 ≤ p5.toInt ∧ p5.toInt ≤ 40 from zp5 ▸ jrg_c J sg_126_9_10_1_0_1 jk_9 (by omega))
  have ep6 := (show 0 ≤ p6.toInt ∧ p6.toInt ≤ 40 from zp6 ▸ jrg_c J sg_126_7_8_1_0_1 jk_7 (by omega))
  obtain rfl : p4 = p6 := zp4.symm.trans zp6
  have ea1 := jfull a1
  have ea2 := jfull a2
  have ea3 := jfull a3
  have ea4 := jfull a4
  have ea5 := jfull a5
  show jX m_X12_split 3 0 0 0 [(0, .ref 125), (1, .int a1), (2, .int a2), (3, .int a3), (4, .int a4), (5, .int a5)] [] _ 0 0 _
  refine x_aloadn (x := 125) rfl rfl ?_
  refine x_iconst (v := 0) rfl ki_0 ?_
  refine z_putI (N := 92) (w := 0) 12 0 rfl f_12_180 rfl (jfin_no TX12 RX12 92 rfl rfl) hD J Sm rfl rfl jk_0 (pw_125_0 (by omega)) rfl (fun h w1 J Sm => ?_)
  refine x_iloadn (x := a3) rfl rfl ?_
  refine z_i2l rfl rfl (fun v2 ev2 => ?_)
  refine x_lconst (v := 1) rfl kl_1 ?_
  refine x_ldc2 (v := 100) rfl z_12_331 ?_
  refine x_inst (N := m_X12_in) (As := [.long v2, .long 1, .long 100]) (st := []) (d' := 1) (mc := 0) (ms := 0) (host := "") rfl t_X12_in ⟨Or.inl q_12_188, s_X12_in⟩ rfl (by decide) rfl rfl ⟨by decide, by decide⟩ (zc_X12_in rfl jkl_1 jkl_100 (fun v3 ev3 => ?_))
  show jX m_X12_split 3 0 0 14 [(0, .ref 125), (1, .int a1), (2, .int a2), (3, .int a3), (4, .int a4), (5, .int a5)] [.int v3] _ 0 0 _
  refine x_ifeq (tgt := 46) rfl rfl (ti_eq rfl jk_0 ⟨fun c4 => ?_, fun c4 => ?_⟩)
  ·
    exact jX.sub (jsb_c rfl jsb_n) (ct_X12_split_r125_46 hD hQ  p1 p0 p2 p3 p4 p5 h (jr_of rfl (by omega)) (jr_of rfl (by omega)) (jr_of rfl (by omega)) (jr_of rfl (by omega)) (jr_of rfl (by omega)) (jr_of rfl (by omega)) (by omega) (by omega) (jmo w1 rfl zp1) (jmo w1 rfl zp0) (jmo w1 rfl zp2) (jmo w1 rfl zp3) (jmo w1 rfl zp4) (jmo w1 rfl zp5) J Sm)
  ·
    refine x_iloadn (x := a2) rfl rfl ?_
    refine z_i2l rfl rfl (fun v5 ev5 => ?_)
    refine x_lconst (v := 1) rfl kl_1 ?_
    refine x_iloadn (x := a3) rfl rfl ?_
    refine z_i2l rfl rfl (fun v6 ev6 => ?_)
    refine x_lconst (v := 1) rfl kl_1 ?_
    refine z_lsub rfl rfl jkl_1 (by omega) (fun v7 ev7 => ?_)
    refine x_inst (N := m_X12_in) (As := [.long v5, .long 1, .long v7]) (st := []) (d' := 1) (mc := 0) (ms := 0) (host := "") rfl t_X12_in ⟨Or.inl q_12_188, s_X12_in⟩ rfl (by decide) rfl rfl ⟨by decide, by decide⟩ (zc_X12_in rfl jkl_1 rfl (fun v8 ev8 => ?_))
    show jX m_X12_split 3 0 0 27 [(0, .ref 125), (1, .int a1), (2, .int a2), (3, .int a3), (4, .int a4), (5, .int a5)] [.int v8] _ 0 0 _
    refine x_ifeq (tgt := 46) rfl rfl (ti_eq rfl jk_0 ⟨fun c9 => ?_, fun c9 => ?_⟩)
    ·
      exact jX.sub (jsb_c rfl jsb_n) (ct_X12_split_r125_46 hD hQ  p1 p0 p2 p3 p4 p5 h (jr_of rfl (by omega)) (jr_of rfl (by omega)) (jr_of rfl (by omega)) (jr_of rfl (by omega)) (jr_of rfl (by omega)) (jr_of rfl (by omega)) (by omega) (by omega) (jmo w1 rfl zp1) (jmo w1 rfl zp0) (jmo w1 rfl zp2) (jmo w1 rfl zp3) (jmo w1 rfl zp4) (jmo w1 rfl zp5) J Sm)
    ·
      refine x_iload (x := a4) rfl rfl ?_
      refine x_inst (N := m_X12_isDay) (As := [.int a4]) (st := []) (d' := 2) (mc := 0) (ms := 0) (host := "") rfl t_X12_isDay ⟨Or.inl q_12_273, s_X12_isDay⟩ rfl (by decide) rfl rfl ⟨by decide, by decide⟩ (zc_X12_isDay (d := 1) rfl (fun v10 ev10 => ?_))
      show jX m_X12_split 3 0 0 35 [(0, .ref 125), (1, .int a1), (2, .int a2), (3, .int a3), (4, .int a4), (5, .int a5)] [.int v10] _ 0 0 _
      refine x_ifeq (tgt := 46) rfl rfl (ti_eq rfl jk_0 ⟨fun c11 => ?_, fun c11 => ?_⟩)
      ·
        exact jX.sub (jsb_c rfl jsb_n) (ct_X12_split_r125_46 hD hQ  p1 p0 p2 p3 p4 p5 h (jr_of rfl (by omega)) (jr_of rfl (by omega)) (jr_of rfl (by omega)) (jr_of rfl (by omega)) (jr_of rfl (by omega)) (jr_of rfl (by omega)) (by omega) (by omega) (jmo w1 rfl zp1) (jmo w1 rfl zp0) (jmo w1 rfl zp2) (jmo w1 rfl zp3) (jmo w1 rfl zp4) (jmo w1 rfl zp5) J Sm)
      ·
        refine x_iload (x := a5) rfl rfl ?_
        refine x_inst (N := m_X12_isDay) (As := [.int a5]) (st := []) (d' := 2) (mc := 0) (ms := 0) (host := "") rfl t_X12_isDay ⟨Or.inl q_12_273, s_X12_isDay⟩ rfl (by decide) rfl rfl ⟨by decide, by decide⟩ (zc_X12_isDay (d := 1) rfl (fun v12 ev12 => ?_))
        show jX m_X12_split 3 0 0 43 [(0, .ref 125), (1, .int a1), (2, .int a2), (3, .int a3), (4, .int a4), (5, .int a5)] [.int v12] _ 0 0 _
        refine x_ifne (tgt := 52) rfl rfl (ti_ne rfl jk_0 ⟨fun c13 => ?_, fun c13 => ?_⟩)
        ·
          refine x_aloadn (x := 125) rfl rfl ?_
          refine x_iloadn (x := a1) rfl rfl ?_
          refine x_inv (N := m_X12_isHolding) (As := [.int a1]) (b := 125) (st := []) (d' := 2) (mc := 0) (ms := 0) (host := "") 12 rfl t_X12_isHolding ⟨Or.inl q_12_811, i_X12_isHolding.1, i_X12_isHolding.2⟩ ⟨by decide, rfl⟩ (congrArg Prod.fst (J.1.1 125 (12, 92) rfl)) rfl (by decide) rfl rfl ⟨by decide, by decide⟩ (jC.of rfl k_X12_isHolding rfl ?_)
          show jX m_X12_isHolding 2 0 0 0 [(0, .ref 125), (1, .int a1)] [] _ 0 0 _
          refine x_iloadn (x := a1) rfl rfl ?_
          refine z_i2l rfl rfl (fun v14 ev14 => ?_)
          refine x_lconst (v := 0) rfl kl_0 ?_
          refine x_aloadn (x := 125) rfl rfl ?_
          refine z_getR (N := 92) (b := 126) 12 2 rfl f_12_8 rfl J rfl 16002 ⟨rfl, rfl⟩ rfl ?_
          refine x_bipush (v := 7) rfl kb_7 ?_
          refine z_ialdM (N := 50660) (v := p4) rfl J rfl jk_7 (by omega) (jmo w1 rfl zp4) ?_
          refine z_i2l rfl rfl (fun v15 ev15 => ?_)
          refine x_lconst (v := 1) rfl kl_1 ?_
          refine z_lsub rfl rfl jkl_1 (by omega) (fun v16 ev16 => ?_)
          refine x_inst (N := m_X12_in) (As := [.long v14, .long 0, .long v16]) (st := []) (d' := 1) (mc := 0) (ms := 0) (host := "") rfl t_X12_in ⟨Or.inl q_12_188, s_X12_in⟩ rfl (by decide) rfl rfl ⟨by decide, by decide⟩ (zc_X12_in rfl jkl_0 rfl (fun v17 ev17 => ?_))
          show jX m_X12_isHolding 2 0 0 16 [(0, .ref 125), (1, .int a1)] [.int v17] _ 0 0 _
          refine x_zret rfl rfl (jz01 (by omega)) ?_
          show jX m_X12_split 3 0 0 57 [(0, .ref 125), (1, .int a1), (2, .int a2), (3, .int a3), (4, .int a4), (5, .int a5)] [.int v17] _ 0 0 _
          refine x_ifne (tgt := 67) rfl rfl (ti_ne rfl jk_0 ⟨fun c18 => ?_, fun c18 => ?_⟩)
          ·
            refine x_aloadn (x := 125) rfl rfl ?_
            refine z_getR (N := 92) (b := 126) 12 2 rfl f_12_8 rfl J rfl 16002 ⟨rfl, rfl⟩ rfl ?_
            refine x_bipush (v := 7) rfl kb_7 ?_
            refine z_ialdM (N := 50660) (v := p4) rfl J rfl jk_7 (by omega) (jmo w1 rfl zp4) ?_
            refine x_bipush (v := 40) rfl kb_40 ?_
            refine x_icne (tgt := 86) rfl rfl (ti_ne rfl jk_40 ⟨fun c19 => ?_, fun c19 => ?_⟩)
            ·
              refine x_ldcw (v := 47660) rfl z_12_799 ?_
              refine x_bipush (v := 6) rfl kb_6 ?_
              refine x_aloadn (x := 125) rfl rfl ?_
              refine z_getR (N := 92) (b := 126) 12 2 rfl f_12_8 rfl J rfl 16002 ⟨rfl, rfl⟩ rfl ?_
              refine x_bipush (v := 9) rfl kb_9 ?_
              refine z_ialdM (N := 50660) (v := p5) rfl J rfl jk_9 (by omega) (jmo w1 rfl zp5) ?_
              refine z_imul rfl jk_6 rfl (by omega) (fun v20 ev20 => ?_)
              refine z_iadd rfl jk_47660 rfl (by omega) (fun v21 ev21 => ?_)
              refine x_istore (ls' := [(6, .int v21), (0, .ref 125), (1, .int a1), (2, .int a2), (3, .int a3), (4, .int a4), (5, .int a5)]) rfl rfl rfl ?_
              refine x_aloadn (x := 125) rfl rfl ?_
              refine z_getR (N := 92) (b := 126) 12 2 rfl f_12_8 rfl J rfl 16002 ⟨rfl, rfl⟩ rfl ?_
              refine x_iload (x := v21) rfl rfl ?_
              refine x_aloadn (x := 125) rfl rfl ?_
              refine z_getR (N := 92) (b := 126) 12 2 rfl f_12_8 rfl J rfl 16002 ⟨rfl, rfl⟩ rfl ?_
              refine x_bipush (v := 7) rfl kb_7 ?_
              refine z_ialdM (N := 50660) (v := p4) rfl J rfl jk_7 (by omega) (jmo w1 rfl zp4) ?_
              refine z_iast (N := 50660) (l := 47660) (u := 47900) (w := p4.toInt) rfl hD J Sm rfl rfl rfl (by omega) rfl (wr_126_47660 (by omega) (fun q1 q2 q3 q4 => by omega) (fun q1 q2 q3 q4 => by omega) (fun q1 q2 q3 q4 => by omega) (fun q1 q2 q3 q4 => by omega) (fun q1 q2 q3 q4 => by omega) (fun q1 q2 q3 q4 => by omega)) rfl (fun h w22 J Sm => ?_)
              refine x_aloadn (x := 125) rfl rfl ?_
              refine z_getR (N := 92) (b := 126) 12 2 rfl f_12_8 rfl J rfl 16002 ⟨rfl, rfl⟩ rfl ?_
              refine x_iload (x := v21) rfl rfl ?_
              refine x_iconst (v := 1) rfl ki_1 ?_
              refine z_iadd rfl rfl jk_1 (by omega) (fun v23 ev23 => ?_)
              refine x_iloadn (x := a1) rfl rfl ?_
              refine z_iast (N := 50660) (l := 47660) (u := 47900) (w := a1.toInt) rfl hD J Sm rfl rfl rfl (by omega) rfl (wr_126_47660 (by omega) (fun q1 q2 q3 q4 => by omega) (fun q1 q2 q3 q4 => by omega) (fun q1 q2 q3 q4 => by omega) (fun q1 q2 q3 q4 => by omega) (fun q1 q2 q3 q4 => by omega) (fun q1 q2 q3 q4 => by omega)) rfl (fun h w24 J Sm => ?_)
              refine x_aloadn (x := 125) rfl rfl ?_
              refine z_getR (N := 92) (b := 126) 12 2 rfl f_12_8 rfl J rfl 16002 ⟨rfl, rfl⟩ rfl ?_
              refine x_iload (x := v21) rfl rfl ?_
              refine x_iconst (v := 2) rfl ki_2 ?_
              refine z_iadd rfl rfl jk_2 (by omega) (fun v25 ev25 => ?_)
              refine x_iloadn (x := a2) rfl rfl ?_
              refine z_iast (N := 50660) (l := 47660) (u := 47900) (w := a2.toInt) rfl hD J Sm rfl rfl rfl (by omega) rfl (wr_126_47660 (by omega) (fun q1 q2 q3 q4 => by omega) (fun q1 q2 q3 q4 => by omega) (fun q1 q2 q3 q4 => by omega) (fun q1 q2 q3 q4 => by omega) (fun q1 q2 q3 q4 => by omega) (fun q1 q2 q3 q4 => by omega)) rfl (fun h w26 J Sm => ?_)
              refine x_aloadn (x := 125) rfl rfl ?_
              refine z_getR (N := 92) (b := 126) 12 2 rfl f_12_8 rfl J rfl 16002 ⟨rfl, rfl⟩ rfl ?_
              refine x_iload (x := v21) rfl rfl ?_
              refine x_iconst (v := 3) rfl ki_3 ?_
              refine z_iadd rfl rfl jk_3 (by omega) (fun v27 ev27 => ?_)
              refine x_iloadn (x := a3) rfl rfl ?_
              refine z_iast (N := 50660) (l := 47660) (u := 47900) (w := a3.toInt) rfl hD J Sm rfl rfl rfl (by omega) rfl (wr_126_47660 (by omega) (fun q1 q2 q3 q4 => by omega) (fun q1 q2 q3 q4 => by omega) (fun q1 q2 q3 q4 => by omega) (fun q1 q2 q3 q4 => by omega) (fun q1 q2 q3 q4 => by omega) (fun q1 q2 q3 q4 => by omega)) rfl (fun h w28 J Sm => ?_)
              refine x_aloadn (x := 125) rfl rfl ?_
              refine z_getR (N := 92) (b := 126) 12 2 rfl f_12_8 rfl J rfl 16002 ⟨rfl, rfl⟩ rfl ?_
              refine x_iload (x := v21) rfl rfl ?_
              refine x_iconst (v := 4) rfl ki_4 ?_
              refine z_iadd rfl rfl jk_4 (by omega) (fun v29 ev29 => ?_)
              refine x_iload (x := a4) rfl rfl ?_
              refine z_iast (N := 50660) (l := 47660) (u := 47900) (w := a4.toInt) rfl hD J Sm rfl rfl rfl (by omega) rfl (wr_126_47660 (by omega) (fun q1 q2 q3 q4 => by omega) (fun q1 q2 q3 q4 => by omega) (fun q1 q2 q3 q4 => by omega) (fun q1 q2 q3 q4 => by omega) (fun q1 q2 q3 q4 => by omega) (fun q1 q2 q3 q4 => by omega)) rfl (fun h w30 J Sm => ?_)
              refine x_aloadn (x := 125) rfl rfl ?_
              refine z_getR (N := 92) (b := 126) 12 2 rfl f_12_8 rfl J rfl 16002 ⟨rfl, rfl⟩ rfl ?_
              refine x_iload (x := v21) rfl rfl ?_
              refine x_iconst (v := 5) rfl ki_5 ?_
              refine z_iadd rfl rfl jk_5 (by omega) (fun v31 ev31 => ?_)
              refine x_iload (x := a5) rfl rfl ?_
              refine z_iast (N := 50660) (l := 47660) (u := 47900) (w := a5.toInt) rfl hD J Sm rfl rfl rfl (by omega) rfl (wr_126_47660 (by omega) (fun q1 q2 q3 q4 => by omega) (fun q1 q2 q3 q4 => by omega) (fun q1 q2 q3 q4 => by omega) (fun q1 q2 q3 q4 => by omega) (fun q1 q2 q3 q4 => by omega) (fun q1 q2 q3 q4 => by omega)) rfl (fun h w32 J Sm => ?_)
              refine x_aloadn (x := 125) rfl rfl ?_
              refine z_getR (N := 92) (b := 126) 12 2 rfl f_12_8 rfl J rfl 16002 ⟨rfl, rfl⟩ rfl ?_
              refine x_bipush (v := 9) rfl kb_9 ?_
              refine x_dup2 rfl rfl rfl ?_
              refine z_ialdM (N := 50660) (v := p5) rfl J rfl jk_9 (by omega) (jmo2 w32 rfl jk_9 (by omega) (jmo2 w30 rfl jk_9 (by omega) (jmo2 w28 rfl jk_9 (by omega) (jmo2 w26 rfl jk_9 (by omega) (jmo2 w24 rfl jk_9 (by omega) (jmo2 w22 rfl jk_9 (by omega) (jmo w1 rfl zp5))))))) ?_
              refine x_iconst (v := 1) rfl ki_1 ?_
              refine z_iadd rfl rfl jk_1 (by omega) (fun v33 ev33 => ?_)
              refine z_iast (N := 50660) (l := 9) (u := 10) (w := v33.toInt) rfl hD J Sm rfl rfl jk_9 (by omega) rfl (wr_126_9 (by omega) (fun q1 q2 q3 q4 => by omega)) rfl (fun h w34 J Sm => ?_)
              refine x_aloadn (x := 125) rfl rfl ?_
              refine z_getR (N := 92) (b := 126) 12 2 rfl f_12_8 rfl J rfl 16002 ⟨rfl, rfl⟩ rfl ?_
              refine x_bipush (v := 7) rfl kb_7 ?_
              refine x_dup2 rfl rfl rfl ?_
              refine z_ialdM (N := 50660) (v := p4) rfl J rfl jk_7 (by omega) (jmo2 w34 jk_9 jk_7 (by omega) (jmo2 w32 rfl jk_7 (by omega) (jmo2 w30 rfl jk_7 (by omega) (jmo2 w28 rfl jk_7 (by omega) (jmo2 w26 rfl jk_7 (by omega) (jmo2 w24 rfl jk_7 (by omega) (jmo2 w22 rfl jk_7 (by omega) (jmo w1 rfl zp4)))))))) ?_
              refine x_iconst (v := 1) rfl ki_1 ?_
              refine z_iadd rfl rfl jk_1 (by omega) (fun v35 ev35 => ?_)
              refine z_iast (N := 50660) (l := 7) (u := 8) (w := v35.toInt) rfl hD J Sm rfl rfl jk_7 (by omega) rfl (wr_126_7 (by omega) (fun q1 q2 q3 q4 => by omega)) rfl (fun h w36 J Sm => ?_)
              refine x_aloadn (x := 125) rfl rfl ?_
              refine x_iconst (v := 3) rfl ki_3 ?_
              refine x_aloadn (x := 125) rfl rfl ?_
              refine z_getR (N := 92) (b := 126) 12 2 rfl f_12_8 rfl J rfl 16002 ⟨rfl, rfl⟩ rfl ?_
              refine x_bipush (v := 7) rfl kb_7 ?_
              refine z_ialdM (N := 50660) (v := v35) rfl J rfl jk_7 (by omega) (jmw w36) ?_
              refine x_iconst (v := 1) rfl ki_1 ?_
              refine z_isub rfl rfl jk_1 (by omega) (fun v37 ev37 => ?_)
              refine x_inv (N := m_X12_thing) (As := [.int 3, .int v37]) (b := 125) (st := []) (d' := 2) (mc := 0) (ms := 0) (host := "") 12 rfl t_X12_thing ⟨Or.inl q_12_289, i_X12_thing.1, i_X12_thing.2⟩ ⟨by decide, rfl⟩ (congrArg Prod.fst (J.1.1 125 (12, 92) rfl)) rfl (by decide) rfl rfl ⟨by decide, by decide⟩ (jC.of rfl k_X12_thing rfl ?_)
              show jX m_X12_thing 2 0 0 0 [(0, .ref 125), (1, .int 3), (2, .int v37)] [] _ 0 0 _
              refine x_ldc (v := 49920) rfl z_12_194 ?_
              refine x_iconst (v := 2) rfl ki_2 ?_
              refine x_aloadn (x := 125) rfl rfl ?_
              refine z_getR (N := 92) (b := 126) 12 2 rfl f_12_8 rfl J rfl 16002 ⟨rfl, rfl⟩ rfl ?_
              refine x_bipush (v := 16) rfl kb_16 ?_
              refine z_ialdM (N := 50660) (v := p0) rfl J rfl jk_16 (by omega) (jmo2 w36 jk_7 jk_16 (by omega) (jmo2 w34 jk_9 jk_16 (by omega) (jmo2 w32 rfl jk_16 (by omega) (jmo2 w30 rfl jk_16 (by omega) (jmo2 w28 rfl jk_16 (by omega) (jmo2 w26 rfl jk_16 (by omega) (jmo2 w24 rfl jk_16 (by omega) (jmo2 w22 rfl jk_16 (by omega) (jmo w1 rfl zp0))))))))) ?_
              refine z_imul rfl jk_2 rfl (by omega) (fun v38 ev38 => ?_)
              refine z_iadd rfl jk_49920 rfl (by omega) (fun v39 ev39 => ?_)
              refine x_istoren (ls' := [(3, .int v39), (0, .ref 125), (1, .int 3), (2, .int v37)]) rfl rfl rfl ?_
              refine x_aloadn (x := 125) rfl rfl ?_
              refine z_getR (N := 92) (b := 126) 12 2 rfl f_12_8 rfl J rfl 16002 ⟨rfl, rfl⟩ rfl ?_
              refine x_iloadn (x := v39) rfl rfl ?_
              refine x_iloadn (x := 3) rfl rfl ?_
              refine z_iast (N := 50660) (l := 49920) (u := 50660) (w := 3) rfl hD J Sm rfl rfl rfl (by omega) jk_3 (wr_126_49920 (by omega) (fun q1 q2 q3 q4 => by omega) (fun q1 q2 q3 q4 => by omega)) rfl (fun h w40 J Sm => ?_)
              refine x_aloadn (x := 125) rfl rfl ?_
              refine z_getR (N := 92) (b := 126) 12 2 rfl f_12_8 rfl J rfl 16002 ⟨rfl, rfl⟩ rfl ?_
              refine x_iloadn (x := v39) rfl rfl ?_
              refine x_iconst (v := 1) rfl ki_1 ?_
              refine z_iadd rfl rfl jk_1 (by omega) (fun v41 ev41 => ?_)
              refine x_iloadn (x := v37) rfl rfl ?_
              refine z_iast (N := 50660) (l := 49920) (u := 50660) (w := v37.toInt) rfl hD J Sm rfl rfl rfl (by omega) rfl (wr_126_49920 (by omega) (fun q1 q2 q3 q4 => by omega) (fun q1 q2 q3 q4 => by omega)) rfl (fun h w42 J Sm => ?_)
              refine x_aloadn (x := 125) rfl rfl ?_
              refine z_getR (N := 92) (b := 126) 12 2 rfl f_12_8 rfl J rfl 16002 ⟨rfl, rfl⟩ rfl ?_
              refine x_bipush (v := 16) rfl kb_16 ?_
              refine x_dup2 rfl rfl rfl ?_
              refine z_ialdM (N := 50660) (v := p0) rfl J rfl jk_16 (by omega) (jmo2 w42 rfl jk_16 (by omega) (jmo2 w40 rfl jk_16 (by omega) (jmo2 w36 jk_7 jk_16 (by omega) (jmo2 w34 jk_9 jk_16 (by omega) (jmo2 w32 rfl jk_16 (by omega) (jmo2 w30 rfl jk_16 (by omega) (jmo2 w28 rfl jk_16 (by omega) (jmo2 w26 rfl jk_16 (by omega) (jmo2 w24 rfl jk_16 (by omega) (jmo2 w22 rfl jk_16 (by omega) (jmo w1 rfl zp0))))))))))) ?_
              refine x_iconst (v := 1) rfl ki_1 ?_
              refine z_iadd rfl rfl jk_1 (by omega) (fun v43 ev43 => ?_)
              refine z_iast (N := 50660) (l := 16) (u := 17) (w := v43.toInt) rfl hD J Sm rfl rfl jk_16 (by omega) rfl (wr_126_16 (by omega) (fun q1 q2 q3 q4 => by omega)) rfl (fun h w44 J Sm => ?_)
              refine x_vret rfl rfl ?_
              show jX m_X12_split 3 0 0 204 [(6, .int v21), (0, .ref 125), (1, .int a1), (2, .int a2), (3, .int a3), (4, .int a4), (5, .int a5)] [] _ 0 0 _
              refine x_aloadn (x := 125) rfl rfl ?_
              refine x_aloadn (x := 125) rfl rfl ?_
              refine z_getR (N := 92) (b := 126) 12 2 rfl f_12_8 rfl J rfl 16002 ⟨rfl, rfl⟩ rfl ?_
              refine x_bipush (v := 7) rfl kb_7 ?_
              refine z_ialdM (N := 50660) (v := v35) rfl J rfl jk_7 (by omega) (jmo2 w44 jk_16 jk_7 (by omega) (jmo2 w42 rfl jk_7 (by omega) (jmo2 w40 rfl jk_7 (by omega) (jmw w36)))) ?_
              refine x_iconst (v := 1) rfl ki_1 ?_
              refine z_isub rfl rfl jk_1 (by omega) (fun v45 ev45 => ?_)
              refine x_inv (N := m_X12_told) (As := [.int v45]) (b := 125) (st := []) (d' := 1) (mc := 0) (ms := 0) (host := "") 12 rfl t_X12_told ⟨Or.inl q_12_197, i_X12_told.1, i_X12_told.2⟩ ⟨by decide, rfl⟩ (congrArg Prod.fst (J.1.1 125 (12, 92) rfl)) rfl (by decide) rfl rfl ⟨by decide, by decide⟩ (sf_X12_told_r125  hD J  (fun v47 h J S46 => ?_))
              have ev47 := jfull v47
              have Sm := jSm_tr rfl Sm S46
              show jX m_X12_split 3 0 0 217 [(6, .int v21), (0, .ref 125), (1, .int a1), (2, .int a2), (3, .int a3), (4, .int a4), (5, .int a5)] [.int v47] _ 0 0 _
              refine x_iret rfl rfl ?_
              exact hQ _ _ J Sm _ _ _ _ _ (jmc S46 rfl (jmw w44)) (jmc S46 rfl (jmo2 w44 jk_16 jk_0 (by omega) (jmo2 w42 rfl jk_0 (by omega) (jmo2 w40 rfl jk_0 (by omega) (jmo2 w36 jk_7 jk_0 (by omega) (jmo2 w34 jk_9 jk_0 (by omega) (jmo2 w32 rfl jk_0 (by omega) (jmo2 w30 rfl jk_0 (by omega) (jmo2 w28 rfl jk_0 (by omega) (jmo2 w26 rfl jk_0 (by omega) (jmo2 w24 rfl jk_0 (by omega) (jmo2 w22 rfl jk_0 (by omega) (jmo w1 rfl zp1))))))))))))) (jmc S46 rfl (jmo2 w44 jk_16 jk_4 (by omega) (jmo2 w42 rfl jk_4 (by omega) (jmo2 w40 rfl jk_4 (by omega) (jmo2 w36 jk_7 jk_4 (by omega) (jmo2 w34 jk_9 jk_4 (by omega) (jmo2 w32 rfl jk_4 (by omega) (jmo2 w30 rfl jk_4 (by omega) (jmo2 w28 rfl jk_4 (by omega) (jmo2 w26 rfl jk_4 (by omega) (jmo2 w24 rfl jk_4 (by omega) (jmo2 w22 rfl jk_4 (by omega) (jmo w1 rfl zp2))))))))))))) (jmc S46 rfl (jmo2 w44 jk_16 jk_5 (by omega) (jmo2 w42 rfl jk_5 (by omega) (jmo2 w40 rfl jk_5 (by omega) (jmo2 w36 jk_7 jk_5 (by omega) (jmo2 w34 jk_9 jk_5 (by omega) (jmo2 w32 rfl jk_5 (by omega) (jmo2 w30 rfl jk_5 (by omega) (jmo2 w28 rfl jk_5 (by omega) (jmo2 w26 rfl jk_5 (by omega) (jmo2 w24 rfl jk_5 (by omega) (jmo2 w22 rfl jk_5 (by omega) (jmo w1 rfl zp3))))))))))))) (jmc S46 rfl (jmo2 w44 jk_16 jk_7 (by omega) (jmo2 w42 rfl jk_7 (by omega) (jmo2 w40 rfl jk_7 (by omega) (jmw w36))))) (by omega) _ _ (jmc S46 rfl (jmo2 w44 jk_16 jk_9 (by omega) (jmo2 w42 rfl jk_9 (by omega) (jmo2 w40 rfl jk_9 (by omega) (jmo2 w36 jk_7 jk_9 (by omega) (jmw w34)))))) (jmc S46 rfl (jmo2 w44 jk_16 jk_7 (by omega) (jmo2 w42 rfl jk_7 (by omega) (jmo2 w40 rfl jk_7 (by omega) (jmw w36))))) (by omega)
            ·
              refine x_aloadn (x := 125) rfl rfl ?_
              refine x_bipush (v := (-5)) rfl kb_m5 ?_
              refine x_inv (N := m_X12_told) (As := [.int (-5)]) (b := 125) (st := []) (d' := 1) (mc := 0) (ms := 0) (host := "") 12 rfl t_X12_told ⟨Or.inl q_12_197, i_X12_told.1, i_X12_told.2⟩ ⟨by decide, rfl⟩ (congrArg Prod.fst (J.1.1 125 (12, 92) rfl)) rfl (by decide) rfl rfl ⟨by decide, by decide⟩ (sf_X12_told_r125  hD J  (fun v49 h J S48 => ?_))
              have ev49 := jfull v49
              have Sm := jSm_tr rfl Sm S48
              show jX m_X12_split 3 0 0 85 [(0, .ref 125), (1, .int a1), (2, .int a2), (3, .int a3), (4, .int a4), (5, .int a5)] [.int v49] _ 0 0 _
              refine x_iret rfl rfl ?_
              exact hQ _ _ J Sm _ _ _ _ _ (jmc S48 rfl (jmo w1 rfl zp0)) (jmc S48 rfl (jmo w1 rfl zp1)) (jmc S48 rfl (jmo w1 rfl zp2)) (jmc S48 rfl (jmo w1 rfl zp3)) (jmc S48 rfl (jmo w1 rfl zp4)) (by omega) _ _ (jmc S48 rfl (jmo w1 rfl zp5)) (jmc S48 rfl (jmo w1 rfl zp4)) (by omega)
          ·
            refine x_aloadn (x := 125) rfl rfl ?_
            refine x_bipush (v := (-2)) rfl kb_m2 ?_
            refine x_inv (N := m_X12_told) (As := [.int (-2)]) (b := 125) (st := []) (d' := 1) (mc := 0) (ms := 0) (host := "") 12 rfl t_X12_told ⟨Or.inl q_12_197, i_X12_told.1, i_X12_told.2⟩ ⟨by decide, rfl⟩ (congrArg Prod.fst (J.1.1 125 (12, 92) rfl)) rfl (by decide) rfl rfl ⟨by decide, by decide⟩ (sf_X12_told_r125  hD J  (fun v51 h J S50 => ?_))
            have ev51 := jfull v51
            have Sm := jSm_tr rfl Sm S50
            show jX m_X12_split 3 0 0 66 [(0, .ref 125), (1, .int a1), (2, .int a2), (3, .int a3), (4, .int a4), (5, .int a5)] [.int v51] _ 0 0 _
            refine x_iret rfl rfl ?_
            exact hQ _ _ J Sm _ _ _ _ _ (jmc S50 rfl (jmo w1 rfl zp0)) (jmc S50 rfl (jmo w1 rfl zp1)) (jmc S50 rfl (jmo w1 rfl zp2)) (jmc S50 rfl (jmo w1 rfl zp3)) (jmc S50 rfl (jmo w1 rfl zp4)) (by omega) _ _ (jmc S50 rfl (jmo w1 rfl zp5)) (jmc S50 rfl (jmo w1 rfl zp4)) (by omega)
        ·
          exact jX.sub (jsb_c rfl jsb_n) (ct_X12_split_r125_46 hD hQ  p1 p0 p2 p3 p4 p5 h (jr_of rfl (by omega)) (jr_of rfl (by omega)) (jr_of rfl (by omega)) (jr_of rfl (by omega)) (jr_of rfl (by omega)) (jr_of rfl (by omega)) (by omega) (by omega) (jmo w1 rfl zp1) (jmo w1 rfl zp0) (jmo w1 rfl zp2) (jmo w1 rfl zp3) (jmo w1 rfl zp4) (jmo w1 rfl zp5) J Sm)
def fp_X12_status_r125 : jFp := [(125, 0, 1)]
set_option maxRecDepth 100000 in
set_option maxHeartbeats 4000000 in
theorem sf_X12_status_r125 {Dy : jH → Prop} {h : jH} {Q : Option Value → jH → Prop} (hD : jDk Dy) (J : jJ jSgM Dy h) (hQ : ∀ (v : Int32) h', (-2147483648) ≤ v.toInt ∧ v.toInt ≤ 0 → jJ jSgM Dy h' → jSm fp_X12_status_r125 h h' → Q (some (.int v)) h') : jC m_X12_status 1 0 0 [.ref 125] h Q := by
  refine jC.of rfl k_X12_status rfl ?_
  have Sm := jSm_rf fp_X12_status_r125 h
  show jX m_X12_status 1 0 0 0 [(0, .ref 125)] [] _ 0 0 _
  refine x_aloadn (x := 125) rfl rfl ?_
  refine x_iconst (v := 0) rfl ki_0 ?_
  refine z_putI (N := 92) (w := 0) 12 0 rfl f_12_180 rfl (jfin_no TX12 RX12 92 rfl rfl) hD J Sm rfl rfl jk_0 (pw_125_0 (by omega)) rfl (fun h w1 J Sm => ?_)
  refine x_aloadn (x := 125) rfl rfl ?_
  refine z_getI (N := 92) 12 1 rfl f_12_183 rfl J rfl sg_125_1_2_1_0_1 (fun v2 qv2 ev2 => ?_)
  refine x_iret rfl rfl ?_
  exact hQ _ _ (jr_of rfl (by omega)) J Sm
def fp_X12_terms_r125 : jFp := [(125, 0, 1), (125, 1, 2), (125, 23, 24), (125, 24, 25), (125, 25, 26), (125, 26, 27), (125, 27, 28)]
set_option maxRecDepth 100000 in
set_option maxHeartbeats 4000000 in
theorem ct_X12_terms_r125_67 {Dy : jH → Prop} {h0 : jH} {Q : Option Value → jH → Prop} (hD : jDk Dy) (hQ : ∀ (v : Int32) h', jJ jSgM Dy h' → jSm fp_X12_terms_r125 h0 h' → Q (some (.int v)) h') : ∀ (h : jH), jJ jSgM Dy h → jSm fp_X12_terms_r125 h0 h → jX m_X12_terms 2 0 0 67 [(0, .ref 125)] [] h 0 0 Q := by
  intro  h    J Sm
  refine x_aloadn (x := 125) rfl rfl ?_
  refine x_iconst (v := (-1)) rfl ki_m1 ?_
  refine x_inv (N := m_X12_told) (As := [.int (-1)]) (b := 125) (st := []) (d' := 1) (mc := 0) (ms := 0) (host := "") 12 rfl t_X12_told ⟨Or.inl q_12_197, i_X12_told.1, i_X12_told.2⟩ ⟨by decide, rfl⟩ (congrArg Prod.fst (J.1.1 125 (12, 92) rfl)) rfl (by decide) rfl rfl ⟨by decide, by decide⟩ (sf_X12_told_r125  hD J  (fun v2 h J S1 => ?_))
  have ev2 := jfull v2
  have Sm := jSm_tr rfl Sm S1
  show jX m_X12_terms 2 0 0 72 [(0, .ref 125)] [.int v2] _ 0 0 _
  refine x_iret rfl rfl ?_
  exact hQ _ _ J Sm
set_option maxRecDepth 100000 in
set_option maxHeartbeats 4000000 in
theorem sf_X12_terms_r125 {Dy : jH → Prop} {h : jH} {Q : Option Value → jH → Prop} {a1 : Int32} {a2 : Int32} {a3 : Int32} {a4 : Int32} {a5 : Int32} (hD : jDk Dy) (J : jJ jSgM Dy h) (hQ : ∀ (v : Int32) h', jJ jSgM Dy h' → jSm fp_X12_terms_r125 h h' → Q (some (.int v)) h') : jC m_X12_terms 2 0 0 [.ref 125, .int a1, .int a2, .int a3, .int a4, .int a5] h Q := by
  refine jC.of rfl k_X12_terms rfl ?_
  have Sm := jSm_rf fp_X12_terms_r125 h
  have ea1 := jfull a1
  have ea2 := jfull a2
  have ea3 := jfull a3
  have ea4 := jfull a4
  have ea5 := jfull a5
  show jX m_X12_terms 2 0 0 0 [(0, .ref 125), (1, .int a1), (2, .int a2), (3, .int a3), (4, .int a4), (5, .int a5)] [] _ 0 0 _
  refine x_aloadn (x := 125) rfl rfl ?_
  refine x_iconst (v := 0) rfl ki_0 ?_
  refine z_putI (N := 92) (w := 0) 12 0 rfl f_12_180 rfl (jfin_no TX12 RX12 92 rfl rfl) hD J Sm rfl rfl jk_0 (pw_125_0 (by omega)) rfl (fun h w1 J Sm => ?_)
  refine x_iloadn (x := a1) rfl rfl ?_
  refine z_i2l rfl rfl (fun v2 ev2 => ?_)
  refine x_lconst (v := 0) rfl kl_0 ?_
  refine x_ldc2 (v := 100) rfl z_12_331 ?_
  refine x_inst (N := m_X12_in) (As := [.long v2, .long 0, .long 100]) (st := []) (d' := 1) (mc := 0) (ms := 0) (host := "") rfl t_X12_in ⟨Or.inl q_12_188, s_X12_in⟩ rfl (by decide) rfl rfl ⟨by decide, by decide⟩ (zc_X12_in rfl jkl_0 jkl_100 (fun v3 ev3 => ?_))
  show jX m_X12_terms 2 0 0 14 [(0, .ref 125), (1, .int a1), (2, .int a2), (3, .int a3), (4, .int a4), (5, .int a5)] [.int v3] _ 0 0 _
  refine x_ifeq (tgt := 67) rfl rfl (ti_eq rfl jk_0 ⟨fun c4 => ?_, fun c4 => ?_⟩)
  ·
    exact jX.sub (jsb_c rfl jsb_n) (ct_X12_terms_r125_67 hD hQ  h J Sm)
  ·
    refine x_iloadn (x := a2) rfl rfl ?_
    refine z_i2l rfl rfl (fun v5 ev5 => ?_)
    refine x_lconst (v := 0) rfl kl_0 ?_
    refine x_ldc2 (v := 100) rfl z_12_331 ?_
    refine x_inst (N := m_X12_in) (As := [.long v5, .long 0, .long 100]) (st := []) (d' := 1) (mc := 0) (ms := 0) (host := "") rfl t_X12_in ⟨Or.inl q_12_188, s_X12_in⟩ rfl (by decide) rfl rfl ⟨by decide, by decide⟩ (zc_X12_in rfl jkl_0 jkl_100 (fun v6 ev6 => ?_))
    show jX m_X12_terms 2 0 0 26 [(0, .ref 125), (1, .int a1), (2, .int a2), (3, .int a3), (4, .int a4), (5, .int a5)] [.int v6] _ 0 0 _
    refine x_ifeq (tgt := 67) rfl rfl (ti_eq rfl jk_0 ⟨fun c7 => ?_, fun c7 => ?_⟩)
    ·
      exact jX.sub (jsb_c rfl jsb_n) (ct_X12_terms_r125_67 hD hQ  h J Sm)
    ·
      refine x_iloadn (x := a3) rfl rfl ?_
      refine z_i2l rfl rfl (fun v8 ev8 => ?_)
      refine x_lconst (v := 0) rfl kl_0 ?_
      refine x_ldc2 (v := 100) rfl z_12_331 ?_
      refine x_inst (N := m_X12_in) (As := [.long v8, .long 0, .long 100]) (st := []) (d' := 1) (mc := 0) (ms := 0) (host := "") rfl t_X12_in ⟨Or.inl q_12_188, s_X12_in⟩ rfl (by decide) rfl rfl ⟨by decide, by decide⟩ (zc_X12_in rfl jkl_0 jkl_100 (fun v9 ev9 => ?_))
      show jX m_X12_terms 2 0 0 38 [(0, .ref 125), (1, .int a1), (2, .int a2), (3, .int a3), (4, .int a4), (5, .int a5)] [.int v9] _ 0 0 _
      refine x_ifeq (tgt := 67) rfl rfl (ti_eq rfl jk_0 ⟨fun c10 => ?_, fun c10 => ?_⟩)
      ·
        exact jX.sub (jsb_c rfl jsb_n) (ct_X12_terms_r125_67 hD hQ  h J Sm)
      ·
        refine x_iload (x := a4) rfl rfl ?_
        refine z_i2l rfl rfl (fun v11 ev11 => ?_)
        refine x_lconst (v := 0) rfl kl_0 ?_
        refine x_ldc2 (v := 100) rfl z_12_331 ?_
        refine x_inst (N := m_X12_in) (As := [.long v11, .long 0, .long 100]) (st := []) (d' := 1) (mc := 0) (ms := 0) (host := "") rfl t_X12_in ⟨Or.inl q_12_188, s_X12_in⟩ rfl (by decide) rfl rfl ⟨by decide, by decide⟩ (zc_X12_in rfl jkl_0 jkl_100 (fun v12 ev12 => ?_))
        show jX m_X12_terms 2 0 0 51 [(0, .ref 125), (1, .int a1), (2, .int a2), (3, .int a3), (4, .int a4), (5, .int a5)] [.int v12] _ 0 0 _
        refine x_ifeq (tgt := 67) rfl rfl (ti_eq rfl jk_0 ⟨fun c13 => ?_, fun c13 => ?_⟩)
        ·
          exact jX.sub (jsb_c rfl jsb_n) (ct_X12_terms_r125_67 hD hQ  h J Sm)
        ·
          refine x_iload (x := a5) rfl rfl ?_
          refine z_i2l rfl rfl (fun v14 ev14 => ?_)
          refine x_lconst (v := 0) rfl kl_0 ?_
          refine x_ldc2 (v := 20) rfl z_12_333 ?_
          refine x_inst (N := m_X12_in) (As := [.long v14, .long 0, .long 20]) (st := []) (d' := 1) (mc := 0) (ms := 0) (host := "") rfl t_X12_in ⟨Or.inl q_12_188, s_X12_in⟩ rfl (by decide) rfl rfl ⟨by decide, by decide⟩ (zc_X12_in rfl jkl_0 jkl_20 (fun v15 ev15 => ?_))
          show jX m_X12_terms 2 0 0 64 [(0, .ref 125), (1, .int a1), (2, .int a2), (3, .int a3), (4, .int a4), (5, .int a5)] [.int v15] _ 0 0 _
          refine x_ifne (tgt := 73) rfl rfl (ti_ne rfl jk_0 ⟨fun c16 => ?_, fun c16 => ?_⟩)
          ·
            refine x_aloadn (x := 125) rfl rfl ?_
            refine x_iloadn (x := a1) rfl rfl ?_
            refine z_putI (N := 92) (w := a1.toInt) 12 23 rfl f_12_57 rfl (jfin_no TX12 RX12 92 rfl rfl) hD J Sm rfl rfl rfl (pw_125_23 (by omega)) rfl (fun h w17 J Sm => ?_)
            refine x_aloadn (x := 125) rfl rfl ?_
            refine x_iloadn (x := a2) rfl rfl ?_
            refine z_putI (N := 92) (w := a2.toInt) 12 24 rfl f_12_60 rfl (jfin_no TX12 RX12 92 rfl rfl) hD J Sm rfl rfl rfl (pw_125_24 (by omega)) rfl (fun h w18 J Sm => ?_)
            refine x_aloadn (x := 125) rfl rfl ?_
            refine x_iloadn (x := a3) rfl rfl ?_
            refine z_putI (N := 92) (w := a3.toInt) 12 25 rfl f_12_63 rfl (jfin_no TX12 RX12 92 rfl rfl) hD J Sm rfl rfl rfl (pw_125_25 (by omega)) rfl (fun h w19 J Sm => ?_)
            refine x_aloadn (x := 125) rfl rfl ?_
            refine x_iload (x := a4) rfl rfl ?_
            refine z_putI (N := 92) (w := a4.toInt) 12 26 rfl f_12_66 rfl (jfin_no TX12 RX12 92 rfl rfl) hD J Sm rfl rfl rfl (pw_125_26 (by omega)) rfl (fun h w20 J Sm => ?_)
            refine x_aloadn (x := 125) rfl rfl ?_
            refine x_iload (x := a5) rfl rfl ?_
            refine z_putI (N := 92) (w := a5.toInt) 12 27 rfl f_12_69 rfl (jfin_no TX12 RX12 92 rfl rfl) hD J Sm rfl rfl rfl (pw_125_27 (by omega)) rfl (fun h w21 J Sm => ?_)
            refine x_aloadn (x := 125) rfl rfl ?_
            refine x_iconst (v := 0) rfl ki_0 ?_
            refine x_inv (N := m_X12_told) (As := [.int 0]) (b := 125) (st := []) (d' := 1) (mc := 0) (ms := 0) (host := "") 12 rfl t_X12_told ⟨Or.inl q_12_197, i_X12_told.1, i_X12_told.2⟩ ⟨by decide, rfl⟩ (congrArg Prod.fst (J.1.1 125 (12, 92) rfl)) rfl (by decide) rfl rfl ⟨by decide, by decide⟩ (sf_X12_told_r125  hD J  (fun v23 h J S22 => ?_))
            have ev23 := jfull v23
            have Sm := jSm_tr rfl Sm S22
            show jX m_X12_terms 2 0 0 105 [(0, .ref 125), (1, .int a1), (2, .int a2), (3, .int a3), (4, .int a4), (5, .int a5)] [.int v23] _ 0 0 _
            refine x_iret rfl rfl ?_
            exact hQ _ _ J Sm
          ·
            exact jX.sub (jsb_c rfl jsb_n) (ct_X12_terms_r125_67 hD hQ  h J Sm)
def fp_X12_torn_r125 : jFp := [(125, 0, 1), (125, 1, 2), (126, 3, 4), (126, 18740, 18820)]
set_option maxRecDepth 100000 in
set_option maxHeartbeats 4000000 in
theorem ct_X12_torn_r125_43 {Dy : jH → Prop} {h0 : jH} {Q : Option Value → jH → Prop} (hD : jDk Dy) (hQ : ∀ (v : Int32) h', jJ jSgM Dy h' → jSm fp_X12_torn_r125 h0 h' → Q (some (.int v)) h') : ∀ (h : jH), jJ jSgM Dy h → jSm fp_X12_torn_r125 h0 h → jX m_X12_torn 3 0 0 43 [(0, .ref 125)] [] h 0 0 Q := by
  intro  h    J Sm
  refine x_aloadn (x := 125) rfl rfl ?_
  refine x_iconst (v := (-1)) rfl ki_m1 ?_
  refine x_inv (N := m_X12_told) (As := [.int (-1)]) (b := 125) (st := []) (d' := 1) (mc := 0) (ms := 0) (host := "") 12 rfl t_X12_told ⟨Or.inl q_12_197, i_X12_told.1, i_X12_told.2⟩ ⟨by decide, rfl⟩ (congrArg Prod.fst (J.1.1 125 (12, 92) rfl)) rfl (by decide) rfl rfl ⟨by decide, by decide⟩ (sf_X12_told_r125  hD J  (fun v2 h J S1 => ?_))
  have ev2 := jfull v2
  have Sm := jSm_tr rfl Sm S1
  show jX m_X12_torn 3 0 0 48 [(0, .ref 125)] [.int v2] _ 0 0 _
  refine x_iret rfl rfl ?_
  exact hQ _ _ J Sm
set_option maxRecDepth 100000 in
set_option maxHeartbeats 4000000 in
theorem sf_X12_torn_r125 {Dy : jH → Prop} {h : jH} {Q : Option Value → jH → Prop} {a1 : Int32} {a2 : Int32} {a3 : Int32} {a4 : Int32} (hD : jDk Dy) (J : jJ jSgM Dy h) (hQ : ∀ (v : Int32) h', jJ jSgM Dy h' → jSm fp_X12_torn_r125 h h' → Q (some (.int v)) h') : jC m_X12_torn 3 0 0 [.ref 125, .int a1, .int a2, .int a3, .int a4] h Q := by
  refine jC.of rfl k_X12_torn rfl ?_
  have Sm := jSm_rf fp_X12_torn_r125 h
  have ea1 := jfull a1
  have ea2 := jfull a2
  have ea3 := jfull a3
  have ea4 := jfull a4
  show jX m_X12_torn 3 0 0 0 [(0, .ref 125), (1, .int a1), (2, .int a2), (3, .int a3), (4, .int a4)] [] _ 0 0 _
  refine x_aloadn (x := 125) rfl rfl ?_
  refine x_iconst (v := 0) rfl ki_0 ?_
  refine z_putI (N := 92) (w := 0) 12 0 rfl f_12_180 rfl (jfin_no TX12 RX12 92 rfl rfl) hD J Sm rfl rfl jk_0 (pw_125_0 (by omega)) rfl (fun h w1 J Sm => ?_)
  refine x_iloadn (x := a1) rfl rfl ?_
  refine z_i2l rfl rfl (fun v2 ev2 => ?_)
  refine x_lconst (v := 0) rfl kl_0 ?_
  refine x_ldc2 (v := 5) rfl z_12_269 ?_
  refine x_inst (N := m_X12_in) (As := [.long v2, .long 0, .long 5]) (st := []) (d' := 1) (mc := 0) (ms := 0) (host := "") rfl t_X12_in ⟨Or.inl q_12_188, s_X12_in⟩ rfl (by decide) rfl rfl ⟨by decide, by decide⟩ (zc_X12_in rfl jkl_0 jkl_5 (fun v3 ev3 => ?_))
  show jX m_X12_torn 3 0 0 14 [(0, .ref 125), (1, .int a1), (2, .int a2), (3, .int a3), (4, .int a4)] [.int v3] _ 0 0 _
  refine x_ifeq (tgt := 43) rfl rfl (ti_eq rfl jk_0 ⟨fun c4 => ?_, fun c4 => ?_⟩)
  ·
    exact jX.sub (jsb_c rfl jsb_n) (ct_X12_torn_r125_43 hD hQ  h J Sm)
  ·
    refine x_iloadn (x := a3) rfl rfl ?_
    refine x_inst (N := m_X12_isDay) (As := [.int a3]) (st := []) (d' := 2) (mc := 0) (ms := 0) (host := "") rfl t_X12_isDay ⟨Or.inl q_12_273, s_X12_isDay⟩ rfl (by decide) rfl rfl ⟨by decide, by decide⟩ (zc_X12_isDay (d := 1) rfl (fun v5 ev5 => ?_))
    show jX m_X12_torn 3 0 0 21 [(0, .ref 125), (1, .int a1), (2, .int a2), (3, .int a3), (4, .int a4)] [.int v5] _ 0 0 _
    refine x_ifeq (tgt := 43) rfl rfl (ti_eq rfl jk_0 ⟨fun c6 => ?_, fun c6 => ?_⟩)
    ·
      exact jX.sub (jsb_c rfl jsb_n) (ct_X12_torn_r125_43 hD hQ  h J Sm)
    ·
      refine x_iloadn (x := a2) rfl rfl ?_
      refine z_i2l rfl rfl (fun v7 ev7 => ?_)
      refine x_lconst (v := 0) rfl kl_0 ?_
      refine x_iloadn (x := a3) rfl rfl ?_
      refine z_i2l rfl rfl (fun v8 ev8 => ?_)
      refine x_inst (N := m_X12_in) (As := [.long v7, .long 0, .long v8]) (st := []) (d' := 1) (mc := 0) (ms := 0) (host := "") rfl t_X12_in ⟨Or.inl q_12_188, s_X12_in⟩ rfl (by decide) rfl rfl ⟨by decide, by decide⟩ (zc_X12_in rfl jkl_0 rfl (fun v9 ev9 => ?_))
      show jX m_X12_torn 3 0 0 32 [(0, .ref 125), (1, .int a1), (2, .int a2), (3, .int a3), (4, .int a4)] [.int v9] _ 0 0 _
      refine x_ifeq (tgt := 43) rfl rfl (ti_eq rfl jk_0 ⟨fun c10 => ?_, fun c10 => ?_⟩)
      ·
        exact jX.sub (jsb_c rfl jsb_n) (ct_X12_torn_r125_43 hD hQ  h J Sm)
      ·
        refine x_iload (x := a4) rfl rfl ?_
        refine x_inst (N := m_X12_isDay) (As := [.int a4]) (st := []) (d' := 2) (mc := 0) (ms := 0) (host := "") rfl t_X12_isDay ⟨Or.inl q_12_273, s_X12_isDay⟩ rfl (by decide) rfl rfl ⟨by decide, by decide⟩ (zc_X12_isDay (d := 1) rfl (fun v11 ev11 => ?_))
        show jX m_X12_torn 3 0 0 40 [(0, .ref 125), (1, .int a1), (2, .int a2), (3, .int a3), (4, .int a4)] [.int v11] _ 0 0 _
        refine x_ifne (tgt := 49) rfl rfl (ti_ne rfl jk_0 ⟨fun c12 => ?_, fun c12 => ?_⟩)
        ·
          refine x_aloadn (x := 125) rfl rfl ?_
          refine z_getR (N := 92) (b := 126) 12 2 rfl f_12_8 rfl J rfl 16002 ⟨rfl, rfl⟩ rfl ?_
          refine x_iconst (v := 3) rfl ki_3 ?_
          refine z_iald (N := 50660) rfl J rfl sg_126_3_4_1_0_1 jk_3 (by omega) (fun v13 qv13 ev13 => ?_)
          refine x_bipush (v := 20) rfl kb_20 ?_
          refine x_icne (tgt := 67) rfl rfl (ti_ne rfl jk_20 ⟨fun c14 => ?_, fun c14 => ?_⟩)
          ·
            refine x_sipush (v := 18740) rfl ks_18740 ?_
            refine x_iconst (v := 4) rfl ki_4 ?_
            refine x_aloadn (x := 125) rfl rfl ?_
            refine z_getR (N := 92) (b := 126) 12 2 rfl f_12_8 rfl J rfl 16002 ⟨rfl, rfl⟩ rfl ?_
            refine x_iconst (v := 3) rfl ki_3 ?_
            refine z_ialdM (N := 50660) (v := v13) rfl J rfl jk_3 (by omega) qv13 ?_
            refine z_imul rfl jk_4 rfl (by omega) (fun v15 ev15 => ?_)
            refine z_iadd rfl jk_18740 rfl (by omega) (fun v16 ev16 => ?_)
            refine x_istore (ls' := [(5, .int v16), (0, .ref 125), (1, .int a1), (2, .int a2), (3, .int a3), (4, .int a4)]) rfl rfl rfl ?_
            refine x_aloadn (x := 125) rfl rfl ?_
            refine z_getR (N := 92) (b := 126) 12 2 rfl f_12_8 rfl J rfl 16002 ⟨rfl, rfl⟩ rfl ?_
            refine x_iload (x := v16) rfl rfl ?_
            refine x_iloadn (x := a1) rfl rfl ?_
            refine z_iast (N := 50660) (l := 18740) (u := 18820) (w := a1.toInt) rfl hD J Sm rfl rfl rfl (by omega) rfl (wr_126_18740 (by omega) (fun q1 q2 q3 q4 => by omega) (fun q1 q2 q3 q4 => by omega) (fun q1 q2 q3 q4 => by omega) (fun q1 q2 q3 q4 => by omega)) rfl (fun h w17 J Sm => ?_)
            refine x_aloadn (x := 125) rfl rfl ?_
            refine z_getR (N := 92) (b := 126) 12 2 rfl f_12_8 rfl J rfl 16002 ⟨rfl, rfl⟩ rfl ?_
            refine x_iload (x := v16) rfl rfl ?_
            refine x_iconst (v := 1) rfl ki_1 ?_
            refine z_iadd rfl rfl jk_1 (by omega) (fun v18 ev18 => ?_)
            refine x_iloadn (x := a2) rfl rfl ?_
            refine z_iast (N := 50660) (l := 18740) (u := 18820) (w := a2.toInt) rfl hD J Sm rfl rfl rfl (by omega) rfl (wr_126_18740 (by omega) (fun q1 q2 q3 q4 => by omega) (fun q1 q2 q3 q4 => by omega) (fun q1 q2 q3 q4 => by omega) (fun q1 q2 q3 q4 => by omega)) rfl (fun h w19 J Sm => ?_)
            refine x_aloadn (x := 125) rfl rfl ?_
            refine z_getR (N := 92) (b := 126) 12 2 rfl f_12_8 rfl J rfl 16002 ⟨rfl, rfl⟩ rfl ?_
            refine x_iload (x := v16) rfl rfl ?_
            refine x_iconst (v := 2) rfl ki_2 ?_
            refine z_iadd rfl rfl jk_2 (by omega) (fun v20 ev20 => ?_)
            refine x_iloadn (x := a3) rfl rfl ?_
            refine z_iast (N := 50660) (l := 18740) (u := 18820) (w := a3.toInt) rfl hD J Sm rfl rfl rfl (by omega) rfl (wr_126_18740 (by omega) (fun q1 q2 q3 q4 => by omega) (fun q1 q2 q3 q4 => by omega) (fun q1 q2 q3 q4 => by omega) (fun q1 q2 q3 q4 => by omega)) rfl (fun h w21 J Sm => ?_)
            refine x_aloadn (x := 125) rfl rfl ?_
            refine z_getR (N := 92) (b := 126) 12 2 rfl f_12_8 rfl J rfl 16002 ⟨rfl, rfl⟩ rfl ?_
            refine x_iload (x := v16) rfl rfl ?_
            refine x_iconst (v := 3) rfl ki_3 ?_
            refine z_iadd rfl rfl jk_3 (by omega) (fun v22 ev22 => ?_)
            refine x_iload (x := a4) rfl rfl ?_
            refine z_iast (N := 50660) (l := 18740) (u := 18820) (w := a4.toInt) rfl hD J Sm rfl rfl rfl (by omega) rfl (wr_126_18740 (by omega) (fun q1 q2 q3 q4 => by omega) (fun q1 q2 q3 q4 => by omega) (fun q1 q2 q3 q4 => by omega) (fun q1 q2 q3 q4 => by omega)) rfl (fun h w23 J Sm => ?_)
            refine x_aloadn (x := 125) rfl rfl ?_
            refine z_getR (N := 92) (b := 126) 12 2 rfl f_12_8 rfl J rfl 16002 ⟨rfl, rfl⟩ rfl ?_
            refine x_iconst (v := 3) rfl ki_3 ?_
            refine x_dup2 rfl rfl rfl ?_
            refine z_ialdM (N := 50660) (v := v13) rfl J rfl jk_3 (by omega) (jmo2 w23 rfl jk_3 (by omega) (jmo2 w21 rfl jk_3 (by omega) (jmo2 w19 rfl jk_3 (by omega) (jmo2 w17 rfl jk_3 (by omega) qv13)))) ?_
            refine x_iconst (v := 1) rfl ki_1 ?_
            refine z_iadd rfl rfl jk_1 (by omega) (fun v24 ev24 => ?_)
            refine z_iast (N := 50660) (l := 3) (u := 4) (w := v24.toInt) rfl hD J Sm rfl rfl jk_3 (by omega) rfl (wr_126_3 (by omega) (fun q1 q2 q3 q4 => by omega)) rfl (fun h w25 J Sm => ?_)
            refine x_aloadn (x := 125) rfl rfl ?_
            refine x_aloadn (x := 125) rfl rfl ?_
            refine z_getR (N := 92) (b := 126) 12 2 rfl f_12_8 rfl J rfl 16002 ⟨rfl, rfl⟩ rfl ?_
            refine x_iconst (v := 3) rfl ki_3 ?_
            refine z_ialdM (N := 50660) (v := v24) rfl J rfl jk_3 (by omega) (jmw w25) ?_
            refine x_inv (N := m_X12_told) (As := [.int v24]) (b := 125) (st := []) (d' := 1) (mc := 0) (ms := 0) (host := "") 12 rfl t_X12_told ⟨Or.inl q_12_197, i_X12_told.1, i_X12_told.2⟩ ⟨by decide, rfl⟩ (congrArg Prod.fst (J.1.1 125 (12, 92) rfl)) rfl (by decide) rfl rfl ⟨by decide, by decide⟩ (sf_X12_told_r125  hD J  (fun v27 h J S26 => ?_))
            have ev27 := jfull v27
            have Sm := jSm_tr rfl Sm S26
            show jX m_X12_torn 3 0 0 140 [(5, .int v16), (0, .ref 125), (1, .int a1), (2, .int a2), (3, .int a3), (4, .int a4)] [.int v27] _ 0 0 _
            refine x_iret rfl rfl ?_
            exact hQ _ _ J Sm
          ·
            refine x_aloadn (x := 125) rfl rfl ?_
            refine x_bipush (v := (-5)) rfl kb_m5 ?_
            refine x_inv (N := m_X12_told) (As := [.int (-5)]) (b := 125) (st := []) (d' := 1) (mc := 0) (ms := 0) (host := "") 12 rfl t_X12_told ⟨Or.inl q_12_197, i_X12_told.1, i_X12_told.2⟩ ⟨by decide, rfl⟩ (congrArg Prod.fst (J.1.1 125 (12, 92) rfl)) rfl (by decide) rfl rfl ⟨by decide, by decide⟩ (sf_X12_told_r125  hD J  (fun v29 h J S28 => ?_))
            have ev29 := jfull v29
            have Sm := jSm_tr rfl Sm S28
            show jX m_X12_torn 3 0 0 66 [(0, .ref 125), (1, .int a1), (2, .int a2), (3, .int a3), (4, .int a4)] [.int v29] _ 0 0 _
            refine x_iret rfl rfl ?_
            exact hQ _ _ J Sm
        ·
          exact jX.sub (jsb_c rfl jsb_n) (ct_X12_torn_r125_43 hD hQ  h J Sm)
def fp_X12_value_r125 : jFp := [(125, 0, 1), (125, 1, 2), (126, 8, 9), (126, 47260, 47660)]
set_option maxRecDepth 100000 in
set_option maxHeartbeats 4000000 in
theorem ct_X12_value_r125_32 {Dy : jH → Prop} {h0 : jH} {Q : Option Value → jH → Prop} (hD : jDk Dy) (hQ : ∀ (v : Int32) h', jJ jSgM Dy h' → jSm fp_X12_value_r125 h0 h' → Q (some (.int v)) h') : ∀ (h : jH), jJ jSgM Dy h → jSm fp_X12_value_r125 h0 h → jX m_X12_value 3 0 0 32 [(0, .ref 125)] [] h 0 0 Q := by
  intro  h    J Sm
  refine x_aloadn (x := 125) rfl rfl ?_
  refine x_iconst (v := (-1)) rfl ki_m1 ?_
  refine x_inv (N := m_X12_told) (As := [.int (-1)]) (b := 125) (st := []) (d' := 1) (mc := 0) (ms := 0) (host := "") 12 rfl t_X12_told ⟨Or.inl q_12_197, i_X12_told.1, i_X12_told.2⟩ ⟨by decide, rfl⟩ (congrArg Prod.fst (J.1.1 125 (12, 92) rfl)) rfl (by decide) rfl rfl ⟨by decide, by decide⟩ (sf_X12_told_r125  hD J  (fun v2 h J S1 => ?_))
  have ev2 := jfull v2
  have Sm := jSm_tr rfl Sm S1
  show jX m_X12_value 3 0 0 37 [(0, .ref 125)] [.int v2] _ 0 0 _
  refine x_iret rfl rfl ?_
  exact hQ _ _ J Sm
set_option maxRecDepth 100000 in
set_option maxHeartbeats 4000000 in
theorem sf_X12_value_r125 {Dy : jH → Prop} {h : jH} {Q : Option Value → jH → Prop} {a1 : Int32} {a2 : Int32} {a3 : Int32} {a4 : Int32} (hD : jDk Dy) (J : jJ jSgM Dy h) (hQ : ∀ (v : Int32) h', jJ jSgM Dy h' → jSm fp_X12_value_r125 h h' → Q (some (.int v)) h') : jC m_X12_value 3 0 0 [.ref 125, .int a1, .int a2, .int a3, .int a4] h Q := by
  refine jC.of rfl k_X12_value rfl ?_
  have Sm := jSm_rf fp_X12_value_r125 h
  have ea1 := jfull a1
  have ea2 := jfull a2
  have ea3 := jfull a3
  have ea4 := jfull a4
  show jX m_X12_value 3 0 0 0 [(0, .ref 125), (1, .int a1), (2, .int a2), (3, .int a3), (4, .int a4)] [] _ 0 0 _
  refine x_aloadn (x := 125) rfl rfl ?_
  refine x_iconst (v := 0) rfl ki_0 ?_
  refine z_putI (N := 92) (w := 0) 12 0 rfl f_12_180 rfl (jfin_no TX12 RX12 92 rfl rfl) hD J Sm rfl rfl jk_0 (pw_125_0 (by omega)) rfl (fun h w1 J Sm => ?_)
  refine x_iloadn (x := a2) rfl rfl ?_
  refine z_i2l rfl rfl (fun v2 ev2 => ?_)
  refine x_lconst (v := 0) rfl kl_0 ?_
  refine x_ldc2 (v := 10000) rfl z_12_809 ?_
  refine x_inst (N := m_X12_in) (As := [.long v2, .long 0, .long 10000]) (st := []) (d' := 1) (mc := 0) (ms := 0) (host := "") rfl t_X12_in ⟨Or.inl q_12_188, s_X12_in⟩ rfl (by decide) rfl rfl ⟨by decide, by decide⟩ (zc_X12_in rfl jkl_0 jkl_10000 (fun v3 ev3 => ?_))
  show jX m_X12_value 3 0 0 14 [(0, .ref 125), (1, .int a1), (2, .int a2), (3, .int a3), (4, .int a4)] [.int v3] _ 0 0 _
  refine x_ifeq (tgt := 32) rfl rfl (ti_eq rfl jk_0 ⟨fun c4 => ?_, fun c4 => ?_⟩)
  ·
    exact jX.sub (jsb_c rfl jsb_n) (ct_X12_value_r125_32 hD hQ  h J Sm)
  ·
    refine x_iloadn (x := a3) rfl rfl ?_
    refine x_inst (N := m_X12_isDay) (As := [.int a3]) (st := []) (d' := 2) (mc := 0) (ms := 0) (host := "") rfl t_X12_isDay ⟨Or.inl q_12_273, s_X12_isDay⟩ rfl (by decide) rfl rfl ⟨by decide, by decide⟩ (zc_X12_isDay (d := 1) rfl (fun v5 ev5 => ?_))
    show jX m_X12_value 3 0 0 21 [(0, .ref 125), (1, .int a1), (2, .int a2), (3, .int a3), (4, .int a4)] [.int v5] _ 0 0 _
    refine x_ifeq (tgt := 32) rfl rfl (ti_eq rfl jk_0 ⟨fun c6 => ?_, fun c6 => ?_⟩)
    ·
      exact jX.sub (jsb_c rfl jsb_n) (ct_X12_value_r125_32 hD hQ  h J Sm)
    ·
      refine x_iload (x := a4) rfl rfl ?_
      refine x_inst (N := m_X12_isDay) (As := [.int a4]) (st := []) (d' := 2) (mc := 0) (ms := 0) (host := "") rfl t_X12_isDay ⟨Or.inl q_12_273, s_X12_isDay⟩ rfl (by decide) rfl rfl ⟨by decide, by decide⟩ (zc_X12_isDay (d := 1) rfl (fun v7 ev7 => ?_))
      show jX m_X12_value 3 0 0 29 [(0, .ref 125), (1, .int a1), (2, .int a2), (3, .int a3), (4, .int a4)] [.int v7] _ 0 0 _
      refine x_ifne (tgt := 38) rfl rfl (ti_ne rfl jk_0 ⟨fun c8 => ?_, fun c8 => ?_⟩)
      ·
        refine x_aloadn (x := 125) rfl rfl ?_
        refine x_iloadn (x := a1) rfl rfl ?_
        refine x_inv (N := m_X12_isHolding) (As := [.int a1]) (b := 125) (st := []) (d' := 2) (mc := 0) (ms := 0) (host := "") 12 rfl t_X12_isHolding ⟨Or.inl q_12_811, i_X12_isHolding.1, i_X12_isHolding.2⟩ ⟨by decide, rfl⟩ (congrArg Prod.fst (J.1.1 125 (12, 92) rfl)) rfl (by decide) rfl rfl ⟨by decide, by decide⟩ (jC.of rfl k_X12_isHolding rfl ?_)
        show jX m_X12_isHolding 2 0 0 0 [(0, .ref 125), (1, .int a1)] [] _ 0 0 _
        refine x_iloadn (x := a1) rfl rfl ?_
        refine z_i2l rfl rfl (fun v9 ev9 => ?_)
        refine x_lconst (v := 0) rfl kl_0 ?_
        refine x_aloadn (x := 125) rfl rfl ?_
        refine z_getR (N := 92) (b := 126) 12 2 rfl f_12_8 rfl J rfl 16002 ⟨rfl, rfl⟩ rfl ?_
        refine x_bipush (v := 7) rfl kb_7 ?_
        refine z_iald (N := 50660) rfl J rfl sg_126_7_8_1_0_1 jk_7 (by omega) (fun v10 qv10 ev10 => ?_)
        refine z_i2l rfl rfl (fun v11 ev11 => ?_)
        refine x_lconst (v := 1) rfl kl_1 ?_
        refine z_lsub rfl rfl jkl_1 (by omega) (fun v12 ev12 => ?_)
        refine x_inst (N := m_X12_in) (As := [.long v9, .long 0, .long v12]) (st := []) (d' := 1) (mc := 0) (ms := 0) (host := "") rfl t_X12_in ⟨Or.inl q_12_188, s_X12_in⟩ rfl (by decide) rfl rfl ⟨by decide, by decide⟩ (zc_X12_in rfl jkl_0 rfl (fun v13 ev13 => ?_))
        show jX m_X12_isHolding 2 0 0 16 [(0, .ref 125), (1, .int a1)] [.int v13] _ 0 0 _
        refine x_zret rfl rfl (jz01 (by omega)) ?_
        show jX m_X12_value 3 0 0 43 [(0, .ref 125), (1, .int a1), (2, .int a2), (3, .int a3), (4, .int a4)] [.int v13] _ 0 0 _
        refine x_ifne (tgt := 53) rfl rfl (ti_ne rfl jk_0 ⟨fun c14 => ?_, fun c14 => ?_⟩)
        ·
          refine x_aloadn (x := 125) rfl rfl ?_
          refine x_iloadn (x := a1) rfl rfl ?_
          refine x_inv (N := m_X12_splitOf) (As := [.int a1]) (b := 125) (st := []) (d' := 1) (mc := 0) (ms := 0) (host := "") 12 rfl t_X12_splitOf ⟨Or.inl q_12_805, i_X12_splitOf.1, i_X12_splitOf.2⟩ ⟨by decide, rfl⟩ (congrArg Prod.fst (J.1.1 125 (12, 92) rfl)) rfl (by decide) rfl rfl ⟨by decide, by decide⟩ (sf_X12_splitOf_r125 (jr_of rfl (by omega)) hD J  (fun v16 h ev16 J S15 => ?_))
          have Sm := jSm_tr rfl Sm S15
          show jX m_X12_value 3 0 0 58 [(0, .ref 125), (1, .int a1), (2, .int a2), (3, .int a3), (4, .int a4)] [.int v16] _ 0 0 _
          refine x_iconst (v := (-1)) rfl ki_m1 ?_
          refine x_iceq (tgt := 69) rfl rfl (ti_eq rfl jk_m1 ⟨fun c17 => ?_, fun c17 => ?_⟩)
          ·
            refine x_aloadn (x := 125) rfl rfl ?_
            refine z_getR (N := 92) (b := 126) 12 2 rfl f_12_8 rfl J rfl 16002 ⟨rfl, rfl⟩ rfl ?_
            refine x_bipush (v := 8) rfl kb_8 ?_
            refine z_iald (N := 50660) rfl J rfl sg_126_8_9_1_0_1 jk_8 (by omega) (fun v18 qv18 ev18 => ?_)
            refine x_bipush (v := 100) rfl kb_100 ?_
            refine x_icne (tgt := 88) rfl rfl (ti_ne rfl jk_100 ⟨fun c19 => ?_, fun c19 => ?_⟩)
            ·
              refine x_aloadn (x := 125) rfl rfl ?_
              refine x_ldcw (v := 47260) rfl z_12_800 ?_
              refine x_iconst (v := 4) rfl ki_4 ?_
              refine x_aloadn (x := 125) rfl rfl ?_
              refine z_getR (N := 92) (b := 126) 12 2 rfl f_12_8 rfl J rfl 16002 ⟨rfl, rfl⟩ rfl ?_
              refine x_bipush (v := 8) rfl kb_8 ?_
              refine z_ialdM (N := 50660) (v := v18) rfl J rfl jk_8 (by omega) qv18 ?_
              refine z_imul rfl jk_4 rfl (by omega) (fun v20 ev20 => ?_)
              refine z_iadd rfl jk_47260 rfl (by omega) (fun v21 ev21 => ?_)
              refine x_iloadn (x := a1) rfl rfl ?_
              refine x_iloadn (x := a2) rfl rfl ?_
              refine x_iloadn (x := a3) rfl rfl ?_
              refine x_iload (x := a4) rfl rfl ?_
              refine x_inv (N := m_X12_addFour) (As := [.int v21, .int a1, .int a2, .int a3, .int a4]) (b := 125) (st := []) (d' := 2) (mc := 0) (ms := 0) (host := "") 12 rfl t_X12_addFour ⟨Or.inl q_12_814, i_X12_addFour.1, i_X12_addFour.2⟩ ⟨by decide, rfl⟩ (congrArg Prod.fst (J.1.1 125 (12, 92) rfl)) rfl (by decide) rfl rfl ⟨by decide, by decide⟩ (jC.of rfl k_X12_addFour rfl ?_)
              show jX m_X12_addFour 2 0 0 0 [(0, .ref 125), (1, .int v21), (2, .int a1), (3, .int a2), (4, .int a3), (5, .int a4)] [] _ 0 0 _
              refine x_aloadn (x := 125) rfl rfl ?_
              refine z_getR (N := 92) (b := 126) 12 2 rfl f_12_8 rfl J rfl 16002 ⟨rfl, rfl⟩ rfl ?_
              refine x_iloadn (x := v21) rfl rfl ?_
              refine x_iloadn (x := a1) rfl rfl ?_
              refine z_iast (N := 50660) (l := 47260) (u := 47660) (w := a1.toInt) rfl hD J Sm rfl rfl rfl (by omega) rfl (wr_126_47260 (by omega) (fun q1 q2 q3 q4 => by omega) (fun q1 q2 q3 q4 => by omega) (fun q1 q2 q3 q4 => by omega) (fun q1 q2 q3 q4 => by omega)) rfl (fun h w22 J Sm => ?_)
              refine x_aloadn (x := 125) rfl rfl ?_
              refine z_getR (N := 92) (b := 126) 12 2 rfl f_12_8 rfl J rfl 16002 ⟨rfl, rfl⟩ rfl ?_
              refine x_iloadn (x := v21) rfl rfl ?_
              refine x_iconst (v := 1) rfl ki_1 ?_
              refine z_iadd rfl rfl jk_1 (by omega) (fun v23 ev23 => ?_)
              refine x_iloadn (x := a2) rfl rfl ?_
              refine z_iast (N := 50660) (l := 47260) (u := 47660) (w := a2.toInt) rfl hD J Sm rfl rfl rfl (by omega) rfl (wr_126_47260 (by omega) (fun q1 q2 q3 q4 => by omega) (fun q1 q2 q3 q4 => by omega) (fun q1 q2 q3 q4 => by omega) (fun q1 q2 q3 q4 => by omega)) rfl (fun h w24 J Sm => ?_)
              refine x_aloadn (x := 125) rfl rfl ?_
              refine z_getR (N := 92) (b := 126) 12 2 rfl f_12_8 rfl J rfl 16002 ⟨rfl, rfl⟩ rfl ?_
              refine x_iloadn (x := v21) rfl rfl ?_
              refine x_iconst (v := 2) rfl ki_2 ?_
              refine z_iadd rfl rfl jk_2 (by omega) (fun v25 ev25 => ?_)
              refine x_iload (x := a3) rfl rfl ?_
              refine z_iast (N := 50660) (l := 47260) (u := 47660) (w := a3.toInt) rfl hD J Sm rfl rfl rfl (by omega) rfl (wr_126_47260 (by omega) (fun q1 q2 q3 q4 => by omega) (fun q1 q2 q3 q4 => by omega) (fun q1 q2 q3 q4 => by omega) (fun q1 q2 q3 q4 => by omega)) rfl (fun h w26 J Sm => ?_)
              refine x_aloadn (x := 125) rfl rfl ?_
              refine z_getR (N := 92) (b := 126) 12 2 rfl f_12_8 rfl J rfl 16002 ⟨rfl, rfl⟩ rfl ?_
              refine x_iloadn (x := v21) rfl rfl ?_
              refine x_iconst (v := 3) rfl ki_3 ?_
              refine z_iadd rfl rfl jk_3 (by omega) (fun v27 ev27 => ?_)
              refine x_iload (x := a4) rfl rfl ?_
              refine z_iast (N := 50660) (l := 47260) (u := 47660) (w := a4.toInt) rfl hD J Sm rfl rfl rfl (by omega) rfl (wr_126_47260 (by omega) (fun q1 q2 q3 q4 => by omega) (fun q1 q2 q3 q4 => by omega) (fun q1 q2 q3 q4 => by omega) (fun q1 q2 q3 q4 => by omega)) rfl (fun h w28 J Sm => ?_)
              refine x_vret rfl rfl ?_
              show jX m_X12_value 3 0 0 110 [(0, .ref 125), (1, .int a1), (2, .int a2), (3, .int a3), (4, .int a4)] [] _ 0 0 _
              refine x_aloadn (x := 125) rfl rfl ?_
              refine z_getR (N := 92) (b := 126) 12 2 rfl f_12_8 rfl J rfl 16002 ⟨rfl, rfl⟩ rfl ?_
              refine x_bipush (v := 8) rfl kb_8 ?_
              refine x_dup2 rfl rfl rfl ?_
              refine z_ialdM (N := 50660) (v := v18) rfl J rfl jk_8 (by omega) (jmo2 w28 rfl jk_8 (by omega) (jmo2 w26 rfl jk_8 (by omega) (jmo2 w24 rfl jk_8 (by omega) (jmo2 w22 rfl jk_8 (by omega) qv18)))) ?_
              refine x_iconst (v := 1) rfl ki_1 ?_
              refine z_iadd rfl rfl jk_1 (by omega) (fun v29 ev29 => ?_)
              refine z_iast (N := 50660) (l := 8) (u := 9) (w := v29.toInt) rfl hD J Sm rfl rfl jk_8 (by omega) rfl (wr_126_8 (by omega) (fun q1 q2 q3 q4 => by omega)) rfl (fun h w30 J Sm => ?_)
              refine x_aloadn (x := 125) rfl rfl ?_
              refine x_aloadn (x := 125) rfl rfl ?_
              refine z_getR (N := 92) (b := 126) 12 2 rfl f_12_8 rfl J rfl 16002 ⟨rfl, rfl⟩ rfl ?_
              refine x_bipush (v := 8) rfl kb_8 ?_
              refine z_ialdM (N := 50660) (v := v29) rfl J rfl jk_8 (by omega) (jmw w30) ?_
              refine x_inv (N := m_X12_told) (As := [.int v29]) (b := 125) (st := []) (d' := 1) (mc := 0) (ms := 0) (host := "") 12 rfl t_X12_told ⟨Or.inl q_12_197, i_X12_told.1, i_X12_told.2⟩ ⟨by decide, rfl⟩ (congrArg Prod.fst (J.1.1 125 (12, 92) rfl)) rfl (by decide) rfl rfl ⟨by decide, by decide⟩ (sf_X12_told_r125  hD J  (fun v32 h J S31 => ?_))
              have ev32 := jfull v32
              have Sm := jSm_tr rfl Sm S31
              show jX m_X12_value 3 0 0 132 [(0, .ref 125), (1, .int a1), (2, .int a2), (3, .int a3), (4, .int a4)] [.int v32] _ 0 0 _
              refine x_iret rfl rfl ?_
              exact hQ _ _ J Sm
            ·
              refine x_aloadn (x := 125) rfl rfl ?_
              refine x_bipush (v := (-5)) rfl kb_m5 ?_
              refine x_inv (N := m_X12_told) (As := [.int (-5)]) (b := 125) (st := []) (d' := 1) (mc := 0) (ms := 0) (host := "") 12 rfl t_X12_told ⟨Or.inl q_12_197, i_X12_told.1, i_X12_told.2⟩ ⟨by decide, rfl⟩ (congrArg Prod.fst (J.1.1 125 (12, 92) rfl)) rfl (by decide) rfl rfl ⟨by decide, by decide⟩ (sf_X12_told_r125  hD J  (fun v34 h J S33 => ?_))
              have ev34 := jfull v34
              have Sm := jSm_tr rfl Sm S33
              show jX m_X12_value 3 0 0 87 [(0, .ref 125), (1, .int a1), (2, .int a2), (3, .int a3), (4, .int a4)] [.int v34] _ 0 0 _
              refine x_iret rfl rfl ?_
              exact hQ _ _ J Sm
          ·
            refine x_aloadn (x := 125) rfl rfl ?_
            refine x_bipush (v := (-3)) rfl kb_m3 ?_
            refine x_inv (N := m_X12_told) (As := [.int (-3)]) (b := 125) (st := []) (d' := 1) (mc := 0) (ms := 0) (host := "") 12 rfl t_X12_told ⟨Or.inl q_12_197, i_X12_told.1, i_X12_told.2⟩ ⟨by decide, rfl⟩ (congrArg Prod.fst (J.1.1 125 (12, 92) rfl)) rfl (by decide) rfl rfl ⟨by decide, by decide⟩ (sf_X12_told_r125  hD J  (fun v36 h J S35 => ?_))
            have ev36 := jfull v36
            have Sm := jSm_tr rfl Sm S35
            show jX m_X12_value 3 0 0 68 [(0, .ref 125), (1, .int a1), (2, .int a2), (3, .int a3), (4, .int a4)] [.int v36] _ 0 0 _
            refine x_iret rfl rfl ?_
            exact hQ _ _ J Sm
        ·
          refine x_aloadn (x := 125) rfl rfl ?_
          refine x_bipush (v := (-2)) rfl kb_m2 ?_
          refine x_inv (N := m_X12_told) (As := [.int (-2)]) (b := 125) (st := []) (d' := 1) (mc := 0) (ms := 0) (host := "") 12 rfl t_X12_told ⟨Or.inl q_12_197, i_X12_told.1, i_X12_told.2⟩ ⟨by decide, rfl⟩ (congrArg Prod.fst (J.1.1 125 (12, 92) rfl)) rfl (by decide) rfl rfl ⟨by decide, by decide⟩ (sf_X12_told_r125  hD J  (fun v38 h J S37 => ?_))
          have ev38 := jfull v38
          have Sm := jSm_tr rfl Sm S37
          show jX m_X12_value 3 0 0 52 [(0, .ref 125), (1, .int a1), (2, .int a2), (3, .int a3), (4, .int a4)] [.int v38] _ 0 0 _
          refine x_iret rfl rfl ?_
          exact hQ _ _ J Sm
      ·
        exact jX.sub (jsb_c rfl jsb_n) (ct_X12_value_r125_32 hD hQ  h J Sm)
