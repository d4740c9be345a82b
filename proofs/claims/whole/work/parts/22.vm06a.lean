def fp_X12_guessFilled_r125d : jFp := []
set_option maxRecDepth 100000 in
set_option maxHeartbeats 4000000 in
theorem ct_X12_guessFilled_r125d_220 {Dy : jH → Prop} {h0 : jH} {Q : Option Value → jH → Prop} {dr : Int} (hD : jDk Dy) (hQ : ∀ (v : Int32) hx9, jJ jSgM Dy hx9 → jSm fp_X12_guessFilled_r125d h0 hx9 → dr = v.toInt → vw hx9 = vw h0 → Q (some (.int v)) hx9) : ∀ (s0 : Int32) (h : jH), jJ jSgM Dy h → jSm fp_X12_guessFilled_r125d h0 h → d_X12_guessFilled_r125d_220  s0.toInt (vw h) = dr → vw h = vw h0 → jX m_X12_guessFilled 3 0 0 220 [] [.int s0] h 0 0 Q := by
  intro s0 h    J Sm D EV
  have es0 := jfull s0
  unfold d_X12_guessFilled_r125d_220 at D
  refine x_iret rfl rfl ?_
  exact hQ _ _ J Sm (D.symm.trans (show s0.toInt = s0.toInt from by omega)) EV
set_option maxRecDepth 100000 in
set_option maxHeartbeats 4000000 in
theorem ct_X12_guessFilled_r125d_200220 {Dy : jH → Prop} {h0 : jH} {Q : Option Value → jH → Prop} {dr : Int} (hD : jDk Dy) (hQ : ∀ (v : Int32) hx9, jJ jSgM Dy hx9 → jSm fp_X12_guessFilled_r125d h0 hx9 → dr = v.toInt → vw hx9 = vw h0 → Q (some (.int v)) hx9) : ∀ (h : jH), jJ jSgM Dy h → jSm fp_X12_guessFilled_r125d h0 h → d_X12_guessFilled_r125d_200220  (vw h) = dr → vw h = vw h0 → jX m_X12_guessFilled 3 0 0 220 [] [.int 0] h 0 0 Q := by
  intro  h    J Sm D EV
  unfold d_X12_guessFilled_r125d_200220 at D
  refine x_iret rfl rfl ?_
  exact hQ _ _ J Sm (D.symm.trans (show 0 = (0 : Int32).toInt from by have := jk_0; omega)) EV
set_option maxRecDepth 100000 in
set_option maxHeartbeats 4000000 in
theorem ct_X12_guessFilled_r125d_5000176 {Dy : jH → Prop} {h0 : jH} {Q : Option Value → jH → Prop} {dr : Int} {K70 : Int → Int → Int → Int → Int → Int → jW → Int} {R70 : Int} (hD : jDk Dy) (hQ : ∀ (v : Int32) hx9, jJ jSgM Dy hx9 → jSm fp_X12_guessFilled_r125d h0 hx9 → dr = v.toInt → vw hx9 = vw h0 → Q (some (.int v)) hx9) (k70 : ∀ (l1 : Int32) (l2 : Int32) (l3 : Int32) (l4 : Int64) (l6 : Int64) (l8 : Int32) (h : jH), 200 - l8.toInt < R70 → 0 ≤ l1.toInt ∧ l1.toInt ≤ 5 → 0 ≤ l2.toInt ∧ l2.toInt ≤ 146399 → 0 ≤ l3.toInt ∧ l3.toInt ≤ 146399 → 0 ≤ l4.toInt ∧ l4.toInt ≤ 153719 → 0 ≤ l8.toInt ∧ l8.toInt ≤ 200 → jJ jSgM Dy h → jSm fp_X12_guessFilled_r125d h0 h → K70 l1.toInt l2.toInt l3.toInt l4.toInt l6.toInt l8.toInt (vw h) = dr → vw h = vw h0 → jX m_X12_guessFilled 3 0 0 70 [(0, .ref 125), (1, .int l1), (2, .int l2), (3, .int l3), (4, .long l4), (6, .long l6), (8, .int l8)] [] h 0 0 Q) : ∀ (l1 : Int32) (l2 : Int32) (l3 : Int32) (l4 : Int64) (l8 : Int32) (s0 : Int64) (s1 : Int64) (h : jH), 0 ≤ l1.toInt ∧ l1.toInt ≤ 5 → 0 ≤ l2.toInt ∧ l2.toInt ≤ 146399 → 0 ≤ l3.toInt ∧ l3.toInt ≤ 146399 → 0 ≤ l4.toInt ∧ l4.toInt ≤ 153719 → 0 ≤ l8.toInt ∧ l8.toInt ≤ 199 → 0 ≤ s0.toInt ∧ s0.toInt ≤ 1 → 200 - l8.toInt ≤ R70 → jJ jSgM Dy h → jSm fp_X12_guessFilled_r125d h0 h → d_X12_guessFilled_r125d_5000176 K70  l1.toInt l2.toInt l3.toInt l4.toInt l8.toInt s0.toInt s1.toInt (vw h) = dr → vw h = vw h0 → jX m_X12_guessFilled 3 0 0 176 [(0, .ref 125), (1, .int l1), (2, .int l2), (3, .int l3), (4, .long l4), (8, .int l8)] [.long s0, .long s1] h 0 0 Q := by
  intro l1 l2 l3 l4 l8 s0 s1 h y0 y1 y2 y3 y4 y5  m70 J Sm D EV
  have es1 := jfullL s1
  unfold d_X12_guessFilled_r125d_5000176 at D
  refine z_laddW rfl rfl rfl (fun v1 ev1 => ?_)
  have fv1 := jfullL v1
  try rw [← ev1] at D
  refine x_lstore (lsx9 := [(6, .long v1), (0, .ref 125), (1, .int l1), (2, .int l2), (3, .int l3), (4, .long l4), (8, .int l8)]) rfl rfl rfl ?_
  refine z_iinc (x := l8) (lsx9 := fun v2 => [(8, .int v2), (6, .long v1), (0, .ref 125), (1, .int l1), (2, .int l2), (3, .int l3), (4, .long l4)]) rfl rfl rfl jko_1 (by omega) rfl (fun _ => rfl) (fun v2 ev2 => ?_)
  refine x_goto (tgt := 70) rfl rfl ?_
  try rw [show (l8.toInt + 1) = v2.toInt from by omega] at D
  exact jX.sub (jsb_c rfl (jsb_c rfl (jsb_c rfl (jsb_c rfl (jsb_c rfl (jsb_c rfl (jsb_c rfl jsb_n))))))) (k70 l1 l2 l3 l4 v1 v2 h (by omega) (jr_of rfl (by omega)) (jr_of rfl (by omega)) (jr_of rfl (by omega)) (jr_ofl rfl (by omega)) (jr_of rfl (by omega)) J Sm D EV)
set_option maxRecDepth 100000 in
set_option maxHeartbeats 4000000 in
theorem ct_X12_guessFilled_r125d_175 {Dy : jH → Prop} {h0 : jH} {Q : Option Value → jH → Prop} {dr : Int} {K70 : Int → Int → Int → Int → Int → Int → jW → Int} {R70 : Int} (hD : jDk Dy) (hQ : ∀ (v : Int32) hx9, jJ jSgM Dy hx9 → jSm fp_X12_guessFilled_r125d h0 hx9 → dr = v.toInt → vw hx9 = vw h0 → Q (some (.int v)) hx9) (k70 : ∀ (l1 : Int32) (l2 : Int32) (l3 : Int32) (l4 : Int64) (l6 : Int64) (l8 : Int32) (h : jH), 200 - l8.toInt < R70 → 0 ≤ l1.toInt ∧ l1.toInt ≤ 5 → 0 ≤ l2.toInt ∧ l2.toInt ≤ 146399 → 0 ≤ l3.toInt ∧ l3.toInt ≤ 146399 → 0 ≤ l4.toInt ∧ l4.toInt ≤ 153719 → 0 ≤ l8.toInt ∧ l8.toInt ≤ 200 → jJ jSgM Dy h → jSm fp_X12_guessFilled_r125d h0 h → K70 l1.toInt l2.toInt l3.toInt l4.toInt l6.toInt l8.toInt (vw h) = dr → vw h = vw h0 → jX m_X12_guessFilled 3 0 0 70 [(0, .ref 125), (1, .int l1), (2, .int l2), (3, .int l3), (4, .long l4), (6, .long l6), (8, .int l8)] [] h 0 0 Q) : ∀ (l1 : Int32) (l2 : Int32) (l3 : Int32) (l4 : Int64) (l8 : Int32) (s0 : Int64) (h : jH), 0 ≤ l1.toInt ∧ l1.toInt ≤ 5 → 0 ≤ l2.toInt ∧ l2.toInt ≤ 146399 → 0 ≤ l3.toInt ∧ l3.toInt ≤ 146399 → 0 ≤ l4.toInt ∧ l4.toInt ≤ 153719 → 0 ≤ l8.toInt ∧ l8.toInt ≤ 199 → 200 - l8.toInt ≤ R70 → jJ jSgM Dy h → jSm fp_X12_guessFilled_r125d h0 h → d_X12_guessFilled_r125d_175 K70  l1.toInt l2.toInt l3.toInt l4.toInt l8.toInt s0.toInt (vw h) = dr → vw h = vw h0 → jX m_X12_guessFilled 3 0 0 175 [(0, .ref 125), (1, .int l1), (2, .int l2), (3, .int l3), (4, .long l4), (8, .int l8)] [.long s0] h 0 0 Q := by
  intro l1 l2 l3 l4 l8 s0 h y0 y1 y2 y3 y4  m70 J Sm D EV
  have es0 := jfullL s0
  unfold d_X12_guessFilled_r125d_175 at D
  refine x_lconst (v := 0) rfl kl_0 ?_
  exact jX.sub (jsb_c rfl (jsb_c rfl (jsb_c rfl (jsb_c rfl (jsb_c rfl (jsb_c rfl jsb_n)))))) (ct_X12_guessFilled_r125d_5000176 hD hQ k70 l1 l2 l3 l4 l8 0 s0 h (jr_of rfl (by omega)) (jr_of rfl (by omega)) (jr_of rfl (by omega)) (jr_ofl rfl (by omega)) (jr_of rfl (by omega)) (jr_ofl jkl_0 (by omega)) (by omega) J Sm (by rw [jkl_0]; exact D) EV)
set_option maxRecDepth 100000 in
set_option maxHeartbeats 4000000 in
theorem ct_X12_guessFilled_r125d_300127 {Dy : jH → Prop} {h0 : jH} {Q : Option Value → jH → Prop} {dr : Int} {K70 : Int → Int → Int → Int → Int → Int → jW → Int} {R70 : Int} (hD : jDk Dy) (hQ : ∀ (v : Int32) hx9, jJ jSgM Dy hx9 → jSm fp_X12_guessFilled_r125d h0 hx9 → dr = v.toInt → vw hx9 = vw h0 → Q (some (.int v)) hx9) (k70 : ∀ (l1 : Int32) (l2 : Int32) (l3 : Int32) (l4 : Int64) (l6 : Int64) (l8 : Int32) (h : jH), 200 - l8.toInt < R70 → 0 ≤ l1.toInt ∧ l1.toInt ≤ 5 → 0 ≤ l2.toInt ∧ l2.toInt ≤ 146399 → 0 ≤ l3.toInt ∧ l3.toInt ≤ 146399 → 0 ≤ l4.toInt ∧ l4.toInt ≤ 153719 → 0 ≤ l8.toInt ∧ l8.toInt ≤ 200 → jJ jSgM Dy h → jSm fp_X12_guessFilled_r125d h0 h → K70 l1.toInt l2.toInt l3.toInt l4.toInt l6.toInt l8.toInt (vw h) = dr → vw h = vw h0 → jX m_X12_guessFilled 3 0 0 70 [(0, .ref 125), (1, .int l1), (2, .int l2), (3, .int l3), (4, .long l4), (6, .long l6), (8, .int l8)] [] h 0 0 Q) : ∀ (l1 : Int32) (l2 : Int32) (l3 : Int32) (l4 : Int64) (l6 : Int64) (l8 : Int32) (l9 : Int32) (h : jH), 0 ≤ l1.toInt ∧ l1.toInt ≤ 5 → 0 ≤ l2.toInt ∧ l2.toInt ≤ 146399 → 0 ≤ l3.toInt ∧ l3.toInt ≤ 146399 → 0 ≤ l4.toInt ∧ l4.toInt ≤ 153719 → 0 ≤ l8.toInt ∧ l8.toInt ≤ 199 → 0 ≤ l9.toInt ∧ l9.toInt ≤ 146399 → 200 - l8.toInt ≤ R70 → jJ jSgM Dy h → jSm fp_X12_guessFilled_r125d h0 h → d_X12_guessFilled_r125d_300127 K70  l1.toInt l2.toInt l3.toInt l4.toInt l6.toInt l8.toInt l9.toInt (vw h) = dr → vw h = vw h0 → jX m_X12_guessFilled 3 0 0 127 [(0, .ref 125), (1, .int l1), (2, .int l2), (3, .int l3), (4, .long l4), (6, .long l6), (8, .int l8), (9, .int l9)] [.int 1] h 0 0 Q := by
  intro l1 l2 l3 l4 l6 l8 l9 h y0 y1 y2 y3 y4 y5  m70 J Sm D EV
  have el6 := jfullL l6
  unfold d_X12_guessFilled_r125d_300127 at D
  refine x_istore (lsx9 := [(10, .int 1), (0, .ref 125), (1, .int l1), (2, .int l2), (3, .int l3), (4, .long l4), (6, .long l6), (8, .int l8), (9, .int l9)]) rfl rfl rfl ?_
  refine x_lload (x := l6) rfl rfl ?_
  refine x_aloadn (x := 125) rfl rfl ?_
  refine x_iload (x := l8) rfl rfl ?_
  refine x_inv (N := m_X12_bookOf) (As := [.int l8]) (b := 125) (st := [.long l6]) (dx9 := 2) (mc := 0) (ms := 0) (host := "") 12 rfl t_X12_bookOf ⟨Or.inl q_12_299, i_X12_bookOf.1, i_X12_bookOf.2⟩ ⟨by decide, rfl⟩ (congrArg Prod.fst (J.1.1 125 (12, 92) rfl)) rfl (by decide) rfl rfl ⟨by decide, by decide⟩ (jC.of rfl k_X12_bookOf rfl ?_)
  show jX m_X12_bookOf 2 0 0 0 [(0, .ref 125), (1, .int l8)] [] _ 0 0 _
  refine x_aloadn (x := 125) rfl rfl ?_
  refine z_getR (N := 92) (b := 126) 12 2 rfl f_12_8 rfl J rfl 16002 ⟨rfl, rfl⟩ rfl ?_
  refine x_aloadn (x := 125) rfl rfl ?_
  refine x_iloadn (x := l8) rfl rfl ?_
  refine x_inv (N := m_X12_at) (As := [.int l8]) (b := 125) (st := [.ref 126]) (dx9 := 1) (mc := 0) (ms := 0) (host := "") 12 rfl t_X12_at ⟨Or.inl q_12_254, i_X12_at.1, i_X12_at.2⟩ ⟨by decide, rfl⟩ (congrArg Prod.fst (J.1.1 125 (12, 92) rfl)) rfl (by decide) rfl rfl ⟨by decide, by decide⟩ (jC.of rfl k_X12_at rfl ?_)
  show jX m_X12_at 1 0 0 0 [(0, .ref 125), (1, .int l8)] [] _ 0 0 _
  refine x_bipush (v := 20) rfl kb_20 ?_
  refine x_bipush (v := 90) rfl kb_90 ?_
  refine x_iloadn (x := l8) rfl rfl ?_
  refine z_imul rfl jk_90 rfl (by omega) (fun v1 ev1 => ?_)
  refine z_iadd rfl jk_20 rfl (by omega) (fun v2 ev2 => ?_)
  refine x_iret rfl rfl ?_
  show jX m_X12_bookOf 2 0 0 9 [(0, .ref 125), (1, .int l8)] [.int v2, .ref 126] _ 0 0 _
  refine z_iald (N := 50660) rfl J rfl sg_126_20_18020_90_0_1 rfl (by omega) (fun v3 qv3 ev3 => ?_)
  try rw [vrd qv3 (show (20 + (90 * l8.toInt)) = v2.toInt from by omega)] at D
  refine x_iret rfl rfl ?_
  show jX m_X12_guessFilled 3 0 0 137 [(10, .int 1), (0, .ref 125), (1, .int l1), (2, .int l2), (3, .int l3), (4, .long l4), (6, .long l6), (8, .int l8), (9, .int l9)] [.int v3, .long l6] _ 0 0 _
  refine x_iloadn (x := l1) rfl rfl ?_
  refine x_icne (tgt := 175) rfl rfl (ti_ne rfl rfl ⟨fun c4 => ?_, fun c4 => ?_⟩)
  ·
    rw [if_neg (by omega)] at D
    exact jX.sub (jsb_c rfl (jsb_c rfl (jsb_c rfl (jsb_c rfl (jsb_c rfl (jsb_c rfl jsb_n)))))) (ct_X12_guessFilled_r125d_175 hD hQ k70 l1 l2 l3 l4 l8 l6 h (jr_of rfl (by omega)) (jr_of rfl (by omega)) (jr_of rfl (by omega)) (jr_ofl rfl (by omega)) (jr_of rfl (by omega)) (by omega) J Sm D EV)
  ·
    rw [if_pos (by omega)] at D
    refine x_aloadn (x := 125) rfl rfl ?_
    refine x_iload (x := l8) rfl rfl ?_
    refine x_aloadn (x := 125) rfl rfl ?_
    refine z_getI (N := 92) 12 28 rfl f_12_377 rfl J rfl sg_125_28_29_1_0_1 (fun v5 qv5 ev5 => ?_)
    try rw [vrf qv5] at D
    refine x_inv (N := m_X12_isKnown) (As := [.int l8, .int v5]) (b := 125) (st := [.long l6]) (dx9 := 2) (mc := 0) (ms := 0) (host := "") 12 rfl t_X12_isKnown ⟨Or.inl q_12_383, i_X12_isKnown.1, i_X12_isKnown.2⟩ ⟨by decide, rfl⟩ (congrArg Prod.fst (J.1.1 125 (12, 92) rfl)) rfl (by decide) rfl rfl ⟨by decide, by decide⟩ (jC.of rfl k_X12_isKnown rfl ?_)
    show jX m_X12_isKnown 2 0 0 0 [(0, .ref 125), (1, .int l8), (2, .int v5)] [] _ 0 0 _
    refine x_aloadn (x := 125) rfl rfl ?_
    refine z_getR (N := 92) (b := 126) 12 2 rfl f_12_8 rfl J rfl 16002 ⟨rfl, rfl⟩ rfl ?_
    refine x_aloadn (x := 125) rfl rfl ?_
    refine x_iloadn (x := l8) rfl rfl ?_
    refine x_inv (N := m_X12_at) (As := [.int l8]) (b := 125) (st := [.ref 126]) (dx9 := 1) (mc := 0) (ms := 0) (host := "") 12 rfl t_X12_at ⟨Or.inl q_12_254, i_X12_at.1, i_X12_at.2⟩ ⟨by decide, rfl⟩ (congrArg Prod.fst (J.1.1 125 (12, 92) rfl)) rfl (by decide) rfl rfl ⟨by decide, by decide⟩ (jC.of rfl k_X12_at rfl ?_)
    show jX m_X12_at 1 0 0 0 [(0, .ref 125), (1, .int l8)] [] _ 0 0 _
    refine x_bipush (v := 20) rfl kb_20 ?_
    refine x_bipush (v := 90) rfl kb_90 ?_
    refine x_iloadn (x := l8) rfl rfl ?_
    refine z_imul rfl jk_90 rfl (by omega) (fun v6 ev6 => ?_)
    refine z_iadd rfl jk_20 rfl (by omega) (fun v7 ev7 => ?_)
    refine x_iret rfl rfl ?_
    show jX m_X12_isKnown 2 0 0 9 [(0, .ref 125), (1, .int l8), (2, .int v5)] [.int v7, .ref 126] _ 0 0 _
    refine x_iconst (v := 3) rfl ki_3 ?_
    refine z_iadd rfl rfl jk_3 (by omega) (fun v8 ev8 => ?_)
    refine z_iald (N := 50660) rfl J rfl sg_126_20_18020_90_3_4 rfl (by omega) (fun v9 qv9 ev9 => ?_)
    try rw [vrd qv9 (show ((20 + (90 * l8.toInt)) + 3) = v8.toInt from by omega)] at D
    refine x_iloadn (x := v5) rfl rfl ?_
    refine x_icgt (tgt := 20) rfl rfl (ti_gt rfl rfl ⟨fun c10 => ?_, fun c10 => ?_⟩)
    ·
      rw [if_pos (by omega)] at D
      refine x_iconst (v := 0) rfl ki_0 ?_
      refine x_zret rfl rfl (by decide) ?_
      show jX m_X12_guessFilled 3 0 0 151 [(10, .int 1), (0, .ref 125), (1, .int l1), (2, .int l2), (3, .int l3), (4, .long l4), (6, .long l6), (8, .int l8), (9, .int l9)] [.int 0, .long l6] _ 0 0 _
      refine x_ifeq (tgt := 175) rfl rfl (ti_eq jk_0 jk_0 (br_t (by omega) ?_))
      exact jX.sub (jsb_c rfl (jsb_c rfl (jsb_c rfl (jsb_c rfl (jsb_c rfl (jsb_c rfl jsb_n)))))) (ct_X12_guessFilled_r125d_175 hD hQ k70 l1 l2 l3 l4 l8 l6 h (jr_of rfl (by omega)) (jr_of rfl (by omega)) (jr_of rfl (by omega)) (jr_ofl rfl (by omega)) (jr_of rfl (by omega)) (by omega) J Sm D EV)
    ·
      rw [if_neg (by omega)] at D
      refine x_iconst (v := 1) rfl ki_1 ?_
      refine x_goto (tgt := 21) rfl rfl ?_
      refine x_zret rfl rfl (by decide) ?_
      show jX m_X12_guessFilled 3 0 0 151 [(10, .int 1), (0, .ref 125), (1, .int l1), (2, .int l2), (3, .int l3), (4, .long l4), (6, .long l6), (8, .int l8), (9, .int l9)] [.int 1, .long l6] _ 0 0 _
      refine x_ifeq (tgt := 175) rfl rfl (ti_eq jk_1 jk_0 (br_f (by omega) ?_))
      refine x_iload (x := 1) rfl rfl ?_
      refine x_ifeq (tgt := 175) rfl rfl (ti_eq jk_1 jk_0 (br_f (by omega) ?_))
      refine x_aloadn (x := 125) rfl rfl ?_
      refine x_iloadn (x := l1) rfl rfl ?_
      refine x_iload (x := l9) rfl rfl ?_
      refine x_iload (x := l9) rfl rfl ?_
      refine x_inv (N := m_X12_isTorn) (As := [.int l1, .int l9, .int l9]) (b := 125) (st := [.long l6]) (dx9 := 1) (mc := 0) (ms := 0) (host := "") 12 rfl t_X12_isTorn ⟨Or.inl q_12_474, i_X12_isTorn.1, i_X12_isTorn.2⟩ ⟨by decide, rfl⟩ (congrArg Prod.fst (J.1.1 125 (12, 92) rfl)) rfl (by decide) rfl rfl ⟨by decide, by decide⟩ (sf_X12_isTorn_r125d (jr_of rfl (by omega)) (jr_of rfl (by omega)) (jr_of rfl (by omega)) hD J rfl  (fun v14 h ev14 J S11 X12 X13 => ?_))
      have Sm := jSm_tr rfl Sm S11
      try rw [X12] at D
      try rw [← X13] at D
      have EV := X13.trans EV
      show jX m_X12_guessFilled 3 0 0 168 [(10, .int 1), (0, .ref 125), (1, .int l1), (2, .int l2), (3, .int l3), (4, .long l4), (6, .long l6), (8, .int l8), (9, .int l9)] [.int v14, .long l6] _ 0 0 _
      refine x_ifne (tgt := 175) rfl rfl (ti_ne rfl jk_0 ⟨fun c15 => ?_, fun c15 => ?_⟩)
      ·
        rw [if_neg (by omega)] at D
        exact jX.sub (jsb_c rfl (jsb_c rfl (jsb_c rfl (jsb_c rfl (jsb_c rfl (jsb_c rfl jsb_n)))))) (ct_X12_guessFilled_r125d_175 hD hQ k70 l1 l2 l3 l4 l8 l6 h (jr_of rfl (by omega)) (jr_of rfl (by omega)) (jr_of rfl (by omega)) (jr_ofl rfl (by omega)) (jr_of rfl (by omega)) (by omega) J Sm D EV)
      ·
        rw [if_pos (by omega)] at D
        refine x_lconst (v := 1) rfl kl_1 ?_
        refine x_goto (tgt := 176) rfl rfl ?_
        exact jX.sub (jsb_c rfl (jsb_c rfl (jsb_c rfl (jsb_c rfl (jsb_c rfl (jsb_c rfl jsb_n)))))) (ct_X12_guessFilled_r125d_5000176 hD hQ k70 l1 l2 l3 l4 l8 1 l6 h (jr_of rfl (by omega)) (jr_of rfl (by omega)) (jr_of rfl (by omega)) (jr_ofl rfl (by omega)) (jr_of rfl (by omega)) (jr_ofl jkl_1 (by omega)) (by omega) J Sm (by rw [jkl_1]; exact D) EV)
set_option maxRecDepth 100000 in
set_option maxHeartbeats 4000000 in
theorem ct_X12_guessFilled_r125d_200127 {Dy : jH → Prop} {h0 : jH} {Q : Option Value → jH → Prop} {dr : Int} {K70 : Int → Int → Int → Int → Int → Int → jW → Int} {R70 : Int} (hD : jDk Dy) (hQ : ∀ (v : Int32) hx9, jJ jSgM Dy hx9 → jSm fp_X12_guessFilled_r125d h0 hx9 → dr = v.toInt → vw hx9 = vw h0 → Q (some (.int v)) hx9) (k70 : ∀ (l1 : Int32) (l2 : Int32) (l3 : Int32) (l4 : Int64) (l6 : Int64) (l8 : Int32) (h : jH), 200 - l8.toInt < R70 → 0 ≤ l1.toInt ∧ l1.toInt ≤ 5 → 0 ≤ l2.toInt ∧ l2.toInt ≤ 146399 → 0 ≤ l3.toInt ∧ l3.toInt ≤ 146399 → 0 ≤ l4.toInt ∧ l4.toInt ≤ 153719 → 0 ≤ l8.toInt ∧ l8.toInt ≤ 200 → jJ jSgM Dy h → jSm fp_X12_guessFilled_r125d h0 h → K70 l1.toInt l2.toInt l3.toInt l4.toInt l6.toInt l8.toInt (vw h) = dr → vw h = vw h0 → jX m_X12_guessFilled 3 0 0 70 [(0, .ref 125), (1, .int l1), (2, .int l2), (3, .int l3), (4, .long l4), (6, .long l6), (8, .int l8)] [] h 0 0 Q) : ∀ (l1 : Int32) (l2 : Int32) (l3 : Int32) (l4 : Int64) (l6 : Int64) (l8 : Int32) (l9 : Int32) (h : jH), 0 ≤ l1.toInt ∧ l1.toInt ≤ 5 → 0 ≤ l2.toInt ∧ l2.toInt ≤ 146399 → 0 ≤ l3.toInt ∧ l3.toInt ≤ 146399 → 0 ≤ l4.toInt ∧ l4.toInt ≤ 153719 → 0 ≤ l8.toInt ∧ l8.toInt ≤ 199 → 0 ≤ l9.toInt ∧ l9.toInt ≤ 146399 → 200 - l8.toInt ≤ R70 → jJ jSgM Dy h → jSm fp_X12_guessFilled_r125d h0 h → d_X12_guessFilled_r125d_200127 K70  l1.toInt l2.toInt l3.toInt l4.toInt l6.toInt l8.toInt l9.toInt (vw h) = dr → vw h = vw h0 → jX m_X12_guessFilled 3 0 0 127 [(0, .ref 125), (1, .int l1), (2, .int l2), (3, .int l3), (4, .long l4), (6, .long l6), (8, .int l8), (9, .int l9)] [.int 0] h 0 0 Q := by
  intro l1 l2 l3 l4 l6 l8 l9 h y0 y1 y2 y3 y4 y5  m70 J Sm D EV
  have el6 := jfullL l6
  unfold d_X12_guessFilled_r125d_200127 at D
  refine x_istore (lsx9 := [(10, .int 0), (0, .ref 125), (1, .int l1), (2, .int l2), (3, .int l3), (4, .long l4), (6, .long l6), (8, .int l8), (9, .int l9)]) rfl rfl rfl ?_
  refine x_lload (x := l6) rfl rfl ?_
  refine x_aloadn (x := 125) rfl rfl ?_
  refine x_iload (x := l8) rfl rfl ?_
  refine x_inv (N := m_X12_bookOf) (As := [.int l8]) (b := 125) (st := [.long l6]) (dx9 := 2) (mc := 0) (ms := 0) (host := "") 12 rfl t_X12_bookOf ⟨Or.inl q_12_299, i_X12_bookOf.1, i_X12_bookOf.2⟩ ⟨by decide, rfl⟩ (congrArg Prod.fst (J.1.1 125 (12, 92) rfl)) rfl (by decide) rfl rfl ⟨by decide, by decide⟩ (jC.of rfl k_X12_bookOf rfl ?_)
  show jX m_X12_bookOf 2 0 0 0 [(0, .ref 125), (1, .int l8)] [] _ 0 0 _
  refine x_aloadn (x := 125) rfl rfl ?_
  refine z_getR (N := 92) (b := 126) 12 2 rfl f_12_8 rfl J rfl 16002 ⟨rfl, rfl⟩ rfl ?_
  refine x_aloadn (x := 125) rfl rfl ?_
  refine x_iloadn (x := l8) rfl rfl ?_
  refine x_inv (N := m_X12_at) (As := [.int l8]) (b := 125) (st := [.ref 126]) (dx9 := 1) (mc := 0) (ms := 0) (host := "") 12 rfl t_X12_at ⟨Or.inl q_12_254, i_X12_at.1, i_X12_at.2⟩ ⟨by decide, rfl⟩ (congrArg Prod.fst (J.1.1 125 (12, 92) rfl)) rfl (by decide) rfl rfl ⟨by decide, by decide⟩ (jC.of rfl k_X12_at rfl ?_)
  show jX m_X12_at 1 0 0 0 [(0, .ref 125), (1, .int l8)] [] _ 0 0 _
  refine x_bipush (v := 20) rfl kb_20 ?_
  refine x_bipush (v := 90) rfl kb_90 ?_
  refine x_iloadn (x := l8) rfl rfl ?_
  refine z_imul rfl jk_90 rfl (by omega) (fun v1 ev1 => ?_)
  refine z_iadd rfl jk_20 rfl (by omega) (fun v2 ev2 => ?_)
  refine x_iret rfl rfl ?_
  show jX m_X12_bookOf 2 0 0 9 [(0, .ref 125), (1, .int l8)] [.int v2, .ref 126] _ 0 0 _
  refine z_iald (N := 50660) rfl J rfl sg_126_20_18020_90_0_1 rfl (by omega) (fun v3 qv3 ev3 => ?_)
  try rw [vrd qv3 (show (20 + (90 * l8.toInt)) = v2.toInt from by omega)] at D
  refine x_iret rfl rfl ?_
  show jX m_X12_guessFilled 3 0 0 137 [(10, .int 0), (0, .ref 125), (1, .int l1), (2, .int l2), (3, .int l3), (4, .long l4), (6, .long l6), (8, .int l8), (9, .int l9)] [.int v3, .long l6] _ 0 0 _
  refine x_iloadn (x := l1) rfl rfl ?_
  refine x_icne (tgt := 175) rfl rfl (ti_ne rfl rfl ⟨fun c4 => ?_, fun c4 => ?_⟩)
  ·
    rw [if_neg (by omega)] at D
    exact jX.sub (jsb_c rfl (jsb_c rfl (jsb_c rfl (jsb_c rfl (jsb_c rfl (jsb_c rfl jsb_n)))))) (ct_X12_guessFilled_r125d_175 hD hQ k70 l1 l2 l3 l4 l8 l6 h (jr_of rfl (by omega)) (jr_of rfl (by omega)) (jr_of rfl (by omega)) (jr_ofl rfl (by omega)) (jr_of rfl (by omega)) (by omega) J Sm D EV)
  ·
    rw [if_pos (by omega)] at D
    refine x_aloadn (x := 125) rfl rfl ?_
    refine x_iload (x := l8) rfl rfl ?_
    refine x_aloadn (x := 125) rfl rfl ?_
    refine z_getI (N := 92) 12 28 rfl f_12_377 rfl J rfl sg_125_28_29_1_0_1 (fun v5 qv5 ev5 => ?_)
    try rw [vrf qv5] at D
    refine x_inv (N := m_X12_isKnown) (As := [.int l8, .int v5]) (b := 125) (st := [.long l6]) (dx9 := 2) (mc := 0) (ms := 0) (host := "") 12 rfl t_X12_isKnown ⟨Or.inl q_12_383, i_X12_isKnown.1, i_X12_isKnown.2⟩ ⟨by decide, rfl⟩ (congrArg Prod.fst (J.1.1 125 (12, 92) rfl)) rfl (by decide) rfl rfl ⟨by decide, by decide⟩ (jC.of rfl k_X12_isKnown rfl ?_)
    show jX m_X12_isKnown 2 0 0 0 [(0, .ref 125), (1, .int l8), (2, .int v5)] [] _ 0 0 _
    refine x_aloadn (x := 125) rfl rfl ?_
    refine z_getR (N := 92) (b := 126) 12 2 rfl f_12_8 rfl J rfl 16002 ⟨rfl, rfl⟩ rfl ?_
    refine x_aloadn (x := 125) rfl rfl ?_
    refine x_iloadn (x := l8) rfl rfl ?_
    refine x_inv (N := m_X12_at) (As := [.int l8]) (b := 125) (st := [.ref 126]) (dx9 := 1) (mc := 0) (ms := 0) (host := "") 12 rfl t_X12_at ⟨Or.inl q_12_254, i_X12_at.1, i_X12_at.2⟩ ⟨by decide, rfl⟩ (congrArg Prod.fst (J.1.1 125 (12, 92) rfl)) rfl (by decide) rfl rfl ⟨by decide, by decide⟩ (jC.of rfl k_X12_at rfl ?_)
    show jX m_X12_at 1 0 0 0 [(0, .ref 125), (1, .int l8)] [] _ 0 0 _
    refine x_bipush (v := 20) rfl kb_20 ?_
    refine x_bipush (v := 90) rfl kb_90 ?_
    refine x_iloadn (x := l8) rfl rfl ?_
    refine z_imul rfl jk_90 rfl (by omega) (fun v6 ev6 => ?_)
    refine z_iadd rfl jk_20 rfl (by omega) (fun v7 ev7 => ?_)
    refine x_iret rfl rfl ?_
    show jX m_X12_isKnown 2 0 0 9 [(0, .ref 125), (1, .int l8), (2, .int v5)] [.int v7, .ref 126] _ 0 0 _
    refine x_iconst (v := 3) rfl ki_3 ?_
    refine z_iadd rfl rfl jk_3 (by omega) (fun v8 ev8 => ?_)
    refine z_iald (N := 50660) rfl J rfl sg_126_20_18020_90_3_4 rfl (by omega) (fun v9 qv9 ev9 => ?_)
    try rw [vrd qv9 (show ((20 + (90 * l8.toInt)) + 3) = v8.toInt from by omega)] at D
    refine x_iloadn (x := v5) rfl rfl ?_
    refine x_icgt (tgt := 20) rfl rfl (ti_gt rfl rfl ⟨fun c10 => ?_, fun c10 => ?_⟩)
    ·
      rw [if_pos (by omega)] at D
      refine x_iconst (v := 0) rfl ki_0 ?_
      refine x_zret rfl rfl (by decide) ?_
      show jX m_X12_guessFilled 3 0 0 151 [(10, .int 0), (0, .ref 125), (1, .int l1), (2, .int l2), (3, .int l3), (4, .long l4), (6, .long l6), (8, .int l8), (9, .int l9)] [.int 0, .long l6] _ 0 0 _
      refine x_ifeq (tgt := 175) rfl rfl (ti_eq jk_0 jk_0 (br_t (by omega) ?_))
      exact jX.sub (jsb_c rfl (jsb_c rfl (jsb_c rfl (jsb_c rfl (jsb_c rfl (jsb_c rfl jsb_n)))))) (ct_X12_guessFilled_r125d_175 hD hQ k70 l1 l2 l3 l4 l8 l6 h (jr_of rfl (by omega)) (jr_of rfl (by omega)) (jr_of rfl (by omega)) (jr_ofl rfl (by omega)) (jr_of rfl (by omega)) (by omega) J Sm D EV)
    ·
      rw [if_neg (by omega)] at D
      refine x_iconst (v := 1) rfl ki_1 ?_
      refine x_goto (tgt := 21) rfl rfl ?_
      refine x_zret rfl rfl (by decide) ?_
      show jX m_X12_guessFilled 3 0 0 151 [(10, .int 0), (0, .ref 125), (1, .int l1), (2, .int l2), (3, .int l3), (4, .long l4), (6, .long l6), (8, .int l8), (9, .int l9)] [.int 1, .long l6] _ 0 0 _
      refine x_ifeq (tgt := 175) rfl rfl (ti_eq jk_1 jk_0 (br_f (by omega) ?_))
      refine x_iload (x := 0) rfl rfl ?_
      refine x_ifeq (tgt := 175) rfl rfl (ti_eq jk_0 jk_0 (br_t (by omega) ?_))
      exact jX.sub (jsb_c rfl (jsb_c rfl (jsb_c rfl (jsb_c rfl (jsb_c rfl (jsb_c rfl jsb_n)))))) (ct_X12_guessFilled_r125d_175 hD hQ k70 l1 l2 l3 l4 l8 l6 h (jr_of rfl (by omega)) (jr_of rfl (by omega)) (jr_of rfl (by omega)) (jr_ofl rfl (by omega)) (jr_of rfl (by omega)) (by omega) J Sm D EV)
set_option maxRecDepth 100000 in
set_option maxHeartbeats 4000000 in
theorem ct_X12_guessFilled_r125d_126 {Dy : jH → Prop} {h0 : jH} {Q : Option Value → jH → Prop} {dr : Int} {K70 : Int → Int → Int → Int → Int → Int → jW → Int} {R70 : Int} (hD : jDk Dy) (hQ : ∀ (v : Int32) hx9, jJ jSgM Dy hx9 → jSm fp_X12_guessFilled_r125d h0 hx9 → dr = v.toInt → vw hx9 = vw h0 → Q (some (.int v)) hx9) (k70 : ∀ (l1 : Int32) (l2 : Int32) (l3 : Int32) (l4 : Int64) (l6 : Int64) (l8 : Int32) (h : jH), 200 - l8.toInt < R70 → 0 ≤ l1.toInt ∧ l1.toInt ≤ 5 → 0 ≤ l2.toInt ∧ l2.toInt ≤ 146399 → 0 ≤ l3.toInt ∧ l3.toInt ≤ 146399 → 0 ≤ l4.toInt ∧ l4.toInt ≤ 153719 → 0 ≤ l8.toInt ∧ l8.toInt ≤ 200 → jJ jSgM Dy h → jSm fp_X12_guessFilled_r125d h0 h → K70 l1.toInt l2.toInt l3.toInt l4.toInt l6.toInt l8.toInt (vw h) = dr → vw h = vw h0 → jX m_X12_guessFilled 3 0 0 70 [(0, .ref 125), (1, .int l1), (2, .int l2), (3, .int l3), (4, .long l4), (6, .long l6), (8, .int l8)] [] h 0 0 Q) : ∀ (l1 : Int32) (l2 : Int32) (l3 : Int32) (l4 : Int64) (l6 : Int64) (l8 : Int32) (l9 : Int32) (h : jH), 0 ≤ l1.toInt ∧ l1.toInt ≤ 5 → 0 ≤ l2.toInt ∧ l2.toInt ≤ 146399 → 0 ≤ l3.toInt ∧ l3.toInt ≤ 146399 → 0 ≤ l4.toInt ∧ l4.toInt ≤ 153719 → 0 ≤ l8.toInt ∧ l8.toInt ≤ 199 → 0 ≤ l9.toInt ∧ l9.toInt ≤ 146399 → 200 - l8.toInt ≤ R70 → jJ jSgM Dy h → jSm fp_X12_guessFilled_r125d h0 h → d_X12_guessFilled_r125d_126 K70  l1.toInt l2.toInt l3.toInt l4.toInt l6.toInt l8.toInt l9.toInt (vw h) = dr → vw h = vw h0 → jX m_X12_guessFilled 3 0 0 126 [(0, .ref 125), (1, .int l1), (2, .int l2), (3, .int l3), (4, .long l4), (6, .long l6), (8, .int l8), (9, .int l9)] [] h 0 0 Q := by
  intro l1 l2 l3 l4 l6 l8 l9 h y0 y1 y2 y3 y4 y5  m70 J Sm D EV
  have el6 := jfullL l6
  unfold d_X12_guessFilled_r125d_126 at D
  refine x_iconst (v := 0) rfl ki_0 ?_
  exact jX.sub (jsb_c rfl (jsb_c rfl (jsb_c rfl (jsb_c rfl (jsb_c rfl (jsb_c rfl (jsb_c rfl (jsb_c rfl jsb_n)))))))) (ct_X12_guessFilled_r125d_200127 hD hQ k70 l1 l2 l3 l4 l6 l8 l9 h (jr_of rfl (by omega)) (jr_of rfl (by omega)) (jr_of rfl (by omega)) (jr_ofl rfl (by omega)) (jr_of rfl (by omega)) (jr_of rfl (by omega)) (by omega) J Sm D EV)
set_option maxRecDepth 100000 in
set_option maxHeartbeats 4000000 in
theorem ct_X12_guessFilled_r125d_122 {Dy : jH → Prop} {h0 : jH} {Q : Option Value → jH → Prop} {dr : Int} {K70 : Int → Int → Int → Int → Int → Int → jW → Int} {R70 : Int} (hD : jDk Dy) (hQ : ∀ (v : Int32) hx9, jJ jSgM Dy hx9 → jSm fp_X12_guessFilled_r125d h0 hx9 → dr = v.toInt → vw hx9 = vw h0 → Q (some (.int v)) hx9) (k70 : ∀ (l1 : Int32) (l2 : Int32) (l3 : Int32) (l4 : Int64) (l6 : Int64) (l8 : Int32) (h : jH), 200 - l8.toInt < R70 → 0 ≤ l1.toInt ∧ l1.toInt ≤ 5 → 0 ≤ l2.toInt ∧ l2.toInt ≤ 146399 → 0 ≤ l3.toInt ∧ l3.toInt ≤ 146399 → 0 ≤ l4.toInt ∧ l4.toInt ≤ 153719 → 0 ≤ l8.toInt ∧ l8.toInt ≤ 200 → jJ jSgM Dy h → jSm fp_X12_guessFilled_r125d h0 h → K70 l1.toInt l2.toInt l3.toInt l4.toInt l6.toInt l8.toInt (vw h) = dr → vw h = vw h0 → jX m_X12_guessFilled 3 0 0 70 [(0, .ref 125), (1, .int l1), (2, .int l2), (3, .int l3), (4, .long l4), (6, .long l6), (8, .int l8)] [] h 0 0 Q) : ∀ (l1 : Int32) (l2 : Int32) (l3 : Int32) (l4 : Int64) (l6 : Int64) (l8 : Int32) (l9 : Int32) (h : jH), 0 ≤ l1.toInt ∧ l1.toInt ≤ 5 → 0 ≤ l2.toInt ∧ l2.toInt ≤ 146399 → 0 ≤ l3.toInt ∧ l3.toInt ≤ 146399 → 0 ≤ l4.toInt ∧ l4.toInt ≤ 153719 → 0 ≤ l8.toInt ∧ l8.toInt ≤ 199 → 0 ≤ l9.toInt ∧ l9.toInt ≤ 146399 → 200 - l8.toInt ≤ R70 → jJ jSgM Dy h → jSm fp_X12_guessFilled_r125d h0 h → d_X12_guessFilled_r125d_122 K70  l1.toInt l2.toInt l3.toInt l4.toInt l6.toInt l8.toInt l9.toInt (vw h) = dr → vw h = vw h0 → jX m_X12_guessFilled 3 0 0 122 [(0, .ref 125), (1, .int l1), (2, .int l2), (3, .int l3), (4, .long l4), (6, .long l6), (8, .int l8), (9, .int l9)] [] h 0 0 Q := by
  intro l1 l2 l3 l4 l6 l8 l9 h y0 y1 y2 y3 y4 y5  m70 J Sm D EV
  have el6 := jfullL l6
  unfold d_X12_guessFilled_r125d_122 at D
  refine x_iconst (v := 1) rfl ki_1 ?_
  refine x_goto (tgt := 127) rfl rfl ?_
  exact jX.sub (jsb_c rfl (jsb_c rfl (jsb_c rfl (jsb_c rfl (jsb_c rfl (jsb_c rfl (jsb_c rfl (jsb_c rfl jsb_n)))))))) (ct_X12_guessFilled_r125d_300127 hD hQ k70 l1 l2 l3 l4 l6 l8 l9 h (jr_of rfl (by omega)) (jr_of rfl (by omega)) (jr_of rfl (by omega)) (jr_ofl rfl (by omega)) (jr_of rfl (by omega)) (jr_of rfl (by omega)) (by omega) J Sm D EV)
set_option maxRecDepth 100000 in
set_option maxHeartbeats 4000000 in
theorem ct_X12_guessFilled_r125d_70 {Dy : jH → Prop} {h0 : jH} {Q : Option Value → jH → Prop} {dr : Int} (hD : jDk Dy) (hQ : ∀ (v : Int32) hx9, jJ jSgM Dy hx9 → jSm fp_X12_guessFilled_r125d h0 hx9 → dr = v.toInt → vw hx9 = vw h0 → Q (some (.int v)) hx9) : ∀ r : Nat, ∀ (l1 : Int32) (l2 : Int32) (l3 : Int32) (l4 : Int64) (l6 : Int64) (l8 : Int32) (h : jH), 200 - l8.toInt < (r : Int) → 0 ≤ l1.toInt ∧ l1.toInt ≤ 5 → 0 ≤ l2.toInt ∧ l2.toInt ≤ 146399 → 0 ≤ l3.toInt ∧ l3.toInt ≤ 146399 → 0 ≤ l4.toInt ∧ l4.toInt ≤ 153719 → 0 ≤ l8.toInt ∧ l8.toInt ≤ 200 → jJ jSgM Dy h → jSm fp_X12_guessFilled_r125d h0 h → d_X12_guessFilled_r125d_70 r l1.toInt l2.toInt l3.toInt l4.toInt l6.toInt l8.toInt (vw h) = dr → vw h = vw h0 → jX m_X12_guessFilled 3 0 0 70 [(0, .ref 125), (1, .int l1), (2, .int l2), (3, .int l3), (4, .long l4), (6, .long l6), (8, .int l8)] [] h 0 0 Q := by
  intro r
  induction r with
  | zero =>
    intro l1 l2 l3 l4 l6 l8 h hm y0 y1 y2 y3 y4   J Sm D EV
    exfalso
    have el6 := jfullL l6
    omega
  | succ r ih =>
    intro l1 l2 l3 l4 l6 l8 h hm y0 y1 y2 y3 y4   J Sm D EV
    have el6 := jfullL l6
    rw [d_X12_guessFilled_r125d_70.eq_2] at D
    refine x_iload (x := l8) rfl rfl ?_
    refine x_aloadn (x := 125) rfl rfl ?_
    refine z_getR (N := 92) (b := 126) 12 2 rfl f_12_8 rfl J rfl 16002 ⟨rfl, rfl⟩ rfl ?_
    refine x_iconst (v := 0) rfl ki_0 ?_
    refine z_iald (N := 50660) rfl J rfl sg_126_0_1_1_0_1 jk_0 (by omega) (fun v1 qv1 ev1 => ?_)
    try rw [vrn (n := 0) (by decide) qv1] at D
    refine x_icge (tgt := 185) rfl rfl (ti_ge rfl rfl ⟨fun c2 => ?_, fun c2 => ?_⟩)
    ·
      rw [if_pos (by omega)] at D
      refine x_lload (x := l4) rfl rfl ?_
      refine x_lconst (v := 0) rfl kl_0 ?_
      refine z_lcmp rfl rfl jkl_0 (fun v3 ev3 => ?_)
      refine x_ifne (tgt := 196) rfl rfl (ti_ne rfl jk_0 ⟨fun c4 => ?_, fun c4 => ?_⟩)
      ·
        rw [if_neg (by omega)] at D
        refine x_ldc2 (v := 2) rfl z_12_482 ?_
        refine x_lload (x := l6) rfl rfl ?_
        refine z_lmulW rfl jkl_2 rfl (fun v5 ev5 => ?_)
        have fv5 := jfullL v5
        try rw [← ev5] at D
        refine x_iloadn (x := l3) rfl rfl ?_
        refine x_iloadn (x := l2) rfl rfl ?_
        refine z_isub rfl rfl rfl (by omega) (fun v6 ev6 => ?_)
        refine x_iconst (v := 1) rfl ki_1 ?_
        refine z_iadd rfl rfl jk_1 (by omega) (fun v7 ev7 => ?_)
        refine z_i2l rfl rfl (fun v8 ev8 => ?_)
        refine z_lmulW rfl rfl rfl (fun v9 ev9 => ?_)
        have fv9 := jfullL v9
        try rw [show ((l3.toInt - l2.toInt) + 1) = v8.toInt from by omega] at D
        try rw [← ev9] at D
        refine x_lload (x := l4) rfl rfl ?_
        refine z_laddW rfl rfl rfl (fun v10 ev10 => ?_)
        have fv10 := jfullL v10
        try rw [← ev10] at D
        refine x_ldc2 (v := 2) rfl z_12_482 ?_
        refine x_lload (x := l4) rfl rfl ?_
        refine z_lmul rfl jkl_2 rfl (by omega) (fun v11 ev11 => ?_)
        refine z_ldivW rfl rfl rfl (by omega) (fun v12 ev12 => ?_)
        have fv12 := jfullL v12
        try rw [show (2 * l4.toInt) = v11.toInt from by omega] at D
        try rw [← ev12] at D
        refine z_l2iD rfl rfl (fun v13 ev13 => ?_)
        have fv13 := jfull v13
        try rw [← ev13] at D
        exact jX.sub jsb_n (ct_X12_guessFilled_r125d_220 hD hQ  v13 h J Sm D EV)
      ·
        rw [if_pos (by omega)] at D
        refine x_iconst (v := 0) rfl ki_0 ?_
        refine x_goto (tgt := 220) rfl rfl ?_
        exact jX.sub jsb_n (ct_X12_guessFilled_r125d_200220 hD hQ  h J Sm D EV)
    ·
      rw [if_neg (by omega)] at D
      refine x_aloadn (x := 125) rfl rfl ?_
      refine x_iload (x := l8) rfl rfl ?_
      refine x_inv (N := m_X12_dayOf) (As := [.int l8]) (b := 125) (st := []) (dx9 := 2) (mc := 0) (ms := 0) (host := "") 12 rfl t_X12_dayOf ⟨Or.inl q_12_335, i_X12_dayOf.1, i_X12_dayOf.2⟩ ⟨by decide, rfl⟩ (congrArg Prod.fst (J.1.1 125 (12, 92) rfl)) rfl (by decide) rfl rfl ⟨by decide, by decide⟩ (jC.of rfl k_X12_dayOf rfl ?_)
      show jX m_X12_dayOf 2 0 0 0 [(0, .ref 125), (1, .int l8)] [] _ 0 0 _
      refine x_aloadn (x := 125) rfl rfl ?_
      refine z_getR (N := 92) (b := 126) 12 2 rfl f_12_8 rfl J rfl 16002 ⟨rfl, rfl⟩ rfl ?_
      refine x_aloadn (x := 125) rfl rfl ?_
      refine x_iloadn (x := l8) rfl rfl ?_
      refine x_inv (N := m_X12_at) (As := [.int l8]) (b := 125) (st := [.ref 126]) (dx9 := 1) (mc := 0) (ms := 0) (host := "") 12 rfl t_X12_at ⟨Or.inl q_12_254, i_X12_at.1, i_X12_at.2⟩ ⟨by decide, rfl⟩ (congrArg Prod.fst (J.1.1 125 (12, 92) rfl)) rfl (by decide) rfl rfl ⟨by decide, by decide⟩ (jC.of rfl k_X12_at rfl ?_)
      show jX m_X12_at 1 0 0 0 [(0, .ref 125), (1, .int l8)] [] _ 0 0 _
      refine x_bipush (v := 20) rfl kb_20 ?_
      refine x_bipush (v := 90) rfl kb_90 ?_
      refine x_iloadn (x := l8) rfl rfl ?_
      refine z_imul rfl jk_90 rfl (by omega) (fun v14 ev14 => ?_)
      refine z_iadd rfl jk_20 rfl (by omega) (fun v15 ev15 => ?_)
      refine x_iret rfl rfl ?_
      show jX m_X12_dayOf 2 0 0 9 [(0, .ref 125), (1, .int l8)] [.int v15, .ref 126] _ 0 0 _
      refine x_iconst (v := 2) rfl ki_2 ?_
      refine z_iadd rfl rfl jk_2 (by omega) (fun v16 ev16 => ?_)
      refine z_iald (N := 50660) rfl J rfl sg_126_20_18020_90_2_3 rfl (by omega) (fun v17 qv17 ev17 => ?_)
      try rw [vrd qv17 (show ((20 + (90 * l8.toInt)) + 2) = v16.toInt from by omega)] at D
      refine x_iret rfl rfl ?_
      show jX m_X12_guessFilled 3 0 0 87 [(0, .ref 125), (1, .int l1), (2, .int l2), (3, .int l3), (4, .long l4), (6, .long l6), (8, .int l8)] [.int v17] _ 0 0 _
      refine x_istore (lsx9 := [(9, .int v17), (0, .ref 125), (1, .int l1), (2, .int l2), (3, .int l3), (4, .long l4), (6, .long l6), (8, .int l8)]) rfl rfl rfl ?_
      refine x_iload (x := v17) rfl rfl ?_
      refine z_i2l rfl rfl (fun v18 ev18 => ?_)
      refine x_iloadn (x := l2) rfl rfl ?_
      refine z_i2l rfl rfl (fun v19 ev19 => ?_)
      refine x_ldc2 (v := 3660) rfl z_12_480 ?_
      refine z_lsub rfl rfl jkl_3660 (by omega) (fun v20 ev20 => ?_)
      refine x_iloadn (x := l3) rfl rfl ?_
      refine z_i2l rfl rfl (fun v21 ev21 => ?_)
      refine x_ldc2 (v := 3660) rfl z_12_480 ?_
      refine z_ladd rfl rfl jkl_3660 (by omega) (fun v22 ev22 => ?_)
      refine x_inst (N := m_X12_in) (As := [.long v18, .long v20, .long v22]) (st := []) (dx9 := 1) (mc := 0) (ms := 0) (host := "") rfl t_X12_in ⟨Or.inl q_12_188, s_X12_in⟩ rfl (by decide) rfl rfl ⟨by decide, by decide⟩ (zc_X12_in rfl rfl rfl (fun v23 ev23 => ?_))
      show jX m_X12_guessFilled 3 0 0 107 [(9, .int v17), (0, .ref 125), (1, .int l1), (2, .int l2), (3, .int l3), (4, .long l4), (6, .long l6), (8, .int l8)] [.int v23] _ 0 0 _
      refine x_ifeq (tgt := 126) rfl rfl (ti_eq rfl jk_0 ⟨fun c24 => ?_, fun c24 => ?_⟩)
      ·
        rw [if_neg (by omega)] at D
        exact jX.sub (jsb_c rfl (jsb_c rfl (jsb_c rfl (jsb_c rfl (jsb_c rfl (jsb_c rfl (jsb_c rfl (jsb_c rfl jsb_n)))))))) (ct_X12_guessFilled_r125d_126 hD hQ ih l1 l2 l3 l4 l6 l8 v17 h (jr_of rfl (by omega)) (jr_of rfl (by omega)) (jr_of rfl (by omega)) (jr_ofl rfl (by omega)) (jr_of rfl (by omega)) (jr_of rfl (by omega)) (by omega) J Sm D EV)
      ·
        rw [if_pos (by omega)] at D
        refine x_iload (x := v17) rfl rfl ?_
        refine x_iloadn (x := l2) rfl rfl ?_
        refine x_iclt (tgt := 122) rfl rfl (ti_lt rfl rfl ⟨fun c25 => ?_, fun c25 => ?_⟩)
        ·
          rw [if_pos (by omega)] at D
          exact jX.sub (jsb_c rfl (jsb_c rfl (jsb_c rfl (jsb_c rfl (jsb_c rfl (jsb_c rfl (jsb_c rfl (jsb_c rfl jsb_n)))))))) (ct_X12_guessFilled_r125d_122 hD hQ ih l1 l2 l3 l4 l6 l8 v17 h (jr_of rfl (by omega)) (jr_of rfl (by omega)) (jr_of rfl (by omega)) (jr_ofl rfl (by omega)) (jr_of rfl (by omega)) (jr_of rfl (by omega)) (by omega) J Sm D EV)
        ·
          rw [if_neg (by omega)] at D
          refine x_iload (x := v17) rfl rfl ?_
          refine x_iloadn (x := l3) rfl rfl ?_
          refine x_icle (tgt := 126) rfl rfl (ti_le rfl rfl ⟨fun c26 => ?_, fun c26 => ?_⟩)
          ·
            rw [if_pos (by omega)] at D
            exact jX.sub (jsb_c rfl (jsb_c rfl (jsb_c rfl (jsb_c rfl (jsb_c rfl (jsb_c rfl (jsb_c rfl (jsb_c rfl jsb_n)))))))) (ct_X12_guessFilled_r125d_126 hD hQ ih l1 l2 l3 l4 l6 l8 v17 h (jr_of rfl (by omega)) (jr_of rfl (by omega)) (jr_of rfl (by omega)) (jr_ofl rfl (by omega)) (jr_of rfl (by omega)) (jr_of rfl (by omega)) (by omega) J Sm D EV)
          ·
            rw [if_neg (by omega)] at D
            exact jX.sub (jsb_c rfl (jsb_c rfl (jsb_c rfl (jsb_c rfl (jsb_c rfl (jsb_c rfl (jsb_c rfl (jsb_c rfl jsb_n)))))))) (ct_X12_guessFilled_r125d_122 hD hQ ih l1 l2 l3 l4 l6 l8 v17 h (jr_of rfl (by omega)) (jr_of rfl (by omega)) (jr_of rfl (by omega)) (jr_ofl rfl (by omega)) (jr_of rfl (by omega)) (jr_of rfl (by omega)) (by omega) J Sm D EV)
