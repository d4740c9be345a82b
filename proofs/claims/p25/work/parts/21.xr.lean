def fp_X11_guessedOf_r31 : jFp := []
set_option maxRecDepth 100000 in
set_option maxHeartbeats 4000000 in
theorem ct_X11_guessedOf_r31_166 {Dy : jH → Prop} {h0 : jH} {Q : Option Value → jH → Prop} {R66 : Int} (hD : jDk Dy) (hQ : ∀ (v : Int32) hx9, jJ jSgX Dy hx9 → jSm fp_X11_guessedOf_r31 h0 hx9 → Q (some (.int v)) hx9) (k66 : ∀ (l1 : Int32) (l2 : Int32) (l3 : Int32) (l4 : Int32) (l5 : Int32) (l6 : Int32) (l7 : Int64) (l9 : Int64) (l11 : Int32) (h : jH), 200 - l11.toInt < R66 → 0 ≤ l1.toInt ∧ l1.toInt ≤ 5 → 0 ≤ l2.toInt ∧ l2.toInt ≤ 146399 → 0 ≤ l3.toInt ∧ l3.toInt ≤ 146399 → 0 ≤ l4.toInt ∧ l4.toInt ≤ 146399 → 0 ≤ l5.toInt ∧ l5.toInt ≤ 142739 → 3660 ≤ l6.toInt ∧ l6.toInt ≤ 146399 → (-2147483648) ≤ l7.toInt ∧ l7.toInt ≤ 2147483647 → 0 ≤ l11.toInt ∧ l11.toInt ≤ 200 → l7.toInt ≠ 0 → jJ jSgX Dy h → jSm fp_X11_guessedOf_r31 h0 h → jX m_X11_guessedOf 4 0 0 66 [(0, .ref 31), (1, .int l1), (2, .int l2), (3, .int l3), (4, .int l4), (5, .int l5), (6, .int l6), (7, .long l7), (9, .long l9), (11, .int l11)] [] h 0 0 Q) : ∀ (l1 : Int32) (l2 : Int32) (l3 : Int32) (l4 : Int32) (l5 : Int32) (l6 : Int32) (l7 : Int64) (l9 : Int64) (l11 : Int32) (h : jH), 0 ≤ l1.toInt ∧ l1.toInt ≤ 5 → 0 ≤ l2.toInt ∧ l2.toInt ≤ 146399 → 0 ≤ l3.toInt ∧ l3.toInt ≤ 146399 → 0 ≤ l4.toInt ∧ l4.toInt ≤ 146399 → 0 ≤ l5.toInt ∧ l5.toInt ≤ 142739 → 3660 ≤ l6.toInt ∧ l6.toInt ≤ 146399 → (-2147483648) ≤ l7.toInt ∧ l7.toInt ≤ 2147483647 → 0 ≤ l11.toInt ∧ l11.toInt ≤ 199 → l7.toInt ≠ 0 → 200 - l11.toInt ≤ R66 → jJ jSgX Dy h → jSm fp_X11_guessedOf_r31 h0 h → jX m_X11_guessedOf 4 0 0 166 [(0, .ref 31), (1, .int l1), (2, .int l2), (3, .int l3), (4, .int l4), (5, .int l5), (6, .int l6), (7, .long l7), (9, .long l9), (11, .int l11)] [] h 0 0 Q := by
  intro l1 l2 l3 l4 l5 l6 l7 l9 l11 h y0 y1 y2 y3 y4 y5 y6 y7 y8  m66 J Sm
  have el9 := jfullL l9
  refine z_iinc (x := l11) (lsx9 := fun v1 => [(11, .int v1), (0, .ref 31), (1, .int l1), (2, .int l2), (3, .int l3), (4, .int l4), (5, .int l5), (6, .int l6), (7, .long l7), (9, .long l9)]) rfl rfl rfl jko_1 (by omega) rfl (fun _ => rfl) (fun v1 ev1 => ?_)
  refine x_goto (tgt := 66) rfl rfl ?_
  exact jX.sub (jsb_c rfl (jsb_c rfl (jsb_c rfl (jsb_c rfl (jsb_c rfl (jsb_c rfl (jsb_c rfl (jsb_c rfl (jsb_c rfl (jsb_c rfl jsb_n)))))))))) (k66 l1 l2 l3 l4 l5 l6 l7 l9 v1 h (by omega) (jr_of rfl (by omega)) (jr_of rfl (by omega)) (jr_of rfl (by omega)) (jr_of rfl (by omega)) (jr_of rfl (by omega)) (jr_of rfl (by omega)) (jr_ofl rfl (by omega)) (jr_of rfl (by omega)) (by omega) J Sm)
set_option maxRecDepth 100000 in
set_option maxHeartbeats 4000000 in
theorem ct_X11_guessedOf_r31_300127 {Dy : jH → Prop} {h0 : jH} {Q : Option Value → jH → Prop} {R66 : Int} (hD : jDk Dy) (hQ : ∀ (v : Int32) hx9, jJ jSgX Dy hx9 → jSm fp_X11_guessedOf_r31 h0 hx9 → Q (some (.int v)) hx9) (k66 : ∀ (l1 : Int32) (l2 : Int32) (l3 : Int32) (l4 : Int32) (l5 : Int32) (l6 : Int32) (l7 : Int64) (l9 : Int64) (l11 : Int32) (h : jH), 200 - l11.toInt < R66 → 0 ≤ l1.toInt ∧ l1.toInt ≤ 5 → 0 ≤ l2.toInt ∧ l2.toInt ≤ 146399 → 0 ≤ l3.toInt ∧ l3.toInt ≤ 146399 → 0 ≤ l4.toInt ∧ l4.toInt ≤ 146399 → 0 ≤ l5.toInt ∧ l5.toInt ≤ 142739 → 3660 ≤ l6.toInt ∧ l6.toInt ≤ 146399 → (-2147483648) ≤ l7.toInt ∧ l7.toInt ≤ 2147483647 → 0 ≤ l11.toInt ∧ l11.toInt ≤ 200 → l7.toInt ≠ 0 → jJ jSgX Dy h → jSm fp_X11_guessedOf_r31 h0 h → jX m_X11_guessedOf 4 0 0 66 [(0, .ref 31), (1, .int l1), (2, .int l2), (3, .int l3), (4, .int l4), (5, .int l5), (6, .int l6), (7, .long l7), (9, .long l9), (11, .int l11)] [] h 0 0 Q) : ∀ (l1 : Int32) (l2 : Int32) (l3 : Int32) (l4 : Int32) (l5 : Int32) (l6 : Int32) (l7 : Int64) (l9 : Int64) (l11 : Int32) (l12 : Int32) (h : jH), 0 ≤ l1.toInt ∧ l1.toInt ≤ 5 → 0 ≤ l2.toInt ∧ l2.toInt ≤ 146399 → 0 ≤ l3.toInt ∧ l3.toInt ≤ 146399 → 0 ≤ l4.toInt ∧ l4.toInt ≤ 146399 → 0 ≤ l5.toInt ∧ l5.toInt ≤ 142739 → 3660 ≤ l6.toInt ∧ l6.toInt ≤ 146399 → (-2147483648) ≤ l7.toInt ∧ l7.toInt ≤ 2147483647 → 0 ≤ l11.toInt ∧ l11.toInt ≤ 199 → 0 ≤ l12.toInt ∧ l12.toInt ≤ 146399 → l7.toInt ≠ 0 → 200 - l11.toInt ≤ R66 → jJ jSgX Dy h → jSm fp_X11_guessedOf_r31 h0 h → jX m_X11_guessedOf 4 0 0 127 [(0, .ref 31), (1, .int l1), (2, .int l2), (3, .int l3), (4, .int l4), (5, .int l5), (6, .int l6), (7, .long l7), (9, .long l9), (11, .int l11), (12, .int l12)] [.int 1] h 0 0 Q := by
  intro l1 l2 l3 l4 l5 l6 l7 l9 l11 l12 h y0 y1 y2 y3 y4 y5 y6 y7 y8 y9  m66 J Sm
  have el9 := jfullL l9
  refine x_istore (lsx9 := [(13, .int 1), (0, .ref 31), (1, .int l1), (2, .int l2), (3, .int l3), (4, .int l4), (5, .int l5), (6, .int l6), (7, .long l7), (9, .long l9), (11, .int l11), (12, .int l12)]) rfl rfl rfl ?_
  refine x_iload (x := 1) rfl rfl ?_
  refine x_ifeq (tgt := 166) rfl rfl (ti_eq jk_1 jk_0 (br_f (by omega) ?_))
  refine x_aloadn (x := 31) rfl rfl ?_
  refine x_iload (x := l11) rfl rfl ?_
  refine x_iloadn (x := l1) rfl rfl ?_
  refine x_iload (x := l4) rfl rfl ?_
  refine x_inv (N := m_X11_isLineOf) (As := [.int l11, .int l1, .int l4]) (b := 31) (st := []) (dx9 := 3) (mc := 0) (ms := 0) (host := "") 11 rfl t_X11_isLineOf ⟨Or.inl q_11_543, i_X11_isLineOf.1, i_X11_isLineOf.2⟩ ⟨by decide, rfl⟩ (congrArg Prod.fst (J.1.1 31 (11, 13) rfl)) rfl (by decide) rfl rfl ⟨by decide, by decide⟩ (jC.of rfl k_X11_isLineOf rfl ?_)
  show jX m_X11_isLineOf 3 0 0 0 [(0, .ref 31), (1, .int l11), (2, .int l1), (3, .int l4)] [] _ 0 0 _
  refine x_aloadn (x := 31) rfl rfl ?_
  refine z_getR (N := 13) (b := 32) 11 0 rfl f_11_10 rfl J rfl 3968 ⟨rfl, rfl⟩ rfl ?_
  refine z_getR (N := 20) (b := 33) 1 0 rfl f_11_126 rfl J rfl 4096 ⟨rfl, rfl⟩ rfl ?_
  refine x_iloadn (x := l11) rfl rfl ?_
  refine x_iloadn (x := l4) rfl rfl ?_
  refine x_inv (N := m_X8_isKnown) (As := [.int l11, .int l4]) (b := 33) (st := []) (dx9 := 1) (mc := 0) (ms := 0) (host := "") 8 rfl t_X8_isKnown ⟨Or.inl q_11_440, i_X8_isKnown.1, i_X8_isKnown.2⟩ ⟨by decide, rfl⟩ (congrArg Prod.fst (J.1.1 33 (8, 4) rfl)) rfl (by decide) rfl rfl ⟨by decide, by decide⟩ (sf_X8_isKnown_r33 (jr_of rfl (by omega)) hD J  (fun v2 h ev2 J S1 => ?_))
  have Sm := jSm_tr rfl Sm S1
  show jX m_X11_isLineOf 3 0 0 12 [(0, .ref 31), (1, .int l11), (2, .int l1), (3, .int l4)] [.int v2] _ 0 0 _
  refine x_ifeq (tgt := 35) rfl rfl (ti_eq rfl jk_0 ⟨fun c3 => ?_, fun c3 => ?_⟩)
  ·
    refine x_iconst (v := 0) rfl ki_0 ?_
    refine x_zret rfl rfl (by decide) ?_
    show jX m_X11_guessedOf 4 0 0 143 [(13, .int 1), (0, .ref 31), (1, .int l1), (2, .int l2), (3, .int l3), (4, .int l4), (5, .int l5), (6, .int l6), (7, .long l7), (9, .long l9), (11, .int l11), (12, .int l12)] [.int 0] _ 0 0 _
    refine x_ifeq (tgt := 166) rfl rfl (ti_eq jk_0 jk_0 (br_t (by omega) ?_))
    exact jX.sub (jsb_c rfl (jsb_c rfl (jsb_c rfl (jsb_c rfl (jsb_c rfl (jsb_c rfl (jsb_c rfl (jsb_c rfl (jsb_c rfl (jsb_c rfl jsb_n)))))))))) (ct_X11_guessedOf_r31_166 hD hQ k66 l1 l2 l3 l4 l5 l6 l7 l9 l11 h (jr_of rfl (by omega)) (jr_of rfl (by omega)) (jr_of rfl (by omega)) (jr_of rfl (by omega)) (jr_of rfl (by omega)) (jr_of rfl (by omega)) (jr_ofl rfl (by omega)) (jr_of rfl (by omega)) (by omega) (by omega) J Sm)
  ·
    refine x_aloadn (x := 31) rfl rfl ?_
    refine z_getR (N := 13) (b := 32) 11 0 rfl f_11_10 rfl J rfl 3968 ⟨rfl, rfl⟩ rfl ?_
    refine z_getR (N := 20) (b := 33) 1 0 rfl f_11_126 rfl J rfl 4096 ⟨rfl, rfl⟩ rfl ?_
    refine x_iloadn (x := l11) rfl rfl ?_
    refine x_iconst (v := 2) rfl ki_2 ?_
    refine x_inv (N := m_X8_at) (As := [.int l11, .int 2]) (b := 33) (st := []) (dx9 := 1) (mc := 0) (ms := 0) (host := "") 8 rfl t_X8_at ⟨Or.inl q_11_171, i_X8_at.1, i_X8_at.2⟩ ⟨by decide, rfl⟩ (congrArg Prod.fst (J.1.1 33 (8, 4) rfl)) rfl (by decide) rfl rfl ⟨by decide, by decide⟩ (sf_X8_at_r33_c2  hD J  (fun v5 h ev5 J S4 => ?_))
    have Sm := jSm_tr rfl Sm S4
    show jX m_X11_isLineOf 3 0 0 27 [(0, .ref 31), (1, .int l11), (2, .int l1), (3, .int l4)] [.int v5] _ 0 0 _
    refine x_iloadn (x := l1) rfl rfl ?_
    refine x_icne (tgt := 35) rfl rfl (ti_ne rfl rfl ⟨fun c6 => ?_, fun c6 => ?_⟩)
    ·
      refine x_iconst (v := 0) rfl ki_0 ?_
      refine x_zret rfl rfl (by decide) ?_
      show jX m_X11_guessedOf 4 0 0 143 [(13, .int 1), (0, .ref 31), (1, .int l1), (2, .int l2), (3, .int l3), (4, .int l4), (5, .int l5), (6, .int l6), (7, .long l7), (9, .long l9), (11, .int l11), (12, .int l12)] [.int 0] _ 0 0 _
      refine x_ifeq (tgt := 166) rfl rfl (ti_eq jk_0 jk_0 (br_t (by omega) ?_))
      exact jX.sub (jsb_c rfl (jsb_c rfl (jsb_c rfl (jsb_c rfl (jsb_c rfl (jsb_c rfl (jsb_c rfl (jsb_c rfl (jsb_c rfl (jsb_c rfl jsb_n)))))))))) (ct_X11_guessedOf_r31_166 hD hQ k66 l1 l2 l3 l4 l5 l6 l7 l9 l11 h (jr_of rfl (by omega)) (jr_of rfl (by omega)) (jr_of rfl (by omega)) (jr_of rfl (by omega)) (jr_of rfl (by omega)) (jr_of rfl (by omega)) (jr_ofl rfl (by omega)) (jr_of rfl (by omega)) (by omega) (by omega) J Sm)
    ·
      refine x_iconst (v := 1) rfl ki_1 ?_
      refine x_goto (tgt := 36) rfl rfl ?_
      refine x_zret rfl rfl (by decide) ?_
      show jX m_X11_guessedOf 4 0 0 143 [(13, .int 1), (0, .ref 31), (1, .int l1), (2, .int l2), (3, .int l3), (4, .int l4), (5, .int l5), (6, .int l6), (7, .long l7), (9, .long l9), (11, .int l11), (12, .int l12)] [.int 1] _ 0 0 _
      refine x_ifeq (tgt := 166) rfl rfl (ti_eq jk_1 jk_0 (br_f (by omega) ?_))
      refine x_aloadn (x := 31) rfl rfl ?_
      refine x_iloadn (x := l1) rfl rfl ?_
      refine x_iload (x := l12) rfl rfl ?_
      refine x_iload (x := l12) rfl rfl ?_
      refine x_iload (x := l4) rfl rfl ?_
      refine x_inv (N := m_X11_isTornWithin) (As := [.int l1, .int l12, .int l12, .int l4]) (b := 31) (st := []) (dx9 := 3) (mc := 0) (ms := 0) (host := "") 11 rfl t_X11_isTornWithin ⟨Or.inl q_11_546, i_X11_isTornWithin.1, i_X11_isTornWithin.2⟩ ⟨by decide, rfl⟩ (congrArg Prod.fst (J.1.1 31 (11, 13) rfl)) rfl (by decide) rfl rfl ⟨by decide, by decide⟩ (sf_X11_isTornWithin_r31 (jr_of rfl (by omega)) (jr_of rfl (by omega)) (jr_of rfl (by omega)) (jr_of rfl (by omega)) hD J  (fun v8 h ev8 J S7 => ?_))
      have Sm := jSm_tr rfl Sm S7
      show jX m_X11_guessedOf 4 0 0 157 [(13, .int 1), (0, .ref 31), (1, .int l1), (2, .int l2), (3, .int l3), (4, .int l4), (5, .int l5), (6, .int l6), (7, .long l7), (9, .long l9), (11, .int l11), (12, .int l12)] [.int v8] _ 0 0 _
      refine x_ifne (tgt := 166) rfl rfl (ti_ne rfl jk_0 ⟨fun c9 => ?_, fun c9 => ?_⟩)
      ·
        exact jX.sub (jsb_c rfl (jsb_c rfl (jsb_c rfl (jsb_c rfl (jsb_c rfl (jsb_c rfl (jsb_c rfl (jsb_c rfl (jsb_c rfl (jsb_c rfl jsb_n)))))))))) (ct_X11_guessedOf_r31_166 hD hQ k66 l1 l2 l3 l4 l5 l6 l7 l9 l11 h (jr_of rfl (by omega)) (jr_of rfl (by omega)) (jr_of rfl (by omega)) (jr_of rfl (by omega)) (jr_of rfl (by omega)) (jr_of rfl (by omega)) (jr_ofl rfl (by omega)) (jr_of rfl (by omega)) (by omega) (by omega) J Sm)
      ·
        refine x_lload (x := l9) rfl rfl ?_
        refine x_lconst (v := 1) rfl kl_1 ?_
        refine z_ladd0 rfl (fun v10 => ?_)
        have ev10 := jfullL v10
        refine x_lstore (lsx9 := [(9, .long v10), (13, .int 1), (0, .ref 31), (1, .int l1), (2, .int l2), (3, .int l3), (4, .int l4), (5, .int l5), (6, .int l6), (7, .long l7), (11, .int l11), (12, .int l12)]) rfl rfl rfl ?_
        exact jX.sub (jsb_c rfl (jsb_c rfl (jsb_c rfl (jsb_c rfl (jsb_c rfl (jsb_c rfl (jsb_c rfl (jsb_c rfl (jsb_c rfl (jsb_c rfl jsb_n)))))))))) (ct_X11_guessedOf_r31_166 hD hQ k66 l1 l2 l3 l4 l5 l6 l7 v10 l11 h (jr_of rfl (by omega)) (jr_of rfl (by omega)) (jr_of rfl (by omega)) (jr_of rfl (by omega)) (jr_of rfl (by omega)) (jr_of rfl (by omega)) (jr_ofl rfl (by omega)) (jr_of rfl (by omega)) (by omega) (by omega) J Sm)
set_option maxRecDepth 100000 in
set_option maxHeartbeats 4000000 in
theorem ct_X11_guessedOf_r31_200127 {Dy : jH → Prop} {h0 : jH} {Q : Option Value → jH → Prop} {R66 : Int} (hD : jDk Dy) (hQ : ∀ (v : Int32) hx9, jJ jSgX Dy hx9 → jSm fp_X11_guessedOf_r31 h0 hx9 → Q (some (.int v)) hx9) (k66 : ∀ (l1 : Int32) (l2 : Int32) (l3 : Int32) (l4 : Int32) (l5 : Int32) (l6 : Int32) (l7 : Int64) (l9 : Int64) (l11 : Int32) (h : jH), 200 - l11.toInt < R66 → 0 ≤ l1.toInt ∧ l1.toInt ≤ 5 → 0 ≤ l2.toInt ∧ l2.toInt ≤ 146399 → 0 ≤ l3.toInt ∧ l3.toInt ≤ 146399 → 0 ≤ l4.toInt ∧ l4.toInt ≤ 146399 → 0 ≤ l5.toInt ∧ l5.toInt ≤ 142739 → 3660 ≤ l6.toInt ∧ l6.toInt ≤ 146399 → (-2147483648) ≤ l7.toInt ∧ l7.toInt ≤ 2147483647 → 0 ≤ l11.toInt ∧ l11.toInt ≤ 200 → l7.toInt ≠ 0 → jJ jSgX Dy h → jSm fp_X11_guessedOf_r31 h0 h → jX m_X11_guessedOf 4 0 0 66 [(0, .ref 31), (1, .int l1), (2, .int l2), (3, .int l3), (4, .int l4), (5, .int l5), (6, .int l6), (7, .long l7), (9, .long l9), (11, .int l11)] [] h 0 0 Q) : ∀ (l1 : Int32) (l2 : Int32) (l3 : Int32) (l4 : Int32) (l5 : Int32) (l6 : Int32) (l7 : Int64) (l9 : Int64) (l11 : Int32) (l12 : Int32) (h : jH), 0 ≤ l1.toInt ∧ l1.toInt ≤ 5 → 0 ≤ l2.toInt ∧ l2.toInt ≤ 146399 → 0 ≤ l3.toInt ∧ l3.toInt ≤ 146399 → 0 ≤ l4.toInt ∧ l4.toInt ≤ 146399 → 0 ≤ l5.toInt ∧ l5.toInt ≤ 142739 → 3660 ≤ l6.toInt ∧ l6.toInt ≤ 146399 → (-2147483648) ≤ l7.toInt ∧ l7.toInt ≤ 2147483647 → 0 ≤ l11.toInt ∧ l11.toInt ≤ 199 → 0 ≤ l12.toInt ∧ l12.toInt ≤ 146399 → l7.toInt ≠ 0 → 200 - l11.toInt ≤ R66 → jJ jSgX Dy h → jSm fp_X11_guessedOf_r31 h0 h → jX m_X11_guessedOf 4 0 0 127 [(0, .ref 31), (1, .int l1), (2, .int l2), (3, .int l3), (4, .int l4), (5, .int l5), (6, .int l6), (7, .long l7), (9, .long l9), (11, .int l11), (12, .int l12)] [.int 0] h 0 0 Q := by
  intro l1 l2 l3 l4 l5 l6 l7 l9 l11 l12 h y0 y1 y2 y3 y4 y5 y6 y7 y8 y9  m66 J Sm
  have el9 := jfullL l9
  refine x_istore (lsx9 := [(13, .int 0), (0, .ref 31), (1, .int l1), (2, .int l2), (3, .int l3), (4, .int l4), (5, .int l5), (6, .int l6), (7, .long l7), (9, .long l9), (11, .int l11), (12, .int l12)]) rfl rfl rfl ?_
  refine x_iload (x := 0) rfl rfl ?_
  refine x_ifeq (tgt := 166) rfl rfl (ti_eq jk_0 jk_0 (br_t (by omega) ?_))
  exact jX.sub (jsb_c rfl (jsb_c rfl (jsb_c rfl (jsb_c rfl (jsb_c rfl (jsb_c rfl (jsb_c rfl (jsb_c rfl (jsb_c rfl (jsb_c rfl jsb_n)))))))))) (ct_X11_guessedOf_r31_166 hD hQ k66 l1 l2 l3 l4 l5 l6 l7 l9 l11 h (jr_of rfl (by omega)) (jr_of rfl (by omega)) (jr_of rfl (by omega)) (jr_of rfl (by omega)) (jr_of rfl (by omega)) (jr_of rfl (by omega)) (jr_ofl rfl (by omega)) (jr_of rfl (by omega)) (by omega) (by omega) J Sm)
set_option maxRecDepth 100000 in
set_option maxHeartbeats 4000000 in
theorem ct_X11_guessedOf_r31_126 {Dy : jH → Prop} {h0 : jH} {Q : Option Value → jH → Prop} {R66 : Int} (hD : jDk Dy) (hQ : ∀ (v : Int32) hx9, jJ jSgX Dy hx9 → jSm fp_X11_guessedOf_r31 h0 hx9 → Q (some (.int v)) hx9) (k66 : ∀ (l1 : Int32) (l2 : Int32) (l3 : Int32) (l4 : Int32) (l5 : Int32) (l6 : Int32) (l7 : Int64) (l9 : Int64) (l11 : Int32) (h : jH), 200 - l11.toInt < R66 → 0 ≤ l1.toInt ∧ l1.toInt ≤ 5 → 0 ≤ l2.toInt ∧ l2.toInt ≤ 146399 → 0 ≤ l3.toInt ∧ l3.toInt ≤ 146399 → 0 ≤ l4.toInt ∧ l4.toInt ≤ 146399 → 0 ≤ l5.toInt ∧ l5.toInt ≤ 142739 → 3660 ≤ l6.toInt ∧ l6.toInt ≤ 146399 → (-2147483648) ≤ l7.toInt ∧ l7.toInt ≤ 2147483647 → 0 ≤ l11.toInt ∧ l11.toInt ≤ 200 → l7.toInt ≠ 0 → jJ jSgX Dy h → jSm fp_X11_guessedOf_r31 h0 h → jX m_X11_guessedOf 4 0 0 66 [(0, .ref 31), (1, .int l1), (2, .int l2), (3, .int l3), (4, .int l4), (5, .int l5), (6, .int l6), (7, .long l7), (9, .long l9), (11, .int l11)] [] h 0 0 Q) : ∀ (l1 : Int32) (l2 : Int32) (l3 : Int32) (l4 : Int32) (l5 : Int32) (l6 : Int32) (l7 : Int64) (l9 : Int64) (l11 : Int32) (l12 : Int32) (h : jH), 0 ≤ l1.toInt ∧ l1.toInt ≤ 5 → 0 ≤ l2.toInt ∧ l2.toInt ≤ 146399 → 0 ≤ l3.toInt ∧ l3.toInt ≤ 146399 → 0 ≤ l4.toInt ∧ l4.toInt ≤ 146399 → 0 ≤ l5.toInt ∧ l5.toInt ≤ 142739 → 3660 ≤ l6.toInt ∧ l6.toInt ≤ 146399 → (-2147483648) ≤ l7.toInt ∧ l7.toInt ≤ 2147483647 → 0 ≤ l11.toInt ∧ l11.toInt ≤ 199 → 0 ≤ l12.toInt ∧ l12.toInt ≤ 146399 → l7.toInt ≠ 0 → 200 - l11.toInt ≤ R66 → jJ jSgX Dy h → jSm fp_X11_guessedOf_r31 h0 h → jX m_X11_guessedOf 4 0 0 126 [(0, .ref 31), (1, .int l1), (2, .int l2), (3, .int l3), (4, .int l4), (5, .int l5), (6, .int l6), (7, .long l7), (9, .long l9), (11, .int l11), (12, .int l12)] [] h 0 0 Q := by
  intro l1 l2 l3 l4 l5 l6 l7 l9 l11 l12 h y0 y1 y2 y3 y4 y5 y6 y7 y8 y9  m66 J Sm
  have el9 := jfullL l9
  refine x_iconst (v := 0) rfl ki_0 ?_
  exact jX.sub (jsb_c rfl (jsb_c rfl (jsb_c rfl (jsb_c rfl (jsb_c rfl (jsb_c rfl (jsb_c rfl (jsb_c rfl (jsb_c rfl (jsb_c rfl (jsb_c rfl jsb_n))))))))))) (ct_X11_guessedOf_r31_200127 hD hQ k66 l1 l2 l3 l4 l5 l6 l7 l9 l11 l12 h (jr_of rfl (by omega)) (jr_of rfl (by omega)) (jr_of rfl (by omega)) (jr_of rfl (by omega)) (jr_of rfl (by omega)) (jr_of rfl (by omega)) (jr_ofl rfl (by omega)) (jr_of rfl (by omega)) (jr_of rfl (by omega)) (by omega) (by omega) J Sm)
set_option maxRecDepth 100000 in
set_option maxHeartbeats 4000000 in
theorem ct_X11_guessedOf_r31_122 {Dy : jH → Prop} {h0 : jH} {Q : Option Value → jH → Prop} {R66 : Int} (hD : jDk Dy) (hQ : ∀ (v : Int32) hx9, jJ jSgX Dy hx9 → jSm fp_X11_guessedOf_r31 h0 hx9 → Q (some (.int v)) hx9) (k66 : ∀ (l1 : Int32) (l2 : Int32) (l3 : Int32) (l4 : Int32) (l5 : Int32) (l6 : Int32) (l7 : Int64) (l9 : Int64) (l11 : Int32) (h : jH), 200 - l11.toInt < R66 → 0 ≤ l1.toInt ∧ l1.toInt ≤ 5 → 0 ≤ l2.toInt ∧ l2.toInt ≤ 146399 → 0 ≤ l3.toInt ∧ l3.toInt ≤ 146399 → 0 ≤ l4.toInt ∧ l4.toInt ≤ 146399 → 0 ≤ l5.toInt ∧ l5.toInt ≤ 142739 → 3660 ≤ l6.toInt ∧ l6.toInt ≤ 146399 → (-2147483648) ≤ l7.toInt ∧ l7.toInt ≤ 2147483647 → 0 ≤ l11.toInt ∧ l11.toInt ≤ 200 → l7.toInt ≠ 0 → jJ jSgX Dy h → jSm fp_X11_guessedOf_r31 h0 h → jX m_X11_guessedOf 4 0 0 66 [(0, .ref 31), (1, .int l1), (2, .int l2), (3, .int l3), (4, .int l4), (5, .int l5), (6, .int l6), (7, .long l7), (9, .long l9), (11, .int l11)] [] h 0 0 Q) : ∀ (l1 : Int32) (l2 : Int32) (l3 : Int32) (l4 : Int32) (l5 : Int32) (l6 : Int32) (l7 : Int64) (l9 : Int64) (l11 : Int32) (l12 : Int32) (h : jH), 0 ≤ l1.toInt ∧ l1.toInt ≤ 5 → 0 ≤ l2.toInt ∧ l2.toInt ≤ 146399 → 0 ≤ l3.toInt ∧ l3.toInt ≤ 146399 → 0 ≤ l4.toInt ∧ l4.toInt ≤ 146399 → 0 ≤ l5.toInt ∧ l5.toInt ≤ 142739 → 3660 ≤ l6.toInt ∧ l6.toInt ≤ 146399 → (-2147483648) ≤ l7.toInt ∧ l7.toInt ≤ 2147483647 → 0 ≤ l11.toInt ∧ l11.toInt ≤ 199 → 0 ≤ l12.toInt ∧ l12.toInt ≤ 146399 → l7.toInt ≠ 0 → 200 - l11.toInt ≤ R66 → jJ jSgX Dy h → jSm fp_X11_guessedOf_r31 h0 h → jX m_X11_guessedOf 4 0 0 122 [(0, .ref 31), (1, .int l1), (2, .int l2), (3, .int l3), (4, .int l4), (5, .int l5), (6, .int l6), (7, .long l7), (9, .long l9), (11, .int l11), (12, .int l12)] [] h 0 0 Q := by
  intro l1 l2 l3 l4 l5 l6 l7 l9 l11 l12 h y0 y1 y2 y3 y4 y5 y6 y7 y8 y9  m66 J Sm
  have el9 := jfullL l9
  refine x_iconst (v := 1) rfl ki_1 ?_
  refine x_goto (tgt := 127) rfl rfl ?_
  exact jX.sub (jsb_c rfl (jsb_c rfl (jsb_c rfl (jsb_c rfl (jsb_c rfl (jsb_c rfl (jsb_c rfl (jsb_c rfl (jsb_c rfl (jsb_c rfl (jsb_c rfl jsb_n))))))))))) (ct_X11_guessedOf_r31_300127 hD hQ k66 l1 l2 l3 l4 l5 l6 l7 l9 l11 l12 h (jr_of rfl (by omega)) (jr_of rfl (by omega)) (jr_of rfl (by omega)) (jr_of rfl (by omega)) (jr_of rfl (by omega)) (jr_of rfl (by omega)) (jr_ofl rfl (by omega)) (jr_of rfl (by omega)) (jr_of rfl (by omega)) (by omega) (by omega) J Sm)
set_option maxRecDepth 100000 in
set_option maxHeartbeats 4000000 in
theorem ct_X11_guessedOf_r31_109 {Dy : jH → Prop} {h0 : jH} {Q : Option Value → jH → Prop} {R66 : Int} (hD : jDk Dy) (hQ : ∀ (v : Int32) hx9, jJ jSgX Dy hx9 → jSm fp_X11_guessedOf_r31 h0 hx9 → Q (some (.int v)) hx9) (k66 : ∀ (l1 : Int32) (l2 : Int32) (l3 : Int32) (l4 : Int32) (l5 : Int32) (l6 : Int32) (l7 : Int64) (l9 : Int64) (l11 : Int32) (h : jH), 200 - l11.toInt < R66 → 0 ≤ l1.toInt ∧ l1.toInt ≤ 5 → 0 ≤ l2.toInt ∧ l2.toInt ≤ 146399 → 0 ≤ l3.toInt ∧ l3.toInt ≤ 146399 → 0 ≤ l4.toInt ∧ l4.toInt ≤ 146399 → 0 ≤ l5.toInt ∧ l5.toInt ≤ 142739 → 3660 ≤ l6.toInt ∧ l6.toInt ≤ 146399 → (-2147483648) ≤ l7.toInt ∧ l7.toInt ≤ 2147483647 → 0 ≤ l11.toInt ∧ l11.toInt ≤ 200 → l7.toInt ≠ 0 → jJ jSgX Dy h → jSm fp_X11_guessedOf_r31 h0 h → jX m_X11_guessedOf 4 0 0 66 [(0, .ref 31), (1, .int l1), (2, .int l2), (3, .int l3), (4, .int l4), (5, .int l5), (6, .int l6), (7, .long l7), (9, .long l9), (11, .int l11)] [] h 0 0 Q) : ∀ (l1 : Int32) (l2 : Int32) (l3 : Int32) (l4 : Int32) (l5 : Int32) (l6 : Int32) (l7 : Int64) (l9 : Int64) (l11 : Int32) (l12 : Int32) (h : jH), 0 ≤ l1.toInt ∧ l1.toInt ≤ 5 → 0 ≤ l2.toInt ∧ l2.toInt ≤ 146399 → 0 ≤ l3.toInt ∧ l3.toInt ≤ 146399 → 0 ≤ l4.toInt ∧ l4.toInt ≤ 146399 → 0 ≤ l5.toInt ∧ l5.toInt ≤ 142739 → 3660 ≤ l6.toInt ∧ l6.toInt ≤ 146399 → (-2147483648) ≤ l7.toInt ∧ l7.toInt ≤ 2147483647 → 0 ≤ l11.toInt ∧ l11.toInt ≤ 199 → 0 ≤ l12.toInt ∧ l12.toInt ≤ 146399 → l7.toInt ≠ 0 → 200 - l11.toInt ≤ R66 → jJ jSgX Dy h → jSm fp_X11_guessedOf_r31 h0 h → jX m_X11_guessedOf 4 0 0 109 [(0, .ref 31), (1, .int l1), (2, .int l2), (3, .int l3), (4, .int l4), (5, .int l5), (6, .int l6), (7, .long l7), (9, .long l9), (11, .int l11), (12, .int l12)] [] h 0 0 Q := by
  intro l1 l2 l3 l4 l5 l6 l7 l9 l11 l12 h y0 y1 y2 y3 y4 y5 y6 y7 y8 y9  m66 J Sm
  have el9 := jfullL l9
  refine x_iload (x := l12) rfl rfl ?_
  refine x_iloadn (x := l3) rfl rfl ?_
  refine x_icle (tgt := 126) rfl rfl (ti_le rfl rfl ⟨fun c1 => ?_, fun c1 => ?_⟩)
  ·
    exact jX.sub (jsb_c rfl (jsb_c rfl (jsb_c rfl (jsb_c rfl (jsb_c rfl (jsb_c rfl (jsb_c rfl (jsb_c rfl (jsb_c rfl (jsb_c rfl (jsb_c rfl jsb_n))))))))))) (ct_X11_guessedOf_r31_126 hD hQ k66 l1 l2 l3 l4 l5 l6 l7 l9 l11 l12 h (jr_of rfl (by omega)) (jr_of rfl (by omega)) (jr_of rfl (by omega)) (jr_of rfl (by omega)) (jr_of rfl (by omega)) (jr_of rfl (by omega)) (jr_ofl rfl (by omega)) (jr_of rfl (by omega)) (jr_of rfl (by omega)) (by omega) (by omega) J Sm)
  ·
    refine x_iload (x := l12) rfl rfl ?_
    refine x_iload (x := l6) rfl rfl ?_
    refine x_icgt (tgt := 126) rfl rfl (ti_gt rfl rfl ⟨fun c2 => ?_, fun c2 => ?_⟩)
    ·
      exact jX.sub (jsb_c rfl (jsb_c rfl (jsb_c rfl (jsb_c rfl (jsb_c rfl (jsb_c rfl (jsb_c rfl (jsb_c rfl (jsb_c rfl (jsb_c rfl (jsb_c rfl jsb_n))))))))))) (ct_X11_guessedOf_r31_126 hD hQ k66 l1 l2 l3 l4 l5 l6 l7 l9 l11 l12 h (jr_of rfl (by omega)) (jr_of rfl (by omega)) (jr_of rfl (by omega)) (jr_of rfl (by omega)) (jr_of rfl (by omega)) (jr_of rfl (by omega)) (jr_ofl rfl (by omega)) (jr_of rfl (by omega)) (jr_of rfl (by omega)) (by omega) (by omega) J Sm)
    ·
      exact jX.sub (jsb_c rfl (jsb_c rfl (jsb_c rfl (jsb_c rfl (jsb_c rfl (jsb_c rfl (jsb_c rfl (jsb_c rfl (jsb_c rfl (jsb_c rfl (jsb_c rfl jsb_n))))))))))) (ct_X11_guessedOf_r31_122 hD hQ k66 l1 l2 l3 l4 l5 l6 l7 l9 l11 l12 h (jr_of rfl (by omega)) (jr_of rfl (by omega)) (jr_of rfl (by omega)) (jr_of rfl (by omega)) (jr_of rfl (by omega)) (jr_of rfl (by omega)) (jr_ofl rfl (by omega)) (jr_of rfl (by omega)) (jr_of rfl (by omega)) (by omega) (by omega) J Sm)
set_option maxRecDepth 100000 in
set_option maxHeartbeats 4000000 in
theorem ct_X11_guessedOf_r31_66 {Dy : jH → Prop} {h0 : jH} {Q : Option Value → jH → Prop} (hD : jDk Dy) (hQ : ∀ (v : Int32) hx9, jJ jSgX Dy hx9 → jSm fp_X11_guessedOf_r31 h0 hx9 → Q (some (.int v)) hx9) : ∀ r : Nat, ∀ (l1 : Int32) (l2 : Int32) (l3 : Int32) (l4 : Int32) (l5 : Int32) (l6 : Int32) (l7 : Int64) (l9 : Int64) (l11 : Int32) (h : jH), 200 - l11.toInt < (r : Int) → 0 ≤ l1.toInt ∧ l1.toInt ≤ 5 → 0 ≤ l2.toInt ∧ l2.toInt ≤ 146399 → 0 ≤ l3.toInt ∧ l3.toInt ≤ 146399 → 0 ≤ l4.toInt ∧ l4.toInt ≤ 146399 → 0 ≤ l5.toInt ∧ l5.toInt ≤ 142739 → 3660 ≤ l6.toInt ∧ l6.toInt ≤ 146399 → (-2147483648) ≤ l7.toInt ∧ l7.toInt ≤ 2147483647 → 0 ≤ l11.toInt ∧ l11.toInt ≤ 200 → l7.toInt ≠ 0 → jJ jSgX Dy h → jSm fp_X11_guessedOf_r31 h0 h → jX m_X11_guessedOf 4 0 0 66 [(0, .ref 31), (1, .int l1), (2, .int l2), (3, .int l3), (4, .int l4), (5, .int l5), (6, .int l6), (7, .long l7), (9, .long l9), (11, .int l11)] [] h 0 0 Q := by
  intro r
  induction r with
  | zero =>
    intro l1 l2 l3 l4 l5 l6 l7 l9 l11 h hm y0 y1 y2 y3 y4 y5 y6 y7 y8   J Sm
    exfalso
    have el9 := jfullL l9
    omega
  | succ r ih =>
    intro l1 l2 l3 l4 l5 l6 l7 l9 l11 h hm y0 y1 y2 y3 y4 y5 y6 y7 y8   J Sm
    have el9 := jfullL l9
    refine x_iload (x := l11) rfl rfl ?_
    refine x_aloadn (x := 31) rfl rfl ?_
    refine z_getR (N := 13) (b := 32) 11 0 rfl f_11_10 rfl J rfl 3968 ⟨rfl, rfl⟩ rfl ?_
    refine z_getR (N := 20) (b := 33) 1 0 rfl f_11_126 rfl J rfl 4096 ⟨rfl, rfl⟩ rfl ?_
    refine z_getI (N := 4) 8 3 rfl f_11_142 rfl J rfl sg_33_3_4_1_0_1 (fun v1 qv1 ev1 => ?_)
    refine x_icge (tgt := 172) rfl rfl (ti_ge rfl rfl ⟨fun c2 => ?_, fun c2 => ?_⟩)
    ·
      refine x_ldc2 (v := 2) rfl z_11_559 ?_
      refine x_lload (x := l9) rfl rfl ?_
      refine z_lmul0 rfl (fun v3 => ?_)
      have ev3 := jfullL v3
      refine x_iloadn (x := l3) rfl rfl ?_
      refine x_iloadn (x := l2) rfl rfl ?_
      refine z_isub rfl rfl rfl (by omega) (fun v4 ev4 => ?_)
      refine x_iconst (v := 1) rfl ki_1 ?_
      refine z_iadd rfl rfl jk_1 (by omega) (fun v5 ev5 => ?_)
      refine z_i2l rfl rfl (fun v6 ev6 => ?_)
      refine z_lmul0 rfl (fun v7 => ?_)
      have ev7 := jfullL v7
      refine x_lload (x := l7) rfl rfl ?_
      refine z_ladd0 rfl (fun v8 => ?_)
      have ev8 := jfullL v8
      refine x_ldc2 (v := 2) rfl z_11_559 ?_
      refine x_lload (x := l7) rfl rfl ?_
      refine z_lmul rfl jkl_2 rfl (by omega) (fun v9 ev9 => ?_)
      refine z_ldiv0 rfl rfl (by omega) (fun v10 => ?_)
      have ev10 := jfullL v10
      refine z_l2i0 rfl (fun v11 => ?_)
      refine x_iret rfl rfl ?_
      exact hQ _ _ J Sm
    ·
      refine x_aloadn (x := 31) rfl rfl ?_
      refine z_getR (N := 13) (b := 32) 11 0 rfl f_11_10 rfl J rfl 3968 ⟨rfl, rfl⟩ rfl ?_
      refine z_getR (N := 20) (b := 33) 1 0 rfl f_11_126 rfl J rfl 4096 ⟨rfl, rfl⟩ rfl ?_
      refine x_iload (x := l11) rfl rfl ?_
      refine x_iconst (v := 1) rfl ki_1 ?_
      refine x_inv (N := m_X8_at) (As := [.int l11, .int 1]) (b := 33) (st := []) (dx9 := 1) (mc := 0) (ms := 0) (host := "") 8 rfl t_X8_at ⟨Or.inl q_11_171, i_X8_at.1, i_X8_at.2⟩ ⟨by decide, rfl⟩ (congrArg Prod.fst (J.1.1 33 (8, 4) rfl)) rfl (by decide) rfl rfl ⟨by decide, by decide⟩ (sf_X8_at_r33_c1  hD J  (fun v13 h ev13 J S12 => ?_))
      have Sm := jSm_tr rfl Sm S12
      show jX m_X11_guessedOf 4 0 0 94 [(0, .ref 31), (1, .int l1), (2, .int l2), (3, .int l3), (4, .int l4), (5, .int l5), (6, .int l6), (7, .long l7), (9, .long l9), (11, .int l11)] [.int v13] _ 0 0 _
      refine x_istore (lsx9 := [(12, .int v13), (0, .ref 31), (1, .int l1), (2, .int l2), (3, .int l3), (4, .int l4), (5, .int l5), (6, .int l6), (7, .long l7), (9, .long l9), (11, .int l11)]) rfl rfl rfl ?_
      refine x_iload (x := v13) rfl rfl ?_
      refine x_iload (x := l5) rfl rfl ?_
      refine x_iclt (tgt := 109) rfl rfl (ti_lt rfl rfl ⟨fun c14 => ?_, fun c14 => ?_⟩)
      ·
        exact jX.sub (jsb_c rfl (jsb_c rfl (jsb_c rfl (jsb_c rfl (jsb_c rfl (jsb_c rfl (jsb_c rfl (jsb_c rfl (jsb_c rfl (jsb_c rfl (jsb_c rfl jsb_n))))))))))) (ct_X11_guessedOf_r31_109 hD hQ ih l1 l2 l3 l4 l5 l6 l7 l9 l11 v13 h (jr_of rfl (by omega)) (jr_of rfl (by omega)) (jr_of rfl (by omega)) (jr_of rfl (by omega)) (jr_of rfl (by omega)) (jr_of rfl (by omega)) (jr_ofl rfl (by omega)) (jr_of rfl (by omega)) (jr_of rfl (by omega)) (by omega) (by omega) J Sm)
      ·
        refine x_iload (x := v13) rfl rfl ?_
        refine x_iloadn (x := l2) rfl rfl ?_
        refine x_iclt (tgt := 122) rfl rfl (ti_lt rfl rfl ⟨fun c15 => ?_, fun c15 => ?_⟩)
        ·
          exact jX.sub (jsb_c rfl (jsb_c rfl (jsb_c rfl (jsb_c rfl (jsb_c rfl (jsb_c rfl (jsb_c rfl (jsb_c rfl (jsb_c rfl (jsb_c rfl (jsb_c rfl jsb_n))))))))))) (ct_X11_guessedOf_r31_122 hD hQ ih l1 l2 l3 l4 l5 l6 l7 l9 l11 v13 h (jr_of rfl (by omega)) (jr_of rfl (by omega)) (jr_of rfl (by omega)) (jr_of rfl (by omega)) (jr_of rfl (by omega)) (jr_of rfl (by omega)) (jr_ofl rfl (by omega)) (jr_of rfl (by omega)) (jr_of rfl (by omega)) (by omega) (by omega) J Sm)
        ·
          exact jX.sub (jsb_c rfl (jsb_c rfl (jsb_c rfl (jsb_c rfl (jsb_c rfl (jsb_c rfl (jsb_c rfl (jsb_c rfl (jsb_c rfl (jsb_c rfl (jsb_c rfl jsb_n))))))))))) (ct_X11_guessedOf_r31_109 hD hQ ih l1 l2 l3 l4 l5 l6 l7 l9 l11 v13 h (jr_of rfl (by omega)) (jr_of rfl (by omega)) (jr_of rfl (by omega)) (jr_of rfl (by omega)) (jr_of rfl (by omega)) (jr_of rfl (by omega)) (jr_ofl rfl (by omega)) (jr_of rfl (by omega)) (jr_of rfl (by omega)) (by omega) (by omega) J Sm)
set_option maxRecDepth 100000 in
set_option maxHeartbeats 4000000 in
theorem sf_X11_guessedOf_r31 {Dy : jH → Prop} {h : jH} {Q : Option Value → jH → Prop} {a1 : Int32} {a2 : Int32} {a3 : Int32} {a4 : Int32} (y1 : 0 ≤ a1.toInt ∧ a1.toInt ≤ 5) (y2 : 0 ≤ a2.toInt ∧ a2.toInt ≤ 146399) (y3 : 0 ≤ a3.toInt ∧ a3.toInt ≤ 146399) (y4 : 0 ≤ a4.toInt ∧ a4.toInt ≤ 146399) (hD : jDk Dy) (J : jJ jSgX Dy h) (hQ : ∀ (v : Int32) hx9, jJ jSgX Dy hx9 → jSm fp_X11_guessedOf_r31 h hx9 → Q (some (.int v)) hx9) : jC m_X11_guessedOf 4 0 0 [.ref 31, .int a1, .int a2, .int a3, .int a4] h Q := by
  refine jC.of rfl k_X11_guessedOf rfl ?_
  have Sm := jSm_rf fp_X11_guessedOf_r31 h
  show jX m_X11_guessedOf 4 0 0 0 [(0, .ref 31), (1, .int a1), (2, .int a2), (3, .int a3), (4, .int a4)] [] _ 0 0 _
  refine x_iconst (v := 0) rfl ki_0 ?_
  refine x_iloadn (x := a2) rfl rfl ?_
  refine x_sipush (v := 3660) rfl ks_3660 ?_
  refine z_isub rfl rfl jk_3660 (by omega) (fun v1 ev1 => ?_)
  refine z_mmax rfl q_11_193 (by decide) rfl jk_0 rfl (fun v2 ev2 => ?_)
  refine x_istore (lsx9 := [(5, .int v2), (0, .ref 31), (1, .int a1), (2, .int a2), (3, .int a3), (4, .int a4)]) rfl rfl rfl ?_
  refine x_ldc (v := 146399) rfl z_11_233 ?_
  refine x_iloadn (x := a3) rfl rfl ?_
  refine x_sipush (v := 3660) rfl ks_3660 ?_
  refine z_iadd rfl rfl jk_3660 (by omega) (fun v3 ev3 => ?_)
  refine z_mmin rfl q_11_553 (by decide) rfl jk_146399 rfl (fun v4 ev4 => ?_)
  refine x_istore (lsx9 := [(6, .int v4), (5, .int v2), (0, .ref 31), (1, .int a1), (2, .int a2), (3, .int a3), (4, .int a4)]) rfl rfl rfl ?_
  refine x_aloadn (x := 31) rfl rfl ?_
  refine x_iloadn (x := a1) rfl rfl ?_
  refine x_iload (x := v2) rfl rfl ?_
  refine x_iloadn (x := a2) rfl rfl ?_
  refine x_iconst (v := 1) rfl ki_1 ?_
  refine z_isub rfl rfl jk_1 (by omega) (fun v5 ev5 => ?_)
  refine x_iload (x := a4) rfl rfl ?_
  refine x_inv (N := m_X11_wholeDays) (As := [.int a1, .int v2, .int v5, .int a4]) (b := 31) (st := []) (dx9 := 3) (mc := 0) (ms := 0) (host := "") 11 rfl t_X11_wholeDays ⟨Or.inl q_11_556, i_X11_wholeDays.1, i_X11_wholeDays.2⟩ ⟨by decide, rfl⟩ (congrArg Prod.fst (J.1.1 31 (11, 13) rfl)) rfl (by decide) rfl rfl ⟨by decide, by decide⟩ (sf_X11_wholeDays_r31 (jr_of rfl (by omega)) (jr_of rfl (by omega)) (jr_of rfl (by omega)) (jr_of rfl (by omega)) hD J  (fun v7 h J S6 => ?_))
  have ev7 := jfull v7
  have Sm := jSm_tr rfl Sm S6
  show jX m_X11_guessedOf 4 0 0 35 [(6, .int v4), (5, .int v2), (0, .ref 31), (1, .int a1), (2, .int a2), (3, .int a3), (4, .int a4)] [.int v7] _ 0 0 _
  refine x_aloadn (x := 31) rfl rfl ?_
  refine x_iloadn (x := a1) rfl rfl ?_
  refine x_iloadn (x := a3) rfl rfl ?_
  refine x_iconst (v := 1) rfl ki_1 ?_
  refine z_iadd rfl rfl jk_1 (by omega) (fun v8 ev8 => ?_)
  refine x_iload (x := v4) rfl rfl ?_
  refine x_iload (x := a4) rfl rfl ?_
  refine x_inv (N := m_X11_wholeDays) (As := [.int a1, .int v8, .int v4, .int a4]) (b := 31) (st := [.int v7]) (dx9 := 3) (mc := 0) (ms := 0) (host := "") 11 rfl t_X11_wholeDays ⟨Or.inl q_11_556, i_X11_wholeDays.1, i_X11_wholeDays.2⟩ ⟨by decide, rfl⟩ (congrArg Prod.fst (J.1.1 31 (11, 13) rfl)) rfl (by decide) rfl rfl ⟨by decide, by decide⟩ (sf_X11_wholeDays_r31 (jr_of rfl (by omega)) (jr_of rfl (by omega)) (jr_of rfl (by omega)) (jr_of rfl (by omega)) hD J  (fun v10 h J S9 => ?_))
  have ev10 := jfull v10
  have Sm := jSm_tr rfl Sm S9
  show jX m_X11_guessedOf 4 0 0 47 [(6, .int v4), (5, .int v2), (0, .ref 31), (1, .int a1), (2, .int a2), (3, .int a3), (4, .int a4)] [.int v10, .int v7] _ 0 0 _
  refine z_iadd0 rfl (fun v11 => ?_)
  have ev11 := jfull v11
  refine z_i2l rfl rfl (fun v12 ev12 => ?_)
  refine x_lstore (lsx9 := [(7, .long v12), (6, .int v4), (5, .int v2), (0, .ref 31), (1, .int a1), (2, .int a2), (3, .int a3), (4, .int a4)]) rfl rfl rfl ?_
  refine x_lload (x := v12) rfl rfl ?_
  refine x_lconst (v := 0) rfl kl_0 ?_
  refine z_lcmp rfl rfl jkl_0 (fun v13 ev13 => ?_)
  refine x_ifne (tgt := 60) rfl rfl (ti_ne rfl jk_0 ⟨fun c14 => ?_, fun c14 => ?_⟩)
  ·
    refine x_lconst (v := 0) rfl kl_0 ?_
    refine x_lstore (lsx9 := [(9, .long 0), (7, .long v12), (6, .int v4), (5, .int v2), (0, .ref 31), (1, .int a1), (2, .int a2), (3, .int a3), (4, .int a4)]) rfl rfl rfl ?_
    refine x_iconst (v := 0) rfl ki_0 ?_
    refine x_istore (lsx9 := [(11, .int 0), (9, .long 0), (7, .long v12), (6, .int v4), (5, .int v2), (0, .ref 31), (1, .int a1), (2, .int a2), (3, .int a3), (4, .int a4)]) rfl rfl rfl ?_
    exact jX.sub (jsb_c rfl (jsb_c rfl (jsb_c rfl (jsb_c rfl (jsb_c rfl (jsb_c rfl (jsb_c rfl (jsb_c rfl (jsb_c rfl (jsb_c rfl jsb_n)))))))))) (ct_X11_guessedOf_r31_66 hD hQ  201 a1 a2 a3 a4 v2 v4 v12 0 0 h (by have := jk_0; omega) (jr_of rfl (by omega)) (jr_of rfl (by omega)) (jr_of rfl (by omega)) (jr_of rfl (by omega)) (jr_of rfl (by omega)) (jr_of rfl (by omega)) (jr_ofl rfl (by omega)) (jr_of jk_0 (by omega)) (by omega) J Sm)
  ·
    refine x_iconst (v := 0) rfl ki_0 ?_
    refine x_iret rfl rfl ?_
    exact hQ _ _ J Sm
def fp_X11_leastOf_r31 : jFp := [(85, 0, 4)]
set_option maxRecDepth 100000 in
set_option maxHeartbeats 4000000 in
theorem ct_X11_leastOf_r31_158 {Dy : jH → Prop} {h0 : jH} {Q : Option Value → jH → Prop} (hD : jDk Dy) (hQ : ∀ (v : Int32) hx9, jJ jSgX Dy hx9 → jSm fp_X11_leastOf_r31 h0 hx9 → Q (some (.int v)) hx9) : ∀ (l6 : Int32) (h : jH), jJ jSgX Dy h → jSm fp_X11_leastOf_r31 h0 h → jX m_X11_leastOf 2 0 0 158 [(6, .int l6)] [] h 0 0 Q := by
  intro l6 h    J Sm
  have el6 := jfull l6
  refine x_iload (x := l6) rfl rfl ?_
  refine x_iret rfl rfl ?_
  exact hQ _ _ J Sm
set_option maxRecDepth 100000 in
set_option maxHeartbeats 4000000 in
theorem ct_X11_leastOf_r31_152 {Dy : jH → Prop} {h0 : jH} {Q : Option Value → jH → Prop} {R39 : Int} (hD : jDk Dy) (hQ : ∀ (v : Int32) hx9, jJ jSgX Dy hx9 → jSm fp_X11_leastOf_r31 h0 hx9 → Q (some (.int v)) hx9) (k39 : ∀ (l2 : Int32) (l3 : Int32) (l4 : Int32) (l5 : Int32) (l6 : Int32) (l7 : Int32) (h : jH), 600 - l7.toInt < R39 → 0 ≤ l2.toInt ∧ l2.toInt ≤ 146399 → 0 ≤ l3.toInt ∧ l3.toInt ≤ 146399 → 0 ≤ l4.toInt ∧ l4.toInt ≤ 5 → l4.toInt % 5 = 0 → 0 ≤ l5.toInt ∧ l5.toInt ≤ 2 → l5.toInt % 2 = 0 → 0 ≤ l7.toInt ∧ l7.toInt ≤ 600 → jJ jSgX Dy h → jSm fp_X11_leastOf_r31 h0 h → jX m_X11_leastOf 2 0 0 39 [(0, .ref 31), (2, .int l2), (3, .int l3), (4, .int l4), (5, .int l5), (6, .int l6), (7, .int l7)] [] h 0 0 Q) : ∀ (l2 : Int32) (l3 : Int32) (l4 : Int32) (l5 : Int32) (l6 : Int32) (l7 : Int32) (h : jH), 0 ≤ l2.toInt ∧ l2.toInt ≤ 146399 → 0 ≤ l3.toInt ∧ l3.toInt ≤ 146399 → 0 ≤ l4.toInt ∧ l4.toInt ≤ 5 → l4.toInt % 5 = 0 → 0 ≤ l5.toInt ∧ l5.toInt ≤ 2 → l5.toInt % 2 = 0 → 0 ≤ l7.toInt ∧ l7.toInt ≤ 599 → 600 - l7.toInt ≤ R39 → jJ jSgX Dy h → jSm fp_X11_leastOf_r31 h0 h → jX m_X11_leastOf 2 0 0 152 [(0, .ref 31), (2, .int l2), (3, .int l3), (4, .int l4), (5, .int l5), (6, .int l6), (7, .int l7)] [] h 0 0 Q := by
  intro l2 l3 l4 l5 l6 l7 h y0 y1 y2 y3 y4 y5 y6  m39 J Sm
  have el6 := jfull l6
  refine z_iinc (x := l7) (lsx9 := fun v1 => [(7, .int v1), (0, .ref 31), (2, .int l2), (3, .int l3), (4, .int l4), (5, .int l5), (6, .int l6)]) rfl rfl rfl jko_1 (by omega) rfl (fun _ => rfl) (fun v1 ev1 => ?_)
  refine x_goto (tgt := 39) rfl rfl ?_
  exact jX.sub (jsb_c rfl (jsb_c rfl (jsb_c rfl (jsb_c rfl (jsb_c rfl (jsb_c rfl (jsb_c rfl jsb_n))))))) (k39 l2 l3 l4 l5 l6 v1 h (by omega) (jr_of rfl (by omega)) (jr_of rfl (by omega)) (jr_of rfl (by omega)) (jr_mod rfl (by omega)) (jr_of rfl (by omega)) (jr_mod rfl (by omega)) (jr_of rfl (by omega)) J Sm)
set_option maxRecDepth 100000 in
set_option maxHeartbeats 4000000 in
theorem ct_X11_leastOf_r31_39 {Dy : jH → Prop} {h0 : jH} {Q : Option Value → jH → Prop} (hD : jDk Dy) (hQ : ∀ (v : Int32) hx9, jJ jSgX Dy hx9 → jSm fp_X11_leastOf_r31 h0 hx9 → Q (some (.int v)) hx9) : ∀ r : Nat, ∀ (l2 : Int32) (l3 : Int32) (l4 : Int32) (l5 : Int32) (l6 : Int32) (l7 : Int32) (h : jH), 600 - l7.toInt < (r : Int) → 0 ≤ l2.toInt ∧ l2.toInt ≤ 146399 → 0 ≤ l3.toInt ∧ l3.toInt ≤ 146399 → 0 ≤ l4.toInt ∧ l4.toInt ≤ 5 → l4.toInt % 5 = 0 → 0 ≤ l5.toInt ∧ l5.toInt ≤ 2 → l5.toInt % 2 = 0 → 0 ≤ l7.toInt ∧ l7.toInt ≤ 600 → jJ jSgX Dy h → jSm fp_X11_leastOf_r31 h0 h → jX m_X11_leastOf 2 0 0 39 [(0, .ref 31), (2, .int l2), (3, .int l3), (4, .int l4), (5, .int l5), (6, .int l6), (7, .int l7)] [] h 0 0 Q := by
  intro r
  induction r with
  | zero =>
    intro l2 l3 l4 l5 l6 l7 h hm y0 y1 y2 y3 y4 y5 y6   J Sm
    exfalso
    have el6 := jfull l6
    omega
  | succ r ih =>
    intro l2 l3 l4 l5 l6 l7 h hm y0 y1 y2 y3 y4 y5 y6   J Sm
    have el6 := jfull l6
    refine x_iload (x := l7) rfl rfl ?_
    refine x_aloadn (x := 31) rfl rfl ?_
    refine z_getR (N := 13) (b := 32) 11 0 rfl f_11_10 rfl J rfl 3968 ⟨rfl, rfl⟩ rfl ?_
    refine z_getR (N := 20) (b := 33) 1 0 rfl f_11_126 rfl J rfl 4096 ⟨rfl, rfl⟩ rfl ?_
    refine z_getI (N := 4) 8 3 rfl f_11_142 rfl J rfl sg_33_3_4_1_0_1 (fun v1 qv1 ev1 => ?_)
    refine x_iconst (v := 3) rfl ki_3 ?_
    refine z_imul rfl rfl jk_3 (by omega) (fun v2 ev2 => ?_)
    refine x_icge (tgt := 158) rfl rfl (ti_ge rfl rfl ⟨fun c3 => ?_, fun c3 => ?_⟩)
    ·
      exact jX.sub (jsb_c rfl jsb_n) (ct_X11_leastOf_r31_158 hD hQ  l6 h J Sm)
    ·
      refine x_iload (x := l7) rfl rfl ?_
      refine x_sipush (v := 600) rfl ks_600 ?_
      refine x_icge (tgt := 158) rfl rfl (ti_ge rfl jk_600 (br_f (by omega) ?_))
      refine x_aloadn (x := 31) rfl rfl ?_
      refine z_getR (N := 13) (b := 78) 11 4 rfl f_11_41 rfl J rfl 3972 ⟨rfl, rfl⟩ rfl ?_
      refine z_getR (N := 16) (b := 82) 7 10 rfl f_11_537 rfl J rfl 9994 ⟨rfl, rfl⟩ rfl ?_
      refine x_iload (x := l7) rfl rfl ?_
      refine z_iald (N := 600) rfl J rfl sg_82_0_600_1_0_1 rfl (by omega) (fun v4 qv4 ev4 => ?_)
      refine x_iload (x := l7) rfl rfl ?_
      refine x_icne (tgt := 152) rfl rfl (ti_ne rfl rfl ⟨fun c5 => ?_, fun c5 => ?_⟩)
      ·
        exact jX.sub (jsb_c rfl (jsb_c rfl (jsb_c rfl (jsb_c rfl (jsb_c rfl (jsb_c rfl (jsb_c rfl jsb_n))))))) (ct_X11_leastOf_r31_152 hD hQ ih l2 l3 l4 l5 l6 l7 h (jr_of rfl (by omega)) (jr_of rfl (by omega)) (jr_of rfl (by omega)) (jr_mod rfl (by omega)) (jr_of rfl (by omega)) (jr_mod rfl (by omega)) (jr_of rfl (by omega)) (by omega) J Sm)
      ·
        refine x_aloadn (x := 31) rfl rfl ?_
        refine z_getR (N := 13) (b := 78) 11 4 rfl f_11_41 rfl J rfl 3972 ⟨rfl, rfl⟩ rfl ?_
        refine x_iload (x := l7) rfl rfl ?_
        refine x_iload (x := l4) rfl rfl ?_
        refine x_ldc (v := 146399) rfl z_11_233 ?_
        refine x_inv (N := m_X7_hasBy) (As := [.int l7, .int l4, .int 146399]) (b := 78) (st := []) (dx9 := 1) (mc := 0) (ms := 0) (host := "") 7 rfl t_X7_hasBy ⟨Or.inl q_11_540, i_X7_hasBy.1, i_X7_hasBy.2⟩ ⟨by decide, rfl⟩ (congrArg Prod.fst (J.1.1 78 (7, 16) rfl)) rfl (by decide) rfl rfl ⟨by decide, by decide⟩ (sf_X7_hasBy_r78 (jr_of rfl (by omega)) (jr_of rfl (by omega)) (jr_of jk_146399 (by omega)) hD J  (fun v7 h ev7 J S6 => ?_))
        have Sm := jSm_tr rfl Sm S6
        show jX m_X11_leastOf 2 0 0 92 [(0, .ref 31), (2, .int l2), (3, .int l3), (4, .int l4), (5, .int l5), (6, .int l6), (7, .int l7)] [.int v7] _ 0 0 _
        refine x_ifne (tgt := 152) rfl rfl (ti_ne rfl jk_0 ⟨fun c8 => ?_, fun c8 => ?_⟩)
        ·
          exact jX.sub (jsb_c rfl (jsb_c rfl (jsb_c rfl (jsb_c rfl (jsb_c rfl (jsb_c rfl (jsb_c rfl jsb_n))))))) (ct_X11_leastOf_r31_152 hD hQ ih l2 l3 l4 l5 l6 l7 h (jr_of rfl (by omega)) (jr_of rfl (by omega)) (jr_of rfl (by omega)) (jr_mod rfl (by omega)) (jr_of rfl (by omega)) (jr_mod rfl (by omega)) (jr_of rfl (by omega)) (by omega) J Sm)
        ·
          refine x_aloadn (x := 31) rfl rfl ?_
          refine z_getR (N := 13) (b := 78) 11 4 rfl f_11_41 rfl J rfl 3972 ⟨rfl, rfl⟩ rfl ?_
          refine x_iload (x := l7) rfl rfl ?_
          refine x_inv (N := m_X7_readSpan) (As := [.int l7]) (b := 78) (st := []) (dx9 := 1) (mc := 0) (ms := 0) (host := "") 7 rfl t_X7_readSpan ⟨Or.inl q_11_264, i_X7_readSpan.1, i_X7_readSpan.2⟩ ⟨by decide, rfl⟩ (congrArg Prod.fst (J.1.1 78 (7, 16) rfl)) rfl (by decide) rfl rfl ⟨by decide, by decide⟩ (sf_X7_readSpan_r78 (jr_of rfl (by omega)) hD J  (fun h J S9 => ?_))
          have Sm := jSm_tr rfl Sm S9
          show jX m_X11_leastOf 2 0 0 104 [(0, .ref 31), (2, .int l2), (3, .int l3), (4, .int l4), (5, .int l5), (6, .int l6), (7, .int l7)] [] _ 0 0 _
          refine x_aloadn (x := 31) rfl rfl ?_
          refine z_getR (N := 13) (b := 78) 11 4 rfl f_11_41 rfl J rfl 3972 ⟨rfl, rfl⟩ rfl ?_
          refine z_getR (N := 16) (b := 85) 7 14 rfl f_11_267 rfl J rfl 9998 ⟨rfl, rfl⟩ rfl ?_
          refine x_iload (x := l5) rfl rfl ?_
          refine z_iald0 (N := 4) rfl J rfl rfl (by omega) (fun v10 qv10 => ?_)
          have ev10 := jfull v10
          refine x_istore (lsx9 := [(8, .int v10), (0, .ref 31), (2, .int l2), (3, .int l3), (4, .int l4), (5, .int l5), (6, .int l6), (7, .int l7)]) rfl rfl rfl ?_
          refine x_aloadn (x := 31) rfl rfl ?_
          refine z_getR (N := 13) (b := 78) 11 4 rfl f_11_41 rfl J rfl 3972 ⟨rfl, rfl⟩ rfl ?_
          refine z_getR (N := 16) (b := 85) 7 14 rfl f_11_267 rfl J rfl 9998 ⟨rfl, rfl⟩ rfl ?_
          refine x_iload (x := l5) rfl rfl ?_
          refine x_iconst (v := 1) rfl ki_1 ?_
          refine z_iadd rfl rfl jk_1 (by omega) (fun v11 ev11 => ?_)
          refine z_iald0 (N := 4) rfl J rfl rfl (by omega) (fun v12 qv12 => ?_)
          have ev12 := jfull v12
          refine x_istore (lsx9 := [(9, .int v12), (8, .int v10), (0, .ref 31), (2, .int l2), (3, .int l3), (4, .int l4), (5, .int l5), (6, .int l6), (7, .int l7)]) rfl rfl rfl ?_
          refine x_iload (x := v10) rfl rfl ?_
          refine x_iloadn (x := l2) rfl rfl ?_
          refine x_iclt (tgt := 152) rfl rfl (ti_lt rfl rfl ⟨fun c13 => ?_, fun c13 => ?_⟩)
          ·
            exact jX.sub (jsb_c rfl (jsb_c rfl (jsb_c rfl (jsb_c rfl (jsb_c rfl (jsb_c rfl (jsb_c rfl jsb_n))))))) (ct_X11_leastOf_r31_152 hD hQ ih l2 l3 l4 l5 l6 l7 h (jr_of rfl (by omega)) (jr_of rfl (by omega)) (jr_of rfl (by omega)) (jr_mod rfl (by omega)) (jr_of rfl (by omega)) (jr_mod rfl (by omega)) (jr_of rfl (by omega)) (by omega) J Sm)
          ·
            refine x_iload (x := v12) rfl rfl ?_
            refine x_iloadn (x := l3) rfl rfl ?_
            refine x_icgt (tgt := 152) rfl rfl (ti_gt rfl rfl ⟨fun c14 => ?_, fun c14 => ?_⟩)
            ·
              exact jX.sub (jsb_c rfl (jsb_c rfl (jsb_c rfl (jsb_c rfl (jsb_c rfl (jsb_c rfl (jsb_c rfl jsb_n))))))) (ct_X11_leastOf_r31_152 hD hQ ih l2 l3 l4 l5 l6 l7 h (jr_of rfl (by omega)) (jr_of rfl (by omega)) (jr_of rfl (by omega)) (jr_mod rfl (by omega)) (jr_of rfl (by omega)) (jr_mod rfl (by omega)) (jr_of rfl (by omega)) (by omega) J Sm)
            ·
              refine x_iload (x := v10) rfl rfl ?_
              refine x_iload (x := v12) rfl rfl ?_
              refine x_icgt (tgt := 152) rfl rfl (ti_gt rfl rfl ⟨fun c15 => ?_, fun c15 => ?_⟩)
              ·
                exact jX.sub (jsb_c rfl (jsb_c rfl (jsb_c rfl (jsb_c rfl (jsb_c rfl (jsb_c rfl (jsb_c rfl jsb_n))))))) (ct_X11_leastOf_r31_152 hD hQ ih l2 l3 l4 l5 l6 l7 h (jr_of rfl (by omega)) (jr_of rfl (by omega)) (jr_of rfl (by omega)) (jr_mod rfl (by omega)) (jr_of rfl (by omega)) (jr_mod rfl (by omega)) (jr_of rfl (by omega)) (by omega) J Sm)
              ·
                refine z_iinc0 (x := l6) (lsx9 := fun v16 => [(6, .int v16), (9, .int v12), (8, .int v10), (0, .ref 31), (2, .int l2), (3, .int l3), (4, .int l4), (5, .int l5), (7, .int l7)]) rfl rfl rfl (fun _ => rfl) (fun v16 => ?_)
                have ev16 := jfull v16
                exact jX.sub (jsb_c rfl (jsb_c rfl (jsb_c rfl (jsb_c rfl (jsb_c rfl (jsb_c rfl (jsb_c rfl jsb_n))))))) (ct_X11_leastOf_r31_152 hD hQ ih l2 l3 l4 l5 v16 l7 h (jr_of rfl (by omega)) (jr_of rfl (by omega)) (jr_of rfl (by omega)) (jr_mod rfl (by omega)) (jr_of rfl (by omega)) (jr_mod rfl (by omega)) (jr_of rfl (by omega)) (by omega) J Sm)
set_option maxRecDepth 100000 in
set_option maxHeartbeats 4000000 in
theorem ct_X11_leastOf_r31_200031 {Dy : jH → Prop} {h0 : jH} {Q : Option Value → jH → Prop} (hD : jDk Dy) (hQ : ∀ (v : Int32) hx9, jJ jSgX Dy hx9 → jSm fp_X11_leastOf_r31 h0 hx9 → Q (some (.int v)) hx9) : ∀ (l2 : Int32) (l3 : Int32) (h : jH), 0 ≤ l2.toInt ∧ l2.toInt ≤ 146399 → 0 ≤ l3.toInt ∧ l3.toInt ≤ 146399 → jJ jSgX Dy h → jSm fp_X11_leastOf_r31 h0 h → jX m_X11_leastOf 2 0 0 31 [(0, .ref 31), (2, .int l2), (3, .int l3), (4, .int 0)] [.int 0] h 0 0 Q := by
  intro l2 l3 h y0 y1   J Sm
  refine x_istore (lsx9 := [(5, .int 0), (0, .ref 31), (2, .int l2), (3, .int l3), (4, .int 0)]) rfl rfl rfl ?_
  refine x_iconst (v := 0) rfl ki_0 ?_
  refine x_istore (lsx9 := [(6, .int 0), (5, .int 0), (0, .ref 31), (2, .int l2), (3, .int l3), (4, .int 0)]) rfl rfl rfl ?_
  refine x_iconst (v := 0) rfl ki_0 ?_
  refine x_istore (lsx9 := [(7, .int 0), (6, .int 0), (5, .int 0), (0, .ref 31), (2, .int l2), (3, .int l3), (4, .int 0)]) rfl rfl rfl ?_
  exact jX.sub (jsb_c rfl (jsb_c rfl (jsb_c rfl (jsb_c rfl (jsb_c rfl (jsb_c rfl (jsb_c rfl jsb_n))))))) (ct_X11_leastOf_r31_39 hD hQ  601 l2 l3 0 0 0 0 h (by have := jk_0; omega) (jr_of rfl (by omega)) (jr_of rfl (by omega)) (jr_of jk_0 (by omega)) (jr_mod jk_0 (by omega)) (jr_of jk_0 (by omega)) (jr_mod jk_0 (by omega)) (jr_of jk_0 (by omega)) J Sm)
set_option maxRecDepth 100000 in
set_option maxHeartbeats 4000000 in
theorem ct_X11_leastOf_r31_400031 {Dy : jH → Prop} {h0 : jH} {Q : Option Value → jH → Prop} (hD : jDk Dy) (hQ : ∀ (v : Int32) hx9, jJ jSgX Dy hx9 → jSm fp_X11_leastOf_r31 h0 hx9 → Q (some (.int v)) hx9) : ∀ (l2 : Int32) (l3 : Int32) (h : jH), 0 ≤ l2.toInt ∧ l2.toInt ≤ 146399 → 0 ≤ l3.toInt ∧ l3.toInt ≤ 146399 → jJ jSgX Dy h → jSm fp_X11_leastOf_r31 h0 h → jX m_X11_leastOf 2 0 0 31 [(0, .ref 31), (2, .int l2), (3, .int l3), (4, .int 5)] [.int 2] h 0 0 Q := by
  intro l2 l3 h y0 y1   J Sm
  refine x_istore (lsx9 := [(5, .int 2), (0, .ref 31), (2, .int l2), (3, .int l3), (4, .int 5)]) rfl rfl rfl ?_
  refine x_iconst (v := 0) rfl ki_0 ?_
  refine x_istore (lsx9 := [(6, .int 0), (5, .int 2), (0, .ref 31), (2, .int l2), (3, .int l3), (4, .int 5)]) rfl rfl rfl ?_
  refine x_iconst (v := 0) rfl ki_0 ?_
  refine x_istore (lsx9 := [(7, .int 0), (6, .int 0), (5, .int 2), (0, .ref 31), (2, .int l2), (3, .int l3), (4, .int 5)]) rfl rfl rfl ?_
  exact jX.sub (jsb_c rfl (jsb_c rfl (jsb_c rfl (jsb_c rfl (jsb_c rfl (jsb_c rfl (jsb_c rfl jsb_n))))))) (ct_X11_leastOf_r31_39 hD hQ  601 l2 l3 5 2 0 0 h (by have := jk_0; omega) (jr_of rfl (by omega)) (jr_of rfl (by omega)) (jr_of jk_5 (by omega)) (jr_mod jk_5 (by omega)) (jr_of jk_2 (by omega)) (jr_mod jk_2 (by omega)) (jr_of jk_0 (by omega)) J Sm)
set_option maxRecDepth 100000 in
set_option maxHeartbeats 4000000 in
theorem ct_X11_leastOf_r31_700020 {Dy : jH → Prop} {h0 : jH} {Q : Option Value → jH → Prop} (hD : jDk Dy) (hQ : ∀ (v : Int32) hx9, jJ jSgX Dy hx9 → jSm fp_X11_leastOf_r31 h0 hx9 → Q (some (.int v)) hx9) : ∀ (l1 : Int32) (l2 : Int32) (l3 : Int32) (h : jH), 1 ≤ l1.toInt ∧ l1.toInt ≤ 2 → 0 ≤ l2.toInt ∧ l2.toInt ≤ 146399 → 0 ≤ l3.toInt ∧ l3.toInt ≤ 146399 → l1.toInt ≠ 0 → jJ jSgX Dy h → jSm fp_X11_leastOf_r31 h0 h → jX m_X11_leastOf 2 0 0 20 [(0, .ref 31), (1, .int l1), (2, .int l2), (3, .int l3)] [.int 5] h 0 0 Q := by
  intro l1 l2 l3 h y0 y1 y2 y3   J Sm
  refine x_istore (lsx9 := [(4, .int 5), (0, .ref 31), (1, .int l1), (2, .int l2), (3, .int l3)]) rfl rfl rfl ?_
  refine x_iloadn (x := l1) rfl rfl ?_
  refine x_ifne (tgt := 30) rfl rfl (ti_ne rfl jk_0 (bn_t (by omega) ?_))
  refine x_iconst (v := 2) rfl ki_2 ?_
  exact jX.sub (jsb_c rfl (jsb_c rfl (jsb_c rfl (jsb_c rfl jsb_n)))) (ct_X11_leastOf_r31_400031 hD hQ  l2 l3 h (jr_of rfl (by omega)) (jr_of rfl (by omega)) J Sm)
set_option maxRecDepth 100000 in
set_option maxHeartbeats 4000000 in
theorem ct_X11_leastOf_r31_200020 {Dy : jH → Prop} {h0 : jH} {Q : Option Value → jH → Prop} (hD : jDk Dy) (hQ : ∀ (v : Int32) hx9, jJ jSgX Dy hx9 → jSm fp_X11_leastOf_r31 h0 hx9 → Q (some (.int v)) hx9) : ∀ (l1 : Int32) (l2 : Int32) (l3 : Int32) (h : jH), 0 ≤ l1.toInt ∧ l1.toInt ≤ 0 → 0 ≤ l2.toInt ∧ l2.toInt ≤ 146399 → 0 ≤ l3.toInt ∧ l3.toInt ≤ 146399 → jJ jSgX Dy h → jSm fp_X11_leastOf_r31 h0 h → jX m_X11_leastOf 2 0 0 20 [(0, .ref 31), (1, .int l1), (2, .int l2), (3, .int l3)] [.int 0] h 0 0 Q := by
  intro l1 l2 l3 h y0 y1 y2   J Sm
  refine x_istore (lsx9 := [(4, .int 0), (0, .ref 31), (1, .int l1), (2, .int l2), (3, .int l3)]) rfl rfl rfl ?_
  refine x_iloadn (x := l1) rfl rfl ?_
  refine x_ifne (tgt := 30) rfl rfl (ti_ne rfl jk_0 (bn_f (by omega) ?_))
  refine x_iconst (v := 0) rfl ki_0 ?_
  refine x_goto (tgt := 31) rfl rfl ?_
  exact jX.sub (jsb_c rfl (jsb_c rfl (jsb_c rfl (jsb_c rfl jsb_n)))) (ct_X11_leastOf_r31_200031 hD hQ  l2 l3 h (jr_of rfl (by omega)) (jr_of rfl (by omega)) J Sm)
set_option maxRecDepth 100000 in
set_option maxHeartbeats 4000000 in
theorem ct_X11_leastOf_r31_11 {Dy : jH → Prop} {h0 : jH} {Q : Option Value → jH → Prop} (hD : jDk Dy) (hQ : ∀ (v : Int32) hx9, jJ jSgX Dy hx9 → jSm fp_X11_leastOf_r31 h0 hx9 → Q (some (.int v)) hx9) : ∀ (l1 : Int32) (l2 : Int32) (l3 : Int32) (h : jH), 0 ≤ l1.toInt ∧ l1.toInt ≤ 2 → 0 ≤ l2.toInt ∧ l2.toInt ≤ 146399 → 0 ≤ l3.toInt ∧ l3.toInt ≤ 146399 → jJ jSgX Dy h → jSm fp_X11_leastOf_r31 h0 h → jX m_X11_leastOf 2 0 0 11 [(0, .ref 31), (1, .int l1), (2, .int l2), (3, .int l3)] [] h 0 0 Q := by
  intro l1 l2 l3 h y0 y1 y2   J Sm
  refine x_iloadn (x := l1) rfl rfl ?_
  refine x_ifne (tgt := 19) rfl rfl (ti_ne rfl jk_0 ⟨fun c1 => ?_, fun c1 => ?_⟩)
  ·
    refine x_iconst (v := 5) rfl ki_5 ?_
    exact jX.sub (jsb_c rfl (jsb_c rfl (jsb_c rfl (jsb_c rfl jsb_n)))) (ct_X11_leastOf_r31_700020 hD hQ  l1 l2 l3 h (jr_of rfl (by omega)) (jr_of rfl (by omega)) (jr_of rfl (by omega)) (by omega) J Sm)
  ·
    refine x_iconst (v := 0) rfl ki_0 ?_
    refine x_goto (tgt := 20) rfl rfl ?_
    exact jX.sub (jsb_c rfl (jsb_c rfl (jsb_c rfl (jsb_c rfl jsb_n)))) (ct_X11_leastOf_r31_200020 hD hQ  l1 l2 l3 h (jr_of rfl (by omega)) (jr_of rfl (by omega)) (jr_of rfl (by omega)) J Sm)
set_option maxRecDepth 100000 in
set_option maxHeartbeats 4000000 in
theorem sf_X11_leastOf_r31 {Dy : jH → Prop} {h : jH} {Q : Option Value → jH → Prop} {a1 : Int32} {a2 : Int32} {a3 : Int32} (y1 : 0 ≤ a1.toInt ∧ a1.toInt ≤ 5) (y2 : 0 ≤ a2.toInt ∧ a2.toInt ≤ 146399) (y3 : 0 ≤ a3.toInt ∧ a3.toInt ≤ 146399) (hD : jDk Dy) (J : jJ jSgX Dy h) (hQ : ∀ (v : Int32) hx9, jJ jSgX Dy hx9 → jSm fp_X11_leastOf_r31 h hx9 → Q (some (.int v)) hx9) : jC m_X11_leastOf 2 0 0 [.ref 31, .int a1, .int a2, .int a3] h Q := by
  refine jC.of rfl k_X11_leastOf rfl ?_
  have Sm := jSm_rf fp_X11_leastOf_r31 h
  show jX m_X11_leastOf 2 0 0 0 [(0, .ref 31), (1, .int a1), (2, .int a2), (3, .int a3)] [] _ 0 0 _
  refine x_iloadn (x := a1) rfl rfl ?_
  refine x_ifeq (tgt := 11) rfl rfl (ti_eq rfl jk_0 ⟨fun c1 => ?_, fun c1 => ?_⟩)
  ·
    exact jX.sub (jsb_c rfl (jsb_c rfl (jsb_c rfl (jsb_c rfl jsb_n)))) (ct_X11_leastOf_r31_11 hD hQ  a1 a2 a3 h (jr_of rfl (by omega)) (jr_of rfl (by omega)) (jr_of rfl (by omega)) J Sm)
  ·
    refine x_iloadn (x := a1) rfl rfl ?_
    refine x_iconst (v := 2) rfl ki_2 ?_
    refine x_iceq (tgt := 11) rfl rfl (ti_eq rfl jk_2 ⟨fun c2 => ?_, fun c2 => ?_⟩)
    ·
      exact jX.sub (jsb_c rfl (jsb_c rfl (jsb_c rfl (jsb_c rfl jsb_n)))) (ct_X11_leastOf_r31_11 hD hQ  a1 a2 a3 h (jr_of rfl (by omega)) (jr_of rfl (by omega)) (jr_of rfl (by omega)) J Sm)
    ·
      refine x_iconst (v := 0) rfl ki_0 ?_
      refine x_iret rfl rfl ?_
      exact hQ _ _ J Sm
def fp_X11_linesWithin_r31 : jFp := []
set_option maxRecDepth 100000 in
set_option maxHeartbeats 4000000 in
theorem ct_X11_linesWithin_r31_63 {Dy : jH → Prop} {h0 : jH} {Q : Option Value → jH → Prop} {R6 : Int} (hD : jDk Dy) (hQ : ∀ (v : Int32) hx9, jJ jSgX Dy hx9 → jSm fp_X11_linesWithin_r31 h0 hx9 → Q (some (.int v)) hx9) (k6 : ∀ (l1 : Int32) (l2 : Int32) (l3 : Int32) (l4 : Int32) (l5 : Int32) (l6 : Int32) (h : jH), 200 - l6.toInt < R6 → 0 ≤ l1.toInt ∧ l1.toInt ≤ 5 → 0 ≤ l2.toInt ∧ l2.toInt ≤ 146399 → (-146399) ≤ l3.toInt ∧ l3.toInt ≤ 999999 → 0 ≤ l4.toInt ∧ l4.toInt ≤ 146399 → 0 ≤ l6.toInt ∧ l6.toInt ≤ 200 → jJ jSgX Dy h → jSm fp_X11_linesWithin_r31 h0 h → jX m_X11_linesWithin 3 0 0 6 [(0, .ref 31), (1, .int l1), (2, .int l2), (3, .int l3), (4, .int l4), (5, .int l5), (6, .int l6)] [] h 0 0 Q) : ∀ (l1 : Int32) (l2 : Int32) (l3 : Int32) (l4 : Int32) (l5 : Int32) (l6 : Int32) (h : jH), 0 ≤ l1.toInt ∧ l1.toInt ≤ 5 → 0 ≤ l2.toInt ∧ l2.toInt ≤ 146399 → (-146399) ≤ l3.toInt ∧ l3.toInt ≤ 999999 → 0 ≤ l4.toInt ∧ l4.toInt ≤ 146399 → 0 ≤ l6.toInt ∧ l6.toInt ≤ 199 → 200 - l6.toInt ≤ R6 → jJ jSgX Dy h → jSm fp_X11_linesWithin_r31 h0 h → jX m_X11_linesWithin 3 0 0 63 [(0, .ref 31), (1, .int l1), (2, .int l2), (3, .int l3), (4, .int l4), (5, .int l5), (6, .int l6)] [] h 0 0 Q := by
  intro l1 l2 l3 l4 l5 l6 h y0 y1 y2 y3 y4  m6 J Sm
  have el5 := jfull l5
  refine z_iinc (x := l6) (lsx9 := fun v1 => [(6, .int v1), (0, .ref 31), (1, .int l1), (2, .int l2), (3, .int l3), (4, .int l4), (5, .int l5)]) rfl rfl rfl jko_1 (by omega) rfl (fun _ => rfl) (fun v1 ev1 => ?_)
  refine x_goto (tgt := 6) rfl rfl ?_
  exact jX.sub (jsb_c rfl (jsb_c rfl (jsb_c rfl (jsb_c rfl (jsb_c rfl (jsb_c rfl (jsb_c rfl jsb_n))))))) (k6 l1 l2 l3 l4 l5 v1 h (by omega) (jr_of rfl (by omega)) (jr_of rfl (by omega)) (jr_of rfl (by omega)) (jr_of rfl (by omega)) (jr_of rfl (by omega)) J Sm)
set_option maxRecDepth 100000 in
set_option maxHeartbeats 4000000 in
theorem ct_X11_linesWithin_r31_6 {Dy : jH → Prop} {h0 : jH} {Q : Option Value → jH → Prop} (hD : jDk Dy) (hQ : ∀ (v : Int32) hx9, jJ jSgX Dy hx9 → jSm fp_X11_linesWithin_r31 h0 hx9 → Q (some (.int v)) hx9) : ∀ r : Nat, ∀ (l1 : Int32) (l2 : Int32) (l3 : Int32) (l4 : Int32) (l5 : Int32) (l6 : Int32) (h : jH), 200 - l6.toInt < (r : Int) → 0 ≤ l1.toInt ∧ l1.toInt ≤ 5 → 0 ≤ l2.toInt ∧ l2.toInt ≤ 146399 → (-146399) ≤ l3.toInt ∧ l3.toInt ≤ 999999 → 0 ≤ l4.toInt ∧ l4.toInt ≤ 146399 → 0 ≤ l6.toInt ∧ l6.toInt ≤ 200 → jJ jSgX Dy h → jSm fp_X11_linesWithin_r31 h0 h → jX m_X11_linesWithin 3 0 0 6 [(0, .ref 31), (1, .int l1), (2, .int l2), (3, .int l3), (4, .int l4), (5, .int l5), (6, .int l6)] [] h 0 0 Q := by
  intro r
  induction r with
  | zero =>
    intro l1 l2 l3 l4 l5 l6 h hm y0 y1 y2 y3 y4   J Sm
    exfalso
    have el5 := jfull l5
    omega
  | succ r ih =>
    intro l1 l2 l3 l4 l5 l6 h hm y0 y1 y2 y3 y4   J Sm
    have el5 := jfull l5
    refine x_iload (x := l6) rfl rfl ?_
    refine x_aloadn (x := 31) rfl rfl ?_
    refine z_getR (N := 13) (b := 32) 11 0 rfl f_11_10 rfl J rfl 3968 ⟨rfl, rfl⟩ rfl ?_
    refine z_getR (N := 20) (b := 33) 1 0 rfl f_11_126 rfl J rfl 4096 ⟨rfl, rfl⟩ rfl ?_
    refine z_getI (N := 4) 8 3 rfl f_11_142 rfl J rfl sg_33_3_4_1_0_1 (fun v1 qv1 ev1 => ?_)
    refine x_icge (tgt := 69) rfl rfl (ti_ge rfl rfl ⟨fun c2 => ?_, fun c2 => ?_⟩)
    ·
      refine x_iload (x := l5) rfl rfl ?_
      refine x_iret rfl rfl ?_
      exact hQ _ _ J Sm
    ·
      refine x_aloadn (x := 31) rfl rfl ?_
      refine z_getR (N := 13) (b := 32) 11 0 rfl f_11_10 rfl J rfl 3968 ⟨rfl, rfl⟩ rfl ?_
      refine z_getR (N := 20) (b := 33) 1 0 rfl f_11_126 rfl J rfl 4096 ⟨rfl, rfl⟩ rfl ?_
      refine x_iload (x := l6) rfl rfl ?_
      refine x_iconst (v := 1) rfl ki_1 ?_
      refine x_inv (N := m_X8_at) (As := [.int l6, .int 1]) (b := 33) (st := []) (dx9 := 1) (mc := 0) (ms := 0) (host := "") 8 rfl t_X8_at ⟨Or.inl q_11_171, i_X8_at.1, i_X8_at.2⟩ ⟨by decide, rfl⟩ (congrArg Prod.fst (J.1.1 33 (8, 4) rfl)) rfl (by decide) rfl rfl ⟨by decide, by decide⟩ (sf_X8_at_r33_c1  hD J  (fun v4 h ev4 J S3 => ?_))
      have Sm := jSm_tr rfl Sm S3
      show jX m_X11_linesWithin 3 0 0 34 [(0, .ref 31), (1, .int l1), (2, .int l2), (3, .int l3), (4, .int l4), (5, .int l5), (6, .int l6)] [.int v4] _ 0 0 _
      refine x_istore (lsx9 := [(7, .int v4), (0, .ref 31), (1, .int l1), (2, .int l2), (3, .int l3), (4, .int l4), (5, .int l5), (6, .int l6)]) rfl rfl rfl ?_
      refine x_iload (x := v4) rfl rfl ?_
      refine x_iloadn (x := l2) rfl rfl ?_
      refine x_iclt (tgt := 63) rfl rfl (ti_lt rfl rfl ⟨fun c5 => ?_, fun c5 => ?_⟩)
      ·
        exact jX.sub (jsb_c rfl (jsb_c rfl (jsb_c rfl (jsb_c rfl (jsb_c rfl (jsb_c rfl (jsb_c rfl jsb_n))))))) (ct_X11_linesWithin_r31_63 hD hQ ih l1 l2 l3 l4 l5 l6 h (jr_of rfl (by omega)) (jr_of rfl (by omega)) (jr_of rfl (by omega)) (jr_of rfl (by omega)) (jr_of rfl (by omega)) (by omega) J Sm)
      ·
        refine x_iload (x := v4) rfl rfl ?_
        refine x_iloadn (x := l3) rfl rfl ?_
        refine x_icgt (tgt := 63) rfl rfl (ti_gt rfl rfl ⟨fun c6 => ?_, fun c6 => ?_⟩)
        ·
          exact jX.sub (jsb_c rfl (jsb_c rfl (jsb_c rfl (jsb_c rfl (jsb_c rfl (jsb_c rfl (jsb_c rfl jsb_n))))))) (ct_X11_linesWithin_r31_63 hD hQ ih l1 l2 l3 l4 l5 l6 h (jr_of rfl (by omega)) (jr_of rfl (by omega)) (jr_of rfl (by omega)) (jr_of rfl (by omega)) (jr_of rfl (by omega)) (by omega) J Sm)
        ·
          refine x_aloadn (x := 31) rfl rfl ?_
          refine x_iload (x := l6) rfl rfl ?_
          refine x_iloadn (x := l1) rfl rfl ?_
          refine x_iload (x := l4) rfl rfl ?_
          refine x_inv (N := m_X11_isLineOf) (As := [.int l6, .int l1, .int l4]) (b := 31) (st := []) (dx9 := 2) (mc := 0) (ms := 0) (host := "") 11 rfl t_X11_isLineOf ⟨Or.inl q_11_543, i_X11_isLineOf.1, i_X11_isLineOf.2⟩ ⟨by decide, rfl⟩ (congrArg Prod.fst (J.1.1 31 (11, 13) rfl)) rfl (by decide) rfl rfl ⟨by decide, by decide⟩ (jC.of rfl k_X11_isLineOf rfl ?_)
          show jX m_X11_isLineOf 2 0 0 0 [(0, .ref 31), (1, .int l6), (2, .int l1), (3, .int l4)] [] _ 0 0 _
          refine x_aloadn (x := 31) rfl rfl ?_
          refine z_getR (N := 13) (b := 32) 11 0 rfl f_11_10 rfl J rfl 3968 ⟨rfl, rfl⟩ rfl ?_
          refine z_getR (N := 20) (b := 33) 1 0 rfl f_11_126 rfl J rfl 4096 ⟨rfl, rfl⟩ rfl ?_
          refine x_iloadn (x := l6) rfl rfl ?_
          refine x_iloadn (x := l4) rfl rfl ?_
          refine x_inv (N := m_X8_isKnown) (As := [.int l6, .int l4]) (b := 33) (st := []) (dx9 := 1) (mc := 0) (ms := 0) (host := "") 8 rfl t_X8_isKnown ⟨Or.inl q_11_440, i_X8_isKnown.1, i_X8_isKnown.2⟩ ⟨by decide, rfl⟩ (congrArg Prod.fst (J.1.1 33 (8, 4) rfl)) rfl (by decide) rfl rfl ⟨by decide, by decide⟩ (sf_X8_isKnown_r33 (jr_of rfl (by omega)) hD J  (fun v8 h ev8 J S7 => ?_))
          have Sm := jSm_tr rfl Sm S7
          show jX m_X11_isLineOf 2 0 0 12 [(0, .ref 31), (1, .int l6), (2, .int l1), (3, .int l4)] [.int v8] _ 0 0 _
          refine x_ifeq (tgt := 35) rfl rfl (ti_eq rfl jk_0 ⟨fun c9 => ?_, fun c9 => ?_⟩)
          ·
            refine x_iconst (v := 0) rfl ki_0 ?_
            refine x_zret rfl rfl (by decide) ?_
            show jX m_X11_linesWithin 3 0 0 57 [(7, .int v4), (0, .ref 31), (1, .int l1), (2, .int l2), (3, .int l3), (4, .int l4), (5, .int l5), (6, .int l6)] [.int 0] _ 0 0 _
            refine x_ifeq (tgt := 63) rfl rfl (ti_eq jk_0 jk_0 (br_t (by omega) ?_))
            exact jX.sub (jsb_c rfl (jsb_c rfl (jsb_c rfl (jsb_c rfl (jsb_c rfl (jsb_c rfl (jsb_c rfl jsb_n))))))) (ct_X11_linesWithin_r31_63 hD hQ ih l1 l2 l3 l4 l5 l6 h (jr_of rfl (by omega)) (jr_of rfl (by omega)) (jr_of rfl (by omega)) (jr_of rfl (by omega)) (jr_of rfl (by omega)) (by omega) J Sm)
          ·
            refine x_aloadn (x := 31) rfl rfl ?_
            refine z_getR (N := 13) (b := 32) 11 0 rfl f_11_10 rfl J rfl 3968 ⟨rfl, rfl⟩ rfl ?_
            refine z_getR (N := 20) (b := 33) 1 0 rfl f_11_126 rfl J rfl 4096 ⟨rfl, rfl⟩ rfl ?_
            refine x_iloadn (x := l6) rfl rfl ?_
            refine x_iconst (v := 2) rfl ki_2 ?_
            refine x_inv (N := m_X8_at) (As := [.int l6, .int 2]) (b := 33) (st := []) (dx9 := 1) (mc := 0) (ms := 0) (host := "") 8 rfl t_X8_at ⟨Or.inl q_11_171, i_X8_at.1, i_X8_at.2⟩ ⟨by decide, rfl⟩ (congrArg Prod.fst (J.1.1 33 (8, 4) rfl)) rfl (by decide) rfl rfl ⟨by decide, by decide⟩ (sf_X8_at_r33_c2  hD J  (fun v11 h ev11 J S10 => ?_))
            have Sm := jSm_tr rfl Sm S10
            show jX m_X11_isLineOf 2 0 0 27 [(0, .ref 31), (1, .int l6), (2, .int l1), (3, .int l4)] [.int v11] _ 0 0 _
            refine x_iloadn (x := l1) rfl rfl ?_
            refine x_icne (tgt := 35) rfl rfl (ti_ne rfl rfl ⟨fun c12 => ?_, fun c12 => ?_⟩)
            ·
              refine x_iconst (v := 0) rfl ki_0 ?_
              refine x_zret rfl rfl (by decide) ?_
              show jX m_X11_linesWithin 3 0 0 57 [(7, .int v4), (0, .ref 31), (1, .int l1), (2, .int l2), (3, .int l3), (4, .int l4), (5, .int l5), (6, .int l6)] [.int 0] _ 0 0 _
              refine x_ifeq (tgt := 63) rfl rfl (ti_eq jk_0 jk_0 (br_t (by omega) ?_))
              exact jX.sub (jsb_c rfl (jsb_c rfl (jsb_c rfl (jsb_c rfl (jsb_c rfl (jsb_c rfl (jsb_c rfl jsb_n))))))) (ct_X11_linesWithin_r31_63 hD hQ ih l1 l2 l3 l4 l5 l6 h (jr_of rfl (by omega)) (jr_of rfl (by omega)) (jr_of rfl (by omega)) (jr_of rfl (by omega)) (jr_of rfl (by omega)) (by omega) J Sm)
            ·
              refine x_iconst (v := 1) rfl ki_1 ?_
              refine x_goto (tgt := 36) rfl rfl ?_
              refine x_zret rfl rfl (by decide) ?_
              show jX m_X11_linesWithin 3 0 0 57 [(7, .int v4), (0, .ref 31), (1, .int l1), (2, .int l2), (3, .int l3), (4, .int l4), (5, .int l5), (6, .int l6)] [.int 1] _ 0 0 _
              refine x_ifeq (tgt := 63) rfl rfl (ti_eq jk_1 jk_0 (br_f (by omega) ?_))
              refine z_iinc0 (x := l5) (lsx9 := fun v13 => [(5, .int v13), (7, .int v4), (0, .ref 31), (1, .int l1), (2, .int l2), (3, .int l3), (4, .int l4), (6, .int l6)]) rfl rfl rfl (fun _ => rfl) (fun v13 => ?_)
              have ev13 := jfull v13
              exact jX.sub (jsb_c rfl (jsb_c rfl (jsb_c rfl (jsb_c rfl (jsb_c rfl (jsb_c rfl (jsb_c rfl jsb_n))))))) (ct_X11_linesWithin_r31_63 hD hQ ih l1 l2 l3 l4 v13 l6 h (jr_of rfl (by omega)) (jr_of rfl (by omega)) (jr_of rfl (by omega)) (jr_of rfl (by omega)) (jr_of rfl (by omega)) (by omega) J Sm)
set_option maxRecDepth 100000 in
set_option maxHeartbeats 4000000 in
theorem sf_X11_linesWithin_r31 {Dy : jH → Prop} {h : jH} {Q : Option Value → jH → Prop} {a1 : Int32} {a2 : Int32} {a3 : Int32} {a4 : Int32} (y1 : 0 ≤ a1.toInt ∧ a1.toInt ≤ 5) (y2 : 0 ≤ a2.toInt ∧ a2.toInt ≤ 146399) (y3 : (-146399) ≤ a3.toInt ∧ a3.toInt ≤ 999999) (y4 : 0 ≤ a4.toInt ∧ a4.toInt ≤ 146399) (hD : jDk Dy) (J : jJ jSgX Dy h) (hQ : ∀ (v : Int32) hx9, jJ jSgX Dy hx9 → jSm fp_X11_linesWithin_r31 h hx9 → Q (some (.int v)) hx9) : jC m_X11_linesWithin 3 0 0 [.ref 31, .int a1, .int a2, .int a3, .int a4] h Q := by
  refine jC.of rfl k_X11_linesWithin rfl ?_
  have Sm := jSm_rf fp_X11_linesWithin_r31 h
  show jX m_X11_linesWithin 3 0 0 0 [(0, .ref 31), (1, .int a1), (2, .int a2), (3, .int a3), (4, .int a4)] [] _ 0 0 _
  refine x_iconst (v := 0) rfl ki_0 ?_
  refine x_istore (lsx9 := [(5, .int 0), (0, .ref 31), (1, .int a1), (2, .int a2), (3, .int a3), (4, .int a4)]) rfl rfl rfl ?_
  refine x_iconst (v := 0) rfl ki_0 ?_
  refine x_istore (lsx9 := [(6, .int 0), (5, .int 0), (0, .ref 31), (1, .int a1), (2, .int a2), (3, .int a3), (4, .int a4)]) rfl rfl rfl ?_
  exact jX.sub (jsb_c rfl (jsb_c rfl (jsb_c rfl (jsb_c rfl (jsb_c rfl (jsb_c rfl (jsb_c rfl jsb_n))))))) (ct_X11_linesWithin_r31_6 hD hQ  201 a1 a2 a3 a4 0 0 h (by have := jk_0; omega) (jr_of rfl (by omega)) (jr_of rfl (by omega)) (jr_of rfl (by omega)) (jr_of rfl (by omega)) (jr_of jk_0 (by omega)) J Sm)
def fp_X11_mostOf_r31 : jFp := []
set_option maxRecDepth 100000 in
set_option maxHeartbeats 4000000 in
theorem ct_X11_mostOf_r31_81 {Dy : jH → Prop} {h0 : jH} {Q : Option Value → jH → Prop} {R6 : Int} (hD : jDk Dy) (hQ : ∀ (v : Int32) hx9, 0 ≤ v.toInt ∧ v.toInt ≤ 2147483647 → jJ jSgX Dy hx9 → jSm fp_X11_mostOf_r31 h0 hx9 → Q (some (.int v)) hx9) (k6 : ∀ (l1 : Int32) (l2 : Int32) (l3 : Int32) (l4 : Int32) (l5 : Int32) (h : jH), 200 - l5.toInt < R6 → 0 ≤ l1.toInt ∧ l1.toInt ≤ 5 → (-146399) ≤ l2.toInt ∧ l2.toInt ≤ 146399 → 0 ≤ l3.toInt ∧ l3.toInt ≤ 146399 → 0 ≤ l4.toInt ∧ l4.toInt ≤ 2147483647 → 0 ≤ l5.toInt ∧ l5.toInt ≤ 200 → jJ jSgX Dy h → jSm fp_X11_mostOf_r31 h0 h → jX m_X11_mostOf 4 0 0 6 [(0, .ref 31), (1, .int l1), (2, .int l2), (3, .int l3), (4, .int l4), (5, .int l5)] [] h 0 0 Q) : ∀ (l1 : Int32) (l2 : Int32) (l3 : Int32) (l4 : Int32) (l5 : Int32) (h : jH), 0 ≤ l1.toInt ∧ l1.toInt ≤ 5 → (-146399) ≤ l2.toInt ∧ l2.toInt ≤ 146399 → 0 ≤ l3.toInt ∧ l3.toInt ≤ 146399 → 0 ≤ l4.toInt ∧ l4.toInt ≤ 2147483647 → 0 ≤ l5.toInt ∧ l5.toInt ≤ 199 → 200 - l5.toInt ≤ R6 → jJ jSgX Dy h → jSm fp_X11_mostOf_r31 h0 h → jX m_X11_mostOf 4 0 0 81 [(0, .ref 31), (1, .int l1), (2, .int l2), (3, .int l3), (4, .int l4), (5, .int l5)] [] h 0 0 Q := by
  intro l1 l2 l3 l4 l5 h y0 y1 y2 y3 y4  m6 J Sm
  refine z_iinc (x := l5) (lsx9 := fun v1 => [(5, .int v1), (0, .ref 31), (1, .int l1), (2, .int l2), (3, .int l3), (4, .int l4)]) rfl rfl rfl jko_1 (by omega) rfl (fun _ => rfl) (fun v1 ev1 => ?_)
  refine x_goto (tgt := 6) rfl rfl ?_
  exact jX.sub (jsb_c rfl (jsb_c rfl (jsb_c rfl (jsb_c rfl (jsb_c rfl (jsb_c rfl jsb_n)))))) (k6 l1 l2 l3 l4 v1 h (by omega) (jr_of rfl (by omega)) (jr_of rfl (by omega)) (jr_of rfl (by omega)) (jr_of rfl (by omega)) (jr_of rfl (by omega)) J Sm)
set_option maxRecDepth 100000 in
set_option maxHeartbeats 4000000 in
theorem ct_X11_mostOf_r31_6 {Dy : jH → Prop} {h0 : jH} {Q : Option Value → jH → Prop} (hD : jDk Dy) (hQ : ∀ (v : Int32) hx9, 0 ≤ v.toInt ∧ v.toInt ≤ 2147483647 → jJ jSgX Dy hx9 → jSm fp_X11_mostOf_r31 h0 hx9 → Q (some (.int v)) hx9) : ∀ r : Nat, ∀ (l1 : Int32) (l2 : Int32) (l3 : Int32) (l4 : Int32) (l5 : Int32) (h : jH), 200 - l5.toInt < (r : Int) → 0 ≤ l1.toInt ∧ l1.toInt ≤ 5 → (-146399) ≤ l2.toInt ∧ l2.toInt ≤ 146399 → 0 ≤ l3.toInt ∧ l3.toInt ≤ 146399 → 0 ≤ l4.toInt ∧ l4.toInt ≤ 2147483647 → 0 ≤ l5.toInt ∧ l5.toInt ≤ 200 → jJ jSgX Dy h → jSm fp_X11_mostOf_r31 h0 h → jX m_X11_mostOf 4 0 0 6 [(0, .ref 31), (1, .int l1), (2, .int l2), (3, .int l3), (4, .int l4), (5, .int l5)] [] h 0 0 Q := by
  intro r
  induction r with
  | zero =>
    intro l1 l2 l3 l4 l5 h hm y0 y1 y2 y3 y4   J Sm
    exfalso
    omega
  | succ r ih =>
    intro l1 l2 l3 l4 l5 h hm y0 y1 y2 y3 y4   J Sm
    refine x_iload (x := l5) rfl rfl ?_
    refine x_aloadn (x := 31) rfl rfl ?_
    refine z_getR (N := 13) (b := 32) 11 0 rfl f_11_10 rfl J rfl 3968 ⟨rfl, rfl⟩ rfl ?_
    refine z_getR (N := 20) (b := 33) 1 0 rfl f_11_126 rfl J rfl 4096 ⟨rfl, rfl⟩ rfl ?_
    refine z_getI (N := 4) 8 3 rfl f_11_142 rfl J rfl sg_33_3_4_1_0_1 (fun v1 qv1 ev1 => ?_)
    refine x_icge (tgt := 87) rfl rfl (ti_ge rfl rfl ⟨fun c2 => ?_, fun c2 => ?_⟩)
    ·
      refine x_iload (x := l4) rfl rfl ?_
      refine x_iret rfl rfl ?_
      exact hQ _ _ (jr_of rfl (by omega)) J Sm
    ·
      refine x_aloadn (x := 31) rfl rfl ?_
      refine x_iload (x := l5) rfl rfl ?_
      refine x_iloadn (x := l1) rfl rfl ?_
      refine x_iloadn (x := l3) rfl rfl ?_
      refine x_inv (N := m_X11_isLineOf) (As := [.int l5, .int l1, .int l3]) (b := 31) (st := []) (dx9 := 3) (mc := 0) (ms := 0) (host := "") 11 rfl t_X11_isLineOf ⟨Or.inl q_11_543, i_X11_isLineOf.1, i_X11_isLineOf.2⟩ ⟨by decide, rfl⟩ (congrArg Prod.fst (J.1.1 31 (11, 13) rfl)) rfl (by decide) rfl rfl ⟨by decide, by decide⟩ (jC.of rfl k_X11_isLineOf rfl ?_)
      show jX m_X11_isLineOf 3 0 0 0 [(0, .ref 31), (1, .int l5), (2, .int l1), (3, .int l3)] [] _ 0 0 _
      refine x_aloadn (x := 31) rfl rfl ?_
      refine z_getR (N := 13) (b := 32) 11 0 rfl f_11_10 rfl J rfl 3968 ⟨rfl, rfl⟩ rfl ?_
      refine z_getR (N := 20) (b := 33) 1 0 rfl f_11_126 rfl J rfl 4096 ⟨rfl, rfl⟩ rfl ?_
      refine x_iloadn (x := l5) rfl rfl ?_
      refine x_iloadn (x := l3) rfl rfl ?_
      refine x_inv (N := m_X8_isKnown) (As := [.int l5, .int l3]) (b := 33) (st := []) (dx9 := 1) (mc := 0) (ms := 0) (host := "") 8 rfl t_X8_isKnown ⟨Or.inl q_11_440, i_X8_isKnown.1, i_X8_isKnown.2⟩ ⟨by decide, rfl⟩ (congrArg Prod.fst (J.1.1 33 (8, 4) rfl)) rfl (by decide) rfl rfl ⟨by decide, by decide⟩ (sf_X8_isKnown_r33 (jr_of rfl (by omega)) hD J  (fun v4 h ev4 J S3 => ?_))
      have Sm := jSm_tr rfl Sm S3
      show jX m_X11_isLineOf 3 0 0 12 [(0, .ref 31), (1, .int l5), (2, .int l1), (3, .int l3)] [.int v4] _ 0 0 _
      refine x_ifeq (tgt := 35) rfl rfl (ti_eq rfl jk_0 ⟨fun c5 => ?_, fun c5 => ?_⟩)
      ·
        refine x_iconst (v := 0) rfl ki_0 ?_
        refine x_zret rfl rfl (by decide) ?_
        show jX m_X11_mostOf 4 0 0 29 [(0, .ref 31), (1, .int l1), (2, .int l2), (3, .int l3), (4, .int l4), (5, .int l5)] [.int 0] _ 0 0 _
        refine x_ifeq (tgt := 81) rfl rfl (ti_eq jk_0 jk_0 (br_t (by omega) ?_))
        exact jX.sub (jsb_c rfl (jsb_c rfl (jsb_c rfl (jsb_c rfl (jsb_c rfl (jsb_c rfl jsb_n)))))) (ct_X11_mostOf_r31_81 hD hQ ih l1 l2 l3 l4 l5 h (jr_of rfl (by omega)) (jr_of rfl (by omega)) (jr_of rfl (by omega)) (jr_of rfl (by omega)) (jr_of rfl (by omega)) (by omega) J Sm)
      ·
        refine x_aloadn (x := 31) rfl rfl ?_
        refine z_getR (N := 13) (b := 32) 11 0 rfl f_11_10 rfl J rfl 3968 ⟨rfl, rfl⟩ rfl ?_
        refine z_getR (N := 20) (b := 33) 1 0 rfl f_11_126 rfl J rfl 4096 ⟨rfl, rfl⟩ rfl ?_
        refine x_iloadn (x := l5) rfl rfl ?_
        refine x_iconst (v := 2) rfl ki_2 ?_
        refine x_inv (N := m_X8_at) (As := [.int l5, .int 2]) (b := 33) (st := []) (dx9 := 1) (mc := 0) (ms := 0) (host := "") 8 rfl t_X8_at ⟨Or.inl q_11_171, i_X8_at.1, i_X8_at.2⟩ ⟨by decide, rfl⟩ (congrArg Prod.fst (J.1.1 33 (8, 4) rfl)) rfl (by decide) rfl rfl ⟨by decide, by decide⟩ (sf_X8_at_r33_c2  hD J  (fun v7 h ev7 J S6 => ?_))
        have Sm := jSm_tr rfl Sm S6
        show jX m_X11_isLineOf 3 0 0 27 [(0, .ref 31), (1, .int l5), (2, .int l1), (3, .int l3)] [.int v7] _ 0 0 _
        refine x_iloadn (x := l1) rfl rfl ?_
        refine x_icne (tgt := 35) rfl rfl (ti_ne rfl rfl ⟨fun c8 => ?_, fun c8 => ?_⟩)
        ·
          refine x_iconst (v := 0) rfl ki_0 ?_
          refine x_zret rfl rfl (by decide) ?_
          show jX m_X11_mostOf 4 0 0 29 [(0, .ref 31), (1, .int l1), (2, .int l2), (3, .int l3), (4, .int l4), (5, .int l5)] [.int 0] _ 0 0 _
          refine x_ifeq (tgt := 81) rfl rfl (ti_eq jk_0 jk_0 (br_t (by omega) ?_))
          exact jX.sub (jsb_c rfl (jsb_c rfl (jsb_c rfl (jsb_c rfl (jsb_c rfl (jsb_c rfl jsb_n)))))) (ct_X11_mostOf_r31_81 hD hQ ih l1 l2 l3 l4 l5 h (jr_of rfl (by omega)) (jr_of rfl (by omega)) (jr_of rfl (by omega)) (jr_of rfl (by omega)) (jr_of rfl (by omega)) (by omega) J Sm)
        ·
          refine x_iconst (v := 1) rfl ki_1 ?_
          refine x_goto (tgt := 36) rfl rfl ?_
          refine x_zret rfl rfl (by decide) ?_
          show jX m_X11_mostOf 4 0 0 29 [(0, .ref 31), (1, .int l1), (2, .int l2), (3, .int l3), (4, .int l4), (5, .int l5)] [.int 1] _ 0 0 _
          refine x_ifeq (tgt := 81) rfl rfl (ti_eq jk_1 jk_0 (br_f (by omega) ?_))
          refine x_aloadn (x := 31) rfl rfl ?_
          refine z_getR (N := 13) (b := 32) 11 0 rfl f_11_10 rfl J rfl 3968 ⟨rfl, rfl⟩ rfl ?_
          refine z_getR (N := 20) (b := 33) 1 0 rfl f_11_126 rfl J rfl 4096 ⟨rfl, rfl⟩ rfl ?_
          refine x_iload (x := l5) rfl rfl ?_
          refine x_iconst (v := 1) rfl ki_1 ?_
          refine x_inv (N := m_X8_at) (As := [.int l5, .int 1]) (b := 33) (st := []) (dx9 := 1) (mc := 0) (ms := 0) (host := "") 8 rfl t_X8_at ⟨Or.inl q_11_171, i_X8_at.1, i_X8_at.2⟩ ⟨by decide, rfl⟩ (congrArg Prod.fst (J.1.1 33 (8, 4) rfl)) rfl (by decide) rfl rfl ⟨by decide, by decide⟩ (sf_X8_at_r33_c1  hD J  (fun v10 h ev10 J S9 => ?_))
          have Sm := jSm_tr rfl Sm S9
          show jX m_X11_mostOf 4 0 0 45 [(0, .ref 31), (1, .int l1), (2, .int l2), (3, .int l3), (4, .int l4), (5, .int l5)] [.int v10] _ 0 0 _
          refine x_istore (lsx9 := [(6, .int v10), (0, .ref 31), (1, .int l1), (2, .int l2), (3, .int l3), (4, .int l4), (5, .int l5)]) rfl rfl rfl ?_
          refine x_aloadn (x := 31) rfl rfl ?_
          refine x_iloadn (x := l1) rfl rfl ?_
          refine x_iload (x := v10) rfl rfl ?_
          refine x_iload (x := v10) rfl rfl ?_
          refine x_iloadn (x := l2) rfl rfl ?_
          refine z_iadd rfl rfl rfl (by omega) (fun v11 ev11 => ?_)
          refine x_iloadn (x := l3) rfl rfl ?_
          refine x_inv (N := m_X11_isTornWithin) (As := [.int l1, .int v10, .int v11, .int l3]) (b := 31) (st := []) (dx9 := 3) (mc := 0) (ms := 0) (host := "") 11 rfl t_X11_isTornWithin ⟨Or.inl q_11_546, i_X11_isTornWithin.1, i_X11_isTornWithin.2⟩ ⟨by decide, rfl⟩ (congrArg Prod.fst (J.1.1 31 (11, 13) rfl)) rfl (by decide) rfl rfl ⟨by decide, by decide⟩ (sf_X11_isTornWithin_r31 (jr_of rfl (by omega)) (jr_of rfl (by omega)) (jr_of rfl (by omega)) (jr_of rfl (by omega)) hD J  (fun v13 h ev13 J S12 => ?_))
          have Sm := jSm_tr rfl Sm S12
          show jX m_X11_mostOf 4 0 0 59 [(6, .int v10), (0, .ref 31), (1, .int l1), (2, .int l2), (3, .int l3), (4, .int l4), (5, .int l5)] [.int v13] _ 0 0 _
          refine x_ifne (tgt := 81) rfl rfl (ti_ne rfl jk_0 ⟨fun c14 => ?_, fun c14 => ?_⟩)
          ·
            exact jX.sub (jsb_c rfl (jsb_c rfl (jsb_c rfl (jsb_c rfl (jsb_c rfl (jsb_c rfl jsb_n)))))) (ct_X11_mostOf_r31_81 hD hQ ih l1 l2 l3 l4 l5 h (jr_of rfl (by omega)) (jr_of rfl (by omega)) (jr_of rfl (by omega)) (jr_of rfl (by omega)) (jr_of rfl (by omega)) (by omega) J Sm)
          ·
            refine x_iload (x := l4) rfl rfl ?_
            refine x_aloadn (x := 31) rfl rfl ?_
            refine x_iloadn (x := l1) rfl rfl ?_
            refine x_iload (x := v10) rfl rfl ?_
            refine x_iload (x := v10) rfl rfl ?_
            refine x_iloadn (x := l2) rfl rfl ?_
            refine z_iadd rfl rfl rfl (by omega) (fun v15 ev15 => ?_)
            refine x_iloadn (x := l3) rfl rfl ?_
            refine x_inv (N := m_X11_linesWithin) (As := [.int l1, .int v10, .int v15, .int l3]) (b := 31) (st := [.int l4]) (dx9 := 3) (mc := 0) (ms := 0) (host := "") 11 rfl t_X11_linesWithin ⟨Or.inl q_11_550, i_X11_linesWithin.1, i_X11_linesWithin.2⟩ ⟨by decide, rfl⟩ (congrArg Prod.fst (J.1.1 31 (11, 13) rfl)) rfl (by decide) rfl rfl ⟨by decide, by decide⟩ (sf_X11_linesWithin_r31 (jr_of rfl (by omega)) (jr_of rfl (by omega)) (jr_of rfl (by omega)) (jr_of rfl (by omega)) hD J  (fun v17 h J S16 => ?_))
            have ev17 := jfull v17
            have Sm := jSm_tr rfl Sm S16
            show jX m_X11_mostOf 4 0 0 76 [(6, .int v10), (0, .ref 31), (1, .int l1), (2, .int l2), (3, .int l3), (4, .int l4), (5, .int l5)] [.int v17, .int l4] _ 0 0 _
            refine z_mmax rfl q_11_193 (by decide) rfl rfl rfl (fun v18 ev18 => ?_)
            refine x_istore (lsx9 := [(4, .int v18), (6, .int v10), (0, .ref 31), (1, .int l1), (2, .int l2), (3, .int l3), (5, .int l5)]) rfl rfl rfl ?_
            exact jX.sub (jsb_c rfl (jsb_c rfl (jsb_c rfl (jsb_c rfl (jsb_c rfl (jsb_c rfl jsb_n)))))) (ct_X11_mostOf_r31_81 hD hQ ih l1 l2 l3 v18 l5 h (jr_of rfl (by omega)) (jr_of rfl (by omega)) (jr_of rfl (by omega)) (jr_of rfl (by omega)) (jr_of rfl (by omega)) (by omega) J Sm)
set_option maxRecDepth 100000 in
set_option maxHeartbeats 4000000 in
theorem sf_X11_mostOf_r31 {Dy : jH → Prop} {h : jH} {Q : Option Value → jH → Prop} {a1 : Int32} {a2 : Int32} {a3 : Int32} (y1 : 0 ≤ a1.toInt ∧ a1.toInt ≤ 5) (y2 : (-146399) ≤ a2.toInt ∧ a2.toInt ≤ 146399) (y3 : 0 ≤ a3.toInt ∧ a3.toInt ≤ 146399) (hD : jDk Dy) (J : jJ jSgX Dy h) (hQ : ∀ (v : Int32) hx9, 0 ≤ v.toInt ∧ v.toInt ≤ 2147483647 → jJ jSgX Dy hx9 → jSm fp_X11_mostOf_r31 h hx9 → Q (some (.int v)) hx9) : jC m_X11_mostOf 4 0 0 [.ref 31, .int a1, .int a2, .int a3] h Q := by
  refine jC.of rfl k_X11_mostOf rfl ?_
  have Sm := jSm_rf fp_X11_mostOf_r31 h
  show jX m_X11_mostOf 4 0 0 0 [(0, .ref 31), (1, .int a1), (2, .int a2), (3, .int a3)] [] _ 0 0 _
  refine x_iconst (v := 0) rfl ki_0 ?_
  refine x_istore (lsx9 := [(4, .int 0), (0, .ref 31), (1, .int a1), (2, .int a2), (3, .int a3)]) rfl rfl rfl ?_
  refine x_iconst (v := 0) rfl ki_0 ?_
  refine x_istore (lsx9 := [(5, .int 0), (4, .int 0), (0, .ref 31), (1, .int a1), (2, .int a2), (3, .int a3)]) rfl rfl rfl ?_
  exact jX.sub (jsb_c rfl (jsb_c rfl (jsb_c rfl (jsb_c rfl (jsb_c rfl (jsb_c rfl jsb_n)))))) (ct_X11_mostOf_r31_6 hD hQ  201 a1 a2 a3 0 0 h (by have := jk_0; omega) (jr_of rfl (by omega)) (jr_of rfl (by omega)) (jr_of rfl (by omega)) (jr_of jk_0 (by omega)) (jr_of jk_0 (by omega)) J Sm)
def fp_X11_fill_r31 : jFp := [(78, 13, 14), (82, 0, 600), (83, 0, 600), (84, 0, 200), (85, 0, 4), (86, 0, 3)]
set_option maxRecDepth 100000 in
set_option maxHeartbeats 4000000 in
theorem ct_X11_fill_r31_45 {Dy : jH → Prop} {h0 : jH} {Q : Option Value → jH → Prop} (hD : jDk Dy) (hQ : ∀ (v : Int32) hx9, jJ jSgX Dy hx9 → jSm fp_X11_fill_r31 h0 hx9 → Q (some (.int v)) hx9) : ∀ (h : jH), jJ jSgX Dy h → jSm fp_X11_fill_r31 h0 h → jX m_X11_fill 7 0 0 45 [] [] h 0 0 Q := by
  intro  h    J Sm
  refine x_iconst (v := (-1)) rfl ki_m1 ?_
  refine x_iret rfl rfl ?_
  exact hQ _ _ J Sm
set_option maxRecDepth 100000 in
set_option maxHeartbeats 4000000 in
theorem ct_X11_fill_r31_106 {Dy : jH → Prop} {h0 : jH} {Q : Option Value → jH → Prop} (hD : jDk Dy) (hQ : ∀ (v : Int32) hx9, jJ jSgX Dy hx9 → jSm fp_X11_fill_r31 h0 hx9 → Q (some (.int v)) hx9) : ∀ (s0 : Int32) (h : jH), jJ jSgX Dy h → jSm fp_X11_fill_r31 h0 h → jX m_X11_fill 7 0 0 106 [] [.int s0] h 0 0 Q := by
  intro s0 h    J Sm
  have es0 := jfull s0
  refine x_iret rfl rfl ?_
  exact hQ _ _ J Sm
set_option maxRecDepth 100000 in
set_option maxHeartbeats 4000000 in
theorem sf_X11_fill_r31 {Dy : jH → Prop} {h : jH} {Q : Option Value → jH → Prop} {a1 : Int32} {a2 : Int32} {a3 : Int32} {a4 : Int32} {a5 : Int32} (hD : jDk Dy) (J : jJ jSgX Dy h) (hQ : ∀ (v : Int32) hx9, jJ jSgX Dy hx9 → jSm fp_X11_fill_r31 h hx9 → Q (some (.int v)) hx9) : jC m_X11_fill 7 0 0 [.ref 31, .int a1, .int a2, .int a3, .int a4, .int a5] h Q := by
  refine jC.of rfl k_X11_fill rfl ?_
  have Sm := jSm_rf fp_X11_fill_r31 h
  have ea1 := jfull a1
  have ea2 := jfull a2
  have ea3 := jfull a3
  have ea4 := jfull a4
  have ea5 := jfull a5
  show jX m_X11_fill 7 0 0 0 [(0, .ref 31), (1, .int a1), (2, .int a2), (3, .int a3), (4, .int a4), (5, .int a5)] [] _ 0 0 _
  refine x_iloadn (x := a1) rfl rfl ?_
  refine x_inst (N := m_X11_isBook) (As := [.int a1]) (st := []) (dx9 := 1) (mc := 0) (ms := 0) (host := "") rfl t_X11_isBook ⟨Or.inl q_11_112, s_X11_isBook⟩ rfl (by decide) rfl rfl ⟨by decide, by decide⟩ (zc_X11_isBook rfl (fun v1 ev1 => ?_))
  show jX m_X11_fill 7 0 0 4 [(0, .ref 31), (1, .int a1), (2, .int a2), (3, .int a3), (4, .int a4), (5, .int a5)] [.int v1] _ 0 0 _
  refine x_ifeq (tgt := 45) rfl rfl (ti_eq rfl jk_0 ⟨fun c2 => ?_, fun c2 => ?_⟩)
  ·
    exact jX.sub jsb_n (ct_X11_fill_r31_45 hD hQ  h J Sm)
  ·
    refine x_iloadn (x := a2) rfl rfl ?_
    refine x_inst (N := m_X11_isDay) (As := [.int a2]) (st := []) (dx9 := 1) (mc := 0) (ms := 0) (host := "") rfl t_X11_isDay ⟨Or.inl q_11_115, s_X11_isDay⟩ rfl (by decide) rfl rfl ⟨by decide, by decide⟩ (zc_X11_isDay rfl (fun v3 ev3 => ?_))
    show jX m_X11_fill 7 0 0 11 [(0, .ref 31), (1, .int a1), (2, .int a2), (3, .int a3), (4, .int a4), (5, .int a5)] [.int v3] _ 0 0 _
    refine x_ifeq (tgt := 45) rfl rfl (ti_eq rfl jk_0 ⟨fun c4 => ?_, fun c4 => ?_⟩)
    ·
      exact jX.sub jsb_n (ct_X11_fill_r31_45 hD hQ  h J Sm)
    ·
      refine x_iloadn (x := a3) rfl rfl ?_
      refine x_inst (N := m_X11_isDay) (As := [.int a3]) (st := []) (dx9 := 1) (mc := 0) (ms := 0) (host := "") rfl t_X11_isDay ⟨Or.inl q_11_115, s_X11_isDay⟩ rfl (by decide) rfl rfl ⟨by decide, by decide⟩ (zc_X11_isDay rfl (fun v5 ev5 => ?_))
      show jX m_X11_fill 7 0 0 18 [(0, .ref 31), (1, .int a1), (2, .int a2), (3, .int a3), (4, .int a4), (5, .int a5)] [.int v5] _ 0 0 _
      refine x_ifeq (tgt := 45) rfl rfl (ti_eq rfl jk_0 ⟨fun c6 => ?_, fun c6 => ?_⟩)
      ·
        exact jX.sub jsb_n (ct_X11_fill_r31_45 hD hQ  h J Sm)
      ·
        refine x_iloadn (x := a3) rfl rfl ?_
        refine x_iloadn (x := a2) rfl rfl ?_
        refine x_iclt (tgt := 45) rfl rfl (ti_lt rfl rfl ⟨fun c7 => ?_, fun c7 => ?_⟩)
        ·
          exact jX.sub jsb_n (ct_X11_fill_r31_45 hD hQ  h J Sm)
        ·
          refine x_iload (x := a4) rfl rfl ?_
          refine x_inst (N := m_X11_isDay) (As := [.int a4]) (st := []) (dx9 := 1) (mc := 0) (ms := 0) (host := "") rfl t_X11_isDay ⟨Or.inl q_11_115, s_X11_isDay⟩ rfl (by decide) rfl rfl ⟨by decide, by decide⟩ (zc_X11_isDay rfl (fun v8 ev8 => ?_))
          show jX m_X11_fill 7 0 0 31 [(0, .ref 31), (1, .int a1), (2, .int a2), (3, .int a3), (4, .int a4), (5, .int a5)] [.int v8] _ 0 0 _
          refine x_ifeq (tgt := 45) rfl rfl (ti_eq rfl jk_0 ⟨fun c9 => ?_, fun c9 => ?_⟩)
          ·
            exact jX.sub jsb_n (ct_X11_fill_r31_45 hD hQ  h J Sm)
          ·
            refine x_iload (x := a5) rfl rfl ?_
            refine x_iflt (tgt := 45) rfl rfl (ti_lt rfl jk_0 ⟨fun c10 => ?_, fun c10 => ?_⟩)
            ·
              exact jX.sub jsb_n (ct_X11_fill_r31_45 hD hQ  h J Sm)
            ·
              refine x_iload (x := a5) rfl rfl ?_
              refine x_iconst (v := 2) rfl ki_2 ?_
              refine x_icle (tgt := 47) rfl rfl (ti_le rfl jk_2 ⟨fun c11 => ?_, fun c11 => ?_⟩)
              ·
                refine x_iload (x := a5) rfl rfl ?_
                refine x_iconst (v := 2) rfl ki_2 ?_
                refine x_icne (tgt := 63) rfl rfl (ti_ne rfl jk_2 ⟨fun c12 => ?_, fun c12 => ?_⟩)
                ·
                  refine x_aloadn (x := 31) rfl rfl ?_
                  refine z_getR (N := 13) (b := 78) 11 4 rfl f_11_41 rfl J rfl 3972 ⟨rfl, rfl⟩ rfl ?_
                  refine x_iload (x := a4) rfl rfl ?_
                  refine x_inv (N := m_X7_asKnown) (As := [.int a4]) (b := 78) (st := []) (dx9 := 6) (mc := 0) (ms := 0) (host := "") 7 rfl t_X7_asKnown ⟨Or.inl q_11_240, i_X7_asKnown.1, i_X7_asKnown.2⟩ ⟨by decide, rfl⟩ (congrArg Prod.fst (J.1.1 78 (7, 16) rfl)) rfl (by decide) rfl rfl ⟨by decide, by decide⟩ (sf_X7_asKnown_r78 (jr_of rfl (by omega)) hD J  (fun h J S13 => ?_))
                  have Sm := jSm_tr rfl Sm S13
                  show jX m_X11_fill 7 0 0 72 [(0, .ref 31), (1, .int a1), (2, .int a2), (3, .int a3), (4, .int a4), (5, .int a5)] [] _ 0 0 _
                  refine x_aloadn (x := 31) rfl rfl ?_
                  refine x_iloadn (x := a1) rfl rfl ?_
                  refine x_iloadn (x := a2) rfl rfl ?_
                  refine x_iloadn (x := a3) rfl rfl ?_
                  refine x_inv (N := m_X11_leastOf) (As := [.int a1, .int a2, .int a3]) (b := 31) (st := []) (dx9 := 2) (mc := 0) (ms := 0) (host := "") 11 rfl t_X11_leastOf ⟨Or.inl q_11_319, i_X11_leastOf.1, i_X11_leastOf.2⟩ ⟨by decide, rfl⟩ (congrArg Prod.fst (J.1.1 31 (11, 13) rfl)) rfl (by decide) rfl rfl ⟨by decide, by decide⟩ (sf_X11_leastOf_r31 (jr_of rfl (by omega)) (jr_of rfl (by omega)) (jr_of rfl (by omega)) hD J  (fun v15 h J S14 => ?_))
                  have ev15 := jfull v15
                  have Sm := jSm_tr rfl Sm S14
                  show jX m_X11_fill 7 0 0 79 [(0, .ref 31), (1, .int a1), (2, .int a2), (3, .int a3), (4, .int a4), (5, .int a5)] [.int v15] _ 0 0 _
                  refine x_istore (lsx9 := [(6, .int v15), (0, .ref 31), (1, .int a1), (2, .int a2), (3, .int a3), (4, .int a4), (5, .int a5)]) rfl rfl rfl ?_
                  refine x_iload (x := a5) rfl rfl ?_
                  refine x_ifne (tgt := 91) rfl rfl (ti_ne rfl jk_0 ⟨fun c16 => ?_, fun c16 => ?_⟩)
                  ·
                    refine x_iload (x := v15) rfl rfl ?_
                    refine x_aloadn (x := 31) rfl rfl ?_
                    refine x_iloadn (x := a1) rfl rfl ?_
                    refine x_iloadn (x := a3) rfl rfl ?_
                    refine x_iloadn (x := a2) rfl rfl ?_
                    refine z_isub rfl rfl rfl (by omega) (fun v17 ev17 => ?_)
                    refine x_iload (x := a4) rfl rfl ?_
                    refine x_inv (N := m_X11_mostOf) (As := [.int a1, .int v17, .int a4]) (b := 31) (st := [.int v15]) (dx9 := 4) (mc := 0) (ms := 0) (host := "") 11 rfl t_X11_mostOf ⟨Or.inl q_11_322, i_X11_mostOf.1, i_X11_mostOf.2⟩ ⟨by decide, rfl⟩ (congrArg Prod.fst (J.1.1 31 (11, 13) rfl)) rfl (by decide) rfl rfl ⟨by decide, by decide⟩ (sf_X11_mostOf_r31 (jr_of rfl (by omega)) (jr_of rfl (by omega)) (jr_of rfl (by omega)) hD J  (fun v19 h ev19 J S18 => ?_))
                    have Sm := jSm_tr rfl Sm S18
                    show jX m_X11_fill 7 0 0 103 [(6, .int v15), (0, .ref 31), (1, .int a1), (2, .int a2), (3, .int a3), (4, .int a4), (5, .int a5)] [.int v19, .int v15] _ 0 0 _
                    refine z_mmax rfl q_11_193 (by decide) rfl rfl rfl (fun v20 ev20 => ?_)
                    exact jX.sub jsb_n (ct_X11_fill_r31_106 hD hQ  v20 h J Sm)
                  ·
                    refine x_iload (x := v15) rfl rfl ?_
                    refine x_goto (tgt := 106) rfl rfl ?_
                    exact jX.sub jsb_n (ct_X11_fill_r31_106 hD hQ  v15 h J Sm)
                ·
                  refine x_aloadn (x := 31) rfl rfl ?_
                  refine x_iloadn (x := a1) rfl rfl ?_
                  refine x_iloadn (x := a2) rfl rfl ?_
                  refine x_iloadn (x := a3) rfl rfl ?_
                  refine x_iload (x := a4) rfl rfl ?_
                  refine x_inv (N := m_X11_guessedOf) (As := [.int a1, .int a2, .int a3, .int a4]) (b := 31) (st := []) (dx9 := 4) (mc := 0) (ms := 0) (host := "") 11 rfl t_X11_guessedOf ⟨Or.inl q_11_315, i_X11_guessedOf.1, i_X11_guessedOf.2⟩ ⟨by decide, rfl⟩ (congrArg Prod.fst (J.1.1 31 (11, 13) rfl)) rfl (by decide) rfl rfl ⟨by decide, by decide⟩ (sf_X11_guessedOf_r31 (jr_of rfl (by omega)) (jr_of rfl (by omega)) (jr_of rfl (by omega)) (jr_of rfl (by omega)) hD J  (fun v22 h J S21 => ?_))
                  have ev22 := jfull v22
                  have Sm := jSm_tr rfl Sm S21
                  show jX m_X11_fill 7 0 0 62 [(0, .ref 31), (1, .int a1), (2, .int a2), (3, .int a3), (4, .int a4), (5, .int a5)] [.int v22] _ 0 0 _
                  refine x_iret rfl rfl ?_
                  exact hQ _ _ J Sm
              ·
                exact jX.sub jsb_n (ct_X11_fill_r31_45 hD hQ  h J Sm)
def fp_X8_at_r45_c2 : jFp := []
set_option maxRecDepth 100000 in
set_option maxHeartbeats 4000000 in
theorem ct_X8_at_r45_c2_24 {Dy : jH → Prop} {h0 : jH} {Q : Option Value → jH → Prop} (hD : jDk Dy) (hQ : ∀ (v : Int32) hx9, 0 ≤ v.toInt ∧ v.toInt ≤ 199 → jJ jSgX Dy hx9 → jSm fp_X8_at_r45_c2 h0 hx9 → Q (some (.int v)) hx9) : ∀ (h : jH), jJ jSgX Dy h → jSm fp_X8_at_r45_c2 h0 h → jX m_X8_at 1 0 0 24 [] [] h 0 0 Q := by
  intro  h    J Sm
  refine x_iconst (v := 0) rfl ki_0 ?_
  refine x_iret rfl rfl ?_
  exact hQ _ _ (jr_of jk_0 (by omega)) J Sm
set_option maxRecDepth 100000 in
set_option maxHeartbeats 4000000 in
theorem sf_X8_at_r45_c2 {Dy : jH → Prop} {h : jH} {Q : Option Value → jH → Prop} {a1 : Int32} (y1 : 0 ≤ a1.toInt ∧ a1.toInt ≤ 39) (hD : jDk Dy) (J : jJ jSgX Dy h) (hQ : ∀ (v : Int32) hx9, 0 ≤ v.toInt ∧ v.toInt ≤ 199 → jJ jSgX Dy hx9 → jSm fp_X8_at_r45_c2 h hx9 → Q (some (.int v)) hx9) : jC m_X8_at 1 0 0 [.ref 45, .int a1, .int 2] h Q := by
  refine jC.of rfl k_X8_at rfl ?_
  have Sm := jSm_rf fp_X8_at_r45_c2 h
  show jX m_X8_at 1 0 0 0 [(0, .ref 45), (1, .int a1), (2, .int 2)] [] _ 0 0 _
  refine x_iloadn (x := a1) rfl rfl ?_
  refine x_iflt (tgt := 24) rfl rfl (ti_lt rfl jk_0 (br_f (by omega) ?_))
  refine x_iloadn (x := a1) rfl rfl ?_
  refine x_aloadn (x := 45) rfl rfl ?_
  refine z_getI (N := 4) 8 3 rfl f_8_7 rfl J rfl sg_45_3_4_1_0_1 (fun v1 qv1 ev1 => ?_)
  refine x_icge (tgt := 24) rfl rfl (ti_ge rfl rfl ⟨fun c2 => ?_, fun c2 => ?_⟩)
  ·
    exact jX.sub jsb_n (ct_X8_at_r45_c2_24 hD hQ  h J Sm)
  ·
    refine x_iloadn (x := 2) rfl rfl ?_
    refine x_iflt (tgt := 24) rfl rfl (ti_lt jk_2 jk_0 (br_f (by omega) ?_))
    refine x_iloadn (x := 2) rfl rfl ?_
    refine x_aloadn (x := 45) rfl rfl ?_
    refine z_getC (N := 4) (v := 3) 8 0 rfl f_8_19 rfl J rfl sg_45_0_1_1_0_1 jk_3 ?_
    refine x_iclt (tgt := 26) rfl rfl (ti_lt jk_2 jk_3 (br_t (by omega) ?_))
    refine x_aloadn (x := 45) rfl rfl ?_
    refine z_getR (N := 4) (b := 46) 8 2 rfl f_8_25 rfl J rfl 5762 ⟨rfl, rfl⟩ rfl ?_
    refine x_iloadn (x := a1) rfl rfl ?_
    refine x_aloadn (x := 45) rfl rfl ?_
    refine z_getC (N := 4) (v := 3) 8 0 rfl f_8_19 rfl J rfl sg_45_0_1_1_0_1 jk_3 ?_
    refine z_imul rfl rfl jk_3 (by omega) (fun v3 ev3 => ?_)
    refine x_iloadn (x := 2) rfl rfl ?_
    refine z_iadd rfl rfl jk_2 (by omega) (fun v4 ev4 => ?_)
    refine z_iald (N := 120) rfl J rfl sg_46_0_120_3_2_3 rfl (by omega) (fun v5 qv5 ev5 => ?_)
    refine x_iret rfl rfl ?_
    exact hQ _ _ (jr_of rfl (by omega)) J Sm
def fp_X8_isKnown_r45 : jFp := []
set_option maxRecDepth 100000 in
set_option maxHeartbeats 4000000 in
theorem ct_X8_isKnown_r45_300032 {Dy : jH → Prop} {h0 : jH} {Q : Option Value → jH → Prop} (hD : jDk Dy) (hQ : ∀ (v : Int32) hx9, 0 ≤ v.toInt ∧ v.toInt ≤ 1 → jJ jSgX Dy hx9 → jSm fp_X8_isKnown_r45 h0 hx9 → Q (some (.int v)) hx9) : ∀ (h : jH), jJ jSgX Dy h → jSm fp_X8_isKnown_r45 h0 h → jX m_X8_isKnown 1 0 0 32 [] [.int 1] h 0 0 Q := by
  intro  h    J Sm
  refine x_zret rfl rfl (by decide) ?_
  exact hQ _ _ (jr_of jk_1 (by omega)) J Sm
set_option maxRecDepth 100000 in
set_option maxHeartbeats 4000000 in
theorem ct_X8_isKnown_r45_200032 {Dy : jH → Prop} {h0 : jH} {Q : Option Value → jH → Prop} (hD : jDk Dy) (hQ : ∀ (v : Int32) hx9, 0 ≤ v.toInt ∧ v.toInt ≤ 1 → jJ jSgX Dy hx9 → jSm fp_X8_isKnown_r45 h0 hx9 → Q (some (.int v)) hx9) : ∀ (h : jH), jJ jSgX Dy h → jSm fp_X8_isKnown_r45 h0 h → jX m_X8_isKnown 1 0 0 32 [] [.int 0] h 0 0 Q := by
  intro  h    J Sm
  refine x_zret rfl rfl (by decide) ?_
  exact hQ _ _ (jr_of jk_0 (by omega)) J Sm
set_option maxRecDepth 100000 in
set_option maxHeartbeats 4000000 in
theorem ct_X8_isKnown_r45_31 {Dy : jH → Prop} {h0 : jH} {Q : Option Value → jH → Prop} (hD : jDk Dy) (hQ : ∀ (v : Int32) hx9, 0 ≤ v.toInt ∧ v.toInt ≤ 1 → jJ jSgX Dy hx9 → jSm fp_X8_isKnown_r45 h0 hx9 → Q (some (.int v)) hx9) : ∀ (h : jH), jJ jSgX Dy h → jSm fp_X8_isKnown_r45 h0 h → jX m_X8_isKnown 1 0 0 31 [] [] h 0 0 Q := by
  intro  h    J Sm
  refine x_iconst (v := 0) rfl ki_0 ?_
  exact jX.sub jsb_n (ct_X8_isKnown_r45_200032 hD hQ  h J Sm)
set_option maxRecDepth 100000 in
set_option maxHeartbeats 4000000 in
theorem sf_X8_isKnown_r45 {Dy : jH → Prop} {h : jH} {Q : Option Value → jH → Prop} {a1 : Int32} {a2 : Int32} (y1 : 0 ≤ a1.toInt ∧ a1.toInt ≤ 39) (y2 : 0 ≤ a2.toInt ∧ a2.toInt ≤ 146399) (hD : jDk Dy) (J : jJ jSgX Dy h) (hQ : ∀ (v : Int32) hx9, 0 ≤ v.toInt ∧ v.toInt ≤ 1 → jJ jSgX Dy hx9 → jSm fp_X8_isKnown_r45 h hx9 → Q (some (.int v)) hx9) : jC m_X8_isKnown 1 0 0 [.ref 45, .int a1, .int a2] h Q := by
  refine jC.of rfl k_X8_isKnown rfl ?_
  have Sm := jSm_rf fp_X8_isKnown_r45 h
  show jX m_X8_isKnown 1 0 0 0 [(0, .ref 45), (1, .int a1), (2, .int a2)] [] _ 0 0 _
  refine x_iloadn (x := a1) rfl rfl ?_
  refine x_iflt (tgt := 31) rfl rfl (ti_lt rfl jk_0 (br_f (by omega) ?_))
  refine x_iloadn (x := a1) rfl rfl ?_
  refine x_aloadn (x := 45) rfl rfl ?_
  refine z_getI (N := 4) 8 3 rfl f_8_7 rfl J rfl sg_45_3_4_1_0_1 (fun v1 qv1 ev1 => ?_)
  refine x_icge (tgt := 31) rfl rfl (ti_ge rfl rfl ⟨fun c2 => ?_, fun c2 => ?_⟩)
  ·
    exact jX.sub jsb_n (ct_X8_isKnown_r45_31 hD hQ  h J Sm)
  ·
    refine x_aloadn (x := 45) rfl rfl ?_
    refine z_getR (N := 4) (b := 46) 8 2 rfl f_8_25 rfl J rfl 5762 ⟨rfl, rfl⟩ rfl ?_
    refine x_iloadn (x := a1) rfl rfl ?_
    refine x_aloadn (x := 45) rfl rfl ?_
    refine z_getC (N := 4) (v := 3) 8 0 rfl f_8_19 rfl J rfl sg_45_0_1_1_0_1 jk_3 ?_
    refine z_imul rfl rfl jk_3 (by omega) (fun v3 ev3 => ?_)
    refine z_iald (N := 120) rfl J rfl sg_46_0_120_3_0_1 rfl (by omega) (fun v4 qv4 ev4 => ?_)
    refine x_iloadn (x := a2) rfl rfl ?_
    refine x_icgt (tgt := 31) rfl rfl (ti_gt rfl rfl ⟨fun c5 => ?_, fun c5 => ?_⟩)
    ·
      exact jX.sub jsb_n (ct_X8_isKnown_r45_31 hD hQ  h J Sm)
    ·
      refine x_iconst (v := 1) rfl ki_1 ?_
      refine x_goto (tgt := 32) rfl rfl ?_
      exact jX.sub jsb_n (ct_X8_isKnown_r45_300032 hD hQ  h J Sm)
def fp_X11_firstAppeal_r31 : jFp := []
set_option maxRecDepth 100000 in
set_option maxHeartbeats 4000000 in
theorem ct_X11_firstAppeal_r31_49 {Dy : jH → Prop} {h0 : jH} {Q : Option Value → jH → Prop} {R2 : Int} (hD : jDk Dy) (hQ : ∀ (v : Int32) hx9, (-1) ≤ v.toInt ∧ v.toInt ≤ 39 → jJ jSgX Dy hx9 → jSm fp_X11_firstAppeal_r31 h0 hx9 → Q (some (.int v)) hx9) (k2 : ∀ (l1 : Int32) (l2 : Int32) (l3 : Int32) (h : jH), 40 - l3.toInt < R2 → 0 ≤ l2.toInt ∧ l2.toInt ≤ 146399 → 0 ≤ l3.toInt ∧ l3.toInt ≤ 40 → jJ jSgX Dy h → jSm fp_X11_firstAppeal_r31 h0 h → jX m_X11_firstAppeal 2 0 0 2 [(0, .ref 31), (1, .int l1), (2, .int l2), (3, .int l3)] [] h 0 0 Q) : ∀ (l1 : Int32) (l2 : Int32) (l3 : Int32) (h : jH), 0 ≤ l2.toInt ∧ l2.toInt ≤ 146399 → 0 ≤ l3.toInt ∧ l3.toInt ≤ 39 → 40 - l3.toInt ≤ R2 → jJ jSgX Dy h → jSm fp_X11_firstAppeal_r31 h0 h → jX m_X11_firstAppeal 2 0 0 49 [(0, .ref 31), (1, .int l1), (2, .int l2), (3, .int l3)] [] h 0 0 Q := by
  intro l1 l2 l3 h y0 y1  m2 J Sm
  have el1 := jfull l1
  refine z_iinc (x := l3) (lsx9 := fun v1 => [(3, .int v1), (0, .ref 31), (1, .int l1), (2, .int l2)]) rfl rfl rfl jko_1 (by omega) rfl (fun _ => rfl) (fun v1 ev1 => ?_)
  refine x_goto (tgt := 2) rfl rfl ?_
  exact jX.sub (jsb_c rfl (jsb_c rfl (jsb_c rfl (jsb_c rfl jsb_n)))) (k2 l1 l2 v1 h (by omega) (jr_of rfl (by omega)) (jr_of rfl (by omega)) J Sm)
set_option maxRecDepth 100000 in
set_option maxHeartbeats 4000000 in
theorem ct_X11_firstAppeal_r31_2 {Dy : jH → Prop} {h0 : jH} {Q : Option Value → jH → Prop} (hD : jDk Dy) (hQ : ∀ (v : Int32) hx9, (-1) ≤ v.toInt ∧ v.toInt ≤ 39 → jJ jSgX Dy hx9 → jSm fp_X11_firstAppeal_r31 h0 hx9 → Q (some (.int v)) hx9) : ∀ r : Nat, ∀ (l1 : Int32) (l2 : Int32) (l3 : Int32) (h : jH), 40 - l3.toInt < (r : Int) → 0 ≤ l2.toInt ∧ l2.toInt ≤ 146399 → 0 ≤ l3.toInt ∧ l3.toInt ≤ 40 → jJ jSgX Dy h → jSm fp_X11_firstAppeal_r31 h0 h → jX m_X11_firstAppeal 2 0 0 2 [(0, .ref 31), (1, .int l1), (2, .int l2), (3, .int l3)] [] h 0 0 Q := by
  intro r
  induction r with
  | zero =>
    intro l1 l2 l3 h hm y0 y1   J Sm
    exfalso
    have el1 := jfull l1
    omega
  | succ r ih =>
    intro l1 l2 l3 h hm y0 y1   J Sm
    have el1 := jfull l1
    refine x_iloadn (x := l3) rfl rfl ?_
    refine x_aloadn (x := 31) rfl rfl ?_
    refine z_getR (N := 13) (b := 32) 11 0 rfl f_11_10 rfl J rfl 3968 ⟨rfl, rfl⟩ rfl ?_
    refine z_getR (N := 20) (b := 45) 1 6 rfl f_11_402 rfl J rfl 4102 ⟨rfl, rfl⟩ rfl ?_
    refine z_getI (N := 4) 8 3 rfl f_11_142 rfl J rfl sg_45_3_4_1_0_1 (fun v1 qv1 ev1 => ?_)
    refine x_icge (tgt := 55) rfl rfl (ti_ge rfl rfl ⟨fun c2 => ?_, fun c2 => ?_⟩)
    ·
      refine x_iconst (v := (-1)) rfl ki_m1 ?_
      refine x_iret rfl rfl ?_
      exact hQ _ _ (jr_of jk_m1 (by omega)) J Sm
    ·
      refine x_aloadn (x := 31) rfl rfl ?_
      refine z_getR (N := 13) (b := 32) 11 0 rfl f_11_10 rfl J rfl 3968 ⟨rfl, rfl⟩ rfl ?_
      refine z_getR (N := 20) (b := 45) 1 6 rfl f_11_402 rfl J rfl 4102 ⟨rfl, rfl⟩ rfl ?_
      refine x_iloadn (x := l3) rfl rfl ?_
      refine x_iconst (v := 2) rfl ki_2 ?_
      refine x_inv (N := m_X8_at) (As := [.int l3, .int 2]) (b := 45) (st := []) (dx9 := 1) (mc := 0) (ms := 0) (host := "") 8 rfl t_X8_at ⟨Or.inl q_11_171, i_X8_at.1, i_X8_at.2⟩ ⟨by decide, rfl⟩ (congrArg Prod.fst (J.1.1 45 (8, 4) rfl)) rfl (by decide) rfl rfl ⟨by decide, by decide⟩ (sf_X8_at_r45_c2 (jr_of rfl (by omega)) hD J  (fun v4 h ev4 J S3 => ?_))
      have Sm := jSm_tr rfl Sm S3
      show jX m_X11_firstAppeal 2 0 0 28 [(0, .ref 31), (1, .int l1), (2, .int l2), (3, .int l3)] [.int v4] _ 0 0 _
      refine x_iloadn (x := l1) rfl rfl ?_
      refine x_icne (tgt := 49) rfl rfl (ti_ne rfl rfl ⟨fun c5 => ?_, fun c5 => ?_⟩)
      ·
        exact jX.sub (jsb_c rfl (jsb_c rfl (jsb_c rfl (jsb_c rfl jsb_n)))) (ct_X11_firstAppeal_r31_49 hD hQ ih l1 l2 l3 h (jr_of rfl (by omega)) (jr_of rfl (by omega)) (by omega) J Sm)
      ·
        refine x_aloadn (x := 31) rfl rfl ?_
        refine z_getR (N := 13) (b := 32) 11 0 rfl f_11_10 rfl J rfl 3968 ⟨rfl, rfl⟩ rfl ?_
        refine z_getR (N := 20) (b := 45) 1 6 rfl f_11_402 rfl J rfl 4102 ⟨rfl, rfl⟩ rfl ?_
        refine x_iloadn (x := l3) rfl rfl ?_
        refine x_iloadn (x := l2) rfl rfl ?_
        refine x_inv (N := m_X8_isKnown) (As := [.int l3, .int l2]) (b := 45) (st := []) (dx9 := 1) (mc := 0) (ms := 0) (host := "") 8 rfl t_X8_isKnown ⟨Or.inl q_11_440, i_X8_isKnown.1, i_X8_isKnown.2⟩ ⟨by decide, rfl⟩ (congrArg Prod.fst (J.1.1 45 (8, 4) rfl)) rfl (by decide) rfl rfl ⟨by decide, by decide⟩ (sf_X8_isKnown_r45 (jr_of rfl (by omega)) (jr_of rfl (by omega)) hD J  (fun v7 h ev7 J S6 => ?_))
        have Sm := jSm_tr rfl Sm S6
        show jX m_X11_firstAppeal 2 0 0 44 [(0, .ref 31), (1, .int l1), (2, .int l2), (3, .int l3)] [.int v7] _ 0 0 _
        refine x_ifeq (tgt := 49) rfl rfl (ti_eq rfl jk_0 ⟨fun c8 => ?_, fun c8 => ?_⟩)
        ·
          exact jX.sub (jsb_c rfl (jsb_c rfl (jsb_c rfl (jsb_c rfl jsb_n)))) (ct_X11_firstAppeal_r31_49 hD hQ ih l1 l2 l3 h (jr_of rfl (by omega)) (jr_of rfl (by omega)) (by omega) J Sm)
        ·
          refine x_iloadn (x := l3) rfl rfl ?_
          refine x_iret rfl rfl ?_
          exact hQ _ _ (jr_of rfl (by omega)) J Sm
set_option maxRecDepth 100000 in
set_option maxHeartbeats 4000000 in
theorem sf_X11_firstAppeal_r31 {Dy : jH → Prop} {h : jH} {Q : Option Value → jH → Prop} {a1 : Int32} {a2 : Int32} (y2 : 0 ≤ a2.toInt ∧ a2.toInt ≤ 146399) (hD : jDk Dy) (J : jJ jSgX Dy h) (hQ : ∀ (v : Int32) hx9, (-1) ≤ v.toInt ∧ v.toInt ≤ 39 → jJ jSgX Dy hx9 → jSm fp_X11_firstAppeal_r31 h hx9 → Q (some (.int v)) hx9) : jC m_X11_firstAppeal 2 0 0 [.ref 31, .int a1, .int a2] h Q := by
  refine jC.of rfl k_X11_firstAppeal rfl ?_
  have Sm := jSm_rf fp_X11_firstAppeal_r31 h
  have ea1 := jfull a1
  show jX m_X11_firstAppeal 2 0 0 0 [(0, .ref 31), (1, .int a1), (2, .int a2)] [] _ 0 0 _
  refine x_iconst (v := 0) rfl ki_0 ?_
  refine x_istoren (lsx9 := [(3, .int 0), (0, .ref 31), (1, .int a1), (2, .int a2)]) rfl rfl rfl ?_
  exact jX.sub (jsb_c rfl (jsb_c rfl (jsb_c rfl (jsb_c rfl jsb_n)))) (ct_X11_firstAppeal_r31_2 hD hQ  41 a1 a2 0 h (by have := jk_0; omega) (jr_of rfl (by omega)) (jr_of jk_0 (by omega)) J Sm)
def fp_X11_force_r31 : jFp := [(98, 10, 11), (98, 11, 12), (99, 0, 30), (100, 0, 30), (101, 0, 3)]
set_option maxRecDepth 100000 in
set_option maxHeartbeats 4000000 in
theorem ct_X11_force_r31_24 {Dy : jH → Prop} {h0 : jH} {Q : Option Value → jH → Prop} (hD : jDk Dy) (hQ : ∀ (v : Int32) hx9, (-1) ≤ v.toInt ∧ v.toInt ≤ 1 → jJ jSgX Dy hx9 → jSm fp_X11_force_r31 h0 hx9 → Q (some (.int v)) hx9) : ∀ (h : jH), jJ jSgX Dy h → jSm fp_X11_force_r31 h0 h → jX m_X11_force 4 0 0 24 [] [] h 0 0 Q := by
  intro  h    J Sm
  refine x_iconst (v := (-1)) rfl ki_m1 ?_
  refine x_iret rfl rfl ?_
  exact hQ _ _ (jr_of jk_m1 (by omega)) J Sm
set_option maxRecDepth 100000 in
set_option maxHeartbeats 4000000 in
theorem ct_X11_force_r31_200053 {Dy : jH → Prop} {h0 : jH} {Q : Option Value → jH → Prop} (hD : jDk Dy) (hQ : ∀ (v : Int32) hx9, (-1) ≤ v.toInt ∧ v.toInt ≤ 1 → jJ jSgX Dy hx9 → jSm fp_X11_force_r31 h0 hx9 → Q (some (.int v)) hx9) : ∀ (h : jH), jJ jSgX Dy h → jSm fp_X11_force_r31 h0 h → jX m_X11_force 4 0 0 53 [] [.int 0] h 0 0 Q := by
  intro  h    J Sm
  refine x_iret rfl rfl ?_
  exact hQ _ _ (jr_of jk_0 (by omega)) J Sm
set_option maxRecDepth 100000 in
set_option maxHeartbeats 4000000 in
theorem ct_X11_force_r31_300053 {Dy : jH → Prop} {h0 : jH} {Q : Option Value → jH → Prop} (hD : jDk Dy) (hQ : ∀ (v : Int32) hx9, (-1) ≤ v.toInt ∧ v.toInt ≤ 1 → jJ jSgX Dy hx9 → jSm fp_X11_force_r31 h0 hx9 → Q (some (.int v)) hx9) : ∀ (h : jH), jJ jSgX Dy h → jSm fp_X11_force_r31 h0 h → jX m_X11_force 4 0 0 53 [] [.int 1] h 0 0 Q := by
  intro  h    J Sm
  refine x_iret rfl rfl ?_
  exact hQ _ _ (jr_of jk_1 (by omega)) J Sm
set_option maxRecDepth 100000 in
set_option maxHeartbeats 4000000 in
theorem sf_X11_force_r31 {Dy : jH → Prop} {h : jH} {Q : Option Value → jH → Prop} {a1 : Int32} {a2 : Int32} {a3 : Int32} {a4 : Int32} (hD : jDk Dy) (J : jJ jSgX Dy h) (hQ : ∀ (v : Int32) hx9, (-1) ≤ v.toInt ∧ v.toInt ≤ 1 → jJ jSgX Dy hx9 → jSm fp_X11_force_r31 h hx9 → Q (some (.int v)) hx9) : jC m_X11_force 4 0 0 [.ref 31, .int a1, .int a2, .int a3, .int a4] h Q := by
  refine jC.of rfl k_X11_force rfl ?_
  have Sm := jSm_rf fp_X11_force_r31 h
  have ea1 := jfull a1
  have ea2 := jfull a2
  have ea3 := jfull a3
  have ea4 := jfull a4
  show jX m_X11_force 4 0 0 0 [(0, .ref 31), (1, .int a1), (2, .int a2), (3, .int a3), (4, .int a4)] [] _ 0 0 _
  refine x_aloadn (x := 31) rfl rfl ?_
  refine x_iloadn (x := a1) rfl rfl ?_
  refine x_iloadn (x := a2) rfl rfl ?_
  refine x_inv (N := m_X11_isClause) (As := [.int a1, .int a2]) (b := 31) (st := []) (dx9 := 3) (mc := 0) (ms := 0) (host := "") 11 rfl t_X11_isClause ⟨Or.inl q_11_336, i_X11_isClause.1, i_X11_isClause.2⟩ ⟨by decide, rfl⟩ (congrArg Prod.fst (J.1.1 31 (11, 13) rfl)) rfl (by decide) rfl rfl ⟨by decide, by decide⟩ (jC.of rfl k_X11_isClause rfl ?_)
  show jX m_X11_isClause 3 0 0 0 [(0, .ref 31), (1, .int a1), (2, .int a2)] [] _ 0 0 _
  refine x_iloadn (x := a1) rfl rfl ?_
  refine x_iflt (tgt := 27) rfl rfl (ti_lt rfl jk_0 ⟨fun c1 => ?_, fun c1 => ?_⟩)
  ·
    refine x_iconst (v := 0) rfl ki_0 ?_
    refine x_zret rfl rfl (by decide) ?_
    show jX m_X11_force 4 0 0 6 [(0, .ref 31), (1, .int a1), (2, .int a2), (3, .int a3), (4, .int a4)] [.int 0] _ 0 0 _
    refine x_ifeq (tgt := 24) rfl rfl (ti_eq jk_0 jk_0 (br_t (by omega) ?_))
    exact jX.sub jsb_n (ct_X11_force_r31_24 hD hQ  h J Sm)
  ·
    refine x_iloadn (x := a1) rfl rfl ?_
    refine x_aloadn (x := 31) rfl rfl ?_
    refine z_getR (N := 13) (b := 32) 11 0 rfl f_11_10 rfl J rfl 3968 ⟨rfl, rfl⟩ rfl ?_
    refine z_getI (N := 20) 1 18 rfl f_11_325 rfl J rfl sg_32_18_19_1_0_1 (fun v2 qv2 ev2 => ?_)
    refine x_icge (tgt := 27) rfl rfl (ti_ge rfl rfl ⟨fun c3 => ?_, fun c3 => ?_⟩)
    ·
      refine x_iconst (v := 0) rfl ki_0 ?_
      refine x_zret rfl rfl (by decide) ?_
      show jX m_X11_force 4 0 0 6 [(0, .ref 31), (1, .int a1), (2, .int a2), (3, .int a3), (4, .int a4)] [.int 0] _ 0 0 _
      refine x_ifeq (tgt := 24) rfl rfl (ti_eq jk_0 jk_0 (br_t (by omega) ?_))
      exact jX.sub jsb_n (ct_X11_force_r31_24 hD hQ  h J Sm)
    ·
      refine x_iloadn (x := a1) rfl rfl ?_
      refine x_aloadn (x := 31) rfl rfl ?_
      refine z_getR (N := 13) (b := 32) 11 0 rfl f_11_10 rfl J rfl 3968 ⟨rfl, rfl⟩ rfl ?_
      refine z_getR (N := 20) (b := 66) 1 17 rfl f_11_332 rfl J rfl 4113 ⟨rfl, rfl⟩ rfl ?_
      refine z_alen (N := 30) (v := 30) rfl J rfl rfl (by decide) ?_
      refine x_iclt (tgt := 29) rfl rfl (ti_lt rfl jk_30 (br_t (by omega) ?_))
      refine x_aloadn (x := 31) rfl rfl ?_
      refine z_getR (N := 13) (b := 32) 11 0 rfl f_11_10 rfl J rfl 3968 ⟨rfl, rfl⟩ rfl ?_
      refine z_getR (N := 20) (b := 66) 1 17 rfl f_11_332 rfl J rfl 4113 ⟨rfl, rfl⟩ rfl ?_
      refine x_iloadn (x := a1) rfl rfl ?_
      refine z_aaldT rfl hD J rfl rfl (by omega) ⟨?_, fun b4 Tb4 => ?_⟩
      ·
        refine x_astorenN (lsx9 := [(3, .null), (0, .ref 31), (1, .int a1), (2, .int a2)]) rfl rfl rfl ?_
        refine x_aloadnN rfl rfl ?_
        refine x_ifnullN (tgt := 59) rfl rfl ?_
        refine x_iconst (v := 0) rfl ki_0 ?_
        refine x_zret rfl rfl (by decide) ?_
        show jX m_X11_force 4 0 0 6 [(0, .ref 31), (1, .int a1), (2, .int a2), (3, .int a3), (4, .int a4)] [.int 0] _ 0 0 _
        refine x_ifeq (tgt := 24) rfl rfl (ti_eq jk_0 jk_0 (br_t (by omega) ?_))
        exact jX.sub jsb_n (ct_X11_force_r31_24 hD hQ  h J Sm)
      ·
        refine x_astoren (lsx9 := [(3, .ref b4), (0, .ref 31), (1, .int a1), (2, .int a2)]) rfl rfl rfl ?_
        refine x_aloadn (x := b4) rfl rfl ?_
        refine x_ifnull rfl ?_
        refine x_iloadn (x := a2) rfl rfl ?_
        refine x_iflt (tgt := 59) rfl rfl (ti_lt rfl jk_0 ⟨fun c5 => ?_, fun c5 => ?_⟩)
        ·
          refine x_iconst (v := 0) rfl ki_0 ?_
          refine x_zret rfl rfl (by decide) ?_
          show jX m_X11_force 4 0 0 6 [(0, .ref 31), (1, .int a1), (2, .int a2), (3, .int a3), (4, .int a4)] [.int 0] _ 0 0 _
          refine x_ifeq (tgt := 24) rfl rfl (ti_eq jk_0 jk_0 (br_t (by omega) ?_))
          exact jX.sub jsb_n (ct_X11_force_r31_24 hD hQ  h J Sm)
        ·
          refine x_iloadn (x := a2) rfl rfl ?_
          refine x_aloadn (x := b4) rfl rfl ?_
          refine z_getTc rfl f_11_532 Tb4 (fun v6 ev6 => ?_)
          refine x_icge (tgt := 59) rfl rfl (ti_ge rfl rfl ⟨fun c7 => ?_, fun c7 => ?_⟩)
          ·
            refine x_iconst (v := 0) rfl ki_0 ?_
            refine x_zret rfl rfl (by decide) ?_
            show jX m_X11_force 4 0 0 6 [(0, .ref 31), (1, .int a1), (2, .int a2), (3, .int a3), (4, .int a4)] [.int 0] _ 0 0 _
            refine x_ifeq (tgt := 24) rfl rfl (ti_eq jk_0 jk_0 (br_t (by omega) ?_))
            exact jX.sub jsb_n (ct_X11_force_r31_24 hD hQ  h J Sm)
          ·
            refine x_iconst (v := 1) rfl ki_1 ?_
            refine x_goto (tgt := 60) rfl rfl ?_
            refine x_zret rfl rfl (by decide) ?_
            show jX m_X11_force 4 0 0 6 [(0, .ref 31), (1, .int a1), (2, .int a2), (3, .int a3), (4, .int a4)] [.int 1] _ 0 0 _
            refine x_ifeq (tgt := 24) rfl rfl (ti_eq jk_1 jk_0 (br_f (by omega) ?_))
            refine x_iloadn (x := a3) rfl rfl ?_
            refine x_inst (N := m_X11_isDay) (As := [.int a3]) (st := []) (dx9 := 1) (mc := 0) (ms := 0) (host := "") rfl t_X11_isDay ⟨Or.inl q_11_115, s_X11_isDay⟩ rfl (by decide) rfl rfl ⟨by decide, by decide⟩ (zc_X11_isDay rfl (fun v8 ev8 => ?_))
            show jX m_X11_force 4 0 0 13 [(0, .ref 31), (1, .int a1), (2, .int a2), (3, .int a3), (4, .int a4)] [.int v8] _ 0 0 _
            refine x_ifeq (tgt := 24) rfl rfl (ti_eq rfl jk_0 ⟨fun c9 => ?_, fun c9 => ?_⟩)
            ·
              exact jX.sub jsb_n (ct_X11_force_r31_24 hD hQ  h J Sm)
            ·
              refine x_iload (x := a4) rfl rfl ?_
              refine x_inst (N := m_X11_isDay) (As := [.int a4]) (st := []) (dx9 := 1) (mc := 0) (ms := 0) (host := "") rfl t_X11_isDay ⟨Or.inl q_11_115, s_X11_isDay⟩ rfl (by decide) rfl rfl ⟨by decide, by decide⟩ (zc_X11_isDay rfl (fun v10 ev10 => ?_))
              show jX m_X11_force 4 0 0 21 [(0, .ref 31), (1, .int a1), (2, .int a2), (3, .int a3), (4, .int a4)] [.int v10] _ 0 0 _
              refine x_ifne (tgt := 26) rfl rfl (ti_ne rfl jk_0 ⟨fun c11 => ?_, fun c11 => ?_⟩)
              ·
                refine x_aloadn (x := 31) rfl rfl ?_
                refine z_getR (N := 13) (b := 98) 11 7 rfl f_11_66 rfl J rfl 3975 ⟨rfl, rfl⟩ rfl ?_
                refine x_iloadn (x := a3) rfl rfl ?_
                refine x_iload (x := a4) rfl rfl ?_
                refine x_inv (N := m_X0_readLaws) (As := [.int a3, .int a4]) (b := 98) (st := []) (dx9 := 3) (mc := 0) (ms := 0) (host := "") 0 rfl t_X0_readLaws ⟨Or.inl q_11_339, i_X0_readLaws.1, i_X0_readLaws.2⟩ ⟨by decide, rfl⟩ (congrArg Prod.fst (J.1.1 98 (0, 16) rfl)) rfl (by decide) rfl rfl ⟨by decide, by decide⟩ (sf_X0_readLaws_r98 (jr_of rfl (by omega)) (jr_of rfl (by omega)) hD J  (fun h J S12 => ?_))
                have Sm := jSm_tr rfl Sm S12
                show jX m_X11_force 4 0 0 36 [(0, .ref 31), (1, .int a1), (2, .int a2), (3, .int a3), (4, .int a4)] [] _ 0 0 _
                refine x_aloadn (x := 31) rfl rfl ?_
                refine z_getR (N := 13) (b := 98) 11 7 rfl f_11_66 rfl J rfl 3975 ⟨rfl, rfl⟩ rfl ?_
                refine x_iloadn (x := a1) rfl rfl ?_
                refine x_iloadn (x := a2) rfl rfl ?_
                refine x_inv (N := m_X0_isInForce) (As := [.int a1, .int a2]) (b := 98) (st := []) (dx9 := 3) (mc := 0) (ms := 0) (host := "") 0 rfl t_X0_isInForce ⟨Or.inl q_11_342, i_X0_isInForce.1, i_X0_isInForce.2⟩ ⟨by decide, rfl⟩ (congrArg Prod.fst (J.1.1 98 (0, 16) rfl)) rfl (by decide) rfl rfl ⟨by decide, by decide⟩ (jC.of rfl k_X0_isInForce rfl ?_)
                show jX m_X0_isInForce 3 0 0 0 [(0, .ref 98), (1, .int a1), (2, .int a2)] [] _ 0 0 _
                refine x_iloadn (x := a1) rfl rfl ?_
                refine x_iflt (tgt := 39) rfl rfl (ti_lt rfl jk_0 (br_f (by omega) ?_))
                refine x_iloadn (x := a1) rfl rfl ?_
                refine x_bipush (v := 30) rfl kb_30 ?_
                refine x_icge (tgt := 39) rfl rfl (ti_ge rfl jk_30 (br_f (by omega) ?_))
                refine x_iloadn (x := a1) rfl rfl ?_
                refine x_aloadn (x := 98) rfl rfl ?_
                refine z_getR (N := 16) (b := 32) 0 0 rfl f_0_57 rfl J rfl 12544 ⟨rfl, rfl⟩ rfl ?_
                refine z_getM (N := 20) (v := v2) 1 18 rfl f_0_72 rfl J rfl (jmc S12 rfl qv2) ?_
                refine x_icge (tgt := 39) rfl rfl (ti_ge rfl rfl ⟨fun c13 => ?_, fun c13 => ?_⟩)
                ·
                  refine x_iconst (v := 0) rfl ki_0 ?_
                  refine x_zret rfl rfl (by decide) ?_
                  show jX m_X11_force 4 0 0 45 [(0, .ref 31), (1, .int a1), (2, .int a2), (3, .int a3), (4, .int a4)] [.int 0] _ 0 0 _
                  refine x_ifeq (tgt := 52) rfl rfl (ti_eq jk_0 jk_0 (br_t (by omega) ?_))
                  refine x_iconst (v := 0) rfl ki_0 ?_
                  exact jX.sub jsb_n (ct_X11_force_r31_200053 hD hQ  h J Sm)
                ·
                  refine x_aloadn (x := 98) rfl rfl ?_
                  refine z_getR (N := 16) (b := 99) 0 2 rfl f_0_9 rfl J rfl 12546 ⟨rfl, rfl⟩ rfl ?_
                  refine x_iloadn (x := a1) rfl rfl ?_
                  refine z_iald0 (N := 30) rfl J rfl rfl (by omega) (fun v14 qv14 => ?_)
                  have ev14 := jfull v14
                  refine x_iloadn (x := a2) rfl rfl ?_
                  refine z_ishr0 rfl (fun v15 => ?_)
                  have ev15 := jfull v15
                  refine x_iconst (v := 1) rfl ki_1 ?_
                  refine z_iand rfl jk_1 (by decide) (fun v16 ev16 => ?_)
                  refine x_iconst (v := 1) rfl ki_1 ?_
                  refine x_icne (tgt := 39) rfl rfl (ti_ne rfl jk_1 ⟨fun c17 => ?_, fun c17 => ?_⟩)
                  ·
                    refine x_iconst (v := 0) rfl ki_0 ?_
                    refine x_zret rfl rfl (by decide) ?_
                    show jX m_X11_force 4 0 0 45 [(0, .ref 31), (1, .int a1), (2, .int a2), (3, .int a3), (4, .int a4)] [.int 0] _ 0 0 _
                    refine x_ifeq (tgt := 52) rfl rfl (ti_eq jk_0 jk_0 (br_t (by omega) ?_))
                    refine x_iconst (v := 0) rfl ki_0 ?_
                    exact jX.sub jsb_n (ct_X11_force_r31_200053 hD hQ  h J Sm)
                  ·
                    refine x_iconst (v := 1) rfl ki_1 ?_
                    refine x_goto (tgt := 40) rfl rfl ?_
                    refine x_zret rfl rfl (by decide) ?_
                    show jX m_X11_force 4 0 0 45 [(0, .ref 31), (1, .int a1), (2, .int a2), (3, .int a3), (4, .int a4)] [.int 1] _ 0 0 _
                    refine x_ifeq (tgt := 52) rfl rfl (ti_eq jk_1 jk_0 (br_f (by omega) ?_))
                    refine x_iconst (v := 1) rfl ki_1 ?_
                    refine x_goto (tgt := 53) rfl rfl ?_
                    exact jX.sub jsb_n (ct_X11_force_r31_300053 hD hQ  h J Sm)
              ·
                exact jX.sub jsb_n (ct_X11_force_r31_24 hD hQ  h J Sm)
def fp_X11_sumYear_r31_r124 : jFp := [(124, 0, 4)]
set_option maxRecDepth 100000 in
set_option maxHeartbeats 4000000 in
theorem ct_X11_sumYear_r31_r124_90 {Dy : jH → Prop} {h0 : jH} {Q : Option Value → jH → Prop} {R25 : Int} (hD : jDk Dy) (hQ : ∀ hx9, jJ jSgX Dy hx9 → jSm fp_X11_sumYear_r31_r124 h0 hx9 → Q none hx9) (k25 : ∀ (l1 : Int32) (l3 : Int32) (l4 : Int64) (l6 : Int64) (l8 : Int64) (l10 : Int32) (h : jH), 200 - l10.toInt < R25 → 0 ≤ l1.toInt ∧ l1.toInt ≤ 399 → 0 ≤ l3.toInt ∧ l3.toInt ≤ 0 → 0 ≤ l10.toInt ∧ l10.toInt ≤ 200 → jJ jSgX Dy h → jSm fp_X11_sumYear_r31_r124 h0 h → jX m_X11_sumYear 3 0 0 25 [(0, .ref 31), (1, .int l1), (2, .ref 124), (3, .int l3), (4, .long l4), (6, .long l6), (8, .long l8), (10, .int l10)] [] h 0 0 Q) : ∀ (l1 : Int32) (l3 : Int32) (l4 : Int64) (l6 : Int64) (l8 : Int64) (l10 : Int32) (h : jH), 0 ≤ l1.toInt ∧ l1.toInt ≤ 399 → 0 ≤ l3.toInt ∧ l3.toInt ≤ 0 → 0 ≤ l10.toInt ∧ l10.toInt ≤ 199 → 200 - l10.toInt ≤ R25 → jJ jSgX Dy h → jSm fp_X11_sumYear_r31_r124 h0 h → jX m_X11_sumYear 3 0 0 90 [(0, .ref 31), (1, .int l1), (2, .ref 124), (3, .int l3), (4, .long l4), (6, .long l6), (8, .long l8), (10, .int l10)] [] h 0 0 Q := by
  intro l1 l3 l4 l6 l8 l10 h y0 y1 y2  m25 J Sm
  have el4 := jfullL l4
  have el6 := jfullL l6
  have el8 := jfullL l8
  refine z_iinc (x := l10) (lsx9 := fun v1 => [(10, .int v1), (0, .ref 31), (1, .int l1), (2, .ref 124), (3, .int l3), (4, .long l4), (6, .long l6), (8, .long l8)]) rfl rfl rfl jko_1 (by omega) rfl (fun _ => rfl) (fun v1 ev1 => ?_)
  refine x_goto (tgt := 25) rfl rfl ?_
  exact jX.sub (jsb_c rfl (jsb_c rfl (jsb_c rfl (jsb_c rfl (jsb_c rfl (jsb_c rfl (jsb_c rfl (jsb_c rfl jsb_n)))))))) (k25 l1 l3 l4 l6 l8 v1 h (by omega) (jr_of rfl (by omega)) (jr_of rfl (by omega)) (jr_of rfl (by omega)) J Sm)
set_option maxRecDepth 100000 in
set_option maxHeartbeats 4000000 in
theorem ct_X11_sumYear_r31_r124_25 {Dy : jH → Prop} {h0 : jH} {Q : Option Value → jH → Prop} (hD : jDk Dy) (hQ : ∀ hx9, jJ jSgX Dy hx9 → jSm fp_X11_sumYear_r31_r124 h0 hx9 → Q none hx9) : ∀ r : Nat, ∀ (l1 : Int32) (l3 : Int32) (l4 : Int64) (l6 : Int64) (l8 : Int64) (l10 : Int32) (h : jH), 200 - l10.toInt < (r : Int) → 0 ≤ l1.toInt ∧ l1.toInt ≤ 399 → 0 ≤ l3.toInt ∧ l3.toInt ≤ 0 → 0 ≤ l10.toInt ∧ l10.toInt ≤ 200 → jJ jSgX Dy h → jSm fp_X11_sumYear_r31_r124 h0 h → jX m_X11_sumYear 3 0 0 25 [(0, .ref 31), (1, .int l1), (2, .ref 124), (3, .int l3), (4, .long l4), (6, .long l6), (8, .long l8), (10, .int l10)] [] h 0 0 Q := by
  intro r
  induction r with
  | zero =>
    intro l1 l3 l4 l6 l8 l10 h hm y0 y1 y2   J Sm
    exfalso
    have el4 := jfullL l4
    have el6 := jfullL l6
    have el8 := jfullL l8
    omega
  | succ r ih =>
    intro l1 l3 l4 l6 l8 l10 h hm y0 y1 y2   J Sm
    have el4 := jfullL l4
    have el6 := jfullL l6
    have el8 := jfullL l8
    refine x_iload (x := l10) rfl rfl ?_
    refine x_aloadn (x := 31) rfl rfl ?_
    refine z_getR (N := 13) (b := 32) 11 0 rfl f_11_10 rfl J rfl 3968 ⟨rfl, rfl⟩ rfl ?_
    refine z_getR (N := 20) (b := 33) 1 0 rfl f_11_126 rfl J rfl 4096 ⟨rfl, rfl⟩ rfl ?_
    refine z_getI (N := 4) 8 3 rfl f_11_142 rfl J rfl sg_33_3_4_1_0_1 (fun v1 qv1 ev1 => ?_)
    refine x_icge (tgt := 96) rfl rfl (ti_ge rfl rfl ⟨fun c2 => ?_, fun c2 => ?_⟩)
    ·
      refine x_aloadn (x := 124) rfl rfl ?_
      refine x_iloadn (x := l3) rfl rfl ?_
      refine x_lconst (v := 1) rfl kl_1 ?_
      refine z_last (N := 4) (l := 0) (u := 4) rfl hD J Sm rfl rfl rfl (by omega) rfl (fun h w3 J Sm => ?_)
      refine x_aloadn (x := 124) rfl rfl ?_
      refine x_iloadn (x := l3) rfl rfl ?_
      refine x_iconst (v := 1) rfl ki_1 ?_
      refine z_iadd rfl rfl jk_1 (by omega) (fun v4 ev4 => ?_)
      refine x_lload (x := l4) rfl rfl ?_
      refine z_last (N := 4) (l := 0) (u := 4) rfl hD J Sm rfl rfl rfl (by omega) rfl (fun h w5 J Sm => ?_)
      refine x_aloadn (x := 124) rfl rfl ?_
      refine x_iloadn (x := l3) rfl rfl ?_
      refine x_iconst (v := 2) rfl ki_2 ?_
      refine z_iadd rfl rfl jk_2 (by omega) (fun v6 ev6 => ?_)
      refine x_lload (x := l6) rfl rfl ?_
      refine z_last (N := 4) (l := 0) (u := 4) rfl hD J Sm rfl rfl rfl (by omega) rfl (fun h w7 J Sm => ?_)
      refine x_aloadn (x := 124) rfl rfl ?_
      refine x_iloadn (x := l3) rfl rfl ?_
      refine x_iconst (v := 3) rfl ki_3 ?_
      refine z_iadd rfl rfl jk_3 (by omega) (fun v8 ev8 => ?_)
      refine x_lload (x := l8) rfl rfl ?_
      refine z_last (N := 4) (l := 0) (u := 4) rfl hD J Sm rfl rfl rfl (by omega) rfl (fun h w9 J Sm => ?_)
      refine x_vret rfl rfl ?_
      exact hQ _ J Sm
    ·
      refine x_aloadn (x := 31) rfl rfl ?_
      refine x_iload (x := l10) rfl rfl ?_
      refine x_inv (N := m_X11_yearOf) (As := [.int l10]) (b := 31) (st := []) (dx9 := 2) (mc := 0) (ms := 0) (host := "") 11 rfl t_X11_yearOf ⟨Or.inl q_11_521, i_X11_yearOf.1, i_X11_yearOf.2⟩ ⟨by decide, rfl⟩ (congrArg Prod.fst (J.1.1 31 (11, 13) rfl)) rfl (by decide) rfl rfl ⟨by decide, by decide⟩ (jC.of rfl k_X11_yearOf rfl ?_)
      show jX m_X11_yearOf 2 0 0 0 [(0, .ref 31), (1, .int l10)] [] _ 0 0 _
      refine x_aloadn (x := 31) rfl rfl ?_
      refine z_getR (N := 13) (b := 32) 11 0 rfl f_11_10 rfl J rfl 3968 ⟨rfl, rfl⟩ rfl ?_
      refine z_getR (N := 20) (b := 33) 1 0 rfl f_11_126 rfl J rfl 4096 ⟨rfl, rfl⟩ rfl ?_
      refine x_iloadn (x := l10) rfl rfl ?_
      refine x_iconst (v := 1) rfl ki_1 ?_
      refine x_inv (N := m_X8_at) (As := [.int l10, .int 1]) (b := 33) (st := []) (dx9 := 1) (mc := 0) (ms := 0) (host := "") 8 rfl t_X8_at ⟨Or.inl q_11_171, i_X8_at.1, i_X8_at.2⟩ ⟨by decide, rfl⟩ (congrArg Prod.fst (J.1.1 33 (8, 4) rfl)) rfl (by decide) rfl rfl ⟨by decide, by decide⟩ (sf_X8_at_r33_c1  hD J  (fun v11 h ev11 J S10 => ?_))
      have Sm := jSm_tr rfl Sm S10
      show jX m_X11_yearOf 2 0 0 12 [(0, .ref 31), (1, .int l10)] [.int v11] _ 0 0 _
      refine x_sipush (v := 366) rfl ks_366 ?_
      refine z_idiv rfl rfl jk_366 (by omega) (by omega) (fun v12 ev12 => ?_)
      refine x_iret rfl rfl ?_
      show jX m_X11_sumYear 3 0 0 46 [(0, .ref 31), (1, .int l1), (2, .ref 124), (3, .int l3), (4, .long l4), (6, .long l6), (8, .long l8), (10, .int l10)] [.int v12] _ 0 0 _
      refine x_iloadn (x := l1) rfl rfl ?_
      refine x_icne (tgt := 90) rfl rfl (ti_ne rfl rfl ⟨fun c13 => ?_, fun c13 => ?_⟩)
      ·
        exact jX.sub (jsb_c rfl (jsb_c rfl (jsb_c rfl (jsb_c rfl (jsb_c rfl (jsb_c rfl (jsb_c rfl (jsb_c rfl jsb_n)))))))) (ct_X11_sumYear_r31_r124_90 hD hQ ih l1 l3 l4 l6 l8 l10 h (jr_of rfl (by omega)) (jr_of rfl (by omega)) (jr_of rfl (by omega)) (by omega) J Sm)
      ·
        refine x_aloadn (x := 31) rfl rfl ?_
        refine z_getR (N := 13) (b := 32) 11 0 rfl f_11_10 rfl J rfl 3968 ⟨rfl, rfl⟩ rfl ?_
        refine z_getR (N := 20) (b := 33) 1 0 rfl f_11_126 rfl J rfl 4096 ⟨rfl, rfl⟩ rfl ?_
        refine x_iload (x := l10) rfl rfl ?_
        refine x_iconst (v := 4) rfl ki_4 ?_
        refine x_inv (N := m_X8_at) (As := [.int l10, .int 4]) (b := 33) (st := []) (dx9 := 1) (mc := 0) (ms := 0) (host := "") 8 rfl t_X8_at ⟨Or.inl q_11_171, i_X8_at.1, i_X8_at.2⟩ ⟨by decide, rfl⟩ (congrArg Prod.fst (J.1.1 33 (8, 4) rfl)) rfl (by decide) rfl rfl ⟨by decide, by decide⟩ (sf_X8_at_r33_c4  hD J  (fun v15 h J S14 => ?_))
        have ev15 := jfull v15
        have Sm := jSm_tr rfl Sm S14
        show jX m_X11_sumYear 3 0 0 63 [(0, .ref 31), (1, .int l1), (2, .ref 124), (3, .int l3), (4, .long l4), (6, .long l6), (8, .long l8), (10, .int l10)] [.int v15] _ 0 0 _
        refine x_istore (lsx9 := [(11, .int v15), (0, .ref 31), (1, .int l1), (2, .ref 124), (3, .int l3), (4, .long l4), (6, .long l6), (8, .long l8), (10, .int l10)]) rfl rfl rfl ?_
        refine x_lload (x := l4) rfl rfl ?_
        refine x_lconst (v := 1) rfl kl_1 ?_
        refine z_ladd0 rfl (fun v16 => ?_)
        have ev16 := jfullL v16
        refine x_lstore (lsx9 := [(4, .long v16), (11, .int v15), (0, .ref 31), (1, .int l1), (2, .ref 124), (3, .int l3), (6, .long l6), (8, .long l8), (10, .int l10)]) rfl rfl rfl ?_
        refine x_lload (x := l6) rfl rfl ?_
        refine x_iload (x := v15) rfl rfl ?_
        refine z_i2l rfl rfl (fun v17 ev17 => ?_)
        refine z_ladd0 rfl (fun v18 => ?_)
        have ev18 := jfullL v18
        refine x_lstore (lsx9 := [(6, .long v18), (4, .long v16), (11, .int v15), (0, .ref 31), (1, .int l1), (2, .ref 124), (3, .int l3), (8, .long l8), (10, .int l10)]) rfl rfl rfl ?_
        refine x_lload (x := l8) rfl rfl ?_
        refine x_lload (x := v16) rfl rfl ?_
        refine x_iload (x := v15) rfl rfl ?_
        refine z_i2l rfl rfl (fun v19 ev19 => ?_)
        refine z_lmul0 rfl (fun v20 => ?_)
        have ev20 := jfullL v20
        refine z_ladd0 rfl (fun v21 => ?_)
        have ev21 := jfullL v21
        refine x_lstore (lsx9 := [(8, .long v21), (6, .long v18), (4, .long v16), (11, .int v15), (0, .ref 31), (1, .int l1), (2, .ref 124), (3, .int l3), (10, .int l10)]) rfl rfl rfl ?_
        exact jX.sub (jsb_c rfl (jsb_c rfl (jsb_c rfl (jsb_c rfl (jsb_c rfl (jsb_c rfl (jsb_c rfl (jsb_c rfl jsb_n)))))))) (ct_X11_sumYear_r31_r124_90 hD hQ ih l1 l3 v16 v18 v21 l10 h (jr_of rfl (by omega)) (jr_of rfl (by omega)) (jr_of rfl (by omega)) (by omega) J Sm)
set_option maxRecDepth 100000 in
set_option maxHeartbeats 4000000 in
theorem sf_X11_sumYear_r31_r124 {Dy : jH → Prop} {h : jH} {Q : Option Value → jH → Prop} {a1 : Int32} {a2 : Int32} (y1 : 0 ≤ a1.toInt ∧ a1.toInt ≤ 399) (y2 : 0 ≤ a2.toInt ∧ a2.toInt ≤ 0) (hD : jDk Dy) (J : jJ jSgX Dy h) (hQ : ∀ hx9, jJ jSgX Dy hx9 → jSm fp_X11_sumYear_r31_r124 h hx9 → Q none hx9) : jC m_X11_sumYear 3 0 0 [.ref 31, .int a1, .ref 124, .int a2] h Q := by
  refine jC.of rfl k_X11_sumYear rfl ?_
  have Sm := jSm_rf fp_X11_sumYear_r31_r124 h
  show jX m_X11_sumYear 3 0 0 0 [(0, .ref 31), (1, .int a1), (2, .ref 124), (3, .int a2)] [] _ 0 0 _
  refine x_iloadn (x := a2) rfl rfl ?_
  refine x_iflt (tgt := 12) rfl rfl (ti_lt rfl jk_0 (br_f (by omega) ?_))
  refine x_iloadn (x := a2) rfl rfl ?_
  refine x_iconst (v := 3) rfl ki_3 ?_
  refine z_iadd rfl rfl jk_3 (by omega) (fun v1 ev1 => ?_)
  refine x_aloadn (x := 124) rfl rfl ?_
  refine z_alen (N := 4) (v := 4) rfl J rfl rfl (by decide) ?_
  refine x_iclt (tgt := 13) rfl rfl (ti_lt rfl jk_4 (br_t (by omega) ?_))
  refine x_lconst (v := 0) rfl kl_0 ?_
  refine x_lstore (lsx9 := [(4, .long 0), (0, .ref 31), (1, .int a1), (2, .ref 124), (3, .int a2)]) rfl rfl rfl ?_
  refine x_lconst (v := 0) rfl kl_0 ?_
  refine x_lstore (lsx9 := [(6, .long 0), (4, .long 0), (0, .ref 31), (1, .int a1), (2, .ref 124), (3, .int a2)]) rfl rfl rfl ?_
  refine x_lconst (v := 0) rfl kl_0 ?_
  refine x_lstore (lsx9 := [(8, .long 0), (6, .long 0), (4, .long 0), (0, .ref 31), (1, .int a1), (2, .ref 124), (3, .int a2)]) rfl rfl rfl ?_
  refine x_iconst (v := 0) rfl ki_0 ?_
  refine x_istore (lsx9 := [(10, .int 0), (8, .long 0), (6, .long 0), (4, .long 0), (0, .ref 31), (1, .int a1), (2, .ref 124), (3, .int a2)]) rfl rfl rfl ?_
  exact jX.sub (jsb_c rfl (jsb_c rfl (jsb_c rfl (jsb_c rfl (jsb_c rfl (jsb_c rfl (jsb_c rfl (jsb_c rfl jsb_n)))))))) (ct_X11_sumYear_r31_r124_25 hD hQ  201 a1 a2 0 0 0 0 h (by have := jk_0; omega) (jr_of rfl (by omega)) (jr_of rfl (by omega)) (jr_of jk_0 (by omega)) J Sm)
def fp_X11_found_r31 : jFp := [(124, 0, 4)]
set_option maxRecDepth 100000 in
set_option maxHeartbeats 4000000 in
theorem ct_X11_found_r31_23 {Dy : jH → Prop} {h0 : jH} {Q : Option Value → jH → Prop} (hD : jDk Dy) (hQ : ∀ (v : Int32) hx9, (-3) ≤ v.toInt ∧ v.toInt ≤ 199 → jJ jSgX Dy hx9 → jSm fp_X11_found_r31 h0 hx9 → Q (some (.int v)) hx9) : ∀ (h : jH), jJ jSgX Dy h → jSm fp_X11_found_r31 h0 h → jX m_X11_found 4 0 0 23 [] [] h 0 0 Q := by
  intro  h    J Sm
  refine x_bipush (v := (-3)) rfl kb_m3 ?_
  refine x_iret rfl rfl ?_
  exact hQ _ _ (jr_of jk_m3 (by omega)) J Sm
set_option maxRecDepth 100000 in
set_option maxHeartbeats 4000000 in
theorem ct_X11_found_r31_171 {Dy : jH → Prop} {h0 : jH} {Q : Option Value → jH → Prop} {R129 : Int} (hD : jDk Dy) (hQ : ∀ (v : Int32) hx9, (-3) ≤ v.toInt ∧ v.toInt ≤ 199 → jJ jSgX Dy hx9 → jSm fp_X11_found_r31 h0 hx9 → Q (some (.int v)) hx9) (k129 : ∀ (l1 : Int32) (l3 : Int64) (l5 : Int64) (l7 : Int32) (l8 : Int32) (h : jH), 200 - l8.toInt < R129 → 0 ≤ l1.toInt ∧ l1.toInt ≤ 399 → 0 ≤ l8.toInt ∧ l8.toInt ≤ 200 → l3.toInt ≠ 0 → jJ jSgX Dy h → jSm fp_X11_found_r31 h0 h → jX m_X11_found 4 0 0 129 [(0, .ref 31), (1, .int l1), (3, .long l3), (5, .long l5), (7, .int l7), (8, .int l8)] [] h 0 0 Q) : ∀ (l1 : Int32) (l3 : Int64) (l5 : Int64) (l7 : Int32) (l8 : Int32) (h : jH), 0 ≤ l1.toInt ∧ l1.toInt ≤ 399 → 0 ≤ l8.toInt ∧ l8.toInt ≤ 199 → l3.toInt ≠ 0 → 200 - l8.toInt ≤ R129 → jJ jSgX Dy h → jSm fp_X11_found_r31 h0 h → jX m_X11_found 4 0 0 171 [(0, .ref 31), (1, .int l1), (3, .long l3), (5, .long l5), (7, .int l7), (8, .int l8)] [] h 0 0 Q := by
  intro l1 l3 l5 l7 l8 h y0 y1 y2  m129 J Sm
  have el3 := jfullL l3
  have el5 := jfullL l5
  have el7 := jfull l7
  refine z_iinc (x := l8) (lsx9 := fun v1 => [(8, .int v1), (0, .ref 31), (1, .int l1), (3, .long l3), (5, .long l5), (7, .int l7)]) rfl rfl rfl jko_1 (by omega) rfl (fun _ => rfl) (fun v1 ev1 => ?_)
  refine x_goto (tgt := 129) rfl rfl ?_
  exact jX.sub (jsb_c rfl (jsb_c rfl (jsb_c rfl (jsb_c rfl (jsb_c rfl (jsb_c rfl jsb_n)))))) (k129 l1 l3 l5 l7 v1 h (by omega) (jr_of rfl (by omega)) (jr_of rfl (by omega)) (by omega) J Sm)
set_option maxRecDepth 100000 in
set_option maxHeartbeats 4000000 in
theorem ct_X11_found_r31_129 {Dy : jH → Prop} {h0 : jH} {Q : Option Value → jH → Prop} (hD : jDk Dy) (hQ : ∀ (v : Int32) hx9, (-3) ≤ v.toInt ∧ v.toInt ≤ 199 → jJ jSgX Dy hx9 → jSm fp_X11_found_r31 h0 hx9 → Q (some (.int v)) hx9) : ∀ r : Nat, ∀ (l1 : Int32) (l3 : Int64) (l5 : Int64) (l7 : Int32) (l8 : Int32) (h : jH), 200 - l8.toInt < (r : Int) → 0 ≤ l1.toInt ∧ l1.toInt ≤ 399 → 0 ≤ l8.toInt ∧ l8.toInt ≤ 200 → l3.toInt ≠ 0 → jJ jSgX Dy h → jSm fp_X11_found_r31 h0 h → jX m_X11_found 4 0 0 129 [(0, .ref 31), (1, .int l1), (3, .long l3), (5, .long l5), (7, .int l7), (8, .int l8)] [] h 0 0 Q := by
  intro r
  induction r with
  | zero =>
    intro l1 l3 l5 l7 l8 h hm y0 y1 y2   J Sm
    exfalso
    have el3 := jfullL l3
    have el5 := jfullL l5
    have el7 := jfull l7
    omega
  | succ r ih =>
    intro l1 l3 l5 l7 l8 h hm y0 y1 y2   J Sm
    have el3 := jfullL l3
    have el5 := jfullL l5
    have el7 := jfull l7
    refine x_iload (x := l8) rfl rfl ?_
    refine x_aloadn (x := 31) rfl rfl ?_
    refine z_getR (N := 13) (b := 32) 11 0 rfl f_11_10 rfl J rfl 3968 ⟨rfl, rfl⟩ rfl ?_
    refine z_getR (N := 20) (b := 33) 1 0 rfl f_11_126 rfl J rfl 4096 ⟨rfl, rfl⟩ rfl ?_
    refine z_getI (N := 4) 8 3 rfl f_11_142 rfl J rfl sg_33_3_4_1_0_1 (fun v1 qv1 ev1 => ?_)
    refine x_icge (tgt := 177) rfl rfl (ti_ge rfl rfl ⟨fun c2 => ?_, fun c2 => ?_⟩)
    ·
      refine x_bipush (v := (-2)) rfl kb_m2 ?_
      refine x_iret rfl rfl ?_
      exact hQ _ _ (jr_of jk_m2 (by omega)) J Sm
    ·
      refine x_aloadn (x := 31) rfl rfl ?_
      refine x_iload (x := l8) rfl rfl ?_
      refine x_inv (N := m_X11_yearOf) (As := [.int l8]) (b := 31) (st := []) (dx9 := 3) (mc := 0) (ms := 0) (host := "") 11 rfl t_X11_yearOf ⟨Or.inl q_11_521, i_X11_yearOf.1, i_X11_yearOf.2⟩ ⟨by decide, rfl⟩ (congrArg Prod.fst (J.1.1 31 (11, 13) rfl)) rfl (by decide) rfl rfl ⟨by decide, by decide⟩ (jC.of rfl k_X11_yearOf rfl ?_)
      show jX m_X11_yearOf 3 0 0 0 [(0, .ref 31), (1, .int l8)] [] _ 0 0 _
      refine x_aloadn (x := 31) rfl rfl ?_
      refine z_getR (N := 13) (b := 32) 11 0 rfl f_11_10 rfl J rfl 3968 ⟨rfl, rfl⟩ rfl ?_
      refine z_getR (N := 20) (b := 33) 1 0 rfl f_11_126 rfl J rfl 4096 ⟨rfl, rfl⟩ rfl ?_
      refine x_iloadn (x := l8) rfl rfl ?_
      refine x_iconst (v := 1) rfl ki_1 ?_
      refine x_inv (N := m_X8_at) (As := [.int l8, .int 1]) (b := 33) (st := []) (dx9 := 1) (mc := 0) (ms := 0) (host := "") 8 rfl t_X8_at ⟨Or.inl q_11_171, i_X8_at.1, i_X8_at.2⟩ ⟨by decide, rfl⟩ (congrArg Prod.fst (J.1.1 33 (8, 4) rfl)) rfl (by decide) rfl rfl ⟨by decide, by decide⟩ (sf_X8_at_r33_c1  hD J  (fun v4 h ev4 J S3 => ?_))
      have Sm := jSm_tr rfl Sm S3
      show jX m_X11_yearOf 3 0 0 12 [(0, .ref 31), (1, .int l8)] [.int v4] _ 0 0 _
      refine x_sipush (v := 366) rfl ks_366 ?_
      refine z_idiv rfl rfl jk_366 (by omega) (by omega) (fun v5 ev5 => ?_)
      refine x_iret rfl rfl ?_
      show jX m_X11_found 4 0 0 150 [(0, .ref 31), (1, .int l1), (3, .long l3), (5, .long l5), (7, .int l7), (8, .int l8)] [.int v5] _ 0 0 _
      refine x_iloadn (x := l1) rfl rfl ?_
      refine x_icne (tgt := 171) rfl rfl (ti_ne rfl rfl ⟨fun c6 => ?_, fun c6 => ?_⟩)
      ·
        exact jX.sub (jsb_c rfl (jsb_c rfl (jsb_c rfl (jsb_c rfl (jsb_c rfl (jsb_c rfl jsb_n)))))) (ct_X11_found_r31_171 hD hQ ih l1 l3 l5 l7 l8 h (jr_of rfl (by omega)) (jr_of rfl (by omega)) (by omega) (by omega) J Sm)
      ·
        refine z_iinc0 (x := l7) (lsx9 := fun v7 => [(7, .int v7), (0, .ref 31), (1, .int l1), (3, .long l3), (5, .long l5), (8, .int l8)]) rfl rfl rfl (fun _ => rfl) (fun v7 => ?_)
        have ev7 := jfull v7
        refine x_lloadn (x := l3) rfl rfl ?_
        refine x_iload (x := v7) rfl rfl ?_
        refine z_i2l rfl rfl (fun v8 ev8 => ?_)
        refine z_lmul0 rfl (fun v9 => ?_)
        have ev9 := jfullL v9
        refine x_lload (x := l5) rfl rfl ?_
        refine z_lcmp rfl rfl rfl (fun v10 ev10 => ?_)
        refine x_ifne (tgt := 171) rfl rfl (ti_ne rfl jk_0 ⟨fun c11 => ?_, fun c11 => ?_⟩)
        ·
          exact jX.sub (jsb_c rfl (jsb_c rfl (jsb_c rfl (jsb_c rfl (jsb_c rfl (jsb_c rfl jsb_n)))))) (ct_X11_found_r31_171 hD hQ ih l1 l3 l5 v7 l8 h (jr_of rfl (by omega)) (jr_of rfl (by omega)) (by omega) (by omega) J Sm)
        ·
          refine x_iload (x := l8) rfl rfl ?_
          refine x_iret rfl rfl ?_
          exact hQ _ _ (jr_of rfl (by omega)) J Sm
set_option maxRecDepth 100000 in
set_option maxHeartbeats 4000000 in
theorem ct_X11_found_r31_122 {Dy : jH → Prop} {h0 : jH} {Q : Option Value → jH → Prop} (hD : jDk Dy) (hQ : ∀ (v : Int32) hx9, (-3) ≤ v.toInt ∧ v.toInt ≤ 199 → jJ jSgX Dy hx9 → jSm fp_X11_found_r31 h0 hx9 → Q (some (.int v)) hx9) : ∀ (h : jH), jJ jSgX Dy h → jSm fp_X11_found_r31 h0 h → jX m_X11_found 4 0 0 122 [] [.int (-2)] h 0 0 Q := by
  intro  h    J Sm
  refine x_iret rfl rfl ?_
  exact hQ _ _ (jr_of jk_m2 (by omega)) J Sm
set_option maxRecDepth 100000 in
set_option maxHeartbeats 4000000 in
theorem ct_X11_found_r31_100122 {Dy : jH → Prop} {h0 : jH} {Q : Option Value → jH → Prop} (hD : jDk Dy) (hQ : ∀ (v : Int32) hx9, (-3) ≤ v.toInt ∧ v.toInt ≤ 199 → jJ jSgX Dy hx9 → jSm fp_X11_found_r31 h0 hx9 → Q (some (.int v)) hx9) : ∀ (h : jH), jJ jSgX Dy h → jSm fp_X11_found_r31 h0 h → jX m_X11_found 4 0 0 122 [] [.int (-1)] h 0 0 Q := by
  intro  h    J Sm
  refine x_iret rfl rfl ?_
  exact hQ _ _ (jr_of jk_m1 (by omega)) J Sm
set_option maxRecDepth 100000 in
set_option maxHeartbeats 4000000 in
theorem sf_X11_found_r31 {Dy : jH → Prop} {h : jH} {Q : Option Value → jH → Prop} {a1 : Int32} (hD : jDk Dy) (J : jJ jSgX Dy h) (hQ : ∀ (v : Int32) hx9, (-3) ≤ v.toInt ∧ v.toInt ≤ 199 → jJ jSgX Dy hx9 → jSm fp_X11_found_r31 h hx9 → Q (some (.int v)) hx9) : jC m_X11_found 4 0 0 [.ref 31, .int a1] h Q := by
  refine jC.of rfl k_X11_found rfl ?_
  have Sm := jSm_rf fp_X11_found_r31 h
  have ea1 := jfull a1
  show jX m_X11_found 4 0 0 0 [(0, .ref 31), (1, .int a1)] [] _ 0 0 _
  refine x_iloadn (x := a1) rfl rfl ?_
  refine x_inst (N := m_X11_isYear) (As := [.int a1]) (st := []) (dx9 := 1) (mc := 0) (ms := 0) (host := "") rfl t_X11_isYear ⟨Or.inl q_11_433, s_X11_isYear⟩ rfl (by decide) rfl rfl ⟨by decide, by decide⟩ (zc_X11_isYear rfl (fun v1 ev1 => ?_))
  show jX m_X11_found 4 0 0 4 [(0, .ref 31), (1, .int a1)] [.int v1] _ 0 0 _
  refine x_ifeq (tgt := 23) rfl rfl (ti_eq rfl jk_0 ⟨fun c2 => ?_, fun c2 => ?_⟩)
  ·
    exact jX.sub jsb_n (ct_X11_found_r31_23 hD hQ  h J Sm)
  ·
    refine x_aloadn (x := 31) rfl rfl ?_
    refine z_getR (N := 13) (b := 32) 11 0 rfl f_11_10 rfl J rfl 3968 ⟨rfl, rfl⟩ rfl ?_
    refine z_getR (N := 20) (b := 65) 1 16 rfl f_11_511 rfl J rfl 4112 ⟨rfl, rfl⟩ rfl ?_
    refine x_iloadn (x := a1) rfl rfl ?_
    refine x_iconst (v := 4) rfl ki_4 ?_
    refine z_imul rfl rfl jk_4 (by omega) (fun v3 ev3 => ?_)
    refine z_lald0 (N := 1600) rfl J rfl rfl (by omega) (fun v4 => ?_)
    have ev4 := jfullL v4
    refine x_lconst (v := 0) rfl kl_0 ?_
    refine z_lcmp rfl rfl jkl_0 (fun v5 ev5 => ?_)
    refine x_ifne (tgt := 26) rfl rfl (ti_ne rfl jk_0 ⟨fun c6 => ?_, fun c6 => ?_⟩)
    ·
      refine x_iloadn (x := a1) rfl rfl ?_
      refine x_iconst (v := 4) rfl ki_4 ?_
      refine z_imul rfl rfl jk_4 (by omega) (fun v7 ev7 => ?_)
      refine x_istoren (lsx9 := [(2, .int v7), (0, .ref 31), (1, .int a1)]) rfl rfl rfl ?_
      refine x_aloadn (x := 31) rfl rfl ?_
      refine x_iloadn (x := a1) rfl rfl ?_
      refine x_aloadn (x := 31) rfl rfl ?_
      refine z_getR (N := 13) (b := 124) 11 11 rfl f_11_90 rfl J rfl 3979 ⟨rfl, rfl⟩ rfl ?_
      refine x_iconst (v := 0) rfl ki_0 ?_
      refine x_inv (N := m_X11_sumYear) (As := [.int a1, .ref 124, .int 0]) (b := 31) (st := []) (dx9 := 3) (mc := 0) (ms := 0) (host := "") 11 rfl t_X11_sumYear ⟨Or.inl q_11_514, i_X11_sumYear.1, i_X11_sumYear.2⟩ ⟨by decide, rfl⟩ (congrArg Prod.fst (J.1.1 31 (11, 13) rfl)) rfl (by decide) rfl rfl ⟨by decide, by decide⟩ (sf_X11_sumYear_r31_r124 (jr_of rfl (by omega)) (jr_of jk_0 (by omega)) hD J  (fun h J S8 => ?_))
      have Sm := jSm_tr rfl Sm S8
      show jX m_X11_found 4 0 0 40 [(2, .int v7), (0, .ref 31), (1, .int a1)] [] _ 0 0 _
      refine x_aloadn (x := 31) rfl rfl ?_
      refine z_getR (N := 13) (b := 32) 11 0 rfl f_11_10 rfl J rfl 3968 ⟨rfl, rfl⟩ rfl ?_
      refine z_getR (N := 20) (b := 65) 1 16 rfl f_11_511 rfl J rfl 4112 ⟨rfl, rfl⟩ rfl ?_
      refine x_iloadn (x := v7) rfl rfl ?_
      refine x_iconst (v := 2) rfl ki_2 ?_
      refine z_iadd rfl rfl jk_2 (by omega) (fun v9 ev9 => ?_)
      refine z_lald0 (N := 1600) rfl J rfl rfl (by omega) (fun v10 => ?_)
      have ev10 := jfullL v10
      refine x_aloadn (x := 31) rfl rfl ?_
      refine z_getR (N := 13) (b := 124) 11 11 rfl f_11_90 rfl J rfl 3979 ⟨rfl, rfl⟩ rfl ?_
      refine x_iconst (v := 2) rfl ki_2 ?_
      refine z_lald0 (N := 4) rfl J rfl jk_2 (by omega) (fun v11 => ?_)
      have ev11 := jfullL v11
      refine z_lsub0 rfl (fun v12 => ?_)
      have ev12 := jfullL v12
      refine x_lstoren (lsx9 := [(3, .long v12), (2, .int v7), (0, .ref 31), (1, .int a1)]) rfl rfl rfl ?_
      refine x_aloadn (x := 31) rfl rfl ?_
      refine z_getR (N := 13) (b := 32) 11 0 rfl f_11_10 rfl J rfl 3968 ⟨rfl, rfl⟩ rfl ?_
      refine z_getR (N := 20) (b := 65) 1 16 rfl f_11_511 rfl J rfl 4112 ⟨rfl, rfl⟩ rfl ?_
      refine x_iloadn (x := v7) rfl rfl ?_
      refine x_iconst (v := 3) rfl ki_3 ?_
      refine z_iadd rfl rfl jk_3 (by omega) (fun v13 ev13 => ?_)
      refine z_lald0 (N := 1600) rfl J rfl rfl (by omega) (fun v14 => ?_)
      have ev14 := jfullL v14
      refine x_aloadn (x := 31) rfl rfl ?_
      refine z_getR (N := 13) (b := 124) 11 11 rfl f_11_90 rfl J rfl 3979 ⟨rfl, rfl⟩ rfl ?_
      refine x_iconst (v := 3) rfl ki_3 ?_
      refine z_lald0 (N := 4) rfl J rfl jk_3 (by omega) (fun v15 => ?_)
      have ev15 := jfullL v15
      refine z_lsub0 rfl (fun v16 => ?_)
      have ev16 := jfullL v16
      refine x_lstore (lsx9 := [(5, .long v16), (3, .long v12), (2, .int v7), (0, .ref 31), (1, .int a1)]) rfl rfl rfl ?_
      refine x_aloadn (x := 31) rfl rfl ?_
      refine z_getR (N := 13) (b := 32) 11 0 rfl f_11_10 rfl J rfl 3968 ⟨rfl, rfl⟩ rfl ?_
      refine z_getR (N := 20) (b := 65) 1 16 rfl f_11_511 rfl J rfl 4112 ⟨rfl, rfl⟩ rfl ?_
      refine x_iloadn (x := v7) rfl rfl ?_
      refine x_iconst (v := 1) rfl ki_1 ?_
      refine z_iadd rfl rfl jk_1 (by omega) (fun v17 ev17 => ?_)
      refine z_lald0 (N := 1600) rfl J rfl rfl (by omega) (fun v18 => ?_)
      have ev18 := jfullL v18
      refine x_aloadn (x := 31) rfl rfl ?_
      refine z_getR (N := 13) (b := 124) 11 11 rfl f_11_90 rfl J rfl 3979 ⟨rfl, rfl⟩ rfl ?_
      refine x_iconst (v := 1) rfl ki_1 ?_
      refine z_lald0 (N := 4) rfl J rfl jk_1 (by omega) (fun v19 => ?_)
      have ev19 := jfullL v19
      refine z_lcmp rfl rfl rfl (fun v20 ev20 => ?_)
      refine x_ifeq (tgt := 103) rfl rfl (ti_eq rfl jk_0 ⟨fun c21 => ?_, fun c21 => ?_⟩)
      ·
        refine x_lloadn (x := v12) rfl rfl ?_
        refine x_lconst (v := 0) rfl kl_0 ?_
        refine z_lcmp rfl rfl jkl_0 (fun v22 ev22 => ?_)
        refine x_ifne (tgt := 123) rfl rfl (ti_ne rfl jk_0 ⟨fun c23 => ?_, fun c23 => ?_⟩)
        ·
          refine x_iconst (v := 0) rfl ki_0 ?_
          refine x_istore (lsx9 := [(7, .int 0), (5, .long v16), (3, .long v12), (2, .int v7), (0, .ref 31), (1, .int a1)]) rfl rfl rfl ?_
          refine x_iconst (v := 0) rfl ki_0 ?_
          refine x_istore (lsx9 := [(8, .int 0), (7, .int 0), (5, .long v16), (3, .long v12), (2, .int v7), (0, .ref 31), (1, .int a1)]) rfl rfl rfl ?_
          exact jX.sub (jsb_c rfl (jsb_c rfl (jsb_c rfl (jsb_c rfl (jsb_c rfl (jsb_c rfl jsb_n)))))) (ct_X11_found_r31_129 hD hQ  201 a1 v12 v16 0 0 h (by have := jk_0; omega) (jr_of rfl (by omega)) (jr_of jk_0 (by omega)) (by omega) J Sm)
        ·
          refine x_lload (x := v16) rfl rfl ?_
          refine x_lconst (v := 0) rfl kl_0 ?_
          refine z_lcmp rfl rfl jkl_0 (fun v24 ev24 => ?_)
          refine x_ifne (tgt := 120) rfl rfl (ti_ne rfl jk_0 ⟨fun c25 => ?_, fun c25 => ?_⟩)
          ·
            refine x_bipush (v := (-2)) rfl kb_m2 ?_
            exact jX.sub jsb_n (ct_X11_found_r31_122 hD hQ  h J Sm)
          ·
            refine x_iconst (v := (-1)) rfl ki_m1 ?_
            refine x_goto (tgt := 122) rfl rfl ?_
            exact jX.sub jsb_n (ct_X11_found_r31_100122 hD hQ  h J Sm)
      ·
        refine x_bipush (v := (-2)) rfl kb_m2 ?_
        refine x_iret rfl rfl ?_
        exact hQ _ _ (jr_of jk_m2 (by omega)) J Sm
    ·
      exact jX.sub jsb_n (ct_X11_found_r31_23 hD hQ  h J Sm)
def fp_X11_group_r31 : jFp := [(78, 13, 14), (82, 0, 600), (83, 0, 600), (84, 0, 200), (86, 0, 3), (87, 10, 11), (87, 11, 12), (87, 12, 13), (87, 13, 14), (89, 0, 81), (90, 0, 9), (91, 0, 9), (92, 0, 9), (93, 0, 90), (94, 0, 14401)]
set_option maxRecDepth 100000 in
set_option maxHeartbeats 4000000 in
theorem ct_X11_group_r31_15 {Dy : jH → Prop} {h0 : jH} {Q : Option Value → jH → Prop} (hD : jDk Dy) (hQ : ∀ (v : Int32) hx9, (-1) ≤ v.toInt ∧ v.toInt ≤ 8 → jJ jSgX Dy hx9 → jSm fp_X11_group_r31 h0 hx9 → Q (some (.int v)) hx9) : ∀ (h : jH), jJ jSgX Dy h → jSm fp_X11_group_r31 h0 h → jX m_X11_group 14 0 0 15 [] [] h 0 0 Q := by
  intro  h    J Sm
  refine x_iconst (v := (-1)) rfl ki_m1 ?_
  refine x_iret rfl rfl ?_
  exact hQ _ _ (jr_of jk_m1 (by omega)) J Sm
set_option maxRecDepth 100000 in
set_option maxHeartbeats 4000000 in
theorem sf_X11_group_r31 {Dy : jH → Prop} {h : jH} {Q : Option Value → jH → Prop} {a1 : Int32} (hD : jDk Dy) (J : jJ jSgX Dy h) (hQ : ∀ (v : Int32) hx9, (-1) ≤ v.toInt ∧ v.toInt ≤ 8 → jJ jSgX Dy hx9 → jSm fp_X11_group_r31 h hx9 → Q (some (.int v)) hx9) : jC m_X11_group 14 0 0 [.ref 31, .int a1] h Q := by
  refine jC.of rfl k_X11_group rfl ?_
  have Sm := jSm_rf fp_X11_group_r31 h
  have ea1 := jfull a1
  show jX m_X11_group 14 0 0 0 [(0, .ref 31), (1, .int a1)] [] _ 0 0 _
  refine x_iloadn (x := a1) rfl rfl ?_
  refine x_iflt (tgt := 15) rfl rfl (ti_lt rfl jk_0 ⟨fun c1 => ?_, fun c1 => ?_⟩)
  ·
    exact jX.sub jsb_n (ct_X11_group_r31_15 hD hQ  h J Sm)
  ·
    refine x_iloadn (x := a1) rfl rfl ?_
    refine x_aloadn (x := 31) rfl rfl ?_
    refine z_getR (N := 13) (b := 87) 11 5 rfl f_11_50 rfl J rfl 3973 ⟨rfl, rfl⟩ rfl ?_
    refine z_getI (N := 14) 3 3 rfl f_11_273 rfl J rfl sg_87_3_4_1_0_1 (fun v2 qv2 ev2 => ?_)
    refine x_iclt (tgt := 17) rfl rfl (ti_lt rfl rfl ⟨fun c3 => ?_, fun c3 => ?_⟩)
    ·
      refine x_aloadn (x := 31) rfl rfl ?_
      refine z_getR (N := 13) (b := 78) 11 4 rfl f_11_41 rfl J rfl 3972 ⟨rfl, rfl⟩ rfl ?_
      refine x_ldc (v := 146399) rfl z_11_233 ?_
      refine x_inv (N := m_X7_asKnown) (As := [.int 146399]) (b := 78) (st := []) (dx9 := 6) (mc := 0) (ms := 0) (host := "") 7 rfl t_X7_asKnown ⟨Or.inl q_11_240, i_X7_asKnown.1, i_X7_asKnown.2⟩ ⟨by decide, rfl⟩ (congrArg Prod.fst (J.1.1 78 (7, 16) rfl)) rfl (by decide) rfl rfl ⟨by decide, by decide⟩ (sf_X7_asKnown_r78 (jr_of jk_146399 (by omega)) hD J  (fun h J S4 => ?_))
      have Sm := jSm_tr rfl Sm S4
      show jX m_X11_group 14 0 0 26 [(0, .ref 31), (1, .int a1)] [] _ 0 0 _
      refine x_aloadn (x := 31) rfl rfl ?_
      refine z_getR (N := 13) (b := 87) 11 5 rfl f_11_50 rfl J rfl 3973 ⟨rfl, rfl⟩ rfl ?_
      refine x_inv (N := m_X3_settle) (As := []) (b := 87) (st := []) (dx9 := 13) (mc := 0) (ms := 0) (host := "") 3 rfl t_X3_settle ⟨Or.inl q_11_282, i_X3_settle.1, i_X3_settle.2⟩ ⟨by decide, rfl⟩ (congrArg Prod.fst (J.1.1 87 (3, 14) rfl)) rfl (by decide) rfl rfl ⟨by decide, by decide⟩ (sf_X3_settle_r87  hD J  (fun h J S5 => ?_))
      have Sm := jSm_tr rfl Sm S5
      show jX m_X11_group 14 0 0 33 [(0, .ref 31), (1, .int a1)] [] _ 0 0 _
      refine x_aloadn (x := 31) rfl rfl ?_
      refine z_getR (N := 13) (b := 87) 11 5 rfl f_11_50 rfl J rfl 3973 ⟨rfl, rfl⟩ rfl ?_
      refine x_iloadn (x := a1) rfl rfl ?_
      refine x_inv (N := m_X3_groupOf) (As := [.int a1]) (b := 87) (st := []) (dx9 := 13) (mc := 0) (ms := 0) (host := "") 3 rfl t_X3_groupOf ⟨Or.inl q_11_297, i_X3_groupOf.1, i_X3_groupOf.2⟩ ⟨by decide, rfl⟩ (congrArg Prod.fst (J.1.1 87 (3, 14) rfl)) rfl (by decide) rfl rfl ⟨by decide, by decide⟩ (jC.of rfl k_X3_groupOf rfl ?_)
      show jX m_X3_groupOf 13 0 0 0 [(0, .ref 87), (1, .int a1)] [] _ 0 0 _
      refine x_iloadn (x := a1) rfl rfl ?_
      refine x_iflt (tgt := 21) rfl rfl (ti_lt rfl jk_0 (br_f (by omega) ?_))
      refine x_iloadn (x := a1) rfl rfl ?_
      refine x_aloadn (x := 87) rfl rfl ?_
      refine z_getM (N := 14) (v := v2) 3 3 rfl f_3_15 rfl J rfl (jmc S5 rfl (jmc S4 rfl qv2)) ?_
      refine x_icge (tgt := 21) rfl rfl (ti_ge rfl rfl ⟨fun c6 => ?_, fun c6 => ?_⟩)
      ·
        refine x_iconst (v := (-1)) rfl ki_m1 ?_
        refine x_iret rfl rfl ?_
        show jX m_X11_group 14 0 0 41 [(0, .ref 31), (1, .int a1)] [.int (-1)] _ 0 0 _
        refine x_iret rfl rfl ?_
        exact hQ _ _ (jr_of jk_m1 (by omega)) J Sm
      ·
        refine x_aloadn (x := 87) rfl rfl ?_
        refine z_getR (N := 14) (b := 92) 3 7 rfl f_3_28 rfl J rfl 11143 ⟨rfl, rfl⟩ rfl ?_
        refine x_iloadn (x := a1) rfl rfl ?_
        refine z_iald (N := 9) rfl J rfl sg_92_0_9_1_0_1 rfl (by omega) (fun v7 qv7 ev7 => ?_)
        refine x_goto (tgt := 22) rfl rfl ?_
        refine x_iret rfl rfl ?_
        show jX m_X11_group 14 0 0 41 [(0, .ref 31), (1, .int a1)] [.int v7] _ 0 0 _
        refine x_iret rfl rfl ?_
        exact hQ _ _ (jr_of rfl (by omega)) J Sm
    ·
      exact jX.sub jsb_n (ct_X11_group_r31_15 hD hQ  h J Sm)
def fp_X8_put_r51_c0 : jFp := [(52, 0, 400)]
set_option maxRecDepth 100000 in
set_option maxHeartbeats 4000000 in
theorem ct_X8_put_r51_c0_38 {Dy : jH → Prop} {h0 : jH} {Q : Option Value → jH → Prop} (hD : jDk Dy) (hQ : ∀ hx9, jJ jSgX Dy hx9 → jSm fp_X8_put_r51_c0 h0 hx9 → Q none hx9) : ∀ (h : jH), jJ jSgX Dy h → jSm fp_X8_put_r51_c0 h0 h → jX m_X8_put 1 0 0 38 [] [] h 0 0 Q := by
  intro  h    J Sm
  refine x_vret rfl rfl ?_
  exact hQ _ J Sm
set_option maxRecDepth 100000 in
set_option maxHeartbeats 4000000 in
theorem sf_X8_put_r51_c0 {Dy : jH → Prop} {h : jH} {Q : Option Value → jH → Prop} {a1 : Int32} {a3 : Int32} (y1 : 0 ≤ a1.toInt ∧ a1.toInt ≤ 99) (y3 : 0 ≤ a3.toInt ∧ a3.toInt ≤ 146399) (hD : jDk Dy) (J : jJ jSgX Dy h) (hQ : ∀ hx9, jJ jSgX Dy hx9 → jSm fp_X8_put_r51_c0 h hx9 → Q none hx9) : jC m_X8_put 1 0 0 [.ref 51, .int a1, .int 0, .int a3] h Q := by
  refine jC.of rfl k_X8_put rfl ?_
  have Sm := jSm_rf fp_X8_put_r51_c0 h
  show jX m_X8_put 1 0 0 0 [(0, .ref 51), (1, .int a1), (2, .int 0), (3, .int a3)] [] _ 0 0 _
  refine x_iloadn (x := a1) rfl rfl ?_
  refine x_iflt (tgt := 38) rfl rfl (ti_lt rfl jk_0 (br_f (by omega) ?_))
  refine x_iloadn (x := a1) rfl rfl ?_
  refine x_aloadn (x := 51) rfl rfl ?_
  refine z_getI (N := 4) 8 3 rfl f_8_7 rfl J rfl sg_51_3_4_1_0_1 (fun v1 qv1 ev1 => ?_)
  refine x_icge (tgt := 38) rfl rfl (ti_ge rfl rfl ⟨fun c2 => ?_, fun c2 => ?_⟩)
  ·
    exact jX.sub jsb_n (ct_X8_put_r51_c0_38 hD hQ  h J Sm)
  ·
    refine x_iloadn (x := 0) rfl rfl ?_
    refine x_iflt (tgt := 38) rfl rfl (ti_lt jk_0 jk_0 (br_f (by omega) ?_))
    refine x_iloadn (x := 0) rfl rfl ?_
    refine x_aloadn (x := 51) rfl rfl ?_
    refine z_getC (N := 4) (v := 4) 8 0 rfl f_8_19 rfl J rfl sg_51_0_1_1_0_1 jk_4 ?_
    refine x_icge (tgt := 38) rfl rfl (ti_ge jk_0 jk_4 (br_f (by omega) ?_))
    refine x_aloadn (x := 51) rfl rfl ?_
    refine z_getR (N := 4) (b := 52) 8 2 rfl f_8_25 rfl J rfl 6530 ⟨rfl, rfl⟩ rfl ?_
    refine x_iloadn (x := a1) rfl rfl ?_
    refine x_aloadn (x := 51) rfl rfl ?_
    refine z_getC (N := 4) (v := 4) 8 0 rfl f_8_19 rfl J rfl sg_51_0_1_1_0_1 jk_4 ?_
    refine z_imul rfl rfl jk_4 (by omega) (fun v3 ev3 => ?_)
    refine x_iloadn (x := 0) rfl rfl ?_
    refine z_iadd rfl rfl jk_0 (by omega) (fun v4 ev4 => ?_)
    refine x_iloadn (x := a3) rfl rfl ?_
    refine z_iast (N := 400) (l := 0) (u := 400) (w := a3.toInt) rfl hD J Sm rfl rfl rfl (by omega) rfl (wr_52 (fun q1 q2 q3 q4 => by omega) (fun q1 q2 q3 q4 => by omega) (fun q1 q2 q3 q4 => by omega) (fun q1 q2 q3 q4 => by omega)) rfl (fun h w5 J Sm => ?_)
    exact jX.sub jsb_n (ct_X8_put_r51_c0_38 hD hQ  h J Sm)
def fp_X8_put_r51_c1 : jFp := [(52, 0, 400)]
set_option maxRecDepth 100000 in
set_option maxHeartbeats 4000000 in
theorem ct_X8_put_r51_c1_38 {Dy : jH → Prop} {h0 : jH} {Q : Option Value → jH → Prop} (hD : jDk Dy) (hQ : ∀ hx9, jJ jSgX Dy hx9 → jSm fp_X8_put_r51_c1 h0 hx9 → Q none hx9) : ∀ (h : jH), jJ jSgX Dy h → jSm fp_X8_put_r51_c1 h0 h → jX m_X8_put 1 0 0 38 [] [] h 0 0 Q := by
  intro  h    J Sm
  refine x_vret rfl rfl ?_
  exact hQ _ J Sm
set_option maxRecDepth 100000 in
set_option maxHeartbeats 4000000 in
theorem sf_X8_put_r51_c1 {Dy : jH → Prop} {h : jH} {Q : Option Value → jH → Prop} {a1 : Int32} {a3 : Int32} (y1 : 0 ≤ a1.toInt ∧ a1.toInt ≤ 99) (y3 : 0 ≤ a3.toInt ∧ a3.toInt ≤ 146399) (hD : jDk Dy) (J : jJ jSgX Dy h) (hQ : ∀ hx9, jJ jSgX Dy hx9 → jSm fp_X8_put_r51_c1 h hx9 → Q none hx9) : jC m_X8_put 1 0 0 [.ref 51, .int a1, .int 1, .int a3] h Q := by
  refine jC.of rfl k_X8_put rfl ?_
  have Sm := jSm_rf fp_X8_put_r51_c1 h
  show jX m_X8_put 1 0 0 0 [(0, .ref 51), (1, .int a1), (2, .int 1), (3, .int a3)] [] _ 0 0 _
  refine x_iloadn (x := a1) rfl rfl ?_
  refine x_iflt (tgt := 38) rfl rfl (ti_lt rfl jk_0 (br_f (by omega) ?_))
  refine x_iloadn (x := a1) rfl rfl ?_
  refine x_aloadn (x := 51) rfl rfl ?_
  refine z_getI (N := 4) 8 3 rfl f_8_7 rfl J rfl sg_51_3_4_1_0_1 (fun v1 qv1 ev1 => ?_)
  refine x_icge (tgt := 38) rfl rfl (ti_ge rfl rfl ⟨fun c2 => ?_, fun c2 => ?_⟩)
  ·
    exact jX.sub jsb_n (ct_X8_put_r51_c1_38 hD hQ  h J Sm)
  ·
    refine x_iloadn (x := 1) rfl rfl ?_
    refine x_iflt (tgt := 38) rfl rfl (ti_lt jk_1 jk_0 (br_f (by omega) ?_))
    refine x_iloadn (x := 1) rfl rfl ?_
    refine x_aloadn (x := 51) rfl rfl ?_
    refine z_getC (N := 4) (v := 4) 8 0 rfl f_8_19 rfl J rfl sg_51_0_1_1_0_1 jk_4 ?_
    refine x_icge (tgt := 38) rfl rfl (ti_ge jk_1 jk_4 (br_f (by omega) ?_))
    refine x_aloadn (x := 51) rfl rfl ?_
    refine z_getR (N := 4) (b := 52) 8 2 rfl f_8_25 rfl J rfl 6530 ⟨rfl, rfl⟩ rfl ?_
    refine x_iloadn (x := a1) rfl rfl ?_
    refine x_aloadn (x := 51) rfl rfl ?_
    refine z_getC (N := 4) (v := 4) 8 0 rfl f_8_19 rfl J rfl sg_51_0_1_1_0_1 jk_4 ?_
    refine z_imul rfl rfl jk_4 (by omega) (fun v3 ev3 => ?_)
    refine x_iloadn (x := 1) rfl rfl ?_
    refine z_iadd rfl rfl jk_1 (by omega) (fun v4 ev4 => ?_)
    refine x_iloadn (x := a3) rfl rfl ?_
    refine z_iast (N := 400) (l := 0) (u := 400) (w := a3.toInt) rfl hD J Sm rfl rfl rfl (by omega) rfl (wr_52 (fun q1 q2 q3 q4 => by omega) (fun q1 q2 q3 q4 => by omega) (fun q1 q2 q3 q4 => by omega) (fun q1 q2 q3 q4 => by omega)) rfl (fun h w5 J Sm => ?_)
    exact jX.sub jsb_n (ct_X8_put_r51_c1_38 hD hQ  h J Sm)
def fp_X8_put_r51_c2 : jFp := [(52, 0, 400)]
set_option maxRecDepth 100000 in
set_option maxHeartbeats 4000000 in
theorem ct_X8_put_r51_c2_38 {Dy : jH → Prop} {h0 : jH} {Q : Option Value → jH → Prop} (hD : jDk Dy) (hQ : ∀ hx9, jJ jSgX Dy hx9 → jSm fp_X8_put_r51_c2 h0 hx9 → Q none hx9) : ∀ (h : jH), jJ jSgX Dy h → jSm fp_X8_put_r51_c2 h0 h → jX m_X8_put 1 0 0 38 [] [] h 0 0 Q := by
  intro  h    J Sm
  refine x_vret rfl rfl ?_
  exact hQ _ J Sm
set_option maxRecDepth 100000 in
set_option maxHeartbeats 4000000 in
theorem sf_X8_put_r51_c2 {Dy : jH → Prop} {h : jH} {Q : Option Value → jH → Prop} {a1 : Int32} {a3 : Int32} (y1 : 0 ≤ a1.toInt ∧ a1.toInt ≤ 99) (y3 : 0 ≤ a3.toInt ∧ a3.toInt ≤ 39) (hD : jDk Dy) (J : jJ jSgX Dy h) (hQ : ∀ hx9, jJ jSgX Dy hx9 → jSm fp_X8_put_r51_c2 h hx9 → Q none hx9) : jC m_X8_put 1 0 0 [.ref 51, .int a1, .int 2, .int a3] h Q := by
  refine jC.of rfl k_X8_put rfl ?_
  have Sm := jSm_rf fp_X8_put_r51_c2 h
  show jX m_X8_put 1 0 0 0 [(0, .ref 51), (1, .int a1), (2, .int 2), (3, .int a3)] [] _ 0 0 _
  refine x_iloadn (x := a1) rfl rfl ?_
  refine x_iflt (tgt := 38) rfl rfl (ti_lt rfl jk_0 (br_f (by omega) ?_))
  refine x_iloadn (x := a1) rfl rfl ?_
  refine x_aloadn (x := 51) rfl rfl ?_
  refine z_getI (N := 4) 8 3 rfl f_8_7 rfl J rfl sg_51_3_4_1_0_1 (fun v1 qv1 ev1 => ?_)
  refine x_icge (tgt := 38) rfl rfl (ti_ge rfl rfl ⟨fun c2 => ?_, fun c2 => ?_⟩)
  ·
    exact jX.sub jsb_n (ct_X8_put_r51_c2_38 hD hQ  h J Sm)
  ·
    refine x_iloadn (x := 2) rfl rfl ?_
    refine x_iflt (tgt := 38) rfl rfl (ti_lt jk_2 jk_0 (br_f (by omega) ?_))
    refine x_iloadn (x := 2) rfl rfl ?_
    refine x_aloadn (x := 51) rfl rfl ?_
    refine z_getC (N := 4) (v := 4) 8 0 rfl f_8_19 rfl J rfl sg_51_0_1_1_0_1 jk_4 ?_
    refine x_icge (tgt := 38) rfl rfl (ti_ge jk_2 jk_4 (br_f (by omega) ?_))
    refine x_aloadn (x := 51) rfl rfl ?_
    refine z_getR (N := 4) (b := 52) 8 2 rfl f_8_25 rfl J rfl 6530 ⟨rfl, rfl⟩ rfl ?_
    refine x_iloadn (x := a1) rfl rfl ?_
    refine x_aloadn (x := 51) rfl rfl ?_
    refine z_getC (N := 4) (v := 4) 8 0 rfl f_8_19 rfl J rfl sg_51_0_1_1_0_1 jk_4 ?_
    refine z_imul rfl rfl jk_4 (by omega) (fun v3 ev3 => ?_)
    refine x_iloadn (x := 2) rfl rfl ?_
    refine z_iadd rfl rfl jk_2 (by omega) (fun v4 ev4 => ?_)
    refine x_iloadn (x := a3) rfl rfl ?_
    refine z_iast (N := 400) (l := 0) (u := 400) (w := a3.toInt) rfl hD J Sm rfl rfl rfl (by omega) rfl (wr_52 (fun q1 q2 q3 q4 => by omega) (fun q1 q2 q3 q4 => by omega) (fun q1 q2 q3 q4 => by omega) (fun q1 q2 q3 q4 => by omega)) rfl (fun h w5 J Sm => ?_)
    exact jX.sub jsb_n (ct_X8_put_r51_c2_38 hD hQ  h J Sm)
def fp_X8_put_r51_c3 : jFp := [(52, 0, 400)]
set_option maxRecDepth 100000 in
set_option maxHeartbeats 4000000 in
theorem ct_X8_put_r51_c3_38 {Dy : jH → Prop} {h0 : jH} {Q : Option Value → jH → Prop} (hD : jDk Dy) (hQ : ∀ hx9, jJ jSgX Dy hx9 → jSm fp_X8_put_r51_c3 h0 hx9 → Q none hx9) : ∀ (h : jH), jJ jSgX Dy h → jSm fp_X8_put_r51_c3 h0 h → jX m_X8_put 1 0 0 38 [] [] h 0 0 Q := by
  intro  h    J Sm
  refine x_vret rfl rfl ?_
  exact hQ _ J Sm
set_option maxRecDepth 100000 in
set_option maxHeartbeats 4000000 in
theorem sf_X8_put_r51_c3 {Dy : jH → Prop} {h : jH} {Q : Option Value → jH → Prop} {a1 : Int32} {a3 : Int32} (y1 : 0 ≤ a1.toInt ∧ a1.toInt ≤ 99) (y3 : (-1) ≤ a3.toInt ∧ a3.toInt ≤ 599) (hD : jDk Dy) (J : jJ jSgX Dy h) (hQ : ∀ hx9, jJ jSgX Dy hx9 → jSm fp_X8_put_r51_c3 h hx9 → Q none hx9) : jC m_X8_put 1 0 0 [.ref 51, .int a1, .int 3, .int a3] h Q := by
  refine jC.of rfl k_X8_put rfl ?_
  have Sm := jSm_rf fp_X8_put_r51_c3 h
  show jX m_X8_put 1 0 0 0 [(0, .ref 51), (1, .int a1), (2, .int 3), (3, .int a3)] [] _ 0 0 _
  refine x_iloadn (x := a1) rfl rfl ?_
  refine x_iflt (tgt := 38) rfl rfl (ti_lt rfl jk_0 (br_f (by omega) ?_))
  refine x_iloadn (x := a1) rfl rfl ?_
  refine x_aloadn (x := 51) rfl rfl ?_
  refine z_getI (N := 4) 8 3 rfl f_8_7 rfl J rfl sg_51_3_4_1_0_1 (fun v1 qv1 ev1 => ?_)
  refine x_icge (tgt := 38) rfl rfl (ti_ge rfl rfl ⟨fun c2 => ?_, fun c2 => ?_⟩)
  ·
    exact jX.sub jsb_n (ct_X8_put_r51_c3_38 hD hQ  h J Sm)
  ·
    refine x_iloadn (x := 3) rfl rfl ?_
    refine x_iflt (tgt := 38) rfl rfl (ti_lt jk_3 jk_0 (br_f (by omega) ?_))
    refine x_iloadn (x := 3) rfl rfl ?_
    refine x_aloadn (x := 51) rfl rfl ?_
    refine z_getC (N := 4) (v := 4) 8 0 rfl f_8_19 rfl J rfl sg_51_0_1_1_0_1 jk_4 ?_
    refine x_icge (tgt := 38) rfl rfl (ti_ge jk_3 jk_4 (br_f (by omega) ?_))
    refine x_aloadn (x := 51) rfl rfl ?_
    refine z_getR (N := 4) (b := 52) 8 2 rfl f_8_25 rfl J rfl 6530 ⟨rfl, rfl⟩ rfl ?_
    refine x_iloadn (x := a1) rfl rfl ?_
    refine x_aloadn (x := 51) rfl rfl ?_
    refine z_getC (N := 4) (v := 4) 8 0 rfl f_8_19 rfl J rfl sg_51_0_1_1_0_1 jk_4 ?_
    refine z_imul rfl rfl jk_4 (by omega) (fun v3 ev3 => ?_)
    refine x_iloadn (x := 3) rfl rfl ?_
    refine z_iadd rfl rfl jk_3 (by omega) (fun v4 ev4 => ?_)
    refine x_iloadn (x := a3) rfl rfl ?_
    refine z_iast (N := 400) (l := 0) (u := 400) (w := a3.toInt) rfl hD J Sm rfl rfl rfl (by omega) rfl (wr_52 (fun q1 q2 q3 q4 => by omega) (fun q1 q2 q3 q4 => by omega) (fun q1 q2 q3 q4 => by omega) (fun q1 q2 q3 q4 => by omega)) rfl (fun h w5 J Sm => ?_)
    exact jX.sub jsb_n (ct_X8_put_r51_c3_38 hD hQ  h J Sm)
def fp_X8_put_r51_c4 : jFp := []
set_option maxRecDepth 100000 in
set_option maxHeartbeats 4000000 in
theorem ct_X8_put_r51_c4_38 {Dy : jH → Prop} {h0 : jH} {Q : Option Value → jH → Prop} (hD : jDk Dy) (hQ : ∀ hx9, jJ jSgX Dy hx9 → jSm fp_X8_put_r51_c4 h0 hx9 → Q none hx9) : ∀ (h : jH), jJ jSgX Dy h → jSm fp_X8_put_r51_c4 h0 h → jX m_X8_put 1 0 0 38 [] [] h 0 0 Q := by
  intro  h    J Sm
  refine x_vret rfl rfl ?_
  exact hQ _ J Sm
set_option maxRecDepth 100000 in
set_option maxHeartbeats 4000000 in
theorem sf_X8_put_r51_c4 {Dy : jH → Prop} {h : jH} {Q : Option Value → jH → Prop} {a1 : Int32} {a3 : Int32} (y1 : 0 ≤ a1.toInt ∧ a1.toInt ≤ 99) (y3 : 0 ≤ a3.toInt ∧ a3.toInt ≤ 0) (hD : jDk Dy) (J : jJ jSgX Dy h) (hQ : ∀ hx9, jJ jSgX Dy hx9 → jSm fp_X8_put_r51_c4 h hx9 → Q none hx9) : jC m_X8_put 1 0 0 [.ref 51, .int a1, .int 4, .int a3] h Q := by
  refine jC.of rfl k_X8_put rfl ?_
  have Sm := jSm_rf fp_X8_put_r51_c4 h
  show jX m_X8_put 1 0 0 0 [(0, .ref 51), (1, .int a1), (2, .int 4), (3, .int a3)] [] _ 0 0 _
  refine x_iloadn (x := a1) rfl rfl ?_
  refine x_iflt (tgt := 38) rfl rfl (ti_lt rfl jk_0 (br_f (by omega) ?_))
  refine x_iloadn (x := a1) rfl rfl ?_
  refine x_aloadn (x := 51) rfl rfl ?_
  refine z_getI (N := 4) 8 3 rfl f_8_7 rfl J rfl sg_51_3_4_1_0_1 (fun v1 qv1 ev1 => ?_)
  refine x_icge (tgt := 38) rfl rfl (ti_ge rfl rfl ⟨fun c2 => ?_, fun c2 => ?_⟩)
  ·
    exact jX.sub jsb_n (ct_X8_put_r51_c4_38 hD hQ  h J Sm)
  ·
    refine x_iloadn (x := 4) rfl rfl ?_
    refine x_iflt (tgt := 38) rfl rfl (ti_lt jk_4 jk_0 (br_f (by omega) ?_))
    refine x_iloadn (x := 4) rfl rfl ?_
    refine x_aloadn (x := 51) rfl rfl ?_
    refine z_getC (N := 4) (v := 4) 8 0 rfl f_8_19 rfl J rfl sg_51_0_1_1_0_1 jk_4 ?_
    refine x_icge (tgt := 38) rfl rfl (ti_ge jk_4 jk_4 (br_t (by omega) ?_))
    exact jX.sub jsb_n (ct_X8_put_r51_c4_38 hD hQ  h J Sm)
def fp_X8_put_r51_c5 : jFp := []
set_option maxRecDepth 100000 in
set_option maxHeartbeats 4000000 in
theorem ct_X8_put_r51_c5_38 {Dy : jH → Prop} {h0 : jH} {Q : Option Value → jH → Prop} (hD : jDk Dy) (hQ : ∀ hx9, jJ jSgX Dy hx9 → jSm fp_X8_put_r51_c5 h0 hx9 → Q none hx9) : ∀ (h : jH), jJ jSgX Dy h → jSm fp_X8_put_r51_c5 h0 h → jX m_X8_put 1 0 0 38 [] [] h 0 0 Q := by
  intro  h    J Sm
  refine x_vret rfl rfl ?_
  exact hQ _ J Sm
set_option maxRecDepth 100000 in
set_option maxHeartbeats 4000000 in
theorem sf_X8_put_r51_c5 {Dy : jH → Prop} {h : jH} {Q : Option Value → jH → Prop} {a1 : Int32} {a3 : Int32} (y1 : 0 ≤ a1.toInt ∧ a1.toInt ≤ 99) (y3 : 0 ≤ a3.toInt ∧ a3.toInt ≤ 0) (hD : jDk Dy) (J : jJ jSgX Dy h) (hQ : ∀ hx9, jJ jSgX Dy hx9 → jSm fp_X8_put_r51_c5 h hx9 → Q none hx9) : jC m_X8_put 1 0 0 [.ref 51, .int a1, .int 5, .int a3] h Q := by
  refine jC.of rfl k_X8_put rfl ?_
  have Sm := jSm_rf fp_X8_put_r51_c5 h
  show jX m_X8_put 1 0 0 0 [(0, .ref 51), (1, .int a1), (2, .int 5), (3, .int a3)] [] _ 0 0 _
  refine x_iloadn (x := a1) rfl rfl ?_
  refine x_iflt (tgt := 38) rfl rfl (ti_lt rfl jk_0 (br_f (by omega) ?_))
  refine x_iloadn (x := a1) rfl rfl ?_
  refine x_aloadn (x := 51) rfl rfl ?_
  refine z_getI (N := 4) 8 3 rfl f_8_7 rfl J rfl sg_51_3_4_1_0_1 (fun v1 qv1 ev1 => ?_)
  refine x_icge (tgt := 38) rfl rfl (ti_ge rfl rfl ⟨fun c2 => ?_, fun c2 => ?_⟩)
  ·
    exact jX.sub jsb_n (ct_X8_put_r51_c5_38 hD hQ  h J Sm)
  ·
    refine x_iloadn (x := 5) rfl rfl ?_
    refine x_iflt (tgt := 38) rfl rfl (ti_lt jk_5 jk_0 (br_f (by omega) ?_))
    refine x_iloadn (x := 5) rfl rfl ?_
    refine x_aloadn (x := 51) rfl rfl ?_
    refine z_getC (N := 4) (v := 4) 8 0 rfl f_8_19 rfl J rfl sg_51_0_1_1_0_1 jk_4 ?_
    refine x_icge (tgt := 38) rfl rfl (ti_ge jk_5 jk_4 (br_t (by omega) ?_))
    exact jX.sub jsb_n (ct_X8_put_r51_c5_38 hD hQ  h J Sm)
def fp_X8_add_r51 : jFp := [(51, 3, 4), (52, 0, 400)]
set_option maxRecDepth 100000 in
set_option maxHeartbeats 4000000 in
theorem sf_X8_add_r51 {Dy : jH → Prop} {h : jH} {Q : Option Value → jH → Prop} {a1 : Int32} {a2 : Int32} {a3 : Int32} {a4 : Int32} {a5 : Int32} {a6 : Int32} (y1 : 0 ≤ a1.toInt ∧ a1.toInt ≤ 146399) (y2 : 0 ≤ a2.toInt ∧ a2.toInt ≤ 146399) (y3 : 0 ≤ a3.toInt ∧ a3.toInt ≤ 39) (y4 : (-1) ≤ a4.toInt ∧ a4.toInt ≤ 599) (y5 : 0 ≤ a5.toInt ∧ a5.toInt ≤ 0) (y6 : 0 ≤ a6.toInt ∧ a6.toInt ≤ 0) (hD : jDk Dy) (J : jJ jSgX Dy h) (hQ : ∀ hx9, jJ jSgX Dy hx9 → jSm fp_X8_add_r51 h hx9 → Q none hx9) : jC m_X8_add 2 0 0 [.ref 51, .int a1, .int a2, .int a3, .int a4, .int a5, .int a6] h Q := by
  refine jC.of rfl k_X8_add rfl ?_
  have Sm := jSm_rf fp_X8_add_r51 h
  show jX m_X8_add 2 0 0 0 [(0, .ref 51), (1, .int a1), (2, .int a2), (3, .int a3), (4, .int a4), (5, .int a5), (6, .int a6)] [] _ 0 0 _
  refine x_aloadn (x := 51) rfl rfl ?_
  refine z_getI (N := 4) 8 3 rfl f_8_7 rfl J rfl sg_51_3_4_1_0_1 (fun v1 qv1 ev1 => ?_)
  refine x_aloadn (x := 51) rfl rfl ?_
  refine z_getC (N := 4) (v := 100) 8 1 rfl f_8_22 rfl J rfl sg_51_1_2_1_0_1 jk_100 ?_
  refine x_iclt (tgt := 12) rfl rfl (ti_lt rfl jk_100 ⟨fun c2 => ?_, fun c2 => ?_⟩)
  ·
    refine x_aloadn (x := 51) rfl rfl ?_
    refine z_getM (N := 4) (v := v1) 8 3 rfl f_8_7 rfl J rfl qv1 ?_
    refine x_istore (lsx9 := [(7, .int v1), (0, .ref 51), (1, .int a1), (2, .int a2), (3, .int a3), (4, .int a4), (5, .int a5), (6, .int a6)]) rfl rfl rfl ?_
    refine x_aloadn (x := 51) rfl rfl ?_
    refine x_iload (x := v1) rfl rfl ?_
    refine x_iconst (v := 1) rfl ki_1 ?_
    refine z_iadd rfl rfl jk_1 (by omega) (fun v3 ev3 => ?_)
    refine z_putI (N := 4) (w := v3.toInt) 8 3 rfl f_8_7 rfl (jfin_no TX8 RX8 4 rfl rfl) hD J Sm rfl rfl rfl (pw_51_3 (by omega)) rfl (fun h w4 J Sm => ?_)
    refine x_aloadn (x := 51) rfl rfl ?_
    refine x_iload (x := v1) rfl rfl ?_
    refine x_iconst (v := 0) rfl ki_0 ?_
    refine x_iloadn (x := a1) rfl rfl ?_
    refine x_inv (N := m_X8_put) (As := [.int v1, .int 0, .int a1]) (b := 51) (st := []) (dx9 := 1) (mc := 0) (ms := 0) (host := "") 8 rfl t_X8_put ⟨Or.inl q_8_29, i_X8_put.1, i_X8_put.2⟩ ⟨by decide, rfl⟩ (congrArg Prod.fst (J.1.1 51 (8, 4) rfl)) rfl (by decide) rfl rfl ⟨by decide, by decide⟩ (sf_X8_put_r51_c0 (jr_of rfl (by omega)) (jr_of rfl (by omega)) hD J  (fun h J S5 => ?_))
    have Sm := jSm_tr rfl Sm S5
    show jX m_X8_add 2 0 0 34 [(7, .int v1), (0, .ref 51), (1, .int a1), (2, .int a2), (3, .int a3), (4, .int a4), (5, .int a5), (6, .int a6)] [] _ 0 0 _
    refine x_aloadn (x := 51) rfl rfl ?_
    refine x_iload (x := v1) rfl rfl ?_
    refine x_iconst (v := 1) rfl ki_1 ?_
    refine x_iloadn (x := a2) rfl rfl ?_
    refine x_inv (N := m_X8_put) (As := [.int v1, .int 1, .int a2]) (b := 51) (st := []) (dx9 := 1) (mc := 0) (ms := 0) (host := "") 8 rfl t_X8_put ⟨Or.inl q_8_29, i_X8_put.1, i_X8_put.2⟩ ⟨by decide, rfl⟩ (congrArg Prod.fst (J.1.1 51 (8, 4) rfl)) rfl (by decide) rfl rfl ⟨by decide, by decide⟩ (sf_X8_put_r51_c1 (jr_of rfl (by omega)) (jr_of rfl (by omega)) hD J  (fun h J S6 => ?_))
    have Sm := jSm_tr rfl Sm S6
    show jX m_X8_add 2 0 0 42 [(7, .int v1), (0, .ref 51), (1, .int a1), (2, .int a2), (3, .int a3), (4, .int a4), (5, .int a5), (6, .int a6)] [] _ 0 0 _
    refine x_aloadn (x := 51) rfl rfl ?_
    refine x_iload (x := v1) rfl rfl ?_
    refine x_iconst (v := 2) rfl ki_2 ?_
    refine x_iloadn (x := a3) rfl rfl ?_
    refine x_inv (N := m_X8_put) (As := [.int v1, .int 2, .int a3]) (b := 51) (st := []) (dx9 := 1) (mc := 0) (ms := 0) (host := "") 8 rfl t_X8_put ⟨Or.inl q_8_29, i_X8_put.1, i_X8_put.2⟩ ⟨by decide, rfl⟩ (congrArg Prod.fst (J.1.1 51 (8, 4) rfl)) rfl (by decide) rfl rfl ⟨by decide, by decide⟩ (sf_X8_put_r51_c2 (jr_of rfl (by omega)) (jr_of rfl (by omega)) hD J  (fun h J S7 => ?_))
    have Sm := jSm_tr rfl Sm S7
    show jX m_X8_add 2 0 0 50 [(7, .int v1), (0, .ref 51), (1, .int a1), (2, .int a2), (3, .int a3), (4, .int a4), (5, .int a5), (6, .int a6)] [] _ 0 0 _
    refine x_aloadn (x := 51) rfl rfl ?_
    refine x_iload (x := v1) rfl rfl ?_
    refine x_iconst (v := 3) rfl ki_3 ?_
    refine x_iload (x := a4) rfl rfl ?_
    refine x_inv (N := m_X8_put) (As := [.int v1, .int 3, .int a4]) (b := 51) (st := []) (dx9 := 1) (mc := 0) (ms := 0) (host := "") 8 rfl t_X8_put ⟨Or.inl q_8_29, i_X8_put.1, i_X8_put.2⟩ ⟨by decide, rfl⟩ (congrArg Prod.fst (J.1.1 51 (8, 4) rfl)) rfl (by decide) rfl rfl ⟨by decide, by decide⟩ (sf_X8_put_r51_c3 (jr_of rfl (by omega)) (jr_of rfl (by omega)) hD J  (fun h J S8 => ?_))
    have Sm := jSm_tr rfl Sm S8
    show jX m_X8_add 2 0 0 59 [(7, .int v1), (0, .ref 51), (1, .int a1), (2, .int a2), (3, .int a3), (4, .int a4), (5, .int a5), (6, .int a6)] [] _ 0 0 _
    refine x_aloadn (x := 51) rfl rfl ?_
    refine x_iload (x := v1) rfl rfl ?_
    refine x_iconst (v := 4) rfl ki_4 ?_
    refine x_iload (x := a5) rfl rfl ?_
    refine x_inv (N := m_X8_put) (As := [.int v1, .int 4, .int a5]) (b := 51) (st := []) (dx9 := 1) (mc := 0) (ms := 0) (host := "") 8 rfl t_X8_put ⟨Or.inl q_8_29, i_X8_put.1, i_X8_put.2⟩ ⟨by decide, rfl⟩ (congrArg Prod.fst (J.1.1 51 (8, 4) rfl)) rfl (by decide) rfl rfl ⟨by decide, by decide⟩ (sf_X8_put_r51_c4 (jr_of rfl (by omega)) (jr_of rfl (by omega)) hD J  (fun h J S9 => ?_))
    have Sm := jSm_tr rfl Sm S9
    show jX m_X8_add 2 0 0 68 [(7, .int v1), (0, .ref 51), (1, .int a1), (2, .int a2), (3, .int a3), (4, .int a4), (5, .int a5), (6, .int a6)] [] _ 0 0 _
    refine x_aloadn (x := 51) rfl rfl ?_
    refine x_iload (x := v1) rfl rfl ?_
    refine x_iconst (v := 5) rfl ki_5 ?_
    refine x_iload (x := a6) rfl rfl ?_
    refine x_inv (N := m_X8_put) (As := [.int v1, .int 5, .int a6]) (b := 51) (st := []) (dx9 := 1) (mc := 0) (ms := 0) (host := "") 8 rfl t_X8_put ⟨Or.inl q_8_29, i_X8_put.1, i_X8_put.2⟩ ⟨by decide, rfl⟩ (congrArg Prod.fst (J.1.1 51 (8, 4) rfl)) rfl (by decide) rfl rfl ⟨by decide, by decide⟩ (sf_X8_put_r51_c5 (jr_of rfl (by omega)) (jr_of rfl (by omega)) hD J  (fun h J S10 => ?_))
    have Sm := jSm_tr rfl Sm S10
    show jX m_X8_add 2 0 0 77 [(7, .int v1), (0, .ref 51), (1, .int a1), (2, .int a2), (3, .int a3), (4, .int a4), (5, .int a5), (6, .int a6)] [] _ 0 0 _
    refine x_vret rfl rfl ?_
    exact hQ _ J Sm
  ·
    refine x_vret rfl rfl ?_
    exact hQ _ J Sm
def fp_X8_isFull_r51 : jFp := []
set_option maxRecDepth 100000 in
set_option maxHeartbeats 4000000 in
theorem ct_X8_isFull_r51_200016 {Dy : jH → Prop} {h0 : jH} {Q : Option Value → jH → Prop} (hD : jDk Dy) (hQ : ∀ (v : Int32) hx9, 0 ≤ v.toInt ∧ v.toInt ≤ 1 → jJ jSgX Dy hx9 → jSm fp_X8_isFull_r51 h0 hx9 → Q (some (.int v)) hx9) : ∀ (h : jH), jJ jSgX Dy h → jSm fp_X8_isFull_r51 h0 h → jX m_X8_isFull 1 0 0 16 [] [.int 0] h 0 0 Q := by
  intro  h    J Sm
  refine x_zret rfl rfl (by decide) ?_
  exact hQ _ _ (jr_of jk_0 (by omega)) J Sm
set_option maxRecDepth 100000 in
set_option maxHeartbeats 4000000 in
theorem ct_X8_isFull_r51_300016 {Dy : jH → Prop} {h0 : jH} {Q : Option Value → jH → Prop} (hD : jDk Dy) (hQ : ∀ (v : Int32) hx9, 0 ≤ v.toInt ∧ v.toInt ≤ 1 → jJ jSgX Dy hx9 → jSm fp_X8_isFull_r51 h0 hx9 → Q (some (.int v)) hx9) : ∀ (h : jH), jJ jSgX Dy h → jSm fp_X8_isFull_r51 h0 h → jX m_X8_isFull 1 0 0 16 [] [.int 1] h 0 0 Q := by
  intro  h    J Sm
  refine x_zret rfl rfl (by decide) ?_
  exact hQ _ _ (jr_of jk_1 (by omega)) J Sm
set_option maxRecDepth 100000 in
set_option maxHeartbeats 4000000 in
theorem sf_X8_isFull_r51 {Dy : jH → Prop} {h : jH} {Q : Option Value → jH → Prop} (hD : jDk Dy) (J : jJ jSgX Dy h) (hQ : ∀ (v : Int32) hx9, 0 ≤ v.toInt ∧ v.toInt ≤ 1 → jJ jSgX Dy hx9 → jSm fp_X8_isFull_r51 h hx9 → Q (some (.int v)) hx9) : jC m_X8_isFull 1 0 0 [.ref 51] h Q := by
  refine jC.of rfl k_X8_isFull rfl ?_
  have Sm := jSm_rf fp_X8_isFull_r51 h
  show jX m_X8_isFull 1 0 0 0 [(0, .ref 51)] [] _ 0 0 _
  refine x_aloadn (x := 51) rfl rfl ?_
  refine z_getI (N := 4) 8 3 rfl f_8_7 rfl J rfl sg_51_3_4_1_0_1 (fun v1 qv1 ev1 => ?_)
  refine x_aloadn (x := 51) rfl rfl ?_
  refine z_getC (N := 4) (v := 100) 8 1 rfl f_8_22 rfl J rfl sg_51_1_2_1_0_1 jk_100 ?_
  refine x_iclt (tgt := 15) rfl rfl (ti_lt rfl jk_100 ⟨fun c2 => ?_, fun c2 => ?_⟩)
  ·
    refine x_iconst (v := 0) rfl ki_0 ?_
    exact jX.sub jsb_n (ct_X8_isFull_r51_200016 hD hQ  h J Sm)
  ·
    refine x_iconst (v := 1) rfl ki_1 ?_
    refine x_goto (tgt := 16) rfl rfl ?_
    exact jX.sub jsb_n (ct_X8_isFull_r51_300016 hD hQ  h J Sm)
def fp_X11_hold_r31 : jFp := [(31, 12, 13), (32, 19, 20), (51, 3, 4), (52, 0, 400)]
set_option maxRecDepth 100000 in
set_option maxHeartbeats 4000000 in
theorem ct_X11_hold_r31_15 {Dy : jH → Prop} {h0 : jH} {Q : Option Value → jH → Prop} (hD : jDk Dy) (hQ : ∀ (v : Int32) hx9, (-366) ≤ v.toInt ∧ v.toInt ≤ 100 → jJ jSgX Dy hx9 → jSm fp_X11_hold_r31 h0 hx9 → Q (some (.int v)) hx9) : ∀ (h : jH), jJ jSgX Dy h → jSm fp_X11_hold_r31 h0 h → jX m_X11_hold 3 0 0 15 [(0, .ref 31)] [] h 0 0 Q := by
  intro  h    J Sm
  refine x_aloadn (x := 31) rfl rfl ?_
  refine x_iconst (v := (-1)) rfl ki_m1 ?_
  refine x_inv (N := m_X11_refuse) (As := [.int (-1)]) (b := 31) (st := []) (dx9 := 2) (mc := 0) (ms := 0) (host := "") 11 rfl t_X11_refuse ⟨Or.inl q_11_206, i_X11_refuse.1, i_X11_refuse.2⟩ ⟨by decide, rfl⟩ (congrArg Prod.fst (J.1.1 31 (11, 13) rfl)) rfl (by decide) rfl rfl ⟨by decide, by decide⟩ (jC.of rfl k_X11_refuse rfl ?_)
  show jX m_X11_refuse 2 0 0 0 [(0, .ref 31), (1, .int (-1))] [] _ 0 0 _
  refine x_aloadn (x := 31) rfl rfl ?_
  refine x_iloadn (x := (-1)) rfl rfl ?_
  refine z_putI (N := 13) (w := (-1)) 11 12 rfl f_11_94 rfl (jfin_no TX11 RX11 13 rfl rfl) hD J Sm rfl rfl jk_m1 (pw_31_12 (by omega)) rfl (fun h w1 J Sm => ?_)
  refine x_iloadn (x := (-1)) rfl rfl ?_
  refine x_iret rfl rfl ?_
  show jX m_X11_hold 3 0 0 20 [(0, .ref 31)] [.int (-1)] _ 0 0 _
  refine x_iret rfl rfl ?_
  exact hQ _ _ (jr_of jk_m1 (by omega)) J Sm
set_option maxRecDepth 100000 in
set_option maxHeartbeats 4000000 in
theorem ct_X11_hold_r31_45 {Dy : jH → Prop} {h0 : jH} {Q : Option Value → jH → Prop} (hD : jDk Dy) (hQ : ∀ (v : Int32) hx9, (-366) ≤ v.toInt ∧ v.toInt ≤ 100 → jJ jSgX Dy hx9 → jSm fp_X11_hold_r31 h0 hx9 → Q (some (.int v)) hx9) : ∀ (h : jH), jJ jSgX Dy h → jSm fp_X11_hold_r31 h0 h → jX m_X11_hold 3 0 0 45 [(0, .ref 31)] [] h 0 0 Q := by
  intro  h    J Sm
  refine x_aloadn (x := 31) rfl rfl ?_
  refine x_bipush (v := (-2)) rfl kb_m2 ?_
  refine x_inv (N := m_X11_refuse) (As := [.int (-2)]) (b := 31) (st := []) (dx9 := 2) (mc := 0) (ms := 0) (host := "") 11 rfl t_X11_refuse ⟨Or.inl q_11_206, i_X11_refuse.1, i_X11_refuse.2⟩ ⟨by decide, rfl⟩ (congrArg Prod.fst (J.1.1 31 (11, 13) rfl)) rfl (by decide) rfl rfl ⟨by decide, by decide⟩ (jC.of rfl k_X11_refuse rfl ?_)
  show jX m_X11_refuse 2 0 0 0 [(0, .ref 31), (1, .int (-2))] [] _ 0 0 _
  refine x_aloadn (x := 31) rfl rfl ?_
  refine x_iloadn (x := (-2)) rfl rfl ?_
  refine z_putI (N := 13) (w := (-2)) 11 12 rfl f_11_94 rfl (jfin_no TX11 RX11 13 rfl rfl) hD J Sm rfl rfl jk_m2 (pw_31_12 (by omega)) rfl (fun h w1 J Sm => ?_)
  refine x_iloadn (x := (-2)) rfl rfl ?_
  refine x_iret rfl rfl ?_
  show jX m_X11_hold 3 0 0 51 [(0, .ref 31)] [.int (-2)] _ 0 0 _
  refine x_iret rfl rfl ?_
  exact hQ _ _ (jr_of jk_m2 (by omega)) J Sm
set_option maxRecDepth 100000 in
set_option maxHeartbeats 4000000 in
theorem ct_X11_hold_r31_52 {Dy : jH → Prop} {h0 : jH} {Q : Option Value → jH → Prop} (hD : jDk Dy) (hQ : ∀ (v : Int32) hx9, (-366) ≤ v.toInt ∧ v.toInt ≤ 100 → jJ jSgX Dy hx9 → jSm fp_X11_hold_r31 h0 hx9 → Q (some (.int v)) hx9) : ∀ (l1 : Int32) (l2 : Int32) (l3 : Int32) (l4 : Int32) (h : jH), 0 ≤ l1.toInt ∧ l1.toInt ≤ 39 → (-1) ≤ l2.toInt ∧ l2.toInt ≤ 599 → 0 ≤ l3.toInt ∧ l3.toInt ≤ 146399 → 0 ≤ l4.toInt ∧ l4.toInt ≤ 146399 → jJ jSgX Dy h → jSm fp_X11_hold_r31 h0 h → jX m_X11_hold 3 0 0 52 [(0, .ref 31), (1, .int l1), (2, .int l2), (3, .int l3), (4, .int l4)] [] h 0 0 Q := by
  intro l1 l2 l3 l4 h y0 y1 y2 y3   J Sm
  refine x_aloadn (x := 31) rfl rfl ?_
  refine z_getR (N := 13) (b := 32) 11 0 rfl f_11_10 rfl J rfl 3968 ⟨rfl, rfl⟩ rfl ?_
  refine z_getR (N := 20) (b := 51) 1 9 rfl f_11_421 rfl J rfl 4105 ⟨rfl, rfl⟩ rfl ?_
  refine x_inv (N := m_X8_isFull) (As := []) (b := 51) (st := []) (dx9 := 1) (mc := 0) (ms := 0) (host := "") 8 rfl t_X8_isFull ⟨Or.inl q_11_130, i_X8_isFull.1, i_X8_isFull.2⟩ ⟨by decide, rfl⟩ (congrArg Prod.fst (J.1.1 51 (8, 4) rfl)) rfl (by decide) rfl rfl ⟨by decide, by decide⟩ (sf_X8_isFull_r51  hD J  (fun v2 h ev2 J S1 => ?_))
  have Sm := jSm_tr rfl Sm S1
  show jX m_X11_hold 3 0 0 62 [(0, .ref 31), (1, .int l1), (2, .int l2), (3, .int l3), (4, .int l4)] [.int v2] _ 0 0 _
  refine x_ifeq (tgt := 72) rfl rfl (ti_eq rfl jk_0 ⟨fun c3 => ?_, fun c3 => ?_⟩)
  ·
    refine x_aloadn (x := 31) rfl rfl ?_
    refine z_getR (N := 13) (b := 32) 11 0 rfl f_11_10 rfl J rfl 3968 ⟨rfl, rfl⟩ rfl ?_
    refine z_getR (N := 20) (b := 51) 1 9 rfl f_11_421 rfl J rfl 4105 ⟨rfl, rfl⟩ rfl ?_
    refine x_iload (x := l4) rfl rfl ?_
    refine x_iloadn (x := l3) rfl rfl ?_
    refine x_iloadn (x := l1) rfl rfl ?_
    refine x_iloadn (x := l2) rfl rfl ?_
    refine x_iconst (v := 0) rfl ki_0 ?_
    refine x_iconst (v := 0) rfl ki_0 ?_
    refine x_inv (N := m_X8_add) (As := [.int l4, .int l3, .int l1, .int l2, .int 0, .int 0]) (b := 51) (st := []) (dx9 := 2) (mc := 0) (ms := 0) (host := "") 8 rfl t_X8_add ⟨Or.inl q_11_145, i_X8_add.1, i_X8_add.2⟩ ⟨by decide, rfl⟩ (congrArg Prod.fst (J.1.1 51 (8, 4) rfl)) rfl (by decide) rfl rfl ⟨by decide, by decide⟩ (sf_X8_add_r51 (jr_of rfl (by omega)) (jr_of rfl (by omega)) (jr_of rfl (by omega)) (jr_of rfl (by omega)) (jr_of jk_0 (by omega)) (jr_of jk_0 (by omega)) hD J  (fun h J S4 => ?_))
    have Sm := jSm_tr rfl Sm S4
    show jX m_X11_hold 3 0 0 89 [(0, .ref 31), (1, .int l1), (2, .int l2), (3, .int l3), (4, .int l4)] [] _ 0 0 _
    refine x_aloadn (x := 31) rfl rfl ?_
    refine x_aloadn (x := 31) rfl rfl ?_
    refine z_getR (N := 13) (b := 32) 11 0 rfl f_11_10 rfl J rfl 3968 ⟨rfl, rfl⟩ rfl ?_
    refine z_getR (N := 20) (b := 51) 1 9 rfl f_11_421 rfl J rfl 4105 ⟨rfl, rfl⟩ rfl ?_
    refine z_getI (N := 4) 8 3 rfl f_11_142 rfl J rfl sg_51_3_4_1_0_1 (fun v5 qv5 ev5 => ?_)
    refine x_inv (N := m_X11_accept) (As := [.int v5]) (b := 31) (st := []) (dx9 := 2) (mc := 0) (ms := 0) (host := "") 11 rfl t_X11_accept ⟨Or.inl q_11_165, i_X11_accept.1, i_X11_accept.2⟩ ⟨by decide, rfl⟩ (congrArg Prod.fst (J.1.1 31 (11, 13) rfl)) rfl (by decide) rfl rfl ⟨by decide, by decide⟩ (jC.of rfl k_X11_accept rfl ?_)
    show jX m_X11_accept 2 0 0 0 [(0, .ref 31), (1, .int v5)] [] _ 0 0 _
    refine x_aloadn (x := 31) rfl rfl ?_
    refine x_iconst (v := 0) rfl ki_0 ?_
    refine z_putI (N := 13) (w := 0) 11 12 rfl f_11_94 rfl (jfin_no TX11 RX11 13 rfl rfl) hD J Sm rfl rfl jk_0 (pw_31_12 (by omega)) rfl (fun h w6 J Sm => ?_)
    refine x_aloadn (x := 31) rfl rfl ?_
    refine z_getR (N := 13) (b := 32) 11 0 rfl f_11_10 rfl J rfl 3968 ⟨rfl, rfl⟩ rfl ?_
    refine x_dup rfl rfl ?_
    refine z_getI0 (N := 20) 1 19 rfl f_11_528 rfl J rfl (fun v7 qv7 => ?_)
    have ev7 := jfull v7
    refine x_iconst (v := 1) rfl ki_1 ?_
    refine z_iadd0 rfl (fun v8 => ?_)
    have ev8 := jfull v8
    refine z_putI (N := 20) (w := v8.toInt) 1 19 rfl f_11_528 rfl (jfin_no TX1 RX1 20 rfl rfl) hD J Sm rfl rfl rfl (pw_32_19 trivial) rfl (fun h w9 J Sm => ?_)
    refine x_iloadn (x := v5) rfl rfl ?_
    refine x_iret rfl rfl ?_
    show jX m_X11_hold 3 0 0 103 [(0, .ref 31), (1, .int l1), (2, .int l2), (3, .int l3), (4, .int l4)] [.int v5] _ 0 0 _
    refine x_iret rfl rfl ?_
    exact hQ _ _ (jr_of rfl (by omega)) J Sm
  ·
    refine x_aloadn (x := 31) rfl rfl ?_
    refine x_bipush (v := (-5)) rfl kb_m5 ?_
    refine x_inv (N := m_X11_refuse) (As := [.int (-5)]) (b := 31) (st := []) (dx9 := 2) (mc := 0) (ms := 0) (host := "") 11 rfl t_X11_refuse ⟨Or.inl q_11_206, i_X11_refuse.1, i_X11_refuse.2⟩ ⟨by decide, rfl⟩ (congrArg Prod.fst (J.1.1 31 (11, 13) rfl)) rfl (by decide) rfl rfl ⟨by decide, by decide⟩ (jC.of rfl k_X11_refuse rfl ?_)
    show jX m_X11_refuse 2 0 0 0 [(0, .ref 31), (1, .int (-5))] [] _ 0 0 _
    refine x_aloadn (x := 31) rfl rfl ?_
    refine x_iloadn (x := (-5)) rfl rfl ?_
    refine z_putI (N := 13) (w := (-5)) 11 12 rfl f_11_94 rfl (jfin_no TX11 RX11 13 rfl rfl) hD J Sm rfl rfl jk_m5 (pw_31_12 (by omega)) rfl (fun h w10 J Sm => ?_)
    refine x_iloadn (x := (-5)) rfl rfl ?_
    refine x_iret rfl rfl ?_
    show jX m_X11_hold 3 0 0 71 [(0, .ref 31), (1, .int l1), (2, .int l2), (3, .int l3), (4, .int l4)] [.int (-5)] _ 0 0 _
    refine x_iret rfl rfl ?_
    exact hQ _ _ (jr_of jk_m5 (by omega)) J Sm
set_option maxRecDepth 100000 in
set_option maxHeartbeats 4000000 in
theorem sf_X11_hold_r31 {Dy : jH → Prop} {h : jH} {Q : Option Value → jH → Prop} {a1 : Int32} {a2 : Int32} {a3 : Int32} {a4 : Int32} (hD : jDk Dy) (J : jJ jSgX Dy h) (hQ : ∀ (v : Int32) hx9, (-366) ≤ v.toInt ∧ v.toInt ≤ 100 → jJ jSgX Dy hx9 → jSm fp_X11_hold_r31 h hx9 → Q (some (.int v)) hx9) : jC m_X11_hold 3 0 0 [.ref 31, .int a1, .int a2, .int a3, .int a4] h Q := by
  refine jC.of rfl k_X11_hold rfl ?_
  have Sm := jSm_rf fp_X11_hold_r31 h
  have ea1 := jfull a1
  have ea2 := jfull a2
  have ea3 := jfull a3
  have ea4 := jfull a4
  show jX m_X11_hold 3 0 0 0 [(0, .ref 31), (1, .int a1), (2, .int a2), (3, .int a3), (4, .int a4)] [] _ 0 0 _
  refine x_iloadn (x := a3) rfl rfl ?_
  refine x_inst (N := m_X11_isDay) (As := [.int a3]) (st := []) (dx9 := 1) (mc := 0) (ms := 0) (host := "") rfl t_X11_isDay ⟨Or.inl q_11_115, s_X11_isDay⟩ rfl (by decide) rfl rfl ⟨by decide, by decide⟩ (zc_X11_isDay rfl (fun v1 ev1 => ?_))
  show jX m_X11_hold 3 0 0 4 [(0, .ref 31), (1, .int a1), (2, .int a2), (3, .int a3), (4, .int a4)] [.int v1] _ 0 0 _
  refine x_ifeq (tgt := 15) rfl rfl (ti_eq rfl jk_0 ⟨fun c2 => ?_, fun c2 => ?_⟩)
  ·
    exact jX.sub (jsb_c rfl jsb_n) (ct_X11_hold_r31_15 hD hQ  h J Sm)
  ·
    refine x_iload (x := a4) rfl rfl ?_
    refine x_inst (N := m_X11_isDay) (As := [.int a4]) (st := []) (dx9 := 1) (mc := 0) (ms := 0) (host := "") rfl t_X11_isDay ⟨Or.inl q_11_115, s_X11_isDay⟩ rfl (by decide) rfl rfl ⟨by decide, by decide⟩ (zc_X11_isDay rfl (fun v3 ev3 => ?_))
    show jX m_X11_hold 3 0 0 12 [(0, .ref 31), (1, .int a1), (2, .int a2), (3, .int a3), (4, .int a4)] [.int v3] _ 0 0 _
    refine x_ifne (tgt := 21) rfl rfl (ti_ne rfl jk_0 ⟨fun c4 => ?_, fun c4 => ?_⟩)
    ·
      refine x_aloadn (x := 31) rfl rfl ?_
      refine x_iloadn (x := a1) rfl rfl ?_
      refine x_inv (N := m_X11_isHolding) (As := [.int a1]) (b := 31) (st := []) (dx9 := 2) (mc := 0) (ms := 0) (host := "") 11 rfl t_X11_isHolding ⟨Or.inl q_11_415, i_X11_isHolding.1, i_X11_isHolding.2⟩ ⟨by decide, rfl⟩ (congrArg Prod.fst (J.1.1 31 (11, 13) rfl)) rfl (by decide) rfl rfl ⟨by decide, by decide⟩ (jC.of rfl k_X11_isHolding rfl ?_)
      show jX m_X11_isHolding 2 0 0 0 [(0, .ref 31), (1, .int a1)] [] _ 0 0 _
      refine x_iloadn (x := a1) rfl rfl ?_
      refine x_iflt (tgt := 28) rfl rfl (ti_lt rfl jk_0 ⟨fun c5 => ?_, fun c5 => ?_⟩)
      ·
        refine x_iconst (v := 0) rfl ki_0 ?_
        refine x_zret rfl rfl (by decide) ?_
        show jX m_X11_hold 3 0 0 26 [(0, .ref 31), (1, .int a1), (2, .int a2), (3, .int a3), (4, .int a4)] [.int 0] _ 0 0 _
        refine x_ifeq (tgt := 45) rfl rfl (ti_eq jk_0 jk_0 (br_t (by omega) ?_))
        exact jX.sub (jsb_c rfl jsb_n) (ct_X11_hold_r31_45 hD hQ  h J Sm)
      ·
        refine x_iloadn (x := a1) rfl rfl ?_
        refine x_aloadn (x := 31) rfl rfl ?_
        refine z_getR (N := 13) (b := 32) 11 0 rfl f_11_10 rfl J rfl 3968 ⟨rfl, rfl⟩ rfl ?_
        refine z_getR (N := 20) (b := 49) 1 8 rfl f_11_408 rfl J rfl 4104 ⟨rfl, rfl⟩ rfl ?_
        refine z_getI (N := 4) 8 3 rfl f_11_142 rfl J rfl sg_49_3_4_1_0_1 (fun v6 qv6 ev6 => ?_)
        refine x_icge (tgt := 28) rfl rfl (ti_ge rfl rfl ⟨fun c7 => ?_, fun c7 => ?_⟩)
        ·
          refine x_iconst (v := 0) rfl ki_0 ?_
          refine x_zret rfl rfl (by decide) ?_
          show jX m_X11_hold 3 0 0 26 [(0, .ref 31), (1, .int a1), (2, .int a2), (3, .int a3), (4, .int a4)] [.int 0] _ 0 0 _
          refine x_ifeq (tgt := 45) rfl rfl (ti_eq jk_0 jk_0 (br_t (by omega) ?_))
          exact jX.sub (jsb_c rfl jsb_n) (ct_X11_hold_r31_45 hD hQ  h J Sm)
        ·
          refine x_iloadn (x := a1) rfl rfl ?_
          refine x_bipush (v := 40) rfl kb_40 ?_
          refine x_icge (tgt := 28) rfl rfl (ti_ge rfl jk_40 (br_f (by omega) ?_))
          refine x_iconst (v := 1) rfl ki_1 ?_
          refine x_goto (tgt := 29) rfl rfl ?_
          refine x_zret rfl rfl (by decide) ?_
          show jX m_X11_hold 3 0 0 26 [(0, .ref 31), (1, .int a1), (2, .int a2), (3, .int a3), (4, .int a4)] [.int 1] _ 0 0 _
          refine x_ifeq (tgt := 45) rfl rfl (ti_eq jk_1 jk_0 (br_f (by omega) ?_))
          refine x_iloadn (x := a2) rfl rfl ?_
          refine x_iconst (v := (-1)) rfl ki_m1 ?_
          refine x_iceq (tgt := 52) rfl rfl (ti_eq rfl jk_m1 ⟨fun c8 => ?_, fun c8 => ?_⟩)
          ·
            exact jX.sub (jsb_c rfl (jsb_c rfl (jsb_c rfl (jsb_c rfl (jsb_c rfl jsb_n))))) (ct_X11_hold_r31_52 hD hQ  a1 a2 a3 a4 h (jr_of rfl (by omega)) (jr_of rfl (by omega)) (jr_of rfl (by omega)) (jr_of rfl (by omega)) J Sm)
          ·
            refine x_aloadn (x := 31) rfl rfl ?_
            refine z_getR (N := 13) (b := 78) 11 4 rfl f_11_41 rfl J rfl 3972 ⟨rfl, rfl⟩ rfl ?_
            refine x_iloadn (x := a2) rfl rfl ?_
            refine x_inv (N := m_X7_isMention) (As := [.int a2]) (b := 78) (st := []) (dx9 := 2) (mc := 0) (ms := 0) (host := "") 7 rfl t_X7_isMention ⟨Or.inl q_11_187, i_X7_isMention.1, i_X7_isMention.2⟩ ⟨by decide, rfl⟩ (congrArg Prod.fst (J.1.1 78 (7, 16) rfl)) rfl (by decide) rfl rfl ⟨by decide, by decide⟩ (jC.of rfl k_X7_isMention rfl ?_)
            show jX m_X7_isMention 2 0 0 0 [(0, .ref 78), (1, .int a2)] [] _ 0 0 _
            refine x_iloadn (x := a2) rfl rfl ?_
            refine x_iflt (tgt := 41) rfl rfl (ti_lt rfl jk_0 ⟨fun c9 => ?_, fun c9 => ?_⟩)
            ·
              refine x_iconst (v := 0) rfl ki_0 ?_
              refine x_zret rfl rfl (by decide) ?_
              show jX m_X11_hold 3 0 0 42 [(0, .ref 31), (1, .int a1), (2, .int a2), (3, .int a3), (4, .int a4)] [.int 0] _ 0 0 _
              refine x_ifne (tgt := 52) rfl rfl (ti_ne jk_0 jk_0 (bn_f (by omega) ?_))
              exact jX.sub (jsb_c rfl jsb_n) (ct_X11_hold_r31_45 hD hQ  h J Sm)
            ·
              refine x_iloadn (x := a2) rfl rfl ?_
              refine x_sipush (v := 600) rfl ks_600 ?_
              refine x_icge (tgt := 41) rfl rfl (ti_ge rfl jk_600 ⟨fun c10 => ?_, fun c10 => ?_⟩)
              ·
                refine x_iconst (v := 0) rfl ki_0 ?_
                refine x_zret rfl rfl (by decide) ?_
                show jX m_X11_hold 3 0 0 42 [(0, .ref 31), (1, .int a1), (2, .int a2), (3, .int a3), (4, .int a4)] [.int 0] _ 0 0 _
                refine x_ifne (tgt := 52) rfl rfl (ti_ne jk_0 jk_0 (bn_f (by omega) ?_))
                exact jX.sub (jsb_c rfl jsb_n) (ct_X11_hold_r31_45 hD hQ  h J Sm)
              ·
                refine x_iloadn (x := a2) rfl rfl ?_
                refine x_iconst (v := 3) rfl ki_3 ?_
                refine z_idiv rfl rfl jk_3 (by omega) (by omega) (fun v11 ev11 => ?_)
                refine x_aloadn (x := 78) rfl rfl ?_
                refine z_getR (N := 16) (b := 32) 7 0 rfl f_7_55 rfl J rfl 9984 ⟨rfl, rfl⟩ rfl ?_
                refine z_getR (N := 20) (b := 33) 1 0 rfl f_7_63 rfl J rfl 4096 ⟨rfl, rfl⟩ rfl ?_
                refine z_getI (N := 4) 8 3 rfl f_7_85 rfl J rfl sg_33_3_4_1_0_1 (fun v12 qv12 ev12 => ?_)
                refine x_icge (tgt := 41) rfl rfl (ti_ge rfl rfl ⟨fun c13 => ?_, fun c13 => ?_⟩)
                ·
                  refine x_iconst (v := 0) rfl ki_0 ?_
                  refine x_zret rfl rfl (by decide) ?_
                  show jX m_X11_hold 3 0 0 42 [(0, .ref 31), (1, .int a1), (2, .int a2), (3, .int a3), (4, .int a4)] [.int 0] _ 0 0 _
                  refine x_ifne (tgt := 52) rfl rfl (ti_ne jk_0 jk_0 (bn_f (by omega) ?_))
                  exact jX.sub (jsb_c rfl jsb_n) (ct_X11_hold_r31_45 hD hQ  h J Sm)
                ·
                  refine x_aloadn (x := 78) rfl rfl ?_
                  refine z_getR (N := 16) (b := 79) 7 7 rfl f_7_27 rfl J rfl 9991 ⟨rfl, rfl⟩ rfl ?_
                  refine x_iloadn (x := a2) rfl rfl ?_
                  refine z_iald (N := 600) rfl J rfl sg_79_0_600_1_0_1 rfl (by omega) (fun v14 qv14 ev14 => ?_)
                  refine x_iconst (v := (-1)) rfl ki_m1 ?_
                  refine x_iceq (tgt := 41) rfl rfl (ti_eq rfl jk_m1 ⟨fun c15 => ?_, fun c15 => ?_⟩)
                  ·
                    refine x_iconst (v := 0) rfl ki_0 ?_
                    refine x_zret rfl rfl (by decide) ?_
                    show jX m_X11_hold 3 0 0 42 [(0, .ref 31), (1, .int a1), (2, .int a2), (3, .int a3), (4, .int a4)] [.int 0] _ 0 0 _
                    refine x_ifne (tgt := 52) rfl rfl (ti_ne jk_0 jk_0 (bn_f (by omega) ?_))
                    exact jX.sub (jsb_c rfl jsb_n) (ct_X11_hold_r31_45 hD hQ  h J Sm)
                  ·
                    refine x_iconst (v := 1) rfl ki_1 ?_
                    refine x_goto (tgt := 42) rfl rfl ?_
                    refine x_zret rfl rfl (by decide) ?_
                    show jX m_X11_hold 3 0 0 42 [(0, .ref 31), (1, .int a1), (2, .int a2), (3, .int a3), (4, .int a4)] [.int 1] _ 0 0 _
                    refine x_ifne (tgt := 52) rfl rfl (ti_ne jk_1 jk_0 (bn_t (by omega) ?_))
                    exact jX.sub (jsb_c rfl (jsb_c rfl (jsb_c rfl (jsb_c rfl (jsb_c rfl jsb_n))))) (ct_X11_hold_r31_52 hD hQ  a1 a2 a3 a4 h (jr_of rfl (by omega)) (jr_of rfl (by omega)) (jr_of rfl (by omega)) (jr_of rfl (by omega)) J Sm)
    ·
      exact jX.sub (jsb_c rfl jsb_n) (ct_X11_hold_r31_15 hD hQ  h J Sm)
def fp_X8_put_r49_c0 : jFp := [(50, 0, 200)]
set_option maxRecDepth 100000 in
set_option maxHeartbeats 4000000 in
theorem ct_X8_put_r49_c0_38 {Dy : jH → Prop} {h0 : jH} {Q : Option Value → jH → Prop} (hD : jDk Dy) (hQ : ∀ hx9, jJ jSgX Dy hx9 → jSm fp_X8_put_r49_c0 h0 hx9 → Q none hx9) : ∀ (h : jH), jJ jSgX Dy h → jSm fp_X8_put_r49_c0 h0 h → jX m_X8_put 1 0 0 38 [] [] h 0 0 Q := by
  intro  h    J Sm
  refine x_vret rfl rfl ?_
  exact hQ _ J Sm
set_option maxRecDepth 100000 in
set_option maxHeartbeats 4000000 in
theorem sf_X8_put_r49_c0 {Dy : jH → Prop} {h : jH} {Q : Option Value → jH → Prop} {a1 : Int32} {a3 : Int32} (y1 : 0 ≤ a1.toInt ∧ a1.toInt ≤ 39) (y3 : 0 ≤ a3.toInt ∧ a3.toInt ≤ 146399) (hD : jDk Dy) (J : jJ jSgX Dy h) (hQ : ∀ hx9, jJ jSgX Dy hx9 → jSm fp_X8_put_r49_c0 h hx9 → Q none hx9) : jC m_X8_put 1 0 0 [.ref 49, .int a1, .int 0, .int a3] h Q := by
  refine jC.of rfl k_X8_put rfl ?_
  have Sm := jSm_rf fp_X8_put_r49_c0 h
  show jX m_X8_put 1 0 0 0 [(0, .ref 49), (1, .int a1), (2, .int 0), (3, .int a3)] [] _ 0 0 _
  refine x_iloadn (x := a1) rfl rfl ?_
  refine x_iflt (tgt := 38) rfl rfl (ti_lt rfl jk_0 (br_f (by omega) ?_))
  refine x_iloadn (x := a1) rfl rfl ?_
  refine x_aloadn (x := 49) rfl rfl ?_
  refine z_getI (N := 4) 8 3 rfl f_8_7 rfl J rfl sg_49_3_4_1_0_1 (fun v1 qv1 ev1 => ?_)
  refine x_icge (tgt := 38) rfl rfl (ti_ge rfl rfl ⟨fun c2 => ?_, fun c2 => ?_⟩)
  ·
    exact jX.sub jsb_n (ct_X8_put_r49_c0_38 hD hQ  h J Sm)
  ·
    refine x_iloadn (x := 0) rfl rfl ?_
    refine x_iflt (tgt := 38) rfl rfl (ti_lt jk_0 jk_0 (br_f (by omega) ?_))
    refine x_iloadn (x := 0) rfl rfl ?_
    refine x_aloadn (x := 49) rfl rfl ?_
    refine z_getC (N := 4) (v := 5) 8 0 rfl f_8_19 rfl J rfl sg_49_0_1_1_0_1 jk_5 ?_
    refine x_icge (tgt := 38) rfl rfl (ti_ge jk_0 jk_5 (br_f (by omega) ?_))
    refine x_aloadn (x := 49) rfl rfl ?_
    refine z_getR (N := 4) (b := 50) 8 2 rfl f_8_25 rfl J rfl 6274 ⟨rfl, rfl⟩ rfl ?_
    refine x_iloadn (x := a1) rfl rfl ?_
    refine x_aloadn (x := 49) rfl rfl ?_
    refine z_getC (N := 4) (v := 5) 8 0 rfl f_8_19 rfl J rfl sg_49_0_1_1_0_1 jk_5 ?_
    refine z_imul rfl rfl jk_5 (by omega) (fun v3 ev3 => ?_)
    refine x_iloadn (x := 0) rfl rfl ?_
    refine z_iadd rfl rfl jk_0 (by omega) (fun v4 ev4 => ?_)
    refine x_iloadn (x := a3) rfl rfl ?_
    refine z_iast (N := 200) (l := 0) (u := 200) (w := a3.toInt) rfl hD J Sm rfl rfl rfl (by omega) rfl (wr_50 (fun q1 q2 q3 q4 => by omega) (fun q1 q2 q3 q4 => by omega) (fun q1 q2 q3 q4 => by omega) (fun q1 q2 q3 q4 => by omega) (fun q1 q2 q3 q4 => by omega)) rfl (fun h w5 J Sm => ?_)
    exact jX.sub jsb_n (ct_X8_put_r49_c0_38 hD hQ  h J Sm)
def fp_X8_put_r49_c1 : jFp := [(50, 0, 200)]
set_option maxRecDepth 100000 in
set_option maxHeartbeats 4000000 in
theorem ct_X8_put_r49_c1_38 {Dy : jH → Prop} {h0 : jH} {Q : Option Value → jH → Prop} (hD : jDk Dy) (hQ : ∀ hx9, jJ jSgX Dy hx9 → jSm fp_X8_put_r49_c1 h0 hx9 → Q none hx9) : ∀ (h : jH), jJ jSgX Dy h → jSm fp_X8_put_r49_c1 h0 h → jX m_X8_put 1 0 0 38 [] [] h 0 0 Q := by
  intro  h    J Sm
  refine x_vret rfl rfl ?_
  exact hQ _ J Sm
set_option maxRecDepth 100000 in
set_option maxHeartbeats 4000000 in
theorem sf_X8_put_r49_c1 {Dy : jH → Prop} {h : jH} {Q : Option Value → jH → Prop} {a1 : Int32} {a3 : Int32} (y1 : 0 ≤ a1.toInt ∧ a1.toInt ≤ 39) (y3 : 0 ≤ a3.toInt ∧ a3.toInt ≤ 146399) (hD : jDk Dy) (J : jJ jSgX Dy h) (hQ : ∀ hx9, jJ jSgX Dy hx9 → jSm fp_X8_put_r49_c1 h hx9 → Q none hx9) : jC m_X8_put 1 0 0 [.ref 49, .int a1, .int 1, .int a3] h Q := by
  refine jC.of rfl k_X8_put rfl ?_
  have Sm := jSm_rf fp_X8_put_r49_c1 h
  show jX m_X8_put 1 0 0 0 [(0, .ref 49), (1, .int a1), (2, .int 1), (3, .int a3)] [] _ 0 0 _
  refine x_iloadn (x := a1) rfl rfl ?_
  refine x_iflt (tgt := 38) rfl rfl (ti_lt rfl jk_0 (br_f (by omega) ?_))
  refine x_iloadn (x := a1) rfl rfl ?_
  refine x_aloadn (x := 49) rfl rfl ?_
  refine z_getI (N := 4) 8 3 rfl f_8_7 rfl J rfl sg_49_3_4_1_0_1 (fun v1 qv1 ev1 => ?_)
  refine x_icge (tgt := 38) rfl rfl (ti_ge rfl rfl ⟨fun c2 => ?_, fun c2 => ?_⟩)
  ·
    exact jX.sub jsb_n (ct_X8_put_r49_c1_38 hD hQ  h J Sm)
  ·
    refine x_iloadn (x := 1) rfl rfl ?_
    refine x_iflt (tgt := 38) rfl rfl (ti_lt jk_1 jk_0 (br_f (by omega) ?_))
    refine x_iloadn (x := 1) rfl rfl ?_
    refine x_aloadn (x := 49) rfl rfl ?_
    refine z_getC (N := 4) (v := 5) 8 0 rfl f_8_19 rfl J rfl sg_49_0_1_1_0_1 jk_5 ?_
    refine x_icge (tgt := 38) rfl rfl (ti_ge jk_1 jk_5 (br_f (by omega) ?_))
    refine x_aloadn (x := 49) rfl rfl ?_
    refine z_getR (N := 4) (b := 50) 8 2 rfl f_8_25 rfl J rfl 6274 ⟨rfl, rfl⟩ rfl ?_
    refine x_iloadn (x := a1) rfl rfl ?_
    refine x_aloadn (x := 49) rfl rfl ?_
    refine z_getC (N := 4) (v := 5) 8 0 rfl f_8_19 rfl J rfl sg_49_0_1_1_0_1 jk_5 ?_
    refine z_imul rfl rfl jk_5 (by omega) (fun v3 ev3 => ?_)
    refine x_iloadn (x := 1) rfl rfl ?_
    refine z_iadd rfl rfl jk_1 (by omega) (fun v4 ev4 => ?_)
    refine x_iloadn (x := a3) rfl rfl ?_
    refine z_iast (N := 200) (l := 0) (u := 200) (w := a3.toInt) rfl hD J Sm rfl rfl rfl (by omega) rfl (wr_50 (fun q1 q2 q3 q4 => by omega) (fun q1 q2 q3 q4 => by omega) (fun q1 q2 q3 q4 => by omega) (fun q1 q2 q3 q4 => by omega) (fun q1 q2 q3 q4 => by omega)) rfl (fun h w5 J Sm => ?_)
    exact jX.sub jsb_n (ct_X8_put_r49_c1_38 hD hQ  h J Sm)
def fp_X8_put_r49_c2 : jFp := [(50, 0, 200)]
set_option maxRecDepth 100000 in
set_option maxHeartbeats 4000000 in
theorem ct_X8_put_r49_c2_38 {Dy : jH → Prop} {h0 : jH} {Q : Option Value → jH → Prop} (hD : jDk Dy) (hQ : ∀ hx9, jJ jSgX Dy hx9 → jSm fp_X8_put_r49_c2 h0 hx9 → Q none hx9) : ∀ (h : jH), jJ jSgX Dy h → jSm fp_X8_put_r49_c2 h0 h → jX m_X8_put 1 0 0 38 [] [] h 0 0 Q := by
  intro  h    J Sm
  refine x_vret rfl rfl ?_
  exact hQ _ J Sm
set_option maxRecDepth 100000 in
set_option maxHeartbeats 4000000 in
theorem sf_X8_put_r49_c2 {Dy : jH → Prop} {h : jH} {Q : Option Value → jH → Prop} {a1 : Int32} {a3 : Int32} (y1 : 0 ≤ a1.toInt ∧ a1.toInt ≤ 39) (y3 : (-1) ≤ a3.toInt ∧ a3.toInt ≤ 39) (hD : jDk Dy) (J : jJ jSgX Dy h) (hQ : ∀ hx9, jJ jSgX Dy hx9 → jSm fp_X8_put_r49_c2 h hx9 → Q none hx9) : jC m_X8_put 1 0 0 [.ref 49, .int a1, .int 2, .int a3] h Q := by
  refine jC.of rfl k_X8_put rfl ?_
  have Sm := jSm_rf fp_X8_put_r49_c2 h
  show jX m_X8_put 1 0 0 0 [(0, .ref 49), (1, .int a1), (2, .int 2), (3, .int a3)] [] _ 0 0 _
  refine x_iloadn (x := a1) rfl rfl ?_
  refine x_iflt (tgt := 38) rfl rfl (ti_lt rfl jk_0 (br_f (by omega) ?_))
  refine x_iloadn (x := a1) rfl rfl ?_
  refine x_aloadn (x := 49) rfl rfl ?_
  refine z_getI (N := 4) 8 3 rfl f_8_7 rfl J rfl sg_49_3_4_1_0_1 (fun v1 qv1 ev1 => ?_)
  refine x_icge (tgt := 38) rfl rfl (ti_ge rfl rfl ⟨fun c2 => ?_, fun c2 => ?_⟩)
  ·
    exact jX.sub jsb_n (ct_X8_put_r49_c2_38 hD hQ  h J Sm)
  ·
    refine x_iloadn (x := 2) rfl rfl ?_
    refine x_iflt (tgt := 38) rfl rfl (ti_lt jk_2 jk_0 (br_f (by omega) ?_))
    refine x_iloadn (x := 2) rfl rfl ?_
    refine x_aloadn (x := 49) rfl rfl ?_
    refine z_getC (N := 4) (v := 5) 8 0 rfl f_8_19 rfl J rfl sg_49_0_1_1_0_1 jk_5 ?_
    refine x_icge (tgt := 38) rfl rfl (ti_ge jk_2 jk_5 (br_f (by omega) ?_))
    refine x_aloadn (x := 49) rfl rfl ?_
    refine z_getR (N := 4) (b := 50) 8 2 rfl f_8_25 rfl J rfl 6274 ⟨rfl, rfl⟩ rfl ?_
    refine x_iloadn (x := a1) rfl rfl ?_
    refine x_aloadn (x := 49) rfl rfl ?_
    refine z_getC (N := 4) (v := 5) 8 0 rfl f_8_19 rfl J rfl sg_49_0_1_1_0_1 jk_5 ?_
    refine z_imul rfl rfl jk_5 (by omega) (fun v3 ev3 => ?_)
    refine x_iloadn (x := 2) rfl rfl ?_
    refine z_iadd rfl rfl jk_2 (by omega) (fun v4 ev4 => ?_)
    refine x_iloadn (x := a3) rfl rfl ?_
    refine z_iast (N := 200) (l := 0) (u := 200) (w := a3.toInt) rfl hD J Sm rfl rfl rfl (by omega) rfl (wr_50 (fun q1 q2 q3 q4 => by omega) (fun q1 q2 q3 q4 => by omega) (fun q1 q2 q3 q4 => by omega) (fun q1 q2 q3 q4 => by omega) (fun q1 q2 q3 q4 => by omega)) rfl (fun h w5 J Sm => ?_)
    exact jX.sub jsb_n (ct_X8_put_r49_c2_38 hD hQ  h J Sm)
def fp_X8_put_r49_c3 : jFp := [(50, 0, 200)]
set_option maxRecDepth 100000 in
set_option maxHeartbeats 4000000 in
theorem ct_X8_put_r49_c3_38 {Dy : jH → Prop} {h0 : jH} {Q : Option Value → jH → Prop} (hD : jDk Dy) (hQ : ∀ hx9, jJ jSgX Dy hx9 → jSm fp_X8_put_r49_c3 h0 hx9 → Q none hx9) : ∀ (h : jH), jJ jSgX Dy h → jSm fp_X8_put_r49_c3 h0 h → jX m_X8_put 1 0 0 38 [] [] h 0 0 Q := by
  intro  h    J Sm
  refine x_vret rfl rfl ?_
  exact hQ _ J Sm
set_option maxRecDepth 100000 in
set_option maxHeartbeats 4000000 in
theorem sf_X8_put_r49_c3 {Dy : jH → Prop} {h : jH} {Q : Option Value → jH → Prop} {a1 : Int32} {a3 : Int32} (y1 : 0 ≤ a1.toInt ∧ a1.toInt ≤ 39) (y3 : 0 ≤ a3.toInt ∧ a3.toInt ≤ 99) (hD : jDk Dy) (J : jJ jSgX Dy h) (hQ : ∀ hx9, jJ jSgX Dy hx9 → jSm fp_X8_put_r49_c3 h hx9 → Q none hx9) : jC m_X8_put 1 0 0 [.ref 49, .int a1, .int 3, .int a3] h Q := by
  refine jC.of rfl k_X8_put rfl ?_
  have Sm := jSm_rf fp_X8_put_r49_c3 h
  show jX m_X8_put 1 0 0 0 [(0, .ref 49), (1, .int a1), (2, .int 3), (3, .int a3)] [] _ 0 0 _
  refine x_iloadn (x := a1) rfl rfl ?_
  refine x_iflt (tgt := 38) rfl rfl (ti_lt rfl jk_0 (br_f (by omega) ?_))
  refine x_iloadn (x := a1) rfl rfl ?_
  refine x_aloadn (x := 49) rfl rfl ?_
  refine z_getI (N := 4) 8 3 rfl f_8_7 rfl J rfl sg_49_3_4_1_0_1 (fun v1 qv1 ev1 => ?_)
  refine x_icge (tgt := 38) rfl rfl (ti_ge rfl rfl ⟨fun c2 => ?_, fun c2 => ?_⟩)
  ·
    exact jX.sub jsb_n (ct_X8_put_r49_c3_38 hD hQ  h J Sm)
  ·
    refine x_iloadn (x := 3) rfl rfl ?_
    refine x_iflt (tgt := 38) rfl rfl (ti_lt jk_3 jk_0 (br_f (by omega) ?_))
    refine x_iloadn (x := 3) rfl rfl ?_
    refine x_aloadn (x := 49) rfl rfl ?_
    refine z_getC (N := 4) (v := 5) 8 0 rfl f_8_19 rfl J rfl sg_49_0_1_1_0_1 jk_5 ?_
    refine x_icge (tgt := 38) rfl rfl (ti_ge jk_3 jk_5 (br_f (by omega) ?_))
    refine x_aloadn (x := 49) rfl rfl ?_
    refine z_getR (N := 4) (b := 50) 8 2 rfl f_8_25 rfl J rfl 6274 ⟨rfl, rfl⟩ rfl ?_
    refine x_iloadn (x := a1) rfl rfl ?_
    refine x_aloadn (x := 49) rfl rfl ?_
    refine z_getC (N := 4) (v := 5) 8 0 rfl f_8_19 rfl J rfl sg_49_0_1_1_0_1 jk_5 ?_
    refine z_imul rfl rfl jk_5 (by omega) (fun v3 ev3 => ?_)
    refine x_iloadn (x := 3) rfl rfl ?_
    refine z_iadd rfl rfl jk_3 (by omega) (fun v4 ev4 => ?_)
    refine x_iloadn (x := a3) rfl rfl ?_
    refine z_iast (N := 200) (l := 0) (u := 200) (w := a3.toInt) rfl hD J Sm rfl rfl rfl (by omega) rfl (wr_50 (fun q1 q2 q3 q4 => by omega) (fun q1 q2 q3 q4 => by omega) (fun q1 q2 q3 q4 => by omega) (fun q1 q2 q3 q4 => by omega) (fun q1 q2 q3 q4 => by omega)) rfl (fun h w5 J Sm => ?_)
    exact jX.sub jsb_n (ct_X8_put_r49_c3_38 hD hQ  h J Sm)
def fp_X8_put_r49_c4 : jFp := [(50, 0, 200)]
set_option maxRecDepth 100000 in
set_option maxHeartbeats 4000000 in
theorem ct_X8_put_r49_c4_38 {Dy : jH → Prop} {h0 : jH} {Q : Option Value → jH → Prop} (hD : jDk Dy) (hQ : ∀ hx9, jJ jSgX Dy hx9 → jSm fp_X8_put_r49_c4 h0 hx9 → Q none hx9) : ∀ (h : jH), jJ jSgX Dy h → jSm fp_X8_put_r49_c4 h0 h → jX m_X8_put 1 0 0 38 [] [] h 0 0 Q := by
  intro  h    J Sm
  refine x_vret rfl rfl ?_
  exact hQ _ J Sm
set_option maxRecDepth 100000 in
set_option maxHeartbeats 4000000 in
theorem sf_X8_put_r49_c4 {Dy : jH → Prop} {h : jH} {Q : Option Value → jH → Prop} {a1 : Int32} {a3 : Int32} (y1 : 0 ≤ a1.toInt ∧ a1.toInt ≤ 39) (y3 : 0 ≤ a3.toInt ∧ a3.toInt ≤ 100) (hD : jDk Dy) (J : jJ jSgX Dy h) (hQ : ∀ hx9, jJ jSgX Dy hx9 → jSm fp_X8_put_r49_c4 h hx9 → Q none hx9) : jC m_X8_put 1 0 0 [.ref 49, .int a1, .int 4, .int a3] h Q := by
  refine jC.of rfl k_X8_put rfl ?_
  have Sm := jSm_rf fp_X8_put_r49_c4 h
  show jX m_X8_put 1 0 0 0 [(0, .ref 49), (1, .int a1), (2, .int 4), (3, .int a3)] [] _ 0 0 _
  refine x_iloadn (x := a1) rfl rfl ?_
  refine x_iflt (tgt := 38) rfl rfl (ti_lt rfl jk_0 (br_f (by omega) ?_))
  refine x_iloadn (x := a1) rfl rfl ?_
  refine x_aloadn (x := 49) rfl rfl ?_
  refine z_getI (N := 4) 8 3 rfl f_8_7 rfl J rfl sg_49_3_4_1_0_1 (fun v1 qv1 ev1 => ?_)
  refine x_icge (tgt := 38) rfl rfl (ti_ge rfl rfl ⟨fun c2 => ?_, fun c2 => ?_⟩)
  ·
    exact jX.sub jsb_n (ct_X8_put_r49_c4_38 hD hQ  h J Sm)
  ·
    refine x_iloadn (x := 4) rfl rfl ?_
    refine x_iflt (tgt := 38) rfl rfl (ti_lt jk_4 jk_0 (br_f (by omega) ?_))
    refine x_iloadn (x := 4) rfl rfl ?_
    refine x_aloadn (x := 49) rfl rfl ?_
    refine z_getC (N := 4) (v := 5) 8 0 rfl f_8_19 rfl J rfl sg_49_0_1_1_0_1 jk_5 ?_
    refine x_icge (tgt := 38) rfl rfl (ti_ge jk_4 jk_5 (br_f (by omega) ?_))
    refine x_aloadn (x := 49) rfl rfl ?_
    refine z_getR (N := 4) (b := 50) 8 2 rfl f_8_25 rfl J rfl 6274 ⟨rfl, rfl⟩ rfl ?_
    refine x_iloadn (x := a1) rfl rfl ?_
    refine x_aloadn (x := 49) rfl rfl ?_
    refine z_getC (N := 4) (v := 5) 8 0 rfl f_8_19 rfl J rfl sg_49_0_1_1_0_1 jk_5 ?_
    refine z_imul rfl rfl jk_5 (by omega) (fun v3 ev3 => ?_)
    refine x_iloadn (x := 4) rfl rfl ?_
    refine z_iadd rfl rfl jk_4 (by omega) (fun v4 ev4 => ?_)
    refine x_iloadn (x := a3) rfl rfl ?_
    refine z_iast (N := 200) (l := 0) (u := 200) (w := a3.toInt) rfl hD J Sm rfl rfl rfl (by omega) rfl (wr_50 (fun q1 q2 q3 q4 => by omega) (fun q1 q2 q3 q4 => by omega) (fun q1 q2 q3 q4 => by omega) (fun q1 q2 q3 q4 => by omega) (fun q1 q2 q3 q4 => by omega)) rfl (fun h w5 J Sm => ?_)
    exact jX.sub jsb_n (ct_X8_put_r49_c4_38 hD hQ  h J Sm)
def fp_X8_put_r49_c5 : jFp := []
set_option maxRecDepth 100000 in
set_option maxHeartbeats 4000000 in
theorem ct_X8_put_r49_c5_38 {Dy : jH → Prop} {h0 : jH} {Q : Option Value → jH → Prop} (hD : jDk Dy) (hQ : ∀ hx9, jJ jSgX Dy hx9 → jSm fp_X8_put_r49_c5 h0 hx9 → Q none hx9) : ∀ (h : jH), jJ jSgX Dy h → jSm fp_X8_put_r49_c5 h0 h → jX m_X8_put 1 0 0 38 [] [] h 0 0 Q := by
  intro  h    J Sm
  refine x_vret rfl rfl ?_
  exact hQ _ J Sm
set_option maxRecDepth 100000 in
set_option maxHeartbeats 4000000 in
theorem sf_X8_put_r49_c5 {Dy : jH → Prop} {h : jH} {Q : Option Value → jH → Prop} {a1 : Int32} {a3 : Int32} (y1 : 0 ≤ a1.toInt ∧ a1.toInt ≤ 39) (y3 : 0 ≤ a3.toInt ∧ a3.toInt ≤ 0) (hD : jDk Dy) (J : jJ jSgX Dy h) (hQ : ∀ hx9, jJ jSgX Dy hx9 → jSm fp_X8_put_r49_c5 h hx9 → Q none hx9) : jC m_X8_put 1 0 0 [.ref 49, .int a1, .int 5, .int a3] h Q := by
  refine jC.of rfl k_X8_put rfl ?_
  have Sm := jSm_rf fp_X8_put_r49_c5 h
  show jX m_X8_put 1 0 0 0 [(0, .ref 49), (1, .int a1), (2, .int 5), (3, .int a3)] [] _ 0 0 _
  refine x_iloadn (x := a1) rfl rfl ?_
  refine x_iflt (tgt := 38) rfl rfl (ti_lt rfl jk_0 (br_f (by omega) ?_))
  refine x_iloadn (x := a1) rfl rfl ?_
  refine x_aloadn (x := 49) rfl rfl ?_
  refine z_getI (N := 4) 8 3 rfl f_8_7 rfl J rfl sg_49_3_4_1_0_1 (fun v1 qv1 ev1 => ?_)
  refine x_icge (tgt := 38) rfl rfl (ti_ge rfl rfl ⟨fun c2 => ?_, fun c2 => ?_⟩)
  ·
    exact jX.sub jsb_n (ct_X8_put_r49_c5_38 hD hQ  h J Sm)
  ·
    refine x_iloadn (x := 5) rfl rfl ?_
    refine x_iflt (tgt := 38) rfl rfl (ti_lt jk_5 jk_0 (br_f (by omega) ?_))
    refine x_iloadn (x := 5) rfl rfl ?_
    refine x_aloadn (x := 49) rfl rfl ?_
    refine z_getC (N := 4) (v := 5) 8 0 rfl f_8_19 rfl J rfl sg_49_0_1_1_0_1 jk_5 ?_
    refine x_icge (tgt := 38) rfl rfl (ti_ge jk_5 jk_5 (br_t (by omega) ?_))
    exact jX.sub jsb_n (ct_X8_put_r49_c5_38 hD hQ  h J Sm)
def fp_X8_add_r49 : jFp := [(49, 3, 4), (50, 0, 200)]
set_option maxRecDepth 100000 in
set_option maxHeartbeats 4000000 in
theorem sf_X8_add_r49 {Dy : jH → Prop} {h : jH} {Q : Option Value → jH → Prop} {a1 : Int32} {a2 : Int32} {a3 : Int32} {a4 : Int32} {a5 : Int32} {a6 : Int32} (y1 : 0 ≤ a1.toInt ∧ a1.toInt ≤ 146399) (y2 : 0 ≤ a2.toInt ∧ a2.toInt ≤ 146399) (y3 : (-1) ≤ a3.toInt ∧ a3.toInt ≤ 39) (y4 : 0 ≤ a4.toInt ∧ a4.toInt ≤ 99) (y5 : 0 ≤ a5.toInt ∧ a5.toInt ≤ 100) (y6 : 0 ≤ a6.toInt ∧ a6.toInt ≤ 0) (hD : jDk Dy) (J : jJ jSgX Dy h) (hQ : ∀ hx9, jJ jSgX Dy hx9 → jSm fp_X8_add_r49 h hx9 → Q none hx9) : jC m_X8_add 2 0 0 [.ref 49, .int a1, .int a2, .int a3, .int a4, .int a5, .int a6] h Q := by
  refine jC.of rfl k_X8_add rfl ?_
  have Sm := jSm_rf fp_X8_add_r49 h
  show jX m_X8_add 2 0 0 0 [(0, .ref 49), (1, .int a1), (2, .int a2), (3, .int a3), (4, .int a4), (5, .int a5), (6, .int a6)] [] _ 0 0 _
  refine x_aloadn (x := 49) rfl rfl ?_
  refine z_getI (N := 4) 8 3 rfl f_8_7 rfl J rfl sg_49_3_4_1_0_1 (fun v1 qv1 ev1 => ?_)
  refine x_aloadn (x := 49) rfl rfl ?_
  refine z_getC (N := 4) (v := 40) 8 1 rfl f_8_22 rfl J rfl sg_49_1_2_1_0_1 jk_40 ?_
  refine x_iclt (tgt := 12) rfl rfl (ti_lt rfl jk_40 ⟨fun c2 => ?_, fun c2 => ?_⟩)
  ·
    refine x_aloadn (x := 49) rfl rfl ?_
    refine z_getM (N := 4) (v := v1) 8 3 rfl f_8_7 rfl J rfl qv1 ?_
    refine x_istore (lsx9 := [(7, .int v1), (0, .ref 49), (1, .int a1), (2, .int a2), (3, .int a3), (4, .int a4), (5, .int a5), (6, .int a6)]) rfl rfl rfl ?_
    refine x_aloadn (x := 49) rfl rfl ?_
    refine x_iload (x := v1) rfl rfl ?_
    refine x_iconst (v := 1) rfl ki_1 ?_
    refine z_iadd rfl rfl jk_1 (by omega) (fun v3 ev3 => ?_)
    refine z_putI (N := 4) (w := v3.toInt) 8 3 rfl f_8_7 rfl (jfin_no TX8 RX8 4 rfl rfl) hD J Sm rfl rfl rfl (pw_49_3 (by omega)) rfl (fun h w4 J Sm => ?_)
    refine x_aloadn (x := 49) rfl rfl ?_
    refine x_iload (x := v1) rfl rfl ?_
    refine x_iconst (v := 0) rfl ki_0 ?_
    refine x_iloadn (x := a1) rfl rfl ?_
    refine x_inv (N := m_X8_put) (As := [.int v1, .int 0, .int a1]) (b := 49) (st := []) (dx9 := 1) (mc := 0) (ms := 0) (host := "") 8 rfl t_X8_put ⟨Or.inl q_8_29, i_X8_put.1, i_X8_put.2⟩ ⟨by decide, rfl⟩ (congrArg Prod.fst (J.1.1 49 (8, 4) rfl)) rfl (by decide) rfl rfl ⟨by decide, by decide⟩ (sf_X8_put_r49_c0 (jr_of rfl (by omega)) (jr_of rfl (by omega)) hD J  (fun h J S5 => ?_))
    have Sm := jSm_tr rfl Sm S5
    show jX m_X8_add 2 0 0 34 [(7, .int v1), (0, .ref 49), (1, .int a1), (2, .int a2), (3, .int a3), (4, .int a4), (5, .int a5), (6, .int a6)] [] _ 0 0 _
    refine x_aloadn (x := 49) rfl rfl ?_
    refine x_iload (x := v1) rfl rfl ?_
    refine x_iconst (v := 1) rfl ki_1 ?_
    refine x_iloadn (x := a2) rfl rfl ?_
    refine x_inv (N := m_X8_put) (As := [.int v1, .int 1, .int a2]) (b := 49) (st := []) (dx9 := 1) (mc := 0) (ms := 0) (host := "") 8 rfl t_X8_put ⟨Or.inl q_8_29, i_X8_put.1, i_X8_put.2⟩ ⟨by decide, rfl⟩ (congrArg Prod.fst (J.1.1 49 (8, 4) rfl)) rfl (by decide) rfl rfl ⟨by decide, by decide⟩ (sf_X8_put_r49_c1 (jr_of rfl (by omega)) (jr_of rfl (by omega)) hD J  (fun h J S6 => ?_))
    have Sm := jSm_tr rfl Sm S6
    show jX m_X8_add 2 0 0 42 [(7, .int v1), (0, .ref 49), (1, .int a1), (2, .int a2), (3, .int a3), (4, .int a4), (5, .int a5), (6, .int a6)] [] _ 0 0 _
    refine x_aloadn (x := 49) rfl rfl ?_
    refine x_iload (x := v1) rfl rfl ?_
    refine x_iconst (v := 2) rfl ki_2 ?_
    refine x_iloadn (x := a3) rfl rfl ?_
    refine x_inv (N := m_X8_put) (As := [.int v1, .int 2, .int a3]) (b := 49) (st := []) (dx9 := 1) (mc := 0) (ms := 0) (host := "") 8 rfl t_X8_put ⟨Or.inl q_8_29, i_X8_put.1, i_X8_put.2⟩ ⟨by decide, rfl⟩ (congrArg Prod.fst (J.1.1 49 (8, 4) rfl)) rfl (by decide) rfl rfl ⟨by decide, by decide⟩ (sf_X8_put_r49_c2 (jr_of rfl (by omega)) (jr_of rfl (by omega)) hD J  (fun h J S7 => ?_))
    have Sm := jSm_tr rfl Sm S7
    show jX m_X8_add 2 0 0 50 [(7, .int v1), (0, .ref 49), (1, .int a1), (2, .int a2), (3, .int a3), (4, .int a4), (5, .int a5), (6, .int a6)] [] _ 0 0 _
    refine x_aloadn (x := 49) rfl rfl ?_
    refine x_iload (x := v1) rfl rfl ?_
    refine x_iconst (v := 3) rfl ki_3 ?_
    refine x_iload (x := a4) rfl rfl ?_
    refine x_inv (N := m_X8_put) (As := [.int v1, .int 3, .int a4]) (b := 49) (st := []) (dx9 := 1) (mc := 0) (ms := 0) (host := "") 8 rfl t_X8_put ⟨Or.inl q_8_29, i_X8_put.1, i_X8_put.2⟩ ⟨by decide, rfl⟩ (congrArg Prod.fst (J.1.1 49 (8, 4) rfl)) rfl (by decide) rfl rfl ⟨by decide, by decide⟩ (sf_X8_put_r49_c3 (jr_of rfl (by omega)) (jr_of rfl (by omega)) hD J  (fun h J S8 => ?_))
    have Sm := jSm_tr rfl Sm S8
    show jX m_X8_add 2 0 0 59 [(7, .int v1), (0, .ref 49), (1, .int a1), (2, .int a2), (3, .int a3), (4, .int a4), (5, .int a5), (6, .int a6)] [] _ 0 0 _
    refine x_aloadn (x := 49) rfl rfl ?_
    refine x_iload (x := v1) rfl rfl ?_
    refine x_iconst (v := 4) rfl ki_4 ?_
    refine x_iload (x := a5) rfl rfl ?_
    refine x_inv (N := m_X8_put) (As := [.int v1, .int 4, .int a5]) (b := 49) (st := []) (dx9 := 1) (mc := 0) (ms := 0) (host := "") 8 rfl t_X8_put ⟨Or.inl q_8_29, i_X8_put.1, i_X8_put.2⟩ ⟨by decide, rfl⟩ (congrArg Prod.fst (J.1.1 49 (8, 4) rfl)) rfl (by decide) rfl rfl ⟨by decide, by decide⟩ (sf_X8_put_r49_c4 (jr_of rfl (by omega)) (jr_of rfl (by omega)) hD J  (fun h J S9 => ?_))
    have Sm := jSm_tr rfl Sm S9
    show jX m_X8_add 2 0 0 68 [(7, .int v1), (0, .ref 49), (1, .int a1), (2, .int a2), (3, .int a3), (4, .int a4), (5, .int a5), (6, .int a6)] [] _ 0 0 _
    refine x_aloadn (x := 49) rfl rfl ?_
    refine x_iload (x := v1) rfl rfl ?_
    refine x_iconst (v := 5) rfl ki_5 ?_
    refine x_iload (x := a6) rfl rfl ?_
    refine x_inv (N := m_X8_put) (As := [.int v1, .int 5, .int a6]) (b := 49) (st := []) (dx9 := 1) (mc := 0) (ms := 0) (host := "") 8 rfl t_X8_put ⟨Or.inl q_8_29, i_X8_put.1, i_X8_put.2⟩ ⟨by decide, rfl⟩ (congrArg Prod.fst (J.1.1 49 (8, 4) rfl)) rfl (by decide) rfl rfl ⟨by decide, by decide⟩ (sf_X8_put_r49_c5 (jr_of rfl (by omega)) (jr_of rfl (by omega)) hD J  (fun h J S10 => ?_))
    have Sm := jSm_tr rfl Sm S10
    show jX m_X8_add 2 0 0 77 [(7, .int v1), (0, .ref 49), (1, .int a1), (2, .int a2), (3, .int a3), (4, .int a4), (5, .int a5), (6, .int a6)] [] _ 0 0 _
    refine x_vret rfl rfl ?_
    exact hQ _ J Sm
  ·
    refine x_vret rfl rfl ?_
    exact hQ _ J Sm
def fp_X8_isFull_r49 : jFp := []
set_option maxRecDepth 100000 in
set_option maxHeartbeats 4000000 in
theorem ct_X8_isFull_r49_200016 {Dy : jH → Prop} {h0 : jH} {Q : Option Value → jH → Prop} (hD : jDk Dy) (hQ : ∀ (v : Int32) hx9, 0 ≤ v.toInt ∧ v.toInt ≤ 1 → jJ jSgX Dy hx9 → jSm fp_X8_isFull_r49 h0 hx9 → Q (some (.int v)) hx9) : ∀ (h : jH), jJ jSgX Dy h → jSm fp_X8_isFull_r49 h0 h → jX m_X8_isFull 1 0 0 16 [] [.int 0] h 0 0 Q := by
  intro  h    J Sm
  refine x_zret rfl rfl (by decide) ?_
  exact hQ _ _ (jr_of jk_0 (by omega)) J Sm
set_option maxRecDepth 100000 in
set_option maxHeartbeats 4000000 in
theorem ct_X8_isFull_r49_300016 {Dy : jH → Prop} {h0 : jH} {Q : Option Value → jH → Prop} (hD : jDk Dy) (hQ : ∀ (v : Int32) hx9, 0 ≤ v.toInt ∧ v.toInt ≤ 1 → jJ jSgX Dy hx9 → jSm fp_X8_isFull_r49 h0 hx9 → Q (some (.int v)) hx9) : ∀ (h : jH), jJ jSgX Dy h → jSm fp_X8_isFull_r49 h0 h → jX m_X8_isFull 1 0 0 16 [] [.int 1] h 0 0 Q := by
  intro  h    J Sm
  refine x_zret rfl rfl (by decide) ?_
  exact hQ _ _ (jr_of jk_1 (by omega)) J Sm
set_option maxRecDepth 100000 in
set_option maxHeartbeats 4000000 in
theorem sf_X8_isFull_r49 {Dy : jH → Prop} {h : jH} {Q : Option Value → jH → Prop} (hD : jDk Dy) (J : jJ jSgX Dy h) (hQ : ∀ (v : Int32) hx9, 0 ≤ v.toInt ∧ v.toInt ≤ 1 → jJ jSgX Dy hx9 → jSm fp_X8_isFull_r49 h hx9 → Q (some (.int v)) hx9) : jC m_X8_isFull 1 0 0 [.ref 49] h Q := by
  refine jC.of rfl k_X8_isFull rfl ?_
  have Sm := jSm_rf fp_X8_isFull_r49 h
  show jX m_X8_isFull 1 0 0 0 [(0, .ref 49)] [] _ 0 0 _
  refine x_aloadn (x := 49) rfl rfl ?_
  refine z_getI (N := 4) 8 3 rfl f_8_7 rfl J rfl sg_49_3_4_1_0_1 (fun v1 qv1 ev1 => ?_)
  refine x_aloadn (x := 49) rfl rfl ?_
  refine z_getC (N := 4) (v := 40) 8 1 rfl f_8_22 rfl J rfl sg_49_1_2_1_0_1 jk_40 ?_
  refine x_iclt (tgt := 15) rfl rfl (ti_lt rfl jk_40 ⟨fun c2 => ?_, fun c2 => ?_⟩)
  ·
    refine x_iconst (v := 0) rfl ki_0 ?_
    exact jX.sub jsb_n (ct_X8_isFull_r49_200016 hD hQ  h J Sm)
  ·
    refine x_iconst (v := 1) rfl ki_1 ?_
    refine x_goto (tgt := 16) rfl rfl ?_
    exact jX.sub jsb_n (ct_X8_isFull_r49_300016 hD hQ  h J Sm)
def fp_X11_holding_r31 : jFp := [(31, 12, 13), (32, 19, 20), (49, 3, 4), (50, 0, 200), (63, 3, 4), (64, 0, 740)]
set_option maxRecDepth 100000 in
set_option maxHeartbeats 4000000 in
theorem sf_X11_holding_r31 {Dy : jH → Prop} {h : jH} {Q : Option Value → jH → Prop} (hD : jDk Dy) (J : jJ jSgX Dy h) (hQ : ∀ (v : Int32) hx9, (-366) ≤ v.toInt ∧ v.toInt ≤ 40 → jJ jSgX Dy hx9 → jSm fp_X11_holding_r31 h hx9 → Q (some (.int v)) hx9) : jC m_X11_holding 4 0 0 [.ref 31] h Q := by
  refine jC.of rfl k_X11_holding rfl ?_
  have Sm := jSm_rf fp_X11_holding_r31 h
  show jX m_X11_holding 4 0 0 0 [(0, .ref 31)] [] _ 0 0 _
  refine x_aloadn (x := 31) rfl rfl ?_
  refine z_getR (N := 13) (b := 32) 11 0 rfl f_11_10 rfl J rfl 3968 ⟨rfl, rfl⟩ rfl ?_
  refine z_getR (N := 20) (b := 49) 1 8 rfl f_11_408 rfl J rfl 4104 ⟨rfl, rfl⟩ rfl ?_
  refine x_inv (N := m_X8_isFull) (As := []) (b := 49) (st := []) (dx9 := 1) (mc := 0) (ms := 0) (host := "") 8 rfl t_X8_isFull ⟨Or.inl q_11_130, i_X8_isFull.1, i_X8_isFull.2⟩ ⟨by decide, rfl⟩ (congrArg Prod.fst (J.1.1 49 (8, 4) rfl)) rfl (by decide) rfl rfl ⟨by decide, by decide⟩ (sf_X8_isFull_r49  hD J  (fun v2 h ev2 J S1 => ?_))
  have Sm := jSm_tr rfl Sm S1
  show jX m_X11_holding 4 0 0 10 [(0, .ref 31)] [.int v2] _ 0 0 _
  refine x_ifeq (tgt := 20) rfl rfl (ti_eq rfl jk_0 ⟨fun c3 => ?_, fun c3 => ?_⟩)
  ·
    refine x_aloadn (x := 31) rfl rfl ?_
    refine x_aloadn (x := 31) rfl rfl ?_
    refine x_iconst (v := (-1)) rfl ki_m1 ?_
    refine x_iconst (v := 0) rfl ki_0 ?_
    refine x_iconst (v := 0) rfl ki_0 ?_
    refine x_iconst (v := 0) rfl ki_0 ?_
    refine x_iconst (v := 0) rfl ki_0 ?_
    refine x_inv (N := m_X11_addHolding) (As := [.int (-1), .int 0, .int 0, .int 0, .int 0]) (b := 31) (st := [.ref 31]) (dx9 := 3) (mc := 0) (ms := 0) (host := "") 11 rfl t_X11_addHolding ⟨Or.inl q_11_411, i_X11_addHolding.1, i_X11_addHolding.2⟩ ⟨by decide, rfl⟩ (congrArg Prod.fst (J.1.1 31 (11, 13) rfl)) rfl (by decide) rfl rfl ⟨by decide, by decide⟩ (jC.of rfl k_X11_addHolding rfl ?_)
    show jX m_X11_addHolding 3 0 0 0 [(0, .ref 31), (1, .int (-1)), (2, .int 0), (3, .int 0), (4, .int 0), (5, .int 0)] [] _ 0 0 _
    refine x_aloadn (x := 31) rfl rfl ?_
    refine z_getR (N := 13) (b := 32) 11 0 rfl f_11_10 rfl J rfl 3968 ⟨rfl, rfl⟩ rfl ?_
    refine z_getR (N := 20) (b := 49) 1 8 rfl f_11_408 rfl J rfl 4104 ⟨rfl, rfl⟩ rfl ?_
    refine z_getI (N := 4) 8 3 rfl f_11_142 rfl J rfl sg_49_3_4_1_0_1 (fun v4 qv4 ev4 => ?_)
    refine x_istore (lsx9 := [(6, .int v4), (0, .ref 31), (1, .int (-1)), (2, .int 0), (3, .int 0), (4, .int 0), (5, .int 0)]) rfl rfl rfl ?_
    refine x_aloadn (x := 31) rfl rfl ?_
    refine z_getR (N := 13) (b := 32) 11 0 rfl f_11_10 rfl J rfl 3968 ⟨rfl, rfl⟩ rfl ?_
    refine z_getR (N := 20) (b := 49) 1 8 rfl f_11_408 rfl J rfl 4104 ⟨rfl, rfl⟩ rfl ?_
    refine x_iload (x := 0) rfl rfl ?_
    refine x_iload (x := 0) rfl rfl ?_
    refine x_iloadn (x := (-1)) rfl rfl ?_
    refine x_iloadn (x := 0) rfl rfl ?_
    refine x_iloadn (x := 0) rfl rfl ?_
    refine x_iconst (v := 0) rfl ki_0 ?_
    refine x_inv (N := m_X8_add) (As := [.int 0, .int 0, .int (-1), .int 0, .int 0, .int 0]) (b := 49) (st := []) (dx9 := 2) (mc := 0) (ms := 0) (host := "") 8 rfl t_X8_add ⟨Or.inl q_11_145, i_X8_add.1, i_X8_add.2⟩ ⟨by decide, rfl⟩ (congrArg Prod.fst (J.1.1 49 (8, 4) rfl)) rfl (by decide) rfl rfl ⟨by decide, by decide⟩ (sf_X8_add_r49 (jr_of jk_0 (by omega)) (jr_of jk_0 (by omega)) (jr_of jk_m1 (by omega)) (jr_of jk_0 (by omega)) (jr_of jk_0 (by omega)) (jr_of jk_0 (by omega)) hD J  (fun h J S5 => ?_))
    have Sm := jSm_tr rfl Sm S5
    show jX m_X11_addHolding 3 0 0 30 [(6, .int v4), (0, .ref 31), (1, .int (-1)), (2, .int 0), (3, .int 0), (4, .int 0), (5, .int 0)] [] _ 0 0 _
    refine x_aloadn (x := 31) rfl rfl ?_
    refine z_getR (N := 13) (b := 32) 11 0 rfl f_11_10 rfl J rfl 3968 ⟨rfl, rfl⟩ rfl ?_
    refine z_getR (N := 20) (b := 63) 1 15 rfl f_11_159 rfl J rfl 4111 ⟨rfl, rfl⟩ rfl ?_
    refine x_iconst (v := 3) rfl ki_3 ?_
    refine x_iload (x := v4) rfl rfl ?_
    refine x_iconst (v := 0) rfl ki_0 ?_
    refine x_iconst (v := 0) rfl ki_0 ?_
    refine x_iconst (v := 0) rfl ki_0 ?_
    refine x_iconst (v := 0) rfl ki_0 ?_
    refine x_inv (N := m_X8_add) (As := [.int 3, .int v4, .int 0, .int 0, .int 0, .int 0]) (b := 63) (st := []) (dx9 := 2) (mc := 0) (ms := 0) (host := "") 8 rfl t_X8_add ⟨Or.inl q_11_145, i_X8_add.1, i_X8_add.2⟩ ⟨by decide, rfl⟩ (congrArg Prod.fst (J.1.1 63 (8, 4) rfl)) rfl (by decide) rfl rfl ⟨by decide, by decide⟩ (sf_X8_add_r63 (jr_of jk_3 (by omega)) (jr_of rfl (by omega)) (jr_of jk_0 (by omega)) (jr_of jk_0 (by omega)) (jr_of jk_0 (by omega)) (jr_of jk_0 (by omega)) hD J  (fun h J S6 => ?_))
    have Sm := jSm_tr rfl Sm S6
    show jX m_X11_addHolding 3 0 0 47 [(6, .int v4), (0, .ref 31), (1, .int (-1)), (2, .int 0), (3, .int 0), (4, .int 0), (5, .int 0)] [] _ 0 0 _
    refine x_iload (x := v4) rfl rfl ?_
    refine x_iret rfl rfl ?_
    show jX m_X11_holding 4 0 0 30 [(0, .ref 31)] [.int v4, .ref 31] _ 0 0 _
    refine x_inv (N := m_X11_accept) (As := [.int v4]) (b := 31) (st := []) (dx9 := 3) (mc := 0) (ms := 0) (host := "") 11 rfl t_X11_accept ⟨Or.inl q_11_165, i_X11_accept.1, i_X11_accept.2⟩ ⟨by decide, rfl⟩ (congrArg Prod.fst (J.1.1 31 (11, 13) rfl)) rfl (by decide) rfl rfl ⟨by decide, by decide⟩ (jC.of rfl k_X11_accept rfl ?_)
    show jX m_X11_accept 3 0 0 0 [(0, .ref 31), (1, .int v4)] [] _ 0 0 _
    refine x_aloadn (x := 31) rfl rfl ?_
    refine x_iconst (v := 0) rfl ki_0 ?_
    refine z_putI (N := 13) (w := 0) 11 12 rfl f_11_94 rfl (jfin_no TX11 RX11 13 rfl rfl) hD J Sm rfl rfl jk_0 (pw_31_12 (by omega)) rfl (fun h w7 J Sm => ?_)
    refine x_aloadn (x := 31) rfl rfl ?_
    refine z_getR (N := 13) (b := 32) 11 0 rfl f_11_10 rfl J rfl 3968 ⟨rfl, rfl⟩ rfl ?_
    refine x_dup rfl rfl ?_
    refine z_getI0 (N := 20) 1 19 rfl f_11_528 rfl J rfl (fun v8 qv8 => ?_)
    have ev8 := jfull v8
    refine x_iconst (v := 1) rfl ki_1 ?_
    refine z_iadd0 rfl (fun v9 => ?_)
    have ev9 := jfull v9
    refine z_putI (N := 20) (w := v9.toInt) 1 19 rfl f_11_528 rfl (jfin_no TX1 RX1 20 rfl rfl) hD J Sm rfl rfl rfl (pw_32_19 trivial) rfl (fun h w10 J Sm => ?_)
    refine x_iloadn (x := v4) rfl rfl ?_
    refine x_iret rfl rfl ?_
    show jX m_X11_holding 4 0 0 33 [(0, .ref 31)] [.int v4] _ 0 0 _
    refine x_iret rfl rfl ?_
    exact hQ _ _ (jr_of rfl (by omega)) J Sm
  ·
    refine x_aloadn (x := 31) rfl rfl ?_
    refine x_bipush (v := (-5)) rfl kb_m5 ?_
    refine x_inv (N := m_X11_refuse) (As := [.int (-5)]) (b := 31) (st := []) (dx9 := 3) (mc := 0) (ms := 0) (host := "") 11 rfl t_X11_refuse ⟨Or.inl q_11_206, i_X11_refuse.1, i_X11_refuse.2⟩ ⟨by decide, rfl⟩ (congrArg Prod.fst (J.1.1 31 (11, 13) rfl)) rfl (by decide) rfl rfl ⟨by decide, by decide⟩ (jC.of rfl k_X11_refuse rfl ?_)
    show jX m_X11_refuse 3 0 0 0 [(0, .ref 31), (1, .int (-5))] [] _ 0 0 _
    refine x_aloadn (x := 31) rfl rfl ?_
    refine x_iloadn (x := (-5)) rfl rfl ?_
    refine z_putI (N := 13) (w := (-5)) 11 12 rfl f_11_94 rfl (jfin_no TX11 RX11 13 rfl rfl) hD J Sm rfl rfl jk_m5 (pw_31_12 (by omega)) rfl (fun h w11 J Sm => ?_)
    refine x_iloadn (x := (-5)) rfl rfl ?_
    refine x_iret rfl rfl ?_
    show jX m_X11_holding 4 0 0 19 [(0, .ref 31)] [.int (-5)] _ 0 0 _
    refine x_iret rfl rfl ?_
    exact hQ _ _ (jr_of jk_m5 (by omega)) J Sm
def fp_X11_holds_r31 : jFp := [(78, 13, 14), (82, 0, 600), (83, 0, 600), (84, 0, 200), (85, 0, 4), (86, 0, 3), (98, 10, 11), (98, 11, 12), (98, 12, 13), (99, 0, 30), (100, 0, 30), (101, 0, 3), (102, 0, 40), (103, 0, 40), (104, 0, 40), (105, 0, 3), (106, 0, 100)]
set_option maxRecDepth 100000 in
set_option maxHeartbeats 4000000 in
theorem ct_X11_holds_r31_17 {Dy : jH → Prop} {h0 : jH} {Q : Option Value → jH → Prop} (hD : jDk Dy) (hQ : ∀ (v : Int32) hx9, (-1) ≤ v.toInt ∧ v.toInt ≤ 1 → jJ jSgX Dy hx9 → jSm fp_X11_holds_r31 h0 hx9 → Q (some (.int v)) hx9) : ∀ (h : jH), jJ jSgX Dy h → jSm fp_X11_holds_r31 h0 h → jX m_X11_holds 8 0 0 17 [] [] h 0 0 Q := by
  intro  h    J Sm
  refine x_iconst (v := (-1)) rfl ki_m1 ?_
  refine x_iret rfl rfl ?_
  exact hQ _ _ (jr_of jk_m1 (by omega)) J Sm
set_option maxRecDepth 100000 in
set_option maxHeartbeats 4000000 in
theorem ct_X11_holds_r31_200066 {Dy : jH → Prop} {h0 : jH} {Q : Option Value → jH → Prop} (hD : jDk Dy) (hQ : ∀ (v : Int32) hx9, (-1) ≤ v.toInt ∧ v.toInt ≤ 1 → jJ jSgX Dy hx9 → jSm fp_X11_holds_r31 h0 hx9 → Q (some (.int v)) hx9) : ∀ (h : jH), jJ jSgX Dy h → jSm fp_X11_holds_r31 h0 h → jX m_X11_holds 8 0 0 66 [] [.int 0] h 0 0 Q := by
  intro  h    J Sm
  refine x_iret rfl rfl ?_
  exact hQ _ _ (jr_of jk_0 (by omega)) J Sm
set_option maxRecDepth 100000 in
set_option maxHeartbeats 4000000 in
theorem ct_X11_holds_r31_300066 {Dy : jH → Prop} {h0 : jH} {Q : Option Value → jH → Prop} (hD : jDk Dy) (hQ : ∀ (v : Int32) hx9, (-1) ≤ v.toInt ∧ v.toInt ≤ 1 → jJ jSgX Dy hx9 → jSm fp_X11_holds_r31 h0 hx9 → Q (some (.int v)) hx9) : ∀ (h : jH), jJ jSgX Dy h → jSm fp_X11_holds_r31 h0 h → jX m_X11_holds 8 0 0 66 [] [.int 1] h 0 0 Q := by
  intro  h    J Sm
  refine x_iret rfl rfl ?_
  exact hQ _ _ (jr_of jk_1 (by omega)) J Sm
set_option maxRecDepth 100000 in
set_option maxHeartbeats 4000000 in
theorem sf_X11_holds_r31 {Dy : jH → Prop} {h : jH} {Q : Option Value → jH → Prop} {a1 : Int32} {a2 : Int32} {a3 : Int32} {a4 : Int32} {a5 : Int32} (hD : jDk Dy) (J : jJ jSgX Dy h) (hQ : ∀ (v : Int32) hx9, (-1) ≤ v.toInt ∧ v.toInt ≤ 1 → jJ jSgX Dy hx9 → jSm fp_X11_holds_r31 h hx9 → Q (some (.int v)) hx9) : jC m_X11_holds 8 0 0 [.ref 31, .int a1, .int a2, .int a3, .int a4, .int a5] h Q := by
  refine jC.of rfl k_X11_holds rfl ?_
  have Sm := jSm_rf fp_X11_holds_r31 h
  have ea1 := jfull a1
  have ea2 := jfull a2
  have ea3 := jfull a3
  have ea4 := jfull a4
  have ea5 := jfull a5
  show jX m_X11_holds 8 0 0 0 [(0, .ref 31), (1, .int a1), (2, .int a2), (3, .int a3), (4, .int a4), (5, .int a5)] [] _ 0 0 _
  refine x_aloadn (x := 31) rfl rfl ?_
  refine x_iloadn (x := a1) rfl rfl ?_
  refine x_iloadn (x := a2) rfl rfl ?_
  refine x_inv (N := m_X11_isClause) (As := [.int a1, .int a2]) (b := 31) (st := []) (dx9 := 7) (mc := 0) (ms := 0) (host := "") 11 rfl t_X11_isClause ⟨Or.inl q_11_336, i_X11_isClause.1, i_X11_isClause.2⟩ ⟨by decide, rfl⟩ (congrArg Prod.fst (J.1.1 31 (11, 13) rfl)) rfl (by decide) rfl rfl ⟨by decide, by decide⟩ (jC.of rfl k_X11_isClause rfl ?_)
  show jX m_X11_isClause 7 0 0 0 [(0, .ref 31), (1, .int a1), (2, .int a2)] [] _ 0 0 _
  refine x_iloadn (x := a1) rfl rfl ?_
  refine x_iflt (tgt := 27) rfl rfl (ti_lt rfl jk_0 ⟨fun c1 => ?_, fun c1 => ?_⟩)
  ·
    refine x_iconst (v := 0) rfl ki_0 ?_
    refine x_zret rfl rfl (by decide) ?_
    show jX m_X11_holds 8 0 0 6 [(0, .ref 31), (1, .int a1), (2, .int a2), (3, .int a3), (4, .int a4), (5, .int a5)] [.int 0] _ 0 0 _
    refine x_ifeq (tgt := 17) rfl rfl (ti_eq jk_0 jk_0 (br_t (by omega) ?_))
    exact jX.sub jsb_n (ct_X11_holds_r31_17 hD hQ  h J Sm)
  ·
    refine x_iloadn (x := a1) rfl rfl ?_
    refine x_aloadn (x := 31) rfl rfl ?_
    refine z_getR (N := 13) (b := 32) 11 0 rfl f_11_10 rfl J rfl 3968 ⟨rfl, rfl⟩ rfl ?_
    refine z_getI (N := 20) 1 18 rfl f_11_325 rfl J rfl sg_32_18_19_1_0_1 (fun v2 qv2 ev2 => ?_)
    refine x_icge (tgt := 27) rfl rfl (ti_ge rfl rfl ⟨fun c3 => ?_, fun c3 => ?_⟩)
    ·
      refine x_iconst (v := 0) rfl ki_0 ?_
      refine x_zret rfl rfl (by decide) ?_
      show jX m_X11_holds 8 0 0 6 [(0, .ref 31), (1, .int a1), (2, .int a2), (3, .int a3), (4, .int a4), (5, .int a5)] [.int 0] _ 0 0 _
      refine x_ifeq (tgt := 17) rfl rfl (ti_eq jk_0 jk_0 (br_t (by omega) ?_))
      exact jX.sub jsb_n (ct_X11_holds_r31_17 hD hQ  h J Sm)
    ·
      refine x_iloadn (x := a1) rfl rfl ?_
      refine x_aloadn (x := 31) rfl rfl ?_
      refine z_getR (N := 13) (b := 32) 11 0 rfl f_11_10 rfl J rfl 3968 ⟨rfl, rfl⟩ rfl ?_
      refine z_getR (N := 20) (b := 66) 1 17 rfl f_11_332 rfl J rfl 4113 ⟨rfl, rfl⟩ rfl ?_
      refine z_alen (N := 30) (v := 30) rfl J rfl rfl (by decide) ?_
      refine x_iclt (tgt := 29) rfl rfl (ti_lt rfl jk_30 (br_t (by omega) ?_))
      refine x_aloadn (x := 31) rfl rfl ?_
      refine z_getR (N := 13) (b := 32) 11 0 rfl f_11_10 rfl J rfl 3968 ⟨rfl, rfl⟩ rfl ?_
      refine z_getR (N := 20) (b := 66) 1 17 rfl f_11_332 rfl J rfl 4113 ⟨rfl, rfl⟩ rfl ?_
      refine x_iloadn (x := a1) rfl rfl ?_
      refine z_aaldT rfl hD J rfl rfl (by omega) ⟨?_, fun b4 Tb4 => ?_⟩
      ·
        refine x_astorenN (lsx9 := [(3, .null), (0, .ref 31), (1, .int a1), (2, .int a2)]) rfl rfl rfl ?_
        refine x_aloadnN rfl rfl ?_
        refine x_ifnullN (tgt := 59) rfl rfl ?_
        refine x_iconst (v := 0) rfl ki_0 ?_
        refine x_zret rfl rfl (by decide) ?_
        show jX m_X11_holds 8 0 0 6 [(0, .ref 31), (1, .int a1), (2, .int a2), (3, .int a3), (4, .int a4), (5, .int a5)] [.int 0] _ 0 0 _
        refine x_ifeq (tgt := 17) rfl rfl (ti_eq jk_0 jk_0 (br_t (by omega) ?_))
        exact jX.sub jsb_n (ct_X11_holds_r31_17 hD hQ  h J Sm)
      ·
        refine x_astoren (lsx9 := [(3, .ref b4), (0, .ref 31), (1, .int a1), (2, .int a2)]) rfl rfl rfl ?_
        refine x_aloadn (x := b4) rfl rfl ?_
        refine x_ifnull rfl ?_
        refine x_iloadn (x := a2) rfl rfl ?_
        refine x_iflt (tgt := 59) rfl rfl (ti_lt rfl jk_0 ⟨fun c5 => ?_, fun c5 => ?_⟩)
        ·
          refine x_iconst (v := 0) rfl ki_0 ?_
          refine x_zret rfl rfl (by decide) ?_
          show jX m_X11_holds 8 0 0 6 [(0, .ref 31), (1, .int a1), (2, .int a2), (3, .int a3), (4, .int a4), (5, .int a5)] [.int 0] _ 0 0 _
          refine x_ifeq (tgt := 17) rfl rfl (ti_eq jk_0 jk_0 (br_t (by omega) ?_))
          exact jX.sub jsb_n (ct_X11_holds_r31_17 hD hQ  h J Sm)
        ·
          refine x_iloadn (x := a2) rfl rfl ?_
          refine x_aloadn (x := b4) rfl rfl ?_
          refine z_getTc rfl f_11_532 Tb4 (fun v6 ev6 => ?_)
          refine x_icge (tgt := 59) rfl rfl (ti_ge rfl rfl ⟨fun c7 => ?_, fun c7 => ?_⟩)
          ·
            refine x_iconst (v := 0) rfl ki_0 ?_
            refine x_zret rfl rfl (by decide) ?_
            show jX m_X11_holds 8 0 0 6 [(0, .ref 31), (1, .int a1), (2, .int a2), (3, .int a3), (4, .int a4), (5, .int a5)] [.int 0] _ 0 0 _
            refine x_ifeq (tgt := 17) rfl rfl (ti_eq jk_0 jk_0 (br_t (by omega) ?_))
            exact jX.sub jsb_n (ct_X11_holds_r31_17 hD hQ  h J Sm)
          ·
            refine x_iconst (v := 1) rfl ki_1 ?_
            refine x_goto (tgt := 60) rfl rfl ?_
            refine x_zret rfl rfl (by decide) ?_
            show jX m_X11_holds 8 0 0 6 [(0, .ref 31), (1, .int a1), (2, .int a2), (3, .int a3), (4, .int a4), (5, .int a5)] [.int 1] _ 0 0 _
            refine x_ifeq (tgt := 17) rfl rfl (ti_eq jk_1 jk_0 (br_f (by omega) ?_))
            refine x_iload (x := a4) rfl rfl ?_
            refine x_inst (N := m_X11_isDay) (As := [.int a4]) (st := []) (dx9 := 1) (mc := 0) (ms := 0) (host := "") rfl t_X11_isDay ⟨Or.inl q_11_115, s_X11_isDay⟩ rfl (by decide) rfl rfl ⟨by decide, by decide⟩ (zc_X11_isDay rfl (fun v8 ev8 => ?_))
            show jX m_X11_holds 8 0 0 14 [(0, .ref 31), (1, .int a1), (2, .int a2), (3, .int a3), (4, .int a4), (5, .int a5)] [.int v8] _ 0 0 _
            refine x_ifne (tgt := 19) rfl rfl (ti_ne rfl jk_0 ⟨fun c9 => ?_, fun c9 => ?_⟩)
            ·
              refine x_aloadn (x := 31) rfl rfl ?_
              refine x_iloadn (x := a3) rfl rfl ?_
              refine x_iload (x := a5) rfl rfl ?_
              refine x_inv (N := m_X11_soulOn) (As := [.int a3, .int a5]) (b := 31) (st := []) (dx9 := 7) (mc := 0) (ms := 0) (host := "") 11 rfl t_X11_soulOn ⟨Or.inl q_11_234, i_X11_soulOn.1, i_X11_soulOn.2⟩ ⟨by decide, rfl⟩ (congrArg Prod.fst (J.1.1 31 (11, 13) rfl)) rfl (by decide) rfl rfl ⟨by decide, by decide⟩ (jC.of rfl k_X11_soulOn rfl ?_)
              show jX m_X11_soulOn 7 0 0 0 [(0, .ref 31), (1, .int a3), (2, .int a5)] [] _ 0 0 _
              refine x_iloadn (x := a5) rfl rfl ?_
              refine x_inst (N := m_X11_isDay) (As := [.int a5]) (st := []) (dx9 := 1) (mc := 0) (ms := 0) (host := "") rfl t_X11_isDay ⟨Or.inl q_11_115, s_X11_isDay⟩ rfl (by decide) rfl rfl ⟨by decide, by decide⟩ (zc_X11_isDay rfl (fun v10 ev10 => ?_))
              show jX m_X11_soulOn 7 0 0 4 [(0, .ref 31), (1, .int a3), (2, .int a5)] [.int v10] _ 0 0 _
              refine x_ifeq (tgt := 18) rfl rfl (ti_eq rfl jk_0 ⟨fun c11 => ?_, fun c11 => ?_⟩)
              ·
                refine x_iconst (v := (-1)) rfl ki_m1 ?_
                refine x_iret rfl rfl ?_
                show jX m_X11_holds 8 0 0 26 [(0, .ref 31), (1, .int a1), (2, .int a2), (3, .int a3), (4, .int a4), (5, .int a5)] [.int (-1)] _ 0 0 _
                refine x_istore (lsx9 := [(6, .int (-1)), (0, .ref 31), (1, .int a1), (2, .int a2), (3, .int a3), (4, .int a4), (5, .int a5)]) rfl rfl rfl ?_
                refine x_iload (x := (-1)) rfl rfl ?_
                refine x_iconst (v := (-1)) rfl ki_m1 ?_
                refine x_icne (tgt := 36) rfl rfl (ti_ne jk_m1 jk_m1 (bn_f (by omega) ?_))
                refine x_iconst (v := (-1)) rfl ki_m1 ?_
                refine x_iret rfl rfl ?_
                exact hQ _ _ (jr_of jk_m1 (by omega)) J Sm
              ·
                refine x_aloadn (x := 31) rfl rfl ?_
                refine z_getR (N := 13) (b := 78) 11 4 rfl f_11_41 rfl J rfl 3972 ⟨rfl, rfl⟩ rfl ?_
                refine x_iloadn (x := a3) rfl rfl ?_
                refine x_inv (N := m_X7_isMention) (As := [.int a3]) (b := 78) (st := []) (dx9 := 6) (mc := 0) (ms := 0) (host := "") 7 rfl t_X7_isMention ⟨Or.inl q_11_187, i_X7_isMention.1, i_X7_isMention.2⟩ ⟨by decide, rfl⟩ (congrArg Prod.fst (J.1.1 78 (7, 16) rfl)) rfl (by decide) rfl rfl ⟨by decide, by decide⟩ (jC.of rfl k_X7_isMention rfl ?_)
                show jX m_X7_isMention 6 0 0 0 [(0, .ref 78), (1, .int a3)] [] _ 0 0 _
                refine x_iloadn (x := a3) rfl rfl ?_
                refine x_iflt (tgt := 41) rfl rfl (ti_lt rfl jk_0 ⟨fun c12 => ?_, fun c12 => ?_⟩)
                ·
                  refine x_iconst (v := 0) rfl ki_0 ?_
                  refine x_zret rfl rfl (by decide) ?_
                  show jX m_X11_soulOn 7 0 0 15 [(0, .ref 31), (1, .int a3), (2, .int a5)] [.int 0] _ 0 0 _
                  refine x_ifne (tgt := 20) rfl rfl (ti_ne jk_0 jk_0 (bn_f (by omega) ?_))
                  refine x_iconst (v := (-1)) rfl ki_m1 ?_
                  refine x_iret rfl rfl ?_
                  show jX m_X11_holds 8 0 0 26 [(0, .ref 31), (1, .int a1), (2, .int a2), (3, .int a3), (4, .int a4), (5, .int a5)] [.int (-1)] _ 0 0 _
                  refine x_istore (lsx9 := [(6, .int (-1)), (0, .ref 31), (1, .int a1), (2, .int a2), (3, .int a3), (4, .int a4), (5, .int a5)]) rfl rfl rfl ?_
                  refine x_iload (x := (-1)) rfl rfl ?_
                  refine x_iconst (v := (-1)) rfl ki_m1 ?_
                  refine x_icne (tgt := 36) rfl rfl (ti_ne jk_m1 jk_m1 (bn_f (by omega) ?_))
                  refine x_iconst (v := (-1)) rfl ki_m1 ?_
                  refine x_iret rfl rfl ?_
                  exact hQ _ _ (jr_of jk_m1 (by omega)) J Sm
                ·
                  refine x_iloadn (x := a3) rfl rfl ?_
                  refine x_sipush (v := 600) rfl ks_600 ?_
                  refine x_icge (tgt := 41) rfl rfl (ti_ge rfl jk_600 ⟨fun c13 => ?_, fun c13 => ?_⟩)
                  ·
                    refine x_iconst (v := 0) rfl ki_0 ?_
                    refine x_zret rfl rfl (by decide) ?_
                    show jX m_X11_soulOn 7 0 0 15 [(0, .ref 31), (1, .int a3), (2, .int a5)] [.int 0] _ 0 0 _
                    refine x_ifne (tgt := 20) rfl rfl (ti_ne jk_0 jk_0 (bn_f (by omega) ?_))
                    refine x_iconst (v := (-1)) rfl ki_m1 ?_
                    refine x_iret rfl rfl ?_
                    show jX m_X11_holds 8 0 0 26 [(0, .ref 31), (1, .int a1), (2, .int a2), (3, .int a3), (4, .int a4), (5, .int a5)] [.int (-1)] _ 0 0 _
                    refine x_istore (lsx9 := [(6, .int (-1)), (0, .ref 31), (1, .int a1), (2, .int a2), (3, .int a3), (4, .int a4), (5, .int a5)]) rfl rfl rfl ?_
                    refine x_iload (x := (-1)) rfl rfl ?_
                    refine x_iconst (v := (-1)) rfl ki_m1 ?_
                    refine x_icne (tgt := 36) rfl rfl (ti_ne jk_m1 jk_m1 (bn_f (by omega) ?_))
                    refine x_iconst (v := (-1)) rfl ki_m1 ?_
                    refine x_iret rfl rfl ?_
                    exact hQ _ _ (jr_of jk_m1 (by omega)) J Sm
                  ·
                    refine x_iloadn (x := a3) rfl rfl ?_
                    refine x_iconst (v := 3) rfl ki_3 ?_
                    refine z_idiv rfl rfl jk_3 (by omega) (by omega) (fun v14 ev14 => ?_)
                    refine x_aloadn (x := 78) rfl rfl ?_
                    refine z_getR (N := 16) (b := 32) 7 0 rfl f_7_55 rfl J rfl 9984 ⟨rfl, rfl⟩ rfl ?_
                    refine z_getR (N := 20) (b := 33) 1 0 rfl f_7_63 rfl J rfl 4096 ⟨rfl, rfl⟩ rfl ?_
                    refine z_getI (N := 4) 8 3 rfl f_7_85 rfl J rfl sg_33_3_4_1_0_1 (fun v15 qv15 ev15 => ?_)
                    refine x_icge (tgt := 41) rfl rfl (ti_ge rfl rfl ⟨fun c16 => ?_, fun c16 => ?_⟩)
                    ·
                      refine x_iconst (v := 0) rfl ki_0 ?_
                      refine x_zret rfl rfl (by decide) ?_
                      show jX m_X11_soulOn 7 0 0 15 [(0, .ref 31), (1, .int a3), (2, .int a5)] [.int 0] _ 0 0 _
                      refine x_ifne (tgt := 20) rfl rfl (ti_ne jk_0 jk_0 (bn_f (by omega) ?_))
                      refine x_iconst (v := (-1)) rfl ki_m1 ?_
                      refine x_iret rfl rfl ?_
                      show jX m_X11_holds 8 0 0 26 [(0, .ref 31), (1, .int a1), (2, .int a2), (3, .int a3), (4, .int a4), (5, .int a5)] [.int (-1)] _ 0 0 _
                      refine x_istore (lsx9 := [(6, .int (-1)), (0, .ref 31), (1, .int a1), (2, .int a2), (3, .int a3), (4, .int a4), (5, .int a5)]) rfl rfl rfl ?_
                      refine x_iload (x := (-1)) rfl rfl ?_
                      refine x_iconst (v := (-1)) rfl ki_m1 ?_
                      refine x_icne (tgt := 36) rfl rfl (ti_ne jk_m1 jk_m1 (bn_f (by omega) ?_))
                      refine x_iconst (v := (-1)) rfl ki_m1 ?_
                      refine x_iret rfl rfl ?_
                      exact hQ _ _ (jr_of jk_m1 (by omega)) J Sm
                    ·
                      refine x_aloadn (x := 78) rfl rfl ?_
                      refine z_getR (N := 16) (b := 79) 7 7 rfl f_7_27 rfl J rfl 9991 ⟨rfl, rfl⟩ rfl ?_
                      refine x_iloadn (x := a3) rfl rfl ?_
                      refine z_iald (N := 600) rfl J rfl sg_79_0_600_1_0_1 rfl (by omega) (fun v17 qv17 ev17 => ?_)
                      refine x_iconst (v := (-1)) rfl ki_m1 ?_
                      refine x_iceq (tgt := 41) rfl rfl (ti_eq rfl jk_m1 ⟨fun c18 => ?_, fun c18 => ?_⟩)
                      ·
                        refine x_iconst (v := 0) rfl ki_0 ?_
                        refine x_zret rfl rfl (by decide) ?_
                        show jX m_X11_soulOn 7 0 0 15 [(0, .ref 31), (1, .int a3), (2, .int a5)] [.int 0] _ 0 0 _
                        refine x_ifne (tgt := 20) rfl rfl (ti_ne jk_0 jk_0 (bn_f (by omega) ?_))
                        refine x_iconst (v := (-1)) rfl ki_m1 ?_
                        refine x_iret rfl rfl ?_
                        show jX m_X11_holds 8 0 0 26 [(0, .ref 31), (1, .int a1), (2, .int a2), (3, .int a3), (4, .int a4), (5, .int a5)] [.int (-1)] _ 0 0 _
                        refine x_istore (lsx9 := [(6, .int (-1)), (0, .ref 31), (1, .int a1), (2, .int a2), (3, .int a3), (4, .int a4), (5, .int a5)]) rfl rfl rfl ?_
                        refine x_iload (x := (-1)) rfl rfl ?_
                        refine x_iconst (v := (-1)) rfl ki_m1 ?_
                        refine x_icne (tgt := 36) rfl rfl (ti_ne jk_m1 jk_m1 (bn_f (by omega) ?_))
                        refine x_iconst (v := (-1)) rfl ki_m1 ?_
                        refine x_iret rfl rfl ?_
                        exact hQ _ _ (jr_of jk_m1 (by omega)) J Sm
                      ·
                        refine x_iconst (v := 1) rfl ki_1 ?_
                        refine x_goto (tgt := 42) rfl rfl ?_
                        refine x_zret rfl rfl (by decide) ?_
                        show jX m_X11_soulOn 7 0 0 15 [(0, .ref 31), (1, .int a3), (2, .int a5)] [.int 1] _ 0 0 _
                        refine x_ifne (tgt := 20) rfl rfl (ti_ne jk_1 jk_0 (bn_t (by omega) ?_))
                        refine x_aloadn (x := 31) rfl rfl ?_
                        refine z_getR (N := 13) (b := 78) 11 4 rfl f_11_41 rfl J rfl 3972 ⟨rfl, rfl⟩ rfl ?_
                        refine x_iloadn (x := a5) rfl rfl ?_
                        refine x_inv (N := m_X7_asKnown) (As := [.int a5]) (b := 78) (st := []) (dx9 := 6) (mc := 0) (ms := 0) (host := "") 7 rfl t_X7_asKnown ⟨Or.inl q_11_240, i_X7_asKnown.1, i_X7_asKnown.2⟩ ⟨by decide, rfl⟩ (congrArg Prod.fst (J.1.1 78 (7, 16) rfl)) rfl (by decide) rfl rfl ⟨by decide, by decide⟩ (sf_X7_asKnown_r78 (jr_of rfl (by omega)) hD J  (fun h J S19 => ?_))
                        have Sm := jSm_tr rfl Sm S19
                        show jX m_X11_soulOn 7 0 0 28 [(0, .ref 31), (1, .int a3), (2, .int a5)] [] _ 0 0 _
                        refine x_aloadn (x := 31) rfl rfl ?_
                        refine z_getR (N := 13) (b := 78) 11 4 rfl f_11_41 rfl J rfl 3972 ⟨rfl, rfl⟩ rfl ?_
                        refine z_getR (N := 16) (b := 82) 7 10 rfl f_11_537 rfl J rfl 9994 ⟨rfl, rfl⟩ rfl ?_
                        refine x_iloadn (x := a3) rfl rfl ?_
                        refine z_iald (N := 600) rfl J rfl sg_82_0_600_1_0_1 rfl (by omega) (fun v20 qv20 ev20 => ?_)
                        refine x_iret rfl rfl ?_
                        show jX m_X11_holds 8 0 0 26 [(0, .ref 31), (1, .int a1), (2, .int a2), (3, .int a3), (4, .int a4), (5, .int a5)] [.int v20] _ 0 0 _
                        refine x_istore (lsx9 := [(6, .int v20), (0, .ref 31), (1, .int a1), (2, .int a2), (3, .int a3), (4, .int a4), (5, .int a5)]) rfl rfl rfl ?_
                        refine x_iload (x := v20) rfl rfl ?_
                        refine x_iconst (v := (-1)) rfl ki_m1 ?_
                        refine x_icne (tgt := 36) rfl rfl (ti_ne rfl jk_m1 ⟨fun c21 => ?_, fun c21 => ?_⟩)
                        ·
                          refine x_aloadn (x := 31) rfl rfl ?_
                          refine z_getR (N := 13) (b := 98) 11 7 rfl f_11_66 rfl J rfl 3975 ⟨rfl, rfl⟩ rfl ?_
                          refine x_iload (x := a4) rfl rfl ?_
                          refine x_iload (x := a5) rfl rfl ?_
                          refine x_inv (N := m_X0_turnTo) (As := [.int a4, .int a5]) (b := 98) (st := []) (dx9 := 7) (mc := 0) (ms := 0) (host := "") 0 rfl t_X0_turnTo ⟨Or.inl q_11_345, i_X0_turnTo.1, i_X0_turnTo.2⟩ ⟨by decide, rfl⟩ (congrArg Prod.fst (J.1.1 98 (0, 16) rfl)) rfl (by decide) rfl rfl ⟨by decide, by decide⟩ (jC.of rfl k_X0_turnTo rfl ?_)
                          show jX m_X0_turnTo 7 0 0 0 [(0, .ref 98), (1, .int a4), (2, .int a5)] [] _ 0 0 _
                          refine x_aloadn (x := 98) rfl rfl ?_
                          refine x_iloadn (x := a4) rfl rfl ?_
                          refine x_iloadn (x := a5) rfl rfl ?_
                          refine x_inv (N := m_X0_readLaws) (As := [.int a4, .int a5]) (b := 98) (st := []) (dx9 := 3) (mc := 0) (ms := 0) (host := "") 0 rfl t_X0_readLaws ⟨Or.inl q_0_65, i_X0_readLaws.1, i_X0_readLaws.2⟩ ⟨by decide, rfl⟩ (congrArg Prod.fst (J.1.1 98 (0, 16) rfl)) rfl (by decide) rfl rfl ⟨by decide, by decide⟩ (sf_X0_readLaws_r98 (jr_of rfl (by omega)) (jr_of rfl (by omega)) hD J  (fun h J S22 => ?_))
                          have Sm := jSm_tr rfl Sm S22
                          show jX m_X0_turnTo 7 0 0 6 [(0, .ref 98), (1, .int a4), (2, .int a5)] [] _ 0 0 _
                          refine x_aloadn (x := 98) rfl rfl ?_
                          refine x_iloadn (x := a4) rfl rfl ?_
                          refine x_iloadn (x := a5) rfl rfl ?_
                          refine x_inv (N := m_X0_readHouses) (As := [.int a4, .int a5]) (b := 98) (st := []) (dx9 := 3) (mc := 0) (ms := 0) (host := "") 0 rfl t_X0_readHouses ⟨Or.inl q_0_69, i_X0_readHouses.1, i_X0_readHouses.2⟩ ⟨by decide, rfl⟩ (congrArg Prod.fst (J.1.1 98 (0, 16) rfl)) rfl (by decide) rfl rfl ⟨by decide, by decide⟩ (sf_X0_readHouses_r98 (jr_of rfl (by omega)) (jr_of rfl (by omega)) hD J  (fun h J S23 => ?_))
                          have Sm := jSm_tr rfl Sm S23
                          show jX m_X0_turnTo 7 0 0 12 [(0, .ref 98), (1, .int a4), (2, .int a5)] [] _ 0 0 _
                          refine x_vret rfl rfl ?_
                          show jX m_X11_holds 8 0 0 47 [(6, .int v20), (0, .ref 31), (1, .int a1), (2, .int a2), (3, .int a3), (4, .int a4), (5, .int a5)] [] _ 0 0 _
                          refine x_aloadn (x := 31) rfl rfl ?_
                          refine z_getR (N := 13) (b := 98) 11 7 rfl f_11_66 rfl J rfl 3975 ⟨rfl, rfl⟩ rfl ?_
                          refine x_iloadn (x := a1) rfl rfl ?_
                          refine x_iloadn (x := a2) rfl rfl ?_
                          refine x_iload (x := v20) rfl rfl ?_
                          refine x_inv (N := m_X0_holdsFor) (As := [.int a1, .int a2, .int v20]) (b := 98) (st := []) (dx9 := 5) (mc := 0) (ms := 0) (host := "") 0 rfl t_X0_holdsFor ⟨Or.inl q_11_348, i_X0_holdsFor.1, i_X0_holdsFor.2⟩ ⟨by decide, rfl⟩ (congrArg Prod.fst (J.1.1 98 (0, 16) rfl)) rfl (by decide) rfl rfl ⟨by decide, by decide⟩ (sf_X0_holdsFor_r98 (jr_of rfl (by omega)) (jr_of rfl (by omega)) (jr_of rfl (by omega)) hD J  (fun v25 h ev25 J S24 => ?_))
                          have Sm := jSm_tr rfl Sm S24
                          show jX m_X11_holds 8 0 0 58 [(6, .int v20), (0, .ref 31), (1, .int a1), (2, .int a2), (3, .int a3), (4, .int a4), (5, .int a5)] [.int v25] _ 0 0 _
                          refine x_ifeq (tgt := 65) rfl rfl (ti_eq rfl jk_0 ⟨fun c26 => ?_, fun c26 => ?_⟩)
                          ·
                            refine x_iconst (v := 0) rfl ki_0 ?_
                            exact jX.sub jsb_n (ct_X11_holds_r31_200066 hD hQ  h J Sm)
                          ·
                            refine x_iconst (v := 1) rfl ki_1 ?_
                            refine x_goto (tgt := 66) rfl rfl ?_
                            exact jX.sub jsb_n (ct_X11_holds_r31_300066 hD hQ  h J Sm)
                        ·
                          refine x_iconst (v := (-1)) rfl ki_m1 ?_
                          refine x_iret rfl rfl ?_
                          exact hQ _ _ (jr_of jk_m1 (by omega)) J Sm
            ·
              exact jX.sub jsb_n (ct_X11_holds_r31_17 hD hQ  h J Sm)
def fp_X11_house_r31 : jFp := [(78, 13, 14), (82, 0, 600), (83, 0, 600), (84, 0, 200), (86, 0, 3), (98, 10, 11), (98, 11, 12), (102, 0, 40), (103, 0, 40), (104, 0, 40), (105, 0, 3)]
set_option maxRecDepth 100000 in
set_option maxHeartbeats 4000000 in
theorem ct_X11_house_r31_33 {Dy : jH → Prop} {h0 : jH} {Q : Option Value → jH → Prop} (hD : jDk Dy) (hQ : ∀ (v : Int32) hx9, jJ jSgX Dy hx9 → jSm fp_X11_house_r31 h0 hx9 → Q (some (.int v)) hx9) : ∀ (h : jH), jJ jSgX Dy h → jSm fp_X11_house_r31 h0 h → jX m_X11_house 7 0 0 33 [] [] h 0 0 Q := by
  intro  h    J Sm
  refine x_iconst (v := (-1)) rfl ki_m1 ?_
  refine x_iret rfl rfl ?_
  exact hQ _ _ J Sm
set_option maxRecDepth 100000 in
set_option maxHeartbeats 4000000 in
theorem ct_X11_house_r31_78 {Dy : jH → Prop} {h0 : jH} {Q : Option Value → jH → Prop} (hD : jDk Dy) (hQ : ∀ (v : Int32) hx9, jJ jSgX Dy hx9 → jSm fp_X11_house_r31 h0 hx9 → Q (some (.int v)) hx9) : ∀ (s0 : Int32) (h : jH), jJ jSgX Dy h → jSm fp_X11_house_r31 h0 h → jX m_X11_house 7 0 0 78 [] [.int s0] h 0 0 Q := by
  intro s0 h    J Sm
  have es0 := jfull s0
  refine x_iret rfl rfl ?_
  exact hQ _ _ J Sm
set_option maxRecDepth 100000 in
set_option maxHeartbeats 4000000 in
theorem sf_X11_house_r31 {Dy : jH → Prop} {h : jH} {Q : Option Value → jH → Prop} {a1 : Int32} {a2 : Int32} {a3 : Int32} {a4 : Int32} (hD : jDk Dy) (J : jJ jSgX Dy h) (hQ : ∀ (v : Int32) hx9, jJ jSgX Dy hx9 → jSm fp_X11_house_r31 h hx9 → Q (some (.int v)) hx9) : jC m_X11_house 7 0 0 [.ref 31, .int a1, .int a2, .int a3, .int a4] h Q := by
  refine jC.of rfl k_X11_house rfl ?_
  have Sm := jSm_rf fp_X11_house_r31 h
  have ea1 := jfull a1
  have ea2 := jfull a2
  have ea3 := jfull a3
  have ea4 := jfull a4
  show jX m_X11_house 7 0 0 0 [(0, .ref 31), (1, .int a1), (2, .int a2), (3, .int a3), (4, .int a4)] [] _ 0 0 _
  refine x_aloadn (x := 31) rfl rfl ?_
  refine x_iloadn (x := a1) rfl rfl ?_
  refine x_inv (N := m_X11_isHolding) (As := [.int a1]) (b := 31) (st := []) (dx9 := 6) (mc := 0) (ms := 0) (host := "") 11 rfl t_X11_isHolding ⟨Or.inl q_11_415, i_X11_isHolding.1, i_X11_isHolding.2⟩ ⟨by decide, rfl⟩ (congrArg Prod.fst (J.1.1 31 (11, 13) rfl)) rfl (by decide) rfl rfl ⟨by decide, by decide⟩ (jC.of rfl k_X11_isHolding rfl ?_)
  show jX m_X11_isHolding 6 0 0 0 [(0, .ref 31), (1, .int a1)] [] _ 0 0 _
  refine x_iloadn (x := a1) rfl rfl ?_
  refine x_iflt (tgt := 28) rfl rfl (ti_lt rfl jk_0 ⟨fun c1 => ?_, fun c1 => ?_⟩)
  ·
    refine x_iconst (v := 0) rfl ki_0 ?_
    refine x_zret rfl rfl (by decide) ?_
    show jX m_X11_house 7 0 0 5 [(0, .ref 31), (1, .int a1), (2, .int a2), (3, .int a3), (4, .int a4)] [.int 0] _ 0 0 _
    refine x_ifeq (tgt := 33) rfl rfl (ti_eq jk_0 jk_0 (br_t (by omega) ?_))
    exact jX.sub jsb_n (ct_X11_house_r31_33 hD hQ  h J Sm)
  ·
    refine x_iloadn (x := a1) rfl rfl ?_
    refine x_aloadn (x := 31) rfl rfl ?_
    refine z_getR (N := 13) (b := 32) 11 0 rfl f_11_10 rfl J rfl 3968 ⟨rfl, rfl⟩ rfl ?_
    refine z_getR (N := 20) (b := 49) 1 8 rfl f_11_408 rfl J rfl 4104 ⟨rfl, rfl⟩ rfl ?_
    refine z_getI (N := 4) 8 3 rfl f_11_142 rfl J rfl sg_49_3_4_1_0_1 (fun v2 qv2 ev2 => ?_)
    refine x_icge (tgt := 28) rfl rfl (ti_ge rfl rfl ⟨fun c3 => ?_, fun c3 => ?_⟩)
    ·
      refine x_iconst (v := 0) rfl ki_0 ?_
      refine x_zret rfl rfl (by decide) ?_
      show jX m_X11_house 7 0 0 5 [(0, .ref 31), (1, .int a1), (2, .int a2), (3, .int a3), (4, .int a4)] [.int 0] _ 0 0 _
      refine x_ifeq (tgt := 33) rfl rfl (ti_eq jk_0 jk_0 (br_t (by omega) ?_))
      exact jX.sub jsb_n (ct_X11_house_r31_33 hD hQ  h J Sm)
    ·
      refine x_iloadn (x := a1) rfl rfl ?_
      refine x_bipush (v := 40) rfl kb_40 ?_
      refine x_icge (tgt := 28) rfl rfl (ti_ge rfl jk_40 (br_f (by omega) ?_))
      refine x_iconst (v := 1) rfl ki_1 ?_
      refine x_goto (tgt := 29) rfl rfl ?_
      refine x_zret rfl rfl (by decide) ?_
      show jX m_X11_house 7 0 0 5 [(0, .ref 31), (1, .int a1), (2, .int a2), (3, .int a3), (4, .int a4)] [.int 1] _ 0 0 _
      refine x_ifeq (tgt := 33) rfl rfl (ti_eq jk_1 jk_0 (br_f (by omega) ?_))
      refine x_iloadn (x := a2) rfl rfl ?_
      refine x_inst (N := m_X11_isDay) (As := [.int a2]) (st := []) (dx9 := 1) (mc := 0) (ms := 0) (host := "") rfl t_X11_isDay ⟨Or.inl q_11_115, s_X11_isDay⟩ rfl (by decide) rfl rfl ⟨by decide, by decide⟩ (zc_X11_isDay rfl (fun v4 ev4 => ?_))
      show jX m_X11_house 7 0 0 12 [(0, .ref 31), (1, .int a1), (2, .int a2), (3, .int a3), (4, .int a4)] [.int v4] _ 0 0 _
      refine x_ifeq (tgt := 33) rfl rfl (ti_eq rfl jk_0 ⟨fun c5 => ?_, fun c5 => ?_⟩)
      ·
        exact jX.sub jsb_n (ct_X11_house_r31_33 hD hQ  h J Sm)
      ·
        refine x_iloadn (x := a3) rfl rfl ?_
        refine x_inst (N := m_X11_isDay) (As := [.int a3]) (st := []) (dx9 := 1) (mc := 0) (ms := 0) (host := "") rfl t_X11_isDay ⟨Or.inl q_11_115, s_X11_isDay⟩ rfl (by decide) rfl rfl ⟨by decide, by decide⟩ (zc_X11_isDay rfl (fun v6 ev6 => ?_))
        show jX m_X11_house 7 0 0 19 [(0, .ref 31), (1, .int a1), (2, .int a2), (3, .int a3), (4, .int a4)] [.int v6] _ 0 0 _
        refine x_ifeq (tgt := 33) rfl rfl (ti_eq rfl jk_0 ⟨fun c7 => ?_, fun c7 => ?_⟩)
        ·
          exact jX.sub jsb_n (ct_X11_house_r31_33 hD hQ  h J Sm)
        ·
          refine x_iload (x := a4) rfl rfl ?_
          refine x_iflt (tgt := 33) rfl rfl (ti_lt rfl jk_0 ⟨fun c8 => ?_, fun c8 => ?_⟩)
          ·
            exact jX.sub jsb_n (ct_X11_house_r31_33 hD hQ  h J Sm)
          ·
            refine x_iload (x := a4) rfl rfl ?_
            refine x_iconst (v := 1) rfl ki_1 ?_
            refine x_icle (tgt := 35) rfl rfl (ti_le rfl jk_1 ⟨fun c9 => ?_, fun c9 => ?_⟩)
            ·
              refine x_aloadn (x := 31) rfl rfl ?_
              refine z_getR (N := 13) (b := 78) 11 4 rfl f_11_41 rfl J rfl 3972 ⟨rfl, rfl⟩ rfl ?_
              refine x_iloadn (x := a3) rfl rfl ?_
              refine x_inv (N := m_X7_asKnown) (As := [.int a3]) (b := 78) (st := []) (dx9 := 6) (mc := 0) (ms := 0) (host := "") 7 rfl t_X7_asKnown ⟨Or.inl q_11_240, i_X7_asKnown.1, i_X7_asKnown.2⟩ ⟨by decide, rfl⟩ (congrArg Prod.fst (J.1.1 78 (7, 16) rfl)) rfl (by decide) rfl rfl ⟨by decide, by decide⟩ (sf_X7_asKnown_r78 (jr_of rfl (by omega)) hD J  (fun h J S10 => ?_))
              have Sm := jSm_tr rfl Sm S10
              show jX m_X11_house 7 0 0 43 [(0, .ref 31), (1, .int a1), (2, .int a2), (3, .int a3), (4, .int a4)] [] _ 0 0 _
              refine x_aloadn (x := 31) rfl rfl ?_
              refine z_getR (N := 13) (b := 98) 11 7 rfl f_11_66 rfl J rfl 3975 ⟨rfl, rfl⟩ rfl ?_
              refine x_iloadn (x := a2) rfl rfl ?_
              refine x_iloadn (x := a3) rfl rfl ?_
              refine x_inv (N := m_X0_readHouses) (As := [.int a2, .int a3]) (b := 98) (st := []) (dx9 := 3) (mc := 0) (ms := 0) (host := "") 0 rfl t_X0_readHouses ⟨Or.inl q_11_424, i_X0_readHouses.1, i_X0_readHouses.2⟩ ⟨by decide, rfl⟩ (congrArg Prod.fst (J.1.1 98 (0, 16) rfl)) rfl (by decide) rfl rfl ⟨by decide, by decide⟩ (sf_X0_readHouses_r98 (jr_of rfl (by omega)) (jr_of rfl (by omega)) hD J  (fun h J S11 => ?_))
              have Sm := jSm_tr rfl Sm S11
              show jX m_X11_house 7 0 0 52 [(0, .ref 31), (1, .int a1), (2, .int a2), (3, .int a3), (4, .int a4)] [] _ 0 0 _
              refine x_iload (x := a4) rfl rfl ?_
              refine x_ifne (tgt := 69) rfl rfl (ti_ne rfl jk_0 ⟨fun c12 => ?_, fun c12 => ?_⟩)
              ·
                refine x_aloadn (x := 31) rfl rfl ?_
                refine z_getR (N := 13) (b := 98) 11 7 rfl f_11_66 rfl J rfl 3975 ⟨rfl, rfl⟩ rfl ?_
                refine z_getR (N := 16) (b := 103) 0 6 rfl f_11_430 rfl J rfl 12550 ⟨rfl, rfl⟩ rfl ?_
                refine x_iloadn (x := a1) rfl rfl ?_
                refine z_iald (N := 40) rfl J rfl sg_103_0_40_1_0_1 rfl (by omega) (fun v13 qv13 ev13 => ?_)
                exact jX.sub jsb_n (ct_X11_house_r31_78 hD hQ  v13 h J Sm)
              ·
                refine x_aloadn (x := 31) rfl rfl ?_
                refine z_getR (N := 13) (b := 98) 11 7 rfl f_11_66 rfl J rfl 3975 ⟨rfl, rfl⟩ rfl ?_
                refine z_getR (N := 16) (b := 102) 0 5 rfl f_11_427 rfl J rfl 12549 ⟨rfl, rfl⟩ rfl ?_
                refine x_iloadn (x := a1) rfl rfl ?_
                refine z_iald0 (N := 40) rfl J rfl rfl (by omega) (fun v14 qv14 => ?_)
                have ev14 := jfull v14
                refine x_goto (tgt := 78) rfl rfl ?_
                exact jX.sub jsb_n (ct_X11_house_r31_78 hD hQ  v14 h J Sm)
            ·
              exact jX.sub jsb_n (ct_X11_house_r31_33 hD hQ  h J Sm)
def fp_X11_isGood_r31 : jFp := [(85, 0, 4), (98, 10, 11), (98, 11, 12), (98, 12, 13), (99, 0, 30), (100, 0, 30), (101, 0, 3), (102, 0, 40), (103, 0, 40), (104, 0, 40), (105, 0, 3), (106, 0, 100), (120, 5, 6), (120, 6, 7), (120, 7, 8), (121, 0, 42), (122, 0, 42)]
set_option maxRecDepth 100000 in
set_option maxHeartbeats 4000000 in
theorem ct_X11_isGood_r31_57 {Dy : jH → Prop} {h0 : jH} {Q : Option Value → jH → Prop} (hD : jDk Dy) (hQ : ∀ (v : Int32) hx9, 0 ≤ v.toInt ∧ v.toInt ≤ 1 → jJ jSgX Dy hx9 → jSm fp_X11_isGood_r31 h0 hx9 → Q (some (.int v)) hx9) : ∀ (h : jH), jJ jSgX Dy h → jSm fp_X11_isGood_r31 h0 h → jX m_X11_isGood 25 0 0 57 [] [] h 0 0 Q := by
  intro  h    J Sm
  refine x_iconst (v := 0) rfl ki_0 ?_
  refine x_zret rfl rfl (by decide) ?_
  exact hQ _ _ (jr_of jk_0 (by omega)) J Sm
set_option maxRecDepth 100000 in
set_option maxHeartbeats 4000000 in
theorem ct_X11_isGood_r31_200099 {Dy : jH → Prop} {h0 : jH} {Q : Option Value → jH → Prop} (hD : jDk Dy) (hQ : ∀ (v : Int32) hx9, 0 ≤ v.toInt ∧ v.toInt ≤ 1 → jJ jSgX Dy hx9 → jSm fp_X11_isGood_r31 h0 hx9 → Q (some (.int v)) hx9) : ∀ (h : jH), jJ jSgX Dy h → jSm fp_X11_isGood_r31 h0 h → jX m_X11_isGood 25 0 0 99 [] [.int 0] h 0 0 Q := by
  intro  h    J Sm
  refine x_zret rfl rfl (by decide) ?_
  exact hQ _ _ (jr_of jk_0 (by omega)) J Sm
set_option maxRecDepth 100000 in
set_option maxHeartbeats 4000000 in
theorem ct_X11_isGood_r31_300099 {Dy : jH → Prop} {h0 : jH} {Q : Option Value → jH → Prop} (hD : jDk Dy) (hQ : ∀ (v : Int32) hx9, 0 ≤ v.toInt ∧ v.toInt ≤ 1 → jJ jSgX Dy hx9 → jSm fp_X11_isGood_r31 h0 hx9 → Q (some (.int v)) hx9) : ∀ (h : jH), jJ jSgX Dy h → jSm fp_X11_isGood_r31 h0 h → jX m_X11_isGood 25 0 0 99 [] [.int 1] h 0 0 Q := by
  intro  h    J Sm
  refine x_zret rfl rfl (by decide) ?_
  exact hQ _ _ (jr_of jk_1 (by omega)) J Sm
set_option maxRecDepth 100000 in
set_option maxHeartbeats 4000000 in
theorem ct_X11_isGood_r31_94 {Dy : jH → Prop} {h0 : jH} {Q : Option Value → jH → Prop} (hD : jDk Dy) (hQ : ∀ (v : Int32) hx9, 0 ≤ v.toInt ∧ v.toInt ≤ 1 → jJ jSgX Dy hx9 → jSm fp_X11_isGood_r31 h0 hx9 → Q (some (.int v)) hx9) : ∀ (h : jH), jJ jSgX Dy h → jSm fp_X11_isGood_r31 h0 h → jX m_X11_isGood 25 0 0 94 [] [] h 0 0 Q := by
  intro  h    J Sm
  refine x_iconst (v := 1) rfl ki_1 ?_
  refine x_goto (tgt := 99) rfl rfl ?_
  exact jX.sub jsb_n (ct_X11_isGood_r31_300099 hD hQ  h J Sm)
set_option maxRecDepth 100000 in
set_option maxHeartbeats 4000000 in
theorem sf_X11_isGood_r31 {Dy : jH → Prop} {h : jH} {Q : Option Value → jH → Prop} {a1 : Int32} {a2 : Int32} {a3 : Int32} (y2 : (-1) ≤ a2.toInt ∧ a2.toInt ≤ 599) (y3 : 0 ≤ a3.toInt ∧ a3.toInt ≤ 146399) (hD : jDk Dy) (J : jJ jSgX Dy h) (hQ : ∀ (v : Int32) hx9, 0 ≤ v.toInt ∧ v.toInt ≤ 1 → jJ jSgX Dy hx9 → jSm fp_X11_isGood_r31 h hx9 → Q (some (.int v)) hx9) : jC m_X11_isGood 25 0 0 [.ref 31, .int a1, .int a2, .int a3] h Q := by
  refine jC.of rfl k_X11_isGood rfl ?_
  have Sm := jSm_rf fp_X11_isGood_r31 h
  have ea1 := jfull a1
  show jX m_X11_isGood 25 0 0 0 [(0, .ref 31), (1, .int a1), (2, .int a2), (3, .int a3)] [] _ 0 0 _
  refine x_aloadn (x := 31) rfl rfl ?_
  refine z_getR (N := 13) (b := 32) 11 0 rfl f_11_10 rfl J rfl 3968 ⟨rfl, rfl⟩ rfl ?_
  refine z_getR (N := 20) (b := 33) 1 0 rfl f_11_126 rfl J rfl 4096 ⟨rfl, rfl⟩ rfl ?_
  refine x_iloadn (x := a1) rfl rfl ?_
  refine x_iconst (v := 1) rfl ki_1 ?_
  refine x_inv (N := m_X8_at) (As := [.int a1, .int 1]) (b := 33) (st := []) (dx9 := 1) (mc := 0) (ms := 0) (host := "") 8 rfl t_X8_at ⟨Or.inl q_11_171, i_X8_at.1, i_X8_at.2⟩ ⟨by decide, rfl⟩ (congrArg Prod.fst (J.1.1 33 (8, 4) rfl)) rfl (by decide) rfl rfl ⟨by decide, by decide⟩ (sf_X8_at_r33_c1  hD J  (fun v2 h ev2 J S1 => ?_))
  have Sm := jSm_tr rfl Sm S1
  show jX m_X11_isGood 25 0 0 12 [(0, .ref 31), (1, .int a1), (2, .int a2), (3, .int a3)] [.int v2] _ 0 0 _
  refine x_istore (lsx9 := [(4, .int v2), (0, .ref 31), (1, .int a1), (2, .int a2), (3, .int a3)]) rfl rfl rfl ?_
  refine x_aloadn (x := 31) rfl rfl ?_
  refine z_getR (N := 13) (b := 32) 11 0 rfl f_11_10 rfl J rfl 3968 ⟨rfl, rfl⟩ rfl ?_
  refine z_getR (N := 20) (b := 33) 1 0 rfl f_11_126 rfl J rfl 4096 ⟨rfl, rfl⟩ rfl ?_
  refine x_iloadn (x := a1) rfl rfl ?_
  refine x_iconst (v := 4) rfl ki_4 ?_
  refine x_inv (N := m_X8_at) (As := [.int a1, .int 4]) (b := 33) (st := []) (dx9 := 1) (mc := 0) (ms := 0) (host := "") 8 rfl t_X8_at ⟨Or.inl q_11_171, i_X8_at.1, i_X8_at.2⟩ ⟨by decide, rfl⟩ (congrArg Prod.fst (J.1.1 33 (8, 4) rfl)) rfl (by decide) rfl rfl ⟨by decide, by decide⟩ (sf_X8_at_r33_c4  hD J  (fun v4 h J S3 => ?_))
  have ev4 := jfull v4
  have Sm := jSm_tr rfl Sm S3
  show jX m_X11_isGood 25 0 0 26 [(4, .int v2), (0, .ref 31), (1, .int a1), (2, .int a2), (3, .int a3)] [.int v4] _ 0 0 _
  refine x_istore (lsx9 := [(5, .int v4), (4, .int v2), (0, .ref 31), (1, .int a1), (2, .int a2), (3, .int a3)]) rfl rfl rfl ?_
  refine x_aloadn (x := 31) rfl rfl ?_
  refine z_getR (N := 13) (b := 120) 11 9 rfl f_11_82 rfl J rfl 3977 ⟨rfl, rfl⟩ rfl ?_
  refine x_iloadn (x := a3) rfl rfl ?_
  refine z_putI (N := 8) (w := a3.toInt) 6 5 rfl f_11_381 rfl (jfin_no TX6 RX6 8 rfl rfl) hD J Sm rfl rfl rfl (pw_120_5 (by omega)) rfl (fun h w5 J Sm => ?_)
  refine x_iloadn (x := a2) rfl rfl ?_
  refine x_iconst (v := (-1)) rfl ki_m1 ?_
  refine x_iceq (tgt := 57) rfl rfl (ti_eq rfl jk_m1 ⟨fun c6 => ?_, fun c6 => ?_⟩)
  ·
    exact jX.sub jsb_n (ct_X11_isGood_r31_57 hD hQ  h J Sm)
  ·
    refine x_aloadn (x := 31) rfl rfl ?_
    refine z_getR (N := 13) (b := 120) 11 9 rfl f_11_82 rfl J rfl 3977 ⟨rfl, rfl⟩ rfl ?_
    refine x_iloadn (x := a2) rfl rfl ?_
    refine x_iload (x := v2) rfl rfl ?_
    refine x_iconst (v := 0) rfl ki_0 ?_
    refine x_inv (N := m_X6_belongs) (As := [.int a2, .int v2, .int 0]) (b := 120) (st := []) (dx9 := 24) (mc := 0) (ms := 0) (host := "ParishChest") 6 rfl t_X6_belongs ⟨Or.inr q_11_384, i_X6_belongs.1, i_X6_belongs.2⟩ ⟨by decide, rfl⟩ (congrArg Prod.fst (J.1.1 120 (6, 8) rfl)) rfl (by decide) rfl rfl ⟨by decide, by decide⟩ (sf_X6_belongs_r120_c0 (jr_of rfl (by omega)) (jr_of rfl (by omega)) hD J  (fun v8 h ev8 J S7 => ?_))
    have Sm := jSm_tr rfl Sm S7
    show jX m_X11_isGood 25 0 0 52 [(5, .int v4), (4, .int v2), (0, .ref 31), (1, .int a1), (2, .int a2), (3, .int a3)] [.int v8] _ 0 0 _
    refine x_iload (x := v4) rfl rfl ?_
    refine x_iceq (tgt := 59) rfl rfl (ti_eq rfl rfl ⟨fun c9 => ?_, fun c9 => ?_⟩)
    ·
      refine x_aloadn (x := 31) rfl rfl ?_
      refine z_getR (N := 13) (b := 98) 11 7 rfl f_11_66 rfl J rfl 3975 ⟨rfl, rfl⟩ rfl ?_
      refine x_iloadn (x := a2) rfl rfl ?_
      refine x_iload (x := v4) rfl rfl ?_
      refine x_iload (x := v2) rfl rfl ?_
      refine x_iloadn (x := a3) rfl rfl ?_
      refine x_inv (N := m_X0_isCertified) (As := [.int a2, .int v4, .int v2, .int a3]) (b := 98) (st := []) (dx9 := 2) (mc := 0) (ms := 0) (host := "") 0 rfl t_X0_isCertified ⟨Or.inl q_11_564, i_X0_isCertified.1, i_X0_isCertified.2⟩ ⟨by decide, rfl⟩ (congrArg Prod.fst (J.1.1 98 (0, 16) rfl)) rfl (by decide) rfl rfl ⟨by decide, by decide⟩ (sf_X0_isCertified_r98 (jr_of rfl (by omega)) (jr_of rfl (by omega)) (jr_of rfl (by omega)) (jr_of rfl (by omega)) hD J  (fun v11 h ev11 J S10 => ?_))
      have Sm := jSm_tr rfl Sm S10
      show jX m_X11_isGood 25 0 0 72 [(5, .int v4), (4, .int v2), (0, .ref 31), (1, .int a1), (2, .int a2), (3, .int a3)] [.int v11] _ 0 0 _
      refine x_ifeq (tgt := 94) rfl rfl (ti_eq rfl jk_0 ⟨fun c12 => ?_, fun c12 => ?_⟩)
      ·
        exact jX.sub jsb_n (ct_X11_isGood_r31_94 hD hQ  h J Sm)
      ·
        refine x_aloadn (x := 31) rfl rfl ?_
        refine z_getR (N := 13) (b := 78) 11 4 rfl f_11_41 rfl J rfl 3972 ⟨rfl, rfl⟩ rfl ?_
        refine x_iloadn (x := a2) rfl rfl ?_
        refine x_iload (x := v2) rfl rfl ?_
        refine x_sipush (v := 365) rfl ks_365 ?_
        refine z_isub rfl rfl jk_365 (by omega) (fun v13 ev13 => ?_)
        refine x_iload (x := v2) rfl rfl ?_
        refine x_inv (N := m_X7_reliefOf) (As := [.int a2, .int v13, .int v2]) (b := 78) (st := []) (dx9 := 1) (mc := 0) (ms := 0) (host := "") 7 rfl t_X7_reliefOf ⟨Or.inl q_11_405, i_X7_reliefOf.1, i_X7_reliefOf.2⟩ ⟨by decide, rfl⟩ (congrArg Prod.fst (J.1.1 78 (7, 16) rfl)) rfl (by decide) rfl rfl ⟨by decide, by decide⟩ (sf_X7_reliefOf_r78 (jr_of rfl (by omega)) (jr_of rfl (by omega)) (jr_of rfl (by omega)) hD J  (fun v15 h J S14 => ?_))
        have ev15 := jfull v15
        have Sm := jSm_tr rfl Sm S14
        show jX m_X11_isGood 25 0 0 91 [(5, .int v4), (4, .int v2), (0, .ref 31), (1, .int a1), (2, .int a2), (3, .int a3)] [.int v15] _ 0 0 _
        refine x_ifle (tgt := 98) rfl rfl (ti_le rfl jk_0 ⟨fun c16 => ?_, fun c16 => ?_⟩)
        ·
          refine x_iconst (v := 0) rfl ki_0 ?_
          exact jX.sub jsb_n (ct_X11_isGood_r31_200099 hD hQ  h J Sm)
        ·
          exact jX.sub jsb_n (ct_X11_isGood_r31_94 hD hQ  h J Sm)
    ·
      exact jX.sub jsb_n (ct_X11_isGood_r31_57 hD hQ  h J Sm)
def fp_X3_aheadOf_r87 : jFp := []
set_option maxRecDepth 100000 in
set_option maxHeartbeats 4000000 in
theorem ct_X3_aheadOf_r87_4 {Dy : jH → Prop} {h0 : jH} {Q : Option Value → jH → Prop} (hD : jDk Dy) (hQ : ∀ (v : Int32) hx9, (-1) ≤ v.toInt ∧ v.toInt ≤ 7 → jJ jSgX Dy hx9 → jSm fp_X3_aheadOf_r87 h0 hx9 → Q (some (.int v)) hx9) : ∀ r : Nat, ∀ (l1 : Int32) (l2 : Int32) (h : jH), l2.toInt - (-1) < (r : Int) → 0 ≤ l1.toInt ∧ l1.toInt ≤ 8 → (-1) ≤ l2.toInt ∧ l2.toInt ≤ 7 → jJ jSgX Dy h → jSm fp_X3_aheadOf_r87 h0 h → jX m_X3_aheadOf 2 0 0 4 [(0, .ref 87), (1, .int l1), (2, .int l2)] [] h 0 0 Q := by
  intro r
  induction r with
  | zero =>
    intro l1 l2 h hm y0 y1   J Sm
    exfalso
    omega
  | succ r ih =>
    intro l1 l2 h hm y0 y1   J Sm
    refine x_iloadn (x := l2) rfl rfl ?_
    refine x_iflt (tgt := 29) rfl rfl (ti_lt rfl jk_0 ⟨fun c1 => ?_, fun c1 => ?_⟩)
    ·
      refine x_iconst (v := (-1)) rfl ki_m1 ?_
      refine x_iret rfl rfl ?_
      exact hQ _ _ (jr_of jk_m1 (by omega)) J Sm
    ·
      refine x_aloadn (x := 87) rfl rfl ?_
      refine x_iloadn (x := l2) rfl rfl ?_
      refine x_inv (N := m_X3_groupOf) (As := [.int l2]) (b := 87) (st := []) (dx9 := 1) (mc := 0) (ms := 0) (host := "") 3 rfl t_X3_groupOf ⟨Or.inl q_3_57, i_X3_groupOf.1, i_X3_groupOf.2⟩ ⟨by decide, rfl⟩ (congrArg Prod.fst (J.1.1 87 (3, 14) rfl)) rfl (by decide) rfl rfl ⟨by decide, by decide⟩ (jC.of rfl k_X3_groupOf rfl ?_)
      show jX m_X3_groupOf 1 0 0 0 [(0, .ref 87), (1, .int l2)] [] _ 0 0 _
      refine x_iloadn (x := l2) rfl rfl ?_
      refine x_iflt (tgt := 21) rfl rfl (ti_lt rfl jk_0 (br_f (by omega) ?_))
      refine x_iloadn (x := l2) rfl rfl ?_
      refine x_aloadn (x := 87) rfl rfl ?_
      refine z_getI (N := 14) 3 3 rfl f_3_15 rfl J rfl sg_87_3_4_1_0_1 (fun v2 qv2 ev2 => ?_)
      refine x_icge (tgt := 21) rfl rfl (ti_ge rfl rfl ⟨fun c3 => ?_, fun c3 => ?_⟩)
      ·
        refine x_iconst (v := (-1)) rfl ki_m1 ?_
        refine x_iret rfl rfl ?_
        show jX m_X3_aheadOf 2 0 0 13 [(0, .ref 87), (1, .int l1), (2, .int l2)] [.int (-1)] _ 0 0 _
        refine x_aloadn (x := 87) rfl rfl ?_
        refine x_iloadn (x := l1) rfl rfl ?_
        refine x_inv (N := m_X3_groupOf) (As := [.int l1]) (b := 87) (st := [.int (-1)]) (dx9 := 1) (mc := 0) (ms := 0) (host := "") 3 rfl t_X3_groupOf ⟨Or.inl q_3_57, i_X3_groupOf.1, i_X3_groupOf.2⟩ ⟨by decide, rfl⟩ (congrArg Prod.fst (J.1.1 87 (3, 14) rfl)) rfl (by decide) rfl rfl ⟨by decide, by decide⟩ (jC.of rfl k_X3_groupOf rfl ?_)
        show jX m_X3_groupOf 1 0 0 0 [(0, .ref 87), (1, .int l1)] [] _ 0 0 _
        refine x_iloadn (x := l1) rfl rfl ?_
        refine x_iflt (tgt := 21) rfl rfl (ti_lt rfl jk_0 (br_f (by omega) ?_))
        refine x_iloadn (x := l1) rfl rfl ?_
        refine x_aloadn (x := 87) rfl rfl ?_
        refine z_getM (N := 14) (v := v2) 3 3 rfl f_3_15 rfl J rfl qv2 ?_
        refine x_icge (tgt := 21) rfl rfl (ti_ge rfl rfl ⟨fun c4 => ?_, fun c4 => ?_⟩)
        ·
          refine x_iconst (v := (-1)) rfl ki_m1 ?_
          refine x_iret rfl rfl ?_
          show jX m_X3_aheadOf 2 0 0 18 [(0, .ref 87), (1, .int l1), (2, .int l2)] [.int (-1), .int (-1)] _ 0 0 _
          refine x_icne (tgt := 23) rfl rfl (ti_ne jk_m1 jk_m1 (bn_f (by omega) ?_))
          refine x_iloadn (x := l2) rfl rfl ?_
          refine x_iret rfl rfl ?_
          exact hQ _ _ (jr_of rfl (by omega)) J Sm
        ·
          refine x_aloadn (x := 87) rfl rfl ?_
          refine z_getR (N := 14) (b := 92) 3 7 rfl f_3_28 rfl J rfl 11143 ⟨rfl, rfl⟩ rfl ?_
          refine x_iloadn (x := l1) rfl rfl ?_
          refine z_iald (N := 9) rfl J rfl sg_92_0_9_1_0_1 rfl (by omega) (fun v5 qv5 ev5 => ?_)
          refine x_goto (tgt := 22) rfl rfl ?_
          refine x_iret rfl rfl ?_
          show jX m_X3_aheadOf 2 0 0 18 [(0, .ref 87), (1, .int l1), (2, .int l2)] [.int v5, .int (-1)] _ 0 0 _
          refine x_icne (tgt := 23) rfl rfl (ti_ne jk_m1 rfl (bn_t (by omega) ?_))
          refine z_iinc (x := l2) (lsx9 := fun v6 => [(2, .int v6), (0, .ref 87), (1, .int l1)]) rfl rfl rfl jko_m1 (by omega) rfl (fun _ => rfl) (fun v6 ev6 => ?_)
          refine x_goto (tgt := 4) rfl rfl ?_
          exact jX.sub (jsb_c rfl (jsb_c rfl (jsb_c rfl jsb_n))) (ih l1 v6 h (by omega) (jr_of rfl (by omega)) (jr_of rfl (by omega)) J Sm)
      ·
        refine x_aloadn (x := 87) rfl rfl ?_
        refine z_getR (N := 14) (b := 92) 3 7 rfl f_3_28 rfl J rfl 11143 ⟨rfl, rfl⟩ rfl ?_
        refine x_iloadn (x := l2) rfl rfl ?_
        refine z_iald (N := 9) rfl J rfl sg_92_0_9_1_0_1 rfl (by omega) (fun v7 qv7 ev7 => ?_)
        refine x_goto (tgt := 22) rfl rfl ?_
        refine x_iret rfl rfl ?_
        show jX m_X3_aheadOf 2 0 0 13 [(0, .ref 87), (1, .int l1), (2, .int l2)] [.int v7] _ 0 0 _
        refine x_aloadn (x := 87) rfl rfl ?_
        refine x_iloadn (x := l1) rfl rfl ?_
        refine x_inv (N := m_X3_groupOf) (As := [.int l1]) (b := 87) (st := [.int v7]) (dx9 := 1) (mc := 0) (ms := 0) (host := "") 3 rfl t_X3_groupOf ⟨Or.inl q_3_57, i_X3_groupOf.1, i_X3_groupOf.2⟩ ⟨by decide, rfl⟩ (congrArg Prod.fst (J.1.1 87 (3, 14) rfl)) rfl (by decide) rfl rfl ⟨by decide, by decide⟩ (jC.of rfl k_X3_groupOf rfl ?_)
        show jX m_X3_groupOf 1 0 0 0 [(0, .ref 87), (1, .int l1)] [] _ 0 0 _
        refine x_iloadn (x := l1) rfl rfl ?_
        refine x_iflt (tgt := 21) rfl rfl (ti_lt rfl jk_0 (br_f (by omega) ?_))
        refine x_iloadn (x := l1) rfl rfl ?_
        refine x_aloadn (x := 87) rfl rfl ?_
        refine z_getM (N := 14) (v := v2) 3 3 rfl f_3_15 rfl J rfl qv2 ?_
        refine x_icge (tgt := 21) rfl rfl (ti_ge rfl rfl ⟨fun c8 => ?_, fun c8 => ?_⟩)
        ·
          refine x_iconst (v := (-1)) rfl ki_m1 ?_
          refine x_iret rfl rfl ?_
          show jX m_X3_aheadOf 2 0 0 18 [(0, .ref 87), (1, .int l1), (2, .int l2)] [.int (-1), .int v7] _ 0 0 _
          refine x_icne (tgt := 23) rfl rfl (ti_ne rfl jk_m1 (bn_t (by omega) ?_))
          refine z_iinc (x := l2) (lsx9 := fun v9 => [(2, .int v9), (0, .ref 87), (1, .int l1)]) rfl rfl rfl jko_m1 (by omega) rfl (fun _ => rfl) (fun v9 ev9 => ?_)
          refine x_goto (tgt := 4) rfl rfl ?_
          exact jX.sub (jsb_c rfl (jsb_c rfl (jsb_c rfl jsb_n))) (ih l1 v9 h (by omega) (jr_of rfl (by omega)) (jr_of rfl (by omega)) J Sm)
        ·
          refine x_aloadn (x := 87) rfl rfl ?_
          refine z_getR (N := 14) (b := 92) 3 7 rfl f_3_28 rfl J rfl 11143 ⟨rfl, rfl⟩ rfl ?_
          refine x_iloadn (x := l1) rfl rfl ?_
          refine z_iald (N := 9) rfl J rfl sg_92_0_9_1_0_1 rfl (by omega) (fun v10 qv10 ev10 => ?_)
          refine x_goto (tgt := 22) rfl rfl ?_
          refine x_iret rfl rfl ?_
          show jX m_X3_aheadOf 2 0 0 18 [(0, .ref 87), (1, .int l1), (2, .int l2)] [.int v10, .int v7] _ 0 0 _
          refine x_icne (tgt := 23) rfl rfl (ti_ne rfl rfl ⟨fun c11 => ?_, fun c11 => ?_⟩)
          ·
            refine z_iinc (x := l2) (lsx9 := fun v12 => [(2, .int v12), (0, .ref 87), (1, .int l1)]) rfl rfl rfl jko_m1 (by omega) rfl (fun _ => rfl) (fun v12 ev12 => ?_)
            refine x_goto (tgt := 4) rfl rfl ?_
            exact jX.sub (jsb_c rfl (jsb_c rfl (jsb_c rfl jsb_n))) (ih l1 v12 h (by omega) (jr_of rfl (by omega)) (jr_of rfl (by omega)) J Sm)
          ·
            refine x_iloadn (x := l2) rfl rfl ?_
            refine x_iret rfl rfl ?_
            exact hQ _ _ (jr_of rfl (by omega)) J Sm
set_option maxRecDepth 100000 in
set_option maxHeartbeats 4000000 in
theorem sf_X3_aheadOf_r87 {Dy : jH → Prop} {h : jH} {Q : Option Value → jH → Prop} {a1 : Int32} (y1 : 0 ≤ a1.toInt ∧ a1.toInt ≤ 8) (hD : jDk Dy) (J : jJ jSgX Dy h) (hQ : ∀ (v : Int32) hx9, (-1) ≤ v.toInt ∧ v.toInt ≤ 7 → jJ jSgX Dy hx9 → jSm fp_X3_aheadOf_r87 h hx9 → Q (some (.int v)) hx9) : jC m_X3_aheadOf 2 0 0 [.ref 87, .int a1] h Q := by
  refine jC.of rfl k_X3_aheadOf rfl ?_
  have Sm := jSm_rf fp_X3_aheadOf_r87 h
  show jX m_X3_aheadOf 2 0 0 0 [(0, .ref 87), (1, .int a1)] [] _ 0 0 _
  refine x_iloadn (x := a1) rfl rfl ?_
  refine x_iconst (v := 1) rfl ki_1 ?_
  refine z_isub rfl rfl jk_1 (by omega) (fun v1 ev1 => ?_)
  refine x_istoren (lsx9 := [(2, .int v1), (0, .ref 87), (1, .int a1)]) rfl rfl rfl ?_
  exact jX.sub (jsb_c rfl (jsb_c rfl (jsb_c rfl jsb_n))) (ct_X3_aheadOf_r87_4 hD hQ  9 a1 v1 h (by omega) (jr_of rfl (by omega)) (jr_of rfl (by omega)) J Sm)
def fp_X8_put_r39_c0 : jFp := [(40, 0, 600)]
set_option maxRecDepth 100000 in
set_option maxHeartbeats 4000000 in
theorem ct_X8_put_r39_c0_38 {Dy : jH → Prop} {h0 : jH} {Q : Option Value → jH → Prop} (hD : jDk Dy) (hQ : ∀ hx9, jJ jSgX Dy hx9 → jSm fp_X8_put_r39_c0 h0 hx9 → Q none hx9) : ∀ (h : jH), jJ jSgX Dy h → jSm fp_X8_put_r39_c0 h0 h → jX m_X8_put 1 0 0 38 [] [] h 0 0 Q := by
  intro  h    J Sm
  refine x_vret rfl rfl ?_
  exact hQ _ J Sm
set_option maxRecDepth 100000 in
set_option maxHeartbeats 4000000 in
theorem sf_X8_put_r39_c0 {Dy : jH → Prop} {h : jH} {Q : Option Value → jH → Prop} {a1 : Int32} {a3 : Int32} (y1 : 0 ≤ a1.toInt ∧ a1.toInt ≤ 199) (y3 : 0 ≤ a3.toInt ∧ a3.toInt ≤ 146399) (hD : jDk Dy) (J : jJ jSgX Dy h) (hQ : ∀ hx9, jJ jSgX Dy hx9 → jSm fp_X8_put_r39_c0 h hx9 → Q none hx9) : jC m_X8_put 1 0 0 [.ref 39, .int a1, .int 0, .int a3] h Q := by
  refine jC.of rfl k_X8_put rfl ?_
  have Sm := jSm_rf fp_X8_put_r39_c0 h
  show jX m_X8_put 1 0 0 0 [(0, .ref 39), (1, .int a1), (2, .int 0), (3, .int a3)] [] _ 0 0 _
  refine x_iloadn (x := a1) rfl rfl ?_
  refine x_iflt (tgt := 38) rfl rfl (ti_lt rfl jk_0 (br_f (by omega) ?_))
  refine x_iloadn (x := a1) rfl rfl ?_
  refine x_aloadn (x := 39) rfl rfl ?_
  refine z_getI (N := 4) 8 3 rfl f_8_7 rfl J rfl sg_39_3_4_1_0_1 (fun v1 qv1 ev1 => ?_)
  refine x_icge (tgt := 38) rfl rfl (ti_ge rfl rfl ⟨fun c2 => ?_, fun c2 => ?_⟩)
  ·
    exact jX.sub jsb_n (ct_X8_put_r39_c0_38 hD hQ  h J Sm)
  ·
    refine x_iloadn (x := 0) rfl rfl ?_
    refine x_iflt (tgt := 38) rfl rfl (ti_lt jk_0 jk_0 (br_f (by omega) ?_))
    refine x_iloadn (x := 0) rfl rfl ?_
    refine x_aloadn (x := 39) rfl rfl ?_
    refine z_getC (N := 4) (v := 3) 8 0 rfl f_8_19 rfl J rfl sg_39_0_1_1_0_1 jk_3 ?_
    refine x_icge (tgt := 38) rfl rfl (ti_ge jk_0 jk_3 (br_f (by omega) ?_))
    refine x_aloadn (x := 39) rfl rfl ?_
    refine z_getR (N := 4) (b := 40) 8 2 rfl f_8_25 rfl J rfl 4994 ⟨rfl, rfl⟩ rfl ?_
    refine x_iloadn (x := a1) rfl rfl ?_
    refine x_aloadn (x := 39) rfl rfl ?_
    refine z_getC (N := 4) (v := 3) 8 0 rfl f_8_19 rfl J rfl sg_39_0_1_1_0_1 jk_3 ?_
    refine z_imul rfl rfl jk_3 (by omega) (fun v3 ev3 => ?_)
    refine x_iloadn (x := 0) rfl rfl ?_
    refine z_iadd rfl rfl jk_0 (by omega) (fun v4 ev4 => ?_)
    refine x_iloadn (x := a3) rfl rfl ?_
    refine z_iast (N := 600) (l := 0) (u := 600) (w := a3.toInt) rfl hD J Sm rfl rfl rfl (by omega) rfl (wr_40 (fun q1 q2 q3 q4 => by omega) (fun q1 q2 q3 q4 => by omega) (fun q1 q2 q3 q4 => by omega)) rfl (fun h w5 J Sm => ?_)
    exact jX.sub jsb_n (ct_X8_put_r39_c0_38 hD hQ  h J Sm)
def fp_X8_put_r39_c1 : jFp := [(40, 0, 600)]
set_option maxRecDepth 100000 in
set_option maxHeartbeats 4000000 in
theorem ct_X8_put_r39_c1_38 {Dy : jH → Prop} {h0 : jH} {Q : Option Value → jH → Prop} (hD : jDk Dy) (hQ : ∀ hx9, jJ jSgX Dy hx9 → jSm fp_X8_put_r39_c1 h0 hx9 → Q none hx9) : ∀ (h : jH), jJ jSgX Dy h → jSm fp_X8_put_r39_c1 h0 h → jX m_X8_put 1 0 0 38 [] [] h 0 0 Q := by
  intro  h    J Sm
  refine x_vret rfl rfl ?_
  exact hQ _ J Sm
set_option maxRecDepth 100000 in
set_option maxHeartbeats 4000000 in
theorem sf_X8_put_r39_c1 {Dy : jH → Prop} {h : jH} {Q : Option Value → jH → Prop} {a1 : Int32} {a3 : Int32} (y1 : 0 ≤ a1.toInt ∧ a1.toInt ≤ 199) (y3 : (-1) ≤ a3.toInt ∧ a3.toInt ≤ 599) (hD : jDk Dy) (J : jJ jSgX Dy h) (hQ : ∀ hx9, jJ jSgX Dy hx9 → jSm fp_X8_put_r39_c1 h hx9 → Q none hx9) : jC m_X8_put 1 0 0 [.ref 39, .int a1, .int 1, .int a3] h Q := by
  refine jC.of rfl k_X8_put rfl ?_
  have Sm := jSm_rf fp_X8_put_r39_c1 h
  show jX m_X8_put 1 0 0 0 [(0, .ref 39), (1, .int a1), (2, .int 1), (3, .int a3)] [] _ 0 0 _
  refine x_iloadn (x := a1) rfl rfl ?_
  refine x_iflt (tgt := 38) rfl rfl (ti_lt rfl jk_0 (br_f (by omega) ?_))
  refine x_iloadn (x := a1) rfl rfl ?_
  refine x_aloadn (x := 39) rfl rfl ?_
  refine z_getI (N := 4) 8 3 rfl f_8_7 rfl J rfl sg_39_3_4_1_0_1 (fun v1 qv1 ev1 => ?_)
  refine x_icge (tgt := 38) rfl rfl (ti_ge rfl rfl ⟨fun c2 => ?_, fun c2 => ?_⟩)
  ·
    exact jX.sub jsb_n (ct_X8_put_r39_c1_38 hD hQ  h J Sm)
  ·
    refine x_iloadn (x := 1) rfl rfl ?_
    refine x_iflt (tgt := 38) rfl rfl (ti_lt jk_1 jk_0 (br_f (by omega) ?_))
    refine x_iloadn (x := 1) rfl rfl ?_
    refine x_aloadn (x := 39) rfl rfl ?_
    refine z_getC (N := 4) (v := 3) 8 0 rfl f_8_19 rfl J rfl sg_39_0_1_1_0_1 jk_3 ?_
    refine x_icge (tgt := 38) rfl rfl (ti_ge jk_1 jk_3 (br_f (by omega) ?_))
    refine x_aloadn (x := 39) rfl rfl ?_
    refine z_getR (N := 4) (b := 40) 8 2 rfl f_8_25 rfl J rfl 4994 ⟨rfl, rfl⟩ rfl ?_
    refine x_iloadn (x := a1) rfl rfl ?_
    refine x_aloadn (x := 39) rfl rfl ?_
    refine z_getC (N := 4) (v := 3) 8 0 rfl f_8_19 rfl J rfl sg_39_0_1_1_0_1 jk_3 ?_
    refine z_imul rfl rfl jk_3 (by omega) (fun v3 ev3 => ?_)
    refine x_iloadn (x := 1) rfl rfl ?_
    refine z_iadd rfl rfl jk_1 (by omega) (fun v4 ev4 => ?_)
    refine x_iloadn (x := a3) rfl rfl ?_
    refine z_iast (N := 600) (l := 0) (u := 600) (w := a3.toInt) rfl hD J Sm rfl rfl rfl (by omega) rfl (wr_40 (fun q1 q2 q3 q4 => by omega) (fun q1 q2 q3 q4 => by omega) (fun q1 q2 q3 q4 => by omega)) rfl (fun h w5 J Sm => ?_)
    exact jX.sub jsb_n (ct_X8_put_r39_c1_38 hD hQ  h J Sm)
def fp_X8_put_r39_c2 : jFp := [(40, 0, 600)]
set_option maxRecDepth 100000 in
set_option maxHeartbeats 4000000 in
theorem ct_X8_put_r39_c2_38 {Dy : jH → Prop} {h0 : jH} {Q : Option Value → jH → Prop} (hD : jDk Dy) (hQ : ∀ hx9, jJ jSgX Dy hx9 → jSm fp_X8_put_r39_c2 h0 hx9 → Q none hx9) : ∀ (h : jH), jJ jSgX Dy h → jSm fp_X8_put_r39_c2 h0 h → jX m_X8_put 1 0 0 38 [] [] h 0 0 Q := by
  intro  h    J Sm
  refine x_vret rfl rfl ?_
  exact hQ _ J Sm
set_option maxRecDepth 100000 in
set_option maxHeartbeats 4000000 in
theorem sf_X8_put_r39_c2 {Dy : jH → Prop} {h : jH} {Q : Option Value → jH → Prop} {a1 : Int32} {a3 : Int32} (y1 : 0 ≤ a1.toInt ∧ a1.toInt ≤ 199) (y3 : (-1) ≤ a3.toInt ∧ a3.toInt ≤ 599) (hD : jDk Dy) (J : jJ jSgX Dy h) (hQ : ∀ hx9, jJ jSgX Dy hx9 → jSm fp_X8_put_r39_c2 h hx9 → Q none hx9) : jC m_X8_put 1 0 0 [.ref 39, .int a1, .int 2, .int a3] h Q := by
  refine jC.of rfl k_X8_put rfl ?_
  have Sm := jSm_rf fp_X8_put_r39_c2 h
  show jX m_X8_put 1 0 0 0 [(0, .ref 39), (1, .int a1), (2, .int 2), (3, .int a3)] [] _ 0 0 _
  refine x_iloadn (x := a1) rfl rfl ?_
  refine x_iflt (tgt := 38) rfl rfl (ti_lt rfl jk_0 (br_f (by omega) ?_))
  refine x_iloadn (x := a1) rfl rfl ?_
  refine x_aloadn (x := 39) rfl rfl ?_
  refine z_getI (N := 4) 8 3 rfl f_8_7 rfl J rfl sg_39_3_4_1_0_1 (fun v1 qv1 ev1 => ?_)
  refine x_icge (tgt := 38) rfl rfl (ti_ge rfl rfl ⟨fun c2 => ?_, fun c2 => ?_⟩)
  ·
    exact jX.sub jsb_n (ct_X8_put_r39_c2_38 hD hQ  h J Sm)
  ·
    refine x_iloadn (x := 2) rfl rfl ?_
    refine x_iflt (tgt := 38) rfl rfl (ti_lt jk_2 jk_0 (br_f (by omega) ?_))
    refine x_iloadn (x := 2) rfl rfl ?_
    refine x_aloadn (x := 39) rfl rfl ?_
    refine z_getC (N := 4) (v := 3) 8 0 rfl f_8_19 rfl J rfl sg_39_0_1_1_0_1 jk_3 ?_
    refine x_icge (tgt := 38) rfl rfl (ti_ge jk_2 jk_3 (br_f (by omega) ?_))
    refine x_aloadn (x := 39) rfl rfl ?_
    refine z_getR (N := 4) (b := 40) 8 2 rfl f_8_25 rfl J rfl 4994 ⟨rfl, rfl⟩ rfl ?_
    refine x_iloadn (x := a1) rfl rfl ?_
    refine x_aloadn (x := 39) rfl rfl ?_
    refine z_getC (N := 4) (v := 3) 8 0 rfl f_8_19 rfl J rfl sg_39_0_1_1_0_1 jk_3 ?_
    refine z_imul rfl rfl jk_3 (by omega) (fun v3 ev3 => ?_)
    refine x_iloadn (x := 2) rfl rfl ?_
    refine z_iadd rfl rfl jk_2 (by omega) (fun v4 ev4 => ?_)
    refine x_iloadn (x := a3) rfl rfl ?_
    refine z_iast (N := 600) (l := 0) (u := 600) (w := a3.toInt) rfl hD J Sm rfl rfl rfl (by omega) rfl (wr_40 (fun q1 q2 q3 q4 => by omega) (fun q1 q2 q3 q4 => by omega) (fun q1 q2 q3 q4 => by omega)) rfl (fun h w5 J Sm => ?_)
    exact jX.sub jsb_n (ct_X8_put_r39_c2_38 hD hQ  h J Sm)
def fp_X8_put_r39_c3 : jFp := []
set_option maxRecDepth 100000 in
set_option maxHeartbeats 4000000 in
theorem ct_X8_put_r39_c3_38 {Dy : jH → Prop} {h0 : jH} {Q : Option Value → jH → Prop} (hD : jDk Dy) (hQ : ∀ hx9, jJ jSgX Dy hx9 → jSm fp_X8_put_r39_c3 h0 hx9 → Q none hx9) : ∀ (h : jH), jJ jSgX Dy h → jSm fp_X8_put_r39_c3 h0 h → jX m_X8_put 1 0 0 38 [] [] h 0 0 Q := by
  intro  h    J Sm
  refine x_vret rfl rfl ?_
  exact hQ _ J Sm
set_option maxRecDepth 100000 in
set_option maxHeartbeats 4000000 in
theorem sf_X8_put_r39_c3 {Dy : jH → Prop} {h : jH} {Q : Option Value → jH → Prop} {a1 : Int32} {a3 : Int32} (y1 : 0 ≤ a1.toInt ∧ a1.toInt ≤ 199) (y3 : 0 ≤ a3.toInt ∧ a3.toInt ≤ 0) (hD : jDk Dy) (J : jJ jSgX Dy h) (hQ : ∀ hx9, jJ jSgX Dy hx9 → jSm fp_X8_put_r39_c3 h hx9 → Q none hx9) : jC m_X8_put 1 0 0 [.ref 39, .int a1, .int 3, .int a3] h Q := by
  refine jC.of rfl k_X8_put rfl ?_
  have Sm := jSm_rf fp_X8_put_r39_c3 h
  show jX m_X8_put 1 0 0 0 [(0, .ref 39), (1, .int a1), (2, .int 3), (3, .int a3)] [] _ 0 0 _
  refine x_iloadn (x := a1) rfl rfl ?_
  refine x_iflt (tgt := 38) rfl rfl (ti_lt rfl jk_0 (br_f (by omega) ?_))
  refine x_iloadn (x := a1) rfl rfl ?_
  refine x_aloadn (x := 39) rfl rfl ?_
  refine z_getI (N := 4) 8 3 rfl f_8_7 rfl J rfl sg_39_3_4_1_0_1 (fun v1 qv1 ev1 => ?_)
  refine x_icge (tgt := 38) rfl rfl (ti_ge rfl rfl ⟨fun c2 => ?_, fun c2 => ?_⟩)
  ·
    exact jX.sub jsb_n (ct_X8_put_r39_c3_38 hD hQ  h J Sm)
  ·
    refine x_iloadn (x := 3) rfl rfl ?_
    refine x_iflt (tgt := 38) rfl rfl (ti_lt jk_3 jk_0 (br_f (by omega) ?_))
    refine x_iloadn (x := 3) rfl rfl ?_
    refine x_aloadn (x := 39) rfl rfl ?_
    refine z_getC (N := 4) (v := 3) 8 0 rfl f_8_19 rfl J rfl sg_39_0_1_1_0_1 jk_3 ?_
    refine x_icge (tgt := 38) rfl rfl (ti_ge jk_3 jk_3 (br_t (by omega) ?_))
    exact jX.sub jsb_n (ct_X8_put_r39_c3_38 hD hQ  h J Sm)
def fp_X8_put_r39_c4 : jFp := []
set_option maxRecDepth 100000 in
set_option maxHeartbeats 4000000 in
theorem ct_X8_put_r39_c4_38 {Dy : jH → Prop} {h0 : jH} {Q : Option Value → jH → Prop} (hD : jDk Dy) (hQ : ∀ hx9, jJ jSgX Dy hx9 → jSm fp_X8_put_r39_c4 h0 hx9 → Q none hx9) : ∀ (h : jH), jJ jSgX Dy h → jSm fp_X8_put_r39_c4 h0 h → jX m_X8_put 1 0 0 38 [] [] h 0 0 Q := by
  intro  h    J Sm
  refine x_vret rfl rfl ?_
  exact hQ _ J Sm
set_option maxRecDepth 100000 in
set_option maxHeartbeats 4000000 in
theorem sf_X8_put_r39_c4 {Dy : jH → Prop} {h : jH} {Q : Option Value → jH → Prop} {a1 : Int32} {a3 : Int32} (y1 : 0 ≤ a1.toInt ∧ a1.toInt ≤ 199) (y3 : 0 ≤ a3.toInt ∧ a3.toInt ≤ 0) (hD : jDk Dy) (J : jJ jSgX Dy h) (hQ : ∀ hx9, jJ jSgX Dy hx9 → jSm fp_X8_put_r39_c4 h hx9 → Q none hx9) : jC m_X8_put 1 0 0 [.ref 39, .int a1, .int 4, .int a3] h Q := by
  refine jC.of rfl k_X8_put rfl ?_
  have Sm := jSm_rf fp_X8_put_r39_c4 h
  show jX m_X8_put 1 0 0 0 [(0, .ref 39), (1, .int a1), (2, .int 4), (3, .int a3)] [] _ 0 0 _
  refine x_iloadn (x := a1) rfl rfl ?_
  refine x_iflt (tgt := 38) rfl rfl (ti_lt rfl jk_0 (br_f (by omega) ?_))
  refine x_iloadn (x := a1) rfl rfl ?_
  refine x_aloadn (x := 39) rfl rfl ?_
  refine z_getI (N := 4) 8 3 rfl f_8_7 rfl J rfl sg_39_3_4_1_0_1 (fun v1 qv1 ev1 => ?_)
  refine x_icge (tgt := 38) rfl rfl (ti_ge rfl rfl ⟨fun c2 => ?_, fun c2 => ?_⟩)
  ·
    exact jX.sub jsb_n (ct_X8_put_r39_c4_38 hD hQ  h J Sm)
  ·
    refine x_iloadn (x := 4) rfl rfl ?_
    refine x_iflt (tgt := 38) rfl rfl (ti_lt jk_4 jk_0 (br_f (by omega) ?_))
    refine x_iloadn (x := 4) rfl rfl ?_
    refine x_aloadn (x := 39) rfl rfl ?_
    refine z_getC (N := 4) (v := 3) 8 0 rfl f_8_19 rfl J rfl sg_39_0_1_1_0_1 jk_3 ?_
    refine x_icge (tgt := 38) rfl rfl (ti_ge jk_4 jk_3 (br_t (by omega) ?_))
    exact jX.sub jsb_n (ct_X8_put_r39_c4_38 hD hQ  h J Sm)
def fp_X8_put_r39_c5 : jFp := []
set_option maxRecDepth 100000 in
set_option maxHeartbeats 4000000 in
theorem ct_X8_put_r39_c5_38 {Dy : jH → Prop} {h0 : jH} {Q : Option Value → jH → Prop} (hD : jDk Dy) (hQ : ∀ hx9, jJ jSgX Dy hx9 → jSm fp_X8_put_r39_c5 h0 hx9 → Q none hx9) : ∀ (h : jH), jJ jSgX Dy h → jSm fp_X8_put_r39_c5 h0 h → jX m_X8_put 1 0 0 38 [] [] h 0 0 Q := by
  intro  h    J Sm
  refine x_vret rfl rfl ?_
  exact hQ _ J Sm
set_option maxRecDepth 100000 in
set_option maxHeartbeats 4000000 in
theorem sf_X8_put_r39_c5 {Dy : jH → Prop} {h : jH} {Q : Option Value → jH → Prop} {a1 : Int32} {a3 : Int32} (y1 : 0 ≤ a1.toInt ∧ a1.toInt ≤ 199) (y3 : 0 ≤ a3.toInt ∧ a3.toInt ≤ 0) (hD : jDk Dy) (J : jJ jSgX Dy h) (hQ : ∀ hx9, jJ jSgX Dy hx9 → jSm fp_X8_put_r39_c5 h hx9 → Q none hx9) : jC m_X8_put 1 0 0 [.ref 39, .int a1, .int 5, .int a3] h Q := by
  refine jC.of rfl k_X8_put rfl ?_
  have Sm := jSm_rf fp_X8_put_r39_c5 h
  show jX m_X8_put 1 0 0 0 [(0, .ref 39), (1, .int a1), (2, .int 5), (3, .int a3)] [] _ 0 0 _
  refine x_iloadn (x := a1) rfl rfl ?_
  refine x_iflt (tgt := 38) rfl rfl (ti_lt rfl jk_0 (br_f (by omega) ?_))
  refine x_iloadn (x := a1) rfl rfl ?_
  refine x_aloadn (x := 39) rfl rfl ?_
  refine z_getI (N := 4) 8 3 rfl f_8_7 rfl J rfl sg_39_3_4_1_0_1 (fun v1 qv1 ev1 => ?_)
  refine x_icge (tgt := 38) rfl rfl (ti_ge rfl rfl ⟨fun c2 => ?_, fun c2 => ?_⟩)
  ·
    exact jX.sub jsb_n (ct_X8_put_r39_c5_38 hD hQ  h J Sm)
  ·
    refine x_iloadn (x := 5) rfl rfl ?_
    refine x_iflt (tgt := 38) rfl rfl (ti_lt jk_5 jk_0 (br_f (by omega) ?_))
    refine x_iloadn (x := 5) rfl rfl ?_
    refine x_aloadn (x := 39) rfl rfl ?_
    refine z_getC (N := 4) (v := 3) 8 0 rfl f_8_19 rfl J rfl sg_39_0_1_1_0_1 jk_3 ?_
    refine x_icge (tgt := 38) rfl rfl (ti_ge jk_5 jk_3 (br_t (by omega) ?_))
    exact jX.sub jsb_n (ct_X8_put_r39_c5_38 hD hQ  h J Sm)
def fp_X8_add_r39 : jFp := [(39, 3, 4), (40, 0, 600)]
set_option maxRecDepth 100000 in
set_option maxHeartbeats 4000000 in
theorem sf_X8_add_r39 {Dy : jH → Prop} {h : jH} {Q : Option Value → jH → Prop} {a1 : Int32} {a2 : Int32} {a3 : Int32} {a4 : Int32} {a5 : Int32} {a6 : Int32} (y1 : 0 ≤ a1.toInt ∧ a1.toInt ≤ 146399) (y2 : (-1) ≤ a2.toInt ∧ a2.toInt ≤ 599) (y3 : (-1) ≤ a3.toInt ∧ a3.toInt ≤ 599) (y4 : 0 ≤ a4.toInt ∧ a4.toInt ≤ 0) (y5 : 0 ≤ a5.toInt ∧ a5.toInt ≤ 0) (y6 : 0 ≤ a6.toInt ∧ a6.toInt ≤ 0) (hD : jDk Dy) (J : jJ jSgX Dy h) (hQ : ∀ hx9, jJ jSgX Dy hx9 → jSm fp_X8_add_r39 h hx9 → Q none hx9) : jC m_X8_add 2 0 0 [.ref 39, .int a1, .int a2, .int a3, .int a4, .int a5, .int a6] h Q := by
  refine jC.of rfl k_X8_add rfl ?_
  have Sm := jSm_rf fp_X8_add_r39 h
  show jX m_X8_add 2 0 0 0 [(0, .ref 39), (1, .int a1), (2, .int a2), (3, .int a3), (4, .int a4), (5, .int a5), (6, .int a6)] [] _ 0 0 _
  refine x_aloadn (x := 39) rfl rfl ?_
  refine z_getI (N := 4) 8 3 rfl f_8_7 rfl J rfl sg_39_3_4_1_0_1 (fun v1 qv1 ev1 => ?_)
  refine x_aloadn (x := 39) rfl rfl ?_
  refine z_getC (N := 4) (v := 200) 8 1 rfl f_8_22 rfl J rfl sg_39_1_2_1_0_1 jk_200 ?_
  refine x_iclt (tgt := 12) rfl rfl (ti_lt rfl jk_200 ⟨fun c2 => ?_, fun c2 => ?_⟩)
  ·
    refine x_aloadn (x := 39) rfl rfl ?_
    refine z_getM (N := 4) (v := v1) 8 3 rfl f_8_7 rfl J rfl qv1 ?_
    refine x_istore (lsx9 := [(7, .int v1), (0, .ref 39), (1, .int a1), (2, .int a2), (3, .int a3), (4, .int a4), (5, .int a5), (6, .int a6)]) rfl rfl rfl ?_
    refine x_aloadn (x := 39) rfl rfl ?_
    refine x_iload (x := v1) rfl rfl ?_
    refine x_iconst (v := 1) rfl ki_1 ?_
    refine z_iadd rfl rfl jk_1 (by omega) (fun v3 ev3 => ?_)
    refine z_putI (N := 4) (w := v3.toInt) 8 3 rfl f_8_7 rfl (jfin_no TX8 RX8 4 rfl rfl) hD J Sm rfl rfl rfl (pw_39_3 (by omega)) rfl (fun h w4 J Sm => ?_)
    refine x_aloadn (x := 39) rfl rfl ?_
    refine x_iload (x := v1) rfl rfl ?_
    refine x_iconst (v := 0) rfl ki_0 ?_
    refine x_iloadn (x := a1) rfl rfl ?_
    refine x_inv (N := m_X8_put) (As := [.int v1, .int 0, .int a1]) (b := 39) (st := []) (dx9 := 1) (mc := 0) (ms := 0) (host := "") 8 rfl t_X8_put ⟨Or.inl q_8_29, i_X8_put.1, i_X8_put.2⟩ ⟨by decide, rfl⟩ (congrArg Prod.fst (J.1.1 39 (8, 4) rfl)) rfl (by decide) rfl rfl ⟨by decide, by decide⟩ (sf_X8_put_r39_c0 (jr_of rfl (by omega)) (jr_of rfl (by omega)) hD J  (fun h J S5 => ?_))
    have Sm := jSm_tr rfl Sm S5
    show jX m_X8_add 2 0 0 34 [(7, .int v1), (0, .ref 39), (1, .int a1), (2, .int a2), (3, .int a3), (4, .int a4), (5, .int a5), (6, .int a6)] [] _ 0 0 _
    refine x_aloadn (x := 39) rfl rfl ?_
    refine x_iload (x := v1) rfl rfl ?_
    refine x_iconst (v := 1) rfl ki_1 ?_
    refine x_iloadn (x := a2) rfl rfl ?_
    refine x_inv (N := m_X8_put) (As := [.int v1, .int 1, .int a2]) (b := 39) (st := []) (dx9 := 1) (mc := 0) (ms := 0) (host := "") 8 rfl t_X8_put ⟨Or.inl q_8_29, i_X8_put.1, i_X8_put.2⟩ ⟨by decide, rfl⟩ (congrArg Prod.fst (J.1.1 39 (8, 4) rfl)) rfl (by decide) rfl rfl ⟨by decide, by decide⟩ (sf_X8_put_r39_c1 (jr_of rfl (by omega)) (jr_of rfl (by omega)) hD J  (fun h J S6 => ?_))
    have Sm := jSm_tr rfl Sm S6
    show jX m_X8_add 2 0 0 42 [(7, .int v1), (0, .ref 39), (1, .int a1), (2, .int a2), (3, .int a3), (4, .int a4), (5, .int a5), (6, .int a6)] [] _ 0 0 _
    refine x_aloadn (x := 39) rfl rfl ?_
    refine x_iload (x := v1) rfl rfl ?_
    refine x_iconst (v := 2) rfl ki_2 ?_
    refine x_iloadn (x := a3) rfl rfl ?_
    refine x_inv (N := m_X8_put) (As := [.int v1, .int 2, .int a3]) (b := 39) (st := []) (dx9 := 1) (mc := 0) (ms := 0) (host := "") 8 rfl t_X8_put ⟨Or.inl q_8_29, i_X8_put.1, i_X8_put.2⟩ ⟨by decide, rfl⟩ (congrArg Prod.fst (J.1.1 39 (8, 4) rfl)) rfl (by decide) rfl rfl ⟨by decide, by decide⟩ (sf_X8_put_r39_c2 (jr_of rfl (by omega)) (jr_of rfl (by omega)) hD J  (fun h J S7 => ?_))
    have Sm := jSm_tr rfl Sm S7
    show jX m_X8_add 2 0 0 50 [(7, .int v1), (0, .ref 39), (1, .int a1), (2, .int a2), (3, .int a3), (4, .int a4), (5, .int a5), (6, .int a6)] [] _ 0 0 _
    refine x_aloadn (x := 39) rfl rfl ?_
    refine x_iload (x := v1) rfl rfl ?_
    refine x_iconst (v := 3) rfl ki_3 ?_
    refine x_iload (x := a4) rfl rfl ?_
    refine x_inv (N := m_X8_put) (As := [.int v1, .int 3, .int a4]) (b := 39) (st := []) (dx9 := 1) (mc := 0) (ms := 0) (host := "") 8 rfl t_X8_put ⟨Or.inl q_8_29, i_X8_put.1, i_X8_put.2⟩ ⟨by decide, rfl⟩ (congrArg Prod.fst (J.1.1 39 (8, 4) rfl)) rfl (by decide) rfl rfl ⟨by decide, by decide⟩ (sf_X8_put_r39_c3 (jr_of rfl (by omega)) (jr_of rfl (by omega)) hD J  (fun h J S8 => ?_))
    have Sm := jSm_tr rfl Sm S8
    show jX m_X8_add 2 0 0 59 [(7, .int v1), (0, .ref 39), (1, .int a1), (2, .int a2), (3, .int a3), (4, .int a4), (5, .int a5), (6, .int a6)] [] _ 0 0 _
    refine x_aloadn (x := 39) rfl rfl ?_
    refine x_iload (x := v1) rfl rfl ?_
    refine x_iconst (v := 4) rfl ki_4 ?_
    refine x_iload (x := a5) rfl rfl ?_
    refine x_inv (N := m_X8_put) (As := [.int v1, .int 4, .int a5]) (b := 39) (st := []) (dx9 := 1) (mc := 0) (ms := 0) (host := "") 8 rfl t_X8_put ⟨Or.inl q_8_29, i_X8_put.1, i_X8_put.2⟩ ⟨by decide, rfl⟩ (congrArg Prod.fst (J.1.1 39 (8, 4) rfl)) rfl (by decide) rfl rfl ⟨by decide, by decide⟩ (sf_X8_put_r39_c4 (jr_of rfl (by omega)) (jr_of rfl (by omega)) hD J  (fun h J S9 => ?_))
    have Sm := jSm_tr rfl Sm S9
    show jX m_X8_add 2 0 0 68 [(7, .int v1), (0, .ref 39), (1, .int a1), (2, .int a2), (3, .int a3), (4, .int a4), (5, .int a5), (6, .int a6)] [] _ 0 0 _
    refine x_aloadn (x := 39) rfl rfl ?_
    refine x_iload (x := v1) rfl rfl ?_
    refine x_iconst (v := 5) rfl ki_5 ?_
    refine x_iload (x := a6) rfl rfl ?_
    refine x_inv (N := m_X8_put) (As := [.int v1, .int 5, .int a6]) (b := 39) (st := []) (dx9 := 1) (mc := 0) (ms := 0) (host := "") 8 rfl t_X8_put ⟨Or.inl q_8_29, i_X8_put.1, i_X8_put.2⟩ ⟨by decide, rfl⟩ (congrArg Prod.fst (J.1.1 39 (8, 4) rfl)) rfl (by decide) rfl rfl ⟨by decide, by decide⟩ (sf_X8_put_r39_c5 (jr_of rfl (by omega)) (jr_of rfl (by omega)) hD J  (fun h J S10 => ?_))
    have Sm := jSm_tr rfl Sm S10
    show jX m_X8_add 2 0 0 77 [(7, .int v1), (0, .ref 39), (1, .int a1), (2, .int a2), (3, .int a3), (4, .int a4), (5, .int a5), (6, .int a6)] [] _ 0 0 _
    refine x_vret rfl rfl ?_
    exact hQ _ J Sm
  ·
    refine x_vret rfl rfl ?_
    exact hQ _ J Sm
def fp_X11_join_r31 : jFp := [(31, 12, 13), (32, 19, 20), (39, 3, 4), (40, 0, 600), (78, 13, 14), (82, 0, 600), (83, 0, 600), (84, 0, 200), (86, 0, 3), (87, 10, 11), (87, 11, 12), (87, 12, 13), (87, 13, 14), (89, 0, 81), (90, 0, 9), (91, 0, 9), (92, 0, 9), (93, 0, 90), (94, 0, 14401)]
set_option maxRecDepth 100000 in
set_option maxHeartbeats 4000000 in
theorem ct_X11_join_r31_157 {Dy : jH → Prop} {h0 : jH} {Q : Option Value → jH → Prop} {R98 : Int} (hD : jDk Dy) (hQ : ∀ (v : Int32) hx9, jJ jSgX Dy hx9 → jSm fp_X11_join_r31 h0 hx9 → Q (some (.int v)) hx9) (k98 : ∀ (l1 : Int32) (l2 : Int32) (l3 : Int32) (g0 : Int32) (h : jH), 9 - l3.toInt < R98 → 0 ≤ l1.toInt ∧ l1.toInt ≤ 146399 → 0 ≤ l3.toInt ∧ l3.toInt ≤ 9 → 0 ≤ g0.toInt ∧ g0.toInt ≤ 9 → jiv h 87 3 = g0 → jJ jSgX Dy h → jSm fp_X11_join_r31 h0 h → jX m_X11_join 14 0 0 98 [(0, .ref 31), (1, .int l1), (2, .int l2), (3, .int l3)] [] h 0 0 Q) : ∀ (l1 : Int32) (l2 : Int32) (l3 : Int32) (g0 : Int32) (h : jH), 0 ≤ l1.toInt ∧ l1.toInt ≤ 146399 → 0 ≤ l3.toInt ∧ l3.toInt ≤ 8 → 1 ≤ g0.toInt ∧ g0.toInt ≤ 9 → jiv h 87 3 = g0 → 9 - l3.toInt ≤ R98 → jJ jSgX Dy h → jSm fp_X11_join_r31 h0 h → jX m_X11_join 14 0 0 157 [(0, .ref 31), (1, .int l1), (2, .int l2), (3, .int l3)] [] h 0 0 Q := by
  intro l1 l2 l3 g0 h y0 y1 y2 z0 m98 J Sm
  have el2 := jfull l2
  refine z_iinc (x := l3) (lsx9 := fun v1 => [(3, .int v1), (0, .ref 31), (1, .int l1), (2, .int l2)]) rfl rfl rfl jko_1 (by omega) rfl (fun _ => rfl) (fun v1 ev1 => ?_)
  refine x_goto (tgt := 98) rfl rfl ?_
  exact jX.sub (jsb_c rfl (jsb_c rfl (jsb_c rfl (jsb_c rfl jsb_n)))) (k98 l1 l2 v1 g0 h (by omega) (jr_of rfl (by omega)) (jr_of rfl (by omega)) (jr_of rfl (by omega)) z0 J Sm)
set_option maxRecDepth 100000 in
set_option maxHeartbeats 4000000 in
theorem ct_X11_join_r31_98 {Dy : jH → Prop} {h0 : jH} {Q : Option Value → jH → Prop} (hD : jDk Dy) (hQ : ∀ (v : Int32) hx9, jJ jSgX Dy hx9 → jSm fp_X11_join_r31 h0 hx9 → Q (some (.int v)) hx9) : ∀ r : Nat, ∀ (l1 : Int32) (l2 : Int32) (l3 : Int32) (g0 : Int32) (h : jH), 9 - l3.toInt < (r : Int) → 0 ≤ l1.toInt ∧ l1.toInt ≤ 146399 → 0 ≤ l3.toInt ∧ l3.toInt ≤ 9 → 0 ≤ g0.toInt ∧ g0.toInt ≤ 9 → jiv h 87 3 = g0 → jJ jSgX Dy h → jSm fp_X11_join_r31 h0 h → jX m_X11_join 14 0 0 98 [(0, .ref 31), (1, .int l1), (2, .int l2), (3, .int l3)] [] h 0 0 Q := by
  intro r
  induction r with
  | zero =>
    intro l1 l2 l3 g0 h hm y0 y1 y2 z0  J Sm
    exfalso
    have el2 := jfull l2
    omega
  | succ r ih =>
    intro l1 l2 l3 g0 h hm y0 y1 y2 z0  J Sm
    have el2 := jfull l2
    refine x_iloadn (x := l3) rfl rfl ?_
    refine x_aloadn (x := 31) rfl rfl ?_
    refine z_getR (N := 13) (b := 87) 11 5 rfl f_11_50 rfl J rfl 3973 ⟨rfl, rfl⟩ rfl ?_
    refine z_getM (N := 14) (v := g0) 3 3 rfl f_11_273 rfl J rfl z0 ?_
    refine x_icge (tgt := 163) rfl rfl (ti_ge rfl rfl ⟨fun c1 => ?_, fun c1 => ?_⟩)
    ·
      refine x_aloadn (x := 31) rfl rfl ?_
      refine x_iloadn (x := l2) rfl rfl ?_
      refine x_inv (N := m_X11_accept) (As := [.int l2]) (b := 31) (st := []) (dx9 := 13) (mc := 0) (ms := 0) (host := "") 11 rfl t_X11_accept ⟨Or.inl q_11_165, i_X11_accept.1, i_X11_accept.2⟩ ⟨by decide, rfl⟩ (congrArg Prod.fst (J.1.1 31 (11, 13) rfl)) rfl (by decide) rfl rfl ⟨by decide, by decide⟩ (jC.of rfl k_X11_accept rfl ?_)
      show jX m_X11_accept 13 0 0 0 [(0, .ref 31), (1, .int l2)] [] _ 0 0 _
      refine x_aloadn (x := 31) rfl rfl ?_
      refine x_iconst (v := 0) rfl ki_0 ?_
      refine z_putI (N := 13) (w := 0) 11 12 rfl f_11_94 rfl (jfin_no TX11 RX11 13 rfl rfl) hD J Sm rfl rfl jk_0 (pw_31_12 (by omega)) rfl (fun h w2 J Sm => ?_)
      refine x_aloadn (x := 31) rfl rfl ?_
      refine z_getR (N := 13) (b := 32) 11 0 rfl f_11_10 rfl J rfl 3968 ⟨rfl, rfl⟩ rfl ?_
      refine x_dup rfl rfl ?_
      refine z_getI0 (N := 20) 1 19 rfl f_11_528 rfl J rfl (fun v3 qv3 => ?_)
      have ev3 := jfull v3
      refine x_iconst (v := 1) rfl ki_1 ?_
      refine z_iadd0 rfl (fun v4 => ?_)
      have ev4 := jfull v4
      refine z_putI (N := 20) (w := v4.toInt) 1 19 rfl f_11_528 rfl (jfin_no TX1 RX1 20 rfl rfl) hD J Sm rfl rfl rfl (pw_32_19 trivial) rfl (fun h w5 J Sm => ?_)
      refine x_iloadn (x := l2) rfl rfl ?_
      refine x_iret rfl rfl ?_
      show jX m_X11_join 14 0 0 168 [(0, .ref 31), (1, .int l1), (2, .int l2), (3, .int l3)] [.int l2] _ 0 0 _
      refine x_iret rfl rfl ?_
      exact hQ _ _ J Sm
    ·
      refine x_aloadn (x := 31) rfl rfl ?_
      refine z_getR (N := 13) (b := 87) 11 5 rfl f_11_50 rfl J rfl 3973 ⟨rfl, rfl⟩ rfl ?_
      refine x_iloadn (x := l3) rfl rfl ?_
      refine x_inv (N := m_X3_isNews) (As := [.int l3]) (b := 87) (st := []) (dx9 := 13) (mc := 0) (ms := 0) (host := "") 3 rfl t_X3_isNews ⟨Or.inl q_11_300, i_X3_isNews.1, i_X3_isNews.2⟩ ⟨by decide, rfl⟩ (congrArg Prod.fst (J.1.1 87 (3, 14) rfl)) rfl (by decide) rfl rfl ⟨by decide, by decide⟩ (jC.of rfl k_X3_isNews rfl ?_)
      show jX m_X3_isNews 13 0 0 0 [(0, .ref 87), (1, .int l3)] [] _ 0 0 _
      refine x_aloadn (x := 87) rfl rfl ?_
      refine x_iloadn (x := l3) rfl rfl ?_
      refine x_inv (N := m_X3_aheadOf) (As := [.int l3]) (b := 87) (st := []) (dx9 := 2) (mc := 0) (ms := 0) (host := "") 3 rfl t_X3_aheadOf ⟨Or.inl q_3_61, i_X3_aheadOf.1, i_X3_aheadOf.2⟩ ⟨by decide, rfl⟩ (congrArg Prod.fst (J.1.1 87 (3, 14) rfl)) rfl (by decide) rfl rfl ⟨by decide, by decide⟩ (sf_X3_aheadOf_r87 (jr_of rfl (by omega)) hD J  (fun v7 h ev7 J S6 => ?_))
      have Sm := jSm_tr rfl Sm S6
      show jX m_X3_isNews 13 0 0 5 [(0, .ref 87), (1, .int l3)] [.int v7] _ 0 0 _
      refine x_istoren (lsx9 := [(2, .int v7), (0, .ref 87), (1, .int l3)]) rfl rfl rfl ?_
      refine x_iloadn (x := v7) rfl rfl ?_
      refine x_iconst (v := (-1)) rfl ki_m1 ?_
      refine x_iceq (tgt := 42) rfl rfl (ti_eq rfl jk_m1 ⟨fun c8 => ?_, fun c8 => ?_⟩)
      ·
        refine x_iconst (v := 0) rfl ki_0 ?_
        refine x_zret rfl rfl (by decide) ?_
        show jX m_X11_join 14 0 0 117 [(0, .ref 31), (1, .int l1), (2, .int l2), (3, .int l3)] [.int 0] _ 0 0 _
        refine x_ifeq (tgt := 157) rfl rfl (ti_eq jk_0 jk_0 (br_t (by omega) ?_))
        exact jX.sub (jsb_c rfl (jsb_c rfl (jsb_c rfl (jsb_c rfl jsb_n)))) (ct_X11_join_r31_157 hD hQ ih l1 l2 l3 g0 h (jr_of rfl (by omega)) (jr_of rfl (by omega)) (jr_of rfl (by omega)) (jmc S6 rfl z0) (by omega) J Sm)
      ·
        refine x_aloadn (x := 87) rfl rfl ?_
        refine z_getR (N := 14) (b := 78) 3 1 rfl f_3_53 rfl J rfl 11137 ⟨rfl, rfl⟩ rfl ?_
        refine x_aloadn (x := 87) rfl rfl ?_
        refine x_iloadn (x := v7) rfl rfl ?_
        refine x_inv (N := m_X3_mentionAt) (As := [.int v7]) (b := 87) (st := [.ref 78]) (dx9 := 12) (mc := 0) (ms := 0) (host := "") 3 rfl t_X3_mentionAt ⟨Or.inl q_3_64, i_X3_mentionAt.1, i_X3_mentionAt.2⟩ ⟨by decide, rfl⟩ (congrArg Prod.fst (J.1.1 87 (3, 14) rfl)) rfl (by decide) rfl rfl ⟨by decide, by decide⟩ (jC.of rfl k_X3_mentionAt rfl ?_)
        show jX m_X3_mentionAt 12 0 0 0 [(0, .ref 87), (1, .int v7)] [] _ 0 0 _
        refine x_iloadn (x := v7) rfl rfl ?_
        refine x_iflt (tgt := 21) rfl rfl (ti_lt rfl jk_0 (br_f (by omega) ?_))
        refine x_iloadn (x := v7) rfl rfl ?_
        refine x_aloadn (x := 87) rfl rfl ?_
        refine z_getM (N := 14) (v := g0) 3 3 rfl f_3_15 rfl J rfl (jmc S6 rfl z0) ?_
        refine x_icge (tgt := 21) rfl rfl (ti_ge rfl rfl ⟨fun c9 => ?_, fun c9 => ?_⟩)
        ·
          refine x_iconst (v := (-1)) rfl ki_m1 ?_
          refine x_iret rfl rfl ?_
          show jX m_X3_isNews 13 0 0 20 [(2, .int v7), (0, .ref 87), (1, .int l3)] [.int (-1), .ref 78] _ 0 0 _
          refine x_inv (N := m_X7_soulAt) (As := [.int (-1)]) (b := 78) (st := []) (dx9 := 12) (mc := 0) (ms := 0) (host := "") 7 rfl t_X7_soulAt ⟨Or.inl q_3_67, i_X7_soulAt.1, i_X7_soulAt.2⟩ ⟨by decide, rfl⟩ (congrArg Prod.fst (J.1.1 78 (7, 16) rfl)) rfl (by decide) rfl rfl ⟨by decide, by decide⟩ (jC.of rfl k_X7_soulAt rfl ?_)
          show jX m_X7_soulAt 12 0 0 0 [(0, .ref 78), (1, .int (-1))] [] _ 0 0 _
          refine x_iloadn (x := (-1)) rfl rfl ?_
          refine x_iflt (tgt := 36) rfl rfl (ti_lt jk_m1 jk_0 (br_t (by omega) ?_))
          refine x_iconst (v := (-1)) rfl ki_m1 ?_
          refine x_iret rfl rfl ?_
          show jX m_X3_isNews 13 0 0 23 [(2, .int v7), (0, .ref 87), (1, .int l3)] [.int (-1)] _ 0 0 _
          refine x_aloadn (x := 87) rfl rfl ?_
          refine z_getR (N := 14) (b := 78) 3 1 rfl f_3_53 rfl J rfl 11137 ⟨rfl, rfl⟩ rfl ?_
          refine x_aloadn (x := 87) rfl rfl ?_
          refine x_iloadn (x := l3) rfl rfl ?_
          refine x_inv (N := m_X3_mentionAt) (As := [.int l3]) (b := 87) (st := [.ref 78, .int (-1)]) (dx9 := 12) (mc := 0) (ms := 0) (host := "") 3 rfl t_X3_mentionAt ⟨Or.inl q_3_64, i_X3_mentionAt.1, i_X3_mentionAt.2⟩ ⟨by decide, rfl⟩ (congrArg Prod.fst (J.1.1 87 (3, 14) rfl)) rfl (by decide) rfl rfl ⟨by decide, by decide⟩ (jC.of rfl k_X3_mentionAt rfl ?_)
          show jX m_X3_mentionAt 12 0 0 0 [(0, .ref 87), (1, .int l3)] [] _ 0 0 _
          refine x_iloadn (x := l3) rfl rfl ?_
          refine x_iflt (tgt := 21) rfl rfl (ti_lt rfl jk_0 (br_f (by omega) ?_))
          refine x_iloadn (x := l3) rfl rfl ?_
          refine x_aloadn (x := 87) rfl rfl ?_
          refine z_getM (N := 14) (v := g0) 3 3 rfl f_3_15 rfl J rfl (jmc S6 rfl z0) ?_
          refine x_icge (tgt := 21) rfl rfl (ti_ge rfl rfl ⟨fun c10 => ?_, fun c10 => ?_⟩)
          ·
            refine x_iconst (v := (-1)) rfl ki_m1 ?_
            refine x_iret rfl rfl ?_
            show jX m_X3_isNews 13 0 0 32 [(2, .int v7), (0, .ref 87), (1, .int l3)] [.int (-1), .ref 78, .int (-1)] _ 0 0 _
            refine x_inv (N := m_X7_soulAt) (As := [.int (-1)]) (b := 78) (st := [.int (-1)]) (dx9 := 12) (mc := 0) (ms := 0) (host := "") 7 rfl t_X7_soulAt ⟨Or.inl q_3_67, i_X7_soulAt.1, i_X7_soulAt.2⟩ ⟨by decide, rfl⟩ (congrArg Prod.fst (J.1.1 78 (7, 16) rfl)) rfl (by decide) rfl rfl ⟨by decide, by decide⟩ (jC.of rfl k_X7_soulAt rfl ?_)
            show jX m_X7_soulAt 12 0 0 0 [(0, .ref 78), (1, .int (-1))] [] _ 0 0 _
            refine x_iloadn (x := (-1)) rfl rfl ?_
            refine x_iflt (tgt := 36) rfl rfl (ti_lt jk_m1 jk_0 (br_t (by omega) ?_))
            refine x_iconst (v := (-1)) rfl ki_m1 ?_
            refine x_iret rfl rfl ?_
            show jX m_X3_isNews 13 0 0 35 [(2, .int v7), (0, .ref 87), (1, .int l3)] [.int (-1), .int (-1)] _ 0 0 _
            refine x_iceq (tgt := 42) rfl rfl (ti_eq jk_m1 jk_m1 (br_t (by omega) ?_))
            refine x_iconst (v := 0) rfl ki_0 ?_
            refine x_zret rfl rfl (by decide) ?_
            show jX m_X11_join 14 0 0 117 [(0, .ref 31), (1, .int l1), (2, .int l2), (3, .int l3)] [.int 0] _ 0 0 _
            refine x_ifeq (tgt := 157) rfl rfl (ti_eq jk_0 jk_0 (br_t (by omega) ?_))
            exact jX.sub (jsb_c rfl (jsb_c rfl (jsb_c rfl (jsb_c rfl jsb_n)))) (ct_X11_join_r31_157 hD hQ ih l1 l2 l3 g0 h (jr_of rfl (by omega)) (jr_of rfl (by omega)) (jr_of rfl (by omega)) (jmc S6 rfl z0) (by omega) J Sm)
          ·
            refine x_aloadn (x := 87) rfl rfl ?_
            refine z_getR (N := 14) (b := 88) 3 2 rfl f_3_9 rfl J rfl 11138 ⟨rfl, rfl⟩ rfl ?_
            refine x_iloadn (x := l3) rfl rfl ?_
            refine z_iald (N := 9) rfl J rfl sg_88_0_9_1_0_1 rfl (by omega) (fun v11 qv11 ev11 => ?_)
            refine x_goto (tgt := 22) rfl rfl ?_
            refine x_iret rfl rfl ?_
            show jX m_X3_isNews 13 0 0 32 [(2, .int v7), (0, .ref 87), (1, .int l3)] [.int v11, .ref 78, .int (-1)] _ 0 0 _
            refine x_inv (N := m_X7_soulAt) (As := [.int v11]) (b := 78) (st := [.int (-1)]) (dx9 := 12) (mc := 0) (ms := 0) (host := "") 7 rfl t_X7_soulAt ⟨Or.inl q_3_67, i_X7_soulAt.1, i_X7_soulAt.2⟩ ⟨by decide, rfl⟩ (congrArg Prod.fst (J.1.1 78 (7, 16) rfl)) rfl (by decide) rfl rfl ⟨by decide, by decide⟩ (jC.of rfl k_X7_soulAt rfl ?_)
            show jX m_X7_soulAt 12 0 0 0 [(0, .ref 78), (1, .int v11)] [] _ 0 0 _
            refine x_iloadn (x := v11) rfl rfl ?_
            refine x_iflt (tgt := 36) rfl rfl (ti_lt rfl jk_0 (br_f (by omega) ?_))
            refine x_iloadn (x := v11) rfl rfl ?_
            refine x_sipush (v := 600) rfl ks_600 ?_
            refine x_icge (tgt := 36) rfl rfl (ti_ge rfl jk_600 (br_f (by omega) ?_))
            refine x_iloadn (x := v11) rfl rfl ?_
            refine x_iconst (v := 3) rfl ki_3 ?_
            refine z_idiv rfl rfl jk_3 (by omega) (by omega) (fun v12 ev12 => ?_)
            refine x_aloadn (x := 78) rfl rfl ?_
            refine z_getR (N := 16) (b := 32) 7 0 rfl f_7_55 rfl J rfl 9984 ⟨rfl, rfl⟩ rfl ?_
            refine z_getR (N := 20) (b := 33) 1 0 rfl f_7_63 rfl J rfl 4096 ⟨rfl, rfl⟩ rfl ?_
            refine z_getI (N := 4) 8 3 rfl f_7_85 rfl J rfl sg_33_3_4_1_0_1 (fun v13 qv13 ev13 => ?_)
            refine x_icge (tgt := 36) rfl rfl (ti_ge rfl rfl ⟨fun c14 => ?_, fun c14 => ?_⟩)
            ·
              refine x_iconst (v := (-1)) rfl ki_m1 ?_
              refine x_iret rfl rfl ?_
              show jX m_X3_isNews 13 0 0 35 [(2, .int v7), (0, .ref 87), (1, .int l3)] [.int (-1), .int (-1)] _ 0 0 _
              refine x_iceq (tgt := 42) rfl rfl (ti_eq jk_m1 jk_m1 (br_t (by omega) ?_))
              refine x_iconst (v := 0) rfl ki_0 ?_
              refine x_zret rfl rfl (by decide) ?_
              show jX m_X11_join 14 0 0 117 [(0, .ref 31), (1, .int l1), (2, .int l2), (3, .int l3)] [.int 0] _ 0 0 _
              refine x_ifeq (tgt := 157) rfl rfl (ti_eq jk_0 jk_0 (br_t (by omega) ?_))
              exact jX.sub (jsb_c rfl (jsb_c rfl (jsb_c rfl (jsb_c rfl jsb_n)))) (ct_X11_join_r31_157 hD hQ ih l1 l2 l3 g0 h (jr_of rfl (by omega)) (jr_of rfl (by omega)) (jr_of rfl (by omega)) (jmc S6 rfl z0) (by omega) J Sm)
            ·
              refine x_aloadn (x := 78) rfl rfl ?_
              refine z_getR (N := 16) (b := 82) 7 10 rfl f_7_37 rfl J rfl 9994 ⟨rfl, rfl⟩ rfl ?_
              refine x_iloadn (x := v11) rfl rfl ?_
              refine z_iald (N := 600) rfl J rfl sg_82_0_600_1_0_1 rfl (by omega) (fun v15 qv15 ev15 => ?_)
              refine x_goto (tgt := 37) rfl rfl ?_
              refine x_iret rfl rfl ?_
              show jX m_X3_isNews 13 0 0 35 [(2, .int v7), (0, .ref 87), (1, .int l3)] [.int v15, .int (-1)] _ 0 0 _
              refine x_iceq (tgt := 42) rfl rfl (ti_eq jk_m1 rfl ⟨fun c16 => ?_, fun c16 => ?_⟩)
              ·
                refine x_iconst (v := 0) rfl ki_0 ?_
                refine x_zret rfl rfl (by decide) ?_
                show jX m_X11_join 14 0 0 117 [(0, .ref 31), (1, .int l1), (2, .int l2), (3, .int l3)] [.int 0] _ 0 0 _
                refine x_ifeq (tgt := 157) rfl rfl (ti_eq jk_0 jk_0 (br_t (by omega) ?_))
                exact jX.sub (jsb_c rfl (jsb_c rfl (jsb_c rfl (jsb_c rfl jsb_n)))) (ct_X11_join_r31_157 hD hQ ih l1 l2 l3 g0 h (jr_of rfl (by omega)) (jr_of rfl (by omega)) (jr_of rfl (by omega)) (jmc S6 rfl z0) (by omega) J Sm)
              ·
                refine x_iconst (v := 1) rfl ki_1 ?_
                refine x_goto (tgt := 43) rfl rfl ?_
                refine x_zret rfl rfl (by decide) ?_
                show jX m_X11_join 14 0 0 117 [(0, .ref 31), (1, .int l1), (2, .int l2), (3, .int l3)] [.int 1] _ 0 0 _
                refine x_ifeq (tgt := 157) rfl rfl (ti_eq jk_1 jk_0 (br_f (by omega) ?_))
                refine x_aloadn (x := 31) rfl rfl ?_
                refine z_getR (N := 13) (b := 32) 11 0 rfl f_11_10 rfl J rfl 3968 ⟨rfl, rfl⟩ rfl ?_
                refine z_getR (N := 20) (b := 39) 1 3 rfl f_11_237 rfl J rfl 4099 ⟨rfl, rfl⟩ rfl ?_
                refine x_iloadn (x := l1) rfl rfl ?_
                refine x_aloadn (x := 31) rfl rfl ?_
                refine z_getR (N := 13) (b := 87) 11 5 rfl f_11_50 rfl J rfl 3973 ⟨rfl, rfl⟩ rfl ?_
                refine x_aloadn (x := 31) rfl rfl ?_
                refine z_getR (N := 13) (b := 87) 11 5 rfl f_11_50 rfl J rfl 3973 ⟨rfl, rfl⟩ rfl ?_
                refine x_iloadn (x := l3) rfl rfl ?_
                refine x_inv (N := m_X3_aheadOf) (As := [.int l3]) (b := 87) (st := [.ref 87, .int l1, .ref 39]) (dx9 := 2) (mc := 0) (ms := 0) (host := "") 3 rfl t_X3_aheadOf ⟨Or.inl q_11_306, i_X3_aheadOf.1, i_X3_aheadOf.2⟩ ⟨by decide, rfl⟩ (congrArg Prod.fst (J.1.1 87 (3, 14) rfl)) rfl (by decide) rfl rfl ⟨by decide, by decide⟩ (sf_X3_aheadOf_r87 (jr_of rfl (by omega)) hD J  (fun v18 h ev18 J S17 => ?_))
                have Sm := jSm_tr rfl Sm S17
                show jX m_X11_join 14 0 0 140 [(0, .ref 31), (1, .int l1), (2, .int l2), (3, .int l3)] [.int v18, .ref 87, .int l1, .ref 39] _ 0 0 _
                refine x_inv (N := m_X3_mentionAt) (As := [.int v18]) (b := 87) (st := [.int l1, .ref 39]) (dx9 := 13) (mc := 0) (ms := 0) (host := "") 3 rfl t_X3_mentionAt ⟨Or.inl q_11_309, i_X3_mentionAt.1, i_X3_mentionAt.2⟩ ⟨by decide, rfl⟩ (congrArg Prod.fst (J.1.1 87 (3, 14) rfl)) rfl (by decide) rfl rfl ⟨by decide, by decide⟩ (jC.of rfl k_X3_mentionAt rfl ?_)
                show jX m_X3_mentionAt 13 0 0 0 [(0, .ref 87), (1, .int v18)] [] _ 0 0 _
                refine x_iloadn (x := v18) rfl rfl ?_
                refine x_iflt (tgt := 21) rfl rfl (ti_lt rfl jk_0 ⟨fun c19 => ?_, fun c19 => ?_⟩)
                ·
                  refine x_iconst (v := (-1)) rfl ki_m1 ?_
                  refine x_iret rfl rfl ?_
                  show jX m_X11_join 14 0 0 143 [(0, .ref 31), (1, .int l1), (2, .int l2), (3, .int l3)] [.int (-1), .int l1, .ref 39] _ 0 0 _
                  refine x_aloadn (x := 31) rfl rfl ?_
                  refine z_getR (N := 13) (b := 87) 11 5 rfl f_11_50 rfl J rfl 3973 ⟨rfl, rfl⟩ rfl ?_
                  refine x_iloadn (x := l3) rfl rfl ?_
                  refine x_inv (N := m_X3_mentionAt) (As := [.int l3]) (b := 87) (st := [.int (-1), .int l1, .ref 39]) (dx9 := 13) (mc := 0) (ms := 0) (host := "") 3 rfl t_X3_mentionAt ⟨Or.inl q_11_309, i_X3_mentionAt.1, i_X3_mentionAt.2⟩ ⟨by decide, rfl⟩ (congrArg Prod.fst (J.1.1 87 (3, 14) rfl)) rfl (by decide) rfl rfl ⟨by decide, by decide⟩ (jC.of rfl k_X3_mentionAt rfl ?_)
                  show jX m_X3_mentionAt 13 0 0 0 [(0, .ref 87), (1, .int l3)] [] _ 0 0 _
                  refine x_iloadn (x := l3) rfl rfl ?_
                  refine x_iflt (tgt := 21) rfl rfl (ti_lt rfl jk_0 (br_f (by omega) ?_))
                  refine x_iloadn (x := l3) rfl rfl ?_
                  refine x_aloadn (x := 87) rfl rfl ?_
                  refine z_getM (N := 14) (v := g0) 3 3 rfl f_3_15 rfl J rfl (jmc S17 rfl (jmc S6 rfl z0)) ?_
                  refine x_icge (tgt := 21) rfl rfl (ti_ge rfl rfl ⟨fun c20 => ?_, fun c20 => ?_⟩)
                  ·
                    refine x_iconst (v := (-1)) rfl ki_m1 ?_
                    refine x_iret rfl rfl ?_
                    show jX m_X11_join 14 0 0 151 [(0, .ref 31), (1, .int l1), (2, .int l2), (3, .int l3)] [.int (-1), .int (-1), .int l1, .ref 39] _ 0 0 _
                    refine x_iconst (v := 0) rfl ki_0 ?_
                    refine x_iconst (v := 0) rfl ki_0 ?_
                    refine x_iconst (v := 0) rfl ki_0 ?_
                    refine x_inv (N := m_X8_add) (As := [.int l1, .int (-1), .int (-1), .int 0, .int 0, .int 0]) (b := 39) (st := []) (dx9 := 2) (mc := 0) (ms := 0) (host := "") 8 rfl t_X8_add ⟨Or.inl q_11_145, i_X8_add.1, i_X8_add.2⟩ ⟨by decide, rfl⟩ (congrArg Prod.fst (J.1.1 39 (8, 4) rfl)) rfl (by decide) rfl rfl ⟨by decide, by decide⟩ (sf_X8_add_r39 (jr_of rfl (by omega)) (jr_of jk_m1 (by omega)) (jr_of jk_m1 (by omega)) (jr_of jk_0 (by omega)) (jr_of jk_0 (by omega)) (jr_of jk_0 (by omega)) hD J  (fun h J S21 => ?_))
                    have Sm := jSm_tr rfl Sm S21
                    show jX m_X11_join 14 0 0 157 [(0, .ref 31), (1, .int l1), (2, .int l2), (3, .int l3)] [] _ 0 0 _
                    exact jX.sub (jsb_c rfl (jsb_c rfl (jsb_c rfl (jsb_c rfl jsb_n)))) (ct_X11_join_r31_157 hD hQ ih l1 l2 l3 g0 h (jr_of rfl (by omega)) (jr_of rfl (by omega)) (jr_of rfl (by omega)) (jmc S21 rfl (jmc S17 rfl (jmc S6 rfl z0))) (by omega) J Sm)
                  ·
                    refine x_aloadn (x := 87) rfl rfl ?_
                    refine z_getR (N := 14) (b := 88) 3 2 rfl f_3_9 rfl J rfl 11138 ⟨rfl, rfl⟩ rfl ?_
                    refine x_iloadn (x := l3) rfl rfl ?_
                    refine z_ialdM (N := 9) (v := v11) rfl J rfl rfl (by omega) (jmc S17 rfl qv11) ?_
                    refine x_goto (tgt := 22) rfl rfl ?_
                    refine x_iret rfl rfl ?_
                    show jX m_X11_join 14 0 0 151 [(0, .ref 31), (1, .int l1), (2, .int l2), (3, .int l3)] [.int v11, .int (-1), .int l1, .ref 39] _ 0 0 _
                    refine x_iconst (v := 0) rfl ki_0 ?_
                    refine x_iconst (v := 0) rfl ki_0 ?_
                    refine x_iconst (v := 0) rfl ki_0 ?_
                    refine x_inv (N := m_X8_add) (As := [.int l1, .int (-1), .int v11, .int 0, .int 0, .int 0]) (b := 39) (st := []) (dx9 := 2) (mc := 0) (ms := 0) (host := "") 8 rfl t_X8_add ⟨Or.inl q_11_145, i_X8_add.1, i_X8_add.2⟩ ⟨by decide, rfl⟩ (congrArg Prod.fst (J.1.1 39 (8, 4) rfl)) rfl (by decide) rfl rfl ⟨by decide, by decide⟩ (sf_X8_add_r39 (jr_of rfl (by omega)) (jr_of jk_m1 (by omega)) (jr_of rfl (by omega)) (jr_of jk_0 (by omega)) (jr_of jk_0 (by omega)) (jr_of jk_0 (by omega)) hD J  (fun h J S22 => ?_))
                    have Sm := jSm_tr rfl Sm S22
                    show jX m_X11_join 14 0 0 157 [(0, .ref 31), (1, .int l1), (2, .int l2), (3, .int l3)] [] _ 0 0 _
                    exact jX.sub (jsb_c rfl (jsb_c rfl (jsb_c rfl (jsb_c rfl jsb_n)))) (ct_X11_join_r31_157 hD hQ ih l1 l2 l3 g0 h (jr_of rfl (by omega)) (jr_of rfl (by omega)) (jr_of rfl (by omega)) (jmc S22 rfl (jmc S17 rfl (jmc S6 rfl z0))) (by omega) J Sm)
                ·
                  refine x_iloadn (x := v18) rfl rfl ?_
                  refine x_aloadn (x := 87) rfl rfl ?_
                  refine z_getM (N := 14) (v := g0) 3 3 rfl f_3_15 rfl J rfl (jmc S17 rfl (jmc S6 rfl z0)) ?_
                  refine x_icge (tgt := 21) rfl rfl (ti_ge rfl rfl ⟨fun c23 => ?_, fun c23 => ?_⟩)
                  ·
                    refine x_iconst (v := (-1)) rfl ki_m1 ?_
                    refine x_iret rfl rfl ?_
                    show jX m_X11_join 14 0 0 143 [(0, .ref 31), (1, .int l1), (2, .int l2), (3, .int l3)] [.int (-1), .int l1, .ref 39] _ 0 0 _
                    refine x_aloadn (x := 31) rfl rfl ?_
                    refine z_getR (N := 13) (b := 87) 11 5 rfl f_11_50 rfl J rfl 3973 ⟨rfl, rfl⟩ rfl ?_
                    refine x_iloadn (x := l3) rfl rfl ?_
                    refine x_inv (N := m_X3_mentionAt) (As := [.int l3]) (b := 87) (st := [.int (-1), .int l1, .ref 39]) (dx9 := 13) (mc := 0) (ms := 0) (host := "") 3 rfl t_X3_mentionAt ⟨Or.inl q_11_309, i_X3_mentionAt.1, i_X3_mentionAt.2⟩ ⟨by decide, rfl⟩ (congrArg Prod.fst (J.1.1 87 (3, 14) rfl)) rfl (by decide) rfl rfl ⟨by decide, by decide⟩ (jC.of rfl k_X3_mentionAt rfl ?_)
                    show jX m_X3_mentionAt 13 0 0 0 [(0, .ref 87), (1, .int l3)] [] _ 0 0 _
                    refine x_iloadn (x := l3) rfl rfl ?_
                    refine x_iflt (tgt := 21) rfl rfl (ti_lt rfl jk_0 (br_f (by omega) ?_))
                    refine x_iloadn (x := l3) rfl rfl ?_
                    refine x_aloadn (x := 87) rfl rfl ?_
                    refine z_getM (N := 14) (v := g0) 3 3 rfl f_3_15 rfl J rfl (jmc S17 rfl (jmc S6 rfl z0)) ?_
                    refine x_icge (tgt := 21) rfl rfl (ti_ge rfl rfl ⟨fun c24 => ?_, fun c24 => ?_⟩)
                    ·
                      refine x_iconst (v := (-1)) rfl ki_m1 ?_
                      refine x_iret rfl rfl ?_
                      show jX m_X11_join 14 0 0 151 [(0, .ref 31), (1, .int l1), (2, .int l2), (3, .int l3)] [.int (-1), .int (-1), .int l1, .ref 39] _ 0 0 _
                      refine x_iconst (v := 0) rfl ki_0 ?_
                      refine x_iconst (v := 0) rfl ki_0 ?_
                      refine x_iconst (v := 0) rfl ki_0 ?_
                      refine x_inv (N := m_X8_add) (As := [.int l1, .int (-1), .int (-1), .int 0, .int 0, .int 0]) (b := 39) (st := []) (dx9 := 2) (mc := 0) (ms := 0) (host := "") 8 rfl t_X8_add ⟨Or.inl q_11_145, i_X8_add.1, i_X8_add.2⟩ ⟨by decide, rfl⟩ (congrArg Prod.fst (J.1.1 39 (8, 4) rfl)) rfl (by decide) rfl rfl ⟨by decide, by decide⟩ (sf_X8_add_r39 (jr_of rfl (by omega)) (jr_of jk_m1 (by omega)) (jr_of jk_m1 (by omega)) (jr_of jk_0 (by omega)) (jr_of jk_0 (by omega)) (jr_of jk_0 (by omega)) hD J  (fun h J S25 => ?_))
                      have Sm := jSm_tr rfl Sm S25
                      show jX m_X11_join 14 0 0 157 [(0, .ref 31), (1, .int l1), (2, .int l2), (3, .int l3)] [] _ 0 0 _
                      exact jX.sub (jsb_c rfl (jsb_c rfl (jsb_c rfl (jsb_c rfl jsb_n)))) (ct_X11_join_r31_157 hD hQ ih l1 l2 l3 g0 h (jr_of rfl (by omega)) (jr_of rfl (by omega)) (jr_of rfl (by omega)) (jmc S25 rfl (jmc S17 rfl (jmc S6 rfl z0))) (by omega) J Sm)
                    ·
                      refine x_aloadn (x := 87) rfl rfl ?_
                      refine z_getR (N := 14) (b := 88) 3 2 rfl f_3_9 rfl J rfl 11138 ⟨rfl, rfl⟩ rfl ?_
                      refine x_iloadn (x := l3) rfl rfl ?_
                      refine z_ialdM (N := 9) (v := v11) rfl J rfl rfl (by omega) (jmc S17 rfl qv11) ?_
                      refine x_goto (tgt := 22) rfl rfl ?_
                      refine x_iret rfl rfl ?_
                      show jX m_X11_join 14 0 0 151 [(0, .ref 31), (1, .int l1), (2, .int l2), (3, .int l3)] [.int v11, .int (-1), .int l1, .ref 39] _ 0 0 _
                      refine x_iconst (v := 0) rfl ki_0 ?_
                      refine x_iconst (v := 0) rfl ki_0 ?_
                      refine x_iconst (v := 0) rfl ki_0 ?_
                      refine x_inv (N := m_X8_add) (As := [.int l1, .int (-1), .int v11, .int 0, .int 0, .int 0]) (b := 39) (st := []) (dx9 := 2) (mc := 0) (ms := 0) (host := "") 8 rfl t_X8_add ⟨Or.inl q_11_145, i_X8_add.1, i_X8_add.2⟩ ⟨by decide, rfl⟩ (congrArg Prod.fst (J.1.1 39 (8, 4) rfl)) rfl (by decide) rfl rfl ⟨by decide, by decide⟩ (sf_X8_add_r39 (jr_of rfl (by omega)) (jr_of jk_m1 (by omega)) (jr_of rfl (by omega)) (jr_of jk_0 (by omega)) (jr_of jk_0 (by omega)) (jr_of jk_0 (by omega)) hD J  (fun h J S26 => ?_))
                      have Sm := jSm_tr rfl Sm S26
                      show jX m_X11_join 14 0 0 157 [(0, .ref 31), (1, .int l1), (2, .int l2), (3, .int l3)] [] _ 0 0 _
                      exact jX.sub (jsb_c rfl (jsb_c rfl (jsb_c rfl (jsb_c rfl jsb_n)))) (ct_X11_join_r31_157 hD hQ ih l1 l2 l3 g0 h (jr_of rfl (by omega)) (jr_of rfl (by omega)) (jr_of rfl (by omega)) (jmc S26 rfl (jmc S17 rfl (jmc S6 rfl z0))) (by omega) J Sm)
                  ·
                    refine x_aloadn (x := 87) rfl rfl ?_
                    refine z_getR (N := 14) (b := 88) 3 2 rfl f_3_9 rfl J rfl 11138 ⟨rfl, rfl⟩ rfl ?_
                    refine x_iloadn (x := v18) rfl rfl ?_
                    refine z_iald (N := 9) rfl J rfl sg_88_0_9_1_0_1 rfl (by omega) (fun v27 qv27 ev27 => ?_)
                    refine x_goto (tgt := 22) rfl rfl ?_
                    refine x_iret rfl rfl ?_
                    show jX m_X11_join 14 0 0 143 [(0, .ref 31), (1, .int l1), (2, .int l2), (3, .int l3)] [.int v27, .int l1, .ref 39] _ 0 0 _
                    refine x_aloadn (x := 31) rfl rfl ?_
                    refine z_getR (N := 13) (b := 87) 11 5 rfl f_11_50 rfl J rfl 3973 ⟨rfl, rfl⟩ rfl ?_
                    refine x_iloadn (x := l3) rfl rfl ?_
                    refine x_inv (N := m_X3_mentionAt) (As := [.int l3]) (b := 87) (st := [.int v27, .int l1, .ref 39]) (dx9 := 13) (mc := 0) (ms := 0) (host := "") 3 rfl t_X3_mentionAt ⟨Or.inl q_11_309, i_X3_mentionAt.1, i_X3_mentionAt.2⟩ ⟨by decide, rfl⟩ (congrArg Prod.fst (J.1.1 87 (3, 14) rfl)) rfl (by decide) rfl rfl ⟨by decide, by decide⟩ (jC.of rfl k_X3_mentionAt rfl ?_)
                    show jX m_X3_mentionAt 13 0 0 0 [(0, .ref 87), (1, .int l3)] [] _ 0 0 _
                    refine x_iloadn (x := l3) rfl rfl ?_
                    refine x_iflt (tgt := 21) rfl rfl (ti_lt rfl jk_0 (br_f (by omega) ?_))
                    refine x_iloadn (x := l3) rfl rfl ?_
                    refine x_aloadn (x := 87) rfl rfl ?_
                    refine z_getM (N := 14) (v := g0) 3 3 rfl f_3_15 rfl J rfl (jmc S17 rfl (jmc S6 rfl z0)) ?_
                    refine x_icge (tgt := 21) rfl rfl (ti_ge rfl rfl ⟨fun c28 => ?_, fun c28 => ?_⟩)
                    ·
                      refine x_iconst (v := (-1)) rfl ki_m1 ?_
                      refine x_iret rfl rfl ?_
                      show jX m_X11_join 14 0 0 151 [(0, .ref 31), (1, .int l1), (2, .int l2), (3, .int l3)] [.int (-1), .int v27, .int l1, .ref 39] _ 0 0 _
                      refine x_iconst (v := 0) rfl ki_0 ?_
                      refine x_iconst (v := 0) rfl ki_0 ?_
                      refine x_iconst (v := 0) rfl ki_0 ?_
                      refine x_inv (N := m_X8_add) (As := [.int l1, .int v27, .int (-1), .int 0, .int 0, .int 0]) (b := 39) (st := []) (dx9 := 2) (mc := 0) (ms := 0) (host := "") 8 rfl t_X8_add ⟨Or.inl q_11_145, i_X8_add.1, i_X8_add.2⟩ ⟨by decide, rfl⟩ (congrArg Prod.fst (J.1.1 39 (8, 4) rfl)) rfl (by decide) rfl rfl ⟨by decide, by decide⟩ (sf_X8_add_r39 (jr_of rfl (by omega)) (jr_of rfl (by omega)) (jr_of jk_m1 (by omega)) (jr_of jk_0 (by omega)) (jr_of jk_0 (by omega)) (jr_of jk_0 (by omega)) hD J  (fun h J S29 => ?_))
                      have Sm := jSm_tr rfl Sm S29
                      show jX m_X11_join 14 0 0 157 [(0, .ref 31), (1, .int l1), (2, .int l2), (3, .int l3)] [] _ 0 0 _
                      exact jX.sub (jsb_c rfl (jsb_c rfl (jsb_c rfl (jsb_c rfl jsb_n)))) (ct_X11_join_r31_157 hD hQ ih l1 l2 l3 g0 h (jr_of rfl (by omega)) (jr_of rfl (by omega)) (jr_of rfl (by omega)) (jmc S29 rfl (jmc S17 rfl (jmc S6 rfl z0))) (by omega) J Sm)
                    ·
                      refine x_aloadn (x := 87) rfl rfl ?_
                      refine z_getR (N := 14) (b := 88) 3 2 rfl f_3_9 rfl J rfl 11138 ⟨rfl, rfl⟩ rfl ?_
                      refine x_iloadn (x := l3) rfl rfl ?_
                      refine z_ialdM (N := 9) (v := v11) rfl J rfl rfl (by omega) (jmc S17 rfl qv11) ?_
                      refine x_goto (tgt := 22) rfl rfl ?_
                      refine x_iret rfl rfl ?_
                      show jX m_X11_join 14 0 0 151 [(0, .ref 31), (1, .int l1), (2, .int l2), (3, .int l3)] [.int v11, .int v27, .int l1, .ref 39] _ 0 0 _
                      refine x_iconst (v := 0) rfl ki_0 ?_
                      refine x_iconst (v := 0) rfl ki_0 ?_
                      refine x_iconst (v := 0) rfl ki_0 ?_
                      refine x_inv (N := m_X8_add) (As := [.int l1, .int v27, .int v11, .int 0, .int 0, .int 0]) (b := 39) (st := []) (dx9 := 2) (mc := 0) (ms := 0) (host := "") 8 rfl t_X8_add ⟨Or.inl q_11_145, i_X8_add.1, i_X8_add.2⟩ ⟨by decide, rfl⟩ (congrArg Prod.fst (J.1.1 39 (8, 4) rfl)) rfl (by decide) rfl rfl ⟨by decide, by decide⟩ (sf_X8_add_r39 (jr_of rfl (by omega)) (jr_of rfl (by omega)) (jr_of rfl (by omega)) (jr_of jk_0 (by omega)) (jr_of jk_0 (by omega)) (jr_of jk_0 (by omega)) hD J  (fun h J S30 => ?_))
                      have Sm := jSm_tr rfl Sm S30
                      show jX m_X11_join 14 0 0 157 [(0, .ref 31), (1, .int l1), (2, .int l2), (3, .int l3)] [] _ 0 0 _
                      exact jX.sub (jsb_c rfl (jsb_c rfl (jsb_c rfl (jsb_c rfl jsb_n)))) (ct_X11_join_r31_157 hD hQ ih l1 l2 l3 g0 h (jr_of rfl (by omega)) (jr_of rfl (by omega)) (jr_of rfl (by omega)) (jmc S30 rfl (jmc S17 rfl (jmc S6 rfl z0))) (by omega) J Sm)
        ·
          refine x_aloadn (x := 87) rfl rfl ?_
          refine z_getR (N := 14) (b := 88) 3 2 rfl f_3_9 rfl J rfl 11138 ⟨rfl, rfl⟩ rfl ?_
          refine x_iloadn (x := v7) rfl rfl ?_
          refine z_iald (N := 9) rfl J rfl sg_88_0_9_1_0_1 rfl (by omega) (fun v31 qv31 ev31 => ?_)
          refine x_goto (tgt := 22) rfl rfl ?_
          refine x_iret rfl rfl ?_
          show jX m_X3_isNews 13 0 0 20 [(2, .int v7), (0, .ref 87), (1, .int l3)] [.int v31, .ref 78] _ 0 0 _
          refine x_inv (N := m_X7_soulAt) (As := [.int v31]) (b := 78) (st := []) (dx9 := 12) (mc := 0) (ms := 0) (host := "") 7 rfl t_X7_soulAt ⟨Or.inl q_3_67, i_X7_soulAt.1, i_X7_soulAt.2⟩ ⟨by decide, rfl⟩ (congrArg Prod.fst (J.1.1 78 (7, 16) rfl)) rfl (by decide) rfl rfl ⟨by decide, by decide⟩ (jC.of rfl k_X7_soulAt rfl ?_)
          show jX m_X7_soulAt 12 0 0 0 [(0, .ref 78), (1, .int v31)] [] _ 0 0 _
          refine x_iloadn (x := v31) rfl rfl ?_
          refine x_iflt (tgt := 36) rfl rfl (ti_lt rfl jk_0 (br_f (by omega) ?_))
          refine x_iloadn (x := v31) rfl rfl ?_
          refine x_sipush (v := 600) rfl ks_600 ?_
          refine x_icge (tgt := 36) rfl rfl (ti_ge rfl jk_600 (br_f (by omega) ?_))
          refine x_iloadn (x := v31) rfl rfl ?_
          refine x_iconst (v := 3) rfl ki_3 ?_
          refine z_idiv rfl rfl jk_3 (by omega) (by omega) (fun v32 ev32 => ?_)
          refine x_aloadn (x := 78) rfl rfl ?_
          refine z_getR (N := 16) (b := 32) 7 0 rfl f_7_55 rfl J rfl 9984 ⟨rfl, rfl⟩ rfl ?_
          refine z_getR (N := 20) (b := 33) 1 0 rfl f_7_63 rfl J rfl 4096 ⟨rfl, rfl⟩ rfl ?_
          refine z_getI (N := 4) 8 3 rfl f_7_85 rfl J rfl sg_33_3_4_1_0_1 (fun v33 qv33 ev33 => ?_)
          refine x_icge (tgt := 36) rfl rfl (ti_ge rfl rfl ⟨fun c34 => ?_, fun c34 => ?_⟩)
          ·
            refine x_iconst (v := (-1)) rfl ki_m1 ?_
            refine x_iret rfl rfl ?_
            show jX m_X3_isNews 13 0 0 23 [(2, .int v7), (0, .ref 87), (1, .int l3)] [.int (-1)] _ 0 0 _
            refine x_aloadn (x := 87) rfl rfl ?_
            refine z_getR (N := 14) (b := 78) 3 1 rfl f_3_53 rfl J rfl 11137 ⟨rfl, rfl⟩ rfl ?_
            refine x_aloadn (x := 87) rfl rfl ?_
            refine x_iloadn (x := l3) rfl rfl ?_
            refine x_inv (N := m_X3_mentionAt) (As := [.int l3]) (b := 87) (st := [.ref 78, .int (-1)]) (dx9 := 12) (mc := 0) (ms := 0) (host := "") 3 rfl t_X3_mentionAt ⟨Or.inl q_3_64, i_X3_mentionAt.1, i_X3_mentionAt.2⟩ ⟨by decide, rfl⟩ (congrArg Prod.fst (J.1.1 87 (3, 14) rfl)) rfl (by decide) rfl rfl ⟨by decide, by decide⟩ (jC.of rfl k_X3_mentionAt rfl ?_)
            show jX m_X3_mentionAt 12 0 0 0 [(0, .ref 87), (1, .int l3)] [] _ 0 0 _
            refine x_iloadn (x := l3) rfl rfl ?_
            refine x_iflt (tgt := 21) rfl rfl (ti_lt rfl jk_0 (br_f (by omega) ?_))
            refine x_iloadn (x := l3) rfl rfl ?_
            refine x_aloadn (x := 87) rfl rfl ?_
            refine z_getM (N := 14) (v := g0) 3 3 rfl f_3_15 rfl J rfl (jmc S6 rfl z0) ?_
            refine x_icge (tgt := 21) rfl rfl (ti_ge rfl rfl ⟨fun c35 => ?_, fun c35 => ?_⟩)
            ·
              refine x_iconst (v := (-1)) rfl ki_m1 ?_
              refine x_iret rfl rfl ?_
              show jX m_X3_isNews 13 0 0 32 [(2, .int v7), (0, .ref 87), (1, .int l3)] [.int (-1), .ref 78, .int (-1)] _ 0 0 _
              refine x_inv (N := m_X7_soulAt) (As := [.int (-1)]) (b := 78) (st := [.int (-1)]) (dx9 := 12) (mc := 0) (ms := 0) (host := "") 7 rfl t_X7_soulAt ⟨Or.inl q_3_67, i_X7_soulAt.1, i_X7_soulAt.2⟩ ⟨by decide, rfl⟩ (congrArg Prod.fst (J.1.1 78 (7, 16) rfl)) rfl (by decide) rfl rfl ⟨by decide, by decide⟩ (jC.of rfl k_X7_soulAt rfl ?_)
              show jX m_X7_soulAt 12 0 0 0 [(0, .ref 78), (1, .int (-1))] [] _ 0 0 _
              refine x_iloadn (x := (-1)) rfl rfl ?_
              refine x_iflt (tgt := 36) rfl rfl (ti_lt jk_m1 jk_0 (br_t (by omega) ?_))
              refine x_iconst (v := (-1)) rfl ki_m1 ?_
              refine x_iret rfl rfl ?_
              show jX m_X3_isNews 13 0 0 35 [(2, .int v7), (0, .ref 87), (1, .int l3)] [.int (-1), .int (-1)] _ 0 0 _
              refine x_iceq (tgt := 42) rfl rfl (ti_eq jk_m1 jk_m1 (br_t (by omega) ?_))
              refine x_iconst (v := 0) rfl ki_0 ?_
              refine x_zret rfl rfl (by decide) ?_
              show jX m_X11_join 14 0 0 117 [(0, .ref 31), (1, .int l1), (2, .int l2), (3, .int l3)] [.int 0] _ 0 0 _
              refine x_ifeq (tgt := 157) rfl rfl (ti_eq jk_0 jk_0 (br_t (by omega) ?_))
              exact jX.sub (jsb_c rfl (jsb_c rfl (jsb_c rfl (jsb_c rfl jsb_n)))) (ct_X11_join_r31_157 hD hQ ih l1 l2 l3 g0 h (jr_of rfl (by omega)) (jr_of rfl (by omega)) (jr_of rfl (by omega)) (jmc S6 rfl z0) (by omega) J Sm)
            ·
              refine x_aloadn (x := 87) rfl rfl ?_
              refine z_getR (N := 14) (b := 88) 3 2 rfl f_3_9 rfl J rfl 11138 ⟨rfl, rfl⟩ rfl ?_
              refine x_iloadn (x := l3) rfl rfl ?_
              refine z_iald (N := 9) rfl J rfl sg_88_0_9_1_0_1 rfl (by omega) (fun v36 qv36 ev36 => ?_)
              refine x_goto (tgt := 22) rfl rfl ?_
              refine x_iret rfl rfl ?_
              show jX m_X3_isNews 13 0 0 32 [(2, .int v7), (0, .ref 87), (1, .int l3)] [.int v36, .ref 78, .int (-1)] _ 0 0 _
              refine x_inv (N := m_X7_soulAt) (As := [.int v36]) (b := 78) (st := [.int (-1)]) (dx9 := 12) (mc := 0) (ms := 0) (host := "") 7 rfl t_X7_soulAt ⟨Or.inl q_3_67, i_X7_soulAt.1, i_X7_soulAt.2⟩ ⟨by decide, rfl⟩ (congrArg Prod.fst (J.1.1 78 (7, 16) rfl)) rfl (by decide) rfl rfl ⟨by decide, by decide⟩ (jC.of rfl k_X7_soulAt rfl ?_)
              show jX m_X7_soulAt 12 0 0 0 [(0, .ref 78), (1, .int v36)] [] _ 0 0 _
              refine x_iloadn (x := v36) rfl rfl ?_
              refine x_iflt (tgt := 36) rfl rfl (ti_lt rfl jk_0 (br_f (by omega) ?_))
              refine x_iloadn (x := v36) rfl rfl ?_
              refine x_sipush (v := 600) rfl ks_600 ?_
              refine x_icge (tgt := 36) rfl rfl (ti_ge rfl jk_600 (br_f (by omega) ?_))
              refine x_iloadn (x := v36) rfl rfl ?_
              refine x_iconst (v := 3) rfl ki_3 ?_
              refine z_idiv rfl rfl jk_3 (by omega) (by omega) (fun v37 ev37 => ?_)
              refine x_aloadn (x := 78) rfl rfl ?_
              refine z_getR (N := 16) (b := 32) 7 0 rfl f_7_55 rfl J rfl 9984 ⟨rfl, rfl⟩ rfl ?_
              refine z_getR (N := 20) (b := 33) 1 0 rfl f_7_63 rfl J rfl 4096 ⟨rfl, rfl⟩ rfl ?_
              refine z_getM (N := 4) (v := v33) 8 3 rfl f_7_85 rfl J rfl qv33 ?_
              refine x_icge (tgt := 36) rfl rfl (ti_ge rfl rfl ⟨fun c38 => ?_, fun c38 => ?_⟩)
              ·
                refine x_iconst (v := (-1)) rfl ki_m1 ?_
                refine x_iret rfl rfl ?_
                show jX m_X3_isNews 13 0 0 35 [(2, .int v7), (0, .ref 87), (1, .int l3)] [.int (-1), .int (-1)] _ 0 0 _
                refine x_iceq (tgt := 42) rfl rfl (ti_eq jk_m1 jk_m1 (br_t (by omega) ?_))
                refine x_iconst (v := 0) rfl ki_0 ?_
                refine x_zret rfl rfl (by decide) ?_
                show jX m_X11_join 14 0 0 117 [(0, .ref 31), (1, .int l1), (2, .int l2), (3, .int l3)] [.int 0] _ 0 0 _
                refine x_ifeq (tgt := 157) rfl rfl (ti_eq jk_0 jk_0 (br_t (by omega) ?_))
                exact jX.sub (jsb_c rfl (jsb_c rfl (jsb_c rfl (jsb_c rfl jsb_n)))) (ct_X11_join_r31_157 hD hQ ih l1 l2 l3 g0 h (jr_of rfl (by omega)) (jr_of rfl (by omega)) (jr_of rfl (by omega)) (jmc S6 rfl z0) (by omega) J Sm)
              ·
                refine x_aloadn (x := 78) rfl rfl ?_
                refine z_getR (N := 16) (b := 82) 7 10 rfl f_7_37 rfl J rfl 9994 ⟨rfl, rfl⟩ rfl ?_
                refine x_iloadn (x := v36) rfl rfl ?_
                refine z_iald (N := 600) rfl J rfl sg_82_0_600_1_0_1 rfl (by omega) (fun v39 qv39 ev39 => ?_)
                refine x_goto (tgt := 37) rfl rfl ?_
                refine x_iret rfl rfl ?_
                show jX m_X3_isNews 13 0 0 35 [(2, .int v7), (0, .ref 87), (1, .int l3)] [.int v39, .int (-1)] _ 0 0 _
                refine x_iceq (tgt := 42) rfl rfl (ti_eq jk_m1 rfl ⟨fun c40 => ?_, fun c40 => ?_⟩)
                ·
                  refine x_iconst (v := 0) rfl ki_0 ?_
                  refine x_zret rfl rfl (by decide) ?_
                  show jX m_X11_join 14 0 0 117 [(0, .ref 31), (1, .int l1), (2, .int l2), (3, .int l3)] [.int 0] _ 0 0 _
                  refine x_ifeq (tgt := 157) rfl rfl (ti_eq jk_0 jk_0 (br_t (by omega) ?_))
                  exact jX.sub (jsb_c rfl (jsb_c rfl (jsb_c rfl (jsb_c rfl jsb_n)))) (ct_X11_join_r31_157 hD hQ ih l1 l2 l3 g0 h (jr_of rfl (by omega)) (jr_of rfl (by omega)) (jr_of rfl (by omega)) (jmc S6 rfl z0) (by omega) J Sm)
                ·
                  refine x_iconst (v := 1) rfl ki_1 ?_
                  refine x_goto (tgt := 43) rfl rfl ?_
                  refine x_zret rfl rfl (by decide) ?_
                  show jX m_X11_join 14 0 0 117 [(0, .ref 31), (1, .int l1), (2, .int l2), (3, .int l3)] [.int 1] _ 0 0 _
                  refine x_ifeq (tgt := 157) rfl rfl (ti_eq jk_1 jk_0 (br_f (by omega) ?_))
                  refine x_aloadn (x := 31) rfl rfl ?_
                  refine z_getR (N := 13) (b := 32) 11 0 rfl f_11_10 rfl J rfl 3968 ⟨rfl, rfl⟩ rfl ?_
                  refine z_getR (N := 20) (b := 39) 1 3 rfl f_11_237 rfl J rfl 4099 ⟨rfl, rfl⟩ rfl ?_
                  refine x_iloadn (x := l1) rfl rfl ?_
                  refine x_aloadn (x := 31) rfl rfl ?_
                  refine z_getR (N := 13) (b := 87) 11 5 rfl f_11_50 rfl J rfl 3973 ⟨rfl, rfl⟩ rfl ?_
                  refine x_aloadn (x := 31) rfl rfl ?_
                  refine z_getR (N := 13) (b := 87) 11 5 rfl f_11_50 rfl J rfl 3973 ⟨rfl, rfl⟩ rfl ?_
                  refine x_iloadn (x := l3) rfl rfl ?_
                  refine x_inv (N := m_X3_aheadOf) (As := [.int l3]) (b := 87) (st := [.ref 87, .int l1, .ref 39]) (dx9 := 2) (mc := 0) (ms := 0) (host := "") 3 rfl t_X3_aheadOf ⟨Or.inl q_11_306, i_X3_aheadOf.1, i_X3_aheadOf.2⟩ ⟨by decide, rfl⟩ (congrArg Prod.fst (J.1.1 87 (3, 14) rfl)) rfl (by decide) rfl rfl ⟨by decide, by decide⟩ (sf_X3_aheadOf_r87 (jr_of rfl (by omega)) hD J  (fun v42 h ev42 J S41 => ?_))
                  have Sm := jSm_tr rfl Sm S41
                  show jX m_X11_join 14 0 0 140 [(0, .ref 31), (1, .int l1), (2, .int l2), (3, .int l3)] [.int v42, .ref 87, .int l1, .ref 39] _ 0 0 _
                  refine x_inv (N := m_X3_mentionAt) (As := [.int v42]) (b := 87) (st := [.int l1, .ref 39]) (dx9 := 13) (mc := 0) (ms := 0) (host := "") 3 rfl t_X3_mentionAt ⟨Or.inl q_11_309, i_X3_mentionAt.1, i_X3_mentionAt.2⟩ ⟨by decide, rfl⟩ (congrArg Prod.fst (J.1.1 87 (3, 14) rfl)) rfl (by decide) rfl rfl ⟨by decide, by decide⟩ (jC.of rfl k_X3_mentionAt rfl ?_)
                  show jX m_X3_mentionAt 13 0 0 0 [(0, .ref 87), (1, .int v42)] [] _ 0 0 _
                  refine x_iloadn (x := v42) rfl rfl ?_
                  refine x_iflt (tgt := 21) rfl rfl (ti_lt rfl jk_0 ⟨fun c43 => ?_, fun c43 => ?_⟩)
                  ·
                    refine x_iconst (v := (-1)) rfl ki_m1 ?_
                    refine x_iret rfl rfl ?_
                    show jX m_X11_join 14 0 0 143 [(0, .ref 31), (1, .int l1), (2, .int l2), (3, .int l3)] [.int (-1), .int l1, .ref 39] _ 0 0 _
                    refine x_aloadn (x := 31) rfl rfl ?_
                    refine z_getR (N := 13) (b := 87) 11 5 rfl f_11_50 rfl J rfl 3973 ⟨rfl, rfl⟩ rfl ?_
                    refine x_iloadn (x := l3) rfl rfl ?_
                    refine x_inv (N := m_X3_mentionAt) (As := [.int l3]) (b := 87) (st := [.int (-1), .int l1, .ref 39]) (dx9 := 13) (mc := 0) (ms := 0) (host := "") 3 rfl t_X3_mentionAt ⟨Or.inl q_11_309, i_X3_mentionAt.1, i_X3_mentionAt.2⟩ ⟨by decide, rfl⟩ (congrArg Prod.fst (J.1.1 87 (3, 14) rfl)) rfl (by decide) rfl rfl ⟨by decide, by decide⟩ (jC.of rfl k_X3_mentionAt rfl ?_)
                    show jX m_X3_mentionAt 13 0 0 0 [(0, .ref 87), (1, .int l3)] [] _ 0 0 _
                    refine x_iloadn (x := l3) rfl rfl ?_
                    refine x_iflt (tgt := 21) rfl rfl (ti_lt rfl jk_0 (br_f (by omega) ?_))
                    refine x_iloadn (x := l3) rfl rfl ?_
                    refine x_aloadn (x := 87) rfl rfl ?_
                    refine z_getM (N := 14) (v := g0) 3 3 rfl f_3_15 rfl J rfl (jmc S41 rfl (jmc S6 rfl z0)) ?_
                    refine x_icge (tgt := 21) rfl rfl (ti_ge rfl rfl ⟨fun c44 => ?_, fun c44 => ?_⟩)
                    ·
                      refine x_iconst (v := (-1)) rfl ki_m1 ?_
                      refine x_iret rfl rfl ?_
                      show jX m_X11_join 14 0 0 151 [(0, .ref 31), (1, .int l1), (2, .int l2), (3, .int l3)] [.int (-1), .int (-1), .int l1, .ref 39] _ 0 0 _
                      refine x_iconst (v := 0) rfl ki_0 ?_
                      refine x_iconst (v := 0) rfl ki_0 ?_
                      refine x_iconst (v := 0) rfl ki_0 ?_
                      refine x_inv (N := m_X8_add) (As := [.int l1, .int (-1), .int (-1), .int 0, .int 0, .int 0]) (b := 39) (st := []) (dx9 := 2) (mc := 0) (ms := 0) (host := "") 8 rfl t_X8_add ⟨Or.inl q_11_145, i_X8_add.1, i_X8_add.2⟩ ⟨by decide, rfl⟩ (congrArg Prod.fst (J.1.1 39 (8, 4) rfl)) rfl (by decide) rfl rfl ⟨by decide, by decide⟩ (sf_X8_add_r39 (jr_of rfl (by omega)) (jr_of jk_m1 (by omega)) (jr_of jk_m1 (by omega)) (jr_of jk_0 (by omega)) (jr_of jk_0 (by omega)) (jr_of jk_0 (by omega)) hD J  (fun h J S45 => ?_))
                      have Sm := jSm_tr rfl Sm S45
                      show jX m_X11_join 14 0 0 157 [(0, .ref 31), (1, .int l1), (2, .int l2), (3, .int l3)] [] _ 0 0 _
                      exact jX.sub (jsb_c rfl (jsb_c rfl (jsb_c rfl (jsb_c rfl jsb_n)))) (ct_X11_join_r31_157 hD hQ ih l1 l2 l3 g0 h (jr_of rfl (by omega)) (jr_of rfl (by omega)) (jr_of rfl (by omega)) (jmc S45 rfl (jmc S41 rfl (jmc S6 rfl z0))) (by omega) J Sm)
                    ·
                      refine x_aloadn (x := 87) rfl rfl ?_
                      refine z_getR (N := 14) (b := 88) 3 2 rfl f_3_9 rfl J rfl 11138 ⟨rfl, rfl⟩ rfl ?_
                      refine x_iloadn (x := l3) rfl rfl ?_
                      refine z_ialdM (N := 9) (v := v36) rfl J rfl rfl (by omega) (jmc S41 rfl qv36) ?_
                      refine x_goto (tgt := 22) rfl rfl ?_
                      refine x_iret rfl rfl ?_
                      show jX m_X11_join 14 0 0 151 [(0, .ref 31), (1, .int l1), (2, .int l2), (3, .int l3)] [.int v36, .int (-1), .int l1, .ref 39] _ 0 0 _
                      refine x_iconst (v := 0) rfl ki_0 ?_
                      refine x_iconst (v := 0) rfl ki_0 ?_
                      refine x_iconst (v := 0) rfl ki_0 ?_
                      refine x_inv (N := m_X8_add) (As := [.int l1, .int (-1), .int v36, .int 0, .int 0, .int 0]) (b := 39) (st := []) (dx9 := 2) (mc := 0) (ms := 0) (host := "") 8 rfl t_X8_add ⟨Or.inl q_11_145, i_X8_add.1, i_X8_add.2⟩ ⟨by decide, rfl⟩ (congrArg Prod.fst (J.1.1 39 (8, 4) rfl)) rfl (by decide) rfl rfl ⟨by decide, by decide⟩ (sf_X8_add_r39 (jr_of rfl (by omega)) (jr_of jk_m1 (by omega)) (jr_of rfl (by omega)) (jr_of jk_0 (by omega)) (jr_of jk_0 (by omega)) (jr_of jk_0 (by omega)) hD J  (fun h J S46 => ?_))
                      have Sm := jSm_tr rfl Sm S46
                      show jX m_X11_join 14 0 0 157 [(0, .ref 31), (1, .int l1), (2, .int l2), (3, .int l3)] [] _ 0 0 _
                      exact jX.sub (jsb_c rfl (jsb_c rfl (jsb_c rfl (jsb_c rfl jsb_n)))) (ct_X11_join_r31_157 hD hQ ih l1 l2 l3 g0 h (jr_of rfl (by omega)) (jr_of rfl (by omega)) (jr_of rfl (by omega)) (jmc S46 rfl (jmc S41 rfl (jmc S6 rfl z0))) (by omega) J Sm)
                  ·
                    refine x_iloadn (x := v42) rfl rfl ?_
                    refine x_aloadn (x := 87) rfl rfl ?_
                    refine z_getM (N := 14) (v := g0) 3 3 rfl f_3_15 rfl J rfl (jmc S41 rfl (jmc S6 rfl z0)) ?_
                    refine x_icge (tgt := 21) rfl rfl (ti_ge rfl rfl ⟨fun c47 => ?_, fun c47 => ?_⟩)
                    ·
                      refine x_iconst (v := (-1)) rfl ki_m1 ?_
                      refine x_iret rfl rfl ?_
                      show jX m_X11_join 14 0 0 143 [(0, .ref 31), (1, .int l1), (2, .int l2), (3, .int l3)] [.int (-1), .int l1, .ref 39] _ 0 0 _
                      refine x_aloadn (x := 31) rfl rfl ?_
                      refine z_getR (N := 13) (b := 87) 11 5 rfl f_11_50 rfl J rfl 3973 ⟨rfl, rfl⟩ rfl ?_
                      refine x_iloadn (x := l3) rfl rfl ?_
                      refine x_inv (N := m_X3_mentionAt) (As := [.int l3]) (b := 87) (st := [.int (-1), .int l1, .ref 39]) (dx9 := 13) (mc := 0) (ms := 0) (host := "") 3 rfl t_X3_mentionAt ⟨Or.inl q_11_309, i_X3_mentionAt.1, i_X3_mentionAt.2⟩ ⟨by decide, rfl⟩ (congrArg Prod.fst (J.1.1 87 (3, 14) rfl)) rfl (by decide) rfl rfl ⟨by decide, by decide⟩ (jC.of rfl k_X3_mentionAt rfl ?_)
                      show jX m_X3_mentionAt 13 0 0 0 [(0, .ref 87), (1, .int l3)] [] _ 0 0 _
                      refine x_iloadn (x := l3) rfl rfl ?_
                      refine x_iflt (tgt := 21) rfl rfl (ti_lt rfl jk_0 (br_f (by omega) ?_))
                      refine x_iloadn (x := l3) rfl rfl ?_
                      refine x_aloadn (x := 87) rfl rfl ?_
                      refine z_getM (N := 14) (v := g0) 3 3 rfl f_3_15 rfl J rfl (jmc S41 rfl (jmc S6 rfl z0)) ?_
                      refine x_icge (tgt := 21) rfl rfl (ti_ge rfl rfl ⟨fun c48 => ?_, fun c48 => ?_⟩)
                      ·
                        refine x_iconst (v := (-1)) rfl ki_m1 ?_
                        refine x_iret rfl rfl ?_
                        show jX m_X11_join 14 0 0 151 [(0, .ref 31), (1, .int l1), (2, .int l2), (3, .int l3)] [.int (-1), .int (-1), .int l1, .ref 39] _ 0 0 _
                        refine x_iconst (v := 0) rfl ki_0 ?_
                        refine x_iconst (v := 0) rfl ki_0 ?_
                        refine x_iconst (v := 0) rfl ki_0 ?_
                        refine x_inv (N := m_X8_add) (As := [.int l1, .int (-1), .int (-1), .int 0, .int 0, .int 0]) (b := 39) (st := []) (dx9 := 2) (mc := 0) (ms := 0) (host := "") 8 rfl t_X8_add ⟨Or.inl q_11_145, i_X8_add.1, i_X8_add.2⟩ ⟨by decide, rfl⟩ (congrArg Prod.fst (J.1.1 39 (8, 4) rfl)) rfl (by decide) rfl rfl ⟨by decide, by decide⟩ (sf_X8_add_r39 (jr_of rfl (by omega)) (jr_of jk_m1 (by omega)) (jr_of jk_m1 (by omega)) (jr_of jk_0 (by omega)) (jr_of jk_0 (by omega)) (jr_of jk_0 (by omega)) hD J  (fun h J S49 => ?_))
                        have Sm := jSm_tr rfl Sm S49
                        show jX m_X11_join 14 0 0 157 [(0, .ref 31), (1, .int l1), (2, .int l2), (3, .int l3)] [] _ 0 0 _
                        exact jX.sub (jsb_c rfl (jsb_c rfl (jsb_c rfl (jsb_c rfl jsb_n)))) (ct_X11_join_r31_157 hD hQ ih l1 l2 l3 g0 h (jr_of rfl (by omega)) (jr_of rfl (by omega)) (jr_of rfl (by omega)) (jmc S49 rfl (jmc S41 rfl (jmc S6 rfl z0))) (by omega) J Sm)
                      ·
                        refine x_aloadn (x := 87) rfl rfl ?_
                        refine z_getR (N := 14) (b := 88) 3 2 rfl f_3_9 rfl J rfl 11138 ⟨rfl, rfl⟩ rfl ?_
                        refine x_iloadn (x := l3) rfl rfl ?_
                        refine z_ialdM (N := 9) (v := v36) rfl J rfl rfl (by omega) (jmc S41 rfl qv36) ?_
                        refine x_goto (tgt := 22) rfl rfl ?_
                        refine x_iret rfl rfl ?_
                        show jX m_X11_join 14 0 0 151 [(0, .ref 31), (1, .int l1), (2, .int l2), (3, .int l3)] [.int v36, .int (-1), .int l1, .ref 39] _ 0 0 _
                        refine x_iconst (v := 0) rfl ki_0 ?_
                        refine x_iconst (v := 0) rfl ki_0 ?_
                        refine x_iconst (v := 0) rfl ki_0 ?_
                        refine x_inv (N := m_X8_add) (As := [.int l1, .int (-1), .int v36, .int 0, .int 0, .int 0]) (b := 39) (st := []) (dx9 := 2) (mc := 0) (ms := 0) (host := "") 8 rfl t_X8_add ⟨Or.inl q_11_145, i_X8_add.1, i_X8_add.2⟩ ⟨by decide, rfl⟩ (congrArg Prod.fst (J.1.1 39 (8, 4) rfl)) rfl (by decide) rfl rfl ⟨by decide, by decide⟩ (sf_X8_add_r39 (jr_of rfl (by omega)) (jr_of jk_m1 (by omega)) (jr_of rfl (by omega)) (jr_of jk_0 (by omega)) (jr_of jk_0 (by omega)) (jr_of jk_0 (by omega)) hD J  (fun h J S50 => ?_))
                        have Sm := jSm_tr rfl Sm S50
                        show jX m_X11_join 14 0 0 157 [(0, .ref 31), (1, .int l1), (2, .int l2), (3, .int l3)] [] _ 0 0 _
                        exact jX.sub (jsb_c rfl (jsb_c rfl (jsb_c rfl (jsb_c rfl jsb_n)))) (ct_X11_join_r31_157 hD hQ ih l1 l2 l3 g0 h (jr_of rfl (by omega)) (jr_of rfl (by omega)) (jr_of rfl (by omega)) (jmc S50 rfl (jmc S41 rfl (jmc S6 rfl z0))) (by omega) J Sm)
                    ·
                      refine x_aloadn (x := 87) rfl rfl ?_
                      refine z_getR (N := 14) (b := 88) 3 2 rfl f_3_9 rfl J rfl 11138 ⟨rfl, rfl⟩ rfl ?_
                      refine x_iloadn (x := v42) rfl rfl ?_
                      refine z_iald (N := 9) rfl J rfl sg_88_0_9_1_0_1 rfl (by omega) (fun v51 qv51 ev51 => ?_)
                      refine x_goto (tgt := 22) rfl rfl ?_
                      refine x_iret rfl rfl ?_
                      show jX m_X11_join 14 0 0 143 [(0, .ref 31), (1, .int l1), (2, .int l2), (3, .int l3)] [.int v51, .int l1, .ref 39] _ 0 0 _
                      refine x_aloadn (x := 31) rfl rfl ?_
                      refine z_getR (N := 13) (b := 87) 11 5 rfl f_11_50 rfl J rfl 3973 ⟨rfl, rfl⟩ rfl ?_
                      refine x_iloadn (x := l3) rfl rfl ?_
                      refine x_inv (N := m_X3_mentionAt) (As := [.int l3]) (b := 87) (st := [.int v51, .int l1, .ref 39]) (dx9 := 13) (mc := 0) (ms := 0) (host := "") 3 rfl t_X3_mentionAt ⟨Or.inl q_11_309, i_X3_mentionAt.1, i_X3_mentionAt.2⟩ ⟨by decide, rfl⟩ (congrArg Prod.fst (J.1.1 87 (3, 14) rfl)) rfl (by decide) rfl rfl ⟨by decide, by decide⟩ (jC.of rfl k_X3_mentionAt rfl ?_)
                      show jX m_X3_mentionAt 13 0 0 0 [(0, .ref 87), (1, .int l3)] [] _ 0 0 _
                      refine x_iloadn (x := l3) rfl rfl ?_
                      refine x_iflt (tgt := 21) rfl rfl (ti_lt rfl jk_0 (br_f (by omega) ?_))
                      refine x_iloadn (x := l3) rfl rfl ?_
                      refine x_aloadn (x := 87) rfl rfl ?_
                      refine z_getM (N := 14) (v := g0) 3 3 rfl f_3_15 rfl J rfl (jmc S41 rfl (jmc S6 rfl z0)) ?_
                      refine x_icge (tgt := 21) rfl rfl (ti_ge rfl rfl ⟨fun c52 => ?_, fun c52 => ?_⟩)
                      ·
                        refine x_iconst (v := (-1)) rfl ki_m1 ?_
                        refine x_iret rfl rfl ?_
                        show jX m_X11_join 14 0 0 151 [(0, .ref 31), (1, .int l1), (2, .int l2), (3, .int l3)] [.int (-1), .int v51, .int l1, .ref 39] _ 0 0 _
                        refine x_iconst (v := 0) rfl ki_0 ?_
                        refine x_iconst (v := 0) rfl ki_0 ?_
                        refine x_iconst (v := 0) rfl ki_0 ?_
                        refine x_inv (N := m_X8_add) (As := [.int l1, .int v51, .int (-1), .int 0, .int 0, .int 0]) (b := 39) (st := []) (dx9 := 2) (mc := 0) (ms := 0) (host := "") 8 rfl t_X8_add ⟨Or.inl q_11_145, i_X8_add.1, i_X8_add.2⟩ ⟨by decide, rfl⟩ (congrArg Prod.fst (J.1.1 39 (8, 4) rfl)) rfl (by decide) rfl rfl ⟨by decide, by decide⟩ (sf_X8_add_r39 (jr_of rfl (by omega)) (jr_of rfl (by omega)) (jr_of jk_m1 (by omega)) (jr_of jk_0 (by omega)) (jr_of jk_0 (by omega)) (jr_of jk_0 (by omega)) hD J  (fun h J S53 => ?_))
                        have Sm := jSm_tr rfl Sm S53
                        show jX m_X11_join 14 0 0 157 [(0, .ref 31), (1, .int l1), (2, .int l2), (3, .int l3)] [] _ 0 0 _
                        exact jX.sub (jsb_c rfl (jsb_c rfl (jsb_c rfl (jsb_c rfl jsb_n)))) (ct_X11_join_r31_157 hD hQ ih l1 l2 l3 g0 h (jr_of rfl (by omega)) (jr_of rfl (by omega)) (jr_of rfl (by omega)) (jmc S53 rfl (jmc S41 rfl (jmc S6 rfl z0))) (by omega) J Sm)
                      ·
                        refine x_aloadn (x := 87) rfl rfl ?_
                        refine z_getR (N := 14) (b := 88) 3 2 rfl f_3_9 rfl J rfl 11138 ⟨rfl, rfl⟩ rfl ?_
                        refine x_iloadn (x := l3) rfl rfl ?_
                        refine z_ialdM (N := 9) (v := v36) rfl J rfl rfl (by omega) (jmc S41 rfl qv36) ?_
                        refine x_goto (tgt := 22) rfl rfl ?_
                        refine x_iret rfl rfl ?_
                        show jX m_X11_join 14 0 0 151 [(0, .ref 31), (1, .int l1), (2, .int l2), (3, .int l3)] [.int v36, .int v51, .int l1, .ref 39] _ 0 0 _
                        refine x_iconst (v := 0) rfl ki_0 ?_
                        refine x_iconst (v := 0) rfl ki_0 ?_
                        refine x_iconst (v := 0) rfl ki_0 ?_
                        refine x_inv (N := m_X8_add) (As := [.int l1, .int v51, .int v36, .int 0, .int 0, .int 0]) (b := 39) (st := []) (dx9 := 2) (mc := 0) (ms := 0) (host := "") 8 rfl t_X8_add ⟨Or.inl q_11_145, i_X8_add.1, i_X8_add.2⟩ ⟨by decide, rfl⟩ (congrArg Prod.fst (J.1.1 39 (8, 4) rfl)) rfl (by decide) rfl rfl ⟨by decide, by decide⟩ (sf_X8_add_r39 (jr_of rfl (by omega)) (jr_of rfl (by omega)) (jr_of rfl (by omega)) (jr_of jk_0 (by omega)) (jr_of jk_0 (by omega)) (jr_of jk_0 (by omega)) hD J  (fun h J S54 => ?_))
                        have Sm := jSm_tr rfl Sm S54
                        show jX m_X11_join 14 0 0 157 [(0, .ref 31), (1, .int l1), (2, .int l2), (3, .int l3)] [] _ 0 0 _
                        exact jX.sub (jsb_c rfl (jsb_c rfl (jsb_c rfl (jsb_c rfl jsb_n)))) (ct_X11_join_r31_157 hD hQ ih l1 l2 l3 g0 h (jr_of rfl (by omega)) (jr_of rfl (by omega)) (jr_of rfl (by omega)) (jmc S54 rfl (jmc S41 rfl (jmc S6 rfl z0))) (by omega) J Sm)
          ·
            refine x_aloadn (x := 78) rfl rfl ?_
            refine z_getR (N := 16) (b := 82) 7 10 rfl f_7_37 rfl J rfl 9994 ⟨rfl, rfl⟩ rfl ?_
            refine x_iloadn (x := v31) rfl rfl ?_
            refine z_iald (N := 600) rfl J rfl sg_82_0_600_1_0_1 rfl (by omega) (fun v55 qv55 ev55 => ?_)
            refine x_goto (tgt := 37) rfl rfl ?_
            refine x_iret rfl rfl ?_
            show jX m_X3_isNews 13 0 0 23 [(2, .int v7), (0, .ref 87), (1, .int l3)] [.int v55] _ 0 0 _
            refine x_aloadn (x := 87) rfl rfl ?_
            refine z_getR (N := 14) (b := 78) 3 1 rfl f_3_53 rfl J rfl 11137 ⟨rfl, rfl⟩ rfl ?_
            refine x_aloadn (x := 87) rfl rfl ?_
            refine x_iloadn (x := l3) rfl rfl ?_
            refine x_inv (N := m_X3_mentionAt) (As := [.int l3]) (b := 87) (st := [.ref 78, .int v55]) (dx9 := 12) (mc := 0) (ms := 0) (host := "") 3 rfl t_X3_mentionAt ⟨Or.inl q_3_64, i_X3_mentionAt.1, i_X3_mentionAt.2⟩ ⟨by decide, rfl⟩ (congrArg Prod.fst (J.1.1 87 (3, 14) rfl)) rfl (by decide) rfl rfl ⟨by decide, by decide⟩ (jC.of rfl k_X3_mentionAt rfl ?_)
            show jX m_X3_mentionAt 12 0 0 0 [(0, .ref 87), (1, .int l3)] [] _ 0 0 _
            refine x_iloadn (x := l3) rfl rfl ?_
            refine x_iflt (tgt := 21) rfl rfl (ti_lt rfl jk_0 (br_f (by omega) ?_))
            refine x_iloadn (x := l3) rfl rfl ?_
            refine x_aloadn (x := 87) rfl rfl ?_
            refine z_getM (N := 14) (v := g0) 3 3 rfl f_3_15 rfl J rfl (jmc S6 rfl z0) ?_
            refine x_icge (tgt := 21) rfl rfl (ti_ge rfl rfl ⟨fun c56 => ?_, fun c56 => ?_⟩)
            ·
              refine x_iconst (v := (-1)) rfl ki_m1 ?_
              refine x_iret rfl rfl ?_
              show jX m_X3_isNews 13 0 0 32 [(2, .int v7), (0, .ref 87), (1, .int l3)] [.int (-1), .ref 78, .int v55] _ 0 0 _
              refine x_inv (N := m_X7_soulAt) (As := [.int (-1)]) (b := 78) (st := [.int v55]) (dx9 := 12) (mc := 0) (ms := 0) (host := "") 7 rfl t_X7_soulAt ⟨Or.inl q_3_67, i_X7_soulAt.1, i_X7_soulAt.2⟩ ⟨by decide, rfl⟩ (congrArg Prod.fst (J.1.1 78 (7, 16) rfl)) rfl (by decide) rfl rfl ⟨by decide, by decide⟩ (jC.of rfl k_X7_soulAt rfl ?_)
              show jX m_X7_soulAt 12 0 0 0 [(0, .ref 78), (1, .int (-1))] [] _ 0 0 _
              refine x_iloadn (x := (-1)) rfl rfl ?_
              refine x_iflt (tgt := 36) rfl rfl (ti_lt jk_m1 jk_0 (br_t (by omega) ?_))
              refine x_iconst (v := (-1)) rfl ki_m1 ?_
              refine x_iret rfl rfl ?_
              show jX m_X3_isNews 13 0 0 35 [(2, .int v7), (0, .ref 87), (1, .int l3)] [.int (-1), .int v55] _ 0 0 _
              refine x_iceq (tgt := 42) rfl rfl (ti_eq rfl jk_m1 ⟨fun c57 => ?_, fun c57 => ?_⟩)
              ·
                refine x_iconst (v := 0) rfl ki_0 ?_
                refine x_zret rfl rfl (by decide) ?_
                show jX m_X11_join 14 0 0 117 [(0, .ref 31), (1, .int l1), (2, .int l2), (3, .int l3)] [.int 0] _ 0 0 _
                refine x_ifeq (tgt := 157) rfl rfl (ti_eq jk_0 jk_0 (br_t (by omega) ?_))
                exact jX.sub (jsb_c rfl (jsb_c rfl (jsb_c rfl (jsb_c rfl jsb_n)))) (ct_X11_join_r31_157 hD hQ ih l1 l2 l3 g0 h (jr_of rfl (by omega)) (jr_of rfl (by omega)) (jr_of rfl (by omega)) (jmc S6 rfl z0) (by omega) J Sm)
              ·
                refine x_iconst (v := 1) rfl ki_1 ?_
                refine x_goto (tgt := 43) rfl rfl ?_
                refine x_zret rfl rfl (by decide) ?_
                show jX m_X11_join 14 0 0 117 [(0, .ref 31), (1, .int l1), (2, .int l2), (3, .int l3)] [.int 1] _ 0 0 _
                refine x_ifeq (tgt := 157) rfl rfl (ti_eq jk_1 jk_0 (br_f (by omega) ?_))
                refine x_aloadn (x := 31) rfl rfl ?_
                refine z_getR (N := 13) (b := 32) 11 0 rfl f_11_10 rfl J rfl 3968 ⟨rfl, rfl⟩ rfl ?_
                refine z_getR (N := 20) (b := 39) 1 3 rfl f_11_237 rfl J rfl 4099 ⟨rfl, rfl⟩ rfl ?_
                refine x_iloadn (x := l1) rfl rfl ?_
                refine x_aloadn (x := 31) rfl rfl ?_
                refine z_getR (N := 13) (b := 87) 11 5 rfl f_11_50 rfl J rfl 3973 ⟨rfl, rfl⟩ rfl ?_
                refine x_aloadn (x := 31) rfl rfl ?_
                refine z_getR (N := 13) (b := 87) 11 5 rfl f_11_50 rfl J rfl 3973 ⟨rfl, rfl⟩ rfl ?_
                refine x_iloadn (x := l3) rfl rfl ?_
                refine x_inv (N := m_X3_aheadOf) (As := [.int l3]) (b := 87) (st := [.ref 87, .int l1, .ref 39]) (dx9 := 2) (mc := 0) (ms := 0) (host := "") 3 rfl t_X3_aheadOf ⟨Or.inl q_11_306, i_X3_aheadOf.1, i_X3_aheadOf.2⟩ ⟨by decide, rfl⟩ (congrArg Prod.fst (J.1.1 87 (3, 14) rfl)) rfl (by decide) rfl rfl ⟨by decide, by decide⟩ (sf_X3_aheadOf_r87 (jr_of rfl (by omega)) hD J  (fun v59 h ev59 J S58 => ?_))
                have Sm := jSm_tr rfl Sm S58
                show jX m_X11_join 14 0 0 140 [(0, .ref 31), (1, .int l1), (2, .int l2), (3, .int l3)] [.int v59, .ref 87, .int l1, .ref 39] _ 0 0 _
                refine x_inv (N := m_X3_mentionAt) (As := [.int v59]) (b := 87) (st := [.int l1, .ref 39]) (dx9 := 13) (mc := 0) (ms := 0) (host := "") 3 rfl t_X3_mentionAt ⟨Or.inl q_11_309, i_X3_mentionAt.1, i_X3_mentionAt.2⟩ ⟨by decide, rfl⟩ (congrArg Prod.fst (J.1.1 87 (3, 14) rfl)) rfl (by decide) rfl rfl ⟨by decide, by decide⟩ (jC.of rfl k_X3_mentionAt rfl ?_)
                show jX m_X3_mentionAt 13 0 0 0 [(0, .ref 87), (1, .int v59)] [] _ 0 0 _
                refine x_iloadn (x := v59) rfl rfl ?_
                refine x_iflt (tgt := 21) rfl rfl (ti_lt rfl jk_0 ⟨fun c60 => ?_, fun c60 => ?_⟩)
                ·
                  refine x_iconst (v := (-1)) rfl ki_m1 ?_
                  refine x_iret rfl rfl ?_
                  show jX m_X11_join 14 0 0 143 [(0, .ref 31), (1, .int l1), (2, .int l2), (3, .int l3)] [.int (-1), .int l1, .ref 39] _ 0 0 _
                  refine x_aloadn (x := 31) rfl rfl ?_
                  refine z_getR (N := 13) (b := 87) 11 5 rfl f_11_50 rfl J rfl 3973 ⟨rfl, rfl⟩ rfl ?_
                  refine x_iloadn (x := l3) rfl rfl ?_
                  refine x_inv (N := m_X3_mentionAt) (As := [.int l3]) (b := 87) (st := [.int (-1), .int l1, .ref 39]) (dx9 := 13) (mc := 0) (ms := 0) (host := "") 3 rfl t_X3_mentionAt ⟨Or.inl q_11_309, i_X3_mentionAt.1, i_X3_mentionAt.2⟩ ⟨by decide, rfl⟩ (congrArg Prod.fst (J.1.1 87 (3, 14) rfl)) rfl (by decide) rfl rfl ⟨by decide, by decide⟩ (jC.of rfl k_X3_mentionAt rfl ?_)
                  show jX m_X3_mentionAt 13 0 0 0 [(0, .ref 87), (1, .int l3)] [] _ 0 0 _
                  refine x_iloadn (x := l3) rfl rfl ?_
                  refine x_iflt (tgt := 21) rfl rfl (ti_lt rfl jk_0 (br_f (by omega) ?_))
                  refine x_iloadn (x := l3) rfl rfl ?_
                  refine x_aloadn (x := 87) rfl rfl ?_
                  refine z_getM (N := 14) (v := g0) 3 3 rfl f_3_15 rfl J rfl (jmc S58 rfl (jmc S6 rfl z0)) ?_
                  refine x_icge (tgt := 21) rfl rfl (ti_ge rfl rfl ⟨fun c61 => ?_, fun c61 => ?_⟩)
                  ·
                    refine x_iconst (v := (-1)) rfl ki_m1 ?_
                    refine x_iret rfl rfl ?_
                    show jX m_X11_join 14 0 0 151 [(0, .ref 31), (1, .int l1), (2, .int l2), (3, .int l3)] [.int (-1), .int (-1), .int l1, .ref 39] _ 0 0 _
                    refine x_iconst (v := 0) rfl ki_0 ?_
                    refine x_iconst (v := 0) rfl ki_0 ?_
                    refine x_iconst (v := 0) rfl ki_0 ?_
                    refine x_inv (N := m_X8_add) (As := [.int l1, .int (-1), .int (-1), .int 0, .int 0, .int 0]) (b := 39) (st := []) (dx9 := 2) (mc := 0) (ms := 0) (host := "") 8 rfl t_X8_add ⟨Or.inl q_11_145, i_X8_add.1, i_X8_add.2⟩ ⟨by decide, rfl⟩ (congrArg Prod.fst (J.1.1 39 (8, 4) rfl)) rfl (by decide) rfl rfl ⟨by decide, by decide⟩ (sf_X8_add_r39 (jr_of rfl (by omega)) (jr_of jk_m1 (by omega)) (jr_of jk_m1 (by omega)) (jr_of jk_0 (by omega)) (jr_of jk_0 (by omega)) (jr_of jk_0 (by omega)) hD J  (fun h J S62 => ?_))
                    have Sm := jSm_tr rfl Sm S62
                    show jX m_X11_join 14 0 0 157 [(0, .ref 31), (1, .int l1), (2, .int l2), (3, .int l3)] [] _ 0 0 _
                    exact jX.sub (jsb_c rfl (jsb_c rfl (jsb_c rfl (jsb_c rfl jsb_n)))) (ct_X11_join_r31_157 hD hQ ih l1 l2 l3 g0 h (jr_of rfl (by omega)) (jr_of rfl (by omega)) (jr_of rfl (by omega)) (jmc S62 rfl (jmc S58 rfl (jmc S6 rfl z0))) (by omega) J Sm)
                  ·
                    refine x_aloadn (x := 87) rfl rfl ?_
                    refine z_getR (N := 14) (b := 88) 3 2 rfl f_3_9 rfl J rfl 11138 ⟨rfl, rfl⟩ rfl ?_
                    refine x_iloadn (x := l3) rfl rfl ?_
                    refine z_iald (N := 9) rfl J rfl sg_88_0_9_1_0_1 rfl (by omega) (fun v63 qv63 ev63 => ?_)
                    refine x_goto (tgt := 22) rfl rfl ?_
                    refine x_iret rfl rfl ?_
                    show jX m_X11_join 14 0 0 151 [(0, .ref 31), (1, .int l1), (2, .int l2), (3, .int l3)] [.int v63, .int (-1), .int l1, .ref 39] _ 0 0 _
                    refine x_iconst (v := 0) rfl ki_0 ?_
                    refine x_iconst (v := 0) rfl ki_0 ?_
                    refine x_iconst (v := 0) rfl ki_0 ?_
                    refine x_inv (N := m_X8_add) (As := [.int l1, .int (-1), .int v63, .int 0, .int 0, .int 0]) (b := 39) (st := []) (dx9 := 2) (mc := 0) (ms := 0) (host := "") 8 rfl t_X8_add ⟨Or.inl q_11_145, i_X8_add.1, i_X8_add.2⟩ ⟨by decide, rfl⟩ (congrArg Prod.fst (J.1.1 39 (8, 4) rfl)) rfl (by decide) rfl rfl ⟨by decide, by decide⟩ (sf_X8_add_r39 (jr_of rfl (by omega)) (jr_of jk_m1 (by omega)) (jr_of rfl (by omega)) (jr_of jk_0 (by omega)) (jr_of jk_0 (by omega)) (jr_of jk_0 (by omega)) hD J  (fun h J S64 => ?_))
                    have Sm := jSm_tr rfl Sm S64
                    show jX m_X11_join 14 0 0 157 [(0, .ref 31), (1, .int l1), (2, .int l2), (3, .int l3)] [] _ 0 0 _
                    exact jX.sub (jsb_c rfl (jsb_c rfl (jsb_c rfl (jsb_c rfl jsb_n)))) (ct_X11_join_r31_157 hD hQ ih l1 l2 l3 g0 h (jr_of rfl (by omega)) (jr_of rfl (by omega)) (jr_of rfl (by omega)) (jmc S64 rfl (jmc S58 rfl (jmc S6 rfl z0))) (by omega) J Sm)
                ·
                  refine x_iloadn (x := v59) rfl rfl ?_
                  refine x_aloadn (x := 87) rfl rfl ?_
                  refine z_getM (N := 14) (v := g0) 3 3 rfl f_3_15 rfl J rfl (jmc S58 rfl (jmc S6 rfl z0)) ?_
                  refine x_icge (tgt := 21) rfl rfl (ti_ge rfl rfl ⟨fun c65 => ?_, fun c65 => ?_⟩)
                  ·
                    refine x_iconst (v := (-1)) rfl ki_m1 ?_
                    refine x_iret rfl rfl ?_
                    show jX m_X11_join 14 0 0 143 [(0, .ref 31), (1, .int l1), (2, .int l2), (3, .int l3)] [.int (-1), .int l1, .ref 39] _ 0 0 _
                    refine x_aloadn (x := 31) rfl rfl ?_
                    refine z_getR (N := 13) (b := 87) 11 5 rfl f_11_50 rfl J rfl 3973 ⟨rfl, rfl⟩ rfl ?_
                    refine x_iloadn (x := l3) rfl rfl ?_
                    refine x_inv (N := m_X3_mentionAt) (As := [.int l3]) (b := 87) (st := [.int (-1), .int l1, .ref 39]) (dx9 := 13) (mc := 0) (ms := 0) (host := "") 3 rfl t_X3_mentionAt ⟨Or.inl q_11_309, i_X3_mentionAt.1, i_X3_mentionAt.2⟩ ⟨by decide, rfl⟩ (congrArg Prod.fst (J.1.1 87 (3, 14) rfl)) rfl (by decide) rfl rfl ⟨by decide, by decide⟩ (jC.of rfl k_X3_mentionAt rfl ?_)
                    show jX m_X3_mentionAt 13 0 0 0 [(0, .ref 87), (1, .int l3)] [] _ 0 0 _
                    refine x_iloadn (x := l3) rfl rfl ?_
                    refine x_iflt (tgt := 21) rfl rfl (ti_lt rfl jk_0 (br_f (by omega) ?_))
                    refine x_iloadn (x := l3) rfl rfl ?_
                    refine x_aloadn (x := 87) rfl rfl ?_
                    refine z_getM (N := 14) (v := g0) 3 3 rfl f_3_15 rfl J rfl (jmc S58 rfl (jmc S6 rfl z0)) ?_
                    refine x_icge (tgt := 21) rfl rfl (ti_ge rfl rfl ⟨fun c66 => ?_, fun c66 => ?_⟩)
                    ·
                      refine x_iconst (v := (-1)) rfl ki_m1 ?_
                      refine x_iret rfl rfl ?_
                      show jX m_X11_join 14 0 0 151 [(0, .ref 31), (1, .int l1), (2, .int l2), (3, .int l3)] [.int (-1), .int (-1), .int l1, .ref 39] _ 0 0 _
                      refine x_iconst (v := 0) rfl ki_0 ?_
                      refine x_iconst (v := 0) rfl ki_0 ?_
                      refine x_iconst (v := 0) rfl ki_0 ?_
                      refine x_inv (N := m_X8_add) (As := [.int l1, .int (-1), .int (-1), .int 0, .int 0, .int 0]) (b := 39) (st := []) (dx9 := 2) (mc := 0) (ms := 0) (host := "") 8 rfl t_X8_add ⟨Or.inl q_11_145, i_X8_add.1, i_X8_add.2⟩ ⟨by decide, rfl⟩ (congrArg Prod.fst (J.1.1 39 (8, 4) rfl)) rfl (by decide) rfl rfl ⟨by decide, by decide⟩ (sf_X8_add_r39 (jr_of rfl (by omega)) (jr_of jk_m1 (by omega)) (jr_of jk_m1 (by omega)) (jr_of jk_0 (by omega)) (jr_of jk_0 (by omega)) (jr_of jk_0 (by omega)) hD J  (fun h J S67 => ?_))
                      have Sm := jSm_tr rfl Sm S67
                      show jX m_X11_join 14 0 0 157 [(0, .ref 31), (1, .int l1), (2, .int l2), (3, .int l3)] [] _ 0 0 _
                      exact jX.sub (jsb_c rfl (jsb_c rfl (jsb_c rfl (jsb_c rfl jsb_n)))) (ct_X11_join_r31_157 hD hQ ih l1 l2 l3 g0 h (jr_of rfl (by omega)) (jr_of rfl (by omega)) (jr_of rfl (by omega)) (jmc S67 rfl (jmc S58 rfl (jmc S6 rfl z0))) (by omega) J Sm)
                    ·
                      refine x_aloadn (x := 87) rfl rfl ?_
                      refine z_getR (N := 14) (b := 88) 3 2 rfl f_3_9 rfl J rfl 11138 ⟨rfl, rfl⟩ rfl ?_
                      refine x_iloadn (x := l3) rfl rfl ?_
                      refine z_iald (N := 9) rfl J rfl sg_88_0_9_1_0_1 rfl (by omega) (fun v68 qv68 ev68 => ?_)
                      refine x_goto (tgt := 22) rfl rfl ?_
                      refine x_iret rfl rfl ?_
                      show jX m_X11_join 14 0 0 151 [(0, .ref 31), (1, .int l1), (2, .int l2), (3, .int l3)] [.int v68, .int (-1), .int l1, .ref 39] _ 0 0 _
                      refine x_iconst (v := 0) rfl ki_0 ?_
                      refine x_iconst (v := 0) rfl ki_0 ?_
                      refine x_iconst (v := 0) rfl ki_0 ?_
                      refine x_inv (N := m_X8_add) (As := [.int l1, .int (-1), .int v68, .int 0, .int 0, .int 0]) (b := 39) (st := []) (dx9 := 2) (mc := 0) (ms := 0) (host := "") 8 rfl t_X8_add ⟨Or.inl q_11_145, i_X8_add.1, i_X8_add.2⟩ ⟨by decide, rfl⟩ (congrArg Prod.fst (J.1.1 39 (8, 4) rfl)) rfl (by decide) rfl rfl ⟨by decide, by decide⟩ (sf_X8_add_r39 (jr_of rfl (by omega)) (jr_of jk_m1 (by omega)) (jr_of rfl (by omega)) (jr_of jk_0 (by omega)) (jr_of jk_0 (by omega)) (jr_of jk_0 (by omega)) hD J  (fun h J S69 => ?_))
                      have Sm := jSm_tr rfl Sm S69
                      show jX m_X11_join 14 0 0 157 [(0, .ref 31), (1, .int l1), (2, .int l2), (3, .int l3)] [] _ 0 0 _
                      exact jX.sub (jsb_c rfl (jsb_c rfl (jsb_c rfl (jsb_c rfl jsb_n)))) (ct_X11_join_r31_157 hD hQ ih l1 l2 l3 g0 h (jr_of rfl (by omega)) (jr_of rfl (by omega)) (jr_of rfl (by omega)) (jmc S69 rfl (jmc S58 rfl (jmc S6 rfl z0))) (by omega) J Sm)
                  ·
                    refine x_aloadn (x := 87) rfl rfl ?_
                    refine z_getR (N := 14) (b := 88) 3 2 rfl f_3_9 rfl J rfl 11138 ⟨rfl, rfl⟩ rfl ?_
                    refine x_iloadn (x := v59) rfl rfl ?_
                    refine z_iald (N := 9) rfl J rfl sg_88_0_9_1_0_1 rfl (by omega) (fun v70 qv70 ev70 => ?_)
                    refine x_goto (tgt := 22) rfl rfl ?_
                    refine x_iret rfl rfl ?_
                    show jX m_X11_join 14 0 0 143 [(0, .ref 31), (1, .int l1), (2, .int l2), (3, .int l3)] [.int v70, .int l1, .ref 39] _ 0 0 _
                    refine x_aloadn (x := 31) rfl rfl ?_
                    refine z_getR (N := 13) (b := 87) 11 5 rfl f_11_50 rfl J rfl 3973 ⟨rfl, rfl⟩ rfl ?_
                    refine x_iloadn (x := l3) rfl rfl ?_
                    refine x_inv (N := m_X3_mentionAt) (As := [.int l3]) (b := 87) (st := [.int v70, .int l1, .ref 39]) (dx9 := 13) (mc := 0) (ms := 0) (host := "") 3 rfl t_X3_mentionAt ⟨Or.inl q_11_309, i_X3_mentionAt.1, i_X3_mentionAt.2⟩ ⟨by decide, rfl⟩ (congrArg Prod.fst (J.1.1 87 (3, 14) rfl)) rfl (by decide) rfl rfl ⟨by decide, by decide⟩ (jC.of rfl k_X3_mentionAt rfl ?_)
                    show jX m_X3_mentionAt 13 0 0 0 [(0, .ref 87), (1, .int l3)] [] _ 0 0 _
                    refine x_iloadn (x := l3) rfl rfl ?_
                    refine x_iflt (tgt := 21) rfl rfl (ti_lt rfl jk_0 (br_f (by omega) ?_))
                    refine x_iloadn (x := l3) rfl rfl ?_
                    refine x_aloadn (x := 87) rfl rfl ?_
                    refine z_getM (N := 14) (v := g0) 3 3 rfl f_3_15 rfl J rfl (jmc S58 rfl (jmc S6 rfl z0)) ?_
                    refine x_icge (tgt := 21) rfl rfl (ti_ge rfl rfl ⟨fun c71 => ?_, fun c71 => ?_⟩)
                    ·
                      refine x_iconst (v := (-1)) rfl ki_m1 ?_
                      refine x_iret rfl rfl ?_
                      show jX m_X11_join 14 0 0 151 [(0, .ref 31), (1, .int l1), (2, .int l2), (3, .int l3)] [.int (-1), .int v70, .int l1, .ref 39] _ 0 0 _
                      refine x_iconst (v := 0) rfl ki_0 ?_
                      refine x_iconst (v := 0) rfl ki_0 ?_
                      refine x_iconst (v := 0) rfl ki_0 ?_
                      refine x_inv (N := m_X8_add) (As := [.int l1, .int v70, .int (-1), .int 0, .int 0, .int 0]) (b := 39) (st := []) (dx9 := 2) (mc := 0) (ms := 0) (host := "") 8 rfl t_X8_add ⟨Or.inl q_11_145, i_X8_add.1, i_X8_add.2⟩ ⟨by decide, rfl⟩ (congrArg Prod.fst (J.1.1 39 (8, 4) rfl)) rfl (by decide) rfl rfl ⟨by decide, by decide⟩ (sf_X8_add_r39 (jr_of rfl (by omega)) (jr_of rfl (by omega)) (jr_of jk_m1 (by omega)) (jr_of jk_0 (by omega)) (jr_of jk_0 (by omega)) (jr_of jk_0 (by omega)) hD J  (fun h J S72 => ?_))
                      have Sm := jSm_tr rfl Sm S72
                      show jX m_X11_join 14 0 0 157 [(0, .ref 31), (1, .int l1), (2, .int l2), (3, .int l3)] [] _ 0 0 _
                      exact jX.sub (jsb_c rfl (jsb_c rfl (jsb_c rfl (jsb_c rfl jsb_n)))) (ct_X11_join_r31_157 hD hQ ih l1 l2 l3 g0 h (jr_of rfl (by omega)) (jr_of rfl (by omega)) (jr_of rfl (by omega)) (jmc S72 rfl (jmc S58 rfl (jmc S6 rfl z0))) (by omega) J Sm)
                    ·
                      refine x_aloadn (x := 87) rfl rfl ?_
                      refine z_getR (N := 14) (b := 88) 3 2 rfl f_3_9 rfl J rfl 11138 ⟨rfl, rfl⟩ rfl ?_
                      refine x_iloadn (x := l3) rfl rfl ?_
                      refine z_iald (N := 9) rfl J rfl sg_88_0_9_1_0_1 rfl (by omega) (fun v73 qv73 ev73 => ?_)
                      refine x_goto (tgt := 22) rfl rfl ?_
                      refine x_iret rfl rfl ?_
                      show jX m_X11_join 14 0 0 151 [(0, .ref 31), (1, .int l1), (2, .int l2), (3, .int l3)] [.int v73, .int v70, .int l1, .ref 39] _ 0 0 _
                      refine x_iconst (v := 0) rfl ki_0 ?_
                      refine x_iconst (v := 0) rfl ki_0 ?_
                      refine x_iconst (v := 0) rfl ki_0 ?_
                      refine x_inv (N := m_X8_add) (As := [.int l1, .int v70, .int v73, .int 0, .int 0, .int 0]) (b := 39) (st := []) (dx9 := 2) (mc := 0) (ms := 0) (host := "") 8 rfl t_X8_add ⟨Or.inl q_11_145, i_X8_add.1, i_X8_add.2⟩ ⟨by decide, rfl⟩ (congrArg Prod.fst (J.1.1 39 (8, 4) rfl)) rfl (by decide) rfl rfl ⟨by decide, by decide⟩ (sf_X8_add_r39 (jr_of rfl (by omega)) (jr_of rfl (by omega)) (jr_of rfl (by omega)) (jr_of jk_0 (by omega)) (jr_of jk_0 (by omega)) (jr_of jk_0 (by omega)) hD J  (fun h J S74 => ?_))
                      have Sm := jSm_tr rfl Sm S74
                      show jX m_X11_join 14 0 0 157 [(0, .ref 31), (1, .int l1), (2, .int l2), (3, .int l3)] [] _ 0 0 _
                      exact jX.sub (jsb_c rfl (jsb_c rfl (jsb_c rfl (jsb_c rfl jsb_n)))) (ct_X11_join_r31_157 hD hQ ih l1 l2 l3 g0 h (jr_of rfl (by omega)) (jr_of rfl (by omega)) (jr_of rfl (by omega)) (jmc S74 rfl (jmc S58 rfl (jmc S6 rfl z0))) (by omega) J Sm)
            ·
              refine x_aloadn (x := 87) rfl rfl ?_
              refine z_getR (N := 14) (b := 88) 3 2 rfl f_3_9 rfl J rfl 11138 ⟨rfl, rfl⟩ rfl ?_
              refine x_iloadn (x := l3) rfl rfl ?_
              refine z_iald (N := 9) rfl J rfl sg_88_0_9_1_0_1 rfl (by omega) (fun v75 qv75 ev75 => ?_)
              refine x_goto (tgt := 22) rfl rfl ?_
              refine x_iret rfl rfl ?_
              show jX m_X3_isNews 13 0 0 32 [(2, .int v7), (0, .ref 87), (1, .int l3)] [.int v75, .ref 78, .int v55] _ 0 0 _
              refine x_inv (N := m_X7_soulAt) (As := [.int v75]) (b := 78) (st := [.int v55]) (dx9 := 12) (mc := 0) (ms := 0) (host := "") 7 rfl t_X7_soulAt ⟨Or.inl q_3_67, i_X7_soulAt.1, i_X7_soulAt.2⟩ ⟨by decide, rfl⟩ (congrArg Prod.fst (J.1.1 78 (7, 16) rfl)) rfl (by decide) rfl rfl ⟨by decide, by decide⟩ (jC.of rfl k_X7_soulAt rfl ?_)
              show jX m_X7_soulAt 12 0 0 0 [(0, .ref 78), (1, .int v75)] [] _ 0 0 _
              refine x_iloadn (x := v75) rfl rfl ?_
              refine x_iflt (tgt := 36) rfl rfl (ti_lt rfl jk_0 (br_f (by omega) ?_))
              refine x_iloadn (x := v75) rfl rfl ?_
              refine x_sipush (v := 600) rfl ks_600 ?_
              refine x_icge (tgt := 36) rfl rfl (ti_ge rfl jk_600 (br_f (by omega) ?_))
              refine x_iloadn (x := v75) rfl rfl ?_
              refine x_iconst (v := 3) rfl ki_3 ?_
              refine z_idiv rfl rfl jk_3 (by omega) (by omega) (fun v76 ev76 => ?_)
              refine x_aloadn (x := 78) rfl rfl ?_
              refine z_getR (N := 16) (b := 32) 7 0 rfl f_7_55 rfl J rfl 9984 ⟨rfl, rfl⟩ rfl ?_
              refine z_getR (N := 20) (b := 33) 1 0 rfl f_7_63 rfl J rfl 4096 ⟨rfl, rfl⟩ rfl ?_
              refine z_getM (N := 4) (v := v33) 8 3 rfl f_7_85 rfl J rfl qv33 ?_
              refine x_icge (tgt := 36) rfl rfl (ti_ge rfl rfl ⟨fun c77 => ?_, fun c77 => ?_⟩)
              ·
                refine x_iconst (v := (-1)) rfl ki_m1 ?_
                refine x_iret rfl rfl ?_
                show jX m_X3_isNews 13 0 0 35 [(2, .int v7), (0, .ref 87), (1, .int l3)] [.int (-1), .int v55] _ 0 0 _
                refine x_iceq (tgt := 42) rfl rfl (ti_eq rfl jk_m1 ⟨fun c78 => ?_, fun c78 => ?_⟩)
                ·
                  refine x_iconst (v := 0) rfl ki_0 ?_
                  refine x_zret rfl rfl (by decide) ?_
                  show jX m_X11_join 14 0 0 117 [(0, .ref 31), (1, .int l1), (2, .int l2), (3, .int l3)] [.int 0] _ 0 0 _
                  refine x_ifeq (tgt := 157) rfl rfl (ti_eq jk_0 jk_0 (br_t (by omega) ?_))
                  exact jX.sub (jsb_c rfl (jsb_c rfl (jsb_c rfl (jsb_c rfl jsb_n)))) (ct_X11_join_r31_157 hD hQ ih l1 l2 l3 g0 h (jr_of rfl (by omega)) (jr_of rfl (by omega)) (jr_of rfl (by omega)) (jmc S6 rfl z0) (by omega) J Sm)
                ·
                  refine x_iconst (v := 1) rfl ki_1 ?_
                  refine x_goto (tgt := 43) rfl rfl ?_
                  refine x_zret rfl rfl (by decide) ?_
                  show jX m_X11_join 14 0 0 117 [(0, .ref 31), (1, .int l1), (2, .int l2), (3, .int l3)] [.int 1] _ 0 0 _
                  refine x_ifeq (tgt := 157) rfl rfl (ti_eq jk_1 jk_0 (br_f (by omega) ?_))
                  refine x_aloadn (x := 31) rfl rfl ?_
                  refine z_getR (N := 13) (b := 32) 11 0 rfl f_11_10 rfl J rfl 3968 ⟨rfl, rfl⟩ rfl ?_
                  refine z_getR (N := 20) (b := 39) 1 3 rfl f_11_237 rfl J rfl 4099 ⟨rfl, rfl⟩ rfl ?_
                  refine x_iloadn (x := l1) rfl rfl ?_
                  refine x_aloadn (x := 31) rfl rfl ?_
                  refine z_getR (N := 13) (b := 87) 11 5 rfl f_11_50 rfl J rfl 3973 ⟨rfl, rfl⟩ rfl ?_
                  refine x_aloadn (x := 31) rfl rfl ?_
                  refine z_getR (N := 13) (b := 87) 11 5 rfl f_11_50 rfl J rfl 3973 ⟨rfl, rfl⟩ rfl ?_
                  refine x_iloadn (x := l3) rfl rfl ?_
                  refine x_inv (N := m_X3_aheadOf) (As := [.int l3]) (b := 87) (st := [.ref 87, .int l1, .ref 39]) (dx9 := 2) (mc := 0) (ms := 0) (host := "") 3 rfl t_X3_aheadOf ⟨Or.inl q_11_306, i_X3_aheadOf.1, i_X3_aheadOf.2⟩ ⟨by decide, rfl⟩ (congrArg Prod.fst (J.1.1 87 (3, 14) rfl)) rfl (by decide) rfl rfl ⟨by decide, by decide⟩ (sf_X3_aheadOf_r87 (jr_of rfl (by omega)) hD J  (fun v80 h ev80 J S79 => ?_))
                  have Sm := jSm_tr rfl Sm S79
                  show jX m_X11_join 14 0 0 140 [(0, .ref 31), (1, .int l1), (2, .int l2), (3, .int l3)] [.int v80, .ref 87, .int l1, .ref 39] _ 0 0 _
                  refine x_inv (N := m_X3_mentionAt) (As := [.int v80]) (b := 87) (st := [.int l1, .ref 39]) (dx9 := 13) (mc := 0) (ms := 0) (host := "") 3 rfl t_X3_mentionAt ⟨Or.inl q_11_309, i_X3_mentionAt.1, i_X3_mentionAt.2⟩ ⟨by decide, rfl⟩ (congrArg Prod.fst (J.1.1 87 (3, 14) rfl)) rfl (by decide) rfl rfl ⟨by decide, by decide⟩ (jC.of rfl k_X3_mentionAt rfl ?_)
                  show jX m_X3_mentionAt 13 0 0 0 [(0, .ref 87), (1, .int v80)] [] _ 0 0 _
                  refine x_iloadn (x := v80) rfl rfl ?_
                  refine x_iflt (tgt := 21) rfl rfl (ti_lt rfl jk_0 ⟨fun c81 => ?_, fun c81 => ?_⟩)
                  ·
                    refine x_iconst (v := (-1)) rfl ki_m1 ?_
                    refine x_iret rfl rfl ?_
                    show jX m_X11_join 14 0 0 143 [(0, .ref 31), (1, .int l1), (2, .int l2), (3, .int l3)] [.int (-1), .int l1, .ref 39] _ 0 0 _
                    refine x_aloadn (x := 31) rfl rfl ?_
                    refine z_getR (N := 13) (b := 87) 11 5 rfl f_11_50 rfl J rfl 3973 ⟨rfl, rfl⟩ rfl ?_
                    refine x_iloadn (x := l3) rfl rfl ?_
                    refine x_inv (N := m_X3_mentionAt) (As := [.int l3]) (b := 87) (st := [.int (-1), .int l1, .ref 39]) (dx9 := 13) (mc := 0) (ms := 0) (host := "") 3 rfl t_X3_mentionAt ⟨Or.inl q_11_309, i_X3_mentionAt.1, i_X3_mentionAt.2⟩ ⟨by decide, rfl⟩ (congrArg Prod.fst (J.1.1 87 (3, 14) rfl)) rfl (by decide) rfl rfl ⟨by decide, by decide⟩ (jC.of rfl k_X3_mentionAt rfl ?_)
                    show jX m_X3_mentionAt 13 0 0 0 [(0, .ref 87), (1, .int l3)] [] _ 0 0 _
                    refine x_iloadn (x := l3) rfl rfl ?_
                    refine x_iflt (tgt := 21) rfl rfl (ti_lt rfl jk_0 (br_f (by omega) ?_))
                    refine x_iloadn (x := l3) rfl rfl ?_
                    refine x_aloadn (x := 87) rfl rfl ?_
                    refine z_getM (N := 14) (v := g0) 3 3 rfl f_3_15 rfl J rfl (jmc S79 rfl (jmc S6 rfl z0)) ?_
                    refine x_icge (tgt := 21) rfl rfl (ti_ge rfl rfl ⟨fun c82 => ?_, fun c82 => ?_⟩)
                    ·
                      refine x_iconst (v := (-1)) rfl ki_m1 ?_
                      refine x_iret rfl rfl ?_
                      show jX m_X11_join 14 0 0 151 [(0, .ref 31), (1, .int l1), (2, .int l2), (3, .int l3)] [.int (-1), .int (-1), .int l1, .ref 39] _ 0 0 _
                      refine x_iconst (v := 0) rfl ki_0 ?_
                      refine x_iconst (v := 0) rfl ki_0 ?_
                      refine x_iconst (v := 0) rfl ki_0 ?_
                      refine x_inv (N := m_X8_add) (As := [.int l1, .int (-1), .int (-1), .int 0, .int 0, .int 0]) (b := 39) (st := []) (dx9 := 2) (mc := 0) (ms := 0) (host := "") 8 rfl t_X8_add ⟨Or.inl q_11_145, i_X8_add.1, i_X8_add.2⟩ ⟨by decide, rfl⟩ (congrArg Prod.fst (J.1.1 39 (8, 4) rfl)) rfl (by decide) rfl rfl ⟨by decide, by decide⟩ (sf_X8_add_r39 (jr_of rfl (by omega)) (jr_of jk_m1 (by omega)) (jr_of jk_m1 (by omega)) (jr_of jk_0 (by omega)) (jr_of jk_0 (by omega)) (jr_of jk_0 (by omega)) hD J  (fun h J S83 => ?_))
                      have Sm := jSm_tr rfl Sm S83
                      show jX m_X11_join 14 0 0 157 [(0, .ref 31), (1, .int l1), (2, .int l2), (3, .int l3)] [] _ 0 0 _
                      exact jX.sub (jsb_c rfl (jsb_c rfl (jsb_c rfl (jsb_c rfl jsb_n)))) (ct_X11_join_r31_157 hD hQ ih l1 l2 l3 g0 h (jr_of rfl (by omega)) (jr_of rfl (by omega)) (jr_of rfl (by omega)) (jmc S83 rfl (jmc S79 rfl (jmc S6 rfl z0))) (by omega) J Sm)
                    ·
                      refine x_aloadn (x := 87) rfl rfl ?_
                      refine z_getR (N := 14) (b := 88) 3 2 rfl f_3_9 rfl J rfl 11138 ⟨rfl, rfl⟩ rfl ?_
                      refine x_iloadn (x := l3) rfl rfl ?_
                      refine z_ialdM (N := 9) (v := v75) rfl J rfl rfl (by omega) (jmc S79 rfl qv75) ?_
                      refine x_goto (tgt := 22) rfl rfl ?_
                      refine x_iret rfl rfl ?_
                      show jX m_X11_join 14 0 0 151 [(0, .ref 31), (1, .int l1), (2, .int l2), (3, .int l3)] [.int v75, .int (-1), .int l1, .ref 39] _ 0 0 _
                      refine x_iconst (v := 0) rfl ki_0 ?_
                      refine x_iconst (v := 0) rfl ki_0 ?_
                      refine x_iconst (v := 0) rfl ki_0 ?_
                      refine x_inv (N := m_X8_add) (As := [.int l1, .int (-1), .int v75, .int 0, .int 0, .int 0]) (b := 39) (st := []) (dx9 := 2) (mc := 0) (ms := 0) (host := "") 8 rfl t_X8_add ⟨Or.inl q_11_145, i_X8_add.1, i_X8_add.2⟩ ⟨by decide, rfl⟩ (congrArg Prod.fst (J.1.1 39 (8, 4) rfl)) rfl (by decide) rfl rfl ⟨by decide, by decide⟩ (sf_X8_add_r39 (jr_of rfl (by omega)) (jr_of jk_m1 (by omega)) (jr_of rfl (by omega)) (jr_of jk_0 (by omega)) (jr_of jk_0 (by omega)) (jr_of jk_0 (by omega)) hD J  (fun h J S84 => ?_))
                      have Sm := jSm_tr rfl Sm S84
                      show jX m_X11_join 14 0 0 157 [(0, .ref 31), (1, .int l1), (2, .int l2), (3, .int l3)] [] _ 0 0 _
                      exact jX.sub (jsb_c rfl (jsb_c rfl (jsb_c rfl (jsb_c rfl jsb_n)))) (ct_X11_join_r31_157 hD hQ ih l1 l2 l3 g0 h (jr_of rfl (by omega)) (jr_of rfl (by omega)) (jr_of rfl (by omega)) (jmc S84 rfl (jmc S79 rfl (jmc S6 rfl z0))) (by omega) J Sm)
                  ·
                    refine x_iloadn (x := v80) rfl rfl ?_
                    refine x_aloadn (x := 87) rfl rfl ?_
                    refine z_getM (N := 14) (v := g0) 3 3 rfl f_3_15 rfl J rfl (jmc S79 rfl (jmc S6 rfl z0)) ?_
                    refine x_icge (tgt := 21) rfl rfl (ti_ge rfl rfl ⟨fun c85 => ?_, fun c85 => ?_⟩)
                    ·
                      refine x_iconst (v := (-1)) rfl ki_m1 ?_
                      refine x_iret rfl rfl ?_
                      show jX m_X11_join 14 0 0 143 [(0, .ref 31), (1, .int l1), (2, .int l2), (3, .int l3)] [.int (-1), .int l1, .ref 39] _ 0 0 _
                      refine x_aloadn (x := 31) rfl rfl ?_
                      refine z_getR (N := 13) (b := 87) 11 5 rfl f_11_50 rfl J rfl 3973 ⟨rfl, rfl⟩ rfl ?_
                      refine x_iloadn (x := l3) rfl rfl ?_
                      refine x_inv (N := m_X3_mentionAt) (As := [.int l3]) (b := 87) (st := [.int (-1), .int l1, .ref 39]) (dx9 := 13) (mc := 0) (ms := 0) (host := "") 3 rfl t_X3_mentionAt ⟨Or.inl q_11_309, i_X3_mentionAt.1, i_X3_mentionAt.2⟩ ⟨by decide, rfl⟩ (congrArg Prod.fst (J.1.1 87 (3, 14) rfl)) rfl (by decide) rfl rfl ⟨by decide, by decide⟩ (jC.of rfl k_X3_mentionAt rfl ?_)
                      show jX m_X3_mentionAt 13 0 0 0 [(0, .ref 87), (1, .int l3)] [] _ 0 0 _
                      refine x_iloadn (x := l3) rfl rfl ?_
                      refine x_iflt (tgt := 21) rfl rfl (ti_lt rfl jk_0 (br_f (by omega) ?_))
                      refine x_iloadn (x := l3) rfl rfl ?_
                      refine x_aloadn (x := 87) rfl rfl ?_
                      refine z_getM (N := 14) (v := g0) 3 3 rfl f_3_15 rfl J rfl (jmc S79 rfl (jmc S6 rfl z0)) ?_
                      refine x_icge (tgt := 21) rfl rfl (ti_ge rfl rfl ⟨fun c86 => ?_, fun c86 => ?_⟩)
                      ·
                        refine x_iconst (v := (-1)) rfl ki_m1 ?_
                        refine x_iret rfl rfl ?_
                        show jX m_X11_join 14 0 0 151 [(0, .ref 31), (1, .int l1), (2, .int l2), (3, .int l3)] [.int (-1), .int (-1), .int l1, .ref 39] _ 0 0 _
                        refine x_iconst (v := 0) rfl ki_0 ?_
                        refine x_iconst (v := 0) rfl ki_0 ?_
                        refine x_iconst (v := 0) rfl ki_0 ?_
                        refine x_inv (N := m_X8_add) (As := [.int l1, .int (-1), .int (-1), .int 0, .int 0, .int 0]) (b := 39) (st := []) (dx9 := 2) (mc := 0) (ms := 0) (host := "") 8 rfl t_X8_add ⟨Or.inl q_11_145, i_X8_add.1, i_X8_add.2⟩ ⟨by decide, rfl⟩ (congrArg Prod.fst (J.1.1 39 (8, 4) rfl)) rfl (by decide) rfl rfl ⟨by decide, by decide⟩ (sf_X8_add_r39 (jr_of rfl (by omega)) (jr_of jk_m1 (by omega)) (jr_of jk_m1 (by omega)) (jr_of jk_0 (by omega)) (jr_of jk_0 (by omega)) (jr_of jk_0 (by omega)) hD J  (fun h J S87 => ?_))
                        have Sm := jSm_tr rfl Sm S87
                        show jX m_X11_join 14 0 0 157 [(0, .ref 31), (1, .int l1), (2, .int l2), (3, .int l3)] [] _ 0 0 _
                        exact jX.sub (jsb_c rfl (jsb_c rfl (jsb_c rfl (jsb_c rfl jsb_n)))) (ct_X11_join_r31_157 hD hQ ih l1 l2 l3 g0 h (jr_of rfl (by omega)) (jr_of rfl (by omega)) (jr_of rfl (by omega)) (jmc S87 rfl (jmc S79 rfl (jmc S6 rfl z0))) (by omega) J Sm)
                      ·
                        refine x_aloadn (x := 87) rfl rfl ?_
                        refine z_getR (N := 14) (b := 88) 3 2 rfl f_3_9 rfl J rfl 11138 ⟨rfl, rfl⟩ rfl ?_
                        refine x_iloadn (x := l3) rfl rfl ?_
                        refine z_ialdM (N := 9) (v := v75) rfl J rfl rfl (by omega) (jmc S79 rfl qv75) ?_
                        refine x_goto (tgt := 22) rfl rfl ?_
                        refine x_iret rfl rfl ?_
                        show jX m_X11_join 14 0 0 151 [(0, .ref 31), (1, .int l1), (2, .int l2), (3, .int l3)] [.int v75, .int (-1), .int l1, .ref 39] _ 0 0 _
                        refine x_iconst (v := 0) rfl ki_0 ?_
                        refine x_iconst (v := 0) rfl ki_0 ?_
                        refine x_iconst (v := 0) rfl ki_0 ?_
                        refine x_inv (N := m_X8_add) (As := [.int l1, .int (-1), .int v75, .int 0, .int 0, .int 0]) (b := 39) (st := []) (dx9 := 2) (mc := 0) (ms := 0) (host := "") 8 rfl t_X8_add ⟨Or.inl q_11_145, i_X8_add.1, i_X8_add.2⟩ ⟨by decide, rfl⟩ (congrArg Prod.fst (J.1.1 39 (8, 4) rfl)) rfl (by decide) rfl rfl ⟨by decide, by decide⟩ (sf_X8_add_r39 (jr_of rfl (by omega)) (jr_of jk_m1 (by omega)) (jr_of rfl (by omega)) (jr_of jk_0 (by omega)) (jr_of jk_0 (by omega)) (jr_of jk_0 (by omega)) hD J  (fun h J S88 => ?_))
                        have Sm := jSm_tr rfl Sm S88
                        show jX m_X11_join 14 0 0 157 [(0, .ref 31), (1, .int l1), (2, .int l2), (3, .int l3)] [] _ 0 0 _
                        exact jX.sub (jsb_c rfl (jsb_c rfl (jsb_c rfl (jsb_c rfl jsb_n)))) (ct_X11_join_r31_157 hD hQ ih l1 l2 l3 g0 h (jr_of rfl (by omega)) (jr_of rfl (by omega)) (jr_of rfl (by omega)) (jmc S88 rfl (jmc S79 rfl (jmc S6 rfl z0))) (by omega) J Sm)
                    ·
                      refine x_aloadn (x := 87) rfl rfl ?_
                      refine z_getR (N := 14) (b := 88) 3 2 rfl f_3_9 rfl J rfl 11138 ⟨rfl, rfl⟩ rfl ?_
                      refine x_iloadn (x := v80) rfl rfl ?_
                      refine z_iald (N := 9) rfl J rfl sg_88_0_9_1_0_1 rfl (by omega) (fun v89 qv89 ev89 => ?_)
                      refine x_goto (tgt := 22) rfl rfl ?_
                      refine x_iret rfl rfl ?_
                      show jX m_X11_join 14 0 0 143 [(0, .ref 31), (1, .int l1), (2, .int l2), (3, .int l3)] [.int v89, .int l1, .ref 39] _ 0 0 _
                      refine x_aloadn (x := 31) rfl rfl ?_
                      refine z_getR (N := 13) (b := 87) 11 5 rfl f_11_50 rfl J rfl 3973 ⟨rfl, rfl⟩ rfl ?_
                      refine x_iloadn (x := l3) rfl rfl ?_
                      refine x_inv (N := m_X3_mentionAt) (As := [.int l3]) (b := 87) (st := [.int v89, .int l1, .ref 39]) (dx9 := 13) (mc := 0) (ms := 0) (host := "") 3 rfl t_X3_mentionAt ⟨Or.inl q_11_309, i_X3_mentionAt.1, i_X3_mentionAt.2⟩ ⟨by decide, rfl⟩ (congrArg Prod.fst (J.1.1 87 (3, 14) rfl)) rfl (by decide) rfl rfl ⟨by decide, by decide⟩ (jC.of rfl k_X3_mentionAt rfl ?_)
                      show jX m_X3_mentionAt 13 0 0 0 [(0, .ref 87), (1, .int l3)] [] _ 0 0 _
                      refine x_iloadn (x := l3) rfl rfl ?_
                      refine x_iflt (tgt := 21) rfl rfl (ti_lt rfl jk_0 (br_f (by omega) ?_))
                      refine x_iloadn (x := l3) rfl rfl ?_
                      refine x_aloadn (x := 87) rfl rfl ?_
                      refine z_getM (N := 14) (v := g0) 3 3 rfl f_3_15 rfl J rfl (jmc S79 rfl (jmc S6 rfl z0)) ?_
                      refine x_icge (tgt := 21) rfl rfl (ti_ge rfl rfl ⟨fun c90 => ?_, fun c90 => ?_⟩)
                      ·
                        refine x_iconst (v := (-1)) rfl ki_m1 ?_
                        refine x_iret rfl rfl ?_
                        show jX m_X11_join 14 0 0 151 [(0, .ref 31), (1, .int l1), (2, .int l2), (3, .int l3)] [.int (-1), .int v89, .int l1, .ref 39] _ 0 0 _
                        refine x_iconst (v := 0) rfl ki_0 ?_
                        refine x_iconst (v := 0) rfl ki_0 ?_
                        refine x_iconst (v := 0) rfl ki_0 ?_
                        refine x_inv (N := m_X8_add) (As := [.int l1, .int v89, .int (-1), .int 0, .int 0, .int 0]) (b := 39) (st := []) (dx9 := 2) (mc := 0) (ms := 0) (host := "") 8 rfl t_X8_add ⟨Or.inl q_11_145, i_X8_add.1, i_X8_add.2⟩ ⟨by decide, rfl⟩ (congrArg Prod.fst (J.1.1 39 (8, 4) rfl)) rfl (by decide) rfl rfl ⟨by decide, by decide⟩ (sf_X8_add_r39 (jr_of rfl (by omega)) (jr_of rfl (by omega)) (jr_of jk_m1 (by omega)) (jr_of jk_0 (by omega)) (jr_of jk_0 (by omega)) (jr_of jk_0 (by omega)) hD J  (fun h J S91 => ?_))
                        have Sm := jSm_tr rfl Sm S91
                        show jX m_X11_join 14 0 0 157 [(0, .ref 31), (1, .int l1), (2, .int l2), (3, .int l3)] [] _ 0 0 _
                        exact jX.sub (jsb_c rfl (jsb_c rfl (jsb_c rfl (jsb_c rfl jsb_n)))) (ct_X11_join_r31_157 hD hQ ih l1 l2 l3 g0 h (jr_of rfl (by omega)) (jr_of rfl (by omega)) (jr_of rfl (by omega)) (jmc S91 rfl (jmc S79 rfl (jmc S6 rfl z0))) (by omega) J Sm)
                      ·
                        refine x_aloadn (x := 87) rfl rfl ?_
                        refine z_getR (N := 14) (b := 88) 3 2 rfl f_3_9 rfl J rfl 11138 ⟨rfl, rfl⟩ rfl ?_
                        refine x_iloadn (x := l3) rfl rfl ?_
                        refine z_ialdM (N := 9) (v := v75) rfl J rfl rfl (by omega) (jmc S79 rfl qv75) ?_
                        refine x_goto (tgt := 22) rfl rfl ?_
                        refine x_iret rfl rfl ?_
                        show jX m_X11_join 14 0 0 151 [(0, .ref 31), (1, .int l1), (2, .int l2), (3, .int l3)] [.int v75, .int v89, .int l1, .ref 39] _ 0 0 _
                        refine x_iconst (v := 0) rfl ki_0 ?_
                        refine x_iconst (v := 0) rfl ki_0 ?_
                        refine x_iconst (v := 0) rfl ki_0 ?_
                        refine x_inv (N := m_X8_add) (As := [.int l1, .int v89, .int v75, .int 0, .int 0, .int 0]) (b := 39) (st := []) (dx9 := 2) (mc := 0) (ms := 0) (host := "") 8 rfl t_X8_add ⟨Or.inl q_11_145, i_X8_add.1, i_X8_add.2⟩ ⟨by decide, rfl⟩ (congrArg Prod.fst (J.1.1 39 (8, 4) rfl)) rfl (by decide) rfl rfl ⟨by decide, by decide⟩ (sf_X8_add_r39 (jr_of rfl (by omega)) (jr_of rfl (by omega)) (jr_of rfl (by omega)) (jr_of jk_0 (by omega)) (jr_of jk_0 (by omega)) (jr_of jk_0 (by omega)) hD J  (fun h J S92 => ?_))
                        have Sm := jSm_tr rfl Sm S92
                        show jX m_X11_join 14 0 0 157 [(0, .ref 31), (1, .int l1), (2, .int l2), (3, .int l3)] [] _ 0 0 _
                        exact jX.sub (jsb_c rfl (jsb_c rfl (jsb_c rfl (jsb_c rfl jsb_n)))) (ct_X11_join_r31_157 hD hQ ih l1 l2 l3 g0 h (jr_of rfl (by omega)) (jr_of rfl (by omega)) (jr_of rfl (by omega)) (jmc S92 rfl (jmc S79 rfl (jmc S6 rfl z0))) (by omega) J Sm)
              ·
                refine x_aloadn (x := 78) rfl rfl ?_
                refine z_getR (N := 16) (b := 82) 7 10 rfl f_7_37 rfl J rfl 9994 ⟨rfl, rfl⟩ rfl ?_
                refine x_iloadn (x := v75) rfl rfl ?_
                refine z_iald (N := 600) rfl J rfl sg_82_0_600_1_0_1 rfl (by omega) (fun v93 qv93 ev93 => ?_)
                refine x_goto (tgt := 37) rfl rfl ?_
                refine x_iret rfl rfl ?_
                show jX m_X3_isNews 13 0 0 35 [(2, .int v7), (0, .ref 87), (1, .int l3)] [.int v93, .int v55] _ 0 0 _
                refine x_iceq (tgt := 42) rfl rfl (ti_eq rfl rfl ⟨fun c94 => ?_, fun c94 => ?_⟩)
                ·
                  refine x_iconst (v := 0) rfl ki_0 ?_
                  refine x_zret rfl rfl (by decide) ?_
                  show jX m_X11_join 14 0 0 117 [(0, .ref 31), (1, .int l1), (2, .int l2), (3, .int l3)] [.int 0] _ 0 0 _
                  refine x_ifeq (tgt := 157) rfl rfl (ti_eq jk_0 jk_0 (br_t (by omega) ?_))
                  exact jX.sub (jsb_c rfl (jsb_c rfl (jsb_c rfl (jsb_c rfl jsb_n)))) (ct_X11_join_r31_157 hD hQ ih l1 l2 l3 g0 h (jr_of rfl (by omega)) (jr_of rfl (by omega)) (jr_of rfl (by omega)) (jmc S6 rfl z0) (by omega) J Sm)
                ·
                  refine x_iconst (v := 1) rfl ki_1 ?_
                  refine x_goto (tgt := 43) rfl rfl ?_
                  refine x_zret rfl rfl (by decide) ?_
                  show jX m_X11_join 14 0 0 117 [(0, .ref 31), (1, .int l1), (2, .int l2), (3, .int l3)] [.int 1] _ 0 0 _
                  refine x_ifeq (tgt := 157) rfl rfl (ti_eq jk_1 jk_0 (br_f (by omega) ?_))
                  refine x_aloadn (x := 31) rfl rfl ?_
                  refine z_getR (N := 13) (b := 32) 11 0 rfl f_11_10 rfl J rfl 3968 ⟨rfl, rfl⟩ rfl ?_
                  refine z_getR (N := 20) (b := 39) 1 3 rfl f_11_237 rfl J rfl 4099 ⟨rfl, rfl⟩ rfl ?_
                  refine x_iloadn (x := l1) rfl rfl ?_
                  refine x_aloadn (x := 31) rfl rfl ?_
                  refine z_getR (N := 13) (b := 87) 11 5 rfl f_11_50 rfl J rfl 3973 ⟨rfl, rfl⟩ rfl ?_
                  refine x_aloadn (x := 31) rfl rfl ?_
                  refine z_getR (N := 13) (b := 87) 11 5 rfl f_11_50 rfl J rfl 3973 ⟨rfl, rfl⟩ rfl ?_
                  refine x_iloadn (x := l3) rfl rfl ?_
                  refine x_inv (N := m_X3_aheadOf) (As := [.int l3]) (b := 87) (st := [.ref 87, .int l1, .ref 39]) (dx9 := 2) (mc := 0) (ms := 0) (host := "") 3 rfl t_X3_aheadOf ⟨Or.inl q_11_306, i_X3_aheadOf.1, i_X3_aheadOf.2⟩ ⟨by decide, rfl⟩ (congrArg Prod.fst (J.1.1 87 (3, 14) rfl)) rfl (by decide) rfl rfl ⟨by decide, by decide⟩ (sf_X3_aheadOf_r87 (jr_of rfl (by omega)) hD J  (fun v96 h ev96 J S95 => ?_))
                  have Sm := jSm_tr rfl Sm S95
                  show jX m_X11_join 14 0 0 140 [(0, .ref 31), (1, .int l1), (2, .int l2), (3, .int l3)] [.int v96, .ref 87, .int l1, .ref 39] _ 0 0 _
                  refine x_inv (N := m_X3_mentionAt) (As := [.int v96]) (b := 87) (st := [.int l1, .ref 39]) (dx9 := 13) (mc := 0) (ms := 0) (host := "") 3 rfl t_X3_mentionAt ⟨Or.inl q_11_309, i_X3_mentionAt.1, i_X3_mentionAt.2⟩ ⟨by decide, rfl⟩ (congrArg Prod.fst (J.1.1 87 (3, 14) rfl)) rfl (by decide) rfl rfl ⟨by decide, by decide⟩ (jC.of rfl k_X3_mentionAt rfl ?_)
                  show jX m_X3_mentionAt 13 0 0 0 [(0, .ref 87), (1, .int v96)] [] _ 0 0 _
                  refine x_iloadn (x := v96) rfl rfl ?_
                  refine x_iflt (tgt := 21) rfl rfl (ti_lt rfl jk_0 ⟨fun c97 => ?_, fun c97 => ?_⟩)
                  ·
                    refine x_iconst (v := (-1)) rfl ki_m1 ?_
                    refine x_iret rfl rfl ?_
                    show jX m_X11_join 14 0 0 143 [(0, .ref 31), (1, .int l1), (2, .int l2), (3, .int l3)] [.int (-1), .int l1, .ref 39] _ 0 0 _
                    refine x_aloadn (x := 31) rfl rfl ?_
                    refine z_getR (N := 13) (b := 87) 11 5 rfl f_11_50 rfl J rfl 3973 ⟨rfl, rfl⟩ rfl ?_
                    refine x_iloadn (x := l3) rfl rfl ?_
                    refine x_inv (N := m_X3_mentionAt) (As := [.int l3]) (b := 87) (st := [.int (-1), .int l1, .ref 39]) (dx9 := 13) (mc := 0) (ms := 0) (host := "") 3 rfl t_X3_mentionAt ⟨Or.inl q_11_309, i_X3_mentionAt.1, i_X3_mentionAt.2⟩ ⟨by decide, rfl⟩ (congrArg Prod.fst (J.1.1 87 (3, 14) rfl)) rfl (by decide) rfl rfl ⟨by decide, by decide⟩ (jC.of rfl k_X3_mentionAt rfl ?_)
                    show jX m_X3_mentionAt 13 0 0 0 [(0, .ref 87), (1, .int l3)] [] _ 0 0 _
                    refine x_iloadn (x := l3) rfl rfl ?_
                    refine x_iflt (tgt := 21) rfl rfl (ti_lt rfl jk_0 (br_f (by omega) ?_))
                    refine x_iloadn (x := l3) rfl rfl ?_
                    refine x_aloadn (x := 87) rfl rfl ?_
                    refine z_getM (N := 14) (v := g0) 3 3 rfl f_3_15 rfl J rfl (jmc S95 rfl (jmc S6 rfl z0)) ?_
                    refine x_icge (tgt := 21) rfl rfl (ti_ge rfl rfl ⟨fun c98 => ?_, fun c98 => ?_⟩)
                    ·
                      refine x_iconst (v := (-1)) rfl ki_m1 ?_
                      refine x_iret rfl rfl ?_
                      show jX m_X11_join 14 0 0 151 [(0, .ref 31), (1, .int l1), (2, .int l2), (3, .int l3)] [.int (-1), .int (-1), .int l1, .ref 39] _ 0 0 _
                      refine x_iconst (v := 0) rfl ki_0 ?_
                      refine x_iconst (v := 0) rfl ki_0 ?_
                      refine x_iconst (v := 0) rfl ki_0 ?_
                      refine x_inv (N := m_X8_add) (As := [.int l1, .int (-1), .int (-1), .int 0, .int 0, .int 0]) (b := 39) (st := []) (dx9 := 2) (mc := 0) (ms := 0) (host := "") 8 rfl t_X8_add ⟨Or.inl q_11_145, i_X8_add.1, i_X8_add.2⟩ ⟨by decide, rfl⟩ (congrArg Prod.fst (J.1.1 39 (8, 4) rfl)) rfl (by decide) rfl rfl ⟨by decide, by decide⟩ (sf_X8_add_r39 (jr_of rfl (by omega)) (jr_of jk_m1 (by omega)) (jr_of jk_m1 (by omega)) (jr_of jk_0 (by omega)) (jr_of jk_0 (by omega)) (jr_of jk_0 (by omega)) hD J  (fun h J S99 => ?_))
                      have Sm := jSm_tr rfl Sm S99
                      show jX m_X11_join 14 0 0 157 [(0, .ref 31), (1, .int l1), (2, .int l2), (3, .int l3)] [] _ 0 0 _
                      exact jX.sub (jsb_c rfl (jsb_c rfl (jsb_c rfl (jsb_c rfl jsb_n)))) (ct_X11_join_r31_157 hD hQ ih l1 l2 l3 g0 h (jr_of rfl (by omega)) (jr_of rfl (by omega)) (jr_of rfl (by omega)) (jmc S99 rfl (jmc S95 rfl (jmc S6 rfl z0))) (by omega) J Sm)
                    ·
                      refine x_aloadn (x := 87) rfl rfl ?_
                      refine z_getR (N := 14) (b := 88) 3 2 rfl f_3_9 rfl J rfl 11138 ⟨rfl, rfl⟩ rfl ?_
                      refine x_iloadn (x := l3) rfl rfl ?_
                      refine z_ialdM (N := 9) (v := v75) rfl J rfl rfl (by omega) (jmc S95 rfl qv75) ?_
                      refine x_goto (tgt := 22) rfl rfl ?_
                      refine x_iret rfl rfl ?_
                      show jX m_X11_join 14 0 0 151 [(0, .ref 31), (1, .int l1), (2, .int l2), (3, .int l3)] [.int v75, .int (-1), .int l1, .ref 39] _ 0 0 _
                      refine x_iconst (v := 0) rfl ki_0 ?_
                      refine x_iconst (v := 0) rfl ki_0 ?_
                      refine x_iconst (v := 0) rfl ki_0 ?_
                      refine x_inv (N := m_X8_add) (As := [.int l1, .int (-1), .int v75, .int 0, .int 0, .int 0]) (b := 39) (st := []) (dx9 := 2) (mc := 0) (ms := 0) (host := "") 8 rfl t_X8_add ⟨Or.inl q_11_145, i_X8_add.1, i_X8_add.2⟩ ⟨by decide, rfl⟩ (congrArg Prod.fst (J.1.1 39 (8, 4) rfl)) rfl (by decide) rfl rfl ⟨by decide, by decide⟩ (sf_X8_add_r39 (jr_of rfl (by omega)) (jr_of jk_m1 (by omega)) (jr_of rfl (by omega)) (jr_of jk_0 (by omega)) (jr_of jk_0 (by omega)) (jr_of jk_0 (by omega)) hD J  (fun h J S100 => ?_))
                      have Sm := jSm_tr rfl Sm S100
                      show jX m_X11_join 14 0 0 157 [(0, .ref 31), (1, .int l1), (2, .int l2), (3, .int l3)] [] _ 0 0 _
                      exact jX.sub (jsb_c rfl (jsb_c rfl (jsb_c rfl (jsb_c rfl jsb_n)))) (ct_X11_join_r31_157 hD hQ ih l1 l2 l3 g0 h (jr_of rfl (by omega)) (jr_of rfl (by omega)) (jr_of rfl (by omega)) (jmc S100 rfl (jmc S95 rfl (jmc S6 rfl z0))) (by omega) J Sm)
                  ·
                    refine x_iloadn (x := v96) rfl rfl ?_
                    refine x_aloadn (x := 87) rfl rfl ?_
                    refine z_getM (N := 14) (v := g0) 3 3 rfl f_3_15 rfl J rfl (jmc S95 rfl (jmc S6 rfl z0)) ?_
                    refine x_icge (tgt := 21) rfl rfl (ti_ge rfl rfl ⟨fun c101 => ?_, fun c101 => ?_⟩)
                    ·
                      refine x_iconst (v := (-1)) rfl ki_m1 ?_
                      refine x_iret rfl rfl ?_
                      show jX m_X11_join 14 0 0 143 [(0, .ref 31), (1, .int l1), (2, .int l2), (3, .int l3)] [.int (-1), .int l1, .ref 39] _ 0 0 _
                      refine x_aloadn (x := 31) rfl rfl ?_
                      refine z_getR (N := 13) (b := 87) 11 5 rfl f_11_50 rfl J rfl 3973 ⟨rfl, rfl⟩ rfl ?_
                      refine x_iloadn (x := l3) rfl rfl ?_
                      refine x_inv (N := m_X3_mentionAt) (As := [.int l3]) (b := 87) (st := [.int (-1), .int l1, .ref 39]) (dx9 := 13) (mc := 0) (ms := 0) (host := "") 3 rfl t_X3_mentionAt ⟨Or.inl q_11_309, i_X3_mentionAt.1, i_X3_mentionAt.2⟩ ⟨by decide, rfl⟩ (congrArg Prod.fst (J.1.1 87 (3, 14) rfl)) rfl (by decide) rfl rfl ⟨by decide, by decide⟩ (jC.of rfl k_X3_mentionAt rfl ?_)
                      show jX m_X3_mentionAt 13 0 0 0 [(0, .ref 87), (1, .int l3)] [] _ 0 0 _
                      refine x_iloadn (x := l3) rfl rfl ?_
                      refine x_iflt (tgt := 21) rfl rfl (ti_lt rfl jk_0 (br_f (by omega) ?_))
                      refine x_iloadn (x := l3) rfl rfl ?_
                      refine x_aloadn (x := 87) rfl rfl ?_
                      refine z_getM (N := 14) (v := g0) 3 3 rfl f_3_15 rfl J rfl (jmc S95 rfl (jmc S6 rfl z0)) ?_
                      refine x_icge (tgt := 21) rfl rfl (ti_ge rfl rfl ⟨fun c102 => ?_, fun c102 => ?_⟩)
                      ·
                        refine x_iconst (v := (-1)) rfl ki_m1 ?_
                        refine x_iret rfl rfl ?_
                        show jX m_X11_join 14 0 0 151 [(0, .ref 31), (1, .int l1), (2, .int l2), (3, .int l3)] [.int (-1), .int (-1), .int l1, .ref 39] _ 0 0 _
                        refine x_iconst (v := 0) rfl ki_0 ?_
                        refine x_iconst (v := 0) rfl ki_0 ?_
                        refine x_iconst (v := 0) rfl ki_0 ?_
                        refine x_inv (N := m_X8_add) (As := [.int l1, .int (-1), .int (-1), .int 0, .int 0, .int 0]) (b := 39) (st := []) (dx9 := 2) (mc := 0) (ms := 0) (host := "") 8 rfl t_X8_add ⟨Or.inl q_11_145, i_X8_add.1, i_X8_add.2⟩ ⟨by decide, rfl⟩ (congrArg Prod.fst (J.1.1 39 (8, 4) rfl)) rfl (by decide) rfl rfl ⟨by decide, by decide⟩ (sf_X8_add_r39 (jr_of rfl (by omega)) (jr_of jk_m1 (by omega)) (jr_of jk_m1 (by omega)) (jr_of jk_0 (by omega)) (jr_of jk_0 (by omega)) (jr_of jk_0 (by omega)) hD J  (fun h J S103 => ?_))
                        have Sm := jSm_tr rfl Sm S103
                        show jX m_X11_join 14 0 0 157 [(0, .ref 31), (1, .int l1), (2, .int l2), (3, .int l3)] [] _ 0 0 _
                        exact jX.sub (jsb_c rfl (jsb_c rfl (jsb_c rfl (jsb_c rfl jsb_n)))) (ct_X11_join_r31_157 hD hQ ih l1 l2 l3 g0 h (jr_of rfl (by omega)) (jr_of rfl (by omega)) (jr_of rfl (by omega)) (jmc S103 rfl (jmc S95 rfl (jmc S6 rfl z0))) (by omega) J Sm)
                      ·
                        refine x_aloadn (x := 87) rfl rfl ?_
                        refine z_getR (N := 14) (b := 88) 3 2 rfl f_3_9 rfl J rfl 11138 ⟨rfl, rfl⟩ rfl ?_
                        refine x_iloadn (x := l3) rfl rfl ?_
                        refine z_ialdM (N := 9) (v := v75) rfl J rfl rfl (by omega) (jmc S95 rfl qv75) ?_
                        refine x_goto (tgt := 22) rfl rfl ?_
                        refine x_iret rfl rfl ?_
                        show jX m_X11_join 14 0 0 151 [(0, .ref 31), (1, .int l1), (2, .int l2), (3, .int l3)] [.int v75, .int (-1), .int l1, .ref 39] _ 0 0 _
                        refine x_iconst (v := 0) rfl ki_0 ?_
                        refine x_iconst (v := 0) rfl ki_0 ?_
                        refine x_iconst (v := 0) rfl ki_0 ?_
                        refine x_inv (N := m_X8_add) (As := [.int l1, .int (-1), .int v75, .int 0, .int 0, .int 0]) (b := 39) (st := []) (dx9 := 2) (mc := 0) (ms := 0) (host := "") 8 rfl t_X8_add ⟨Or.inl q_11_145, i_X8_add.1, i_X8_add.2⟩ ⟨by decide, rfl⟩ (congrArg Prod.fst (J.1.1 39 (8, 4) rfl)) rfl (by decide) rfl rfl ⟨by decide, by decide⟩ (sf_X8_add_r39 (jr_of rfl (by omega)) (jr_of jk_m1 (by omega)) (jr_of rfl (by omega)) (jr_of jk_0 (by omega)) (jr_of jk_0 (by omega)) (jr_of jk_0 (by omega)) hD J  (fun h J S104 => ?_))
                        have Sm := jSm_tr rfl Sm S104
                        show jX m_X11_join 14 0 0 157 [(0, .ref 31), (1, .int l1), (2, .int l2), (3, .int l3)] [] _ 0 0 _
                        exact jX.sub (jsb_c rfl (jsb_c rfl (jsb_c rfl (jsb_c rfl jsb_n)))) (ct_X11_join_r31_157 hD hQ ih l1 l2 l3 g0 h (jr_of rfl (by omega)) (jr_of rfl (by omega)) (jr_of rfl (by omega)) (jmc S104 rfl (jmc S95 rfl (jmc S6 rfl z0))) (by omega) J Sm)
                    ·
                      refine x_aloadn (x := 87) rfl rfl ?_
                      refine z_getR (N := 14) (b := 88) 3 2 rfl f_3_9 rfl J rfl 11138 ⟨rfl, rfl⟩ rfl ?_
                      refine x_iloadn (x := v96) rfl rfl ?_
                      refine z_iald (N := 9) rfl J rfl sg_88_0_9_1_0_1 rfl (by omega) (fun v105 qv105 ev105 => ?_)
                      refine x_goto (tgt := 22) rfl rfl ?_
                      refine x_iret rfl rfl ?_
                      show jX m_X11_join 14 0 0 143 [(0, .ref 31), (1, .int l1), (2, .int l2), (3, .int l3)] [.int v105, .int l1, .ref 39] _ 0 0 _
                      refine x_aloadn (x := 31) rfl rfl ?_
                      refine z_getR (N := 13) (b := 87) 11 5 rfl f_11_50 rfl J rfl 3973 ⟨rfl, rfl⟩ rfl ?_
                      refine x_iloadn (x := l3) rfl rfl ?_
                      refine x_inv (N := m_X3_mentionAt) (As := [.int l3]) (b := 87) (st := [.int v105, .int l1, .ref 39]) (dx9 := 13) (mc := 0) (ms := 0) (host := "") 3 rfl t_X3_mentionAt ⟨Or.inl q_11_309, i_X3_mentionAt.1, i_X3_mentionAt.2⟩ ⟨by decide, rfl⟩ (congrArg Prod.fst (J.1.1 87 (3, 14) rfl)) rfl (by decide) rfl rfl ⟨by decide, by decide⟩ (jC.of rfl k_X3_mentionAt rfl ?_)
                      show jX m_X3_mentionAt 13 0 0 0 [(0, .ref 87), (1, .int l3)] [] _ 0 0 _
                      refine x_iloadn (x := l3) rfl rfl ?_
                      refine x_iflt (tgt := 21) rfl rfl (ti_lt rfl jk_0 (br_f (by omega) ?_))
                      refine x_iloadn (x := l3) rfl rfl ?_
                      refine x_aloadn (x := 87) rfl rfl ?_
                      refine z_getM (N := 14) (v := g0) 3 3 rfl f_3_15 rfl J rfl (jmc S95 rfl (jmc S6 rfl z0)) ?_
                      refine x_icge (tgt := 21) rfl rfl (ti_ge rfl rfl ⟨fun c106 => ?_, fun c106 => ?_⟩)
                      ·
                        refine x_iconst (v := (-1)) rfl ki_m1 ?_
                        refine x_iret rfl rfl ?_
                        show jX m_X11_join 14 0 0 151 [(0, .ref 31), (1, .int l1), (2, .int l2), (3, .int l3)] [.int (-1), .int v105, .int l1, .ref 39] _ 0 0 _
                        refine x_iconst (v := 0) rfl ki_0 ?_
                        refine x_iconst (v := 0) rfl ki_0 ?_
                        refine x_iconst (v := 0) rfl ki_0 ?_
                        refine x_inv (N := m_X8_add) (As := [.int l1, .int v105, .int (-1), .int 0, .int 0, .int 0]) (b := 39) (st := []) (dx9 := 2) (mc := 0) (ms := 0) (host := "") 8 rfl t_X8_add ⟨Or.inl q_11_145, i_X8_add.1, i_X8_add.2⟩ ⟨by decide, rfl⟩ (congrArg Prod.fst (J.1.1 39 (8, 4) rfl)) rfl (by decide) rfl rfl ⟨by decide, by decide⟩ (sf_X8_add_r39 (jr_of rfl (by omega)) (jr_of rfl (by omega)) (jr_of jk_m1 (by omega)) (jr_of jk_0 (by omega)) (jr_of jk_0 (by omega)) (jr_of jk_0 (by omega)) hD J  (fun h J S107 => ?_))
                        have Sm := jSm_tr rfl Sm S107
                        show jX m_X11_join 14 0 0 157 [(0, .ref 31), (1, .int l1), (2, .int l2), (3, .int l3)] [] _ 0 0 _
                        exact jX.sub (jsb_c rfl (jsb_c rfl (jsb_c rfl (jsb_c rfl jsb_n)))) (ct_X11_join_r31_157 hD hQ ih l1 l2 l3 g0 h (jr_of rfl (by omega)) (jr_of rfl (by omega)) (jr_of rfl (by omega)) (jmc S107 rfl (jmc S95 rfl (jmc S6 rfl z0))) (by omega) J Sm)
                      ·
                        refine x_aloadn (x := 87) rfl rfl ?_
                        refine z_getR (N := 14) (b := 88) 3 2 rfl f_3_9 rfl J rfl 11138 ⟨rfl, rfl⟩ rfl ?_
                        refine x_iloadn (x := l3) rfl rfl ?_
                        refine z_ialdM (N := 9) (v := v75) rfl J rfl rfl (by omega) (jmc S95 rfl qv75) ?_
                        refine x_goto (tgt := 22) rfl rfl ?_
                        refine x_iret rfl rfl ?_
                        show jX m_X11_join 14 0 0 151 [(0, .ref 31), (1, .int l1), (2, .int l2), (3, .int l3)] [.int v75, .int v105, .int l1, .ref 39] _ 0 0 _
                        refine x_iconst (v := 0) rfl ki_0 ?_
                        refine x_iconst (v := 0) rfl ki_0 ?_
                        refine x_iconst (v := 0) rfl ki_0 ?_
                        refine x_inv (N := m_X8_add) (As := [.int l1, .int v105, .int v75, .int 0, .int 0, .int 0]) (b := 39) (st := []) (dx9 := 2) (mc := 0) (ms := 0) (host := "") 8 rfl t_X8_add ⟨Or.inl q_11_145, i_X8_add.1, i_X8_add.2⟩ ⟨by decide, rfl⟩ (congrArg Prod.fst (J.1.1 39 (8, 4) rfl)) rfl (by decide) rfl rfl ⟨by decide, by decide⟩ (sf_X8_add_r39 (jr_of rfl (by omega)) (jr_of rfl (by omega)) (jr_of rfl (by omega)) (jr_of jk_0 (by omega)) (jr_of jk_0 (by omega)) (jr_of jk_0 (by omega)) hD J  (fun h J S108 => ?_))
                        have Sm := jSm_tr rfl Sm S108
                        show jX m_X11_join 14 0 0 157 [(0, .ref 31), (1, .int l1), (2, .int l2), (3, .int l3)] [] _ 0 0 _
                        exact jX.sub (jsb_c rfl (jsb_c rfl (jsb_c rfl (jsb_c rfl jsb_n)))) (ct_X11_join_r31_157 hD hQ ih l1 l2 l3 g0 h (jr_of rfl (by omega)) (jr_of rfl (by omega)) (jr_of rfl (by omega)) (jmc S108 rfl (jmc S95 rfl (jmc S6 rfl z0))) (by omega) J Sm)
set_option maxRecDepth 100000 in
set_option maxHeartbeats 4000000 in
theorem ct_X11_join_r31_58 {Dy : jH → Prop} {h0 : jH} {Q : Option Value → jH → Prop} {R33 : Int} (hD : jDk Dy) (hQ : ∀ (v : Int32) hx9, jJ jSgX Dy hx9 → jSm fp_X11_join_r31 h0 hx9 → Q (some (.int v)) hx9) (k33 : ∀ (l1 : Int32) (l2 : Int32) (l3 : Int32) (h : jH), 9 - l3.toInt < R33 → 0 ≤ l1.toInt ∧ l1.toInt ≤ 146399 → 0 ≤ l3.toInt ∧ l3.toInt ≤ 9 → jJ jSgX Dy h → jSm fp_X11_join_r31 h0 h → jX m_X11_join 14 0 0 33 [(0, .ref 31), (1, .int l1), (2, .int l2), (3, .int l3)] [] h 0 0 Q) : ∀ (l1 : Int32) (l2 : Int32) (l3 : Int32) (h : jH), 0 ≤ l1.toInt ∧ l1.toInt ≤ 146399 → 0 ≤ l3.toInt ∧ l3.toInt ≤ 8 → 9 - l3.toInt ≤ R33 → jJ jSgX Dy h → jSm fp_X11_join_r31 h0 h → jX m_X11_join 14 0 0 58 [(0, .ref 31), (1, .int l1), (2, .int l2), (3, .int l3)] [] h 0 0 Q := by
  intro l1 l2 l3 h y0 y1  m33 J Sm
  have el2 := jfull l2
  refine z_iinc (x := l3) (lsx9 := fun v1 => [(3, .int v1), (0, .ref 31), (1, .int l1), (2, .int l2)]) rfl rfl rfl jko_1 (by omega) rfl (fun _ => rfl) (fun v1 ev1 => ?_)
  refine x_goto (tgt := 33) rfl rfl ?_
  exact jX.sub (jsb_c rfl (jsb_c rfl (jsb_c rfl (jsb_c rfl jsb_n)))) (k33 l1 l2 v1 h (by omega) (jr_of rfl (by omega)) (jr_of rfl (by omega)) J Sm)
set_option maxRecDepth 100000 in
set_option maxHeartbeats 4000000 in
theorem ct_X11_join_r31_33 {Dy : jH → Prop} {h0 : jH} {Q : Option Value → jH → Prop} (hD : jDk Dy) (hQ : ∀ (v : Int32) hx9, jJ jSgX Dy hx9 → jSm fp_X11_join_r31 h0 hx9 → Q (some (.int v)) hx9) : ∀ r : Nat, ∀ (l1 : Int32) (l2 : Int32) (l3 : Int32) (h : jH), 9 - l3.toInt < (r : Int) → 0 ≤ l1.toInt ∧ l1.toInt ≤ 146399 → 0 ≤ l3.toInt ∧ l3.toInt ≤ 9 → jJ jSgX Dy h → jSm fp_X11_join_r31 h0 h → jX m_X11_join 14 0 0 33 [(0, .ref 31), (1, .int l1), (2, .int l2), (3, .int l3)] [] h 0 0 Q := by
  intro r
  induction r with
  | zero =>
    intro l1 l2 l3 h hm y0 y1   J Sm
    exfalso
    have el2 := jfull l2
    omega
  | succ r ih =>
    intro l1 l2 l3 h hm y0 y1   J Sm
    have el2 := jfull l2
    refine x_iloadn (x := l3) rfl rfl ?_
    refine x_aloadn (x := 31) rfl rfl ?_
    refine z_getR (N := 13) (b := 87) 11 5 rfl f_11_50 rfl J rfl 3973 ⟨rfl, rfl⟩ rfl ?_
    refine z_getI (N := 14) 3 3 rfl f_11_273 rfl J rfl sg_87_3_4_1_0_1 (fun v1 qv1 ev1 => ?_)
    refine x_icge (tgt := 64) rfl rfl (ti_ge rfl rfl ⟨fun c2 => ?_, fun c2 => ?_⟩)
    ·
      refine x_aloadn (x := 31) rfl rfl ?_
      refine z_getR (N := 13) (b := 32) 11 0 rfl f_11_10 rfl J rfl 3968 ⟨rfl, rfl⟩ rfl ?_
      refine z_getR (N := 20) (b := 39) 1 3 rfl f_11_237 rfl J rfl 4099 ⟨rfl, rfl⟩ rfl ?_
      refine z_getI (N := 4) 8 3 rfl f_11_142 rfl J rfl sg_39_3_4_1_0_1 (fun v3 qv3 ev3 => ?_)
      refine x_iloadn (x := l2) rfl rfl ?_
      refine z_iadd0 rfl (fun v4 => ?_)
      have ev4 := jfull v4
      refine x_aloadn (x := 31) rfl rfl ?_
      refine z_getR (N := 13) (b := 32) 11 0 rfl f_11_10 rfl J rfl 3968 ⟨rfl, rfl⟩ rfl ?_
      refine z_getR (N := 20) (b := 39) 1 3 rfl f_11_237 rfl J rfl 4099 ⟨rfl, rfl⟩ rfl ?_
      refine z_getC (N := 4) (v := 200) 8 1 rfl f_11_303 rfl J rfl sg_39_1_2_1_0_1 jk_200 ?_
      refine x_icle (tgt := 96) rfl rfl (ti_le rfl jk_200 ⟨fun c5 => ?_, fun c5 => ?_⟩)
      ·
        refine x_iconst (v := 0) rfl ki_0 ?_
        refine x_istoren (lsx9 := [(3, .int 0), (0, .ref 31), (1, .int l1), (2, .int l2)]) rfl rfl rfl ?_
        exact jX.sub (jsb_c rfl (jsb_c rfl (jsb_c rfl (jsb_c rfl jsb_n)))) (ct_X11_join_r31_98 hD hQ  10 l1 l2 0 v1 h (by have := jk_0; omega) (jr_of rfl (by omega)) (jr_of jk_0 (by omega)) (jr_of rfl (by omega)) qv1 J Sm)
      ·
        refine x_aloadn (x := 31) rfl rfl ?_
        refine x_bipush (v := (-5)) rfl kb_m5 ?_
        refine x_inv (N := m_X11_refuse) (As := [.int (-5)]) (b := 31) (st := []) (dx9 := 13) (mc := 0) (ms := 0) (host := "") 11 rfl t_X11_refuse ⟨Or.inl q_11_206, i_X11_refuse.1, i_X11_refuse.2⟩ ⟨by decide, rfl⟩ (congrArg Prod.fst (J.1.1 31 (11, 13) rfl)) rfl (by decide) rfl rfl ⟨by decide, by decide⟩ (jC.of rfl k_X11_refuse rfl ?_)
        show jX m_X11_refuse 13 0 0 0 [(0, .ref 31), (1, .int (-5))] [] _ 0 0 _
        refine x_aloadn (x := 31) rfl rfl ?_
        refine x_iloadn (x := (-5)) rfl rfl ?_
        refine z_putI (N := 13) (w := (-5)) 11 12 rfl f_11_94 rfl (jfin_no TX11 RX11 13 rfl rfl) hD J Sm rfl rfl jk_m5 (pw_31_12 (by omega)) rfl (fun h w6 J Sm => ?_)
        refine x_iloadn (x := (-5)) rfl rfl ?_
        refine x_iret rfl rfl ?_
        show jX m_X11_join 14 0 0 95 [(0, .ref 31), (1, .int l1), (2, .int l2), (3, .int l3)] [.int (-5)] _ 0 0 _
        refine x_iret rfl rfl ?_
        exact hQ _ _ J Sm
    ·
      refine x_aloadn (x := 31) rfl rfl ?_
      refine z_getR (N := 13) (b := 87) 11 5 rfl f_11_50 rfl J rfl 3973 ⟨rfl, rfl⟩ rfl ?_
      refine x_iloadn (x := l3) rfl rfl ?_
      refine x_inv (N := m_X3_isNews) (As := [.int l3]) (b := 87) (st := []) (dx9 := 13) (mc := 0) (ms := 0) (host := "") 3 rfl t_X3_isNews ⟨Or.inl q_11_300, i_X3_isNews.1, i_X3_isNews.2⟩ ⟨by decide, rfl⟩ (congrArg Prod.fst (J.1.1 87 (3, 14) rfl)) rfl (by decide) rfl rfl ⟨by decide, by decide⟩ (jC.of rfl k_X3_isNews rfl ?_)
      show jX m_X3_isNews 13 0 0 0 [(0, .ref 87), (1, .int l3)] [] _ 0 0 _
      refine x_aloadn (x := 87) rfl rfl ?_
      refine x_iloadn (x := l3) rfl rfl ?_
      refine x_inv (N := m_X3_aheadOf) (As := [.int l3]) (b := 87) (st := []) (dx9 := 2) (mc := 0) (ms := 0) (host := "") 3 rfl t_X3_aheadOf ⟨Or.inl q_3_61, i_X3_aheadOf.1, i_X3_aheadOf.2⟩ ⟨by decide, rfl⟩ (congrArg Prod.fst (J.1.1 87 (3, 14) rfl)) rfl (by decide) rfl rfl ⟨by decide, by decide⟩ (sf_X3_aheadOf_r87 (jr_of rfl (by omega)) hD J  (fun v8 h ev8 J S7 => ?_))
      have Sm := jSm_tr rfl Sm S7
      show jX m_X3_isNews 13 0 0 5 [(0, .ref 87), (1, .int l3)] [.int v8] _ 0 0 _
      refine x_istoren (lsx9 := [(2, .int v8), (0, .ref 87), (1, .int l3)]) rfl rfl rfl ?_
      refine x_iloadn (x := v8) rfl rfl ?_
      refine x_iconst (v := (-1)) rfl ki_m1 ?_
      refine x_iceq (tgt := 42) rfl rfl (ti_eq rfl jk_m1 ⟨fun c9 => ?_, fun c9 => ?_⟩)
      ·
        refine x_iconst (v := 0) rfl ki_0 ?_
        refine x_zret rfl rfl (by decide) ?_
        show jX m_X11_join 14 0 0 52 [(0, .ref 31), (1, .int l1), (2, .int l2), (3, .int l3)] [.int 0] _ 0 0 _
        refine x_ifeq (tgt := 58) rfl rfl (ti_eq jk_0 jk_0 (br_t (by omega) ?_))
        exact jX.sub (jsb_c rfl (jsb_c rfl (jsb_c rfl (jsb_c rfl jsb_n)))) (ct_X11_join_r31_58 hD hQ ih l1 l2 l3 h (jr_of rfl (by omega)) (jr_of rfl (by omega)) (by omega) J Sm)
      ·
        refine x_aloadn (x := 87) rfl rfl ?_
        refine z_getR (N := 14) (b := 78) 3 1 rfl f_3_53 rfl J rfl 11137 ⟨rfl, rfl⟩ rfl ?_
        refine x_aloadn (x := 87) rfl rfl ?_
        refine x_iloadn (x := v8) rfl rfl ?_
        refine x_inv (N := m_X3_mentionAt) (As := [.int v8]) (b := 87) (st := [.ref 78]) (dx9 := 12) (mc := 0) (ms := 0) (host := "") 3 rfl t_X3_mentionAt ⟨Or.inl q_3_64, i_X3_mentionAt.1, i_X3_mentionAt.2⟩ ⟨by decide, rfl⟩ (congrArg Prod.fst (J.1.1 87 (3, 14) rfl)) rfl (by decide) rfl rfl ⟨by decide, by decide⟩ (jC.of rfl k_X3_mentionAt rfl ?_)
        show jX m_X3_mentionAt 12 0 0 0 [(0, .ref 87), (1, .int v8)] [] _ 0 0 _
        refine x_iloadn (x := v8) rfl rfl ?_
        refine x_iflt (tgt := 21) rfl rfl (ti_lt rfl jk_0 (br_f (by omega) ?_))
        refine x_iloadn (x := v8) rfl rfl ?_
        refine x_aloadn (x := 87) rfl rfl ?_
        refine z_getM (N := 14) (v := v1) 3 3 rfl f_3_15 rfl J rfl (jmc S7 rfl qv1) ?_
        refine x_icge (tgt := 21) rfl rfl (ti_ge rfl rfl ⟨fun c10 => ?_, fun c10 => ?_⟩)
        ·
          refine x_iconst (v := (-1)) rfl ki_m1 ?_
          refine x_iret rfl rfl ?_
          show jX m_X3_isNews 13 0 0 20 [(2, .int v8), (0, .ref 87), (1, .int l3)] [.int (-1), .ref 78] _ 0 0 _
          refine x_inv (N := m_X7_soulAt) (As := [.int (-1)]) (b := 78) (st := []) (dx9 := 12) (mc := 0) (ms := 0) (host := "") 7 rfl t_X7_soulAt ⟨Or.inl q_3_67, i_X7_soulAt.1, i_X7_soulAt.2⟩ ⟨by decide, rfl⟩ (congrArg Prod.fst (J.1.1 78 (7, 16) rfl)) rfl (by decide) rfl rfl ⟨by decide, by decide⟩ (jC.of rfl k_X7_soulAt rfl ?_)
          show jX m_X7_soulAt 12 0 0 0 [(0, .ref 78), (1, .int (-1))] [] _ 0 0 _
          refine x_iloadn (x := (-1)) rfl rfl ?_
          refine x_iflt (tgt := 36) rfl rfl (ti_lt jk_m1 jk_0 (br_t (by omega) ?_))
          refine x_iconst (v := (-1)) rfl ki_m1 ?_
          refine x_iret rfl rfl ?_
          show jX m_X3_isNews 13 0 0 23 [(2, .int v8), (0, .ref 87), (1, .int l3)] [.int (-1)] _ 0 0 _
          refine x_aloadn (x := 87) rfl rfl ?_
          refine z_getR (N := 14) (b := 78) 3 1 rfl f_3_53 rfl J rfl 11137 ⟨rfl, rfl⟩ rfl ?_
          refine x_aloadn (x := 87) rfl rfl ?_
          refine x_iloadn (x := l3) rfl rfl ?_
          refine x_inv (N := m_X3_mentionAt) (As := [.int l3]) (b := 87) (st := [.ref 78, .int (-1)]) (dx9 := 12) (mc := 0) (ms := 0) (host := "") 3 rfl t_X3_mentionAt ⟨Or.inl q_3_64, i_X3_mentionAt.1, i_X3_mentionAt.2⟩ ⟨by decide, rfl⟩ (congrArg Prod.fst (J.1.1 87 (3, 14) rfl)) rfl (by decide) rfl rfl ⟨by decide, by decide⟩ (jC.of rfl k_X3_mentionAt rfl ?_)
          show jX m_X3_mentionAt 12 0 0 0 [(0, .ref 87), (1, .int l3)] [] _ 0 0 _
          refine x_iloadn (x := l3) rfl rfl ?_
          refine x_iflt (tgt := 21) rfl rfl (ti_lt rfl jk_0 (br_f (by omega) ?_))
          refine x_iloadn (x := l3) rfl rfl ?_
          refine x_aloadn (x := 87) rfl rfl ?_
          refine z_getM (N := 14) (v := v1) 3 3 rfl f_3_15 rfl J rfl (jmc S7 rfl qv1) ?_
          refine x_icge (tgt := 21) rfl rfl (ti_ge rfl rfl ⟨fun c11 => ?_, fun c11 => ?_⟩)
          ·
            refine x_iconst (v := (-1)) rfl ki_m1 ?_
            refine x_iret rfl rfl ?_
            show jX m_X3_isNews 13 0 0 32 [(2, .int v8), (0, .ref 87), (1, .int l3)] [.int (-1), .ref 78, .int (-1)] _ 0 0 _
            refine x_inv (N := m_X7_soulAt) (As := [.int (-1)]) (b := 78) (st := [.int (-1)]) (dx9 := 12) (mc := 0) (ms := 0) (host := "") 7 rfl t_X7_soulAt ⟨Or.inl q_3_67, i_X7_soulAt.1, i_X7_soulAt.2⟩ ⟨by decide, rfl⟩ (congrArg Prod.fst (J.1.1 78 (7, 16) rfl)) rfl (by decide) rfl rfl ⟨by decide, by decide⟩ (jC.of rfl k_X7_soulAt rfl ?_)
            show jX m_X7_soulAt 12 0 0 0 [(0, .ref 78), (1, .int (-1))] [] _ 0 0 _
            refine x_iloadn (x := (-1)) rfl rfl ?_
            refine x_iflt (tgt := 36) rfl rfl (ti_lt jk_m1 jk_0 (br_t (by omega) ?_))
            refine x_iconst (v := (-1)) rfl ki_m1 ?_
            refine x_iret rfl rfl ?_
            show jX m_X3_isNews 13 0 0 35 [(2, .int v8), (0, .ref 87), (1, .int l3)] [.int (-1), .int (-1)] _ 0 0 _
            refine x_iceq (tgt := 42) rfl rfl (ti_eq jk_m1 jk_m1 (br_t (by omega) ?_))
            refine x_iconst (v := 0) rfl ki_0 ?_
            refine x_zret rfl rfl (by decide) ?_
            show jX m_X11_join 14 0 0 52 [(0, .ref 31), (1, .int l1), (2, .int l2), (3, .int l3)] [.int 0] _ 0 0 _
            refine x_ifeq (tgt := 58) rfl rfl (ti_eq jk_0 jk_0 (br_t (by omega) ?_))
            exact jX.sub (jsb_c rfl (jsb_c rfl (jsb_c rfl (jsb_c rfl jsb_n)))) (ct_X11_join_r31_58 hD hQ ih l1 l2 l3 h (jr_of rfl (by omega)) (jr_of rfl (by omega)) (by omega) J Sm)
          ·
            refine x_aloadn (x := 87) rfl rfl ?_
            refine z_getR (N := 14) (b := 88) 3 2 rfl f_3_9 rfl J rfl 11138 ⟨rfl, rfl⟩ rfl ?_
            refine x_iloadn (x := l3) rfl rfl ?_
            refine z_iald (N := 9) rfl J rfl sg_88_0_9_1_0_1 rfl (by omega) (fun v12 qv12 ev12 => ?_)
            refine x_goto (tgt := 22) rfl rfl ?_
            refine x_iret rfl rfl ?_
            show jX m_X3_isNews 13 0 0 32 [(2, .int v8), (0, .ref 87), (1, .int l3)] [.int v12, .ref 78, .int (-1)] _ 0 0 _
            refine x_inv (N := m_X7_soulAt) (As := [.int v12]) (b := 78) (st := [.int (-1)]) (dx9 := 12) (mc := 0) (ms := 0) (host := "") 7 rfl t_X7_soulAt ⟨Or.inl q_3_67, i_X7_soulAt.1, i_X7_soulAt.2⟩ ⟨by decide, rfl⟩ (congrArg Prod.fst (J.1.1 78 (7, 16) rfl)) rfl (by decide) rfl rfl ⟨by decide, by decide⟩ (jC.of rfl k_X7_soulAt rfl ?_)
            show jX m_X7_soulAt 12 0 0 0 [(0, .ref 78), (1, .int v12)] [] _ 0 0 _
            refine x_iloadn (x := v12) rfl rfl ?_
            refine x_iflt (tgt := 36) rfl rfl (ti_lt rfl jk_0 (br_f (by omega) ?_))
            refine x_iloadn (x := v12) rfl rfl ?_
            refine x_sipush (v := 600) rfl ks_600 ?_
            refine x_icge (tgt := 36) rfl rfl (ti_ge rfl jk_600 (br_f (by omega) ?_))
            refine x_iloadn (x := v12) rfl rfl ?_
            refine x_iconst (v := 3) rfl ki_3 ?_
            refine z_idiv rfl rfl jk_3 (by omega) (by omega) (fun v13 ev13 => ?_)
            refine x_aloadn (x := 78) rfl rfl ?_
            refine z_getR (N := 16) (b := 32) 7 0 rfl f_7_55 rfl J rfl 9984 ⟨rfl, rfl⟩ rfl ?_
            refine z_getR (N := 20) (b := 33) 1 0 rfl f_7_63 rfl J rfl 4096 ⟨rfl, rfl⟩ rfl ?_
            refine z_getI (N := 4) 8 3 rfl f_7_85 rfl J rfl sg_33_3_4_1_0_1 (fun v14 qv14 ev14 => ?_)
            refine x_icge (tgt := 36) rfl rfl (ti_ge rfl rfl ⟨fun c15 => ?_, fun c15 => ?_⟩)
            ·
              refine x_iconst (v := (-1)) rfl ki_m1 ?_
              refine x_iret rfl rfl ?_
              show jX m_X3_isNews 13 0 0 35 [(2, .int v8), (0, .ref 87), (1, .int l3)] [.int (-1), .int (-1)] _ 0 0 _
              refine x_iceq (tgt := 42) rfl rfl (ti_eq jk_m1 jk_m1 (br_t (by omega) ?_))
              refine x_iconst (v := 0) rfl ki_0 ?_
              refine x_zret rfl rfl (by decide) ?_
              show jX m_X11_join 14 0 0 52 [(0, .ref 31), (1, .int l1), (2, .int l2), (3, .int l3)] [.int 0] _ 0 0 _
              refine x_ifeq (tgt := 58) rfl rfl (ti_eq jk_0 jk_0 (br_t (by omega) ?_))
              exact jX.sub (jsb_c rfl (jsb_c rfl (jsb_c rfl (jsb_c rfl jsb_n)))) (ct_X11_join_r31_58 hD hQ ih l1 l2 l3 h (jr_of rfl (by omega)) (jr_of rfl (by omega)) (by omega) J Sm)
            ·
              refine x_aloadn (x := 78) rfl rfl ?_
              refine z_getR (N := 16) (b := 82) 7 10 rfl f_7_37 rfl J rfl 9994 ⟨rfl, rfl⟩ rfl ?_
              refine x_iloadn (x := v12) rfl rfl ?_
              refine z_iald (N := 600) rfl J rfl sg_82_0_600_1_0_1 rfl (by omega) (fun v16 qv16 ev16 => ?_)
              refine x_goto (tgt := 37) rfl rfl ?_
              refine x_iret rfl rfl ?_
              show jX m_X3_isNews 13 0 0 35 [(2, .int v8), (0, .ref 87), (1, .int l3)] [.int v16, .int (-1)] _ 0 0 _
              refine x_iceq (tgt := 42) rfl rfl (ti_eq jk_m1 rfl ⟨fun c17 => ?_, fun c17 => ?_⟩)
              ·
                refine x_iconst (v := 0) rfl ki_0 ?_
                refine x_zret rfl rfl (by decide) ?_
                show jX m_X11_join 14 0 0 52 [(0, .ref 31), (1, .int l1), (2, .int l2), (3, .int l3)] [.int 0] _ 0 0 _
                refine x_ifeq (tgt := 58) rfl rfl (ti_eq jk_0 jk_0 (br_t (by omega) ?_))
                exact jX.sub (jsb_c rfl (jsb_c rfl (jsb_c rfl (jsb_c rfl jsb_n)))) (ct_X11_join_r31_58 hD hQ ih l1 l2 l3 h (jr_of rfl (by omega)) (jr_of rfl (by omega)) (by omega) J Sm)
              ·
                refine x_iconst (v := 1) rfl ki_1 ?_
                refine x_goto (tgt := 43) rfl rfl ?_
                refine x_zret rfl rfl (by decide) ?_
                show jX m_X11_join 14 0 0 52 [(0, .ref 31), (1, .int l1), (2, .int l2), (3, .int l3)] [.int 1] _ 0 0 _
                refine x_ifeq (tgt := 58) rfl rfl (ti_eq jk_1 jk_0 (br_f (by omega) ?_))
                refine z_iinc0 (x := l2) (lsx9 := fun v18 => [(2, .int v18), (0, .ref 31), (1, .int l1), (3, .int l3)]) rfl rfl rfl (fun _ => rfl) (fun v18 => ?_)
                have ev18 := jfull v18
                exact jX.sub (jsb_c rfl (jsb_c rfl (jsb_c rfl (jsb_c rfl jsb_n)))) (ct_X11_join_r31_58 hD hQ ih l1 v18 l3 h (jr_of rfl (by omega)) (jr_of rfl (by omega)) (by omega) J Sm)
        ·
          refine x_aloadn (x := 87) rfl rfl ?_
          refine z_getR (N := 14) (b := 88) 3 2 rfl f_3_9 rfl J rfl 11138 ⟨rfl, rfl⟩ rfl ?_
          refine x_iloadn (x := v8) rfl rfl ?_
          refine z_iald (N := 9) rfl J rfl sg_88_0_9_1_0_1 rfl (by omega) (fun v19 qv19 ev19 => ?_)
          refine x_goto (tgt := 22) rfl rfl ?_
          refine x_iret rfl rfl ?_
          show jX m_X3_isNews 13 0 0 20 [(2, .int v8), (0, .ref 87), (1, .int l3)] [.int v19, .ref 78] _ 0 0 _
          refine x_inv (N := m_X7_soulAt) (As := [.int v19]) (b := 78) (st := []) (dx9 := 12) (mc := 0) (ms := 0) (host := "") 7 rfl t_X7_soulAt ⟨Or.inl q_3_67, i_X7_soulAt.1, i_X7_soulAt.2⟩ ⟨by decide, rfl⟩ (congrArg Prod.fst (J.1.1 78 (7, 16) rfl)) rfl (by decide) rfl rfl ⟨by decide, by decide⟩ (jC.of rfl k_X7_soulAt rfl ?_)
          show jX m_X7_soulAt 12 0 0 0 [(0, .ref 78), (1, .int v19)] [] _ 0 0 _
          refine x_iloadn (x := v19) rfl rfl ?_
          refine x_iflt (tgt := 36) rfl rfl (ti_lt rfl jk_0 (br_f (by omega) ?_))
          refine x_iloadn (x := v19) rfl rfl ?_
          refine x_sipush (v := 600) rfl ks_600 ?_
          refine x_icge (tgt := 36) rfl rfl (ti_ge rfl jk_600 (br_f (by omega) ?_))
          refine x_iloadn (x := v19) rfl rfl ?_
          refine x_iconst (v := 3) rfl ki_3 ?_
          refine z_idiv rfl rfl jk_3 (by omega) (by omega) (fun v20 ev20 => ?_)
          refine x_aloadn (x := 78) rfl rfl ?_
          refine z_getR (N := 16) (b := 32) 7 0 rfl f_7_55 rfl J rfl 9984 ⟨rfl, rfl⟩ rfl ?_
          refine z_getR (N := 20) (b := 33) 1 0 rfl f_7_63 rfl J rfl 4096 ⟨rfl, rfl⟩ rfl ?_
          refine z_getI (N := 4) 8 3 rfl f_7_85 rfl J rfl sg_33_3_4_1_0_1 (fun v21 qv21 ev21 => ?_)
          refine x_icge (tgt := 36) rfl rfl (ti_ge rfl rfl ⟨fun c22 => ?_, fun c22 => ?_⟩)
          ·
            refine x_iconst (v := (-1)) rfl ki_m1 ?_
            refine x_iret rfl rfl ?_
            show jX m_X3_isNews 13 0 0 23 [(2, .int v8), (0, .ref 87), (1, .int l3)] [.int (-1)] _ 0 0 _
            refine x_aloadn (x := 87) rfl rfl ?_
            refine z_getR (N := 14) (b := 78) 3 1 rfl f_3_53 rfl J rfl 11137 ⟨rfl, rfl⟩ rfl ?_
            refine x_aloadn (x := 87) rfl rfl ?_
            refine x_iloadn (x := l3) rfl rfl ?_
            refine x_inv (N := m_X3_mentionAt) (As := [.int l3]) (b := 87) (st := [.ref 78, .int (-1)]) (dx9 := 12) (mc := 0) (ms := 0) (host := "") 3 rfl t_X3_mentionAt ⟨Or.inl q_3_64, i_X3_mentionAt.1, i_X3_mentionAt.2⟩ ⟨by decide, rfl⟩ (congrArg Prod.fst (J.1.1 87 (3, 14) rfl)) rfl (by decide) rfl rfl ⟨by decide, by decide⟩ (jC.of rfl k_X3_mentionAt rfl ?_)
            show jX m_X3_mentionAt 12 0 0 0 [(0, .ref 87), (1, .int l3)] [] _ 0 0 _
            refine x_iloadn (x := l3) rfl rfl ?_
            refine x_iflt (tgt := 21) rfl rfl (ti_lt rfl jk_0 (br_f (by omega) ?_))
            refine x_iloadn (x := l3) rfl rfl ?_
            refine x_aloadn (x := 87) rfl rfl ?_
            refine z_getM (N := 14) (v := v1) 3 3 rfl f_3_15 rfl J rfl (jmc S7 rfl qv1) ?_
            refine x_icge (tgt := 21) rfl rfl (ti_ge rfl rfl ⟨fun c23 => ?_, fun c23 => ?_⟩)
            ·
              refine x_iconst (v := (-1)) rfl ki_m1 ?_
              refine x_iret rfl rfl ?_
              show jX m_X3_isNews 13 0 0 32 [(2, .int v8), (0, .ref 87), (1, .int l3)] [.int (-1), .ref 78, .int (-1)] _ 0 0 _
              refine x_inv (N := m_X7_soulAt) (As := [.int (-1)]) (b := 78) (st := [.int (-1)]) (dx9 := 12) (mc := 0) (ms := 0) (host := "") 7 rfl t_X7_soulAt ⟨Or.inl q_3_67, i_X7_soulAt.1, i_X7_soulAt.2⟩ ⟨by decide, rfl⟩ (congrArg Prod.fst (J.1.1 78 (7, 16) rfl)) rfl (by decide) rfl rfl ⟨by decide, by decide⟩ (jC.of rfl k_X7_soulAt rfl ?_)
              show jX m_X7_soulAt 12 0 0 0 [(0, .ref 78), (1, .int (-1))] [] _ 0 0 _
              refine x_iloadn (x := (-1)) rfl rfl ?_
              refine x_iflt (tgt := 36) rfl rfl (ti_lt jk_m1 jk_0 (br_t (by omega) ?_))
              refine x_iconst (v := (-1)) rfl ki_m1 ?_
              refine x_iret rfl rfl ?_
              show jX m_X3_isNews 13 0 0 35 [(2, .int v8), (0, .ref 87), (1, .int l3)] [.int (-1), .int (-1)] _ 0 0 _
              refine x_iceq (tgt := 42) rfl rfl (ti_eq jk_m1 jk_m1 (br_t (by omega) ?_))
              refine x_iconst (v := 0) rfl ki_0 ?_
              refine x_zret rfl rfl (by decide) ?_
              show jX m_X11_join 14 0 0 52 [(0, .ref 31), (1, .int l1), (2, .int l2), (3, .int l3)] [.int 0] _ 0 0 _
              refine x_ifeq (tgt := 58) rfl rfl (ti_eq jk_0 jk_0 (br_t (by omega) ?_))
              exact jX.sub (jsb_c rfl (jsb_c rfl (jsb_c rfl (jsb_c rfl jsb_n)))) (ct_X11_join_r31_58 hD hQ ih l1 l2 l3 h (jr_of rfl (by omega)) (jr_of rfl (by omega)) (by omega) J Sm)
            ·
              refine x_aloadn (x := 87) rfl rfl ?_
              refine z_getR (N := 14) (b := 88) 3 2 rfl f_3_9 rfl J rfl 11138 ⟨rfl, rfl⟩ rfl ?_
              refine x_iloadn (x := l3) rfl rfl ?_
              refine z_iald (N := 9) rfl J rfl sg_88_0_9_1_0_1 rfl (by omega) (fun v24 qv24 ev24 => ?_)
              refine x_goto (tgt := 22) rfl rfl ?_
              refine x_iret rfl rfl ?_
              show jX m_X3_isNews 13 0 0 32 [(2, .int v8), (0, .ref 87), (1, .int l3)] [.int v24, .ref 78, .int (-1)] _ 0 0 _
              refine x_inv (N := m_X7_soulAt) (As := [.int v24]) (b := 78) (st := [.int (-1)]) (dx9 := 12) (mc := 0) (ms := 0) (host := "") 7 rfl t_X7_soulAt ⟨Or.inl q_3_67, i_X7_soulAt.1, i_X7_soulAt.2⟩ ⟨by decide, rfl⟩ (congrArg Prod.fst (J.1.1 78 (7, 16) rfl)) rfl (by decide) rfl rfl ⟨by decide, by decide⟩ (jC.of rfl k_X7_soulAt rfl ?_)
              show jX m_X7_soulAt 12 0 0 0 [(0, .ref 78), (1, .int v24)] [] _ 0 0 _
              refine x_iloadn (x := v24) rfl rfl ?_
              refine x_iflt (tgt := 36) rfl rfl (ti_lt rfl jk_0 (br_f (by omega) ?_))
              refine x_iloadn (x := v24) rfl rfl ?_
              refine x_sipush (v := 600) rfl ks_600 ?_
              refine x_icge (tgt := 36) rfl rfl (ti_ge rfl jk_600 (br_f (by omega) ?_))
              refine x_iloadn (x := v24) rfl rfl ?_
              refine x_iconst (v := 3) rfl ki_3 ?_
              refine z_idiv rfl rfl jk_3 (by omega) (by omega) (fun v25 ev25 => ?_)
              refine x_aloadn (x := 78) rfl rfl ?_
              refine z_getR (N := 16) (b := 32) 7 0 rfl f_7_55 rfl J rfl 9984 ⟨rfl, rfl⟩ rfl ?_
              refine z_getR (N := 20) (b := 33) 1 0 rfl f_7_63 rfl J rfl 4096 ⟨rfl, rfl⟩ rfl ?_
              refine z_getM (N := 4) (v := v21) 8 3 rfl f_7_85 rfl J rfl qv21 ?_
              refine x_icge (tgt := 36) rfl rfl (ti_ge rfl rfl ⟨fun c26 => ?_, fun c26 => ?_⟩)
              ·
                refine x_iconst (v := (-1)) rfl ki_m1 ?_
                refine x_iret rfl rfl ?_
                show jX m_X3_isNews 13 0 0 35 [(2, .int v8), (0, .ref 87), (1, .int l3)] [.int (-1), .int (-1)] _ 0 0 _
                refine x_iceq (tgt := 42) rfl rfl (ti_eq jk_m1 jk_m1 (br_t (by omega) ?_))
                refine x_iconst (v := 0) rfl ki_0 ?_
                refine x_zret rfl rfl (by decide) ?_
                show jX m_X11_join 14 0 0 52 [(0, .ref 31), (1, .int l1), (2, .int l2), (3, .int l3)] [.int 0] _ 0 0 _
                refine x_ifeq (tgt := 58) rfl rfl (ti_eq jk_0 jk_0 (br_t (by omega) ?_))
                exact jX.sub (jsb_c rfl (jsb_c rfl (jsb_c rfl (jsb_c rfl jsb_n)))) (ct_X11_join_r31_58 hD hQ ih l1 l2 l3 h (jr_of rfl (by omega)) (jr_of rfl (by omega)) (by omega) J Sm)
              ·
                refine x_aloadn (x := 78) rfl rfl ?_
                refine z_getR (N := 16) (b := 82) 7 10 rfl f_7_37 rfl J rfl 9994 ⟨rfl, rfl⟩ rfl ?_
                refine x_iloadn (x := v24) rfl rfl ?_
                refine z_iald (N := 600) rfl J rfl sg_82_0_600_1_0_1 rfl (by omega) (fun v27 qv27 ev27 => ?_)
                refine x_goto (tgt := 37) rfl rfl ?_
                refine x_iret rfl rfl ?_
                show jX m_X3_isNews 13 0 0 35 [(2, .int v8), (0, .ref 87), (1, .int l3)] [.int v27, .int (-1)] _ 0 0 _
                refine x_iceq (tgt := 42) rfl rfl (ti_eq jk_m1 rfl ⟨fun c28 => ?_, fun c28 => ?_⟩)
                ·
                  refine x_iconst (v := 0) rfl ki_0 ?_
                  refine x_zret rfl rfl (by decide) ?_
                  show jX m_X11_join 14 0 0 52 [(0, .ref 31), (1, .int l1), (2, .int l2), (3, .int l3)] [.int 0] _ 0 0 _
                  refine x_ifeq (tgt := 58) rfl rfl (ti_eq jk_0 jk_0 (br_t (by omega) ?_))
                  exact jX.sub (jsb_c rfl (jsb_c rfl (jsb_c rfl (jsb_c rfl jsb_n)))) (ct_X11_join_r31_58 hD hQ ih l1 l2 l3 h (jr_of rfl (by omega)) (jr_of rfl (by omega)) (by omega) J Sm)
                ·
                  refine x_iconst (v := 1) rfl ki_1 ?_
                  refine x_goto (tgt := 43) rfl rfl ?_
                  refine x_zret rfl rfl (by decide) ?_
                  show jX m_X11_join 14 0 0 52 [(0, .ref 31), (1, .int l1), (2, .int l2), (3, .int l3)] [.int 1] _ 0 0 _
                  refine x_ifeq (tgt := 58) rfl rfl (ti_eq jk_1 jk_0 (br_f (by omega) ?_))
                  refine z_iinc0 (x := l2) (lsx9 := fun v29 => [(2, .int v29), (0, .ref 31), (1, .int l1), (3, .int l3)]) rfl rfl rfl (fun _ => rfl) (fun v29 => ?_)
                  have ev29 := jfull v29
                  exact jX.sub (jsb_c rfl (jsb_c rfl (jsb_c rfl (jsb_c rfl jsb_n)))) (ct_X11_join_r31_58 hD hQ ih l1 v29 l3 h (jr_of rfl (by omega)) (jr_of rfl (by omega)) (by omega) J Sm)
          ·
            refine x_aloadn (x := 78) rfl rfl ?_
            refine z_getR (N := 16) (b := 82) 7 10 rfl f_7_37 rfl J rfl 9994 ⟨rfl, rfl⟩ rfl ?_
            refine x_iloadn (x := v19) rfl rfl ?_
            refine z_iald (N := 600) rfl J rfl sg_82_0_600_1_0_1 rfl (by omega) (fun v30 qv30 ev30 => ?_)
            refine x_goto (tgt := 37) rfl rfl ?_
            refine x_iret rfl rfl ?_
            show jX m_X3_isNews 13 0 0 23 [(2, .int v8), (0, .ref 87), (1, .int l3)] [.int v30] _ 0 0 _
            refine x_aloadn (x := 87) rfl rfl ?_
            refine z_getR (N := 14) (b := 78) 3 1 rfl f_3_53 rfl J rfl 11137 ⟨rfl, rfl⟩ rfl ?_
            refine x_aloadn (x := 87) rfl rfl ?_
            refine x_iloadn (x := l3) rfl rfl ?_
            refine x_inv (N := m_X3_mentionAt) (As := [.int l3]) (b := 87) (st := [.ref 78, .int v30]) (dx9 := 12) (mc := 0) (ms := 0) (host := "") 3 rfl t_X3_mentionAt ⟨Or.inl q_3_64, i_X3_mentionAt.1, i_X3_mentionAt.2⟩ ⟨by decide, rfl⟩ (congrArg Prod.fst (J.1.1 87 (3, 14) rfl)) rfl (by decide) rfl rfl ⟨by decide, by decide⟩ (jC.of rfl k_X3_mentionAt rfl ?_)
            show jX m_X3_mentionAt 12 0 0 0 [(0, .ref 87), (1, .int l3)] [] _ 0 0 _
            refine x_iloadn (x := l3) rfl rfl ?_
            refine x_iflt (tgt := 21) rfl rfl (ti_lt rfl jk_0 (br_f (by omega) ?_))
            refine x_iloadn (x := l3) rfl rfl ?_
            refine x_aloadn (x := 87) rfl rfl ?_
            refine z_getM (N := 14) (v := v1) 3 3 rfl f_3_15 rfl J rfl (jmc S7 rfl qv1) ?_
            refine x_icge (tgt := 21) rfl rfl (ti_ge rfl rfl ⟨fun c31 => ?_, fun c31 => ?_⟩)
            ·
              refine x_iconst (v := (-1)) rfl ki_m1 ?_
              refine x_iret rfl rfl ?_
              show jX m_X3_isNews 13 0 0 32 [(2, .int v8), (0, .ref 87), (1, .int l3)] [.int (-1), .ref 78, .int v30] _ 0 0 _
              refine x_inv (N := m_X7_soulAt) (As := [.int (-1)]) (b := 78) (st := [.int v30]) (dx9 := 12) (mc := 0) (ms := 0) (host := "") 7 rfl t_X7_soulAt ⟨Or.inl q_3_67, i_X7_soulAt.1, i_X7_soulAt.2⟩ ⟨by decide, rfl⟩ (congrArg Prod.fst (J.1.1 78 (7, 16) rfl)) rfl (by decide) rfl rfl ⟨by decide, by decide⟩ (jC.of rfl k_X7_soulAt rfl ?_)
              show jX m_X7_soulAt 12 0 0 0 [(0, .ref 78), (1, .int (-1))] [] _ 0 0 _
              refine x_iloadn (x := (-1)) rfl rfl ?_
              refine x_iflt (tgt := 36) rfl rfl (ti_lt jk_m1 jk_0 (br_t (by omega) ?_))
              refine x_iconst (v := (-1)) rfl ki_m1 ?_
              refine x_iret rfl rfl ?_
              show jX m_X3_isNews 13 0 0 35 [(2, .int v8), (0, .ref 87), (1, .int l3)] [.int (-1), .int v30] _ 0 0 _
              refine x_iceq (tgt := 42) rfl rfl (ti_eq rfl jk_m1 ⟨fun c32 => ?_, fun c32 => ?_⟩)
              ·
                refine x_iconst (v := 0) rfl ki_0 ?_
                refine x_zret rfl rfl (by decide) ?_
                show jX m_X11_join 14 0 0 52 [(0, .ref 31), (1, .int l1), (2, .int l2), (3, .int l3)] [.int 0] _ 0 0 _
                refine x_ifeq (tgt := 58) rfl rfl (ti_eq jk_0 jk_0 (br_t (by omega) ?_))
                exact jX.sub (jsb_c rfl (jsb_c rfl (jsb_c rfl (jsb_c rfl jsb_n)))) (ct_X11_join_r31_58 hD hQ ih l1 l2 l3 h (jr_of rfl (by omega)) (jr_of rfl (by omega)) (by omega) J Sm)
              ·
                refine x_iconst (v := 1) rfl ki_1 ?_
                refine x_goto (tgt := 43) rfl rfl ?_
                refine x_zret rfl rfl (by decide) ?_
                show jX m_X11_join 14 0 0 52 [(0, .ref 31), (1, .int l1), (2, .int l2), (3, .int l3)] [.int 1] _ 0 0 _
                refine x_ifeq (tgt := 58) rfl rfl (ti_eq jk_1 jk_0 (br_f (by omega) ?_))
                refine z_iinc0 (x := l2) (lsx9 := fun v33 => [(2, .int v33), (0, .ref 31), (1, .int l1), (3, .int l3)]) rfl rfl rfl (fun _ => rfl) (fun v33 => ?_)
                have ev33 := jfull v33
                exact jX.sub (jsb_c rfl (jsb_c rfl (jsb_c rfl (jsb_c rfl jsb_n)))) (ct_X11_join_r31_58 hD hQ ih l1 v33 l3 h (jr_of rfl (by omega)) (jr_of rfl (by omega)) (by omega) J Sm)
            ·
              refine x_aloadn (x := 87) rfl rfl ?_
              refine z_getR (N := 14) (b := 88) 3 2 rfl f_3_9 rfl J rfl 11138 ⟨rfl, rfl⟩ rfl ?_
              refine x_iloadn (x := l3) rfl rfl ?_
              refine z_iald (N := 9) rfl J rfl sg_88_0_9_1_0_1 rfl (by omega) (fun v34 qv34 ev34 => ?_)
              refine x_goto (tgt := 22) rfl rfl ?_
              refine x_iret rfl rfl ?_
              show jX m_X3_isNews 13 0 0 32 [(2, .int v8), (0, .ref 87), (1, .int l3)] [.int v34, .ref 78, .int v30] _ 0 0 _
              refine x_inv (N := m_X7_soulAt) (As := [.int v34]) (b := 78) (st := [.int v30]) (dx9 := 12) (mc := 0) (ms := 0) (host := "") 7 rfl t_X7_soulAt ⟨Or.inl q_3_67, i_X7_soulAt.1, i_X7_soulAt.2⟩ ⟨by decide, rfl⟩ (congrArg Prod.fst (J.1.1 78 (7, 16) rfl)) rfl (by decide) rfl rfl ⟨by decide, by decide⟩ (jC.of rfl k_X7_soulAt rfl ?_)
              show jX m_X7_soulAt 12 0 0 0 [(0, .ref 78), (1, .int v34)] [] _ 0 0 _
              refine x_iloadn (x := v34) rfl rfl ?_
              refine x_iflt (tgt := 36) rfl rfl (ti_lt rfl jk_0 (br_f (by omega) ?_))
              refine x_iloadn (x := v34) rfl rfl ?_
              refine x_sipush (v := 600) rfl ks_600 ?_
              refine x_icge (tgt := 36) rfl rfl (ti_ge rfl jk_600 (br_f (by omega) ?_))
              refine x_iloadn (x := v34) rfl rfl ?_
              refine x_iconst (v := 3) rfl ki_3 ?_
              refine z_idiv rfl rfl jk_3 (by omega) (by omega) (fun v35 ev35 => ?_)
              refine x_aloadn (x := 78) rfl rfl ?_
              refine z_getR (N := 16) (b := 32) 7 0 rfl f_7_55 rfl J rfl 9984 ⟨rfl, rfl⟩ rfl ?_
              refine z_getR (N := 20) (b := 33) 1 0 rfl f_7_63 rfl J rfl 4096 ⟨rfl, rfl⟩ rfl ?_
              refine z_getM (N := 4) (v := v21) 8 3 rfl f_7_85 rfl J rfl qv21 ?_
              refine x_icge (tgt := 36) rfl rfl (ti_ge rfl rfl ⟨fun c36 => ?_, fun c36 => ?_⟩)
              ·
                refine x_iconst (v := (-1)) rfl ki_m1 ?_
                refine x_iret rfl rfl ?_
                show jX m_X3_isNews 13 0 0 35 [(2, .int v8), (0, .ref 87), (1, .int l3)] [.int (-1), .int v30] _ 0 0 _
                refine x_iceq (tgt := 42) rfl rfl (ti_eq rfl jk_m1 ⟨fun c37 => ?_, fun c37 => ?_⟩)
                ·
                  refine x_iconst (v := 0) rfl ki_0 ?_
                  refine x_zret rfl rfl (by decide) ?_
                  show jX m_X11_join 14 0 0 52 [(0, .ref 31), (1, .int l1), (2, .int l2), (3, .int l3)] [.int 0] _ 0 0 _
                  refine x_ifeq (tgt := 58) rfl rfl (ti_eq jk_0 jk_0 (br_t (by omega) ?_))
                  exact jX.sub (jsb_c rfl (jsb_c rfl (jsb_c rfl (jsb_c rfl jsb_n)))) (ct_X11_join_r31_58 hD hQ ih l1 l2 l3 h (jr_of rfl (by omega)) (jr_of rfl (by omega)) (by omega) J Sm)
                ·
                  refine x_iconst (v := 1) rfl ki_1 ?_
                  refine x_goto (tgt := 43) rfl rfl ?_
                  refine x_zret rfl rfl (by decide) ?_
                  show jX m_X11_join 14 0 0 52 [(0, .ref 31), (1, .int l1), (2, .int l2), (3, .int l3)] [.int 1] _ 0 0 _
                  refine x_ifeq (tgt := 58) rfl rfl (ti_eq jk_1 jk_0 (br_f (by omega) ?_))
                  refine z_iinc0 (x := l2) (lsx9 := fun v38 => [(2, .int v38), (0, .ref 31), (1, .int l1), (3, .int l3)]) rfl rfl rfl (fun _ => rfl) (fun v38 => ?_)
                  have ev38 := jfull v38
                  exact jX.sub (jsb_c rfl (jsb_c rfl (jsb_c rfl (jsb_c rfl jsb_n)))) (ct_X11_join_r31_58 hD hQ ih l1 v38 l3 h (jr_of rfl (by omega)) (jr_of rfl (by omega)) (by omega) J Sm)
              ·
                refine x_aloadn (x := 78) rfl rfl ?_
                refine z_getR (N := 16) (b := 82) 7 10 rfl f_7_37 rfl J rfl 9994 ⟨rfl, rfl⟩ rfl ?_
                refine x_iloadn (x := v34) rfl rfl ?_
                refine z_iald (N := 600) rfl J rfl sg_82_0_600_1_0_1 rfl (by omega) (fun v39 qv39 ev39 => ?_)
                refine x_goto (tgt := 37) rfl rfl ?_
                refine x_iret rfl rfl ?_
                show jX m_X3_isNews 13 0 0 35 [(2, .int v8), (0, .ref 87), (1, .int l3)] [.int v39, .int v30] _ 0 0 _
                refine x_iceq (tgt := 42) rfl rfl (ti_eq rfl rfl ⟨fun c40 => ?_, fun c40 => ?_⟩)
                ·
                  refine x_iconst (v := 0) rfl ki_0 ?_
                  refine x_zret rfl rfl (by decide) ?_
                  show jX m_X11_join 14 0 0 52 [(0, .ref 31), (1, .int l1), (2, .int l2), (3, .int l3)] [.int 0] _ 0 0 _
                  refine x_ifeq (tgt := 58) rfl rfl (ti_eq jk_0 jk_0 (br_t (by omega) ?_))
                  exact jX.sub (jsb_c rfl (jsb_c rfl (jsb_c rfl (jsb_c rfl jsb_n)))) (ct_X11_join_r31_58 hD hQ ih l1 l2 l3 h (jr_of rfl (by omega)) (jr_of rfl (by omega)) (by omega) J Sm)
                ·
                  refine x_iconst (v := 1) rfl ki_1 ?_
                  refine x_goto (tgt := 43) rfl rfl ?_
                  refine x_zret rfl rfl (by decide) ?_
                  show jX m_X11_join 14 0 0 52 [(0, .ref 31), (1, .int l1), (2, .int l2), (3, .int l3)] [.int 1] _ 0 0 _
                  refine x_ifeq (tgt := 58) rfl rfl (ti_eq jk_1 jk_0 (br_f (by omega) ?_))
                  refine z_iinc0 (x := l2) (lsx9 := fun v41 => [(2, .int v41), (0, .ref 31), (1, .int l1), (3, .int l3)]) rfl rfl rfl (fun _ => rfl) (fun v41 => ?_)
                  have ev41 := jfull v41
                  exact jX.sub (jsb_c rfl (jsb_c rfl (jsb_c rfl (jsb_c rfl jsb_n)))) (ct_X11_join_r31_58 hD hQ ih l1 v41 l3 h (jr_of rfl (by omega)) (jr_of rfl (by omega)) (by omega) J Sm)
set_option maxRecDepth 100000 in
set_option maxHeartbeats 4000000 in
theorem sf_X11_join_r31 {Dy : jH → Prop} {h : jH} {Q : Option Value → jH → Prop} {a1 : Int32} (hD : jDk Dy) (J : jJ jSgX Dy h) (hQ : ∀ (v : Int32) hx9, jJ jSgX Dy hx9 → jSm fp_X11_join_r31 h hx9 → Q (some (.int v)) hx9) : jC m_X11_join 14 0 0 [.ref 31, .int a1] h Q := by
  refine jC.of rfl k_X11_join rfl ?_
  have Sm := jSm_rf fp_X11_join_r31 h
  have ea1 := jfull a1
  show jX m_X11_join 14 0 0 0 [(0, .ref 31), (1, .int a1)] [] _ 0 0 _
  refine x_iloadn (x := a1) rfl rfl ?_
  refine x_inst (N := m_X11_isDay) (As := [.int a1]) (st := []) (dx9 := 1) (mc := 0) (ms := 0) (host := "") rfl t_X11_isDay ⟨Or.inl q_11_115, s_X11_isDay⟩ rfl (by decide) rfl rfl ⟨by decide, by decide⟩ (zc_X11_isDay rfl (fun v1 ev1 => ?_))
  show jX m_X11_join 14 0 0 4 [(0, .ref 31), (1, .int a1)] [.int v1] _ 0 0 _
  refine x_ifne (tgt := 13) rfl rfl (ti_ne rfl jk_0 ⟨fun c2 => ?_, fun c2 => ?_⟩)
  ·
    refine x_aloadn (x := 31) rfl rfl ?_
    refine z_getR (N := 13) (b := 78) 11 4 rfl f_11_41 rfl J rfl 3972 ⟨rfl, rfl⟩ rfl ?_
    refine x_ldc (v := 146399) rfl z_11_233 ?_
    refine x_inv (N := m_X7_asKnown) (As := [.int 146399]) (b := 78) (st := []) (dx9 := 6) (mc := 0) (ms := 0) (host := "") 7 rfl t_X7_asKnown ⟨Or.inl q_11_240, i_X7_asKnown.1, i_X7_asKnown.2⟩ ⟨by decide, rfl⟩ (congrArg Prod.fst (J.1.1 78 (7, 16) rfl)) rfl (by decide) rfl rfl ⟨by decide, by decide⟩ (sf_X7_asKnown_r78 (jr_of jk_146399 (by omega)) hD J  (fun h J S3 => ?_))
    have Sm := jSm_tr rfl Sm S3
    show jX m_X11_join 14 0 0 22 [(0, .ref 31), (1, .int a1)] [] _ 0 0 _
    refine x_aloadn (x := 31) rfl rfl ?_
    refine z_getR (N := 13) (b := 87) 11 5 rfl f_11_50 rfl J rfl 3973 ⟨rfl, rfl⟩ rfl ?_
    refine x_inv (N := m_X3_settle) (As := []) (b := 87) (st := []) (dx9 := 13) (mc := 0) (ms := 0) (host := "") 3 rfl t_X3_settle ⟨Or.inl q_11_282, i_X3_settle.1, i_X3_settle.2⟩ ⟨by decide, rfl⟩ (congrArg Prod.fst (J.1.1 87 (3, 14) rfl)) rfl (by decide) rfl rfl ⟨by decide, by decide⟩ (sf_X3_settle_r87  hD J  (fun h J S4 => ?_))
    have Sm := jSm_tr rfl Sm S4
    show jX m_X11_join 14 0 0 29 [(0, .ref 31), (1, .int a1)] [] _ 0 0 _
    refine x_iconst (v := 0) rfl ki_0 ?_
    refine x_istoren (lsx9 := [(2, .int 0), (0, .ref 31), (1, .int a1)]) rfl rfl rfl ?_
    refine x_iconst (v := 0) rfl ki_0 ?_
    refine x_istoren (lsx9 := [(3, .int 0), (2, .int 0), (0, .ref 31), (1, .int a1)]) rfl rfl rfl ?_
    exact jX.sub (jsb_c rfl (jsb_c rfl (jsb_c rfl (jsb_c rfl jsb_n)))) (ct_X11_join_r31_33 hD hQ  10 a1 0 0 h (by have := jk_0; omega) (jr_of rfl (by omega)) (jr_of jk_0 (by omega)) J Sm)
  ·
    refine x_aloadn (x := 31) rfl rfl ?_
    refine x_iconst (v := (-1)) rfl ki_m1 ?_
    refine x_inv (N := m_X11_refuse) (As := [.int (-1)]) (b := 31) (st := []) (dx9 := 13) (mc := 0) (ms := 0) (host := "") 11 rfl t_X11_refuse ⟨Or.inl q_11_206, i_X11_refuse.1, i_X11_refuse.2⟩ ⟨by decide, rfl⟩ (congrArg Prod.fst (J.1.1 31 (11, 13) rfl)) rfl (by decide) rfl rfl ⟨by decide, by decide⟩ (jC.of rfl k_X11_refuse rfl ?_)
    show jX m_X11_refuse 13 0 0 0 [(0, .ref 31), (1, .int (-1))] [] _ 0 0 _
    refine x_aloadn (x := 31) rfl rfl ?_
    refine x_iloadn (x := (-1)) rfl rfl ?_
    refine z_putI (N := 13) (w := (-1)) 11 12 rfl f_11_94 rfl (jfin_no TX11 RX11 13 rfl rfl) hD J Sm rfl rfl jk_m1 (pw_31_12 (by omega)) rfl (fun h w5 J Sm => ?_)
    refine x_iloadn (x := (-1)) rfl rfl ?_
    refine x_iret rfl rfl ?_
    show jX m_X11_join 14 0 0 12 [(0, .ref 31), (1, .int a1)] [.int (-1)] _ 0 0 _
    refine x_iret rfl rfl ?_
    exact hQ _ _ J Sm
