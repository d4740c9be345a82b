def fp_X12_order_r125d : jFp := [(125, 0, 1), (125, 28, 29), (125, 31, 32), (125, 32, 33), (125, 33, 34), (125, 34, 35), (125, 35, 36), (125, 57, 58), (125, 61, 62), (125, 62, 63), (125, 63, 64), (125, 74, 75), (125, 75, 76), (125, 76, 77), (137, 0, 80), (138, 0, 2), (139, 0, 600), (140, 0, 200), (152, 0, 360), (153, 0, 30), (154, 0, 400), (156, 0, 8), (157, 0, 8), (158, 0, 8), (159, 0, 8), (160, 0, 8), (161, 0, 8), (162, 0, 40), (163, 0, 40), (164, 0, 40)]
set_option maxRecDepth 100000 in
set_option maxHeartbeats 4000000 in
theorem ct_X12_order_r125d_50 {Dy : jH → Prop} {h0 : jH} {Q : Option Value → jH → Prop} {dr : (Int × jW)} (hD : jDk Dy) (hQ : ∀ (v : Int32) hx9, jJ jSgM Dy hx9 → jSm fp_X12_order_r125d h0 hx9 → dr.1 = v.toInt → dr.2 = vw hx9 → Q (some (.int v)) hx9) : ∀ (h : jH), jJ jSgM Dy h → jSm fp_X12_order_r125d h0 h → d_X12_order_r125d_50  (vw h) = dr → jX m_X12_order 14 0 0 50 [] [] h 0 0 Q := by
  intro  h    J Sm D
  unfold d_X12_order_r125d_50 at D
  refine x_iconst (v := (-1)) rfl ki_m1 ?_
  refine x_iret rfl rfl ?_
  exact hQ _ _ J Sm ((congrArg Prod.fst D).symm.trans (show (-1) = ((-1) : Int32).toInt from by have := jk_m1; omega)) (congrArg Prod.snd D).symm
set_option maxRecDepth 100000 in
set_option maxHeartbeats 4000000 in
theorem ct_X12_order_r125d_200220 {Dy : jH → Prop} {h0 : jH} {Q : Option Value → jH → Prop} {dr : (Int × jW)} (hD : jDk Dy) (hQ : ∀ (v : Int32) hx9, jJ jSgM Dy hx9 → jSm fp_X12_order_r125d h0 hx9 → dr.1 = v.toInt → dr.2 = vw hx9 → Q (some (.int v)) hx9) : ∀ (h : jH), jJ jSgM Dy h → jSm fp_X12_order_r125d h0 h → d_X12_order_r125d_200220  (vw h) = dr → jX m_X12_order 14 0 0 220 [] [.int 0] h 0 0 Q := by
  intro  h    J Sm D
  unfold d_X12_order_r125d_200220 at D
  refine x_iret rfl rfl ?_
  exact hQ _ _ J Sm ((congrArg Prod.fst D).symm.trans (show 0 = (0 : Int32).toInt from by have := jk_0; omega)) (congrArg Prod.snd D).symm
set_option maxRecDepth 100000 in
set_option maxHeartbeats 4000000 in
theorem ct_X12_order_r125d_300220 {Dy : jH → Prop} {h0 : jH} {Q : Option Value → jH → Prop} {dr : (Int × jW)} (hD : jDk Dy) (hQ : ∀ (v : Int32) hx9, jJ jSgM Dy hx9 → jSm fp_X12_order_r125d h0 hx9 → dr.1 = v.toInt → dr.2 = vw hx9 → Q (some (.int v)) hx9) : ∀ (h : jH), jJ jSgM Dy h → jSm fp_X12_order_r125d h0 h → d_X12_order_r125d_300220  (vw h) = dr → jX m_X12_order 14 0 0 220 [] [.int 1] h 0 0 Q := by
  intro  h    J Sm D
  unfold d_X12_order_r125d_300220 at D
  refine x_iret rfl rfl ?_
  exact hQ _ _ J Sm ((congrArg Prod.fst D).symm.trans (show 1 = (1 : Int32).toInt from by have := jk_1; omega)) (congrArg Prod.snd D).symm
set_option maxRecDepth 100000 in
set_option maxHeartbeats 4000000 in
theorem ct_X12_order_r125d_220 {Dy : jH → Prop} {h0 : jH} {Q : Option Value → jH → Prop} {dr : (Int × jW)} (hD : jDk Dy) (hQ : ∀ (v : Int32) hx9, jJ jSgM Dy hx9 → jSm fp_X12_order_r125d h0 hx9 → dr.1 = v.toInt → dr.2 = vw hx9 → Q (some (.int v)) hx9) : ∀ (s0 : Int32) (h : jH), jJ jSgM Dy h → jSm fp_X12_order_r125d h0 h → d_X12_order_r125d_220  s0.toInt (vw h) = dr → jX m_X12_order 14 0 0 220 [] [.int s0] h 0 0 Q := by
  intro s0 h    J Sm D
  have es0 := jfull s0
  unfold d_X12_order_r125d_220 at D
  refine x_iret rfl rfl ?_
  exact hQ _ _ J Sm ((congrArg Prod.fst D).symm.trans (show s0.toInt = s0.toInt from by omega)) (congrArg Prod.snd D).symm
set_option maxRecDepth 100000 in
set_option maxHeartbeats 4000000 in
theorem ct_X12_order_r125d_300155 {Dy : jH → Prop} {h0 : jH} {Q : Option Value → jH → Prop} {dr : (Int × jW)} (hD : jDk Dy) (hQ : ∀ (v : Int32) hx9, jJ jSgM Dy hx9 → jSm fp_X12_order_r125d h0 hx9 → dr.1 = v.toInt → dr.2 = vw hx9 → Q (some (.int v)) hx9) : ∀ (l1 : Int32) (l3 : Int32) (l4 : Int32) (l5 : Int32) (h : jH), 0 ≤ l1.toInt ∧ l1.toInt ≤ 199 → 0 ≤ l3.toInt ∧ l3.toInt ≤ 2 → 0 ≤ l4.toInt ∧ l4.toInt ≤ 0 → 0 ≤ l5.toInt ∧ l5.toInt ≤ 146399 → jJ jSgM Dy h → jSm fp_X12_order_r125d h0 h → d_X12_order_r125d_300155  l1.toInt l3.toInt l4.toInt l5.toInt (vw h) = dr → jX m_X12_order 14 0 0 155 [(0, .ref 125), (1, .int l1), (3, .int l3), (4, .int l4), (5, .int l5)] [.int 1] h 0 0 Q := by
  intro l1 l3 l4 l5 h y0 y1 y2 y3   J Sm D
  unfold d_X12_order_r125d_300155 at D
  refine x_istore (lsx9 := [(6, .int 1), (0, .ref 125), (1, .int l1), (3, .int l3), (4, .int l4), (5, .int l5)]) rfl rfl rfl ?_
  refine x_iloadn (x := l3) rfl rfl ?_
  refine x_ifne (tgt := 174) rfl rfl (ti_ne rfl jk_0 ⟨fun c1 => ?_, fun c1 => ?_⟩)
  ·
    rw [if_neg (by omega)] at D
    refine x_iloadn (x := l3) rfl rfl ?_
    refine x_iconst (v := 1) rfl ki_1 ?_
    refine x_icne (tgt := 192) rfl rfl (ti_ne rfl jk_1 ⟨fun c2 => ?_, fun c2 => ?_⟩)
    ·
      rw [if_neg (by omega)] at D
      refine x_iload (x := 1) rfl rfl ?_
      refine x_ifeq (tgt := 219) rfl rfl (ti_eq jk_1 jk_0 (br_f (by omega) ?_))
      refine x_aloadn (x := 125) rfl rfl ?_
      refine x_aloadn (x := 125) rfl rfl ?_
      refine z_getR (N := 92) (b := 139) 12 29 rfl f_12_72 rfl J rfl 16029 ⟨rfl, rfl⟩ rfl ?_
      refine x_iconst (v := 3) rfl ki_3 ?_
      refine x_iloadn (x := l1) rfl rfl ?_
      refine z_imul rfl jk_3 rfl (by omega) (fun v3 ev3 => ?_)
      refine z_iald (N := 600) rfl J rfl sg_139_0_600_1_0_1 rfl (by omega) (fun v4 qv4 ev4 => ?_)
      try rw [vrd qv4 (show (3 * l1.toInt) = v3.toInt from by omega)] at D
      refine x_aloadn (x := 125) rfl rfl ?_
      refine x_iloadn (x := l1) rfl rfl ?_
      refine x_inv (N := m_X12_dayOf) (As := [.int l1]) (b := 125) (st := [.int v4, .ref 125]) (dx9 := 13) (mc := 0) (ms := 0) (host := "") 12 rfl t_X12_dayOf ⟨Or.inl q_12_335, i_X12_dayOf.1, i_X12_dayOf.2⟩ ⟨by decide, rfl⟩ (congrArg Prod.fst (J.1.1 125 (12, 92) rfl)) rfl (by decide) rfl rfl ⟨by decide, by decide⟩ (jC.of rfl k_X12_dayOf rfl ?_)
      show jX m_X12_dayOf 13 0 0 0 [(0, .ref 125), (1, .int l1)] [] _ 0 0 _
      refine x_aloadn (x := 125) rfl rfl ?_
      refine z_getR (N := 92) (b := 126) 12 2 rfl f_12_8 rfl J rfl 16002 ⟨rfl, rfl⟩ rfl ?_
      refine x_aloadn (x := 125) rfl rfl ?_
      refine x_iloadn (x := l1) rfl rfl ?_
      refine x_inv (N := m_X12_at) (As := [.int l1]) (b := 125) (st := [.ref 126]) (dx9 := 12) (mc := 0) (ms := 0) (host := "") 12 rfl t_X12_at ⟨Or.inl q_12_254, i_X12_at.1, i_X12_at.2⟩ ⟨by decide, rfl⟩ (congrArg Prod.fst (J.1.1 125 (12, 92) rfl)) rfl (by decide) rfl rfl ⟨by decide, by decide⟩ (jC.of rfl k_X12_at rfl ?_)
      show jX m_X12_at 12 0 0 0 [(0, .ref 125), (1, .int l1)] [] _ 0 0 _
      refine x_bipush (v := 20) rfl kb_20 ?_
      refine x_bipush (v := 90) rfl kb_90 ?_
      refine x_iloadn (x := l1) rfl rfl ?_
      refine z_imul rfl jk_90 rfl (by omega) (fun v5 ev5 => ?_)
      refine z_iadd rfl jk_20 rfl (by omega) (fun v6 ev6 => ?_)
      refine x_iret rfl rfl ?_
      show jX m_X12_dayOf 13 0 0 9 [(0, .ref 125), (1, .int l1)] [.int v6, .ref 126] _ 0 0 _
      refine x_iconst (v := 2) rfl ki_2 ?_
      refine z_iadd rfl rfl jk_2 (by omega) (fun v7 ev7 => ?_)
      refine z_iald (N := 50660) rfl J rfl sg_126_20_18020_90_2_3 rfl (by omega) (fun v8 qv8 ev8 => ?_)
      try rw [vrd qv8 (show ((20 + (90 * l1.toInt)) + 2) = v7.toInt from by omega)] at D
      refine x_iret rfl rfl ?_
      show jX m_X12_order 14 0 0 211 [(6, .int 1), (0, .ref 125), (1, .int l1), (3, .int l3), (4, .int l4), (5, .int l5)] [.int v8, .int v4, .ref 125] _ 0 0 _
      refine x_iload (x := l5) rfl rfl ?_
      refine x_inv (N := m_X12_reliefOf) (As := [.int v4, .int v8, .int l5]) (b := 125) (st := []) (dx9 := 3) (mc := 0) (ms := 0) (host := "") 12 rfl t_X12_reliefOf ⟨Or.inl q_12_701, i_X12_reliefOf.1, i_X12_reliefOf.2⟩ ⟨by decide, rfl⟩ (congrArg Prod.fst (J.1.1 125 (12, 92) rfl)) rfl (by decide) rfl rfl ⟨by decide, by decide⟩ (sf_X12_reliefOf_r125d (jr_of rfl (by omega)) (jr_of rfl (by omega)) (jr_of rfl (by omega)) hD J rfl  (fun v12 h J S9 X10 X11 => ?_))
      have ev12 := jfull v12
      have Sm := jSm_tr rfl Sm S9
      try rw [X10] at D
      try rw [← X11] at D
      show jX m_X12_order 14 0 0 216 [(6, .int 1), (0, .ref 125), (1, .int l1), (3, .int l3), (4, .int l4), (5, .int l5)] [.int v12] _ 0 0 _
      refine x_goto (tgt := 220) rfl rfl ?_
      exact jX.sub jsb_n (ct_X12_order_r125d_220 hD hQ  v12 h J Sm D)
    ·
      rw [if_pos (by omega)] at D
      refine x_iload (x := 1) rfl rfl ?_
      refine x_ifeq (tgt := 188) rfl rfl (ti_eq jk_1 jk_0 (br_f (by omega) ?_))
      refine x_iconst (v := 1) rfl ki_1 ?_
      refine x_goto (tgt := 220) rfl rfl ?_
      exact jX.sub jsb_n (ct_X12_order_r125d_300220 hD hQ  h J Sm D)
  ·
    rw [if_pos (by omega)] at D
    refine x_iload (x := l4) rfl rfl ?_
    refine x_ifeq (tgt := 170) rfl rfl (ti_eq rfl jk_0 (br_t (by omega) ?_))
    refine x_iconst (v := 0) rfl ki_0 ?_
    refine x_goto (tgt := 220) rfl rfl ?_
    exact jX.sub jsb_n (ct_X12_order_r125d_200220 hD hQ  h J Sm D)
set_option maxRecDepth 100000 in
set_option maxHeartbeats 4000000 in
theorem ct_X12_order_r125d_200155 {Dy : jH → Prop} {h0 : jH} {Q : Option Value → jH → Prop} {dr : (Int × jW)} (hD : jDk Dy) (hQ : ∀ (v : Int32) hx9, jJ jSgM Dy hx9 → jSm fp_X12_order_r125d h0 hx9 → dr.1 = v.toInt → dr.2 = vw hx9 → Q (some (.int v)) hx9) : ∀ (l1 : Int32) (l3 : Int32) (l4 : Int32) (l5 : Int32) (h : jH), 0 ≤ l1.toInt ∧ l1.toInt ≤ 199 → 0 ≤ l3.toInt ∧ l3.toInt ≤ 2 → 0 ≤ l4.toInt ∧ l4.toInt ≤ 1 → (-1) ≤ l5.toInt ∧ l5.toInt ≤ 146399 → jJ jSgM Dy h → jSm fp_X12_order_r125d h0 h → d_X12_order_r125d_200155  l1.toInt l3.toInt l4.toInt l5.toInt (vw h) = dr → jX m_X12_order 14 0 0 155 [(0, .ref 125), (1, .int l1), (3, .int l3), (4, .int l4), (5, .int l5)] [.int 0] h 0 0 Q := by
  intro l1 l3 l4 l5 h y0 y1 y2 y3   J Sm D
  unfold d_X12_order_r125d_200155 at D
  refine x_istore (lsx9 := [(6, .int 0), (0, .ref 125), (1, .int l1), (3, .int l3), (4, .int l4), (5, .int l5)]) rfl rfl rfl ?_
  refine x_iloadn (x := l3) rfl rfl ?_
  refine x_ifne (tgt := 174) rfl rfl (ti_ne rfl jk_0 ⟨fun c1 => ?_, fun c1 => ?_⟩)
  ·
    rw [if_neg (by omega)] at D
    refine x_iloadn (x := l3) rfl rfl ?_
    refine x_iconst (v := 1) rfl ki_1 ?_
    refine x_icne (tgt := 192) rfl rfl (ti_ne rfl jk_1 ⟨fun c2 => ?_, fun c2 => ?_⟩)
    ·
      rw [if_neg (by omega)] at D
      refine x_iload (x := 0) rfl rfl ?_
      refine x_ifeq (tgt := 219) rfl rfl (ti_eq jk_0 jk_0 (br_t (by omega) ?_))
      refine x_iconst (v := 0) rfl ki_0 ?_
      exact jX.sub jsb_n (ct_X12_order_r125d_200220 hD hQ  h J Sm D)
    ·
      rw [if_pos (by omega)] at D
      refine x_iload (x := 0) rfl rfl ?_
      refine x_ifeq (tgt := 188) rfl rfl (ti_eq jk_0 jk_0 (br_t (by omega) ?_))
      refine x_iconst (v := 0) rfl ki_0 ?_
      refine x_goto (tgt := 220) rfl rfl ?_
      exact jX.sub jsb_n (ct_X12_order_r125d_200220 hD hQ  h J Sm D)
  ·
    rw [if_pos (by omega)] at D
    refine x_iload (x := l4) rfl rfl ?_
    refine x_ifeq (tgt := 170) rfl rfl (ti_eq rfl jk_0 ⟨fun c3 => ?_, fun c3 => ?_⟩)
    ·
      rw [if_pos (by omega)] at D
      refine x_iconst (v := 0) rfl ki_0 ?_
      refine x_goto (tgt := 220) rfl rfl ?_
      exact jX.sub jsb_n (ct_X12_order_r125d_200220 hD hQ  h J Sm D)
    ·
      rw [if_neg (by omega)] at D
      refine x_iconst (v := 1) rfl ki_1 ?_
      refine x_goto (tgt := 220) rfl rfl ?_
      exact jX.sub jsb_n (ct_X12_order_r125d_300220 hD hQ  h J Sm D)
set_option maxRecDepth 100000 in
set_option maxHeartbeats 4000000 in
theorem ct_X12_order_r125d_154 {Dy : jH → Prop} {h0 : jH} {Q : Option Value → jH → Prop} {dr : (Int × jW)} (hD : jDk Dy) (hQ : ∀ (v : Int32) hx9, jJ jSgM Dy hx9 → jSm fp_X12_order_r125d h0 hx9 → dr.1 = v.toInt → dr.2 = vw hx9 → Q (some (.int v)) hx9) : ∀ (l1 : Int32) (l3 : Int32) (l4 : Int32) (l5 : Int32) (h : jH), 0 ≤ l1.toInt ∧ l1.toInt ≤ 199 → 0 ≤ l3.toInt ∧ l3.toInt ≤ 2 → 0 ≤ l4.toInt ∧ l4.toInt ≤ 1 → (-1) ≤ l5.toInt ∧ l5.toInt ≤ 146399 → jJ jSgM Dy h → jSm fp_X12_order_r125d h0 h → d_X12_order_r125d_154  l1.toInt l3.toInt l4.toInt l5.toInt (vw h) = dr → jX m_X12_order 14 0 0 154 [(0, .ref 125), (1, .int l1), (3, .int l3), (4, .int l4), (5, .int l5)] [] h 0 0 Q := by
  intro l1 l3 l4 l5 h y0 y1 y2 y3   J Sm D
  unfold d_X12_order_r125d_154 at D
  refine x_iconst (v := 0) rfl ki_0 ?_
  exact jX.sub (jsb_c rfl (jsb_c rfl (jsb_c rfl (jsb_c rfl (jsb_c rfl jsb_n))))) (ct_X12_order_r125d_200155 hD hQ  l1 l3 l4 l5 h (jr_of rfl (by omega)) (jr_of rfl (by omega)) (jr_of rfl (by omega)) (jr_of rfl (by omega)) J Sm D)
set_option maxRecDepth 100000 in
set_option maxHeartbeats 4000000 in
theorem ct_X12_order_r125d_131 {Dy : jH → Prop} {h0 : jH} {Q : Option Value → jH → Prop} {dr : (Int × jW)} {K78 : Int → Int → Int → Int → Int → Int → jW → (Int × jW)} {R78 : Int} (hD : jDk Dy) (hQ : ∀ (v : Int32) hx9, jJ jSgM Dy hx9 → jSm fp_X12_order_r125d h0 hx9 → dr.1 = v.toInt → dr.2 = vw hx9 → Q (some (.int v)) hx9) (k78 : ∀ (l1 : Int32) (l2 : Int32) (l3 : Int32) (l4 : Int32) (l5 : Int32) (l6 : Int32) (h : jH), l6.toInt - (-1) < R78 → 0 ≤ l1.toInt ∧ l1.toInt ≤ 199 → 0 ≤ l2.toInt ∧ l2.toInt ≤ 146399 → 0 ≤ l3.toInt ∧ l3.toInt ≤ 2 → 0 ≤ l4.toInt ∧ l4.toInt ≤ 1 → (-1) ≤ l5.toInt ∧ l5.toInt ≤ 146399 → (-1) ≤ l6.toInt ∧ l6.toInt ≤ 39 → jJ jSgM Dy h → jSm fp_X12_order_r125d h0 h → K78 l1.toInt l2.toInt l3.toInt l4.toInt l5.toInt l6.toInt (vw h) = dr → jX m_X12_order 14 0 0 78 [(0, .ref 125), (1, .int l1), (2, .int l2), (3, .int l3), (4, .int l4), (5, .int l5), (6, .int l6)] [] h 0 0 Q) : ∀ (l1 : Int32) (l2 : Int32) (l3 : Int32) (l4 : Int32) (l6 : Int32) (s0 : Int32) (h : jH), 0 ≤ l1.toInt ∧ l1.toInt ≤ 199 → 0 ≤ l2.toInt ∧ l2.toInt ≤ 146399 → 0 ≤ l3.toInt ∧ l3.toInt ≤ 2 → 0 ≤ l4.toInt ∧ l4.toInt ≤ 1 → 0 ≤ l6.toInt ∧ l6.toInt ≤ 39 → (-1) ≤ s0.toInt ∧ s0.toInt ≤ 146399 → l6.toInt - (-1) ≤ R78 → jJ jSgM Dy h → jSm fp_X12_order_r125d h0 h → d_X12_order_r125d_131 K78  l1.toInt l2.toInt l3.toInt l4.toInt l6.toInt s0.toInt (vw h) = dr → jX m_X12_order 14 0 0 131 [(0, .ref 125), (1, .int l1), (2, .int l2), (3, .int l3), (4, .int l4), (6, .int l6)] [.int s0] h 0 0 Q := by
  intro l1 l2 l3 l4 l6 s0 h y0 y1 y2 y3 y4 y5  m78 J Sm D
  unfold d_X12_order_r125d_131 at D
  refine x_istore (lsx9 := [(5, .int s0), (0, .ref 125), (1, .int l1), (2, .int l2), (3, .int l3), (4, .int l4), (6, .int l6)]) rfl rfl rfl ?_
  refine z_iinc (x := l6) (lsx9 := fun v1 => [(6, .int v1), (5, .int s0), (0, .ref 125), (1, .int l1), (2, .int l2), (3, .int l3), (4, .int l4)]) rfl rfl rfl jko_m1 (by omega) rfl (fun _ => rfl) (fun v1 ev1 => ?_)
  refine x_goto (tgt := 78) rfl rfl ?_
  try rw [show (l6.toInt + (-1)) = v1.toInt from by omega] at D
  exact jX.sub (jsb_c rfl (jsb_c rfl (jsb_c rfl (jsb_c rfl (jsb_c rfl (jsb_c rfl (jsb_c rfl jsb_n))))))) (k78 l1 l2 l3 l4 s0 v1 h (by omega) (jr_of rfl (by omega)) (jr_of rfl (by omega)) (jr_of rfl (by omega)) (jr_of rfl (by omega)) (jr_of rfl (by omega)) (jr_of rfl (by omega)) J Sm D)
set_option maxRecDepth 100000 in
set_option maxHeartbeats 4000000 in
theorem ct_X12_order_r125d_129 {Dy : jH → Prop} {h0 : jH} {Q : Option Value → jH → Prop} {dr : (Int × jW)} {K78 : Int → Int → Int → Int → Int → Int → jW → (Int × jW)} {R78 : Int} (hD : jDk Dy) (hQ : ∀ (v : Int32) hx9, jJ jSgM Dy hx9 → jSm fp_X12_order_r125d h0 hx9 → dr.1 = v.toInt → dr.2 = vw hx9 → Q (some (.int v)) hx9) (k78 : ∀ (l1 : Int32) (l2 : Int32) (l3 : Int32) (l4 : Int32) (l5 : Int32) (l6 : Int32) (h : jH), l6.toInt - (-1) < R78 → 0 ≤ l1.toInt ∧ l1.toInt ≤ 199 → 0 ≤ l2.toInt ∧ l2.toInt ≤ 146399 → 0 ≤ l3.toInt ∧ l3.toInt ≤ 2 → 0 ≤ l4.toInt ∧ l4.toInt ≤ 1 → (-1) ≤ l5.toInt ∧ l5.toInt ≤ 146399 → (-1) ≤ l6.toInt ∧ l6.toInt ≤ 39 → jJ jSgM Dy h → jSm fp_X12_order_r125d h0 h → K78 l1.toInt l2.toInt l3.toInt l4.toInt l5.toInt l6.toInt (vw h) = dr → jX m_X12_order 14 0 0 78 [(0, .ref 125), (1, .int l1), (2, .int l2), (3, .int l3), (4, .int l4), (5, .int l5), (6, .int l6)] [] h 0 0 Q) : ∀ (l1 : Int32) (l2 : Int32) (l3 : Int32) (l4 : Int32) (l5 : Int32) (l6 : Int32) (h : jH), 0 ≤ l1.toInt ∧ l1.toInt ≤ 199 → 0 ≤ l2.toInt ∧ l2.toInt ≤ 146399 → 0 ≤ l3.toInt ∧ l3.toInt ≤ 2 → 0 ≤ l4.toInt ∧ l4.toInt ≤ 1 → (-1) ≤ l5.toInt ∧ l5.toInt ≤ 146399 → 0 ≤ l6.toInt ∧ l6.toInt ≤ 39 → l6.toInt - (-1) ≤ R78 → jJ jSgM Dy h → jSm fp_X12_order_r125d h0 h → d_X12_order_r125d_129 K78  l1.toInt l2.toInt l3.toInt l4.toInt l5.toInt l6.toInt (vw h) = dr → jX m_X12_order 14 0 0 129 [(0, .ref 125), (1, .int l1), (2, .int l2), (3, .int l3), (4, .int l4), (5, .int l5), (6, .int l6)] [] h 0 0 Q := by
  intro l1 l2 l3 l4 l5 l6 h y0 y1 y2 y3 y4 y5  m78 J Sm D
  unfold d_X12_order_r125d_129 at D
  refine x_iload (x := l5) rfl rfl ?_
  exact jX.sub (jsb_c rfl (jsb_c rfl (jsb_c rfl (jsb_c rfl (jsb_c rfl (jsb_c rfl jsb_n)))))) (ct_X12_order_r125d_131 hD hQ k78 l1 l2 l3 l4 l6 l5 h (jr_of rfl (by omega)) (jr_of rfl (by omega)) (jr_of rfl (by omega)) (jr_of rfl (by omega)) (jr_of rfl (by omega)) (jr_of rfl (by omega)) (by omega) J Sm D)
set_option maxRecDepth 100000 in
set_option maxHeartbeats 4000000 in
theorem ct_X12_order_r125d_78 {Dy : jH → Prop} {h0 : jH} {Q : Option Value → jH → Prop} {dr : (Int × jW)} (hD : jDk Dy) (hQ : ∀ (v : Int32) hx9, jJ jSgM Dy hx9 → jSm fp_X12_order_r125d h0 hx9 → dr.1 = v.toInt → dr.2 = vw hx9 → Q (some (.int v)) hx9) : ∀ r : Nat, ∀ (l1 : Int32) (l2 : Int32) (l3 : Int32) (l4 : Int32) (l5 : Int32) (l6 : Int32) (h : jH), l6.toInt - (-1) < (r : Int) → 0 ≤ l1.toInt ∧ l1.toInt ≤ 199 → 0 ≤ l2.toInt ∧ l2.toInt ≤ 146399 → 0 ≤ l3.toInt ∧ l3.toInt ≤ 2 → 0 ≤ l4.toInt ∧ l4.toInt ≤ 1 → (-1) ≤ l5.toInt ∧ l5.toInt ≤ 146399 → (-1) ≤ l6.toInt ∧ l6.toInt ≤ 39 → jJ jSgM Dy h → jSm fp_X12_order_r125d h0 h → d_X12_order_r125d_78 r l1.toInt l2.toInt l3.toInt l4.toInt l5.toInt l6.toInt (vw h) = dr → jX m_X12_order 14 0 0 78 [(0, .ref 125), (1, .int l1), (2, .int l2), (3, .int l3), (4, .int l4), (5, .int l5), (6, .int l6)] [] h 0 0 Q := by
  intro r
  induction r with
  | zero =>
    intro l1 l2 l3 l4 l5 l6 h hm y0 y1 y2 y3 y4 y5   J Sm D
    exfalso
    omega
  | succ r ih =>
    intro l1 l2 l3 l4 l5 l6 h hm y0 y1 y2 y3 y4 y5   J Sm D
    rw [d_X12_order_r125d_78.eq_2] at D
    refine x_iload (x := l6) rfl rfl ?_
    refine x_iflt (tgt := 139) rfl rfl (ti_lt rfl jk_0 ⟨fun c1 => ?_, fun c1 => ?_⟩)
    ·
      rw [if_pos (by omega)] at D
      refine x_iload (x := l4) rfl rfl ?_
      refine x_ifne (tgt := 154) rfl rfl (ti_ne rfl jk_0 ⟨fun c2 => ?_, fun c2 => ?_⟩)
      ·
        rw [if_neg (by omega)] at D
        exact jX.sub (jsb_c rfl (jsb_c rfl (jsb_c rfl (jsb_c rfl (jsb_c rfl jsb_n))))) (ct_X12_order_r125d_154 hD hQ  l1 l3 l4 l5 h (jr_of rfl (by omega)) (jr_of rfl (by omega)) (jr_of rfl (by omega)) (jr_of rfl (by omega)) J Sm D)
      ·
        rw [if_pos (by omega)] at D
        refine x_iload (x := l5) rfl rfl ?_
        refine x_iconst (v := (-1)) rfl ki_m1 ?_
        refine x_iceq (tgt := 154) rfl rfl (ti_eq rfl jk_m1 ⟨fun c3 => ?_, fun c3 => ?_⟩)
        ·
          rw [if_pos (by omega)] at D
          exact jX.sub (jsb_c rfl (jsb_c rfl (jsb_c rfl (jsb_c rfl (jsb_c rfl jsb_n))))) (ct_X12_order_r125d_154 hD hQ  l1 l3 l4 l5 h (jr_of rfl (by omega)) (jr_of rfl (by omega)) (jr_of rfl (by omega)) (jr_of rfl (by omega)) J Sm D)
        ·
          rw [if_neg (by omega)] at D
          refine x_iconst (v := 1) rfl ki_1 ?_
          refine x_goto (tgt := 155) rfl rfl ?_
          exact jX.sub (jsb_c rfl (jsb_c rfl (jsb_c rfl (jsb_c rfl (jsb_c rfl jsb_n))))) (ct_X12_order_r125d_300155 hD hQ  l1 l3 l4 l5 h (jr_of rfl (by omega)) (jr_of rfl (by omega)) (jr_of rfl (by omega)) (jr_of rfl (by omega)) J Sm D)
    ·
      rw [if_neg (by omega)] at D
      refine x_ldcw (v := 47140) rfl z_12_795 ?_
      refine x_iconst (v := 3) rfl ki_3 ?_
      refine x_iload (x := l6) rfl rfl ?_
      refine z_imul rfl jk_3 rfl (by omega) (fun v4 ev4 => ?_)
      refine z_iadd rfl jk_47140 rfl (by omega) (fun v5 ev5 => ?_)
      refine x_istore (lsx9 := [(7, .int v5), (0, .ref 125), (1, .int l1), (2, .int l2), (3, .int l3), (4, .int l4), (5, .int l5), (6, .int l6)]) rfl rfl rfl ?_
      refine x_aloadn (x := 125) rfl rfl ?_
      refine z_getR (N := 92) (b := 126) 12 2 rfl f_12_8 rfl J rfl 16002 ⟨rfl, rfl⟩ rfl ?_
      refine x_iload (x := v5) rfl rfl ?_
      refine z_iald (N := 50660) rfl J rfl sg_126_47140_47260_3_0_1 rfl (by omega) (fun v6 qv6 ev6 => ?_)
      try rw [vrd qv6 (show (47140 + (3 * l6.toInt)) = v5.toInt from by omega)] at D
      refine x_iloadn (x := l1) rfl rfl ?_
      refine x_icne (tgt := 129) rfl rfl (ti_ne rfl rfl ⟨fun c7 => ?_, fun c7 => ?_⟩)
      ·
        rw [if_neg (by omega)] at D
        exact jX.sub (jsb_c rfl (jsb_c rfl (jsb_c rfl (jsb_c rfl (jsb_c rfl (jsb_c rfl (jsb_c rfl jsb_n))))))) (ct_X12_order_r125d_129 hD hQ ih l1 l2 l3 l4 l5 l6 h (jr_of rfl (by omega)) (jr_of rfl (by omega)) (jr_of rfl (by omega)) (jr_of rfl (by omega)) (jr_of rfl (by omega)) (jr_of rfl (by omega)) (by omega) J Sm D)
      ·
        rw [if_pos (by omega)] at D
        refine x_aloadn (x := 125) rfl rfl ?_
        refine z_getR (N := 92) (b := 126) 12 2 rfl f_12_8 rfl J rfl 16002 ⟨rfl, rfl⟩ rfl ?_
        refine x_iload (x := v5) rfl rfl ?_
        refine x_iconst (v := 2) rfl ki_2 ?_
        refine z_iadd rfl rfl jk_2 (by omega) (fun v8 ev8 => ?_)
        refine z_iald (N := 50660) rfl J rfl sg_126_47140_47260_3_2_3 rfl (by omega) (fun v9 qv9 ev9 => ?_)
        try rw [vrd qv9 (show ((47140 + (3 * l6.toInt)) + 2) = v8.toInt from by omega)] at D
        refine x_iloadn (x := l2) rfl rfl ?_
        refine x_icgt (tgt := 129) rfl rfl (ti_gt rfl rfl ⟨fun c10 => ?_, fun c10 => ?_⟩)
        ·
          rw [if_pos (by omega)] at D
          exact jX.sub (jsb_c rfl (jsb_c rfl (jsb_c rfl (jsb_c rfl (jsb_c rfl (jsb_c rfl (jsb_c rfl jsb_n))))))) (ct_X12_order_r125d_129 hD hQ ih l1 l2 l3 l4 l5 l6 h (jr_of rfl (by omega)) (jr_of rfl (by omega)) (jr_of rfl (by omega)) (jr_of rfl (by omega)) (jr_of rfl (by omega)) (jr_of rfl (by omega)) (by omega) J Sm D)
        ·
          rw [if_neg (by omega)] at D
          refine x_aloadn (x := 125) rfl rfl ?_
          refine z_getR (N := 92) (b := 126) 12 2 rfl f_12_8 rfl J rfl 16002 ⟨rfl, rfl⟩ rfl ?_
          refine x_iload (x := v5) rfl rfl ?_
          refine x_iconst (v := 1) rfl ki_1 ?_
          refine z_iadd rfl rfl jk_1 (by omega) (fun v11 ev11 => ?_)
          refine z_iald (N := 50660) rfl J rfl sg_126_47140_47260_3_1_2 rfl (by omega) (fun v12 qv12 ev12 => ?_)
          try rw [vrd qv12 (show ((47140 + (3 * l6.toInt)) + 1) = v11.toInt from by omega)] at D
          refine x_goto (tgt := 131) rfl rfl ?_
          exact jX.sub (jsb_c rfl (jsb_c rfl (jsb_c rfl (jsb_c rfl (jsb_c rfl (jsb_c rfl jsb_n)))))) (ct_X12_order_r125d_131 hD hQ ih l1 l2 l3 l4 l6 v12 h (jr_of rfl (by omega)) (jr_of rfl (by omega)) (jr_of rfl (by omega)) (jr_of rfl (by omega)) (jr_of rfl (by omega)) (jr_of rfl (by omega)) (by omega) J Sm D)
set_option maxRecDepth 100000 in
set_option maxHeartbeats 4000000 in
theorem sf_X12_order_r125d {Dy : jH → Prop} {h : jH} {Q : Option Value → jH → Prop} {dr : (Int × jW)} {a1 : Int32} {a2 : Int32} {a3 : Int32} (hD : jDk Dy) (J : jJ jSgM Dy h) (D : d_X12_order_r125d a1.toInt a2.toInt a3.toInt (vw h) = dr) (hQ : ∀ (v : Int32) hx9, jJ jSgM Dy hx9 → jSm fp_X12_order_r125d h hx9 → dr.1 = v.toInt → dr.2 = vw hx9 → Q (some (.int v)) hx9) : jC m_X12_order 14 0 0 [.ref 125, .int a1, .int a2, .int a3] h Q := by
  refine jC.of rfl k_X12_order rfl ?_
  have Sm := jSm_rf fp_X12_order_r125d h
  have ea1 := jfull a1
  have ea2 := jfull a2
  have ea3 := jfull a3
  show jX m_X12_order 14 0 0 0 [(0, .ref 125), (1, .int a1), (2, .int a2), (3, .int a3)] [] _ 0 0 _
  unfold d_X12_order_r125d at D
  refine x_aloadn (x := 125) rfl rfl ?_
  refine x_iconst (v := 0) rfl ki_0 ?_
  refine z_putI (N := 92) (w := 0) 12 0 rfl f_12_180 rfl (jfin_no TX12 RX12 92 rfl rfl) hD J Sm rfl rfl jk_0 (pw_125_0 (by omega)) rfl (fun h w1 J Sm => ?_)
  rw [vwf w1 (show 0 = (0 : Int32).toInt from by have := jk_0; omega)] at D
  refine x_aloadn (x := 125) rfl rfl ?_
  refine x_iloadn (x := a1) rfl rfl ?_
  refine x_inv (N := m_X12_isLine) (As := [.int a1]) (b := 125) (st := []) (dx9 := 13) (mc := 0) (ms := 0) (host := "") 12 rfl t_X12_isLine ⟨Or.inl q_12_293, i_X12_isLine.1, i_X12_isLine.2⟩ ⟨by decide, rfl⟩ (congrArg Prod.fst (J.1.1 125 (12, 92) rfl)) rfl (by decide) rfl rfl ⟨by decide, by decide⟩ (jC.of rfl k_X12_isLine rfl ?_)
  show jX m_X12_isLine 13 0 0 0 [(0, .ref 125), (1, .int a1)] [] _ 0 0 _
  refine x_iloadn (x := a1) rfl rfl ?_
  refine z_i2l rfl rfl (fun v2 ev2 => ?_)
  refine x_lconst (v := 0) rfl kl_0 ?_
  refine x_aloadn (x := 125) rfl rfl ?_
  refine z_getR (N := 92) (b := 126) 12 2 rfl f_12_8 rfl J rfl 16002 ⟨rfl, rfl⟩ rfl ?_
  refine x_iconst (v := 0) rfl ki_0 ?_
  refine z_iald (N := 50660) rfl J rfl sg_126_0_1_1_0_1 jk_0 (by omega) (fun v3 qv3 ev3 => ?_)
  try rw [vrn (n := 0) (by decide) (jmb_w w1 qv3 rfl)] at D
  refine z_i2l rfl rfl (fun v4 ev4 => ?_)
  refine x_lconst (v := 1) rfl kl_1 ?_
  refine z_lsub rfl rfl jkl_1 (by omega) (fun v5 ev5 => ?_)
  refine x_inst (N := m_X12_in) (As := [.long v2, .long 0, .long v5]) (st := []) (dx9 := 1) (mc := 0) (ms := 0) (host := "") rfl t_X12_in ⟨Or.inl q_12_188, s_X12_in⟩ rfl (by decide) rfl rfl ⟨by decide, by decide⟩ (zc_X12_in rfl jkl_0 rfl (fun v6 ev6 => ?_))
  show jX m_X12_isLine 13 0 0 15 [(0, .ref 125), (1, .int a1)] [.int v6] _ 0 0 _
  refine x_zret rfl rfl (jz01 (by omega)) ?_
  show jX m_X12_order 14 0 0 10 [(0, .ref 125), (1, .int a1), (2, .int a2), (3, .int a3)] [.int v6] _ 0 0 _
  refine x_ifeq (tgt := 50) rfl rfl (ti_eq rfl jk_0 ⟨fun c7 => ?_, fun c7 => ?_⟩)
  ·
    rw [if_neg (by omega)] at D
    exact jX.sub jsb_n (ct_X12_order_r125d_50 hD hQ  h J Sm D)
  ·
    rw [if_pos (by omega)] at D
    refine x_aloadn (x := 125) rfl rfl ?_
    refine x_iloadn (x := a1) rfl rfl ?_
    refine x_inv (N := m_X12_bookOf) (As := [.int a1]) (b := 125) (st := []) (dx9 := 13) (mc := 0) (ms := 0) (host := "") 12 rfl t_X12_bookOf ⟨Or.inl q_12_299, i_X12_bookOf.1, i_X12_bookOf.2⟩ ⟨by decide, rfl⟩ (congrArg Prod.fst (J.1.1 125 (12, 92) rfl)) rfl (by decide) rfl rfl ⟨by decide, by decide⟩ (jC.of rfl k_X12_bookOf rfl ?_)
    show jX m_X12_bookOf 13 0 0 0 [(0, .ref 125), (1, .int a1)] [] _ 0 0 _
    refine x_aloadn (x := 125) rfl rfl ?_
    refine z_getR (N := 92) (b := 126) 12 2 rfl f_12_8 rfl J rfl 16002 ⟨rfl, rfl⟩ rfl ?_
    refine x_aloadn (x := 125) rfl rfl ?_
    refine x_iloadn (x := a1) rfl rfl ?_
    refine x_inv (N := m_X12_at) (As := [.int a1]) (b := 125) (st := [.ref 126]) (dx9 := 12) (mc := 0) (ms := 0) (host := "") 12 rfl t_X12_at ⟨Or.inl q_12_254, i_X12_at.1, i_X12_at.2⟩ ⟨by decide, rfl⟩ (congrArg Prod.fst (J.1.1 125 (12, 92) rfl)) rfl (by decide) rfl rfl ⟨by decide, by decide⟩ (jC.of rfl k_X12_at rfl ?_)
    show jX m_X12_at 12 0 0 0 [(0, .ref 125), (1, .int a1)] [] _ 0 0 _
    refine x_bipush (v := 20) rfl kb_20 ?_
    refine x_bipush (v := 90) rfl kb_90 ?_
    refine x_iloadn (x := a1) rfl rfl ?_
    refine z_imul rfl jk_90 rfl (by omega) (fun v8 ev8 => ?_)
    refine z_iadd rfl jk_20 rfl (by omega) (fun v9 ev9 => ?_)
    refine x_iret rfl rfl ?_
    show jX m_X12_bookOf 13 0 0 9 [(0, .ref 125), (1, .int a1)] [.int v9, .ref 126] _ 0 0 _
    refine z_iald (N := 50660) rfl J rfl sg_126_20_18020_90_0_1 rfl (by omega) (fun v10 qv10 ev10 => ?_)
    try rw [vrd (jmb_w w1 qv10 rfl) (show (20 + (90 * a1.toInt)) = v9.toInt from by omega)] at D
    refine x_iret rfl rfl ?_
    show jX m_X12_order 14 0 0 18 [(0, .ref 125), (1, .int a1), (2, .int a2), (3, .int a3)] [.int v10] _ 0 0 _
    refine x_iconst (v := 5) rfl ki_5 ?_
    refine x_icne (tgt := 50) rfl rfl (ti_ne rfl jk_5 ⟨fun c11 => ?_, fun c11 => ?_⟩)
    ·
      rw [if_neg (by omega)] at D
      exact jX.sub jsb_n (ct_X12_order_r125d_50 hD hQ  h J Sm D)
    ·
      rw [if_pos (by omega)] at D
      refine x_iloadn (x := a2) rfl rfl ?_
      refine x_inst (N := m_X12_isDay) (As := [.int a2]) (st := []) (dx9 := 2) (mc := 0) (ms := 0) (host := "") rfl t_X12_isDay ⟨Or.inl q_12_273, s_X12_isDay⟩ rfl (by decide) rfl rfl ⟨by decide, by decide⟩ (zc_X12_isDay (d := 1) rfl (fun v12 ev12 => ?_))
      show jX m_X12_order 14 0 0 26 [(0, .ref 125), (1, .int a1), (2, .int a2), (3, .int a3)] [.int v12] _ 0 0 _
      refine x_ifeq (tgt := 50) rfl rfl (ti_eq rfl jk_0 ⟨fun c13 => ?_, fun c13 => ?_⟩)
      ·
        rw [if_neg (by omega)] at D
        exact jX.sub jsb_n (ct_X12_order_r125d_50 hD hQ  h J Sm D)
      ·
        rw [if_pos (by omega)] at D
        refine x_aloadn (x := 125) rfl rfl ?_
        refine x_iloadn (x := a1) rfl rfl ?_
        refine x_iloadn (x := a2) rfl rfl ?_
        refine x_inv (N := m_X12_isKnown) (As := [.int a1, .int a2]) (b := 125) (st := []) (dx9 := 13) (mc := 0) (ms := 0) (host := "") 12 rfl t_X12_isKnown ⟨Or.inl q_12_383, i_X12_isKnown.1, i_X12_isKnown.2⟩ ⟨by decide, rfl⟩ (congrArg Prod.fst (J.1.1 125 (12, 92) rfl)) rfl (by decide) rfl rfl ⟨by decide, by decide⟩ (jC.of rfl k_X12_isKnown rfl ?_)
        show jX m_X12_isKnown 13 0 0 0 [(0, .ref 125), (1, .int a1), (2, .int a2)] [] _ 0 0 _
        refine x_aloadn (x := 125) rfl rfl ?_
        refine z_getR (N := 92) (b := 126) 12 2 rfl f_12_8 rfl J rfl 16002 ⟨rfl, rfl⟩ rfl ?_
        refine x_aloadn (x := 125) rfl rfl ?_
        refine x_iloadn (x := a1) rfl rfl ?_
        refine x_inv (N := m_X12_at) (As := [.int a1]) (b := 125) (st := [.ref 126]) (dx9 := 12) (mc := 0) (ms := 0) (host := "") 12 rfl t_X12_at ⟨Or.inl q_12_254, i_X12_at.1, i_X12_at.2⟩ ⟨by decide, rfl⟩ (congrArg Prod.fst (J.1.1 125 (12, 92) rfl)) rfl (by decide) rfl rfl ⟨by decide, by decide⟩ (jC.of rfl k_X12_at rfl ?_)
        show jX m_X12_at 12 0 0 0 [(0, .ref 125), (1, .int a1)] [] _ 0 0 _
        refine x_bipush (v := 20) rfl kb_20 ?_
        refine x_bipush (v := 90) rfl kb_90 ?_
        refine x_iloadn (x := a1) rfl rfl ?_
        refine z_imul rfl jk_90 rfl (by omega) (fun v14 ev14 => ?_)
        refine z_iadd rfl jk_20 rfl (by omega) (fun v15 ev15 => ?_)
        refine x_iret rfl rfl ?_
        show jX m_X12_isKnown 13 0 0 9 [(0, .ref 125), (1, .int a1), (2, .int a2)] [.int v15, .ref 126] _ 0 0 _
        refine x_iconst (v := 3) rfl ki_3 ?_
        refine z_iadd rfl rfl jk_3 (by omega) (fun v16 ev16 => ?_)
        refine z_iald (N := 50660) rfl J rfl sg_126_20_18020_90_3_4 rfl (by omega) (fun v17 qv17 ev17 => ?_)
        try rw [vrd (jmb_w w1 qv17 rfl) (show ((20 + (90 * a1.toInt)) + 3) = v16.toInt from by omega)] at D
        refine x_iloadn (x := a2) rfl rfl ?_
        refine x_icgt (tgt := 20) rfl rfl (ti_gt rfl rfl ⟨fun c18 => ?_, fun c18 => ?_⟩)
        ·
          rw [if_pos (by omega)] at D
          refine x_iconst (v := 0) rfl ki_0 ?_
          refine x_zret rfl rfl (by decide) ?_
          show jX m_X12_order 14 0 0 35 [(0, .ref 125), (1, .int a1), (2, .int a2), (3, .int a3)] [.int 0] _ 0 0 _
          refine x_ifeq (tgt := 50) rfl rfl (ti_eq jk_0 jk_0 (br_t (by omega) ?_))
          exact jX.sub jsb_n (ct_X12_order_r125d_50 hD hQ  h J Sm D)
        ·
          rw [if_neg (by omega)] at D
          refine x_iconst (v := 1) rfl ki_1 ?_
          refine x_goto (tgt := 21) rfl rfl ?_
          refine x_zret rfl rfl (by decide) ?_
          show jX m_X12_order 14 0 0 35 [(0, .ref 125), (1, .int a1), (2, .int a2), (3, .int a3)] [.int 1] _ 0 0 _
          refine x_ifeq (tgt := 50) rfl rfl (ti_eq jk_1 jk_0 (br_f (by omega) ?_))
          refine x_iloadn (x := a3) rfl rfl ?_
          refine z_i2l rfl rfl (fun v19 ev19 => ?_)
          refine x_lconst (v := 0) rfl kl_0 ?_
          refine x_ldc2 (v := 2) rfl z_12_482 ?_
          refine x_inst (N := m_X12_in) (As := [.long v19, .long 0, .long 2]) (st := []) (dx9 := 1) (mc := 0) (ms := 0) (host := "") rfl t_X12_in ⟨Or.inl q_12_188, s_X12_in⟩ rfl (by decide) rfl rfl ⟨by decide, by decide⟩ (zc_X12_in rfl jkl_0 jkl_2 (fun v20 ev20 => ?_))
          show jX m_X12_order 14 0 0 47 [(0, .ref 125), (1, .int a1), (2, .int a2), (3, .int a3)] [.int v20] _ 0 0 _
          refine x_ifne (tgt := 52) rfl rfl (ti_ne rfl jk_0 ⟨fun c21 => ?_, fun c21 => ?_⟩)
          ·
            rw [if_pos (by omega)] at D
            refine x_aloadn (x := 125) rfl rfl ?_
            refine x_iloadn (x := a2) rfl rfl ?_
            refine x_inv (N := m_X12_find) (As := [.int a2]) (b := 125) (st := []) (dx9 := 8) (mc := 0) (ms := 0) (host := "") 12 rfl t_X12_find ⟨Or.inl q_12_393, i_X12_find.1, i_X12_find.2⟩ ⟨by decide, rfl⟩ (congrArg Prod.fst (J.1.1 125 (12, 92) rfl)) rfl (by decide) rfl rfl ⟨by decide, by decide⟩ (sf_X12_find_r125d (jr_of rfl (by omega)) hD J rfl  (fun h J S22 X23 => ?_))
            have Sm := jSm_tr rfl Sm S22
            rw [X23] at D
            show jX m_X12_order 14 0 0 57 [(0, .ref 125), (1, .int a1), (2, .int a2), (3, .int a3)] [] _ 0 0 _
            refine x_aloadn (x := 125) rfl rfl ?_
            refine x_iloadn (x := a1) rfl rfl ?_
            refine x_inv (N := m_X12_isGood) (As := [.int a1]) (b := 125) (st := []) (dx9 := 13) (mc := 0) (ms := 0) (host := "") 12 rfl t_X12_isGood ⟨Or.inl q_12_796, i_X12_isGood.1, i_X12_isGood.2⟩ ⟨by decide, rfl⟩ (congrArg Prod.fst (J.1.1 125 (12, 92) rfl)) rfl (by decide) rfl rfl ⟨by decide, by decide⟩ (jC.of rfl k_X12_isGood rfl ?_)
            show jX m_X12_isGood 13 0 0 0 [(0, .ref 125), (1, .int a1)] [] _ 0 0 _
            refine x_aloadn (x := 125) rfl rfl ?_
            refine x_iloadn (x := a1) rfl rfl ?_
            refine x_inv (N := m_X12_dayOf) (As := [.int a1]) (b := 125) (st := []) (dx9 := 12) (mc := 0) (ms := 0) (host := "") 12 rfl t_X12_dayOf ⟨Or.inl q_12_335, i_X12_dayOf.1, i_X12_dayOf.2⟩ ⟨by decide, rfl⟩ (congrArg Prod.fst (J.1.1 125 (12, 92) rfl)) rfl (by decide) rfl rfl ⟨by decide, by decide⟩ (jC.of rfl k_X12_dayOf rfl ?_)
            show jX m_X12_dayOf 12 0 0 0 [(0, .ref 125), (1, .int a1)] [] _ 0 0 _
            refine x_aloadn (x := 125) rfl rfl ?_
            refine z_getR (N := 92) (b := 126) 12 2 rfl f_12_8 rfl J rfl 16002 ⟨rfl, rfl⟩ rfl ?_
            refine x_aloadn (x := 125) rfl rfl ?_
            refine x_iloadn (x := a1) rfl rfl ?_
            refine x_inv (N := m_X12_at) (As := [.int a1]) (b := 125) (st := [.ref 126]) (dx9 := 11) (mc := 0) (ms := 0) (host := "") 12 rfl t_X12_at ⟨Or.inl q_12_254, i_X12_at.1, i_X12_at.2⟩ ⟨by decide, rfl⟩ (congrArg Prod.fst (J.1.1 125 (12, 92) rfl)) rfl (by decide) rfl rfl ⟨by decide, by decide⟩ (jC.of rfl k_X12_at rfl ?_)
            show jX m_X12_at 11 0 0 0 [(0, .ref 125), (1, .int a1)] [] _ 0 0 _
            refine x_bipush (v := 20) rfl kb_20 ?_
            refine x_bipush (v := 90) rfl kb_90 ?_
            refine x_iloadn (x := a1) rfl rfl ?_
            refine z_imul rfl jk_90 rfl (by omega) (fun v24 ev24 => ?_)
            refine z_iadd rfl jk_20 rfl (by omega) (fun v25 ev25 => ?_)
            refine x_iret rfl rfl ?_
            show jX m_X12_dayOf 12 0 0 9 [(0, .ref 125), (1, .int a1)] [.int v25, .ref 126] _ 0 0 _
            refine x_iconst (v := 2) rfl ki_2 ?_
            refine z_iadd rfl rfl jk_2 (by omega) (fun v26 ev26 => ?_)
            refine z_iald (N := 50660) rfl J rfl sg_126_20_18020_90_2_3 rfl (by omega) (fun v27 qv27 ev27 => ?_)
            try rw [vrd (jmb_w w1 (jmb_c S22 qv27 rfl) rfl) (show ((20 + (90 * a1.toInt)) + 2) = v26.toInt from by omega)] at D
            refine x_iret rfl rfl ?_
            show jX m_X12_isGood 13 0 0 5 [(0, .ref 125), (1, .int a1)] [.int v27] _ 0 0 _
            refine x_istoren (lsx9 := [(2, .int v27), (0, .ref 125), (1, .int a1)]) rfl rfl rfl ?_
            refine x_aloadn (x := 125) rfl rfl ?_
            refine z_getR (N := 92) (b := 139) 12 29 rfl f_12_72 rfl J rfl 16029 ⟨rfl, rfl⟩ rfl ?_
            refine x_iconst (v := 3) rfl ki_3 ?_
            refine x_iloadn (x := a1) rfl rfl ?_
            refine z_imul rfl jk_3 rfl (by omega) (fun v28 ev28 => ?_)
            refine z_iald (N := 600) rfl J rfl sg_139_0_600_1_0_1 rfl (by omega) (fun v29 qv29 ev29 => ?_)
            try rw [vrd qv29 (show (3 * a1.toInt) = v28.toInt from by omega)] at D
            refine x_istoren (lsx9 := [(3, .int v29), (2, .int v27), (0, .ref 125), (1, .int a1)]) rfl rfl rfl ?_
            refine x_aloadn (x := 125) rfl rfl ?_
            refine x_iloadn (x := a1) rfl rfl ?_
            refine x_inv (N := m_X12_numberOf) (As := [.int a1]) (b := 125) (st := []) (dx9 := 12) (mc := 0) (ms := 0) (host := "") 12 rfl t_X12_numberOf ⟨Or.inl q_12_296, i_X12_numberOf.1, i_X12_numberOf.2⟩ ⟨by decide, rfl⟩ (congrArg Prod.fst (J.1.1 125 (12, 92) rfl)) rfl (by decide) rfl rfl ⟨by decide, by decide⟩ (jC.of rfl k_X12_numberOf rfl ?_)
            show jX m_X12_numberOf 12 0 0 0 [(0, .ref 125), (1, .int a1)] [] _ 0 0 _
            refine x_aloadn (x := 125) rfl rfl ?_
            refine z_getR (N := 92) (b := 126) 12 2 rfl f_12_8 rfl J rfl 16002 ⟨rfl, rfl⟩ rfl ?_
            refine x_aloadn (x := 125) rfl rfl ?_
            refine x_iloadn (x := a1) rfl rfl ?_
            refine x_inv (N := m_X12_at) (As := [.int a1]) (b := 125) (st := [.ref 126]) (dx9 := 11) (mc := 0) (ms := 0) (host := "") 12 rfl t_X12_at ⟨Or.inl q_12_254, i_X12_at.1, i_X12_at.2⟩ ⟨by decide, rfl⟩ (congrArg Prod.fst (J.1.1 125 (12, 92) rfl)) rfl (by decide) rfl rfl ⟨by decide, by decide⟩ (jC.of rfl k_X12_at rfl ?_)
            show jX m_X12_at 11 0 0 0 [(0, .ref 125), (1, .int a1)] [] _ 0 0 _
            refine x_bipush (v := 20) rfl kb_20 ?_
            refine x_bipush (v := 90) rfl kb_90 ?_
            refine x_iloadn (x := a1) rfl rfl ?_
            refine z_imul rfl jk_90 rfl (by omega) (fun v30 ev30 => ?_)
            refine z_iadd rfl jk_20 rfl (by omega) (fun v31 ev31 => ?_)
            refine x_iret rfl rfl ?_
            show jX m_X12_numberOf 12 0 0 9 [(0, .ref 125), (1, .int a1)] [.int v31, .ref 126] _ 0 0 _
            refine x_iconst (v := 4) rfl ki_4 ?_
            refine z_iadd rfl rfl jk_4 (by omega) (fun v32 ev32 => ?_)
            refine z_iald0 (N := 50660) rfl J rfl rfl (by omega) (fun v33 qv33 => ?_)
            have ev33 := jfull v33
            try rw [vrd (jmb_w w1 (jmb_c S22 qv33 rfl) rfl) (show ((20 + (90 * a1.toInt)) + 4) = v32.toInt from by omega)] at D
            refine x_iret rfl rfl ?_
            show jX m_X12_isGood 13 0 0 20 [(3, .int v29), (2, .int v27), (0, .ref 125), (1, .int a1)] [.int v33] _ 0 0 _
            refine x_istore (lsx9 := [(4, .int v33), (3, .int v29), (2, .int v27), (0, .ref 125), (1, .int a1)]) rfl rfl rfl ?_
            refine x_aloadn (x := 125) rfl rfl ?_
            refine x_iloadn (x := v29) rfl rfl ?_
            refine x_iloadn (x := v27) rfl rfl ?_
            refine x_inv (N := m_X12_belongs) (As := [.int v29, .int v27]) (b := 125) (st := []) (dx9 := 12) (mc := 0) (ms := 0) (host := "") 12 rfl t_X12_belongs ⟨Or.inl q_12_792, i_X12_belongs.1, i_X12_belongs.2⟩ ⟨by decide, rfl⟩ (congrArg Prod.fst (J.1.1 125 (12, 92) rfl)) rfl (by decide) rfl rfl ⟨by decide, by decide⟩ (sf_X12_belongs_r125d (jr_of rfl (by omega)) (jr_of rfl (by omega)) hD J rfl  (fun v37 h ev37 J S34 X35 X36 => ?_))
            have Sm := jSm_tr rfl Sm S34
            try rw [X35] at D
            try rw [X36] at D
            show jX m_X12_isGood 13 0 0 28 [(4, .int v33), (3, .int v29), (2, .int v27), (0, .ref 125), (1, .int a1)] [.int v37] _ 0 0 _
            refine x_iload (x := v33) rfl rfl ?_
            refine x_icne (tgt := 63) rfl rfl (ti_ne rfl rfl ⟨fun c38 => ?_, fun c38 => ?_⟩)
            ·
              rw [if_neg (by omega)] at D
              refine x_iconst (v := 0) rfl ki_0 ?_
              refine x_zret rfl rfl (by decide) ?_
              show jX m_X12_order 14 0 0 62 [(0, .ref 125), (1, .int a1), (2, .int a2), (3, .int a3)] [.int 0] _ 0 0 _
              refine x_istore (lsx9 := [(4, .int 0), (0, .ref 125), (1, .int a1), (2, .int a2), (3, .int a3)]) rfl rfl rfl ?_
              refine x_iconst (v := (-1)) rfl ki_m1 ?_
              refine x_istore (lsx9 := [(5, .int (-1)), (4, .int 0), (0, .ref 125), (1, .int a1), (2, .int a2), (3, .int a3)]) rfl rfl rfl ?_
              refine x_aloadn (x := 125) rfl rfl ?_
              refine z_getR (N := 92) (b := 126) 12 2 rfl f_12_8 rfl J rfl 16002 ⟨rfl, rfl⟩ rfl ?_
              refine x_bipush (v := 6) rfl kb_6 ?_
              refine z_iald (N := 50660) rfl J rfl sg_126_6_7_1_0_1 jk_6 (by omega) (fun v39 qv39 ev39 => ?_)
              try rw [vrn (n := 6) (by decide) (jmb_w w1 (jmb_c S22 (jmb_c S34 qv39 rfl) rfl) rfl)] at D
              refine x_iconst (v := 1) rfl ki_1 ?_
              refine z_isub rfl rfl jk_1 (by omega) (fun v40 ev40 => ?_)
              refine x_istore (lsx9 := [(6, .int v40), (5, .int (-1)), (4, .int 0), (0, .ref 125), (1, .int a1), (2, .int a2), (3, .int a3)]) rfl rfl rfl ?_
              try rw [show (v39.toInt - 1) = v40.toInt from by omega] at D
              exact jX.sub (jsb_c rfl (jsb_c rfl (jsb_c rfl (jsb_c rfl (jsb_c rfl (jsb_c rfl (jsb_c rfl jsb_n))))))) (ct_X12_order_r125d_78 hD hQ  41 a1 a2 a3 0 (-1) v40 h (by omega) (jr_of rfl (by omega)) (jr_of rfl (by omega)) (jr_of rfl (by omega)) (jr_of jk_0 (by omega)) (jr_of jk_m1 (by omega)) (jr_of rfl (by omega)) J Sm (by rw [jk_0, jk_m1]; exact D))
            ·
              rw [if_pos (by omega)] at D
              refine x_iload (x := v33) rfl rfl ?_
              refine x_iconst (v := (-1)) rfl ki_m1 ?_
              refine x_iceq (tgt := 63) rfl rfl (ti_eq rfl jk_m1 ⟨fun c41 => ?_, fun c41 => ?_⟩)
              ·
                rw [if_pos (by omega)] at D
                refine x_iconst (v := 0) rfl ki_0 ?_
                refine x_zret rfl rfl (by decide) ?_
                show jX m_X12_order 14 0 0 62 [(0, .ref 125), (1, .int a1), (2, .int a2), (3, .int a3)] [.int 0] _ 0 0 _
                refine x_istore (lsx9 := [(4, .int 0), (0, .ref 125), (1, .int a1), (2, .int a2), (3, .int a3)]) rfl rfl rfl ?_
                refine x_iconst (v := (-1)) rfl ki_m1 ?_
                refine x_istore (lsx9 := [(5, .int (-1)), (4, .int 0), (0, .ref 125), (1, .int a1), (2, .int a2), (3, .int a3)]) rfl rfl rfl ?_
                refine x_aloadn (x := 125) rfl rfl ?_
                refine z_getR (N := 92) (b := 126) 12 2 rfl f_12_8 rfl J rfl 16002 ⟨rfl, rfl⟩ rfl ?_
                refine x_bipush (v := 6) rfl kb_6 ?_
                refine z_iald (N := 50660) rfl J rfl sg_126_6_7_1_0_1 jk_6 (by omega) (fun v42 qv42 ev42 => ?_)
                try rw [vrn (n := 6) (by decide) (jmb_w w1 (jmb_c S22 (jmb_c S34 qv42 rfl) rfl) rfl)] at D
                refine x_iconst (v := 1) rfl ki_1 ?_
                refine z_isub rfl rfl jk_1 (by omega) (fun v43 ev43 => ?_)
                refine x_istore (lsx9 := [(6, .int v43), (5, .int (-1)), (4, .int 0), (0, .ref 125), (1, .int a1), (2, .int a2), (3, .int a3)]) rfl rfl rfl ?_
                try rw [show (v42.toInt - 1) = v43.toInt from by omega] at D
                exact jX.sub (jsb_c rfl (jsb_c rfl (jsb_c rfl (jsb_c rfl (jsb_c rfl (jsb_c rfl (jsb_c rfl jsb_n))))))) (ct_X12_order_r125d_78 hD hQ  41 a1 a2 a3 0 (-1) v43 h (by omega) (jr_of rfl (by omega)) (jr_of rfl (by omega)) (jr_of rfl (by omega)) (jr_of jk_0 (by omega)) (jr_of jk_m1 (by omega)) (jr_of rfl (by omega)) J Sm (by rw [jk_0, jk_m1]; exact D))
              ·
                rw [if_neg (by omega)] at D
                refine x_aloadn (x := 125) rfl rfl ?_
                refine x_iloadn (x := v29) rfl rfl ?_
                refine x_iloadn (x := v27) rfl rfl ?_
                refine x_iload (x := v33) rfl rfl ?_
                refine x_inv (N := m_X12_isCertified) (As := [.int v29, .int v27, .int v33]) (b := 125) (st := []) (dx9 := 2) (mc := 0) (ms := 0) (host := "") 12 rfl t_X12_isCertified ⟨Or.inl q_12_719, i_X12_isCertified.1, i_X12_isCertified.2⟩ ⟨by decide, rfl⟩ (congrArg Prod.fst (J.1.1 125 (12, 92) rfl)) rfl (by decide) rfl rfl ⟨by decide, by decide⟩ (sf_X12_isCertified_r125d (jr_of rfl (by omega)) (jr_of rfl (by omega)) (jr_of rfl (by omega)) hD J rfl  (fun v47 h ev47 J S44 X45 X46 => ?_))
                have Sm := jSm_tr rfl Sm S44
                try rw [X45] at D
                try rw [← X46] at D
                show jX m_X12_isGood 13 0 0 47 [(4, .int v33), (3, .int v29), (2, .int v27), (0, .ref 125), (1, .int a1)] [.int v47] _ 0 0 _
                refine x_ifeq (tgt := 59) rfl rfl (ti_eq rfl jk_0 ⟨fun c48 => ?_, fun c48 => ?_⟩)
                ·
                  rw [if_pos (by omega)] at D
                  refine x_iconst (v := 1) rfl ki_1 ?_
                  refine x_goto (tgt := 64) rfl rfl ?_
                  refine x_zret rfl rfl (by decide) ?_
                  show jX m_X12_order 14 0 0 62 [(0, .ref 125), (1, .int a1), (2, .int a2), (3, .int a3)] [.int 1] _ 0 0 _
                  refine x_istore (lsx9 := [(4, .int 1), (0, .ref 125), (1, .int a1), (2, .int a2), (3, .int a3)]) rfl rfl rfl ?_
                  refine x_iconst (v := (-1)) rfl ki_m1 ?_
                  refine x_istore (lsx9 := [(5, .int (-1)), (4, .int 1), (0, .ref 125), (1, .int a1), (2, .int a2), (3, .int a3)]) rfl rfl rfl ?_
                  refine x_aloadn (x := 125) rfl rfl ?_
                  refine z_getR (N := 92) (b := 126) 12 2 rfl f_12_8 rfl J rfl 16002 ⟨rfl, rfl⟩ rfl ?_
                  refine x_bipush (v := 6) rfl kb_6 ?_
                  refine z_iald (N := 50660) rfl J rfl sg_126_6_7_1_0_1 jk_6 (by omega) (fun v49 qv49 ev49 => ?_)
                  try rw [vrn (n := 6) (by decide) (jmb_w w1 (jmb_c S22 (jmb_c S34 (jmb_c S44 qv49 rfl) rfl) rfl) rfl)] at D
                  refine x_iconst (v := 1) rfl ki_1 ?_
                  refine z_isub rfl rfl jk_1 (by omega) (fun v50 ev50 => ?_)
                  refine x_istore (lsx9 := [(6, .int v50), (5, .int (-1)), (4, .int 1), (0, .ref 125), (1, .int a1), (2, .int a2), (3, .int a3)]) rfl rfl rfl ?_
                  try rw [show (v49.toInt - 1) = v50.toInt from by omega] at D
                  exact jX.sub (jsb_c rfl (jsb_c rfl (jsb_c rfl (jsb_c rfl (jsb_c rfl (jsb_c rfl (jsb_c rfl jsb_n))))))) (ct_X12_order_r125d_78 hD hQ  41 a1 a2 a3 1 (-1) v50 h (by omega) (jr_of rfl (by omega)) (jr_of rfl (by omega)) (jr_of rfl (by omega)) (jr_of jk_1 (by omega)) (jr_of jk_m1 (by omega)) (jr_of rfl (by omega)) J Sm (by rw [jk_1, jk_m1]; exact D))
                ·
                  rw [if_neg (by omega)] at D
                  refine x_aloadn (x := 125) rfl rfl ?_
                  refine x_iloadn (x := v29) rfl rfl ?_
                  refine x_iloadn (x := v27) rfl rfl ?_
                  refine x_inv (N := m_X12_isPoor) (As := [.int v29, .int v27]) (b := 125) (st := []) (dx9 := 12) (mc := 0) (ms := 0) (host := "") 12 rfl t_X12_isPoor ⟨Or.inl q_12_716, i_X12_isPoor.1, i_X12_isPoor.2⟩ ⟨by decide, rfl⟩ (congrArg Prod.fst (J.1.1 125 (12, 92) rfl)) rfl (by decide) rfl rfl ⟨by decide, by decide⟩ (jC.of rfl k_X12_isPoor rfl ?_)
                  show jX m_X12_isPoor 12 0 0 0 [(0, .ref 125), (1, .int v29), (2, .int v27)] [] _ 0 0 _
                  refine x_aloadn (x := 125) rfl rfl ?_
                  refine x_iloadn (x := v29) rfl rfl ?_
                  refine x_iloadn (x := v27) rfl rfl ?_
                  refine x_sipush (v := 365) rfl ks_365 ?_
                  refine z_isub rfl rfl jk_365 (by omega) (fun v51 ev51 => ?_)
                  refine x_iloadn (x := v27) rfl rfl ?_
                  try rw [show (v27.toInt - 365) = v51.toInt from by omega] at D
                  refine x_inv (N := m_X12_reliefOf) (As := [.int v29, .int v51, .int v27]) (b := 125) (st := []) (dx9 := 3) (mc := 0) (ms := 0) (host := "") 12 rfl t_X12_reliefOf ⟨Or.inl q_12_701, i_X12_reliefOf.1, i_X12_reliefOf.2⟩ ⟨by decide, rfl⟩ (congrArg Prod.fst (J.1.1 125 (12, 92) rfl)) rfl (by decide) rfl rfl ⟨by decide, by decide⟩ (sf_X12_reliefOf_r125d (jr_of rfl (by omega)) (jr_of rfl (by omega)) (jr_of rfl (by omega)) hD J rfl  (fun v55 h J S52 X53 X54 => ?_))
                  have ev55 := jfull v55
                  have Sm := jSm_tr rfl Sm S52
                  try rw [X53] at D
                  try rw [← X54] at D
                  show jX m_X12_isPoor 12 0 0 11 [(0, .ref 125), (1, .int v29), (2, .int v27)] [.int v55] _ 0 0 _
                  refine x_ifle (tgt := 18) rfl rfl (ti_le rfl jk_0 ⟨fun c56 => ?_, fun c56 => ?_⟩)
                  ·
                    rw [if_pos (by omega)] at D
                    refine x_iconst (v := 0) rfl ki_0 ?_
                    refine x_zret rfl rfl (by decide) ?_
                    show jX m_X12_isGood 13 0 0 56 [(4, .int v33), (3, .int v29), (2, .int v27), (0, .ref 125), (1, .int a1)] [.int 0] _ 0 0 _
                    refine x_ifeq (tgt := 63) rfl rfl (ti_eq jk_0 jk_0 (br_t (by omega) ?_))
                    refine x_iconst (v := 0) rfl ki_0 ?_
                    refine x_zret rfl rfl (by decide) ?_
                    show jX m_X12_order 14 0 0 62 [(0, .ref 125), (1, .int a1), (2, .int a2), (3, .int a3)] [.int 0] _ 0 0 _
                    refine x_istore (lsx9 := [(4, .int 0), (0, .ref 125), (1, .int a1), (2, .int a2), (3, .int a3)]) rfl rfl rfl ?_
                    refine x_iconst (v := (-1)) rfl ki_m1 ?_
                    refine x_istore (lsx9 := [(5, .int (-1)), (4, .int 0), (0, .ref 125), (1, .int a1), (2, .int a2), (3, .int a3)]) rfl rfl rfl ?_
                    refine x_aloadn (x := 125) rfl rfl ?_
                    refine z_getR (N := 92) (b := 126) 12 2 rfl f_12_8 rfl J rfl 16002 ⟨rfl, rfl⟩ rfl ?_
                    refine x_bipush (v := 6) rfl kb_6 ?_
                    refine z_iald (N := 50660) rfl J rfl sg_126_6_7_1_0_1 jk_6 (by omega) (fun v57 qv57 ev57 => ?_)
                    try rw [vrn (n := 6) (by decide) (jmb_w w1 (jmb_c S22 (jmb_c S34 (jmb_c S44 (jmb_c S52 qv57 rfl) rfl) rfl) rfl) rfl)] at D
                    refine x_iconst (v := 1) rfl ki_1 ?_
                    refine z_isub rfl rfl jk_1 (by omega) (fun v58 ev58 => ?_)
                    refine x_istore (lsx9 := [(6, .int v58), (5, .int (-1)), (4, .int 0), (0, .ref 125), (1, .int a1), (2, .int a2), (3, .int a3)]) rfl rfl rfl ?_
                    try rw [show (v57.toInt - 1) = v58.toInt from by omega] at D
                    exact jX.sub (jsb_c rfl (jsb_c rfl (jsb_c rfl (jsb_c rfl (jsb_c rfl (jsb_c rfl (jsb_c rfl jsb_n))))))) (ct_X12_order_r125d_78 hD hQ  41 a1 a2 a3 0 (-1) v58 h (by omega) (jr_of rfl (by omega)) (jr_of rfl (by omega)) (jr_of rfl (by omega)) (jr_of jk_0 (by omega)) (jr_of jk_m1 (by omega)) (jr_of rfl (by omega)) J Sm (by rw [jk_0, jk_m1]; exact D))
                  ·
                    rw [if_neg (by omega)] at D
                    refine x_iconst (v := 1) rfl ki_1 ?_
                    refine x_goto (tgt := 19) rfl rfl ?_
                    refine x_zret rfl rfl (by decide) ?_
                    show jX m_X12_isGood 13 0 0 56 [(4, .int v33), (3, .int v29), (2, .int v27), (0, .ref 125), (1, .int a1)] [.int 1] _ 0 0 _
                    refine x_ifeq (tgt := 63) rfl rfl (ti_eq jk_1 jk_0 (br_f (by omega) ?_))
                    refine x_iconst (v := 1) rfl ki_1 ?_
                    refine x_goto (tgt := 64) rfl rfl ?_
                    refine x_zret rfl rfl (by decide) ?_
                    show jX m_X12_order 14 0 0 62 [(0, .ref 125), (1, .int a1), (2, .int a2), (3, .int a3)] [.int 1] _ 0 0 _
                    refine x_istore (lsx9 := [(4, .int 1), (0, .ref 125), (1, .int a1), (2, .int a2), (3, .int a3)]) rfl rfl rfl ?_
                    refine x_iconst (v := (-1)) rfl ki_m1 ?_
                    refine x_istore (lsx9 := [(5, .int (-1)), (4, .int 1), (0, .ref 125), (1, .int a1), (2, .int a2), (3, .int a3)]) rfl rfl rfl ?_
                    refine x_aloadn (x := 125) rfl rfl ?_
                    refine z_getR (N := 92) (b := 126) 12 2 rfl f_12_8 rfl J rfl 16002 ⟨rfl, rfl⟩ rfl ?_
                    refine x_bipush (v := 6) rfl kb_6 ?_
                    refine z_iald (N := 50660) rfl J rfl sg_126_6_7_1_0_1 jk_6 (by omega) (fun v59 qv59 ev59 => ?_)
                    try rw [vrn (n := 6) (by decide) (jmb_w w1 (jmb_c S22 (jmb_c S34 (jmb_c S44 (jmb_c S52 qv59 rfl) rfl) rfl) rfl) rfl)] at D
                    refine x_iconst (v := 1) rfl ki_1 ?_
                    refine z_isub rfl rfl jk_1 (by omega) (fun v60 ev60 => ?_)
                    refine x_istore (lsx9 := [(6, .int v60), (5, .int (-1)), (4, .int 1), (0, .ref 125), (1, .int a1), (2, .int a2), (3, .int a3)]) rfl rfl rfl ?_
                    try rw [show (v59.toInt - 1) = v60.toInt from by omega] at D
                    exact jX.sub (jsb_c rfl (jsb_c rfl (jsb_c rfl (jsb_c rfl (jsb_c rfl (jsb_c rfl (jsb_c rfl jsb_n))))))) (ct_X12_order_r125d_78 hD hQ  41 a1 a2 a3 1 (-1) v60 h (by omega) (jr_of rfl (by omega)) (jr_of rfl (by omega)) (jr_of rfl (by omega)) (jr_of jk_1 (by omega)) (jr_of jk_m1 (by omega)) (jr_of rfl (by omega)) J Sm (by rw [jk_1, jk_m1]; exact D))
          ·
            rw [if_neg (by omega)] at D
            exact jX.sub jsb_n (ct_X12_order_r125d_50 hD hQ  h J Sm D)
def fp_X12_owe_r125d : jFp := [(125, 0, 1), (125, 28, 29), (125, 31, 32), (125, 32, 33), (125, 33, 34), (125, 34, 35), (125, 35, 36), (125, 57, 58), (125, 61, 62), (125, 62, 63), (125, 63, 64), (125, 64, 65), (125, 65, 66), (125, 66, 67), (137, 0, 80), (138, 0, 2), (139, 0, 600), (140, 0, 200), (152, 0, 360), (153, 0, 30), (154, 0, 400), (155, 0, 360), (162, 0, 40), (162, 40, 80), (163, 0, 40), (163, 40, 80), (164, 0, 40), (165, 0, 40), (166, 0, 40), (167, 0, 40)]
set_option maxRecDepth 100000 in
set_option maxHeartbeats 4000000 in
theorem ct_X12_owe_r125d_51 {Dy : jH → Prop} {h0 : jH} {Q : Option Value → jH → Prop} {dr : (Int × jW)} (hD : jDk Dy) (hQ : ∀ (v : Int32) hx9, jJ jSgM Dy hx9 → jSm fp_X12_owe_r125d h0 hx9 → dr.1 = v.toInt → dr.2 = vw hx9 → Q (some (.int v)) hx9) : ∀ (h : jH), jJ jSgM Dy h → jSm fp_X12_owe_r125d h0 h → d_X12_owe_r125d_51  (vw h) = dr → jX m_X12_owe 13 0 0 51 [] [] h 0 0 Q := by
  intro  h    J Sm D
  unfold d_X12_owe_r125d_51 at D
  refine x_iconst (v := (-1)) rfl ki_m1 ?_
  refine x_iret rfl rfl ?_
  exact hQ _ _ J Sm ((congrArg Prod.fst D).symm.trans (show (-1) = ((-1) : Int32).toInt from by have := jk_m1; omega)) (congrArg Prod.snd D).symm
set_option maxRecDepth 100000 in
set_option maxHeartbeats 4000000 in
theorem ct_X12_owe_r125d_5000105 {Dy : jH → Prop} {h0 : jH} {Q : Option Value → jH → Prop} {dr : (Int × jW)} {K69 : Int → Int → Int → jW → (Int × jW)} {R69 : Int} (hD : jDk Dy) (hQ : ∀ (v : Int32) hx9, jJ jSgM Dy hx9 → jSm fp_X12_owe_r125d h0 hx9 → dr.1 = v.toInt → dr.2 = vw hx9 → Q (some (.int v)) hx9) (k69 : ∀ (l2 : Int32) (l4 : Int64) (l6 : Int32) (h : jH), 40 - l6.toInt < R69 → (-1) ≤ l2.toInt ∧ l2.toInt ≤ 39 → 0 ≤ l6.toInt ∧ l6.toInt ≤ 40 → jJ jSgM Dy h → jSm fp_X12_owe_r125d h0 h → K69 l2.toInt l4.toInt l6.toInt (vw h) = dr → jX m_X12_owe 13 0 0 69 [(0, .ref 125), (2, .int l2), (4, .long l4), (6, .int l6)] [] h 0 0 Q) : ∀ (l2 : Int32) (l6 : Int32) (s1 : Int64) (h : jH), 0 ≤ l2.toInt ∧ l2.toInt ≤ 39 → 0 ≤ l6.toInt ∧ l6.toInt ≤ 39 → 40 - l6.toInt ≤ R69 → jJ jSgM Dy h → jSm fp_X12_owe_r125d h0 h → d_X12_owe_r125d_5000105 K69  l2.toInt l6.toInt s1.toInt (vw h) = dr → jX m_X12_owe 13 0 0 105 [(0, .ref 125), (2, .int l2), (6, .int l6)] [.long 0, .long s1] h 0 0 Q := by
  intro l2 l6 s1 h y0 y1  m69 J Sm D
  have es1 := jfullL s1
  unfold d_X12_owe_r125d_5000105 at D
  refine z_ladd rfl rfl jkl_0 (by omega) (fun v1 ev1 => ?_)
  refine x_lstore (lsx9 := [(4, .long v1), (0, .ref 125), (2, .int l2), (6, .int l6)]) rfl rfl rfl ?_
  refine z_iinc (x := l6) (lsx9 := fun v2 => [(6, .int v2), (4, .long v1), (0, .ref 125), (2, .int l2)]) rfl rfl rfl jko_1 (by omega) rfl (fun _ => rfl) (fun v2 ev2 => ?_)
  refine x_goto (tgt := 69) rfl rfl ?_
  try rw [show (s1.toInt + 0) = v1.toInt from by omega] at D
  try rw [show (l6.toInt + 1) = v2.toInt from by omega] at D
  exact jX.sub (jsb_c rfl (jsb_c rfl (jsb_c rfl (jsb_c rfl jsb_n)))) (k69 l2 v1 v2 h (by omega) (jr_of rfl (by omega)) (jr_of rfl (by omega)) J Sm D)
set_option maxRecDepth 100000 in
set_option maxHeartbeats 4000000 in
theorem ct_X12_owe_r125d_105 {Dy : jH → Prop} {h0 : jH} {Q : Option Value → jH → Prop} {dr : (Int × jW)} {K69 : Int → Int → Int → jW → (Int × jW)} {R69 : Int} (hD : jDk Dy) (hQ : ∀ (v : Int32) hx9, jJ jSgM Dy hx9 → jSm fp_X12_owe_r125d h0 hx9 → dr.1 = v.toInt → dr.2 = vw hx9 → Q (some (.int v)) hx9) (k69 : ∀ (l2 : Int32) (l4 : Int64) (l6 : Int32) (h : jH), 40 - l6.toInt < R69 → (-1) ≤ l2.toInt ∧ l2.toInt ≤ 39 → 0 ≤ l6.toInt ∧ l6.toInt ≤ 40 → jJ jSgM Dy h → jSm fp_X12_owe_r125d h0 h → K69 l2.toInt l4.toInt l6.toInt (vw h) = dr → jX m_X12_owe 13 0 0 69 [(0, .ref 125), (2, .int l2), (4, .long l4), (6, .int l6)] [] h 0 0 Q) : ∀ (l2 : Int32) (l6 : Int32) (s0 : Int64) (s1 : Int64) (h : jH), (-1) ≤ l2.toInt ∧ l2.toInt ≤ 39 → 0 ≤ l6.toInt ∧ l6.toInt ≤ 39 → 40 - l6.toInt ≤ R69 → jJ jSgM Dy h → jSm fp_X12_owe_r125d h0 h → d_X12_owe_r125d_105 K69  l2.toInt l6.toInt s0.toInt s1.toInt (vw h) = dr → jX m_X12_owe 13 0 0 105 [(0, .ref 125), (2, .int l2), (6, .int l6)] [.long s0, .long s1] h 0 0 Q := by
  intro l2 l6 s0 s1 h y0 y1  m69 J Sm D
  have es0 := jfullL s0
  have es1 := jfullL s1
  unfold d_X12_owe_r125d_105 at D
  refine z_laddW rfl rfl rfl (fun v1 ev1 => ?_)
  have fv1 := jfullL v1
  try rw [← ev1] at D
  refine x_lstore (lsx9 := [(4, .long v1), (0, .ref 125), (2, .int l2), (6, .int l6)]) rfl rfl rfl ?_
  refine z_iinc (x := l6) (lsx9 := fun v2 => [(6, .int v2), (4, .long v1), (0, .ref 125), (2, .int l2)]) rfl rfl rfl jko_1 (by omega) rfl (fun _ => rfl) (fun v2 ev2 => ?_)
  refine x_goto (tgt := 69) rfl rfl ?_
  try rw [show (l6.toInt + 1) = v2.toInt from by omega] at D
  exact jX.sub (jsb_c rfl (jsb_c rfl (jsb_c rfl (jsb_c rfl jsb_n)))) (k69 l2 v1 v2 h (by omega) (jr_of rfl (by omega)) (jr_of rfl (by omega)) J Sm D)
set_option maxRecDepth 100000 in
set_option maxHeartbeats 4000000 in
theorem ct_X12_owe_r125d_94 {Dy : jH → Prop} {h0 : jH} {Q : Option Value → jH → Prop} {dr : (Int × jW)} {K69 : Int → Int → Int → jW → (Int × jW)} {R69 : Int} (hD : jDk Dy) (hQ : ∀ (v : Int32) hx9, jJ jSgM Dy hx9 → jSm fp_X12_owe_r125d h0 hx9 → dr.1 = v.toInt → dr.2 = vw hx9 → Q (some (.int v)) hx9) (k69 : ∀ (l2 : Int32) (l4 : Int64) (l6 : Int32) (h : jH), 40 - l6.toInt < R69 → (-1) ≤ l2.toInt ∧ l2.toInt ≤ 39 → 0 ≤ l6.toInt ∧ l6.toInt ≤ 40 → jJ jSgM Dy h → jSm fp_X12_owe_r125d h0 h → K69 l2.toInt l4.toInt l6.toInt (vw h) = dr → jX m_X12_owe 13 0 0 69 [(0, .ref 125), (2, .int l2), (4, .long l4), (6, .int l6)] [] h 0 0 Q) : ∀ (l2 : Int32) (l6 : Int32) (s0 : Int64) (h : jH), (-1) ≤ l2.toInt ∧ l2.toInt ≤ 39 → 0 ≤ l6.toInt ∧ l6.toInt ≤ 39 → 40 - l6.toInt ≤ R69 → jJ jSgM Dy h → jSm fp_X12_owe_r125d h0 h → d_X12_owe_r125d_94 K69  l2.toInt l6.toInt s0.toInt (vw h) = dr → jX m_X12_owe 13 0 0 94 [(0, .ref 125), (2, .int l2), (6, .int l6)] [.long s0] h 0 0 Q := by
  intro l2 l6 s0 h y0 y1  m69 J Sm D
  have es0 := jfullL s0
  unfold d_X12_owe_r125d_94 at D
  refine x_aloadn (x := 125) rfl rfl ?_
  refine z_getR (N := 92) (b := 165) 12 80 rfl f_12_153 rfl J rfl 16080 ⟨rfl, rfl⟩ rfl ?_
  refine x_iload (x := l6) rfl rfl ?_
  refine z_laldQ (N := 40) rfl J rfl rfl (by omega) (fun v1 qv1 => ?_)
  have ev1 := jfullL v1
  try rw [vrdL qv1 (show l6.toInt = l6.toInt from by omega)] at D
  refine x_goto (tgt := 105) rfl rfl ?_
  exact jX.sub (jsb_c rfl (jsb_c rfl (jsb_c rfl jsb_n))) (ct_X12_owe_r125d_105 hD hQ k69 l2 l6 v1 s0 h (jr_of rfl (by omega)) (jr_of rfl (by omega)) (by omega) J Sm D)
set_option maxRecDepth 100000 in
set_option maxHeartbeats 4000000 in
theorem ct_X12_owe_r125d_69 {Dy : jH → Prop} {h0 : jH} {Q : Option Value → jH → Prop} {dr : (Int × jW)} (hD : jDk Dy) (hQ : ∀ (v : Int32) hx9, jJ jSgM Dy hx9 → jSm fp_X12_owe_r125d h0 hx9 → dr.1 = v.toInt → dr.2 = vw hx9 → Q (some (.int v)) hx9) : ∀ r : Nat, ∀ (l2 : Int32) (l4 : Int64) (l6 : Int32) (h : jH), 40 - l6.toInt < (r : Int) → (-1) ≤ l2.toInt ∧ l2.toInt ≤ 39 → 0 ≤ l6.toInt ∧ l6.toInt ≤ 40 → jJ jSgM Dy h → jSm fp_X12_owe_r125d h0 h → d_X12_owe_r125d_69 r l2.toInt l4.toInt l6.toInt (vw h) = dr → jX m_X12_owe 13 0 0 69 [(0, .ref 125), (2, .int l2), (4, .long l4), (6, .int l6)] [] h 0 0 Q := by
  intro r
  induction r with
  | zero =>
    intro l2 l4 l6 h hm y0 y1   J Sm D
    exfalso
    have el4 := jfullL l4
    omega
  | succ r ih =>
    intro l2 l4 l6 h hm y0 y1   J Sm D
    have el4 := jfullL l4
    rw [d_X12_owe_r125d_69.eq_2] at D
    refine x_iload (x := l6) rfl rfl ?_
    refine x_aloadn (x := 125) rfl rfl ?_
    refine z_getR (N := 92) (b := 126) 12 2 rfl f_12_8 rfl J rfl 16002 ⟨rfl, rfl⟩ rfl ?_
    refine x_bipush (v := 7) rfl kb_7 ?_
    refine z_iald (N := 50660) rfl J rfl sg_126_7_8_1_0_1 jk_7 (by omega) (fun v1 qv1 ev1 => ?_)
    try rw [vrn (n := 7) (by decide) qv1] at D
    refine x_icge (tgt := 114) rfl rfl (ti_ge rfl rfl ⟨fun c2 => ?_, fun c2 => ?_⟩)
    ·
      rw [if_pos (by omega)] at D
      refine x_lload (x := l4) rfl rfl ?_
      refine z_l2iD rfl rfl (fun v3 ev3 => ?_)
      have fv3 := jfull v3
      try rw [← ev3] at D
      refine x_iret rfl rfl ?_
      exact hQ _ _ J Sm ((congrArg Prod.fst D).symm.trans (show v3.toInt = v3.toInt from by omega)) (congrArg Prod.snd D).symm
    ·
      rw [if_neg (by omega)] at D
      refine x_lload (x := l4) rfl rfl ?_
      refine x_iloadn (x := l2) rfl rfl ?_
      refine x_iconst (v := (-1)) rfl ki_m1 ?_
      refine x_iceq (tgt := 94) rfl rfl (ti_eq rfl jk_m1 ⟨fun c4 => ?_, fun c4 => ?_⟩)
      ·
        rw [if_pos (by omega)] at D
        exact jX.sub (jsb_c rfl (jsb_c rfl (jsb_c rfl jsb_n))) (ct_X12_owe_r125d_94 hD hQ ih l2 l6 l4 h (jr_of rfl (by omega)) (jr_of rfl (by omega)) (by omega) J Sm D)
      ·
        rw [if_neg (by omega)] at D
        refine x_iloadn (x := l2) rfl rfl ?_
        refine x_iload (x := l6) rfl rfl ?_
        refine x_icne (tgt := 104) rfl rfl (ti_ne rfl rfl ⟨fun c5 => ?_, fun c5 => ?_⟩)
        ·
          rw [if_neg (by omega)] at D
          refine x_lconst (v := 0) rfl kl_0 ?_
          exact jX.sub (jsb_c rfl (jsb_c rfl (jsb_c rfl jsb_n))) (ct_X12_owe_r125d_5000105 hD hQ ih l2 l6 l4 h (jr_of rfl (by omega)) (jr_of rfl (by omega)) (by omega) J Sm D)
        ·
          rw [if_pos (by omega)] at D
          exact jX.sub (jsb_c rfl (jsb_c rfl (jsb_c rfl jsb_n))) (ct_X12_owe_r125d_94 hD hQ ih l2 l6 l4 h (jr_of rfl (by omega)) (jr_of rfl (by omega)) (by omega) J Sm D)
set_option maxRecDepth 100000 in
set_option maxHeartbeats 4000000 in
theorem ct_X12_owe_r125d_26 {Dy : jH → Prop} {h0 : jH} {Q : Option Value → jH → Prop} {dr : (Int × jW)} (hD : jDk Dy) (hQ : ∀ (v : Int32) hx9, jJ jSgM Dy hx9 → jSm fp_X12_owe_r125d h0 hx9 → dr.1 = v.toInt → dr.2 = vw hx9 → Q (some (.int v)) hx9) : ∀ (l1 : Int32) (l2 : Int32) (l3 : Int32) (h : jH), 0 ≤ l1.toInt ∧ l1.toInt ≤ 39 → (-1) ≤ l2.toInt ∧ l2.toInt ≤ 39 → jJ jSgM Dy h → jSm fp_X12_owe_r125d h0 h → d_X12_owe_r125d_26  l1.toInt l2.toInt l3.toInt (vw h) = dr → jX m_X12_owe 13 0 0 26 [(0, .ref 125), (1, .int l1), (2, .int l2), (3, .int l3)] [] h 0 0 Q := by
  intro l1 l2 l3 h y0 y1   J Sm D
  have el3 := jfull l3
  unfold d_X12_owe_r125d_26 at D
  refine x_iloadn (x := l3) rfl rfl ?_
  refine x_inst (N := m_X12_isDay) (As := [.int l3]) (st := []) (dx9 := 2) (mc := 0) (ms := 0) (host := "") rfl t_X12_isDay ⟨Or.inl q_12_273, s_X12_isDay⟩ rfl (by decide) rfl rfl ⟨by decide, by decide⟩ (zc_X12_isDay (d := 1) rfl (fun v1 ev1 => ?_))
  show jX m_X12_owe 13 0 0 30 [(0, .ref 125), (1, .int l1), (2, .int l2), (3, .int l3)] [.int v1] _ 0 0 _
  refine x_ifeq (tgt := 51) rfl rfl (ti_eq rfl jk_0 ⟨fun c2 => ?_, fun c2 => ?_⟩)
  ·
    rw [if_neg (by omega)] at D
    exact jX.sub jsb_n (ct_X12_owe_r125d_51 hD hQ  h J Sm D)
  ·
    rw [if_pos (by omega)] at D
    refine x_aloadn (x := 125) rfl rfl ?_
    refine z_getR (N := 92) (b := 126) 12 2 rfl f_12_8 rfl J rfl 16002 ⟨rfl, rfl⟩ rfl ?_
    refine x_ldcw (v := 48300) rfl z_12_820 ?_
    refine x_iconst (v := 4) rfl ki_4 ?_
    refine x_iloadn (x := l1) rfl rfl ?_
    refine z_imul rfl jk_4 rfl (by omega) (fun v3 ev3 => ?_)
    refine z_iadd rfl jk_48300 rfl (by omega) (fun v4 ev4 => ?_)
    refine x_iconst (v := 3) rfl ki_3 ?_
    refine z_iadd rfl rfl jk_3 (by omega) (fun v5 ev5 => ?_)
    refine z_iald (N := 50660) rfl J rfl sg_126_48300_48460_4_3_4 rfl (by omega) (fun v6 qv6 ev6 => ?_)
    try rw [vrd qv6 (show ((48300 + (4 * l1.toInt)) + 3) = v5.toInt from by omega)] at D
    refine x_iloadn (x := l3) rfl rfl ?_
    refine x_icle (tgt := 53) rfl rfl (ti_le rfl rfl ⟨fun c7 => ?_, fun c7 => ?_⟩)
    ·
      rw [if_pos (by omega)] at D
      refine x_aloadn (x := 125) rfl rfl ?_
      refine x_iloadn (x := l3) rfl rfl ?_
      refine x_inv (N := m_X12_find) (As := [.int l3]) (b := 125) (st := []) (dx9 := 8) (mc := 0) (ms := 0) (host := "") 12 rfl t_X12_find ⟨Or.inl q_12_393, i_X12_find.1, i_X12_find.2⟩ ⟨by decide, rfl⟩ (congrArg Prod.fst (J.1.1 125 (12, 92) rfl)) rfl (by decide) rfl rfl ⟨by decide, by decide⟩ (sf_X12_find_r125d (jr_of rfl (by omega)) hD J rfl  (fun h J S8 X9 => ?_))
      have Sm := jSm_tr rfl Sm S8
      rw [X9] at D
      show jX m_X12_owe 13 0 0 58 [(0, .ref 125), (1, .int l1), (2, .int l2), (3, .int l3)] [] _ 0 0 _
      refine x_aloadn (x := 125) rfl rfl ?_
      refine x_iloadn (x := l1) rfl rfl ?_
      refine x_inv (N := m_X12_partLevy) (As := [.int l1]) (b := 125) (st := []) (dx9 := 12) (mc := 0) (ms := 0) (host := "") 12 rfl t_X12_partLevy ⟨Or.inl q_12_827, i_X12_partLevy.1, i_X12_partLevy.2⟩ ⟨by decide, rfl⟩ (congrArg Prod.fst (J.1.1 125 (12, 92) rfl)) rfl (by decide) rfl rfl ⟨by decide, by decide⟩ (sf_X12_partLevy_r125d (jr_of rfl (by omega)) hD J rfl  (fun h J S10 X11 => ?_))
      have Sm := jSm_tr rfl Sm S10
      rw [X11] at D
      show jX m_X12_owe 13 0 0 63 [(0, .ref 125), (1, .int l1), (2, .int l2), (3, .int l3)] [] _ 0 0 _
      refine x_lconst (v := 0) rfl kl_0 ?_
      refine x_lstore (lsx9 := [(4, .long 0), (0, .ref 125), (1, .int l1), (2, .int l2), (3, .int l3)]) rfl rfl rfl ?_
      refine x_iconst (v := 0) rfl ki_0 ?_
      refine x_istore (lsx9 := [(6, .int 0), (4, .long 0), (0, .ref 125), (1, .int l1), (2, .int l2), (3, .int l3)]) rfl rfl rfl ?_
      exact jX.sub (jsb_c rfl (jsb_c rfl (jsb_c rfl (jsb_c rfl jsb_n)))) (ct_X12_owe_r125d_69 hD hQ  41 l2 0 0 h (by have := jk_0; omega) (jr_of rfl (by omega)) (jr_of jk_0 (by omega)) J Sm (by rw [jkl_0, jk_0]; exact D))
    ·
      rw [if_neg (by omega)] at D
      exact jX.sub jsb_n (ct_X12_owe_r125d_51 hD hQ  h J Sm D)
set_option maxRecDepth 100000 in
set_option maxHeartbeats 4000000 in
theorem sf_X12_owe_r125d {Dy : jH → Prop} {h : jH} {Q : Option Value → jH → Prop} {dr : (Int × jW)} {a1 : Int32} {a2 : Int32} {a3 : Int32} (hD : jDk Dy) (J : jJ jSgM Dy h) (D : d_X12_owe_r125d a1.toInt a2.toInt a3.toInt (vw h) = dr) (hQ : ∀ (v : Int32) hx9, jJ jSgM Dy hx9 → jSm fp_X12_owe_r125d h hx9 → dr.1 = v.toInt → dr.2 = vw hx9 → Q (some (.int v)) hx9) : jC m_X12_owe 13 0 0 [.ref 125, .int a1, .int a2, .int a3] h Q := by
  refine jC.of rfl k_X12_owe rfl ?_
  have Sm := jSm_rf fp_X12_owe_r125d h
  have ea1 := jfull a1
  have ea2 := jfull a2
  have ea3 := jfull a3
  show jX m_X12_owe 13 0 0 0 [(0, .ref 125), (1, .int a1), (2, .int a2), (3, .int a3)] [] _ 0 0 _
  unfold d_X12_owe_r125d at D
  refine x_aloadn (x := 125) rfl rfl ?_
  refine x_iconst (v := 0) rfl ki_0 ?_
  refine z_putI (N := 92) (w := 0) 12 0 rfl f_12_180 rfl (jfin_no TX12 RX12 92 rfl rfl) hD J Sm rfl rfl jk_0 (pw_125_0 (by omega)) rfl (fun h w1 J Sm => ?_)
  rw [vwf w1 (show 0 = (0 : Int32).toInt from by have := jk_0; omega)] at D
  refine x_aloadn (x := 125) rfl rfl ?_
  refine x_iloadn (x := a1) rfl rfl ?_
  refine x_inv (N := m_X12_isLevy) (As := [.int a1]) (b := 125) (st := []) (dx9 := 12) (mc := 0) (ms := 0) (host := "") 12 rfl t_X12_isLevy ⟨Or.inl q_12_824, i_X12_isLevy.1, i_X12_isLevy.2⟩ ⟨by decide, rfl⟩ (congrArg Prod.fst (J.1.1 125 (12, 92) rfl)) rfl (by decide) rfl rfl ⟨by decide, by decide⟩ (jC.of rfl k_X12_isLevy rfl ?_)
  show jX m_X12_isLevy 12 0 0 0 [(0, .ref 125), (1, .int a1)] [] _ 0 0 _
  refine x_iloadn (x := a1) rfl rfl ?_
  refine z_i2l rfl rfl (fun v2 ev2 => ?_)
  refine x_lconst (v := 0) rfl kl_0 ?_
  refine x_aloadn (x := 125) rfl rfl ?_
  refine z_getR (N := 92) (b := 126) 12 2 rfl f_12_8 rfl J rfl 16002 ⟨rfl, rfl⟩ rfl ?_
  refine x_bipush (v := 11) rfl kb_11 ?_
  refine z_iald (N := 50660) rfl J rfl sg_126_11_12_1_0_1 jk_11 (by omega) (fun v3 qv3 ev3 => ?_)
  try rw [vrn (n := 11) (by decide) (jmb_w w1 qv3 rfl)] at D
  refine z_i2l rfl rfl (fun v4 ev4 => ?_)
  refine x_lconst (v := 1) rfl kl_1 ?_
  refine z_lsub rfl rfl jkl_1 (by omega) (fun v5 ev5 => ?_)
  refine x_inst (N := m_X12_in) (As := [.long v2, .long 0, .long v5]) (st := []) (dx9 := 1) (mc := 0) (ms := 0) (host := "") rfl t_X12_in ⟨Or.inl q_12_188, s_X12_in⟩ rfl (by decide) rfl rfl ⟨by decide, by decide⟩ (zc_X12_in rfl jkl_0 rfl (fun v6 ev6 => ?_))
  show jX m_X12_isLevy 12 0 0 16 [(0, .ref 125), (1, .int a1)] [.int v6] _ 0 0 _
  refine x_zret rfl rfl (jz01 (by omega)) ?_
  show jX m_X12_owe 13 0 0 10 [(0, .ref 125), (1, .int a1), (2, .int a2), (3, .int a3)] [.int v6] _ 0 0 _
  refine x_ifeq (tgt := 51) rfl rfl (ti_eq rfl jk_0 ⟨fun c7 => ?_, fun c7 => ?_⟩)
  ·
    rw [if_neg (by omega)] at D
    exact jX.sub jsb_n (ct_X12_owe_r125d_51 hD hQ  h J Sm D)
  ·
    rw [if_pos (by omega)] at D
    refine x_iloadn (x := a2) rfl rfl ?_
    refine x_iconst (v := (-1)) rfl ki_m1 ?_
    refine x_iceq (tgt := 26) rfl rfl (ti_eq rfl jk_m1 ⟨fun c8 => ?_, fun c8 => ?_⟩)
    ·
      rw [if_pos (by omega)] at D
      exact jX.sub (jsb_c rfl (jsb_c rfl (jsb_c rfl (jsb_c rfl jsb_n)))) (ct_X12_owe_r125d_26 hD hQ  a1 a2 a3 h (jr_of rfl (by omega)) (jr_of rfl (by omega)) J Sm D)
    ·
      rw [if_neg (by omega)] at D
      refine x_aloadn (x := 125) rfl rfl ?_
      refine x_iloadn (x := a2) rfl rfl ?_
      refine x_inv (N := m_X12_isHolding) (As := [.int a2]) (b := 125) (st := []) (dx9 := 12) (mc := 0) (ms := 0) (host := "") 12 rfl t_X12_isHolding ⟨Or.inl q_12_811, i_X12_isHolding.1, i_X12_isHolding.2⟩ ⟨by decide, rfl⟩ (congrArg Prod.fst (J.1.1 125 (12, 92) rfl)) rfl (by decide) rfl rfl ⟨by decide, by decide⟩ (jC.of rfl k_X12_isHolding rfl ?_)
      show jX m_X12_isHolding 12 0 0 0 [(0, .ref 125), (1, .int a2)] [] _ 0 0 _
      refine x_iloadn (x := a2) rfl rfl ?_
      refine z_i2l rfl rfl (fun v9 ev9 => ?_)
      refine x_lconst (v := 0) rfl kl_0 ?_
      refine x_aloadn (x := 125) rfl rfl ?_
      refine z_getR (N := 92) (b := 126) 12 2 rfl f_12_8 rfl J rfl 16002 ⟨rfl, rfl⟩ rfl ?_
      refine x_bipush (v := 7) rfl kb_7 ?_
      refine z_iald (N := 50660) rfl J rfl sg_126_7_8_1_0_1 jk_7 (by omega) (fun v10 qv10 ev10 => ?_)
      try rw [vrn (n := 7) (by decide) (jmb_w w1 qv10 rfl)] at D
      refine z_i2l rfl rfl (fun v11 ev11 => ?_)
      refine x_lconst (v := 1) rfl kl_1 ?_
      refine z_lsub rfl rfl jkl_1 (by omega) (fun v12 ev12 => ?_)
      refine x_inst (N := m_X12_in) (As := [.long v9, .long 0, .long v12]) (st := []) (dx9 := 1) (mc := 0) (ms := 0) (host := "") rfl t_X12_in ⟨Or.inl q_12_188, s_X12_in⟩ rfl (by decide) rfl rfl ⟨by decide, by decide⟩ (zc_X12_in rfl jkl_0 rfl (fun v13 ev13 => ?_))
      show jX m_X12_isHolding 12 0 0 16 [(0, .ref 125), (1, .int a2)] [.int v13] _ 0 0 _
      refine x_zret rfl rfl (jz01 (by omega)) ?_
      show jX m_X12_owe 13 0 0 23 [(0, .ref 125), (1, .int a1), (2, .int a2), (3, .int a3)] [.int v13] _ 0 0 _
      refine x_ifeq (tgt := 51) rfl rfl (ti_eq rfl jk_0 ⟨fun c14 => ?_, fun c14 => ?_⟩)
      ·
        rw [if_neg (by omega)] at D
        exact jX.sub jsb_n (ct_X12_owe_r125d_51 hD hQ  h J Sm D)
      ·
        rw [if_pos (by omega)] at D
        exact jX.sub (jsb_c rfl (jsb_c rfl (jsb_c rfl (jsb_c rfl jsb_n)))) (ct_X12_owe_r125d_26 hD hQ  a1 a2 a3 h (jr_of rfl (by omega)) (jr_of rfl (by omega)) J Sm D)
def fp_X12_pay_r125d : jFp := [(125, 0, 1), (125, 1, 2), (126, 12, 13), (126, 48460, 48960)]
set_option maxRecDepth 100000 in
set_option maxHeartbeats 4000000 in
theorem ct_X12_pay_r125d_33 {Dy : jH → Prop} {h0 : jH} {Q : Option Value → jH → Prop} {dr : (Int × jW)} (hD : jDk Dy) (hQ : ∀ (v : Int32) hx9, jJ jSgM Dy hx9 → jSm fp_X12_pay_r125d h0 hx9 → dr.1 = v.toInt → dr.2 = vw hx9 → Q (some (.int v)) hx9) : ∀ (h : jH), jJ jSgM Dy h → jSm fp_X12_pay_r125d h0 h → d_X12_pay_r125d_33  (vw h) = dr → jX m_X12_pay 3 0 0 33 [(0, .ref 125)] [] h 0 0 Q := by
  intro  h    J Sm D
  unfold d_X12_pay_r125d_33 at D
  refine x_aloadn (x := 125) rfl rfl ?_
  refine x_iconst (v := (-1)) rfl ki_m1 ?_
  refine x_inv (N := m_X12_told) (As := [.int (-1)]) (b := 125) (st := []) (dx9 := 1) (mc := 0) (ms := 0) (host := "") 12 rfl t_X12_told ⟨Or.inl q_12_197, i_X12_told.1, i_X12_told.2⟩ ⟨by decide, rfl⟩ (congrArg Prod.fst (J.1.1 125 (12, 92) rfl)) rfl (by decide) rfl rfl ⟨by decide, by decide⟩ (sf_X12_told_r125d  hD J rfl  (fun v4 h J S1 X2 X3 => ?_))
  have ev4 := jfull v4
  have Sm := jSm_tr rfl Sm S1
  try rw [jk_m1] at X2
  try rw [jk_m1] at X3
  try rw [X2] at D
  try rw [X3] at D
  show jX m_X12_pay 3 0 0 38 [(0, .ref 125)] [.int v4] _ 0 0 _
  refine x_iret rfl rfl ?_
  exact hQ _ _ J Sm ((congrArg Prod.fst D).symm.trans X2) ((congrArg Prod.snd D).symm.trans X3)
set_option maxRecDepth 100000 in
set_option maxHeartbeats 4000000 in
theorem ct_X12_pay_r125d_55 {Dy : jH → Prop} {h0 : jH} {Q : Option Value → jH → Prop} {dr : (Int × jW)} (hD : jDk Dy) (hQ : ∀ (v : Int32) hx9, jJ jSgM Dy hx9 → jSm fp_X12_pay_r125d h0 hx9 → dr.1 = v.toInt → dr.2 = vw hx9 → Q (some (.int v)) hx9) : ∀ (h : jH), jJ jSgM Dy h → jSm fp_X12_pay_r125d h0 h → d_X12_pay_r125d_55  (vw h) = dr → jX m_X12_pay 3 0 0 55 [(0, .ref 125)] [] h 0 0 Q := by
  intro  h    J Sm D
  unfold d_X12_pay_r125d_55 at D
  refine x_aloadn (x := 125) rfl rfl ?_
  refine x_bipush (v := (-2)) rfl kb_m2 ?_
  refine x_inv (N := m_X12_told) (As := [.int (-2)]) (b := 125) (st := []) (dx9 := 1) (mc := 0) (ms := 0) (host := "") 12 rfl t_X12_told ⟨Or.inl q_12_197, i_X12_told.1, i_X12_told.2⟩ ⟨by decide, rfl⟩ (congrArg Prod.fst (J.1.1 125 (12, 92) rfl)) rfl (by decide) rfl rfl ⟨by decide, by decide⟩ (sf_X12_told_r125d  hD J rfl  (fun v4 h J S1 X2 X3 => ?_))
  have ev4 := jfull v4
  have Sm := jSm_tr rfl Sm S1
  try rw [jk_m2] at X2
  try rw [jk_m2] at X3
  try rw [X2] at D
  try rw [X3] at D
  show jX m_X12_pay 3 0 0 61 [(0, .ref 125)] [.int v4] _ 0 0 _
  refine x_iret rfl rfl ?_
  exact hQ _ _ J Sm ((congrArg Prod.fst D).symm.trans X2) ((congrArg Prod.snd D).symm.trans X3)
set_option maxRecDepth 100000 in
set_option maxHeartbeats 4000000 in
theorem sf_X12_pay_r125d {Dy : jH → Prop} {h : jH} {Q : Option Value → jH → Prop} {dr : (Int × jW)} {a1 : Int32} {a2 : Int32} {a3 : Int32} {a4 : Int32} {a5 : Int32} (hD : jDk Dy) (J : jJ jSgM Dy h) (D : d_X12_pay_r125d a1.toInt a2.toInt a3.toInt a4.toInt a5.toInt (vw h) = dr) (hQ : ∀ (v : Int32) hx9, jJ jSgM Dy hx9 → jSm fp_X12_pay_r125d h hx9 → dr.1 = v.toInt → dr.2 = vw hx9 → Q (some (.int v)) hx9) : jC m_X12_pay 3 0 0 [.ref 125, .int a1, .int a2, .int a3, .int a4, .int a5] h Q := by
  refine jC.of rfl k_X12_pay rfl ?_
  have Sm := jSm_rf fp_X12_pay_r125d h
  have ea1 := jfull a1
  have ea2 := jfull a2
  have ea3 := jfull a3
  have ea4 := jfull a4
  have ea5 := jfull a5
  show jX m_X12_pay 3 0 0 0 [(0, .ref 125), (1, .int a1), (2, .int a2), (3, .int a3), (4, .int a4), (5, .int a5)] [] _ 0 0 _
  unfold d_X12_pay_r125d at D
  refine x_aloadn (x := 125) rfl rfl ?_
  refine x_iconst (v := 0) rfl ki_0 ?_
  refine z_putI (N := 92) (w := 0) 12 0 rfl f_12_180 rfl (jfin_no TX12 RX12 92 rfl rfl) hD J Sm rfl rfl jk_0 (pw_125_0 (by omega)) rfl (fun h w1 J Sm => ?_)
  rw [vwf w1 (show 0 = (0 : Int32).toInt from by have := jk_0; omega)] at D
  refine x_iloadn (x := a3) rfl rfl ?_
  refine z_i2l rfl rfl (fun v2 ev2 => ?_)
  refine x_lconst (v := 1) rfl kl_1 ?_
  refine x_ldc2 (v := 1000000) rfl z_12_244 ?_
  refine x_inst (N := m_X12_in) (As := [.long v2, .long 1, .long 1000000]) (st := []) (dx9 := 1) (mc := 0) (ms := 0) (host := "") rfl t_X12_in ⟨Or.inl q_12_188, s_X12_in⟩ rfl (by decide) rfl rfl ⟨by decide, by decide⟩ (zc_X12_in rfl jkl_1 jkl_1000000 (fun v3 ev3 => ?_))
  show jX m_X12_pay 3 0 0 14 [(0, .ref 125), (1, .int a1), (2, .int a2), (3, .int a3), (4, .int a4), (5, .int a5)] [.int v3] _ 0 0 _
  refine x_ifeq (tgt := 33) rfl rfl (ti_eq rfl jk_0 ⟨fun c4 => ?_, fun c4 => ?_⟩)
  ·
    rw [if_neg (by omega)] at D
    exact jX.sub (jsb_c rfl jsb_n) (ct_X12_pay_r125d_33 hD hQ  h J Sm D)
  ·
    rw [if_pos (by omega)] at D
    refine x_iload (x := a4) rfl rfl ?_
    refine x_inst (N := m_X12_isDay) (As := [.int a4]) (st := []) (dx9 := 2) (mc := 0) (ms := 0) (host := "") rfl t_X12_isDay ⟨Or.inl q_12_273, s_X12_isDay⟩ rfl (by decide) rfl rfl ⟨by decide, by decide⟩ (zc_X12_isDay (d := 1) rfl (fun v5 ev5 => ?_))
    show jX m_X12_pay 3 0 0 22 [(0, .ref 125), (1, .int a1), (2, .int a2), (3, .int a3), (4, .int a4), (5, .int a5)] [.int v5] _ 0 0 _
    refine x_ifeq (tgt := 33) rfl rfl (ti_eq rfl jk_0 ⟨fun c6 => ?_, fun c6 => ?_⟩)
    ·
      rw [if_neg (by omega)] at D
      exact jX.sub (jsb_c rfl jsb_n) (ct_X12_pay_r125d_33 hD hQ  h J Sm D)
    ·
      rw [if_pos (by omega)] at D
      refine x_iload (x := a5) rfl rfl ?_
      refine x_inst (N := m_X12_isDay) (As := [.int a5]) (st := []) (dx9 := 2) (mc := 0) (ms := 0) (host := "") rfl t_X12_isDay ⟨Or.inl q_12_273, s_X12_isDay⟩ rfl (by decide) rfl rfl ⟨by decide, by decide⟩ (zc_X12_isDay (d := 1) rfl (fun v7 ev7 => ?_))
      show jX m_X12_pay 3 0 0 30 [(0, .ref 125), (1, .int a1), (2, .int a2), (3, .int a3), (4, .int a4), (5, .int a5)] [.int v7] _ 0 0 _
      refine x_ifne (tgt := 39) rfl rfl (ti_ne rfl jk_0 ⟨fun c8 => ?_, fun c8 => ?_⟩)
      ·
        rw [if_pos (by omega)] at D
        refine x_aloadn (x := 125) rfl rfl ?_
        refine x_iloadn (x := a1) rfl rfl ?_
        refine x_inv (N := m_X12_isLevy) (As := [.int a1]) (b := 125) (st := []) (dx9 := 2) (mc := 0) (ms := 0) (host := "") 12 rfl t_X12_isLevy ⟨Or.inl q_12_824, i_X12_isLevy.1, i_X12_isLevy.2⟩ ⟨by decide, rfl⟩ (congrArg Prod.fst (J.1.1 125 (12, 92) rfl)) rfl (by decide) rfl rfl ⟨by decide, by decide⟩ (jC.of rfl k_X12_isLevy rfl ?_)
        show jX m_X12_isLevy 2 0 0 0 [(0, .ref 125), (1, .int a1)] [] _ 0 0 _
        refine x_iloadn (x := a1) rfl rfl ?_
        refine z_i2l rfl rfl (fun v9 ev9 => ?_)
        refine x_lconst (v := 0) rfl kl_0 ?_
        refine x_aloadn (x := 125) rfl rfl ?_
        refine z_getR (N := 92) (b := 126) 12 2 rfl f_12_8 rfl J rfl 16002 ⟨rfl, rfl⟩ rfl ?_
        refine x_bipush (v := 11) rfl kb_11 ?_
        refine z_iald (N := 50660) rfl J rfl sg_126_11_12_1_0_1 jk_11 (by omega) (fun v10 qv10 ev10 => ?_)
        try rw [vrn (n := 11) (by decide) (jmb_w w1 qv10 rfl)] at D
        refine z_i2l rfl rfl (fun v11 ev11 => ?_)
        refine x_lconst (v := 1) rfl kl_1 ?_
        refine z_lsub rfl rfl jkl_1 (by omega) (fun v12 ev12 => ?_)
        refine x_inst (N := m_X12_in) (As := [.long v9, .long 0, .long v12]) (st := []) (dx9 := 1) (mc := 0) (ms := 0) (host := "") rfl t_X12_in ⟨Or.inl q_12_188, s_X12_in⟩ rfl (by decide) rfl rfl ⟨by decide, by decide⟩ (zc_X12_in rfl jkl_0 rfl (fun v13 ev13 => ?_))
        show jX m_X12_isLevy 2 0 0 16 [(0, .ref 125), (1, .int a1)] [.int v13] _ 0 0 _
        refine x_zret rfl rfl (jz01 (by omega)) ?_
        show jX m_X12_pay 3 0 0 44 [(0, .ref 125), (1, .int a1), (2, .int a2), (3, .int a3), (4, .int a4), (5, .int a5)] [.int v13] _ 0 0 _
        refine x_ifeq (tgt := 55) rfl rfl (ti_eq rfl jk_0 ⟨fun c14 => ?_, fun c14 => ?_⟩)
        ·
          rw [if_neg (by omega)] at D
          exact jX.sub (jsb_c rfl jsb_n) (ct_X12_pay_r125d_55 hD hQ  h J Sm D)
        ·
          rw [if_pos (by omega)] at D
          refine x_aloadn (x := 125) rfl rfl ?_
          refine x_iloadn (x := a2) rfl rfl ?_
          refine x_inv (N := m_X12_isHolding) (As := [.int a2]) (b := 125) (st := []) (dx9 := 2) (mc := 0) (ms := 0) (host := "") 12 rfl t_X12_isHolding ⟨Or.inl q_12_811, i_X12_isHolding.1, i_X12_isHolding.2⟩ ⟨by decide, rfl⟩ (congrArg Prod.fst (J.1.1 125 (12, 92) rfl)) rfl (by decide) rfl rfl ⟨by decide, by decide⟩ (jC.of rfl k_X12_isHolding rfl ?_)
          show jX m_X12_isHolding 2 0 0 0 [(0, .ref 125), (1, .int a2)] [] _ 0 0 _
          refine x_iloadn (x := a2) rfl rfl ?_
          refine z_i2l rfl rfl (fun v15 ev15 => ?_)
          refine x_lconst (v := 0) rfl kl_0 ?_
          refine x_aloadn (x := 125) rfl rfl ?_
          refine z_getR (N := 92) (b := 126) 12 2 rfl f_12_8 rfl J rfl 16002 ⟨rfl, rfl⟩ rfl ?_
          refine x_bipush (v := 7) rfl kb_7 ?_
          refine z_iald (N := 50660) rfl J rfl sg_126_7_8_1_0_1 jk_7 (by omega) (fun v16 qv16 ev16 => ?_)
          try rw [vrn (n := 7) (by decide) (jmb_w w1 qv16 rfl)] at D
          refine z_i2l rfl rfl (fun v17 ev17 => ?_)
          refine x_lconst (v := 1) rfl kl_1 ?_
          refine z_lsub rfl rfl jkl_1 (by omega) (fun v18 ev18 => ?_)
          refine x_inst (N := m_X12_in) (As := [.long v15, .long 0, .long v18]) (st := []) (dx9 := 1) (mc := 0) (ms := 0) (host := "") rfl t_X12_in ⟨Or.inl q_12_188, s_X12_in⟩ rfl (by decide) rfl rfl ⟨by decide, by decide⟩ (zc_X12_in rfl jkl_0 rfl (fun v19 ev19 => ?_))
          show jX m_X12_isHolding 2 0 0 16 [(0, .ref 125), (1, .int a2)] [.int v19] _ 0 0 _
          refine x_zret rfl rfl (jz01 (by omega)) ?_
          show jX m_X12_pay 3 0 0 52 [(0, .ref 125), (1, .int a1), (2, .int a2), (3, .int a3), (4, .int a4), (5, .int a5)] [.int v19] _ 0 0 _
          refine x_ifne (tgt := 62) rfl rfl (ti_ne rfl jk_0 ⟨fun c20 => ?_, fun c20 => ?_⟩)
          ·
            rw [if_pos (by omega)] at D
            refine x_aloadn (x := 125) rfl rfl ?_
            refine z_getR (N := 92) (b := 126) 12 2 rfl f_12_8 rfl J rfl 16002 ⟨rfl, rfl⟩ rfl ?_
            refine x_bipush (v := 12) rfl kb_12 ?_
            refine z_iald (N := 50660) rfl J rfl sg_126_12_13_1_0_1 jk_12 (by omega) (fun v21 qv21 ev21 => ?_)
            try rw [vrn (n := 12) (by decide) (jmb_w w1 qv21 rfl)] at D
            refine x_bipush (v := 100) rfl kb_100 ?_
            refine x_icne (tgt := 81) rfl rfl (ti_ne rfl jk_100 ⟨fun c22 => ?_, fun c22 => ?_⟩)
            ·
              rw [if_neg (by omega)] at D
              refine x_ldcw (v := 48460) rfl z_12_830 ?_
              refine x_iconst (v := 5) rfl ki_5 ?_
              refine x_aloadn (x := 125) rfl rfl ?_
              refine z_getR (N := 92) (b := 126) 12 2 rfl f_12_8 rfl J rfl 16002 ⟨rfl, rfl⟩ rfl ?_
              refine x_bipush (v := 12) rfl kb_12 ?_
              refine z_ialdM (N := 50660) (v := v21) rfl J rfl jk_12 (by omega) qv21 ?_
              refine z_imul rfl jk_5 rfl (by omega) (fun v23 ev23 => ?_)
              refine z_iadd rfl jk_48460 rfl (by omega) (fun v24 ev24 => ?_)
              refine x_istore (lsx9 := [(6, .int v24), (0, .ref 125), (1, .int a1), (2, .int a2), (3, .int a3), (4, .int a4), (5, .int a5)]) rfl rfl rfl ?_
              refine x_aloadn (x := 125) rfl rfl ?_
              refine x_iload (x := v24) rfl rfl ?_
              refine x_iloadn (x := a1) rfl rfl ?_
              refine x_iloadn (x := a2) rfl rfl ?_
              refine x_iloadn (x := a3) rfl rfl ?_
              refine x_iload (x := a4) rfl rfl ?_
              refine x_inv (N := m_X12_addFour) (As := [.int v24, .int a1, .int a2, .int a3, .int a4]) (b := 125) (st := []) (dx9 := 2) (mc := 0) (ms := 0) (host := "") 12 rfl t_X12_addFour ⟨Or.inl q_12_814, i_X12_addFour.1, i_X12_addFour.2⟩ ⟨by decide, rfl⟩ (congrArg Prod.fst (J.1.1 125 (12, 92) rfl)) rfl (by decide) rfl rfl ⟨by decide, by decide⟩ (jC.of rfl k_X12_addFour rfl ?_)
              show jX m_X12_addFour 2 0 0 0 [(0, .ref 125), (1, .int v24), (2, .int a1), (3, .int a2), (4, .int a3), (5, .int a4)] [] _ 0 0 _
              refine x_aloadn (x := 125) rfl rfl ?_
              refine z_getR (N := 92) (b := 126) 12 2 rfl f_12_8 rfl J rfl 16002 ⟨rfl, rfl⟩ rfl ?_
              refine x_iloadn (x := v24) rfl rfl ?_
              refine x_iloadn (x := a1) rfl rfl ?_
              refine z_iast (N := 50660) (l := 48460) (u := 48960) (w := a1.toInt) rfl hD J Sm rfl rfl rfl (by omega) rfl (wr_126_48460 (by omega) (fun q1 q2 q3 q4 => by omega) (fun q1 q2 q3 q4 => by omega) (fun q1 q2 q3 q4 => by omega) (fun q1 q2 q3 q4 => by omega) (fun q1 q2 q3 q4 => by omega)) rfl (fun h w25 J Sm => ?_)
              rw [vww w25 (show (48460 + (5 * v21.toInt)) = v24.toInt from by omega) (show a1.toInt = a1.toInt from by omega)] at D
              refine x_aloadn (x := 125) rfl rfl ?_
              refine z_getR (N := 92) (b := 126) 12 2 rfl f_12_8 rfl J rfl 16002 ⟨rfl, rfl⟩ rfl ?_
              refine x_iloadn (x := v24) rfl rfl ?_
              refine x_iconst (v := 1) rfl ki_1 ?_
              refine z_iadd rfl rfl jk_1 (by omega) (fun v26 ev26 => ?_)
              refine x_iloadn (x := a2) rfl rfl ?_
              refine z_iast (N := 50660) (l := 48460) (u := 48960) (w := a2.toInt) rfl hD J Sm rfl rfl rfl (by omega) rfl (wr_126_48460 (by omega) (fun q1 q2 q3 q4 => by omega) (fun q1 q2 q3 q4 => by omega) (fun q1 q2 q3 q4 => by omega) (fun q1 q2 q3 q4 => by omega) (fun q1 q2 q3 q4 => by omega)) rfl (fun h w27 J Sm => ?_)
              rw [vww w27 (show ((48460 + (5 * v21.toInt)) + 1) = v26.toInt from by omega) (show a2.toInt = a2.toInt from by omega)] at D
              refine x_aloadn (x := 125) rfl rfl ?_
              refine z_getR (N := 92) (b := 126) 12 2 rfl f_12_8 rfl J rfl 16002 ⟨rfl, rfl⟩ rfl ?_
              refine x_iloadn (x := v24) rfl rfl ?_
              refine x_iconst (v := 2) rfl ki_2 ?_
              refine z_iadd rfl rfl jk_2 (by omega) (fun v28 ev28 => ?_)
              refine x_iload (x := a3) rfl rfl ?_
              refine z_iast (N := 50660) (l := 48460) (u := 48960) (w := a3.toInt) rfl hD J Sm rfl rfl rfl (by omega) rfl (wr_126_48460 (by omega) (fun q1 q2 q3 q4 => by omega) (fun q1 q2 q3 q4 => by omega) (fun q1 q2 q3 q4 => by omega) (fun q1 q2 q3 q4 => by omega) (fun q1 q2 q3 q4 => by omega)) rfl (fun h w29 J Sm => ?_)
              rw [vww w29 (show ((48460 + (5 * v21.toInt)) + 2) = v28.toInt from by omega) (show a3.toInt = a3.toInt from by omega)] at D
              refine x_aloadn (x := 125) rfl rfl ?_
              refine z_getR (N := 92) (b := 126) 12 2 rfl f_12_8 rfl J rfl 16002 ⟨rfl, rfl⟩ rfl ?_
              refine x_iloadn (x := v24) rfl rfl ?_
              refine x_iconst (v := 3) rfl ki_3 ?_
              refine z_iadd rfl rfl jk_3 (by omega) (fun v30 ev30 => ?_)
              refine x_iload (x := a4) rfl rfl ?_
              refine z_iast (N := 50660) (l := 48460) (u := 48960) (w := a4.toInt) rfl hD J Sm rfl rfl rfl (by omega) rfl (wr_126_48460 (by omega) (fun q1 q2 q3 q4 => by omega) (fun q1 q2 q3 q4 => by omega) (fun q1 q2 q3 q4 => by omega) (fun q1 q2 q3 q4 => by omega) (fun q1 q2 q3 q4 => by omega)) rfl (fun h w31 J Sm => ?_)
              rw [vww w31 (show ((48460 + (5 * v21.toInt)) + 3) = v30.toInt from by omega) (show a4.toInt = a4.toInt from by omega)] at D
              refine x_vret rfl rfl ?_
              show jX m_X12_pay 3 0 0 107 [(6, .int v24), (0, .ref 125), (1, .int a1), (2, .int a2), (3, .int a3), (4, .int a4), (5, .int a5)] [] _ 0 0 _
              refine x_aloadn (x := 125) rfl rfl ?_
              refine z_getR (N := 92) (b := 126) 12 2 rfl f_12_8 rfl J rfl 16002 ⟨rfl, rfl⟩ rfl ?_
              refine x_iload (x := v24) rfl rfl ?_
              refine x_iconst (v := 4) rfl ki_4 ?_
              refine z_iadd rfl rfl jk_4 (by omega) (fun v32 ev32 => ?_)
              refine x_iload (x := a5) rfl rfl ?_
              refine z_iast (N := 50660) (l := 48460) (u := 48960) (w := a5.toInt) rfl hD J Sm rfl rfl rfl (by omega) rfl (wr_126_48460 (by omega) (fun q1 q2 q3 q4 => by omega) (fun q1 q2 q3 q4 => by omega) (fun q1 q2 q3 q4 => by omega) (fun q1 q2 q3 q4 => by omega) (fun q1 q2 q3 q4 => by omega)) rfl (fun h w33 J Sm => ?_)
              rw [vww w33 (show ((48460 + (5 * v21.toInt)) + 4) = v32.toInt from by omega) (show a5.toInt = a5.toInt from by omega)] at D
              refine x_aloadn (x := 125) rfl rfl ?_
              refine z_getR (N := 92) (b := 126) 12 2 rfl f_12_8 rfl J rfl 16002 ⟨rfl, rfl⟩ rfl ?_
              refine x_bipush (v := 12) rfl kb_12 ?_
              refine x_dup2 rfl rfl rfl ?_
              refine z_ialdM (N := 50660) (v := v21) rfl J rfl jk_12 (by omega) (jmo2 w33 rfl jk_12 (by omega) (jmo2 w31 rfl jk_12 (by omega) (jmo2 w29 rfl jk_12 (by omega) (jmo2 w27 rfl jk_12 (by omega) (jmo2 w25 rfl jk_12 (by omega) qv21))))) ?_
              refine x_iconst (v := 1) rfl ki_1 ?_
              refine z_iadd rfl rfl jk_1 (by omega) (fun v34 ev34 => ?_)
              refine z_iast (N := 50660) (l := 12) (u := 13) (w := v34.toInt) rfl hD J Sm rfl rfl jk_12 (by omega) rfl (wr_126_12 (by omega) (fun q1 q2 q3 q4 => by omega)) rfl (fun h w35 J Sm => ?_)
              rw [vwn (n := 12) (by decide) w35 (show (v21.toInt + 1) = v34.toInt from by omega)] at D
              refine x_aloadn (x := 125) rfl rfl ?_
              refine x_aloadn (x := 125) rfl rfl ?_
              refine z_getR (N := 92) (b := 126) 12 2 rfl f_12_8 rfl J rfl 16002 ⟨rfl, rfl⟩ rfl ?_
              refine x_bipush (v := 12) rfl kb_12 ?_
              refine z_ialdM (N := 50660) (v := v34) rfl J rfl jk_12 (by omega) (jmw w35) ?_
              try rw [show (v21.toInt + 1) = v34.toInt from by omega] at D
              refine x_inv (N := m_X12_told) (As := [.int v34]) (b := 125) (st := []) (dx9 := 1) (mc := 0) (ms := 0) (host := "") 12 rfl t_X12_told ⟨Or.inl q_12_197, i_X12_told.1, i_X12_told.2⟩ ⟨by decide, rfl⟩ (congrArg Prod.fst (J.1.1 125 (12, 92) rfl)) rfl (by decide) rfl rfl ⟨by decide, by decide⟩ (sf_X12_told_r125d  hD J rfl  (fun v39 h J S36 X37 X38 => ?_))
              have ev39 := jfull v39
              have Sm := jSm_tr rfl Sm S36
              try rw [X37] at D
              try rw [X38] at D
              show jX m_X12_pay 3 0 0 140 [(6, .int v24), (0, .ref 125), (1, .int a1), (2, .int a2), (3, .int a3), (4, .int a4), (5, .int a5)] [.int v39] _ 0 0 _
              refine x_iret rfl rfl ?_
              exact hQ _ _ J Sm ((congrArg Prod.fst D).symm.trans X37) ((congrArg Prod.snd D).symm.trans X38)
            ·
              rw [if_pos (by omega)] at D
              refine x_aloadn (x := 125) rfl rfl ?_
              refine x_bipush (v := (-5)) rfl kb_m5 ?_
              refine x_inv (N := m_X12_told) (As := [.int (-5)]) (b := 125) (st := []) (dx9 := 1) (mc := 0) (ms := 0) (host := "") 12 rfl t_X12_told ⟨Or.inl q_12_197, i_X12_told.1, i_X12_told.2⟩ ⟨by decide, rfl⟩ (congrArg Prod.fst (J.1.1 125 (12, 92) rfl)) rfl (by decide) rfl rfl ⟨by decide, by decide⟩ (sf_X12_told_r125d  hD J rfl  (fun v43 h J S40 X41 X42 => ?_))
              have ev43 := jfull v43
              have Sm := jSm_tr rfl Sm S40
              try rw [jk_m5] at X41
              try rw [jk_m5] at X42
              try rw [X41] at D
              try rw [X42] at D
              show jX m_X12_pay 3 0 0 80 [(0, .ref 125), (1, .int a1), (2, .int a2), (3, .int a3), (4, .int a4), (5, .int a5)] [.int v43] _ 0 0 _
              refine x_iret rfl rfl ?_
              exact hQ _ _ J Sm ((congrArg Prod.fst D).symm.trans X41) ((congrArg Prod.snd D).symm.trans X42)
          ·
            rw [if_neg (by omega)] at D
            exact jX.sub (jsb_c rfl jsb_n) (ct_X12_pay_r125d_55 hD hQ  h J Sm D)
      ·
        rw [if_neg (by omega)] at D
        exact jX.sub (jsb_c rfl jsb_n) (ct_X12_pay_r125d_33 hD hQ  h J Sm D)
def fp_X12_piece_r125d : jFp := [(125, 0, 1)]
set_option maxRecDepth 100000 in
set_option maxHeartbeats 4000000 in
theorem ct_X12_piece_r125d_47 {Dy : jH → Prop} {h0 : jH} {Q : Option Value → jH → Prop} {dr : (Int × jW)} (hD : jDk Dy) (hQ : ∀ (v : Int32) hx9, jJ jSgM Dy hx9 → jSm fp_X12_piece_r125d h0 hx9 → dr.1 = v.toInt → dr.2 = vw hx9 → Q (some (.int v)) hx9) : ∀ (h : jH), jJ jSgM Dy h → jSm fp_X12_piece_r125d h0 h → d_X12_piece_r125d_47  (vw h) = dr → jX m_X12_piece 4 0 0 47 [] [] h 0 0 Q := by
  intro  h    J Sm D
  unfold d_X12_piece_r125d_47 at D
  refine x_bipush (v := (-2)) rfl kb_m2 ?_
  refine x_iret rfl rfl ?_
  exact hQ _ _ J Sm ((congrArg Prod.fst D).symm.trans (show (-2) = ((-2) : Int32).toInt from by have := jk_m2; omega)) (congrArg Prod.snd D).symm
set_option maxRecDepth 100000 in
set_option maxHeartbeats 4000000 in
theorem ct_X12_piece_r125d_87 {Dy : jH → Prop} {h0 : jH} {Q : Option Value → jH → Prop} {dr : (Int × jW)} (hD : jDk Dy) (hQ : ∀ (v : Int32) hx9, jJ jSgM Dy hx9 → jSm fp_X12_piece_r125d h0 hx9 → dr.1 = v.toInt → dr.2 = vw hx9 → Q (some (.int v)) hx9) : ∀ r : Nat, ∀ (l3 : Int32) (l4 : Int32) (l5 : Int32) (l6 : Int32) (l7 : Int32) (h : jH), 6 - l7.toInt < (r : Int) → 0 ≤ l3.toInt ∧ l3.toInt ≤ 12 → 0 ≤ l4.toInt ∧ l4.toInt ≤ 6 → 26 ≤ l5.toInt ∧ l5.toInt ≤ 18006 → l5.toInt % 2 = 0 → 0 ≤ l7.toInt ∧ l7.toInt ≤ 6 → (l5.toInt % 90 = 6 ∨ l5.toInt % 90 = 26 ∨ l5.toInt % 90 = 40 ∨ l5.toInt % 90 = 54 ∨ l5.toInt % 90 = 68 ∨ l5.toInt % 90 = 82) → l3.toInt + l4.toInt ≤ 12 → jJ jSgM Dy h → jSm fp_X12_piece_r125d h0 h → d_X12_piece_r125d_87 r l3.toInt l4.toInt l5.toInt l6.toInt l7.toInt (vw h) = dr → jX m_X12_piece 4 0 0 87 [(0, .ref 125), (3, .int l3), (4, .int l4), (5, .int l5), (6, .int l6), (7, .int l7)] [] h 0 0 Q := by
  intro r
  induction r with
  | zero =>
    intro l3 l4 l5 l6 l7 h hm y0 y1 y2 y3 y4 y5 y6   J Sm D
    exfalso
    have el6 := jfull l6
    omega
  | succ r ih =>
    intro l3 l4 l5 l6 l7 h hm y0 y1 y2 y3 y4 y5 y6   J Sm D
    have el6 := jfull l6
    rw [d_X12_piece_r125d_87.eq_2] at D
    refine x_iload (x := l7) rfl rfl ?_
    refine x_iload (x := l4) rfl rfl ?_
    refine x_icge (tgt := 125) rfl rfl (ti_ge rfl rfl ⟨fun c1 => ?_, fun c1 => ?_⟩)
    ·
      rw [if_pos (by omega)] at D
      refine x_iload (x := l6) rfl rfl ?_
      refine x_iret rfl rfl ?_
      exact hQ _ _ J Sm ((congrArg Prod.fst D).symm.trans (show l6.toInt = l6.toInt from by omega)) (congrArg Prod.snd D).symm
    ·
      rw [if_neg (by omega)] at D
      refine x_bipush (v := 27) rfl kb_27 ?_
      refine x_iload (x := l6) rfl rfl ?_
      refine z_imulW rfl jk_27 rfl (fun v2 ev2 => ?_)
      have fv2 := jfull v2
      try rw [← ev2] at D
      refine x_aloadn (x := 125) rfl rfl ?_
      refine z_getR (N := 92) (b := 126) 12 2 rfl f_12_8 rfl J rfl 16002 ⟨rfl, rfl⟩ rfl ?_
      refine x_iload (x := l5) rfl rfl ?_
      refine x_iconst (v := 2) rfl ki_2 ?_
      refine z_iadd rfl rfl jk_2 (by omega) (fun v3 ev3 => ?_)
      refine x_iloadn (x := l3) rfl rfl ?_
      refine z_iadd rfl rfl rfl (by omega) (fun v4 ev4 => ?_)
      refine x_iload (x := l7) rfl rfl ?_
      refine z_iadd rfl rfl rfl (by omega) (fun v5 ev5 => ?_)
      refine z_iald0 (N := 50660) rfl J rfl rfl (by omega) (fun v6 qv6 => ?_)
      have ev6 := jfull v6
      try rw [vrd qv6 (show (((l5.toInt + 2) + l3.toInt) + l7.toInt) = v5.toInt from by omega)] at D
      refine z_iaddW rfl rfl rfl (fun v7 ev7 => ?_)
      have fv7 := jfull v7
      try rw [← ev7] at D
      refine x_bipush (v := 96) rfl kb_96 ?_
      refine z_isubW rfl rfl jk_96 (fun v8 ev8 => ?_)
      have fv8 := jfull v8
      try rw [← ev8] at D
      refine x_istore (lsx9 := [(6, .int v8), (0, .ref 125), (3, .int l3), (4, .int l4), (5, .int l5), (7, .int l7)]) rfl rfl rfl ?_
      refine z_iinc (x := l7) (lsx9 := fun v9 => [(7, .int v9), (6, .int v8), (0, .ref 125), (3, .int l3), (4, .int l4), (5, .int l5)]) rfl rfl rfl jko_1 (by omega) rfl (fun _ => rfl) (fun v9 ev9 => ?_)
      refine x_goto (tgt := 87) rfl rfl ?_
      try rw [show (l7.toInt + 1) = v9.toInt from by omega] at D
      exact jX.sub (jsb_c rfl (jsb_c rfl (jsb_c rfl (jsb_c rfl (jsb_c rfl (jsb_c rfl jsb_n)))))) (ih l3 l4 l5 v8 v9 h (by omega) (jr_of rfl (by omega)) (jr_of rfl (by omega)) (jr_of rfl (by omega)) (jr_mod rfl (by omega)) (jr_of rfl (by omega)) (by omega) (by omega) J Sm D)
set_option maxRecDepth 100000 in
set_option maxHeartbeats 4000000 in
theorem sf_X12_piece_r125d {Dy : jH → Prop} {h : jH} {Q : Option Value → jH → Prop} {dr : (Int × jW)} {a1 : Int32} {a2 : Int32} {a3 : Int32} {a4 : Int32} (hD : jDk Dy) (J : jJ jSgM Dy h) (D : d_X12_piece_r125d a1.toInt a2.toInt a3.toInt a4.toInt (vw h) = dr) (hQ : ∀ (v : Int32) hx9, jJ jSgM Dy hx9 → jSm fp_X12_piece_r125d h hx9 → dr.1 = v.toInt → dr.2 = vw hx9 → Q (some (.int v)) hx9) : jC m_X12_piece 4 0 0 [.ref 125, .int a1, .int a2, .int a3, .int a4] h Q := by
  refine jC.of rfl k_X12_piece rfl ?_
  have Sm := jSm_rf fp_X12_piece_r125d h
  have ea1 := jfull a1
  have ea2 := jfull a2
  have ea3 := jfull a3
  have ea4 := jfull a4
  show jX m_X12_piece 4 0 0 0 [(0, .ref 125), (1, .int a1), (2, .int a2), (3, .int a3), (4, .int a4)] [] _ 0 0 _
  unfold d_X12_piece_r125d at D
  refine x_aloadn (x := 125) rfl rfl ?_
  refine x_iconst (v := 0) rfl ki_0 ?_
  refine z_putI (N := 92) (w := 0) 12 0 rfl f_12_180 rfl (jfin_no TX12 RX12 92 rfl rfl) hD J Sm rfl rfl jk_0 (pw_125_0 (by omega)) rfl (fun h w1 J Sm => ?_)
  rw [vwf w1 (show 0 = (0 : Int32).toInt from by have := jk_0; omega)] at D
  refine x_iload (x := a4) rfl rfl ?_
  refine z_i2l rfl rfl (fun v2 ev2 => ?_)
  refine x_lconst (v := 0) rfl kl_0 ?_
  refine x_ldc2 (v := 6) rfl z_12_329 ?_
  refine x_inst (N := m_X12_in) (As := [.long v2, .long 0, .long 6]) (st := []) (dx9 := 1) (mc := 0) (ms := 0) (host := "") rfl t_X12_in ⟨Or.inl q_12_188, s_X12_in⟩ rfl (by decide) rfl rfl ⟨by decide, by decide⟩ (zc_X12_in rfl jkl_0 jkl_6 (fun v3 ev3 => ?_))
  show jX m_X12_piece 4 0 0 15 [(0, .ref 125), (1, .int a1), (2, .int a2), (3, .int a3), (4, .int a4)] [.int v3] _ 0 0 _
  refine x_ifne (tgt := 20) rfl rfl (ti_ne rfl jk_0 ⟨fun c4 => ?_, fun c4 => ?_⟩)
  ·
    rw [if_pos (by omega)] at D
    refine x_aloadn (x := 125) rfl rfl ?_
    refine x_iloadn (x := a1) rfl rfl ?_
    refine x_inv (N := m_X12_isMention) (As := [.int a1]) (b := 125) (st := []) (dx9 := 3) (mc := 0) (ms := 0) (host := "") 12 rfl t_X12_isMention ⟨Or.inl q_12_322, i_X12_isMention.1, i_X12_isMention.2⟩ ⟨by decide, rfl⟩ (congrArg Prod.fst (J.1.1 125 (12, 92) rfl)) rfl (by decide) rfl rfl ⟨by decide, by decide⟩ (jC.of rfl k_X12_isMention rfl ?_)
    show jX m_X12_isMention 3 0 0 0 [(0, .ref 125), (1, .int a1)] [] _ 0 0 _
    refine x_iloadn (x := a1) rfl rfl ?_
    refine x_iflt (tgt := 34) rfl rfl (ti_lt rfl jk_0 ⟨fun c5 => ?_, fun c5 => ?_⟩)
    ·
      rw [if_pos (by omega)] at D
      refine x_iconst (v := 0) rfl ki_0 ?_
      refine x_zret rfl rfl (by decide) ?_
      show jX m_X12_piece 4 0 0 25 [(0, .ref 125), (1, .int a1), (2, .int a2), (3, .int a3), (4, .int a4)] [.int 0] _ 0 0 _
      refine x_ifeq (tgt := 47) rfl rfl (ti_eq jk_0 jk_0 (br_t (by omega) ?_))
      exact jX.sub jsb_n (ct_X12_piece_r125d_47 hD hQ  h J Sm D)
    ·
      rw [if_neg (by omega)] at D
      refine x_aloadn (x := 125) rfl rfl ?_
      refine x_iloadn (x := a1) rfl rfl ?_
      refine x_iconst (v := 3) rfl ki_3 ?_
      refine z_idiv rfl rfl jk_3 (by omega) (by omega) (fun v6 ev6 => ?_)
      refine x_inv (N := m_X12_isLine) (As := [.int v6]) (b := 125) (st := []) (dx9 := 2) (mc := 0) (ms := 0) (host := "") 12 rfl t_X12_isLine ⟨Or.inl q_12_293, i_X12_isLine.1, i_X12_isLine.2⟩ ⟨by decide, rfl⟩ (congrArg Prod.fst (J.1.1 125 (12, 92) rfl)) rfl (by decide) rfl rfl ⟨by decide, by decide⟩ (jC.of rfl k_X12_isLine rfl ?_)
      show jX m_X12_isLine 2 0 0 0 [(0, .ref 125), (1, .int v6)] [] _ 0 0 _
      refine x_iloadn (x := v6) rfl rfl ?_
      refine z_i2l rfl rfl (fun v7 ev7 => ?_)
      refine x_lconst (v := 0) rfl kl_0 ?_
      refine x_aloadn (x := 125) rfl rfl ?_
      refine z_getR (N := 92) (b := 126) 12 2 rfl f_12_8 rfl J rfl 16002 ⟨rfl, rfl⟩ rfl ?_
      refine x_iconst (v := 0) rfl ki_0 ?_
      refine z_iald (N := 50660) rfl J rfl sg_126_0_1_1_0_1 jk_0 (by omega) (fun v8 qv8 ev8 => ?_)
      try rw [vrn (n := 0) (by decide) (jmb_w w1 qv8 rfl)] at D
      refine z_i2l rfl rfl (fun v9 ev9 => ?_)
      refine x_lconst (v := 1) rfl kl_1 ?_
      refine z_lsub rfl rfl jkl_1 (by omega) (fun v10 ev10 => ?_)
      refine x_inst (N := m_X12_in) (As := [.long v7, .long 0, .long v10]) (st := []) (dx9 := 1) (mc := 0) (ms := 0) (host := "") rfl t_X12_in ⟨Or.inl q_12_188, s_X12_in⟩ rfl (by decide) rfl rfl ⟨by decide, by decide⟩ (zc_X12_in rfl jkl_0 rfl (fun v11 ev11 => ?_))
      show jX m_X12_isLine 2 0 0 15 [(0, .ref 125), (1, .int v6)] [.int v11] _ 0 0 _
      refine x_zret rfl rfl (jz01 (by omega)) ?_
      show jX m_X12_isMention 3 0 0 11 [(0, .ref 125), (1, .int a1)] [.int v11] _ 0 0 _
      refine x_ifeq (tgt := 34) rfl rfl (ti_eq rfl jk_0 ⟨fun c12 => ?_, fun c12 => ?_⟩)
      ·
        rw [if_neg (by omega)] at D
        refine x_iconst (v := 0) rfl ki_0 ?_
        refine x_zret rfl rfl (by decide) ?_
        show jX m_X12_piece 4 0 0 25 [(0, .ref 125), (1, .int a1), (2, .int a2), (3, .int a3), (4, .int a4)] [.int 0] _ 0 0 _
        refine x_ifeq (tgt := 47) rfl rfl (ti_eq jk_0 jk_0 (br_t (by omega) ?_))
        exact jX.sub jsb_n (ct_X12_piece_r125d_47 hD hQ  h J Sm D)
      ·
        rw [if_pos (by omega)] at D
        refine x_iloadn (x := a1) rfl rfl ?_
        refine x_iconst (v := 3) rfl ki_3 ?_
        refine z_irem rfl rfl jk_3 (by omega) (by omega) (fun v13 ev13 => ?_)
        refine x_aloadn (x := 125) rfl rfl ?_
        refine x_iloadn (x := a1) rfl rfl ?_
        refine x_iconst (v := 3) rfl ki_3 ?_
        refine z_idiv rfl rfl jk_3 (by omega) (by omega) (fun v14 ev14 => ?_)
        refine x_inv (N := m_X12_bookOf) (As := [.int v14]) (b := 125) (st := [.int v13]) (dx9 := 2) (mc := 0) (ms := 0) (host := "") 12 rfl t_X12_bookOf ⟨Or.inl q_12_299, i_X12_bookOf.1, i_X12_bookOf.2⟩ ⟨by decide, rfl⟩ (congrArg Prod.fst (J.1.1 125 (12, 92) rfl)) rfl (by decide) rfl rfl ⟨by decide, by decide⟩ (jC.of rfl k_X12_bookOf rfl ?_)
        show jX m_X12_bookOf 2 0 0 0 [(0, .ref 125), (1, .int v14)] [] _ 0 0 _
        refine x_aloadn (x := 125) rfl rfl ?_
        refine z_getR (N := 92) (b := 126) 12 2 rfl f_12_8 rfl J rfl 16002 ⟨rfl, rfl⟩ rfl ?_
        refine x_aloadn (x := 125) rfl rfl ?_
        refine x_iloadn (x := v14) rfl rfl ?_
        refine x_inv (N := m_X12_at) (As := [.int v14]) (b := 125) (st := [.ref 126]) (dx9 := 1) (mc := 0) (ms := 0) (host := "") 12 rfl t_X12_at ⟨Or.inl q_12_254, i_X12_at.1, i_X12_at.2⟩ ⟨by decide, rfl⟩ (congrArg Prod.fst (J.1.1 125 (12, 92) rfl)) rfl (by decide) rfl rfl ⟨by decide, by decide⟩ (jC.of rfl k_X12_at rfl ?_)
        show jX m_X12_at 1 0 0 0 [(0, .ref 125), (1, .int v14)] [] _ 0 0 _
        refine x_bipush (v := 20) rfl kb_20 ?_
        refine x_bipush (v := 90) rfl kb_90 ?_
        refine x_iloadn (x := v14) rfl rfl ?_
        refine z_imul rfl jk_90 rfl (by omega) (fun v15 ev15 => ?_)
        refine z_iadd rfl jk_20 rfl (by omega) (fun v16 ev16 => ?_)
        refine x_iret rfl rfl ?_
        show jX m_X12_bookOf 2 0 0 9 [(0, .ref 125), (1, .int v14)] [.int v16, .ref 126] _ 0 0 _
        refine z_iald (N := 50660) rfl J rfl sg_126_20_18020_90_0_1 rfl (by omega) (fun v17 qv17 ev17 => ?_)
        try rw [vrd (jmb_w w1 qv17 rfl) (show (20 + (90 * (a1.toInt / 3))) = v16.toInt from by omega)] at D
        refine x_iret rfl rfl ?_
        show jX m_X12_isMention 3 0 0 24 [(0, .ref 125), (1, .int a1)] [.int v17, .int v13] _ 0 0 _
        refine x_inst (N := m_X12_rolesOf) (As := [.int v17]) (st := [.int v13]) (dx9 := 2) (mc := 0) (ms := 0) (host := "") rfl t_X12_rolesOf ⟨Or.inl q_12_286, s_X12_rolesOf⟩ rfl (by decide) rfl rfl ⟨by decide, by decide⟩ (jC.of rfl k_X12_rolesOf rfl ?_)
        show jX m_X12_rolesOf 2 0 0 0 [(0, .int v17)] [] _ 0 0 _
        refine x_iloadn (x := v17) rfl rfl ?_
        refine x_ifne (tgt := 8) rfl rfl (ti_ne rfl jk_0 ⟨fun c18 => ?_, fun c18 => ?_⟩)
        ·
          rw [if_neg (by omega)] at D
          refine x_iloadn (x := v17) rfl rfl ?_
          refine x_iconst (v := 1) rfl ki_1 ?_
          refine x_icne (tgt := 17) rfl rfl (ti_ne rfl jk_1 ⟨fun c19 => ?_, fun c19 => ?_⟩)
          ·
            rw [if_neg (by omega)] at D
            refine x_iconst (v := 1) rfl ki_1 ?_
            refine x_iret rfl rfl ?_
            show jX m_X12_isMention 3 0 0 27 [(0, .ref 125), (1, .int a1)] [.int 1, .int v13] _ 0 0 _
            refine x_icge (tgt := 34) rfl rfl (ti_ge rfl jk_1 ⟨fun c20 => ?_, fun c20 => ?_⟩)
            ·
              rw [if_pos (by omega)] at D
              refine x_iconst (v := 0) rfl ki_0 ?_
              refine x_zret rfl rfl (by decide) ?_
              show jX m_X12_piece 4 0 0 25 [(0, .ref 125), (1, .int a1), (2, .int a2), (3, .int a3), (4, .int a4)] [.int 0] _ 0 0 _
              refine x_ifeq (tgt := 47) rfl rfl (ti_eq jk_0 jk_0 (br_t (by omega) ?_))
              exact jX.sub jsb_n (ct_X12_piece_r125d_47 hD hQ  h J Sm D)
            ·
              rw [if_neg (by omega)] at D
              refine x_iconst (v := 1) rfl ki_1 ?_
              refine x_goto (tgt := 35) rfl rfl ?_
              refine x_zret rfl rfl (by decide) ?_
              show jX m_X12_piece 4 0 0 25 [(0, .ref 125), (1, .int a1), (2, .int a2), (3, .int a3), (4, .int a4)] [.int 1] _ 0 0 _
              refine x_ifeq (tgt := 47) rfl rfl (ti_eq jk_1 jk_0 (br_f (by omega) ?_))
              refine x_iloadn (x := a2) rfl rfl ?_
              refine z_i2l rfl rfl (fun v21 ev21 => ?_)
              refine x_lconst (v := 0) rfl kl_0 ?_
              refine x_lconst (v := 1) rfl kl_1 ?_
              refine x_inst (N := m_X12_in) (As := [.long v21, .long 0, .long 1]) (st := []) (dx9 := 1) (mc := 0) (ms := 0) (host := "") rfl t_X12_in ⟨Or.inl q_12_188, s_X12_in⟩ rfl (by decide) rfl rfl ⟨by decide, by decide⟩ (zc_X12_in rfl jkl_0 jkl_1 (fun v22 ev22 => ?_))
              show jX m_X12_piece 4 0 0 35 [(0, .ref 125), (1, .int a1), (2, .int a2), (3, .int a3), (4, .int a4)] [.int v22] _ 0 0 _
              refine x_ifeq (tgt := 47) rfl rfl (ti_eq rfl jk_0 ⟨fun c23 => ?_, fun c23 => ?_⟩)
              ·
                rw [if_neg (by omega)] at D
                exact jX.sub jsb_n (ct_X12_piece_r125d_47 hD hQ  h J Sm D)
              ·
                rw [if_pos (by omega)] at D
                refine x_aloadn (x := 125) rfl rfl ?_
                refine x_iloadn (x := a1) rfl rfl ?_
                refine x_iloadn (x := a2) rfl rfl ?_
                refine x_inv (N := m_X12_isNamed) (As := [.int a1, .int a2]) (b := 125) (st := []) (dx9 := 3) (mc := 0) (ms := 0) (host := "") 12 rfl t_X12_isNamed ⟨Or.inl q_12_315, i_X12_isNamed.1, i_X12_isNamed.2⟩ ⟨by decide, rfl⟩ (congrArg Prod.fst (J.1.1 125 (12, 92) rfl)) rfl (by decide) rfl rfl ⟨by decide, by decide⟩ (jC.of rfl k_X12_isNamed rfl ?_)
                show jX m_X12_isNamed 3 0 0 0 [(0, .ref 125), (1, .int a1), (2, .int a2)] [] _ 0 0 _
                have ba1 : 0 ≤ a1.toInt ∧ a1.toInt ≤ 599 := by omega
                have ba2 : 0 ≤ a2.toInt ∧ a2.toInt ≤ 1 := by omega
                have ba4 : 0 ≤ a4.toInt ∧ a4.toInt ≤ 6 := by omega
                clear ev3 ev11 ev22
                refine x_aloadn (x := 125) rfl rfl ?_
                refine z_getR (N := 92) (b := 126) 12 2 rfl f_12_8 rfl J rfl 16002 ⟨rfl, rfl⟩ rfl ?_
                refine x_aloadn (x := 125) rfl rfl ?_
                refine x_iloadn (x := a1) rfl rfl ?_
                refine x_iloadn (x := a2) rfl rfl ?_
                refine x_inv (N := m_X12_nameAt) (As := [.int a1, .int a2]) (b := 125) (st := [.ref 126]) (dx9 := 2) (mc := 0) (ms := 0) (host := "") 12 rfl t_X12_nameAt ⟨Or.inl q_12_311, i_X12_nameAt.1, i_X12_nameAt.2⟩ ⟨by decide, rfl⟩ (congrArg Prod.fst (J.1.1 125 (12, 92) rfl)) rfl (by decide) rfl rfl ⟨by decide, by decide⟩ (jC.of rfl k_X12_nameAt rfl ?_)
                show jX m_X12_nameAt 2 0 0 0 [(0, .ref 125), (1, .int a1), (2, .int a2)] [] _ 0 0 _
                refine x_aloadn (x := 125) rfl rfl ?_
                refine x_iloadn (x := a1) rfl rfl ?_
                refine x_iconst (v := 3) rfl ki_3 ?_
                refine z_idiv rfl rfl jk_3 (by omega) (by omega) (fun v24 ev24 => ?_)
                refine x_inv (N := m_X12_at) (As := [.int v24]) (b := 125) (st := []) (dx9 := 1) (mc := 0) (ms := 0) (host := "") 12 rfl t_X12_at ⟨Or.inl q_12_254, i_X12_at.1, i_X12_at.2⟩ ⟨by decide, rfl⟩ (congrArg Prod.fst (J.1.1 125 (12, 92) rfl)) rfl (by decide) rfl rfl ⟨by decide, by decide⟩ (jC.of rfl k_X12_at rfl ?_)
                show jX m_X12_at 1 0 0 0 [(0, .ref 125), (1, .int v24)] [] _ 0 0 _
                refine x_bipush (v := 20) rfl kb_20 ?_
                refine x_bipush (v := 90) rfl kb_90 ?_
                refine x_iloadn (x := v24) rfl rfl ?_
                refine z_imul rfl jk_90 rfl (by omega) (fun v25 ev25 => ?_)
                refine z_iadd rfl jk_20 rfl (by omega) (fun v26 ev26 => ?_)
                refine x_iret rfl rfl ?_
                show jX m_X12_nameAt 2 0 0 7 [(0, .ref 125), (1, .int a1), (2, .int a2)] [.int v26] _ 0 0 _
                refine x_bipush (v := 6) rfl kb_6 ?_
                refine z_iadd rfl rfl jk_6 (by omega) (fun v27 ev27 => ?_)
                refine x_bipush (v := 28) rfl kb_28 ?_
                refine x_iloadn (x := a1) rfl rfl ?_
                refine x_iconst (v := 3) rfl ki_3 ?_
                refine z_irem rfl rfl jk_3 (by omega) (by omega) (fun v28 ev28 => ?_)
                refine z_imul rfl jk_28 rfl (by omega) (fun v29 ev29 => ?_)
                refine z_iadd rfl rfl rfl (by omega) (fun v30 ev30 => ?_)
                refine x_bipush (v := 14) rfl kb_14 ?_
                refine x_iloadn (x := a2) rfl rfl ?_
                refine z_imul rfl jk_14 rfl (by omega) (fun v31 ev31 => ?_)
                refine z_iadd rfl rfl rfl (by omega) (fun v32 ev32 => ?_)
                have rbv32 : 26 ≤ v32.toInt ∧ v32.toInt ≤ 18006 := by omega
                have rnv32 := jnam (m := a1.toInt) (w := a2.toInt) (v := v32.toInt) (by omega) (by omega) (by omega)
                refine x_iret rfl rfl ?_
                show jX m_X12_isNamed 3 0 0 10 [(0, .ref 125), (1, .int a1), (2, .int a2)] [.int v32, .ref 126] _ 0 0 _
                refine z_ialdU (N := 50660) (lo := 0) (hi := 12) rfl J rfl rfl ⟨by omega, by omega⟩ ((show (v32.toInt - 20) % 90 = 6 ∨ (v32.toInt - 20) % 90 = 20 ∨ (v32.toInt - 20) % 90 = 34 ∨ (v32.toInt - 20) % 90 = 48 ∨ (v32.toInt - 20) % 90 = 62 ∨ (v32.toInt - 20) % 90 = 76 from jn20 rnv32).elim (fun q => (jrg_w (jrg_c J sg_126_20_18020_90_6_7 rfl ⟨by omega, by omega, by omega, by omega, by omega⟩) (by decide))) (fun q => q.elim (fun q => (jrg_w (jrg_c J sg_126_20_18020_90_20_21 rfl ⟨by omega, by omega, by omega, by omega, by omega⟩) (by decide))) (fun q => q.elim (fun q => (jrg_w (jrg_c J sg_126_20_18020_90_34_35 rfl ⟨by omega, by omega, by omega, by omega, by omega⟩) (by decide))) (fun q => q.elim (fun q => (jrg_w (jrg_c J sg_126_20_18020_90_48_49 rfl ⟨by omega, by omega, by omega, by omega, by omega⟩) (by decide))) (fun q => q.elim (fun q => (jrg_w (jrg_c J sg_126_20_18020_90_62_63 rfl ⟨by omega, by omega, by omega, by omega, by omega⟩) (by decide))) (fun q => (jrg_w (jrg_c J sg_126_20_18020_90_76_77 rfl ⟨by omega, by omega, by omega, by omega, by omega⟩) (by decide)))))))) (fun v33 qv33 ev33 => ?_)
                try rw [vrd (jmb_w w1 qv33 rfl) (show ((((20 + (90 * (a1.toInt / 3))) + 6) + (28 * (a1.toInt % 3))) + (14 * a2.toInt)) = v32.toInt from by omega)] at D
                refine x_ifle (tgt := 18) rfl rfl (ti_le rfl jk_0 ⟨fun c34 => ?_, fun c34 => ?_⟩)
                ·
                  rw [if_pos (by omega)] at D
                  refine x_iconst (v := 0) rfl ki_0 ?_
                  refine x_zret rfl rfl (by decide) ?_
                  show jX m_X12_piece 4 0 0 44 [(0, .ref 125), (1, .int a1), (2, .int a2), (3, .int a3), (4, .int a4)] [.int 0] _ 0 0 _
                  refine x_ifne (tgt := 50) rfl rfl (ti_ne jk_0 jk_0 (bn_f (by omega) ?_))
                  exact jX.sub jsb_n (ct_X12_piece_r125d_47 hD hQ  h J Sm D)
                ·
                  rw [if_neg (by omega)] at D
                  refine x_iconst (v := 1) rfl ki_1 ?_
                  refine x_goto (tgt := 19) rfl rfl ?_
                  refine x_zret rfl rfl (by decide) ?_
                  show jX m_X12_piece 4 0 0 44 [(0, .ref 125), (1, .int a1), (2, .int a2), (3, .int a3), (4, .int a4)] [.int 1] _ 0 0 _
                  refine x_ifne (tgt := 50) rfl rfl (ti_ne jk_1 jk_0 (bn_t (by omega) ?_))
                  refine x_aloadn (x := 125) rfl rfl ?_
                  refine x_iloadn (x := a1) rfl rfl ?_
                  refine x_iloadn (x := a2) rfl rfl ?_
                  refine x_inv (N := m_X12_nameAt) (As := [.int a1, .int a2]) (b := 125) (st := []) (dx9 := 3) (mc := 0) (ms := 0) (host := "") 12 rfl t_X12_nameAt ⟨Or.inl q_12_311, i_X12_nameAt.1, i_X12_nameAt.2⟩ ⟨by decide, rfl⟩ (congrArg Prod.fst (J.1.1 125 (12, 92) rfl)) rfl (by decide) rfl rfl ⟨by decide, by decide⟩ (jC.of rfl k_X12_nameAt rfl ?_)
                  show jX m_X12_nameAt 3 0 0 0 [(0, .ref 125), (1, .int a1), (2, .int a2)] [] _ 0 0 _
                  refine x_aloadn (x := 125) rfl rfl ?_
                  refine x_iloadn (x := a1) rfl rfl ?_
                  refine x_iconst (v := 3) rfl ki_3 ?_
                  refine z_idiv rfl rfl jk_3 (by omega) (by omega) (fun v35 ev35 => ?_)
                  refine x_inv (N := m_X12_at) (As := [.int v35]) (b := 125) (st := []) (dx9 := 2) (mc := 0) (ms := 0) (host := "") 12 rfl t_X12_at ⟨Or.inl q_12_254, i_X12_at.1, i_X12_at.2⟩ ⟨by decide, rfl⟩ (congrArg Prod.fst (J.1.1 125 (12, 92) rfl)) rfl (by decide) rfl rfl ⟨by decide, by decide⟩ (jC.of rfl k_X12_at rfl ?_)
                  show jX m_X12_at 2 0 0 0 [(0, .ref 125), (1, .int v35)] [] _ 0 0 _
                  refine x_bipush (v := 20) rfl kb_20 ?_
                  refine x_bipush (v := 90) rfl kb_90 ?_
                  refine x_iloadn (x := v35) rfl rfl ?_
                  refine z_imul rfl jk_90 rfl (by omega) (fun v36 ev36 => ?_)
                  refine z_iadd rfl jk_20 rfl (by omega) (fun v37 ev37 => ?_)
                  refine x_iret rfl rfl ?_
                  show jX m_X12_nameAt 3 0 0 7 [(0, .ref 125), (1, .int a1), (2, .int a2)] [.int v37] _ 0 0 _
                  refine x_bipush (v := 6) rfl kb_6 ?_
                  refine z_iadd rfl rfl jk_6 (by omega) (fun v38 ev38 => ?_)
                  refine x_bipush (v := 28) rfl kb_28 ?_
                  refine x_iloadn (x := a1) rfl rfl ?_
                  refine x_iconst (v := 3) rfl ki_3 ?_
                  refine z_irem rfl rfl jk_3 (by omega) (by omega) (fun v39 ev39 => ?_)
                  refine z_imul rfl jk_28 rfl (by omega) (fun v40 ev40 => ?_)
                  refine z_iadd rfl rfl rfl (by omega) (fun v41 ev41 => ?_)
                  refine x_bipush (v := 14) rfl kb_14 ?_
                  refine x_iloadn (x := a2) rfl rfl ?_
                  refine z_imul rfl jk_14 rfl (by omega) (fun v42 ev42 => ?_)
                  refine z_iadd rfl rfl rfl (by omega) (fun v43 ev43 => ?_)
                  have rbv43 : 26 ≤ v43.toInt ∧ v43.toInt ≤ 18006 := by omega
                  have rnv43 := jnam (m := a1.toInt) (w := a2.toInt) (v := v43.toInt) (by omega) (by omega) (by omega)
                  refine x_iret rfl rfl ?_
                  show jX m_X12_piece 4 0 0 56 [(0, .ref 125), (1, .int a1), (2, .int a2), (3, .int a3), (4, .int a4)] [.int v43] _ 0 0 _
                  refine x_istore (lsx9 := [(5, .int v43), (0, .ref 125), (1, .int a1), (2, .int a2), (3, .int a3), (4, .int a4)]) rfl rfl rfl ?_
                  refine x_iloadn (x := a3) rfl rfl ?_
                  refine z_i2l rfl rfl (fun v44 ev44 => ?_)
                  refine x_lconst (v := 0) rfl kl_0 ?_
                  refine x_aloadn (x := 125) rfl rfl ?_
                  refine z_getR (N := 92) (b := 126) 12 2 rfl f_12_8 rfl J rfl 16002 ⟨rfl, rfl⟩ rfl ?_
                  refine x_iload (x := v43) rfl rfl ?_
                  refine z_ialdU (N := 50660) (lo := 0) (hi := 12) rfl J rfl rfl ⟨by omega, by omega⟩ ((show (v43.toInt - 20) % 90 = 6 ∨ (v43.toInt - 20) % 90 = 20 ∨ (v43.toInt - 20) % 90 = 34 ∨ (v43.toInt - 20) % 90 = 48 ∨ (v43.toInt - 20) % 90 = 62 ∨ (v43.toInt - 20) % 90 = 76 from jn20 rnv43).elim (fun q => (jrg_w (jrg_c J sg_126_20_18020_90_6_7 rfl ⟨by omega, by omega, by omega, by omega, by omega⟩) (by decide))) (fun q => q.elim (fun q => (jrg_w (jrg_c J sg_126_20_18020_90_20_21 rfl ⟨by omega, by omega, by omega, by omega, by omega⟩) (by decide))) (fun q => q.elim (fun q => (jrg_w (jrg_c J sg_126_20_18020_90_34_35 rfl ⟨by omega, by omega, by omega, by omega, by omega⟩) (by decide))) (fun q => q.elim (fun q => (jrg_w (jrg_c J sg_126_20_18020_90_48_49 rfl ⟨by omega, by omega, by omega, by omega, by omega⟩) (by decide))) (fun q => q.elim (fun q => (jrg_w (jrg_c J sg_126_20_18020_90_62_63 rfl ⟨by omega, by omega, by omega, by omega, by omega⟩) (by decide))) (fun q => (jrg_w (jrg_c J sg_126_20_18020_90_76_77 rfl ⟨by omega, by omega, by omega, by omega, by omega⟩) (by decide)))))))) (fun v45 qv45 ev45 => ?_)
                  try have kqv45 : v33.toInt = v45.toInt := ((vrd (jmb_w w1 qv33 rfl) (show ((((20 + (90 * (a1.toInt / 3))) + 6) + (28 * (a1.toInt % 3))) + (14 * a2.toInt)) = v32.toInt from by omega)).symm.trans (vrd (jmb_w w1 qv45 rfl) (show ((((20 + (90 * (a1.toInt / 3))) + 6) + (28 * (a1.toInt % 3))) + (14 * a2.toInt)) = v43.toInt from by omega)))
                  try rw [show v33.toInt = v45.toInt from ((vrd (jmb_w w1 qv33 rfl) (show ((((20 + (90 * (a1.toInt / 3))) + 6) + (28 * (a1.toInt % 3))) + (14 * a2.toInt)) = v32.toInt from by omega)).symm.trans (vrd (jmb_w w1 qv45 rfl) (show ((((20 + (90 * (a1.toInt / 3))) + 6) + (28 * (a1.toInt % 3))) + (14 * a2.toInt)) = v43.toInt from by omega)))] at D
                  try rw [vrd (jmb_w w1 qv45 rfl) (show ((((20 + (90 * (a1.toInt / 3))) + 6) + (28 * (a1.toInt % 3))) + (14 * a2.toInt)) = v43.toInt from by omega)] at D
                  refine x_iload (x := a4) rfl rfl ?_
                  refine z_isub rfl rfl rfl (by omega) (fun v46 ev46 => ?_)
                  refine z_i2l rfl rfl (fun v47 ev47 => ?_)
                  refine x_inst (N := m_X12_in) (As := [.long v44, .long 0, .long v47]) (st := []) (dx9 := 1) (mc := 0) (ms := 0) (host := "") rfl t_X12_in ⟨Or.inl q_12_188, s_X12_in⟩ rfl (by decide) rfl rfl ⟨by decide, by decide⟩ (zc_X12_in rfl jkl_0 rfl (fun v48 ev48 => ?_))
                  show jX m_X12_piece 4 0 0 75 [(5, .int v43), (0, .ref 125), (1, .int a1), (2, .int a2), (3, .int a3), (4, .int a4)] [.int v48] _ 0 0 _
                  refine x_ifne (tgt := 81) rfl rfl (ti_ne rfl jk_0 ⟨fun c49 => ?_, fun c49 => ?_⟩)
                  ·
                    rw [if_pos (by omega)] at D
                    refine x_iconst (v := 0) rfl ki_0 ?_
                    refine x_istore (lsx9 := [(6, .int 0), (5, .int v43), (0, .ref 125), (1, .int a1), (2, .int a2), (3, .int a3), (4, .int a4)]) rfl rfl rfl ?_
                    refine x_iconst (v := 0) rfl ki_0 ?_
                    refine x_istore (lsx9 := [(7, .int 0), (6, .int 0), (5, .int v43), (0, .ref 125), (1, .int a1), (2, .int a2), (3, .int a3), (4, .int a4)]) rfl rfl rfl ?_
                    try rw [show ((((20 + (90 * (a1.toInt / 3))) + 6) + (28 * (a1.toInt % 3))) + (14 * a2.toInt)) = v43.toInt from by omega] at D
                    exact jX.sub (jsb_c rfl (jsb_c rfl (jsb_c rfl (jsb_c rfl (jsb_c rfl (jsb_c rfl jsb_n)))))) (ct_X12_piece_r125d_87 hD hQ  7 a3 a4 v43 0 0 h (by have := jk_0; omega) (jr_of rfl (by omega)) (jr_of rfl (by omega)) (jr_of rfl (by omega)) (jr_mod rfl (by omega)) (jr_of jk_0 (by omega)) (by omega) (by omega) J Sm (by rw [jk_0]; exact D))
                  ·
                    rw [if_neg (by omega)] at D
                    refine x_bipush (v := (-3)) rfl kb_m3 ?_
                    refine x_iret rfl rfl ?_
                    exact hQ _ _ J Sm ((congrArg Prod.fst D).symm.trans (show (-3) = ((-3) : Int32).toInt from by have := jk_m3; omega)) (congrArg Prod.snd D).symm
          ·
            rw [if_pos (by omega)] at D
            refine x_iconst (v := 2) rfl ki_2 ?_
            refine x_goto (tgt := 18) rfl rfl ?_
            refine x_iret rfl rfl ?_
            show jX m_X12_isMention 3 0 0 27 [(0, .ref 125), (1, .int a1)] [.int 2, .int v13] _ 0 0 _
            refine x_icge (tgt := 34) rfl rfl (ti_ge rfl jk_2 ⟨fun c50 => ?_, fun c50 => ?_⟩)
            ·
              rw [if_pos (by omega)] at D
              refine x_iconst (v := 0) rfl ki_0 ?_
              refine x_zret rfl rfl (by decide) ?_
              show jX m_X12_piece 4 0 0 25 [(0, .ref 125), (1, .int a1), (2, .int a2), (3, .int a3), (4, .int a4)] [.int 0] _ 0 0 _
              refine x_ifeq (tgt := 47) rfl rfl (ti_eq jk_0 jk_0 (br_t (by omega) ?_))
              exact jX.sub jsb_n (ct_X12_piece_r125d_47 hD hQ  h J Sm D)
            ·
              rw [if_neg (by omega)] at D
              refine x_iconst (v := 1) rfl ki_1 ?_
              refine x_goto (tgt := 35) rfl rfl ?_
              refine x_zret rfl rfl (by decide) ?_
              show jX m_X12_piece 4 0 0 25 [(0, .ref 125), (1, .int a1), (2, .int a2), (3, .int a3), (4, .int a4)] [.int 1] _ 0 0 _
              refine x_ifeq (tgt := 47) rfl rfl (ti_eq jk_1 jk_0 (br_f (by omega) ?_))
              refine x_iloadn (x := a2) rfl rfl ?_
              refine z_i2l rfl rfl (fun v51 ev51 => ?_)
              refine x_lconst (v := 0) rfl kl_0 ?_
              refine x_lconst (v := 1) rfl kl_1 ?_
              refine x_inst (N := m_X12_in) (As := [.long v51, .long 0, .long 1]) (st := []) (dx9 := 1) (mc := 0) (ms := 0) (host := "") rfl t_X12_in ⟨Or.inl q_12_188, s_X12_in⟩ rfl (by decide) rfl rfl ⟨by decide, by decide⟩ (zc_X12_in rfl jkl_0 jkl_1 (fun v52 ev52 => ?_))
              show jX m_X12_piece 4 0 0 35 [(0, .ref 125), (1, .int a1), (2, .int a2), (3, .int a3), (4, .int a4)] [.int v52] _ 0 0 _
              refine x_ifeq (tgt := 47) rfl rfl (ti_eq rfl jk_0 ⟨fun c53 => ?_, fun c53 => ?_⟩)
              ·
                rw [if_neg (by omega)] at D
                exact jX.sub jsb_n (ct_X12_piece_r125d_47 hD hQ  h J Sm D)
              ·
                rw [if_pos (by omega)] at D
                refine x_aloadn (x := 125) rfl rfl ?_
                refine x_iloadn (x := a1) rfl rfl ?_
                refine x_iloadn (x := a2) rfl rfl ?_
                refine x_inv (N := m_X12_isNamed) (As := [.int a1, .int a2]) (b := 125) (st := []) (dx9 := 3) (mc := 0) (ms := 0) (host := "") 12 rfl t_X12_isNamed ⟨Or.inl q_12_315, i_X12_isNamed.1, i_X12_isNamed.2⟩ ⟨by decide, rfl⟩ (congrArg Prod.fst (J.1.1 125 (12, 92) rfl)) rfl (by decide) rfl rfl ⟨by decide, by decide⟩ (jC.of rfl k_X12_isNamed rfl ?_)
                show jX m_X12_isNamed 3 0 0 0 [(0, .ref 125), (1, .int a1), (2, .int a2)] [] _ 0 0 _
                have ba1 : 0 ≤ a1.toInt ∧ a1.toInt ≤ 599 := by omega
                have ba2 : 0 ≤ a2.toInt ∧ a2.toInt ≤ 1 := by omega
                have ba4 : 0 ≤ a4.toInt ∧ a4.toInt ≤ 6 := by omega
                clear ev3 ev11 ev52
                refine x_aloadn (x := 125) rfl rfl ?_
                refine z_getR (N := 92) (b := 126) 12 2 rfl f_12_8 rfl J rfl 16002 ⟨rfl, rfl⟩ rfl ?_
                refine x_aloadn (x := 125) rfl rfl ?_
                refine x_iloadn (x := a1) rfl rfl ?_
                refine x_iloadn (x := a2) rfl rfl ?_
                refine x_inv (N := m_X12_nameAt) (As := [.int a1, .int a2]) (b := 125) (st := [.ref 126]) (dx9 := 2) (mc := 0) (ms := 0) (host := "") 12 rfl t_X12_nameAt ⟨Or.inl q_12_311, i_X12_nameAt.1, i_X12_nameAt.2⟩ ⟨by decide, rfl⟩ (congrArg Prod.fst (J.1.1 125 (12, 92) rfl)) rfl (by decide) rfl rfl ⟨by decide, by decide⟩ (jC.of rfl k_X12_nameAt rfl ?_)
                show jX m_X12_nameAt 2 0 0 0 [(0, .ref 125), (1, .int a1), (2, .int a2)] [] _ 0 0 _
                refine x_aloadn (x := 125) rfl rfl ?_
                refine x_iloadn (x := a1) rfl rfl ?_
                refine x_iconst (v := 3) rfl ki_3 ?_
                refine z_idiv rfl rfl jk_3 (by omega) (by omega) (fun v54 ev54 => ?_)
                refine x_inv (N := m_X12_at) (As := [.int v54]) (b := 125) (st := []) (dx9 := 1) (mc := 0) (ms := 0) (host := "") 12 rfl t_X12_at ⟨Or.inl q_12_254, i_X12_at.1, i_X12_at.2⟩ ⟨by decide, rfl⟩ (congrArg Prod.fst (J.1.1 125 (12, 92) rfl)) rfl (by decide) rfl rfl ⟨by decide, by decide⟩ (jC.of rfl k_X12_at rfl ?_)
                show jX m_X12_at 1 0 0 0 [(0, .ref 125), (1, .int v54)] [] _ 0 0 _
                refine x_bipush (v := 20) rfl kb_20 ?_
                refine x_bipush (v := 90) rfl kb_90 ?_
                refine x_iloadn (x := v54) rfl rfl ?_
                refine z_imul rfl jk_90 rfl (by omega) (fun v55 ev55 => ?_)
                refine z_iadd rfl jk_20 rfl (by omega) (fun v56 ev56 => ?_)
                refine x_iret rfl rfl ?_
                show jX m_X12_nameAt 2 0 0 7 [(0, .ref 125), (1, .int a1), (2, .int a2)] [.int v56] _ 0 0 _
                refine x_bipush (v := 6) rfl kb_6 ?_
                refine z_iadd rfl rfl jk_6 (by omega) (fun v57 ev57 => ?_)
                refine x_bipush (v := 28) rfl kb_28 ?_
                refine x_iloadn (x := a1) rfl rfl ?_
                refine x_iconst (v := 3) rfl ki_3 ?_
                refine z_irem rfl rfl jk_3 (by omega) (by omega) (fun v58 ev58 => ?_)
                refine z_imul rfl jk_28 rfl (by omega) (fun v59 ev59 => ?_)
                refine z_iadd rfl rfl rfl (by omega) (fun v60 ev60 => ?_)
                refine x_bipush (v := 14) rfl kb_14 ?_
                refine x_iloadn (x := a2) rfl rfl ?_
                refine z_imul rfl jk_14 rfl (by omega) (fun v61 ev61 => ?_)
                refine z_iadd rfl rfl rfl (by omega) (fun v62 ev62 => ?_)
                have rbv62 : 26 ≤ v62.toInt ∧ v62.toInt ≤ 18006 := by omega
                have rnv62 := jnam (m := a1.toInt) (w := a2.toInt) (v := v62.toInt) (by omega) (by omega) (by omega)
                refine x_iret rfl rfl ?_
                show jX m_X12_isNamed 3 0 0 10 [(0, .ref 125), (1, .int a1), (2, .int a2)] [.int v62, .ref 126] _ 0 0 _
                refine z_ialdU (N := 50660) (lo := 0) (hi := 12) rfl J rfl rfl ⟨by omega, by omega⟩ ((show (v62.toInt - 20) % 90 = 6 ∨ (v62.toInt - 20) % 90 = 20 ∨ (v62.toInt - 20) % 90 = 34 ∨ (v62.toInt - 20) % 90 = 48 ∨ (v62.toInt - 20) % 90 = 62 ∨ (v62.toInt - 20) % 90 = 76 from jn20 rnv62).elim (fun q => (jrg_w (jrg_c J sg_126_20_18020_90_6_7 rfl ⟨by omega, by omega, by omega, by omega, by omega⟩) (by decide))) (fun q => q.elim (fun q => (jrg_w (jrg_c J sg_126_20_18020_90_20_21 rfl ⟨by omega, by omega, by omega, by omega, by omega⟩) (by decide))) (fun q => q.elim (fun q => (jrg_w (jrg_c J sg_126_20_18020_90_34_35 rfl ⟨by omega, by omega, by omega, by omega, by omega⟩) (by decide))) (fun q => q.elim (fun q => (jrg_w (jrg_c J sg_126_20_18020_90_48_49 rfl ⟨by omega, by omega, by omega, by omega, by omega⟩) (by decide))) (fun q => q.elim (fun q => (jrg_w (jrg_c J sg_126_20_18020_90_62_63 rfl ⟨by omega, by omega, by omega, by omega, by omega⟩) (by decide))) (fun q => (jrg_w (jrg_c J sg_126_20_18020_90_76_77 rfl ⟨by omega, by omega, by omega, by omega, by omega⟩) (by decide)))))))) (fun v63 qv63 ev63 => ?_)
                try rw [vrd (jmb_w w1 qv63 rfl) (show ((((20 + (90 * (a1.toInt / 3))) + 6) + (28 * (a1.toInt % 3))) + (14 * a2.toInt)) = v62.toInt from by omega)] at D
                refine x_ifle (tgt := 18) rfl rfl (ti_le rfl jk_0 ⟨fun c64 => ?_, fun c64 => ?_⟩)
                ·
                  rw [if_pos (by omega)] at D
                  refine x_iconst (v := 0) rfl ki_0 ?_
                  refine x_zret rfl rfl (by decide) ?_
                  show jX m_X12_piece 4 0 0 44 [(0, .ref 125), (1, .int a1), (2, .int a2), (3, .int a3), (4, .int a4)] [.int 0] _ 0 0 _
                  refine x_ifne (tgt := 50) rfl rfl (ti_ne jk_0 jk_0 (bn_f (by omega) ?_))
                  exact jX.sub jsb_n (ct_X12_piece_r125d_47 hD hQ  h J Sm D)
                ·
                  rw [if_neg (by omega)] at D
                  refine x_iconst (v := 1) rfl ki_1 ?_
                  refine x_goto (tgt := 19) rfl rfl ?_
                  refine x_zret rfl rfl (by decide) ?_
                  show jX m_X12_piece 4 0 0 44 [(0, .ref 125), (1, .int a1), (2, .int a2), (3, .int a3), (4, .int a4)] [.int 1] _ 0 0 _
                  refine x_ifne (tgt := 50) rfl rfl (ti_ne jk_1 jk_0 (bn_t (by omega) ?_))
                  refine x_aloadn (x := 125) rfl rfl ?_
                  refine x_iloadn (x := a1) rfl rfl ?_
                  refine x_iloadn (x := a2) rfl rfl ?_
                  refine x_inv (N := m_X12_nameAt) (As := [.int a1, .int a2]) (b := 125) (st := []) (dx9 := 3) (mc := 0) (ms := 0) (host := "") 12 rfl t_X12_nameAt ⟨Or.inl q_12_311, i_X12_nameAt.1, i_X12_nameAt.2⟩ ⟨by decide, rfl⟩ (congrArg Prod.fst (J.1.1 125 (12, 92) rfl)) rfl (by decide) rfl rfl ⟨by decide, by decide⟩ (jC.of rfl k_X12_nameAt rfl ?_)
                  show jX m_X12_nameAt 3 0 0 0 [(0, .ref 125), (1, .int a1), (2, .int a2)] [] _ 0 0 _
                  refine x_aloadn (x := 125) rfl rfl ?_
                  refine x_iloadn (x := a1) rfl rfl ?_
                  refine x_iconst (v := 3) rfl ki_3 ?_
                  refine z_idiv rfl rfl jk_3 (by omega) (by omega) (fun v65 ev65 => ?_)
                  refine x_inv (N := m_X12_at) (As := [.int v65]) (b := 125) (st := []) (dx9 := 2) (mc := 0) (ms := 0) (host := "") 12 rfl t_X12_at ⟨Or.inl q_12_254, i_X12_at.1, i_X12_at.2⟩ ⟨by decide, rfl⟩ (congrArg Prod.fst (J.1.1 125 (12, 92) rfl)) rfl (by decide) rfl rfl ⟨by decide, by decide⟩ (jC.of rfl k_X12_at rfl ?_)
                  show jX m_X12_at 2 0 0 0 [(0, .ref 125), (1, .int v65)] [] _ 0 0 _
                  refine x_bipush (v := 20) rfl kb_20 ?_
                  refine x_bipush (v := 90) rfl kb_90 ?_
                  refine x_iloadn (x := v65) rfl rfl ?_
                  refine z_imul rfl jk_90 rfl (by omega) (fun v66 ev66 => ?_)
                  refine z_iadd rfl jk_20 rfl (by omega) (fun v67 ev67 => ?_)
                  refine x_iret rfl rfl ?_
                  show jX m_X12_nameAt 3 0 0 7 [(0, .ref 125), (1, .int a1), (2, .int a2)] [.int v67] _ 0 0 _
                  refine x_bipush (v := 6) rfl kb_6 ?_
                  refine z_iadd rfl rfl jk_6 (by omega) (fun v68 ev68 => ?_)
                  refine x_bipush (v := 28) rfl kb_28 ?_
                  refine x_iloadn (x := a1) rfl rfl ?_
                  refine x_iconst (v := 3) rfl ki_3 ?_
                  refine z_irem rfl rfl jk_3 (by omega) (by omega) (fun v69 ev69 => ?_)
                  refine z_imul rfl jk_28 rfl (by omega) (fun v70 ev70 => ?_)
                  refine z_iadd rfl rfl rfl (by omega) (fun v71 ev71 => ?_)
                  refine x_bipush (v := 14) rfl kb_14 ?_
                  refine x_iloadn (x := a2) rfl rfl ?_
                  refine z_imul rfl jk_14 rfl (by omega) (fun v72 ev72 => ?_)
                  refine z_iadd rfl rfl rfl (by omega) (fun v73 ev73 => ?_)
                  have rbv73 : 26 ≤ v73.toInt ∧ v73.toInt ≤ 18006 := by omega
                  have rnv73 := jnam (m := a1.toInt) (w := a2.toInt) (v := v73.toInt) (by omega) (by omega) (by omega)
                  refine x_iret rfl rfl ?_
                  show jX m_X12_piece 4 0 0 56 [(0, .ref 125), (1, .int a1), (2, .int a2), (3, .int a3), (4, .int a4)] [.int v73] _ 0 0 _
                  refine x_istore (lsx9 := [(5, .int v73), (0, .ref 125), (1, .int a1), (2, .int a2), (3, .int a3), (4, .int a4)]) rfl rfl rfl ?_
                  refine x_iloadn (x := a3) rfl rfl ?_
                  refine z_i2l rfl rfl (fun v74 ev74 => ?_)
                  refine x_lconst (v := 0) rfl kl_0 ?_
                  refine x_aloadn (x := 125) rfl rfl ?_
                  refine z_getR (N := 92) (b := 126) 12 2 rfl f_12_8 rfl J rfl 16002 ⟨rfl, rfl⟩ rfl ?_
                  refine x_iload (x := v73) rfl rfl ?_
                  refine z_ialdU (N := 50660) (lo := 0) (hi := 12) rfl J rfl rfl ⟨by omega, by omega⟩ ((show (v73.toInt - 20) % 90 = 6 ∨ (v73.toInt - 20) % 90 = 20 ∨ (v73.toInt - 20) % 90 = 34 ∨ (v73.toInt - 20) % 90 = 48 ∨ (v73.toInt - 20) % 90 = 62 ∨ (v73.toInt - 20) % 90 = 76 from jn20 rnv73).elim (fun q => (jrg_w (jrg_c J sg_126_20_18020_90_6_7 rfl ⟨by omega, by omega, by omega, by omega, by omega⟩) (by decide))) (fun q => q.elim (fun q => (jrg_w (jrg_c J sg_126_20_18020_90_20_21 rfl ⟨by omega, by omega, by omega, by omega, by omega⟩) (by decide))) (fun q => q.elim (fun q => (jrg_w (jrg_c J sg_126_20_18020_90_34_35 rfl ⟨by omega, by omega, by omega, by omega, by omega⟩) (by decide))) (fun q => q.elim (fun q => (jrg_w (jrg_c J sg_126_20_18020_90_48_49 rfl ⟨by omega, by omega, by omega, by omega, by omega⟩) (by decide))) (fun q => q.elim (fun q => (jrg_w (jrg_c J sg_126_20_18020_90_62_63 rfl ⟨by omega, by omega, by omega, by omega, by omega⟩) (by decide))) (fun q => (jrg_w (jrg_c J sg_126_20_18020_90_76_77 rfl ⟨by omega, by omega, by omega, by omega, by omega⟩) (by decide)))))))) (fun v75 qv75 ev75 => ?_)
                  try have kqv75 : v63.toInt = v75.toInt := ((vrd (jmb_w w1 qv63 rfl) (show ((((20 + (90 * (a1.toInt / 3))) + 6) + (28 * (a1.toInt % 3))) + (14 * a2.toInt)) = v62.toInt from by omega)).symm.trans (vrd (jmb_w w1 qv75 rfl) (show ((((20 + (90 * (a1.toInt / 3))) + 6) + (28 * (a1.toInt % 3))) + (14 * a2.toInt)) = v73.toInt from by omega)))
                  try rw [show v63.toInt = v75.toInt from ((vrd (jmb_w w1 qv63 rfl) (show ((((20 + (90 * (a1.toInt / 3))) + 6) + (28 * (a1.toInt % 3))) + (14 * a2.toInt)) = v62.toInt from by omega)).symm.trans (vrd (jmb_w w1 qv75 rfl) (show ((((20 + (90 * (a1.toInt / 3))) + 6) + (28 * (a1.toInt % 3))) + (14 * a2.toInt)) = v73.toInt from by omega)))] at D
                  try rw [vrd (jmb_w w1 qv75 rfl) (show ((((20 + (90 * (a1.toInt / 3))) + 6) + (28 * (a1.toInt % 3))) + (14 * a2.toInt)) = v73.toInt from by omega)] at D
                  refine x_iload (x := a4) rfl rfl ?_
                  refine z_isub rfl rfl rfl (by omega) (fun v76 ev76 => ?_)
                  refine z_i2l rfl rfl (fun v77 ev77 => ?_)
                  refine x_inst (N := m_X12_in) (As := [.long v74, .long 0, .long v77]) (st := []) (dx9 := 1) (mc := 0) (ms := 0) (host := "") rfl t_X12_in ⟨Or.inl q_12_188, s_X12_in⟩ rfl (by decide) rfl rfl ⟨by decide, by decide⟩ (zc_X12_in rfl jkl_0 rfl (fun v78 ev78 => ?_))
                  show jX m_X12_piece 4 0 0 75 [(5, .int v73), (0, .ref 125), (1, .int a1), (2, .int a2), (3, .int a3), (4, .int a4)] [.int v78] _ 0 0 _
                  refine x_ifne (tgt := 81) rfl rfl (ti_ne rfl jk_0 ⟨fun c79 => ?_, fun c79 => ?_⟩)
                  ·
                    rw [if_pos (by omega)] at D
                    refine x_iconst (v := 0) rfl ki_0 ?_
                    refine x_istore (lsx9 := [(6, .int 0), (5, .int v73), (0, .ref 125), (1, .int a1), (2, .int a2), (3, .int a3), (4, .int a4)]) rfl rfl rfl ?_
                    refine x_iconst (v := 0) rfl ki_0 ?_
                    refine x_istore (lsx9 := [(7, .int 0), (6, .int 0), (5, .int v73), (0, .ref 125), (1, .int a1), (2, .int a2), (3, .int a3), (4, .int a4)]) rfl rfl rfl ?_
                    try rw [show ((((20 + (90 * (a1.toInt / 3))) + 6) + (28 * (a1.toInt % 3))) + (14 * a2.toInt)) = v73.toInt from by omega] at D
                    exact jX.sub (jsb_c rfl (jsb_c rfl (jsb_c rfl (jsb_c rfl (jsb_c rfl (jsb_c rfl jsb_n)))))) (ct_X12_piece_r125d_87 hD hQ  7 a3 a4 v73 0 0 h (by have := jk_0; omega) (jr_of rfl (by omega)) (jr_of rfl (by omega)) (jr_of rfl (by omega)) (jr_mod rfl (by omega)) (jr_of jk_0 (by omega)) (by omega) (by omega) J Sm (by rw [jk_0]; exact D))
                  ·
                    rw [if_neg (by omega)] at D
                    refine x_bipush (v := (-3)) rfl kb_m3 ?_
                    refine x_iret rfl rfl ?_
                    exact hQ _ _ J Sm ((congrArg Prod.fst D).symm.trans (show (-3) = ((-3) : Int32).toInt from by have := jk_m3; omega)) (congrArg Prod.snd D).symm
        ·
          rw [if_pos (by omega)] at D
          refine x_iconst (v := 3) rfl ki_3 ?_
          refine x_goto (tgt := 18) rfl rfl ?_
          refine x_iret rfl rfl ?_
          show jX m_X12_isMention 3 0 0 27 [(0, .ref 125), (1, .int a1)] [.int 3, .int v13] _ 0 0 _
          refine x_icge (tgt := 34) rfl rfl (ti_ge rfl jk_3 (br_f (by omega) ?_))
          refine x_iconst (v := 1) rfl ki_1 ?_
          refine x_goto (tgt := 35) rfl rfl ?_
          refine x_zret rfl rfl (by decide) ?_
          show jX m_X12_piece 4 0 0 25 [(0, .ref 125), (1, .int a1), (2, .int a2), (3, .int a3), (4, .int a4)] [.int 1] _ 0 0 _
          refine x_ifeq (tgt := 47) rfl rfl (ti_eq jk_1 jk_0 (br_f (by omega) ?_))
          refine x_iloadn (x := a2) rfl rfl ?_
          refine z_i2l rfl rfl (fun v80 ev80 => ?_)
          refine x_lconst (v := 0) rfl kl_0 ?_
          refine x_lconst (v := 1) rfl kl_1 ?_
          refine x_inst (N := m_X12_in) (As := [.long v80, .long 0, .long 1]) (st := []) (dx9 := 1) (mc := 0) (ms := 0) (host := "") rfl t_X12_in ⟨Or.inl q_12_188, s_X12_in⟩ rfl (by decide) rfl rfl ⟨by decide, by decide⟩ (zc_X12_in rfl jkl_0 jkl_1 (fun v81 ev81 => ?_))
          show jX m_X12_piece 4 0 0 35 [(0, .ref 125), (1, .int a1), (2, .int a2), (3, .int a3), (4, .int a4)] [.int v81] _ 0 0 _
          refine x_ifeq (tgt := 47) rfl rfl (ti_eq rfl jk_0 ⟨fun c82 => ?_, fun c82 => ?_⟩)
          ·
            rw [if_neg (by omega)] at D
            exact jX.sub jsb_n (ct_X12_piece_r125d_47 hD hQ  h J Sm D)
          ·
            rw [if_pos (by omega)] at D
            refine x_aloadn (x := 125) rfl rfl ?_
            refine x_iloadn (x := a1) rfl rfl ?_
            refine x_iloadn (x := a2) rfl rfl ?_
            refine x_inv (N := m_X12_isNamed) (As := [.int a1, .int a2]) (b := 125) (st := []) (dx9 := 3) (mc := 0) (ms := 0) (host := "") 12 rfl t_X12_isNamed ⟨Or.inl q_12_315, i_X12_isNamed.1, i_X12_isNamed.2⟩ ⟨by decide, rfl⟩ (congrArg Prod.fst (J.1.1 125 (12, 92) rfl)) rfl (by decide) rfl rfl ⟨by decide, by decide⟩ (jC.of rfl k_X12_isNamed rfl ?_)
            show jX m_X12_isNamed 3 0 0 0 [(0, .ref 125), (1, .int a1), (2, .int a2)] [] _ 0 0 _
            have ba1 : 0 ≤ a1.toInt ∧ a1.toInt ≤ 599 := by omega
            have ba2 : 0 ≤ a2.toInt ∧ a2.toInt ≤ 1 := by omega
            have ba4 : 0 ≤ a4.toInt ∧ a4.toInt ≤ 6 := by omega
            clear ev3 ev11 ev81
            refine x_aloadn (x := 125) rfl rfl ?_
            refine z_getR (N := 92) (b := 126) 12 2 rfl f_12_8 rfl J rfl 16002 ⟨rfl, rfl⟩ rfl ?_
            refine x_aloadn (x := 125) rfl rfl ?_
            refine x_iloadn (x := a1) rfl rfl ?_
            refine x_iloadn (x := a2) rfl rfl ?_
            refine x_inv (N := m_X12_nameAt) (As := [.int a1, .int a2]) (b := 125) (st := [.ref 126]) (dx9 := 2) (mc := 0) (ms := 0) (host := "") 12 rfl t_X12_nameAt ⟨Or.inl q_12_311, i_X12_nameAt.1, i_X12_nameAt.2⟩ ⟨by decide, rfl⟩ (congrArg Prod.fst (J.1.1 125 (12, 92) rfl)) rfl (by decide) rfl rfl ⟨by decide, by decide⟩ (jC.of rfl k_X12_nameAt rfl ?_)
            show jX m_X12_nameAt 2 0 0 0 [(0, .ref 125), (1, .int a1), (2, .int a2)] [] _ 0 0 _
            refine x_aloadn (x := 125) rfl rfl ?_
            refine x_iloadn (x := a1) rfl rfl ?_
            refine x_iconst (v := 3) rfl ki_3 ?_
            refine z_idiv rfl rfl jk_3 (by omega) (by omega) (fun v83 ev83 => ?_)
            refine x_inv (N := m_X12_at) (As := [.int v83]) (b := 125) (st := []) (dx9 := 1) (mc := 0) (ms := 0) (host := "") 12 rfl t_X12_at ⟨Or.inl q_12_254, i_X12_at.1, i_X12_at.2⟩ ⟨by decide, rfl⟩ (congrArg Prod.fst (J.1.1 125 (12, 92) rfl)) rfl (by decide) rfl rfl ⟨by decide, by decide⟩ (jC.of rfl k_X12_at rfl ?_)
            show jX m_X12_at 1 0 0 0 [(0, .ref 125), (1, .int v83)] [] _ 0 0 _
            refine x_bipush (v := 20) rfl kb_20 ?_
            refine x_bipush (v := 90) rfl kb_90 ?_
            refine x_iloadn (x := v83) rfl rfl ?_
            refine z_imul rfl jk_90 rfl (by omega) (fun v84 ev84 => ?_)
            refine z_iadd rfl jk_20 rfl (by omega) (fun v85 ev85 => ?_)
            refine x_iret rfl rfl ?_
            show jX m_X12_nameAt 2 0 0 7 [(0, .ref 125), (1, .int a1), (2, .int a2)] [.int v85] _ 0 0 _
            refine x_bipush (v := 6) rfl kb_6 ?_
            refine z_iadd rfl rfl jk_6 (by omega) (fun v86 ev86 => ?_)
            refine x_bipush (v := 28) rfl kb_28 ?_
            refine x_iloadn (x := a1) rfl rfl ?_
            refine x_iconst (v := 3) rfl ki_3 ?_
            refine z_irem rfl rfl jk_3 (by omega) (by omega) (fun v87 ev87 => ?_)
            refine z_imul rfl jk_28 rfl (by omega) (fun v88 ev88 => ?_)
            refine z_iadd rfl rfl rfl (by omega) (fun v89 ev89 => ?_)
            refine x_bipush (v := 14) rfl kb_14 ?_
            refine x_iloadn (x := a2) rfl rfl ?_
            refine z_imul rfl jk_14 rfl (by omega) (fun v90 ev90 => ?_)
            refine z_iadd rfl rfl rfl (by omega) (fun v91 ev91 => ?_)
            have rbv91 : 26 ≤ v91.toInt ∧ v91.toInt ≤ 18006 := by omega
            have rnv91 := jnam (m := a1.toInt) (w := a2.toInt) (v := v91.toInt) (by omega) (by omega) (by omega)
            refine x_iret rfl rfl ?_
            show jX m_X12_isNamed 3 0 0 10 [(0, .ref 125), (1, .int a1), (2, .int a2)] [.int v91, .ref 126] _ 0 0 _
            refine z_ialdU (N := 50660) (lo := 0) (hi := 12) rfl J rfl rfl ⟨by omega, by omega⟩ ((show (v91.toInt - 20) % 90 = 6 ∨ (v91.toInt - 20) % 90 = 20 ∨ (v91.toInt - 20) % 90 = 34 ∨ (v91.toInt - 20) % 90 = 48 ∨ (v91.toInt - 20) % 90 = 62 ∨ (v91.toInt - 20) % 90 = 76 from jn20 rnv91).elim (fun q => (jrg_w (jrg_c J sg_126_20_18020_90_6_7 rfl ⟨by omega, by omega, by omega, by omega, by omega⟩) (by decide))) (fun q => q.elim (fun q => (jrg_w (jrg_c J sg_126_20_18020_90_20_21 rfl ⟨by omega, by omega, by omega, by omega, by omega⟩) (by decide))) (fun q => q.elim (fun q => (jrg_w (jrg_c J sg_126_20_18020_90_34_35 rfl ⟨by omega, by omega, by omega, by omega, by omega⟩) (by decide))) (fun q => q.elim (fun q => (jrg_w (jrg_c J sg_126_20_18020_90_48_49 rfl ⟨by omega, by omega, by omega, by omega, by omega⟩) (by decide))) (fun q => q.elim (fun q => (jrg_w (jrg_c J sg_126_20_18020_90_62_63 rfl ⟨by omega, by omega, by omega, by omega, by omega⟩) (by decide))) (fun q => (jrg_w (jrg_c J sg_126_20_18020_90_76_77 rfl ⟨by omega, by omega, by omega, by omega, by omega⟩) (by decide)))))))) (fun v92 qv92 ev92 => ?_)
            try rw [vrd (jmb_w w1 qv92 rfl) (show ((((20 + (90 * (a1.toInt / 3))) + 6) + (28 * (a1.toInt % 3))) + (14 * a2.toInt)) = v91.toInt from by omega)] at D
            refine x_ifle (tgt := 18) rfl rfl (ti_le rfl jk_0 ⟨fun c93 => ?_, fun c93 => ?_⟩)
            ·
              rw [if_pos (by omega)] at D
              refine x_iconst (v := 0) rfl ki_0 ?_
              refine x_zret rfl rfl (by decide) ?_
              show jX m_X12_piece 4 0 0 44 [(0, .ref 125), (1, .int a1), (2, .int a2), (3, .int a3), (4, .int a4)] [.int 0] _ 0 0 _
              refine x_ifne (tgt := 50) rfl rfl (ti_ne jk_0 jk_0 (bn_f (by omega) ?_))
              exact jX.sub jsb_n (ct_X12_piece_r125d_47 hD hQ  h J Sm D)
            ·
              rw [if_neg (by omega)] at D
              refine x_iconst (v := 1) rfl ki_1 ?_
              refine x_goto (tgt := 19) rfl rfl ?_
              refine x_zret rfl rfl (by decide) ?_
              show jX m_X12_piece 4 0 0 44 [(0, .ref 125), (1, .int a1), (2, .int a2), (3, .int a3), (4, .int a4)] [.int 1] _ 0 0 _
              refine x_ifne (tgt := 50) rfl rfl (ti_ne jk_1 jk_0 (bn_t (by omega) ?_))
              refine x_aloadn (x := 125) rfl rfl ?_
              refine x_iloadn (x := a1) rfl rfl ?_
              refine x_iloadn (x := a2) rfl rfl ?_
              refine x_inv (N := m_X12_nameAt) (As := [.int a1, .int a2]) (b := 125) (st := []) (dx9 := 3) (mc := 0) (ms := 0) (host := "") 12 rfl t_X12_nameAt ⟨Or.inl q_12_311, i_X12_nameAt.1, i_X12_nameAt.2⟩ ⟨by decide, rfl⟩ (congrArg Prod.fst (J.1.1 125 (12, 92) rfl)) rfl (by decide) rfl rfl ⟨by decide, by decide⟩ (jC.of rfl k_X12_nameAt rfl ?_)
              show jX m_X12_nameAt 3 0 0 0 [(0, .ref 125), (1, .int a1), (2, .int a2)] [] _ 0 0 _
              refine x_aloadn (x := 125) rfl rfl ?_
              refine x_iloadn (x := a1) rfl rfl ?_
              refine x_iconst (v := 3) rfl ki_3 ?_
              refine z_idiv rfl rfl jk_3 (by omega) (by omega) (fun v94 ev94 => ?_)
              refine x_inv (N := m_X12_at) (As := [.int v94]) (b := 125) (st := []) (dx9 := 2) (mc := 0) (ms := 0) (host := "") 12 rfl t_X12_at ⟨Or.inl q_12_254, i_X12_at.1, i_X12_at.2⟩ ⟨by decide, rfl⟩ (congrArg Prod.fst (J.1.1 125 (12, 92) rfl)) rfl (by decide) rfl rfl ⟨by decide, by decide⟩ (jC.of rfl k_X12_at rfl ?_)
              show jX m_X12_at 2 0 0 0 [(0, .ref 125), (1, .int v94)] [] _ 0 0 _
              refine x_bipush (v := 20) rfl kb_20 ?_
              refine x_bipush (v := 90) rfl kb_90 ?_
              refine x_iloadn (x := v94) rfl rfl ?_
              refine z_imul rfl jk_90 rfl (by omega) (fun v95 ev95 => ?_)
              refine z_iadd rfl jk_20 rfl (by omega) (fun v96 ev96 => ?_)
              refine x_iret rfl rfl ?_
              show jX m_X12_nameAt 3 0 0 7 [(0, .ref 125), (1, .int a1), (2, .int a2)] [.int v96] _ 0 0 _
              refine x_bipush (v := 6) rfl kb_6 ?_
              refine z_iadd rfl rfl jk_6 (by omega) (fun v97 ev97 => ?_)
              refine x_bipush (v := 28) rfl kb_28 ?_
              refine x_iloadn (x := a1) rfl rfl ?_
              refine x_iconst (v := 3) rfl ki_3 ?_
              refine z_irem rfl rfl jk_3 (by omega) (by omega) (fun v98 ev98 => ?_)
              refine z_imul rfl jk_28 rfl (by omega) (fun v99 ev99 => ?_)
              refine z_iadd rfl rfl rfl (by omega) (fun v100 ev100 => ?_)
              refine x_bipush (v := 14) rfl kb_14 ?_
              refine x_iloadn (x := a2) rfl rfl ?_
              refine z_imul rfl jk_14 rfl (by omega) (fun v101 ev101 => ?_)
              refine z_iadd rfl rfl rfl (by omega) (fun v102 ev102 => ?_)
              have rbv102 : 26 ≤ v102.toInt ∧ v102.toInt ≤ 18006 := by omega
              have rnv102 := jnam (m := a1.toInt) (w := a2.toInt) (v := v102.toInt) (by omega) (by omega) (by omega)
              refine x_iret rfl rfl ?_
              show jX m_X12_piece 4 0 0 56 [(0, .ref 125), (1, .int a1), (2, .int a2), (3, .int a3), (4, .int a4)] [.int v102] _ 0 0 _
              refine x_istore (lsx9 := [(5, .int v102), (0, .ref 125), (1, .int a1), (2, .int a2), (3, .int a3), (4, .int a4)]) rfl rfl rfl ?_
              refine x_iloadn (x := a3) rfl rfl ?_
              refine z_i2l rfl rfl (fun v103 ev103 => ?_)
              refine x_lconst (v := 0) rfl kl_0 ?_
              refine x_aloadn (x := 125) rfl rfl ?_
              refine z_getR (N := 92) (b := 126) 12 2 rfl f_12_8 rfl J rfl 16002 ⟨rfl, rfl⟩ rfl ?_
              refine x_iload (x := v102) rfl rfl ?_
              refine z_ialdU (N := 50660) (lo := 0) (hi := 12) rfl J rfl rfl ⟨by omega, by omega⟩ ((show (v102.toInt - 20) % 90 = 6 ∨ (v102.toInt - 20) % 90 = 20 ∨ (v102.toInt - 20) % 90 = 34 ∨ (v102.toInt - 20) % 90 = 48 ∨ (v102.toInt - 20) % 90 = 62 ∨ (v102.toInt - 20) % 90 = 76 from jn20 rnv102).elim (fun q => (jrg_w (jrg_c J sg_126_20_18020_90_6_7 rfl ⟨by omega, by omega, by omega, by omega, by omega⟩) (by decide))) (fun q => q.elim (fun q => (jrg_w (jrg_c J sg_126_20_18020_90_20_21 rfl ⟨by omega, by omega, by omega, by omega, by omega⟩) (by decide))) (fun q => q.elim (fun q => (jrg_w (jrg_c J sg_126_20_18020_90_34_35 rfl ⟨by omega, by omega, by omega, by omega, by omega⟩) (by decide))) (fun q => q.elim (fun q => (jrg_w (jrg_c J sg_126_20_18020_90_48_49 rfl ⟨by omega, by omega, by omega, by omega, by omega⟩) (by decide))) (fun q => q.elim (fun q => (jrg_w (jrg_c J sg_126_20_18020_90_62_63 rfl ⟨by omega, by omega, by omega, by omega, by omega⟩) (by decide))) (fun q => (jrg_w (jrg_c J sg_126_20_18020_90_76_77 rfl ⟨by omega, by omega, by omega, by omega, by omega⟩) (by decide)))))))) (fun v104 qv104 ev104 => ?_)
              try have kqv104 : v92.toInt = v104.toInt := ((vrd (jmb_w w1 qv92 rfl) (show ((((20 + (90 * (a1.toInt / 3))) + 6) + (28 * (a1.toInt % 3))) + (14 * a2.toInt)) = v91.toInt from by omega)).symm.trans (vrd (jmb_w w1 qv104 rfl) (show ((((20 + (90 * (a1.toInt / 3))) + 6) + (28 * (a1.toInt % 3))) + (14 * a2.toInt)) = v102.toInt from by omega)))
              try rw [show v92.toInt = v104.toInt from ((vrd (jmb_w w1 qv92 rfl) (show ((((20 + (90 * (a1.toInt / 3))) + 6) + (28 * (a1.toInt % 3))) + (14 * a2.toInt)) = v91.toInt from by omega)).symm.trans (vrd (jmb_w w1 qv104 rfl) (show ((((20 + (90 * (a1.toInt / 3))) + 6) + (28 * (a1.toInt % 3))) + (14 * a2.toInt)) = v102.toInt from by omega)))] at D
              try rw [vrd (jmb_w w1 qv104 rfl) (show ((((20 + (90 * (a1.toInt / 3))) + 6) + (28 * (a1.toInt % 3))) + (14 * a2.toInt)) = v102.toInt from by omega)] at D
              refine x_iload (x := a4) rfl rfl ?_
              refine z_isub rfl rfl rfl (by omega) (fun v105 ev105 => ?_)
              refine z_i2l rfl rfl (fun v106 ev106 => ?_)
              refine x_inst (N := m_X12_in) (As := [.long v103, .long 0, .long v106]) (st := []) (dx9 := 1) (mc := 0) (ms := 0) (host := "") rfl t_X12_in ⟨Or.inl q_12_188, s_X12_in⟩ rfl (by decide) rfl rfl ⟨by decide, by decide⟩ (zc_X12_in rfl jkl_0 rfl (fun v107 ev107 => ?_))
              show jX m_X12_piece 4 0 0 75 [(5, .int v102), (0, .ref 125), (1, .int a1), (2, .int a2), (3, .int a3), (4, .int a4)] [.int v107] _ 0 0 _
              refine x_ifne (tgt := 81) rfl rfl (ti_ne rfl jk_0 ⟨fun c108 => ?_, fun c108 => ?_⟩)
              ·
                rw [if_pos (by omega)] at D
                refine x_iconst (v := 0) rfl ki_0 ?_
                refine x_istore (lsx9 := [(6, .int 0), (5, .int v102), (0, .ref 125), (1, .int a1), (2, .int a2), (3, .int a3), (4, .int a4)]) rfl rfl rfl ?_
                refine x_iconst (v := 0) rfl ki_0 ?_
                refine x_istore (lsx9 := [(7, .int 0), (6, .int 0), (5, .int v102), (0, .ref 125), (1, .int a1), (2, .int a2), (3, .int a3), (4, .int a4)]) rfl rfl rfl ?_
                try rw [show ((((20 + (90 * (a1.toInt / 3))) + 6) + (28 * (a1.toInt % 3))) + (14 * a2.toInt)) = v102.toInt from by omega] at D
                exact jX.sub (jsb_c rfl (jsb_c rfl (jsb_c rfl (jsb_c rfl (jsb_c rfl (jsb_c rfl jsb_n)))))) (ct_X12_piece_r125d_87 hD hQ  7 a3 a4 v102 0 0 h (by have := jk_0; omega) (jr_of rfl (by omega)) (jr_of rfl (by omega)) (jr_of rfl (by omega)) (jr_mod rfl (by omega)) (jr_of jk_0 (by omega)) (by omega) (by omega) J Sm (by rw [jk_0]; exact D))
              ·
                rw [if_neg (by omega)] at D
                refine x_bipush (v := (-3)) rfl kb_m3 ?_
                refine x_iret rfl rfl ?_
                exact hQ _ _ J Sm ((congrArg Prod.fst D).symm.trans (show (-3) = ((-3) : Int32).toInt from by have := jk_m3; omega)) (congrArg Prod.snd D).symm
  ·
    rw [if_neg (by omega)] at D
    refine x_iconst (v := (-1)) rfl ki_m1 ?_
    refine x_iret rfl rfl ?_
    exact hQ _ _ J Sm ((congrArg Prod.fst D).symm.trans (show (-1) = ((-1) : Int32).toInt from by have := jk_m1; omega)) (congrArg Prod.snd D).symm
def fp_X12_price_r125d : jFp := [(125, 0, 1), (125, 1, 2), (126, 15, 16), (126, 49520, 49920)]
set_option maxRecDepth 100000 in
set_option maxHeartbeats 4000000 in
theorem ct_X12_price_r125d_44 {Dy : jH → Prop} {h0 : jH} {Q : Option Value → jH → Prop} {dr : (Int × jW)} (hD : jDk Dy) (hQ : ∀ (v : Int32) hx9, jJ jSgM Dy hx9 → jSm fp_X12_price_r125d h0 hx9 → dr.1 = v.toInt → dr.2 = vw hx9 → Q (some (.int v)) hx9) : ∀ (h : jH), jJ jSgM Dy h → jSm fp_X12_price_r125d h0 h → d_X12_price_r125d_44  (vw h) = dr → jX m_X12_price 3 0 0 44 [(0, .ref 125)] [] h 0 0 Q := by
  intro  h    J Sm D
  unfold d_X12_price_r125d_44 at D
  refine x_aloadn (x := 125) rfl rfl ?_
  refine x_iconst (v := (-1)) rfl ki_m1 ?_
  refine x_inv (N := m_X12_told) (As := [.int (-1)]) (b := 125) (st := []) (dx9 := 1) (mc := 0) (ms := 0) (host := "") 12 rfl t_X12_told ⟨Or.inl q_12_197, i_X12_told.1, i_X12_told.2⟩ ⟨by decide, rfl⟩ (congrArg Prod.fst (J.1.1 125 (12, 92) rfl)) rfl (by decide) rfl rfl ⟨by decide, by decide⟩ (sf_X12_told_r125d  hD J rfl  (fun v4 h J S1 X2 X3 => ?_))
  have ev4 := jfull v4
  have Sm := jSm_tr rfl Sm S1
  try rw [jk_m1] at X2
  try rw [jk_m1] at X3
  try rw [X2] at D
  try rw [X3] at D
  show jX m_X12_price 3 0 0 49 [(0, .ref 125)] [.int v4] _ 0 0 _
  refine x_iret rfl rfl ?_
  exact hQ _ _ J Sm ((congrArg Prod.fst D).symm.trans X2) ((congrArg Prod.snd D).symm.trans X3)
set_option maxRecDepth 100000 in
set_option maxHeartbeats 4000000 in
theorem sf_X12_price_r125d {Dy : jH → Prop} {h : jH} {Q : Option Value → jH → Prop} {dr : (Int × jW)} {a1 : Int32} {a2 : Int32} {a3 : Int32} {a4 : Int32} (hD : jDk Dy) (J : jJ jSgM Dy h) (D : d_X12_price_r125d a1.toInt a2.toInt a3.toInt a4.toInt (vw h) = dr) (hQ : ∀ (v : Int32) hx9, jJ jSgM Dy hx9 → jSm fp_X12_price_r125d h hx9 → dr.1 = v.toInt → dr.2 = vw hx9 → Q (some (.int v)) hx9) : jC m_X12_price 3 0 0 [.ref 125, .int a1, .int a2, .int a3, .int a4] h Q := by
  refine jC.of rfl k_X12_price rfl ?_
  have Sm := jSm_rf fp_X12_price_r125d h
  have ea1 := jfull a1
  have ea2 := jfull a2
  have ea3 := jfull a3
  have ea4 := jfull a4
  show jX m_X12_price 3 0 0 0 [(0, .ref 125), (1, .int a1), (2, .int a2), (3, .int a3), (4, .int a4)] [] _ 0 0 _
  unfold d_X12_price_r125d at D
  refine x_aloadn (x := 125) rfl rfl ?_
  refine x_iconst (v := 0) rfl ki_0 ?_
  refine z_putI (N := 92) (w := 0) 12 0 rfl f_12_180 rfl (jfin_no TX12 RX12 92 rfl rfl) hD J Sm rfl rfl jk_0 (pw_125_0 (by omega)) rfl (fun h w1 J Sm => ?_)
  rw [vwf w1 (show 0 = (0 : Int32).toInt from by have := jk_0; omega)] at D
  refine x_iloadn (x := a1) rfl rfl ?_
  refine z_i2l rfl rfl (fun v2 ev2 => ?_)
  refine x_lconst (v := 0) rfl kl_0 ?_
  refine x_ldc2 (v := 2) rfl z_12_482 ?_
  refine x_inst (N := m_X12_in) (As := [.long v2, .long 0, .long 2]) (st := []) (dx9 := 1) (mc := 0) (ms := 0) (host := "") rfl t_X12_in ⟨Or.inl q_12_188, s_X12_in⟩ rfl (by decide) rfl rfl ⟨by decide, by decide⟩ (zc_X12_in rfl jkl_0 jkl_2 (fun v3 ev3 => ?_))
  show jX m_X12_price 3 0 0 14 [(0, .ref 125), (1, .int a1), (2, .int a2), (3, .int a3), (4, .int a4)] [.int v3] _ 0 0 _
  refine x_ifeq (tgt := 44) rfl rfl (ti_eq rfl jk_0 ⟨fun c4 => ?_, fun c4 => ?_⟩)
  ·
    rw [if_neg (by omega)] at D
    exact jX.sub (jsb_c rfl jsb_n) (ct_X12_price_r125d_44 hD hQ  h J Sm D)
  ·
    rw [if_pos (by omega)] at D
    refine x_iloadn (x := a2) rfl rfl ?_
    refine x_inst (N := m_X12_isYear) (As := [.int a2]) (st := []) (dx9 := 2) (mc := 0) (ms := 0) (host := "") rfl t_X12_isYear ⟨Or.inl q_12_817, s_X12_isYear⟩ rfl (by decide) rfl rfl ⟨by decide, by decide⟩ (zc_X12_isYear (d := 1) rfl (fun v5 ev5 => ?_))
    show jX m_X12_price 3 0 0 21 [(0, .ref 125), (1, .int a1), (2, .int a2), (3, .int a3), (4, .int a4)] [.int v5] _ 0 0 _
    refine x_ifeq (tgt := 44) rfl rfl (ti_eq rfl jk_0 ⟨fun c6 => ?_, fun c6 => ?_⟩)
    ·
      rw [if_neg (by omega)] at D
      exact jX.sub (jsb_c rfl jsb_n) (ct_X12_price_r125d_44 hD hQ  h J Sm D)
    ·
      rw [if_pos (by omega)] at D
      refine x_iloadn (x := a3) rfl rfl ?_
      refine z_i2l rfl rfl (fun v7 ev7 => ?_)
      refine x_lconst (v := 0) rfl kl_0 ?_
      refine x_ldc2 (v := 10000) rfl z_12_809 ?_
      refine x_inst (N := m_X12_in) (As := [.long v7, .long 0, .long 10000]) (st := []) (dx9 := 1) (mc := 0) (ms := 0) (host := "") rfl t_X12_in ⟨Or.inl q_12_188, s_X12_in⟩ rfl (by decide) rfl rfl ⟨by decide, by decide⟩ (zc_X12_in rfl jkl_0 jkl_10000 (fun v8 ev8 => ?_))
      show jX m_X12_price 3 0 0 33 [(0, .ref 125), (1, .int a1), (2, .int a2), (3, .int a3), (4, .int a4)] [.int v8] _ 0 0 _
      refine x_ifeq (tgt := 44) rfl rfl (ti_eq rfl jk_0 ⟨fun c9 => ?_, fun c9 => ?_⟩)
      ·
        rw [if_neg (by omega)] at D
        exact jX.sub (jsb_c rfl jsb_n) (ct_X12_price_r125d_44 hD hQ  h J Sm D)
      ·
        rw [if_pos (by omega)] at D
        refine x_iload (x := a4) rfl rfl ?_
        refine x_inst (N := m_X12_isDay) (As := [.int a4]) (st := []) (dx9 := 2) (mc := 0) (ms := 0) (host := "") rfl t_X12_isDay ⟨Or.inl q_12_273, s_X12_isDay⟩ rfl (by decide) rfl rfl ⟨by decide, by decide⟩ (zc_X12_isDay (d := 1) rfl (fun v10 ev10 => ?_))
        show jX m_X12_price 3 0 0 41 [(0, .ref 125), (1, .int a1), (2, .int a2), (3, .int a3), (4, .int a4)] [.int v10] _ 0 0 _
        refine x_ifne (tgt := 50) rfl rfl (ti_ne rfl jk_0 ⟨fun c11 => ?_, fun c11 => ?_⟩)
        ·
          rw [if_pos (by omega)] at D
          refine x_aloadn (x := 125) rfl rfl ?_
          refine z_getR (N := 92) (b := 126) 12 2 rfl f_12_8 rfl J rfl 16002 ⟨rfl, rfl⟩ rfl ?_
          refine x_bipush (v := 15) rfl kb_15 ?_
          refine z_iald (N := 50660) rfl J rfl sg_126_15_16_1_0_1 jk_15 (by omega) (fun v12 qv12 ev12 => ?_)
          try rw [vrn (n := 15) (by decide) (jmb_w w1 qv12 rfl)] at D
          refine x_bipush (v := 100) rfl kb_100 ?_
          refine x_icne (tgt := 69) rfl rfl (ti_ne rfl jk_100 ⟨fun c13 => ?_, fun c13 => ?_⟩)
          ·
            rw [if_neg (by omega)] at D
            refine x_aloadn (x := 125) rfl rfl ?_
            refine x_ldcw (v := 49520) rfl z_12_857 ?_
            refine x_iconst (v := 4) rfl ki_4 ?_
            refine x_aloadn (x := 125) rfl rfl ?_
            refine z_getR (N := 92) (b := 126) 12 2 rfl f_12_8 rfl J rfl 16002 ⟨rfl, rfl⟩ rfl ?_
            refine x_bipush (v := 15) rfl kb_15 ?_
            refine z_ialdM (N := 50660) (v := v12) rfl J rfl jk_15 (by omega) qv12 ?_
            refine z_imul rfl jk_4 rfl (by omega) (fun v14 ev14 => ?_)
            refine z_iadd rfl jk_49520 rfl (by omega) (fun v15 ev15 => ?_)
            refine x_iloadn (x := a1) rfl rfl ?_
            refine x_iloadn (x := a2) rfl rfl ?_
            refine x_iloadn (x := a3) rfl rfl ?_
            refine x_iload (x := a4) rfl rfl ?_
            refine x_inv (N := m_X12_addFour) (As := [.int v15, .int a1, .int a2, .int a3, .int a4]) (b := 125) (st := []) (dx9 := 2) (mc := 0) (ms := 0) (host := "") 12 rfl t_X12_addFour ⟨Or.inl q_12_814, i_X12_addFour.1, i_X12_addFour.2⟩ ⟨by decide, rfl⟩ (congrArg Prod.fst (J.1.1 125 (12, 92) rfl)) rfl (by decide) rfl rfl ⟨by decide, by decide⟩ (jC.of rfl k_X12_addFour rfl ?_)
            show jX m_X12_addFour 2 0 0 0 [(0, .ref 125), (1, .int v15), (2, .int a1), (3, .int a2), (4, .int a3), (5, .int a4)] [] _ 0 0 _
            refine x_aloadn (x := 125) rfl rfl ?_
            refine z_getR (N := 92) (b := 126) 12 2 rfl f_12_8 rfl J rfl 16002 ⟨rfl, rfl⟩ rfl ?_
            refine x_iloadn (x := v15) rfl rfl ?_
            refine x_iloadn (x := a1) rfl rfl ?_
            refine z_iast (N := 50660) (l := 49520) (u := 49920) (w := a1.toInt) rfl hD J Sm rfl rfl rfl (by omega) rfl (wr_126_49520 (by omega) (fun q1 q2 q3 q4 => by omega) (fun q1 q2 q3 q4 => by omega) (fun q1 q2 q3 q4 => by omega) (fun q1 q2 q3 q4 => by omega)) rfl (fun h w16 J Sm => ?_)
            rw [vww w16 (show (49520 + (4 * v12.toInt)) = v15.toInt from by omega) (show a1.toInt = a1.toInt from by omega)] at D
            refine x_aloadn (x := 125) rfl rfl ?_
            refine z_getR (N := 92) (b := 126) 12 2 rfl f_12_8 rfl J rfl 16002 ⟨rfl, rfl⟩ rfl ?_
            refine x_iloadn (x := v15) rfl rfl ?_
            refine x_iconst (v := 1) rfl ki_1 ?_
            refine z_iadd rfl rfl jk_1 (by omega) (fun v17 ev17 => ?_)
            refine x_iloadn (x := a2) rfl rfl ?_
            refine z_iast (N := 50660) (l := 49520) (u := 49920) (w := a2.toInt) rfl hD J Sm rfl rfl rfl (by omega) rfl (wr_126_49520 (by omega) (fun q1 q2 q3 q4 => by omega) (fun q1 q2 q3 q4 => by omega) (fun q1 q2 q3 q4 => by omega) (fun q1 q2 q3 q4 => by omega)) rfl (fun h w18 J Sm => ?_)
            rw [vww w18 (show ((49520 + (4 * v12.toInt)) + 1) = v17.toInt from by omega) (show a2.toInt = a2.toInt from by omega)] at D
            refine x_aloadn (x := 125) rfl rfl ?_
            refine z_getR (N := 92) (b := 126) 12 2 rfl f_12_8 rfl J rfl 16002 ⟨rfl, rfl⟩ rfl ?_
            refine x_iloadn (x := v15) rfl rfl ?_
            refine x_iconst (v := 2) rfl ki_2 ?_
            refine z_iadd rfl rfl jk_2 (by omega) (fun v19 ev19 => ?_)
            refine x_iload (x := a3) rfl rfl ?_
            refine z_iast (N := 50660) (l := 49520) (u := 49920) (w := a3.toInt) rfl hD J Sm rfl rfl rfl (by omega) rfl (wr_126_49520 (by omega) (fun q1 q2 q3 q4 => by omega) (fun q1 q2 q3 q4 => by omega) (fun q1 q2 q3 q4 => by omega) (fun q1 q2 q3 q4 => by omega)) rfl (fun h w20 J Sm => ?_)
            rw [vww w20 (show ((49520 + (4 * v12.toInt)) + 2) = v19.toInt from by omega) (show a3.toInt = a3.toInt from by omega)] at D
            refine x_aloadn (x := 125) rfl rfl ?_
            refine z_getR (N := 92) (b := 126) 12 2 rfl f_12_8 rfl J rfl 16002 ⟨rfl, rfl⟩ rfl ?_
            refine x_iloadn (x := v15) rfl rfl ?_
            refine x_iconst (v := 3) rfl ki_3 ?_
            refine z_iadd rfl rfl jk_3 (by omega) (fun v21 ev21 => ?_)
            refine x_iload (x := a4) rfl rfl ?_
            refine z_iast (N := 50660) (l := 49520) (u := 49920) (w := a4.toInt) rfl hD J Sm rfl rfl rfl (by omega) rfl (wr_126_49520 (by omega) (fun q1 q2 q3 q4 => by omega) (fun q1 q2 q3 q4 => by omega) (fun q1 q2 q3 q4 => by omega) (fun q1 q2 q3 q4 => by omega)) rfl (fun h w22 J Sm => ?_)
            rw [vww w22 (show ((49520 + (4 * v12.toInt)) + 3) = v21.toInt from by omega) (show a4.toInt = a4.toInt from by omega)] at D
            refine x_vret rfl rfl ?_
            show jX m_X12_price 3 0 0 91 [(0, .ref 125), (1, .int a1), (2, .int a2), (3, .int a3), (4, .int a4)] [] _ 0 0 _
            refine x_aloadn (x := 125) rfl rfl ?_
            refine z_getR (N := 92) (b := 126) 12 2 rfl f_12_8 rfl J rfl 16002 ⟨rfl, rfl⟩ rfl ?_
            refine x_bipush (v := 15) rfl kb_15 ?_
            refine x_dup2 rfl rfl rfl ?_
            refine z_ialdM (N := 50660) (v := v12) rfl J rfl jk_15 (by omega) (jmo2 w22 rfl jk_15 (by omega) (jmo2 w20 rfl jk_15 (by omega) (jmo2 w18 rfl jk_15 (by omega) (jmo2 w16 rfl jk_15 (by omega) qv12)))) ?_
            refine x_iconst (v := 1) rfl ki_1 ?_
            refine z_iadd rfl rfl jk_1 (by omega) (fun v23 ev23 => ?_)
            refine z_iast (N := 50660) (l := 15) (u := 16) (w := v23.toInt) rfl hD J Sm rfl rfl jk_15 (by omega) rfl (wr_126_15 (by omega) (fun q1 q2 q3 q4 => by omega)) rfl (fun h w24 J Sm => ?_)
            rw [vwn (n := 15) (by decide) w24 (show (v12.toInt + 1) = v23.toInt from by omega)] at D
            refine x_aloadn (x := 125) rfl rfl ?_
            refine x_aloadn (x := 125) rfl rfl ?_
            refine z_getR (N := 92) (b := 126) 12 2 rfl f_12_8 rfl J rfl 16002 ⟨rfl, rfl⟩ rfl ?_
            refine x_bipush (v := 15) rfl kb_15 ?_
            refine z_ialdM (N := 50660) (v := v23) rfl J rfl jk_15 (by omega) (jmw w24) ?_
            try rw [show (v12.toInt + 1) = v23.toInt from by omega] at D
            refine x_inv (N := m_X12_told) (As := [.int v23]) (b := 125) (st := []) (dx9 := 1) (mc := 0) (ms := 0) (host := "") 12 rfl t_X12_told ⟨Or.inl q_12_197, i_X12_told.1, i_X12_told.2⟩ ⟨by decide, rfl⟩ (congrArg Prod.fst (J.1.1 125 (12, 92) rfl)) rfl (by decide) rfl rfl ⟨by decide, by decide⟩ (sf_X12_told_r125d  hD J rfl  (fun v28 h J S25 X26 X27 => ?_))
            have ev28 := jfull v28
            have Sm := jSm_tr rfl Sm S25
            try rw [X26] at D
            try rw [X27] at D
            show jX m_X12_price 3 0 0 113 [(0, .ref 125), (1, .int a1), (2, .int a2), (3, .int a3), (4, .int a4)] [.int v28] _ 0 0 _
            refine x_iret rfl rfl ?_
            exact hQ _ _ J Sm ((congrArg Prod.fst D).symm.trans X26) ((congrArg Prod.snd D).symm.trans X27)
          ·
            rw [if_pos (by omega)] at D
            refine x_aloadn (x := 125) rfl rfl ?_
            refine x_bipush (v := (-5)) rfl kb_m5 ?_
            refine x_inv (N := m_X12_told) (As := [.int (-5)]) (b := 125) (st := []) (dx9 := 1) (mc := 0) (ms := 0) (host := "") 12 rfl t_X12_told ⟨Or.inl q_12_197, i_X12_told.1, i_X12_told.2⟩ ⟨by decide, rfl⟩ (congrArg Prod.fst (J.1.1 125 (12, 92) rfl)) rfl (by decide) rfl rfl ⟨by decide, by decide⟩ (sf_X12_told_r125d  hD J rfl  (fun v32 h J S29 X30 X31 => ?_))
            have ev32 := jfull v32
            have Sm := jSm_tr rfl Sm S29
            try rw [jk_m5] at X30
            try rw [jk_m5] at X31
            try rw [X30] at D
            try rw [X31] at D
            show jX m_X12_price 3 0 0 68 [(0, .ref 125), (1, .int a1), (2, .int a2), (3, .int a3), (4, .int a4)] [.int v32] _ 0 0 _
            refine x_iret rfl rfl ?_
            exact hQ _ _ J Sm ((congrArg Prod.fst D).symm.trans X30) ((congrArg Prod.snd D).symm.trans X31)
        ·
          rw [if_neg (by omega)] at D
          exact jX.sub (jsb_c rfl jsb_n) (ct_X12_price_r125d_44 hD hQ  h J Sm D)
def fp_X12_readPart_r125d : jFp := [(125, 9, 10), (125, 10, 11), (125, 11, 12), (125, 12, 13), (125, 13, 14), (125, 14, 15), (125, 49, 50), (125, 52, 53), (148, 0, 400), (149, 0, 400)]
set_option maxRecDepth 100000 in
set_option maxHeartbeats 4000000 in
theorem ct_X12_readPart_r125d_103 {Dy : jH → Prop} {h0 : jH} {Q : Option Value → jH → Prop} {dr : jW} {A : Nat} (hA : jTu 0 h0 A 0) (hD : jDk Dy) (hQ : ∀ hx9, jJ jSgM Dy hx9 → jSm fp_X12_readPart_r125d h0 hx9 → ∀ u0 u1 u2 : Int32, jiv hx9 125 10 = u0 → jiv hx9 125 8 = u1 → jiv hx9 125 9 = u2 → (u0.toInt ≤ u1.toInt ∧ u2.toInt ≤ u0.toInt) → ∀ u3 u4 u5 : Int32, jiv hx9 125 11 = u3 → jiv hx9 125 9 = u4 → jiv hx9 125 10 = u5 → (u3.toInt = 0 ∨ u4.toInt + 1 ≤ u5.toInt) → (jTu 0 hx9 A 1 ∧ jFm 1 A h0 hx9) → dr = vw hx9 → Q none hx9) : ∀ (g0 : Int32) (g1 : Int32) (g2 : Int32) (g3 : Int32) (h : jH), 0 ≤ g0.toInt ∧ g0.toInt ≤ 400 → 0 ≤ g1.toInt ∧ g1.toInt ≤ 3 → 0 ≤ g2.toInt ∧ g2.toInt ≤ 400 → 0 ≤ g3.toInt ∧ g3.toInt ≤ 400 → (jTu 0 h A 1 ∧ jFm 1 A h0 h) → (g0.toInt ≤ g2.toInt ∧ g3.toInt ≤ g0.toInt) → (g1.toInt = 0 ∨ g3.toInt + 1 ≤ g0.toInt) → jiv h 125 10 = g0 → jiv h 125 11 = g1 → jiv h 125 8 = g2 → jiv h 125 9 = g3 → jJ jSgM Dy h → jSm fp_X12_readPart_r125d h0 h → d_X12_readPart_r125d_103  (vw h) = dr → jX m_X12_readPart 4 0 0 103 [] [] h 0 0 Q := by
  intro g0 g1 g2 g3 h y0 y1 y2 y3 C0 y5 y6 z0 z1 z2 z3  J Sm D
  unfold d_X12_readPart_r125d_103 at D
  try rw [vrf z0] at D
  try rw [vrf z1] at D
  try rw [vrf z2] at D
  try rw [vrf z3] at D
  refine x_vret rfl rfl ?_
  exact hQ _ J Sm _ _ _ z0 z2 z3 (by omega) _ _ _ z1 z3 z0 (by omega) C0 D.symm
set_option maxRecDepth 100000 in
set_option maxHeartbeats 4000000 in
theorem ct_X12_readPart_r125d_89 {Dy : jH → Prop} {h0 : jH} {Q : Option Value → jH → Prop} {dr : jW} {A : Nat} (hA : jTu 0 h0 A 0) (hD : jDk Dy) (hQ : ∀ hx9, jJ jSgM Dy hx9 → jSm fp_X12_readPart_r125d h0 hx9 → ∀ u0 u1 u2 : Int32, jiv hx9 125 10 = u0 → jiv hx9 125 8 = u1 → jiv hx9 125 9 = u2 → (u0.toInt ≤ u1.toInt ∧ u2.toInt ≤ u0.toInt) → ∀ u3 u4 u5 : Int32, jiv hx9 125 11 = u3 → jiv hx9 125 9 = u4 → jiv hx9 125 10 = u5 → (u3.toInt = 0 ∨ u4.toInt + 1 ≤ u5.toInt) → (jTu 0 hx9 A 1 ∧ jFm 1 A h0 hx9) → dr = vw hx9 → Q none hx9) : ∀ (l3 : Int32) (s0 : Int32) (g0 : Int32) (g1 : Int32) (g2 : Int32) (g3 : Int32) (g4 : Int32) (g5 : Int32) (g6 : Int32) (h : jH), 0 ≤ s0.toInt ∧ s0.toInt ≤ 5 → 0 ≤ g0.toInt ∧ g0.toInt ≤ 400 → 0 ≤ g1.toInt ∧ g1.toInt ≤ 3 → 0 ≤ g2.toInt ∧ g2.toInt ≤ 0 → 0 ≤ g3.toInt ∧ g3.toInt ≤ 400 → 0 ≤ g4.toInt ∧ g4.toInt ≤ 59 → 0 ≤ g5.toInt ∧ g5.toInt ≤ 400 → 0 ≤ g6.toInt ∧ g6.toInt ≤ 400 → jMu A 0 h0 h → g2.toInt = 0 → (g0.toInt ≤ g5.toInt ∧ g6.toInt ≤ g0.toInt) → (g1.toInt = 0 ∨ g6.toInt + 1 ≤ g0.toInt) → jiv h 125 10 = g0 → jiv h 125 11 = g1 → jiv h 125 14 = g2 → jiv h 125 49 = g3 → jiv h 125 52 = g4 → jiv h 125 8 = g5 → jiv h 125 9 = g6 → jJ jSgM Dy h → jSm fp_X12_readPart_r125d h0 h → d_X12_readPart_r125d_89  l3.toInt s0.toInt (vw h) = dr → jX m_X12_readPart 4 0 0 89 [(0, .ref 125), (3, .int l3)] [.int s0, .ref 125] h 0 0 Q := by
  intro l3 s0 g0 g1 g2 g3 g4 g5 g6 h y0 y1 y2 y3 y4 y5 y6 y7 C0 y9 y10 y11 z0 z1 z2 z3 z4 z5 z6  J Sm D
  have el3 := jfull l3
  unfold d_X12_readPart_r125d_89 at D
  try rw [vrf z0] at D
  try rw [vrf z1] at D
  try rw [vrf z2] at D
  try rw [vrf z3] at D
  try rw [vrf z4] at D
  try rw [vrf z5] at D
  try rw [vrf z6] at D
  have cx := jmu_c C0 z2 (by omega) z3 (by have := jrg_f J sg_125_9_10_1_0_1; omega)
  refine x_iloadn (x := l3) rfl rfl ?_
  refine x_inv (N := m_X12_emit) (As := [.int s0, .int l3]) (b := 125) (st := []) (dx9 := 3) (mc := 0) (ms := 0) (host := "") 12 rfl t_X12_emit ⟨Or.inl q_12_502, i_X12_emit.1, i_X12_emit.2⟩ ⟨by decide, rfl⟩ (congrArg Prod.fst (J.1.1 125 (12, 92) rfl)) rfl (by decide) rfl rfl ⟨by decide, by decide⟩ (jC.of rfl k_X12_emit rfl ?_)
  show jX m_X12_emit 3 0 0 0 [(0, .ref 125), (1, .int s0), (2, .int l3)] [] _ 0 0 _
  refine x_aloadn (x := 125) rfl rfl ?_
  refine z_getR (N := 92) (b := 148) 12 50 rfl f_12_99 rfl J rfl 16050 ⟨rfl, rfl⟩ rfl ?_
  refine x_aloadn (x := 125) rfl rfl ?_
  refine z_getM (N := 92) (v := g3) 12 49 rfl f_12_493 rfl J rfl z3 ?_
  refine x_iloadn (x := s0) rfl rfl ?_
  refine z_iast (N := 400) (l := 0) (u := 400) (w := s0.toInt) rfl hD J Sm rfl rfl rfl (by omega) rfl (wr_148) rfl (fun h w1 J Sm => ?_)
  rw [vww w1 (show g3.toInt = g3.toInt from by omega) (show s0.toInt = s0.toInt from by omega)] at D
  refine x_aloadn (x := 125) rfl rfl ?_
  refine z_getR (N := 92) (b := 149) 12 51 rfl f_12_102 rfl J rfl 16051 ⟨rfl, rfl⟩ rfl ?_
  refine x_aloadn (x := 125) rfl rfl ?_
  refine z_getM (N := 92) (v := g3) 12 49 rfl f_12_493 rfl J rfl (jmo w1 rfl z3) ?_
  refine x_iloadn (x := l3) rfl rfl ?_
  refine z_iast (N := 400) (l := 0) (u := 400) (w := l3.toInt) rfl hD J Sm rfl rfl rfl (by omega) rfl (wr_149) rfl (fun h w2 J Sm => ?_)
  rw [vww w2 (show g3.toInt = g3.toInt from by omega) (show l3.toInt = l3.toInt from by omega)] at D
  refine x_aloadn (x := 125) rfl rfl ?_
  refine x_dup rfl rfl ?_
  refine z_getM (N := 92) (v := g3) 12 49 rfl f_12_493 rfl J rfl (jmo w2 rfl (jmo w1 rfl z3)) ?_
  refine x_iconst (v := 1) rfl ki_1 ?_
  refine z_iadd rfl rfl jk_1 (by omega) (fun v3 ev3 => ?_)
  refine z_putI (N := 92) (w := v3.toInt) 12 49 rfl f_12_493 rfl (jfin_no TX12 RX12 92 rfl rfl) hD J Sm rfl rfl rfl (pw_125_49 (by omega)) rfl (fun h w4 J Sm => ?_)
  rw [vwf w4 (show (g3.toInt + 1) = v3.toInt from by omega)] at D
  refine x_vret rfl rfl ?_
  show jX m_X12_readPart 4 0 0 93 [(0, .ref 125), (3, .int l3)] [] _ 0 0 _
  refine x_aloadn (x := 125) rfl rfl ?_
  refine x_dup rfl rfl ?_
  refine z_getM (N := 92) (v := g4) 12 52 rfl f_12_542 rfl J rfl (jmo w4 rfl (jmo w2 rfl (jmo w1 rfl z4))) ?_
  refine x_iconst (v := 1) rfl ki_1 ?_
  refine z_iadd rfl rfl jk_1 (by omega) (fun v5 ev5 => ?_)
  refine z_putI (N := 92) (w := v5.toInt) 12 52 rfl f_12_542 rfl (jfin_no TX12 RX12 92 rfl rfl) hD J Sm rfl rfl rfl (pw_125_52 (by omega)) rfl (fun h w6 J Sm => ?_)
  rw [vwf w6 (show (g4.toInt + 1) = v5.toInt from by omega)] at D
  exact jX.sub jsb_n (ct_X12_readPart_r125d_103 hA hD hQ  g0 g1 g5 g6 h (jr_of rfl (by omega)) (jr_of rfl (by omega)) (jr_of rfl (by omega)) (jr_of rfl (by omega)) (jpo_mv (jmu_leaf C0 z2 (by omega) z3 w1 w2 w4 (by omega) (by omega)) w6 rfl) (by omega) (by omega) (jmo w6 rfl (jmo w4 rfl (jmo w2 rfl (jmo w1 rfl z0)))) (jmo w6 rfl (jmo w4 rfl (jmo w2 rfl (jmo w1 rfl z1)))) (jmo w6 rfl (jmo w4 rfl (jmo w2 rfl (jmo w1 rfl z5)))) (jmo w6 rfl (jmo w4 rfl (jmo w2 rfl (jmo w1 rfl z6)))) J Sm D)
set_option maxRecDepth 100000 in
set_option maxHeartbeats 4000000 in
theorem ct_X12_readPart_r125d_200089 {Dy : jH → Prop} {h0 : jH} {Q : Option Value → jH → Prop} {dr : jW} {A : Nat} (hA : jTu 0 h0 A 0) (hD : jDk Dy) (hQ : ∀ hx9, jJ jSgM Dy hx9 → jSm fp_X12_readPart_r125d h0 hx9 → ∀ u0 u1 u2 : Int32, jiv hx9 125 10 = u0 → jiv hx9 125 8 = u1 → jiv hx9 125 9 = u2 → (u0.toInt ≤ u1.toInt ∧ u2.toInt ≤ u0.toInt) → ∀ u3 u4 u5 : Int32, jiv hx9 125 11 = u3 → jiv hx9 125 9 = u4 → jiv hx9 125 10 = u5 → (u3.toInt = 0 ∨ u4.toInt + 1 ≤ u5.toInt) → (jTu 0 hx9 A 1 ∧ jFm 1 A h0 hx9) → dr = vw hx9 → Q none hx9) : ∀ (l3 : Int32) (g0 : Int32) (g1 : Int32) (g2 : Int32) (g3 : Int32) (g4 : Int32) (g5 : Int32) (g6 : Int32) (h : jH), 0 ≤ g0.toInt ∧ g0.toInt ≤ 400 → 0 ≤ g1.toInt ∧ g1.toInt ≤ 3 → 0 ≤ g2.toInt ∧ g2.toInt ≤ 0 → 0 ≤ g3.toInt ∧ g3.toInt ≤ 400 → 0 ≤ g4.toInt ∧ g4.toInt ≤ 59 → 0 ≤ g5.toInt ∧ g5.toInt ≤ 400 → 0 ≤ g6.toInt ∧ g6.toInt ≤ 400 → jMu A 0 h0 h → g2.toInt = 0 → (g0.toInt ≤ g5.toInt ∧ g6.toInt ≤ g0.toInt) → (g1.toInt = 0 ∨ g6.toInt + 1 ≤ g0.toInt) → jiv h 125 10 = g0 → jiv h 125 11 = g1 → jiv h 125 14 = g2 → jiv h 125 49 = g3 → jiv h 125 52 = g4 → jiv h 125 8 = g5 → jiv h 125 9 = g6 → jJ jSgM Dy h → jSm fp_X12_readPart_r125d h0 h → d_X12_readPart_r125d_200089  l3.toInt (vw h) = dr → jX m_X12_readPart 4 0 0 89 [(0, .ref 125), (3, .int l3)] [.int 0, .ref 125] h 0 0 Q := by
  intro l3 g0 g1 g2 g3 g4 g5 g6 h y0 y1 y2 y3 y4 y5 y6 C0 y8 y9 y10 z0 z1 z2 z3 z4 z5 z6  J Sm D
  have el3 := jfull l3
  unfold d_X12_readPart_r125d_200089 at D
  try rw [vrf z0] at D
  try rw [vrf z1] at D
  try rw [vrf z2] at D
  try rw [vrf z3] at D
  try rw [vrf z4] at D
  try rw [vrf z5] at D
  try rw [vrf z6] at D
  have cx := jmu_c C0 z2 (by omega) z3 (by have := jrg_f J sg_125_9_10_1_0_1; omega)
  refine x_iloadn (x := l3) rfl rfl ?_
  refine x_inv (N := m_X12_emit) (As := [.int 0, .int l3]) (b := 125) (st := []) (dx9 := 3) (mc := 0) (ms := 0) (host := "") 12 rfl t_X12_emit ⟨Or.inl q_12_502, i_X12_emit.1, i_X12_emit.2⟩ ⟨by decide, rfl⟩ (congrArg Prod.fst (J.1.1 125 (12, 92) rfl)) rfl (by decide) rfl rfl ⟨by decide, by decide⟩ (jC.of rfl k_X12_emit rfl ?_)
  show jX m_X12_emit 3 0 0 0 [(0, .ref 125), (1, .int 0), (2, .int l3)] [] _ 0 0 _
  refine x_aloadn (x := 125) rfl rfl ?_
  refine z_getR (N := 92) (b := 148) 12 50 rfl f_12_99 rfl J rfl 16050 ⟨rfl, rfl⟩ rfl ?_
  refine x_aloadn (x := 125) rfl rfl ?_
  refine z_getM (N := 92) (v := g3) 12 49 rfl f_12_493 rfl J rfl z3 ?_
  refine x_iloadn (x := 0) rfl rfl ?_
  refine z_iast (N := 400) (l := 0) (u := 400) (w := 0) rfl hD J Sm rfl rfl rfl (by omega) jk_0 (wr_148) rfl (fun h w1 J Sm => ?_)
  rw [vww w1 (show g3.toInt = g3.toInt from by omega) (show 0 = (0 : Int32).toInt from by have := jk_0; omega)] at D
  refine x_aloadn (x := 125) rfl rfl ?_
  refine z_getR (N := 92) (b := 149) 12 51 rfl f_12_102 rfl J rfl 16051 ⟨rfl, rfl⟩ rfl ?_
  refine x_aloadn (x := 125) rfl rfl ?_
  refine z_getM (N := 92) (v := g3) 12 49 rfl f_12_493 rfl J rfl (jmo w1 rfl z3) ?_
  refine x_iloadn (x := l3) rfl rfl ?_
  refine z_iast (N := 400) (l := 0) (u := 400) (w := l3.toInt) rfl hD J Sm rfl rfl rfl (by omega) rfl (wr_149) rfl (fun h w2 J Sm => ?_)
  rw [vww w2 (show g3.toInt = g3.toInt from by omega) (show l3.toInt = l3.toInt from by omega)] at D
  refine x_aloadn (x := 125) rfl rfl ?_
  refine x_dup rfl rfl ?_
  refine z_getM (N := 92) (v := g3) 12 49 rfl f_12_493 rfl J rfl (jmo w2 rfl (jmo w1 rfl z3)) ?_
  refine x_iconst (v := 1) rfl ki_1 ?_
  refine z_iadd rfl rfl jk_1 (by omega) (fun v3 ev3 => ?_)
  refine z_putI (N := 92) (w := v3.toInt) 12 49 rfl f_12_493 rfl (jfin_no TX12 RX12 92 rfl rfl) hD J Sm rfl rfl rfl (pw_125_49 (by omega)) rfl (fun h w4 J Sm => ?_)
  rw [vwf w4 (show (g3.toInt + 1) = v3.toInt from by omega)] at D
  refine x_vret rfl rfl ?_
  show jX m_X12_readPart 4 0 0 93 [(0, .ref 125), (3, .int l3)] [] _ 0 0 _
  refine x_aloadn (x := 125) rfl rfl ?_
  refine x_dup rfl rfl ?_
  refine z_getM (N := 92) (v := g4) 12 52 rfl f_12_542 rfl J rfl (jmo w4 rfl (jmo w2 rfl (jmo w1 rfl z4))) ?_
  refine x_iconst (v := 1) rfl ki_1 ?_
  refine z_iadd rfl rfl jk_1 (by omega) (fun v5 ev5 => ?_)
  refine z_putI (N := 92) (w := v5.toInt) 12 52 rfl f_12_542 rfl (jfin_no TX12 RX12 92 rfl rfl) hD J Sm rfl rfl rfl (pw_125_52 (by omega)) rfl (fun h w6 J Sm => ?_)
  rw [vwf w6 (show (g4.toInt + 1) = v5.toInt from by omega)] at D
  exact jX.sub jsb_n (ct_X12_readPart_r125d_103 hA hD hQ  g0 g1 g5 g6 h (jr_of rfl (by omega)) (jr_of rfl (by omega)) (jr_of rfl (by omega)) (jr_of rfl (by omega)) (jpo_mv (jmu_leaf C0 z2 (by omega) z3 w1 w2 w4 (by omega) (by have := jk_0; omega)) w6 rfl) (by omega) (by omega) (jmo w6 rfl (jmo w4 rfl (jmo w2 rfl (jmo w1 rfl z0)))) (jmo w6 rfl (jmo w4 rfl (jmo w2 rfl (jmo w1 rfl z1)))) (jmo w6 rfl (jmo w4 rfl (jmo w2 rfl (jmo w1 rfl z5)))) (jmo w6 rfl (jmo w4 rfl (jmo w2 rfl (jmo w1 rfl z6)))) J Sm D)
set_option maxRecDepth 100000 in
set_option maxHeartbeats 4000000 in
theorem ct_X12_readPart_r125d_300068 {Dy : jH → Prop} {h0 : jH} {Q : Option Value → jH → Prop} {dr : jW} {A : Nat} (hA : jTu 0 h0 A 0) (hD : jDk Dy) (hQ : ∀ hx9, jJ jSgM Dy hx9 → jSm fp_X12_readPart_r125d h0 hx9 → ∀ u0 u1 u2 : Int32, jiv hx9 125 10 = u0 → jiv hx9 125 8 = u1 → jiv hx9 125 9 = u2 → (u0.toInt ≤ u1.toInt ∧ u2.toInt ≤ u0.toInt) → ∀ u3 u4 u5 : Int32, jiv hx9 125 11 = u3 → jiv hx9 125 9 = u4 → jiv hx9 125 10 = u5 → (u3.toInt = 0 ∨ u4.toInt + 1 ≤ u5.toInt) → (jTu 0 hx9 A 1 ∧ jFm 1 A h0 hx9) → dr = vw hx9 → Q none hx9) : ∀ (l1 : Int32) (l3 : Int32) (g0 : Int32) (g1 : Int32) (g2 : Int32) (g3 : Int32) (g4 : Int32) (h : jH), (-1) ≤ l1.toInt ∧ l1.toInt ≤ 5 → 0 ≤ g0.toInt ∧ g0.toInt ≤ 400 → 0 ≤ g1.toInt ∧ g1.toInt ≤ 3 → 0 ≤ g2.toInt ∧ g2.toInt ≤ 59 → 0 ≤ g3.toInt ∧ g3.toInt ≤ 400 → 0 ≤ g4.toInt ∧ g4.toInt ≤ 400 → jSa h0 h → g1.toInt ≠ 0 → (g0.toInt ≤ g3.toInt ∧ g4.toInt ≤ g0.toInt) → (g1.toInt = 0 ∨ g4.toInt + 1 ≤ g0.toInt) → jiv h 125 10 = g0 → jiv h 125 11 = g1 → jiv h 125 52 = g2 → jiv h 125 8 = g3 → jiv h 125 9 = g4 → jJ jSgM Dy h → jSm fp_X12_readPart_r125d h0 h → d_X12_readPart_r125d_300068  l1.toInt l3.toInt (vw h) = dr → jX m_X12_readPart 4 0 0 68 [(0, .ref 125), (1, .int l1), (3, .int l3)] [.int 1, .ref 125] h 0 0 Q := by
  intro l1 l3 g0 g1 g2 g3 g4 h y0 y1 y2 y3 y4 y5 C0 y7 y8 y9 z0 z1 z2 z3 z4  J Sm D
  have el3 := jfull l3
  unfold d_X12_readPart_r125d_300068 at D
  try rw [vrf z0] at D
  try rw [vrf z1] at D
  try rw [vrf z2] at D
  try rw [vrf z3] at D
  try rw [vrf z4] at D
  refine x_inv (N := m_X12_must) (As := [.int 1]) (b := 125) (st := []) (dx9 := 3) (mc := 0) (ms := 0) (host := "") 12 rfl t_X12_must ⟨Or.inl q_12_250, i_X12_must.1, i_X12_must.2⟩ ⟨by decide, rfl⟩ (congrArg Prod.fst (J.1.1 125 (12, 92) rfl)) rfl (by decide) rfl rfl ⟨by decide, by decide⟩ (jC.of rfl k_X12_must rfl ?_)
  show jX m_X12_must 3 0 0 0 [(0, .ref 125), (1, .int 1)] [] _ 0 0 _
  refine x_aloadn (x := 125) rfl rfl ?_
  refine z_getI (N := 92) 12 14 rfl f_12_214 rfl J rfl sg_125_14_15_1_0_1 (fun v1 qv1 ev1 => ?_)
  try rw [vrf qv1] at D
  refine x_ifne (tgt := 24) rfl rfl (ti_ne rfl jk_0 ⟨fun c2 => ?_, fun c2 => ?_⟩)
  ·
    rw [if_neg (by omega)] at D
    refine x_aloadn (x := 125) rfl rfl ?_
    refine z_getM (N := 92) (v := v1) 12 14 rfl f_12_214 rfl J rfl qv1 ?_
    refine x_ifne (tgt := 35) rfl rfl (ti_ne rfl jk_0 (bn_t (by omega) ?_))
    refine x_vret rfl rfl ?_
    show jX m_X12_readPart 4 0 0 71 [(0, .ref 125), (1, .int l1), (3, .int l3)] [] _ 0 0 _
    refine x_aloadn (x := 125) rfl rfl ?_
    refine z_getM (N := 92) (v := v1) 12 14 rfl f_12_214 rfl J rfl qv1 ?_
    refine x_ifne (tgt := 103) rfl rfl (ti_ne rfl jk_0 (bn_t (by omega) ?_))
    exact jX.sub jsb_n (ct_X12_readPart_r125d_103 hA hD hQ  g0 g1 g3 g4 h (jr_of rfl (by omega)) (jr_of rfl (by omega)) (jr_of rfl (by omega)) (jr_of rfl (by omega)) (jmu_pb (jmu_bad hA C0.1 C0.2.1 C0.2.2.1 C0.2.2.2.1 C0.2.2.2.2.1 C0.2.2.2.2.2.1 C0.2.2.2.2.2.2.1 qv1 (by omega)) qv1 (by omega)) (by omega) (by omega) z0 z1 z3 z4 J Sm D)
  ·
    rw [if_pos (by omega)] at D
    refine x_iloadn (x := 1) rfl rfl ?_
    refine x_ifne (tgt := 24) rfl rfl (ti_ne jk_1 jk_0 (bn_t (by omega) ?_))
    refine x_aloadn (x := 125) rfl rfl ?_
    refine z_getM (N := 92) (v := v1) 12 14 rfl f_12_214 rfl J rfl qv1 ?_
    refine x_ifne (tgt := 35) rfl rfl (ti_ne rfl jk_0 (bn_f (by omega) ?_))
    refine x_aloadn (x := 125) rfl rfl ?_
    refine x_inv (N := m_X12_next) (As := []) (b := 125) (st := []) (dx9 := 2) (mc := 0) (ms := 0) (host := "") 12 rfl t_X12_next ⟨Or.inl q_12_218, i_X12_next.1, i_X12_next.2⟩ ⟨by decide, rfl⟩ (congrArg Prod.fst (J.1.1 125 (12, 92) rfl)) rfl (by decide) rfl rfl ⟨by decide, by decide⟩ (sf_X12_next_r125d  hD J z0 z3 (by omega) rfl  (fun h J S3 u4 u5 u6 qu4 qu5 qu6 ru4 u7 u8 u9 qu7 qu8 qu9 ru7 P10 X11 => ?_))
    have Sm := jSm_tr rfl Sm S3
    rw [X11] at D
    have eu4 := (show 0 ≤ u4.toInt ∧ u4.toInt ≤ 400 from qu4 ▸ jrg_f J sg_125_10_11_1_0_1)
    try rw [vrf qu4] at D
    have eu5 := (show 0 ≤ u5.toInt ∧ u5.toInt ≤ 400 from qu5 ▸ jrg_f J sg_125_8_9_1_0_1)
    try rw [vrf (jmb_c S3 qu5 rfl)] at D
    have eu6 := (show 0 ≤ u6.toInt ∧ u6.toInt ≤ 400 from qu6 ▸ jrg_f J sg_125_9_10_1_0_1)
    try rw [vrf qu6] at D
    have eu7 := (show 0 ≤ u7.toInt ∧ u7.toInt ≤ 3 from qu7 ▸ jrg_f J sg_125_11_12_1_0_1)
    try rw [vrf qu7] at D
    obtain rfl : u6 = u8 := qu6.symm.trans qu8
    obtain rfl : u4 = u9 := qu4.symm.trans qu9
    have nfP10 := jnf P10.1 z0 qu6
    show jX m_X12_must 3 0 0 35 [(0, .ref 125), (1, .int 1)] [] _ 0 0 _
    refine x_vret rfl rfl ?_
    show jX m_X12_readPart 4 0 0 71 [(0, .ref 125), (1, .int l1), (3, .int l3)] [] _ 0 0 _
    refine x_aloadn (x := 125) rfl rfl ?_
    refine z_getM (N := 92) (v := v1) 12 14 rfl f_12_214 rfl J rfl (jmc S3 rfl qv1) ?_
    refine x_ifne (tgt := 103) rfl rfl (ti_ne rfl jk_0 (bn_f (by omega) ?_))
    refine x_aloadn (x := 125) rfl rfl ?_
    refine x_iloadn (x := l1) rfl rfl ?_
    refine x_iconst (v := (-1)) rfl ki_m1 ?_
    refine x_icne (tgt := 88) rfl rfl (ti_ne rfl jk_m1 ⟨fun c12 => ?_, fun c12 => ?_⟩)
    ·
      rw [if_neg (by omega)] at D
      refine x_iloadn (x := l1) rfl rfl ?_
      have ex49 := jrg_f J sg_125_49_50_1_0_1
      exact jX.sub (jsb_c rfl (jsb_c rfl jsb_n)) (ct_X12_readPart_r125d_89 hA hD hQ  l3 l1 u4 u7 v1 (jiv h 125 49) g2 u5 u6 h (jr_of rfl (by omega)) (jr_of rfl (by omega)) (jr_of rfl (by omega)) (jr_of rfl (by omega)) (jr_of rfl (by omega)) (jr_of rfl (by omega)) (jr_of rfl (by omega)) (jr_of rfl (by omega)) (jmu_on hA (jeq_c S3 rfl C0.1) (jeq_c S3 rfl C0.2.1) (jeq_c S3 rfl C0.2.2.1) (jeq_c S3 rfl C0.2.2.2.1) (jmc S3 rfl C0.2.2.2.2.1) (jmc S3 rfl C0.2.2.2.2.2.1) (jmc S3 rfl C0.2.2.2.2.2.2.2) (C0.2.2.2.2.2.2.1.symm.trans z4) qu6 (by omega)) (by omega) (by omega) (by omega) qu4 qu7 (jmc S3 rfl qv1) rfl (jmc S3 rfl z2) qu5 qu6 J Sm D)
    ·
      rw [if_pos (by omega)] at D
      refine x_iconst (v := 0) rfl ki_0 ?_
      refine x_goto (tgt := 89) rfl rfl ?_
      have ex49 := jrg_f J sg_125_49_50_1_0_1
      exact jX.sub (jsb_c rfl (jsb_c rfl jsb_n)) (ct_X12_readPart_r125d_200089 hA hD hQ  l3 u4 u7 v1 (jiv h 125 49) g2 u5 u6 h (jr_of rfl (by omega)) (jr_of rfl (by omega)) (jr_of rfl (by omega)) (jr_of rfl (by omega)) (jr_of rfl (by omega)) (jr_of rfl (by omega)) (jr_of rfl (by omega)) (jmu_on hA (jeq_c S3 rfl C0.1) (jeq_c S3 rfl C0.2.1) (jeq_c S3 rfl C0.2.2.1) (jeq_c S3 rfl C0.2.2.2.1) (jmc S3 rfl C0.2.2.2.2.1) (jmc S3 rfl C0.2.2.2.2.2.1) (jmc S3 rfl C0.2.2.2.2.2.2.2) (C0.2.2.2.2.2.2.1.symm.trans z4) qu6 (by omega)) (by omega) (by omega) (by omega) qu4 qu7 (jmc S3 rfl qv1) rfl (jmc S3 rfl z2) qu5 qu6 J Sm D)
set_option maxRecDepth 100000 in
set_option maxHeartbeats 4000000 in
theorem ct_X12_readPart_r125d_200068 {Dy : jH → Prop} {h0 : jH} {Q : Option Value → jH → Prop} {dr : jW} {A : Nat} (hA : jTu 0 h0 A 0) (hD : jDk Dy) (hQ : ∀ hx9, jJ jSgM Dy hx9 → jSm fp_X12_readPart_r125d h0 hx9 → ∀ u0 u1 u2 : Int32, jiv hx9 125 10 = u0 → jiv hx9 125 8 = u1 → jiv hx9 125 9 = u2 → (u0.toInt ≤ u1.toInt ∧ u2.toInt ≤ u0.toInt) → ∀ u3 u4 u5 : Int32, jiv hx9 125 11 = u3 → jiv hx9 125 9 = u4 → jiv hx9 125 10 = u5 → (u3.toInt = 0 ∨ u4.toInt + 1 ≤ u5.toInt) → (jTu 0 hx9 A 1 ∧ jFm 1 A h0 hx9) → dr = vw hx9 → Q none hx9) : ∀ (l1 : Int32) (l3 : Int32) (g0 : Int32) (g1 : Int32) (g2 : Int32) (g3 : Int32) (h : jH), (-1) ≤ l1.toInt ∧ l1.toInt ≤ 5 → 0 ≤ g0.toInt ∧ g0.toInt ≤ 400 → 0 ≤ g1.toInt ∧ g1.toInt ≤ 3 → 0 ≤ g2.toInt ∧ g2.toInt ≤ 400 → 0 ≤ g3.toInt ∧ g3.toInt ≤ 400 → jSa h0 h → (g0.toInt ≤ g2.toInt ∧ g3.toInt ≤ g0.toInt) → (g1.toInt = 0 ∨ g3.toInt + 1 ≤ g0.toInt) → jiv h 125 10 = g0 → jiv h 125 11 = g1 → jiv h 125 8 = g2 → jiv h 125 9 = g3 → jJ jSgM Dy h → jSm fp_X12_readPart_r125d h0 h → d_X12_readPart_r125d_200068  l1.toInt l3.toInt (vw h) = dr → jX m_X12_readPart 4 0 0 68 [(0, .ref 125), (1, .int l1), (3, .int l3)] [.int 0, .ref 125] h 0 0 Q := by
  intro l1 l3 g0 g1 g2 g3 h y0 y1 y2 y3 y4 C0 y6 y7 z0 z1 z2 z3  J Sm D
  have el3 := jfull l3
  unfold d_X12_readPart_r125d_200068 at D
  try rw [vrf z0] at D
  try rw [vrf z1] at D
  try rw [vrf z2] at D
  try rw [vrf z3] at D
  refine x_inv (N := m_X12_must) (As := [.int 0]) (b := 125) (st := []) (dx9 := 3) (mc := 0) (ms := 0) (host := "") 12 rfl t_X12_must ⟨Or.inl q_12_250, i_X12_must.1, i_X12_must.2⟩ ⟨by decide, rfl⟩ (congrArg Prod.fst (J.1.1 125 (12, 92) rfl)) rfl (by decide) rfl rfl ⟨by decide, by decide⟩ (jC.of rfl k_X12_must rfl ?_)
  show jX m_X12_must 3 0 0 0 [(0, .ref 125), (1, .int 0)] [] _ 0 0 _
  refine x_aloadn (x := 125) rfl rfl ?_
  refine z_getI (N := 92) 12 14 rfl f_12_214 rfl J rfl sg_125_14_15_1_0_1 (fun v1 qv1 ev1 => ?_)
  try rw [vrf qv1] at D
  refine x_ifne (tgt := 24) rfl rfl (ti_ne rfl jk_0 ⟨fun c2 => ?_, fun c2 => ?_⟩)
  ·
    rw [if_neg (by omega)] at D
    refine x_aloadn (x := 125) rfl rfl ?_
    refine z_getM (N := 92) (v := v1) 12 14 rfl f_12_214 rfl J rfl qv1 ?_
    refine x_ifne (tgt := 35) rfl rfl (ti_ne rfl jk_0 (bn_t (by omega) ?_))
    refine x_vret rfl rfl ?_
    show jX m_X12_readPart 4 0 0 71 [(0, .ref 125), (1, .int l1), (3, .int l3)] [] _ 0 0 _
    refine x_aloadn (x := 125) rfl rfl ?_
    refine z_getM (N := 92) (v := v1) 12 14 rfl f_12_214 rfl J rfl qv1 ?_
    refine x_ifne (tgt := 103) rfl rfl (ti_ne rfl jk_0 (bn_t (by omega) ?_))
    exact jX.sub jsb_n (ct_X12_readPart_r125d_103 hA hD hQ  g0 g1 g2 g3 h (jr_of rfl (by omega)) (jr_of rfl (by omega)) (jr_of rfl (by omega)) (jr_of rfl (by omega)) (jmu_pb (jmu_bad hA C0.1 C0.2.1 C0.2.2.1 C0.2.2.2.1 C0.2.2.2.2.1 C0.2.2.2.2.2.1 C0.2.2.2.2.2.2.1 qv1 (by omega)) qv1 (by omega)) (by omega) (by omega) z0 z1 z2 z3 J Sm D)
  ·
    rw [if_pos (by omega)] at D
    refine x_iloadn (x := 0) rfl rfl ?_
    refine x_ifne (tgt := 24) rfl rfl (ti_ne jk_0 jk_0 (bn_f (by omega) ?_))
    refine x_aloadn (x := 125) rfl rfl ?_
    refine x_iconst (v := 1) rfl ki_1 ?_
    refine z_putZ (N := 92) (w := 1) 12 14 rfl f_12_214 rfl (jfin_no TX12 RX12 92 rfl rfl) hD J Sm rfl rfl jk_1 (by omega) (pw_125_14 (by omega)) rfl (fun h w3 J Sm => ?_)
    rw [vwf w3 (show 1 = (1 : Int32).toInt from by have := jk_1; omega)] at D
    refine x_aloadn (x := 125) rfl rfl ?_
    refine x_aloadn (x := 125) rfl rfl ?_
    refine z_getM (N := 92) (v := g3) 12 9 rfl f_12_221 rfl J rfl (jmo w3 rfl z3) ?_
    refine z_putI (N := 92) (w := g3.toInt) 12 13 rfl f_12_32 rfl (jfin_no TX12 RX12 92 rfl rfl) hD J Sm rfl rfl rfl (pw_125_13 (by omega)) rfl (fun h w4 J Sm => ?_)
    rw [vwf w4 (show g3.toInt = g3.toInt from by omega)] at D
    refine x_aloadn (x := 125) rfl rfl ?_
    refine z_getM (N := 92) (v := 1) 12 14 rfl f_12_214 rfl J rfl (jmo w4 rfl (jmw w3)) ?_
    refine x_ifne (tgt := 35) rfl rfl (ti_ne jk_1 jk_0 (bn_t (by omega) ?_))
    refine x_vret rfl rfl ?_
    show jX m_X12_readPart 4 0 0 71 [(0, .ref 125), (1, .int l1), (3, .int l3)] [] _ 0 0 _
    refine x_aloadn (x := 125) rfl rfl ?_
    refine z_getM (N := 92) (v := 1) 12 14 rfl f_12_214 rfl J rfl (jmo w4 rfl (jmw w3)) ?_
    refine x_ifne (tgt := 103) rfl rfl (ti_ne jk_1 jk_0 (bn_t (by omega) ?_))
    exact jX.sub jsb_n (ct_X12_readPart_r125d_103 hA hD hQ  g0 g1 g2 g3 h (jr_of rfl (by omega)) (jr_of rfl (by omega)) (jr_of rfl (by omega)) (jr_of rfl (by omega)) (jmu_pb (jmu_bad hA (jeq_o w4 rfl (jeq_o w3 rfl C0.1)) (jeq_o w4 rfl (jeq_o w3 rfl C0.2.1)) (jeq_o w4 rfl (jeq_o w3 rfl C0.2.2.1)) (jeq_o w4 rfl (jeq_o w3 rfl C0.2.2.2.1)) (jmo w4 rfl (jmo w3 rfl C0.2.2.2.2.1)) (jmo w4 rfl (jmo w3 rfl C0.2.2.2.2.2.1)) (jmo w4 rfl (jmo w3 rfl C0.2.2.2.2.2.2.1)) (jmo w4 rfl (jmw w3)) (by decide)) (jmo w4 rfl (jmw w3)) (by decide)) (by omega) (by omega) (jmo w4 rfl (jmo w3 rfl z0)) (jmo w4 rfl (jmo w3 rfl z1)) (jmo w4 rfl (jmo w3 rfl z2)) (jmo w4 rfl (jmo w3 rfl z3)) J Sm D)
set_option maxRecDepth 100000 in
set_option maxHeartbeats 4000000 in
theorem ct_X12_readPart_r125d_67 {Dy : jH → Prop} {h0 : jH} {Q : Option Value → jH → Prop} {dr : jW} {A : Nat} (hA : jTu 0 h0 A 0) (hD : jDk Dy) (hQ : ∀ hx9, jJ jSgM Dy hx9 → jSm fp_X12_readPart_r125d h0 hx9 → ∀ u0 u1 u2 : Int32, jiv hx9 125 10 = u0 → jiv hx9 125 8 = u1 → jiv hx9 125 9 = u2 → (u0.toInt ≤ u1.toInt ∧ u2.toInt ≤ u0.toInt) → ∀ u3 u4 u5 : Int32, jiv hx9 125 11 = u3 → jiv hx9 125 9 = u4 → jiv hx9 125 10 = u5 → (u3.toInt = 0 ∨ u4.toInt + 1 ≤ u5.toInt) → (jTu 0 hx9 A 1 ∧ jFm 1 A h0 hx9) → dr = vw hx9 → Q none hx9) : ∀ (l1 : Int32) (l3 : Int32) (g0 : Int32) (g1 : Int32) (g2 : Int32) (g3 : Int32) (h : jH), (-1) ≤ l1.toInt ∧ l1.toInt ≤ 5 → 0 ≤ g0.toInt ∧ g0.toInt ≤ 400 → 0 ≤ g1.toInt ∧ g1.toInt ≤ 3 → 0 ≤ g2.toInt ∧ g2.toInt ≤ 400 → 0 ≤ g3.toInt ∧ g3.toInt ≤ 400 → jSa h0 h → (g0.toInt ≤ g2.toInt ∧ g3.toInt ≤ g0.toInt) → (g1.toInt = 0 ∨ g3.toInt + 1 ≤ g0.toInt) → jiv h 125 10 = g0 → jiv h 125 11 = g1 → jiv h 125 8 = g2 → jiv h 125 9 = g3 → jJ jSgM Dy h → jSm fp_X12_readPart_r125d h0 h → d_X12_readPart_r125d_67  l1.toInt l3.toInt (vw h) = dr → jX m_X12_readPart 4 0 0 67 [(0, .ref 125), (1, .int l1), (3, .int l3)] [.ref 125] h 0 0 Q := by
  intro l1 l3 g0 g1 g2 g3 h y0 y1 y2 y3 y4 C0 y6 y7 z0 z1 z2 z3  J Sm D
  have el3 := jfull l3
  unfold d_X12_readPart_r125d_67 at D
  try rw [vrf z0] at D
  try rw [vrf z1] at D
  try rw [vrf z2] at D
  try rw [vrf z3] at D
  refine x_iconst (v := 0) rfl ki_0 ?_
  exact jX.sub (jsb_c rfl (jsb_c rfl (jsb_c rfl jsb_n))) (ct_X12_readPart_r125d_200068 hA hD hQ  l1 l3 g0 g1 g2 g3 h (jr_of rfl (by omega)) (jr_of rfl (by omega)) (jr_of rfl (by omega)) (jr_of rfl (by omega)) (jr_of rfl (by omega)) C0 (by omega) (by omega) z0 z1 z2 z3 J Sm D)
set_option maxRecDepth 100000 in
set_option maxHeartbeats 4000000 in
theorem ct_X12_readPart_r125d_54 {Dy : jH → Prop} {h0 : jH} {Q : Option Value → jH → Prop} {dr : jW} {A : Nat} (hA : jTu 0 h0 A 0) (hD : jDk Dy) (hQ : ∀ hx9, jJ jSgM Dy hx9 → jSm fp_X12_readPart_r125d h0 hx9 → ∀ u0 u1 u2 : Int32, jiv hx9 125 10 = u0 → jiv hx9 125 8 = u1 → jiv hx9 125 9 = u2 → (u0.toInt ≤ u1.toInt ∧ u2.toInt ≤ u0.toInt) → ∀ u3 u4 u5 : Int32, jiv hx9 125 11 = u3 → jiv hx9 125 9 = u4 → jiv hx9 125 10 = u5 → (u3.toInt = 0 ∨ u4.toInt + 1 ≤ u5.toInt) → (jTu 0 hx9 A 1 ∧ jFm 1 A h0 hx9) → dr = vw hx9 → Q none hx9) : ∀ (l1 : Int32) (l3 : Int32) (g0 : Int32) (g1 : Int32) (g2 : Int32) (g3 : Int32) (h : jH), (-1) ≤ l1.toInt ∧ l1.toInt ≤ 5 → 0 ≤ g0.toInt ∧ g0.toInt ≤ 400 → 0 ≤ g1.toInt ∧ g1.toInt ≤ 3 → 0 ≤ g2.toInt ∧ g2.toInt ≤ 400 → 0 ≤ g3.toInt ∧ g3.toInt ≤ 400 → jSa h0 h → g1.toInt ≠ 0 → (g0.toInt ≤ g2.toInt ∧ g3.toInt ≤ g0.toInt) → (g1.toInt = 0 ∨ g3.toInt + 1 ≤ g0.toInt) → jiv h 125 10 = g0 → jiv h 125 11 = g1 → jiv h 125 8 = g2 → jiv h 125 9 = g3 → jJ jSgM Dy h → jSm fp_X12_readPart_r125d h0 h → d_X12_readPart_r125d_54  l1.toInt l3.toInt (vw h) = dr → jX m_X12_readPart 4 0 0 54 [(0, .ref 125), (1, .int l1), (3, .int l3)] [.ref 125] h 0 0 Q := by
  intro l1 l3 g0 g1 g2 g3 h y0 y1 y2 y3 y4 C0 y6 y7 y8 z0 z1 z2 z3  J Sm D
  have el3 := jfull l3
  unfold d_X12_readPart_r125d_54 at D
  try rw [vrf z0] at D
  try rw [vrf z1] at D
  try rw [vrf z2] at D
  try rw [vrf z3] at D
  refine x_aloadn (x := 125) rfl rfl ?_
  refine z_getI (N := 92) 12 52 rfl f_12_542 rfl J rfl sg_125_52_53_1_0_1 (fun v1 qv1 ev1 => ?_)
  try rw [vrf qv1] at D
  refine x_bipush (v := 60) rfl kb_60 ?_
  refine x_icge (tgt := 67) rfl rfl (ti_ge rfl jk_60 ⟨fun c2 => ?_, fun c2 => ?_⟩)
  ·
    rw [if_pos (by omega)] at D
    exact jX.sub (jsb_c rfl (jsb_c rfl (jsb_c rfl jsb_n))) (ct_X12_readPart_r125d_67 hA hD hQ  l1 l3 g0 g1 g2 g3 h (jr_of rfl (by omega)) (jr_of rfl (by omega)) (jr_of rfl (by omega)) (jr_of rfl (by omega)) (jr_of rfl (by omega)) C0 (by omega) (by omega) z0 z1 z2 z3 J Sm D)
  ·
    rw [if_neg (by omega)] at D
    refine x_iconst (v := 1) rfl ki_1 ?_
    refine x_goto (tgt := 68) rfl rfl ?_
    exact jX.sub (jsb_c rfl (jsb_c rfl (jsb_c rfl jsb_n))) (ct_X12_readPart_r125d_300068 hA hD hQ  l1 l3 g0 g1 v1 g2 g3 h (jr_of rfl (by omega)) (jr_of rfl (by omega)) (jr_of rfl (by omega)) (jr_of rfl (by omega)) (jr_of rfl (by omega)) (jr_of rfl (by omega)) C0 (by omega) (by omega) (by omega) z0 z1 qv1 z2 z3 J Sm D)
set_option maxRecDepth 100000 in
set_option maxHeartbeats 4000000 in
theorem ct_X12_readPart_r125d_43 {Dy : jH → Prop} {h0 : jH} {Q : Option Value → jH → Prop} {dr : jW} {A : Nat} (hA : jTu 0 h0 A 0) (hD : jDk Dy) (hQ : ∀ hx9, jJ jSgM Dy hx9 → jSm fp_X12_readPart_r125d h0 hx9 → ∀ u0 u1 u2 : Int32, jiv hx9 125 10 = u0 → jiv hx9 125 8 = u1 → jiv hx9 125 9 = u2 → (u0.toInt ≤ u1.toInt ∧ u2.toInt ≤ u0.toInt) → ∀ u3 u4 u5 : Int32, jiv hx9 125 11 = u3 → jiv hx9 125 9 = u4 → jiv hx9 125 10 = u5 → (u3.toInt = 0 ∨ u4.toInt + 1 ≤ u5.toInt) → (jTu 0 hx9 A 1 ∧ jFm 1 A h0 hx9) → dr = vw hx9 → Q none hx9) : ∀ (s0 : Int32) (g0 : Int32) (g1 : Int32) (g2 : Int32) (g3 : Int32) (h : jH), 0 ≤ g0.toInt ∧ g0.toInt ≤ 400 → 2 ≤ g1.toInt ∧ g1.toInt ≤ 2 → 0 ≤ g2.toInt ∧ g2.toInt ≤ 400 → 0 ≤ g3.toInt ∧ g3.toInt ≤ 400 → jSa h0 h → (g0.toInt ≤ g2.toInt ∧ g3.toInt ≤ g0.toInt) → (g1.toInt = 0 ∨ g3.toInt + 1 ≤ g0.toInt) → jiv h 125 10 = g0 → jiv h 125 11 = g1 → jiv h 125 8 = g2 → jiv h 125 9 = g3 → jJ jSgM Dy h → jSm fp_X12_readPart_r125d h0 h → d_X12_readPart_r125d_43  s0.toInt (vw h) = dr → jX m_X12_readPart 4 0 0 43 [(0, .ref 125), (1, .int (-1)), (2, .int 1)] [.int s0] h 0 0 Q := by
  intro s0 g0 g1 g2 g3 h y0 y1 y2 y3 C0 y5 y6 z0 z1 z2 z3  J Sm D
  have es0 := jfull s0
  unfold d_X12_readPart_r125d_43 at D
  try rw [vrf z0] at D
  try rw [vrf z1] at D
  try rw [vrf z2] at D
  try rw [vrf z3] at D
  refine x_istoren (lsx9 := [(3, .int s0), (0, .ref 125), (1, .int (-1)), (2, .int 1)]) rfl rfl rfl ?_
  refine x_aloadn (x := 125) rfl rfl ?_
  refine x_iloadn (x := (-1)) rfl rfl ?_
  refine x_iconst (v := (-1)) rfl ki_m1 ?_
  refine x_icne (tgt := 54) rfl rfl (ti_ne jk_m1 jk_m1 (bn_f (by omega) ?_))
  refine x_iloadn (x := 1) rfl rfl ?_
  refine x_ifeq (tgt := 67) rfl rfl (ti_eq jk_1 jk_0 (br_f (by omega) ?_))
  exact jX.sub (jsb_c rfl (jsb_c rfl (jsb_c rfl jsb_n))) (ct_X12_readPart_r125d_54 hA hD hQ  (-1) s0 g0 g1 g2 g3 h (jr_of jk_m1 (by omega)) (jr_of rfl (by omega)) (jr_of rfl (by omega)) (jr_of rfl (by omega)) (jr_of rfl (by omega)) C0 (by omega) (by omega) (by omega) z0 z1 z2 z3 J Sm (by rw [jk_m1]; exact D))
set_option maxRecDepth 100000 in
set_option maxHeartbeats 4000000 in
theorem ct_X12_readPart_r125d_200043 {Dy : jH → Prop} {h0 : jH} {Q : Option Value → jH → Prop} {dr : jW} {A : Nat} (hA : jTu 0 h0 A 0) (hD : jDk Dy) (hQ : ∀ hx9, jJ jSgM Dy hx9 → jSm fp_X12_readPart_r125d h0 hx9 → ∀ u0 u1 u2 : Int32, jiv hx9 125 10 = u0 → jiv hx9 125 8 = u1 → jiv hx9 125 9 = u2 → (u0.toInt ≤ u1.toInt ∧ u2.toInt ≤ u0.toInt) → ∀ u3 u4 u5 : Int32, jiv hx9 125 11 = u3 → jiv hx9 125 9 = u4 → jiv hx9 125 10 = u5 → (u3.toInt = 0 ∨ u4.toInt + 1 ≤ u5.toInt) → (jTu 0 hx9 A 1 ∧ jFm 1 A h0 hx9) → dr = vw hx9 → Q none hx9) : ∀ (l1 : Int32) (g0 : Int32) (g1 : Int32) (g2 : Int32) (g3 : Int32) (h : jH), (-1) ≤ l1.toInt ∧ l1.toInt ≤ 5 → 0 ≤ g0.toInt ∧ g0.toInt ≤ 400 → 0 ≤ g1.toInt ∧ g1.toInt ≤ 3 → 0 ≤ g2.toInt ∧ g2.toInt ≤ 400 → 0 ≤ g3.toInt ∧ g3.toInt ≤ 400 → jSa h0 h → (l1.toInt = -1 ∨ g1.toInt ≠ 0) → (g0.toInt ≤ g2.toInt ∧ g3.toInt ≤ g0.toInt) → (g1.toInt = 0 ∨ g3.toInt + 1 ≤ g0.toInt) → jiv h 125 10 = g0 → jiv h 125 11 = g1 → jiv h 125 8 = g2 → jiv h 125 9 = g3 → jJ jSgM Dy h → jSm fp_X12_readPart_r125d h0 h → d_X12_readPart_r125d_200043  l1.toInt (vw h) = dr → jX m_X12_readPart 4 0 0 43 [(0, .ref 125), (1, .int l1), (2, .int 0)] [.int 0] h 0 0 Q := by
  intro l1 g0 g1 g2 g3 h y0 y1 y2 y3 y4 C0 y6 y7 y8 z0 z1 z2 z3  J Sm D
  unfold d_X12_readPart_r125d_200043 at D
  try rw [vrf z0] at D
  try rw [vrf z1] at D
  try rw [vrf z2] at D
  try rw [vrf z3] at D
  refine x_istoren (lsx9 := [(3, .int 0), (0, .ref 125), (1, .int l1), (2, .int 0)]) rfl rfl rfl ?_
  refine x_aloadn (x := 125) rfl rfl ?_
  refine x_iloadn (x := l1) rfl rfl ?_
  refine x_iconst (v := (-1)) rfl ki_m1 ?_
  refine x_icne (tgt := 54) rfl rfl (ti_ne rfl jk_m1 ⟨fun c1 => ?_, fun c1 => ?_⟩)
  ·
    rw [if_neg (by omega)] at D
    exact jX.sub (jsb_c rfl (jsb_c rfl (jsb_c rfl jsb_n))) (ct_X12_readPart_r125d_54 hA hD hQ  l1 0 g0 g1 g2 g3 h (jr_of rfl (by omega)) (jr_of rfl (by omega)) (jr_of rfl (by omega)) (jr_of rfl (by omega)) (jr_of rfl (by omega)) C0 (by omega) (by omega) (by omega) z0 z1 z2 z3 J Sm (by rw [jk_0]; exact D))
  ·
    rw [if_pos (by omega)] at D
    refine x_iloadn (x := 0) rfl rfl ?_
    refine x_ifeq (tgt := 67) rfl rfl (ti_eq jk_0 jk_0 (br_t (by omega) ?_))
    exact jX.sub (jsb_c rfl (jsb_c rfl (jsb_c rfl jsb_n))) (ct_X12_readPart_r125d_67 hA hD hQ  l1 0 g0 g1 g2 g3 h (jr_of rfl (by omega)) (jr_of rfl (by omega)) (jr_of rfl (by omega)) (jr_of rfl (by omega)) (jr_of rfl (by omega)) C0 (by omega) (by omega) z0 z1 z2 z3 J Sm (by rw [jk_0]; exact D))
set_option maxRecDepth 100000 in
set_option maxHeartbeats 4000000 in
theorem ct_X12_readPart_r125d_300029 {Dy : jH → Prop} {h0 : jH} {Q : Option Value → jH → Prop} {dr : jW} {A : Nat} (hA : jTu 0 h0 A 0) (hD : jDk Dy) (hQ : ∀ hx9, jJ jSgM Dy hx9 → jSm fp_X12_readPart_r125d h0 hx9 → ∀ u0 u1 u2 : Int32, jiv hx9 125 10 = u0 → jiv hx9 125 8 = u1 → jiv hx9 125 9 = u2 → (u0.toInt ≤ u1.toInt ∧ u2.toInt ≤ u0.toInt) → ∀ u3 u4 u5 : Int32, jiv hx9 125 11 = u3 → jiv hx9 125 9 = u4 → jiv hx9 125 10 = u5 → (u3.toInt = 0 ∨ u4.toInt + 1 ≤ u5.toInt) → (jTu 0 hx9 A 1 ∧ jFm 1 A h0 hx9) → dr = vw hx9 → Q none hx9) : ∀ (g0 : Int32) (g1 : Int32) (g2 : Int32) (g3 : Int32) (h : jH), 0 ≤ g0.toInt ∧ g0.toInt ≤ 400 → 2 ≤ g1.toInt ∧ g1.toInt ≤ 2 → 0 ≤ g2.toInt ∧ g2.toInt ≤ 400 → 0 ≤ g3.toInt ∧ g3.toInt ≤ 400 → jSa h0 h → g1.toInt ≠ 0 → (g0.toInt ≤ g2.toInt ∧ g3.toInt ≤ g0.toInt) → (g1.toInt = 0 ∨ g3.toInt + 1 ≤ g0.toInt) → jiv h 125 10 = g0 → jiv h 125 11 = g1 → jiv h 125 8 = g2 → jiv h 125 9 = g3 → jJ jSgM Dy h → jSm fp_X12_readPart_r125d h0 h → d_X12_readPart_r125d_300029  (vw h) = dr → jX m_X12_readPart 4 0 0 29 [(0, .ref 125), (1, .int (-1))] [.int 1] h 0 0 Q := by
  intro g0 g1 g2 g3 h y0 y1 y2 y3 C0 y5 y6 y7 z0 z1 z2 z3  J Sm D
  unfold d_X12_readPart_r125d_300029 at D
  try rw [vrf z0] at D
  try rw [vrf z1] at D
  try rw [vrf z2] at D
  try rw [vrf z3] at D
  refine x_istoren (lsx9 := [(2, .int 1), (0, .ref 125), (1, .int (-1))]) rfl rfl rfl ?_
  refine x_iloadn (x := 1) rfl rfl ?_
  refine x_ifeq (tgt := 42) rfl rfl (ti_eq jk_1 jk_0 (br_f (by omega) ?_))
  refine x_aloadn (x := 125) rfl rfl ?_
  refine z_getLQ (N := 92) 12 12 rfl f_12_224 rfl J rfl (fun v1 qv1 => ?_)
  have ev1 := jfullL v1
  try rw [vrfL qv1] at D
  refine z_l2iD rfl rfl (fun v2 ev2 => ?_)
  have fv2 := jfull v2
  try rw [← ev2] at D
  refine x_goto (tgt := 43) rfl rfl ?_
  exact jX.sub (jsb_c rfl (jsb_c rfl (jsb_c rfl jsb_n))) (ct_X12_readPart_r125d_43 hA hD hQ  v2 g0 g1 g2 g3 h (jr_of rfl (by omega)) (jr_of rfl (by omega)) (jr_of rfl (by omega)) (jr_of rfl (by omega)) C0 (by omega) (by omega) z0 z1 z2 z3 J Sm D)
set_option maxRecDepth 100000 in
set_option maxHeartbeats 4000000 in
theorem ct_X12_readPart_r125d_200029 {Dy : jH → Prop} {h0 : jH} {Q : Option Value → jH → Prop} {dr : jW} {A : Nat} (hA : jTu 0 h0 A 0) (hD : jDk Dy) (hQ : ∀ hx9, jJ jSgM Dy hx9 → jSm fp_X12_readPart_r125d h0 hx9 → ∀ u0 u1 u2 : Int32, jiv hx9 125 10 = u0 → jiv hx9 125 8 = u1 → jiv hx9 125 9 = u2 → (u0.toInt ≤ u1.toInt ∧ u2.toInt ≤ u0.toInt) → ∀ u3 u4 u5 : Int32, jiv hx9 125 11 = u3 → jiv hx9 125 9 = u4 → jiv hx9 125 10 = u5 → (u3.toInt = 0 ∨ u4.toInt + 1 ≤ u5.toInt) → (jTu 0 hx9 A 1 ∧ jFm 1 A h0 hx9) → dr = vw hx9 → Q none hx9) : ∀ (l1 : Int32) (g0 : Int32) (g1 : Int32) (g2 : Int32) (g3 : Int32) (h : jH), (-1) ≤ l1.toInt ∧ l1.toInt ≤ 5 → 0 ≤ g0.toInt ∧ g0.toInt ≤ 400 → 0 ≤ g1.toInt ∧ g1.toInt ≤ 3 → 0 ≤ g2.toInt ∧ g2.toInt ≤ 400 → 0 ≤ g3.toInt ∧ g3.toInt ≤ 400 → jSa h0 h → (l1.toInt = -1 ∨ g1.toInt ≠ 0) → (g0.toInt ≤ g2.toInt ∧ g3.toInt ≤ g0.toInt) → (g1.toInt = 0 ∨ g3.toInt + 1 ≤ g0.toInt) → jiv h 125 10 = g0 → jiv h 125 11 = g1 → jiv h 125 8 = g2 → jiv h 125 9 = g3 → jJ jSgM Dy h → jSm fp_X12_readPart_r125d h0 h → d_X12_readPart_r125d_200029  l1.toInt (vw h) = dr → jX m_X12_readPart 4 0 0 29 [(0, .ref 125), (1, .int l1)] [.int 0] h 0 0 Q := by
  intro l1 g0 g1 g2 g3 h y0 y1 y2 y3 y4 C0 y6 y7 y8 z0 z1 z2 z3  J Sm D
  unfold d_X12_readPart_r125d_200029 at D
  try rw [vrf z0] at D
  try rw [vrf z1] at D
  try rw [vrf z2] at D
  try rw [vrf z3] at D
  refine x_istoren (lsx9 := [(2, .int 0), (0, .ref 125), (1, .int l1)]) rfl rfl rfl ?_
  refine x_iloadn (x := 0) rfl rfl ?_
  refine x_ifeq (tgt := 42) rfl rfl (ti_eq jk_0 jk_0 (br_t (by omega) ?_))
  refine x_iconst (v := 0) rfl ki_0 ?_
  exact jX.sub (jsb_c rfl (jsb_c rfl (jsb_c rfl jsb_n))) (ct_X12_readPart_r125d_200043 hA hD hQ  l1 g0 g1 g2 g3 h (jr_of rfl (by omega)) (jr_of rfl (by omega)) (jr_of rfl (by omega)) (jr_of rfl (by omega)) (jr_of rfl (by omega)) C0 (by omega) (by omega) (by omega) z0 z1 z2 z3 J Sm D)
set_option maxRecDepth 100000 in
set_option maxHeartbeats 4000000 in
theorem ct_X12_readPart_r125d_28 {Dy : jH → Prop} {h0 : jH} {Q : Option Value → jH → Prop} {dr : jW} {A : Nat} (hA : jTu 0 h0 A 0) (hD : jDk Dy) (hQ : ∀ hx9, jJ jSgM Dy hx9 → jSm fp_X12_readPart_r125d h0 hx9 → ∀ u0 u1 u2 : Int32, jiv hx9 125 10 = u0 → jiv hx9 125 8 = u1 → jiv hx9 125 9 = u2 → (u0.toInt ≤ u1.toInt ∧ u2.toInt ≤ u0.toInt) → ∀ u3 u4 u5 : Int32, jiv hx9 125 11 = u3 → jiv hx9 125 9 = u4 → jiv hx9 125 10 = u5 → (u3.toInt = 0 ∨ u4.toInt + 1 ≤ u5.toInt) → (jTu 0 hx9 A 1 ∧ jFm 1 A h0 hx9) → dr = vw hx9 → Q none hx9) : ∀ (l1 : Int32) (g0 : Int32) (g1 : Int32) (g2 : Int32) (g3 : Int32) (h : jH), (-1) ≤ l1.toInt ∧ l1.toInt ≤ 5 → 0 ≤ g0.toInt ∧ g0.toInt ≤ 400 → 0 ≤ g1.toInt ∧ g1.toInt ≤ 3 → 0 ≤ g2.toInt ∧ g2.toInt ≤ 400 → 0 ≤ g3.toInt ∧ g3.toInt ≤ 400 → jSa h0 h → (l1.toInt = -1 ∨ g1.toInt ≠ 0) → (g0.toInt ≤ g2.toInt ∧ g3.toInt ≤ g0.toInt) → (g1.toInt = 0 ∨ g3.toInt + 1 ≤ g0.toInt) → jiv h 125 10 = g0 → jiv h 125 11 = g1 → jiv h 125 8 = g2 → jiv h 125 9 = g3 → jJ jSgM Dy h → jSm fp_X12_readPart_r125d h0 h → d_X12_readPart_r125d_28  l1.toInt (vw h) = dr → jX m_X12_readPart 4 0 0 28 [(0, .ref 125), (1, .int l1)] [] h 0 0 Q := by
  intro l1 g0 g1 g2 g3 h y0 y1 y2 y3 y4 C0 y6 y7 y8 z0 z1 z2 z3  J Sm D
  unfold d_X12_readPart_r125d_28 at D
  try rw [vrf z0] at D
  try rw [vrf z1] at D
  try rw [vrf z2] at D
  try rw [vrf z3] at D
  refine x_iconst (v := 0) rfl ki_0 ?_
  exact jX.sub (jsb_c rfl (jsb_c rfl jsb_n)) (ct_X12_readPart_r125d_200029 hA hD hQ  l1 g0 g1 g2 g3 h (jr_of rfl (by omega)) (jr_of rfl (by omega)) (jr_of rfl (by omega)) (jr_of rfl (by omega)) (jr_of rfl (by omega)) C0 (by omega) (by omega) (by omega) z0 z1 z2 z3 J Sm D)
set_option maxRecDepth 100000 in
set_option maxHeartbeats 4000000 in
theorem sf_X12_readPart_r125d {Dy : jH → Prop} {h : jH} {Q : Option Value → jH → Prop} {dr : jW} {A : Nat} (hA : jTu 0 h A 0) (hD : jDk Dy) (J : jJ jSgM Dy h) {p0 p1 p2 : Int32} {p3 p4 p5 : Int32} (zp0 : jiv h 125 10 = p0) (zp1 : jiv h 125 8 = p1) (zp2 : jiv h 125 9 = p2) (rl_p0 : (p0.toInt ≤ p1.toInt ∧ p2.toInt ≤ p0.toInt)) (zp3 : jiv h 125 11 = p3) (zp4 : jiv h 125 9 = p4) (zp5 : jiv h 125 10 = p5) (rl_p3 : (p3.toInt = 0 ∨ p4.toInt + 1 ≤ p5.toInt)) (D : d_X12_readPart_r125d (vw h) = dr) (hQ : ∀ hx9, jJ jSgM Dy hx9 → jSm fp_X12_readPart_r125d h hx9 → ∀ u0 u1 u2 : Int32, jiv hx9 125 10 = u0 → jiv hx9 125 8 = u1 → jiv hx9 125 9 = u2 → (u0.toInt ≤ u1.toInt ∧ u2.toInt ≤ u0.toInt) → ∀ u3 u4 u5 : Int32, jiv hx9 125 11 = u3 → jiv hx9 125 9 = u4 → jiv hx9 125 10 = u5 → (u3.toInt = 0 ∨ u4.toInt + 1 ≤ u5.toInt) → (jTu 0 hx9 A 1 ∧ jFm 1 A h hx9) → dr = vw hx9 → Q none hx9) : jC m_X12_readPart 4 0 0 [.ref 125] h Q := by
  refine jC.of rfl k_X12_readPart rfl ?_
  have Sm := jSm_rf fp_X12_readPart_r125d h
  have ep0 := (show 0 ≤ p0.toInt ∧ p0.toInt ≤ 400 from zp0 ▸ jrg_f J sg_125_10_11_1_0_1)
  have ep1 := (show 0 ≤ p1.toInt ∧ p1.toInt ≤ 400 from zp1 ▸ jrg_f J sg_125_8_9_1_0_1)
  have ep2 := (show 0 ≤ p2.toInt ∧ p2.toInt ≤ 400 from zp2 ▸ jrg_f J sg_125_9_10_1_0_1)
  have ep3 := (show 0 ≤ p3.toInt ∧ p3.toInt ≤ 3 from zp3 ▸ jrg_f J sg_125_11_12_1_0_1)
  have ep4 := (show 0 ≤ p4.toInt ∧ p4.toInt ≤ 400 from zp4 ▸ jrg_f J sg_125_9_10_1_0_1)
  have ep5 := (show 0 ≤ p5.toInt ∧ p5.toInt ≤ 400 from zp5 ▸ jrg_f J sg_125_10_11_1_0_1)
  obtain rfl : p2 = p4 := zp2.symm.trans zp4
  obtain rfl : p0 = p5 := zp0.symm.trans zp5
  skip
  show jX m_X12_readPart 4 0 0 0 [(0, .ref 125)] [] _ 0 0 _
  unfold d_X12_readPart_r125d at D
  try rw [vrf zp0] at D
  try rw [vrf zp1] at D
  try rw [vrf zp2] at D
  try rw [vrf zp3] at D
  try rw [vrf zp4] at D
  try rw [vrf zp5] at D
  refine x_aloadn (x := 125) rfl rfl ?_
  refine x_inv (N := m_X12_partAt) (As := []) (b := 125) (st := []) (dx9 := 3) (mc := 0) (ms := 0) (host := "") 12 rfl t_X12_partAt ⟨Or.inl q_12_539, i_X12_partAt.1, i_X12_partAt.2⟩ ⟨by decide, rfl⟩ (congrArg Prod.fst (J.1.1 125 (12, 92) rfl)) rfl (by decide) rfl rfl ⟨by decide, by decide⟩ (jC.of rfl k_X12_partAt rfl ?_)
  show jX m_X12_partAt 3 0 0 0 [(0, .ref 125)] [] _ 0 0 _
  refine x_aloadn (x := 125) rfl rfl ?_
  refine x_ldc2 (v := 1253) rfl z_12_509 ?_
  refine x_inv (N := m_X12_isWord) (As := [.long 1253]) (b := 125) (st := []) (dx9 := 2) (mc := 0) (ms := 0) (host := "") 12 rfl t_X12_isWord ⟨Or.inl q_12_511, i_X12_isWord.1, i_X12_isWord.2⟩ ⟨by decide, rfl⟩ (congrArg Prod.fst (J.1.1 125 (12, 92) rfl)) rfl (by decide) rfl rfl ⟨by decide, by decide⟩ (jC.of rfl k_X12_isWord rfl ?_)
  show jX m_X12_isWord 2 0 0 0 [(0, .ref 125), (1, .long 1253)] [] _ 0 0 _
  refine x_aloadn (x := 125) rfl rfl ?_
  refine z_getM (N := 92) (v := p3) 12 11 rfl f_12_235 rfl J rfl zp3 ?_
  refine x_iconst (v := 1) rfl ki_1 ?_
  refine x_icne (tgt := 21) rfl rfl (ti_ne rfl jk_1 ⟨fun c1 => ?_, fun c1 => ?_⟩)
  ·
    rw [if_neg (by omega)] at D
    refine x_iconst (v := 0) rfl ki_0 ?_
    refine x_zret rfl rfl (by decide) ?_
    show jX m_X12_partAt 3 0 0 7 [(0, .ref 125)] [.int 0] _ 0 0 _
    refine x_ifeq (tgt := 14) rfl rfl (ti_eq jk_0 jk_0 (br_t (by omega) ?_))
    refine x_aloadn (x := 125) rfl rfl ?_
    refine x_ldc2 (v := 111983872174) rfl z_12_515 ?_
    refine x_inv (N := m_X12_isWord) (As := [.long 111983872174]) (b := 125) (st := []) (dx9 := 2) (mc := 0) (ms := 0) (host := "") 12 rfl t_X12_isWord ⟨Or.inl q_12_511, i_X12_isWord.1, i_X12_isWord.2⟩ ⟨by decide, rfl⟩ (congrArg Prod.fst (J.1.1 125 (12, 92) rfl)) rfl (by decide) rfl rfl ⟨by decide, by decide⟩ (jC.of rfl k_X12_isWord rfl ?_)
    show jX m_X12_isWord 2 0 0 0 [(0, .ref 125), (1, .long 111983872174)] [] _ 0 0 _
    refine x_aloadn (x := 125) rfl rfl ?_
    refine z_getM (N := 92) (v := p3) 12 11 rfl f_12_235 rfl J rfl zp3 ?_
    refine x_iconst (v := 1) rfl ki_1 ?_
    refine x_icne (tgt := 21) rfl rfl (ti_ne rfl jk_1 ⟨fun c2 => ?_, fun c2 => ?_⟩)
    ·
      rw [if_neg (by omega)] at D
      refine x_iconst (v := 0) rfl ki_0 ?_
      refine x_zret rfl rfl (by decide) ?_
      show jX m_X12_partAt 3 0 0 21 [(0, .ref 125)] [.int 0] _ 0 0 _
      refine x_ifeq (tgt := 28) rfl rfl (ti_eq jk_0 jk_0 (br_t (by omega) ?_))
      refine x_aloadn (x := 125) rfl rfl ?_
      refine x_ldc2 (v := 23114405) rfl z_12_517 ?_
      refine x_inv (N := m_X12_isWord) (As := [.long 23114405]) (b := 125) (st := []) (dx9 := 2) (mc := 0) (ms := 0) (host := "") 12 rfl t_X12_isWord ⟨Or.inl q_12_511, i_X12_isWord.1, i_X12_isWord.2⟩ ⟨by decide, rfl⟩ (congrArg Prod.fst (J.1.1 125 (12, 92) rfl)) rfl (by decide) rfl rfl ⟨by decide, by decide⟩ (jC.of rfl k_X12_isWord rfl ?_)
      show jX m_X12_isWord 2 0 0 0 [(0, .ref 125), (1, .long 23114405)] [] _ 0 0 _
      refine x_aloadn (x := 125) rfl rfl ?_
      refine z_getM (N := 92) (v := p3) 12 11 rfl f_12_235 rfl J rfl zp3 ?_
      refine x_iconst (v := 1) rfl ki_1 ?_
      refine x_icne (tgt := 21) rfl rfl (ti_ne rfl jk_1 ⟨fun c3 => ?_, fun c3 => ?_⟩)
      ·
        rw [if_neg (by omega)] at D
        refine x_iconst (v := 0) rfl ki_0 ?_
        refine x_zret rfl rfl (by decide) ?_
        show jX m_X12_partAt 3 0 0 35 [(0, .ref 125)] [.int 0] _ 0 0 _
        refine x_ifeq (tgt := 42) rfl rfl (ti_eq jk_0 jk_0 (br_t (by omega) ?_))
        refine x_aloadn (x := 125) rfl rfl ?_
        refine x_ldc2 (v := 26379859) rfl z_12_519 ?_
        refine x_inv (N := m_X12_isWord) (As := [.long 26379859]) (b := 125) (st := []) (dx9 := 2) (mc := 0) (ms := 0) (host := "") 12 rfl t_X12_isWord ⟨Or.inl q_12_511, i_X12_isWord.1, i_X12_isWord.2⟩ ⟨by decide, rfl⟩ (congrArg Prod.fst (J.1.1 125 (12, 92) rfl)) rfl (by decide) rfl rfl ⟨by decide, by decide⟩ (jC.of rfl k_X12_isWord rfl ?_)
        show jX m_X12_isWord 2 0 0 0 [(0, .ref 125), (1, .long 26379859)] [] _ 0 0 _
        refine x_aloadn (x := 125) rfl rfl ?_
        refine z_getM (N := 92) (v := p3) 12 11 rfl f_12_235 rfl J rfl zp3 ?_
        refine x_iconst (v := 1) rfl ki_1 ?_
        refine x_icne (tgt := 21) rfl rfl (ti_ne rfl jk_1 ⟨fun c4 => ?_, fun c4 => ?_⟩)
        ·
          rw [if_neg (by omega)] at D
          refine x_iconst (v := 0) rfl ki_0 ?_
          refine x_zret rfl rfl (by decide) ?_
          show jX m_X12_partAt 3 0 0 49 [(0, .ref 125)] [.int 0] _ 0 0 _
          refine x_ifeq (tgt := 56) rfl rfl (ti_eq jk_0 jk_0 (br_t (by omega) ?_))
          refine x_aloadn (x := 125) rfl rfl ?_
          refine x_ldc2 (v := 624256276644) rfl z_12_521 ?_
          refine x_inv (N := m_X12_isWord) (As := [.long 624256276644]) (b := 125) (st := []) (dx9 := 2) (mc := 0) (ms := 0) (host := "") 12 rfl t_X12_isWord ⟨Or.inl q_12_511, i_X12_isWord.1, i_X12_isWord.2⟩ ⟨by decide, rfl⟩ (congrArg Prod.fst (J.1.1 125 (12, 92) rfl)) rfl (by decide) rfl rfl ⟨by decide, by decide⟩ (jC.of rfl k_X12_isWord rfl ?_)
          show jX m_X12_isWord 2 0 0 0 [(0, .ref 125), (1, .long 624256276644)] [] _ 0 0 _
          refine x_aloadn (x := 125) rfl rfl ?_
          refine z_getM (N := 92) (v := p3) 12 11 rfl f_12_235 rfl J rfl zp3 ?_
          refine x_iconst (v := 1) rfl ki_1 ?_
          refine x_icne (tgt := 21) rfl rfl (ti_ne rfl jk_1 ⟨fun c5 => ?_, fun c5 => ?_⟩)
          ·
            rw [if_neg (by omega)] at D
            refine x_iconst (v := 0) rfl ki_0 ?_
            refine x_zret rfl rfl (by decide) ?_
            show jX m_X12_partAt 3 0 0 63 [(0, .ref 125)] [.int 0] _ 0 0 _
            refine x_ifeq (tgt := 70) rfl rfl (ti_eq jk_0 jk_0 (br_t (by omega) ?_))
            refine x_iconst (v := (-1)) rfl ki_m1 ?_
            refine x_iret rfl rfl ?_
            show jX m_X12_readPart 4 0 0 4 [(0, .ref 125)] [.int (-1)] _ 0 0 _
            refine x_istoren (lsx9 := [(1, .int (-1)), (0, .ref 125)]) rfl rfl rfl ?_
            refine x_aloadn (x := 125) rfl rfl ?_
            refine z_getM (N := 92) (v := p3) 12 11 rfl f_12_235 rfl J rfl zp3 ?_
            refine x_iconst (v := 2) rfl ki_2 ?_
            refine x_icne (tgt := 28) rfl rfl (ti_ne rfl jk_2 ⟨fun c6 => ?_, fun c6 => ?_⟩)
            ·
              rw [if_neg (by omega)] at D
              exact jX.sub (jsb_c rfl (jsb_c rfl jsb_n)) (ct_X12_readPart_r125d_28 hA hD hQ  (-1) p0 p3 p1 p2 h (jr_of jk_m1 (by omega)) (jr_of rfl (by omega)) (jr_of rfl (by omega)) (jr_of rfl (by omega)) (jr_of rfl (by omega)) jsa_0 (by have := jk_m1; omega) (by omega) (by omega) zp0 zp3 zp1 zp2 J Sm (by rw [jk_m1]; exact D))
            ·
              rw [if_pos (by omega)] at D
              refine x_aloadn (x := 125) rfl rfl ?_
              refine z_getLQ (N := 92) 12 12 rfl f_12_224 rfl J rfl (fun v7 qv7 => ?_)
              have ev7 := jfullL v7
              try rw [vrfL qv7] at D
              refine x_ldc2 (v := 100000) rfl z_12_265 ?_
              refine z_lcmp rfl rfl jkl_100000 (fun v8 ev8 => ?_)
              refine x_ifgt (tgt := 28) rfl rfl (ti_gt rfl jk_0 ⟨fun c9 => ?_, fun c9 => ?_⟩)
              ·
                rw [if_pos (by omega)] at D
                exact jX.sub (jsb_c rfl (jsb_c rfl jsb_n)) (ct_X12_readPart_r125d_28 hA hD hQ  (-1) p0 p3 p1 p2 h (jr_of jk_m1 (by omega)) (jr_of rfl (by omega)) (jr_of rfl (by omega)) (jr_of rfl (by omega)) (jr_of rfl (by omega)) jsa_0 (by have := jk_m1; omega) (by omega) (by omega) zp0 zp3 zp1 zp2 J Sm (by rw [jk_m1]; exact D))
              ·
                rw [if_neg (by omega)] at D
                refine x_iconst (v := 1) rfl ki_1 ?_
                refine x_goto (tgt := 29) rfl rfl ?_
                exact jX.sub (jsb_c rfl (jsb_c rfl jsb_n)) (ct_X12_readPart_r125d_300029 hA hD hQ  p0 p3 p1 p2 h (jr_of rfl (by omega)) (jr_of rfl (by omega)) (jr_of rfl (by omega)) (jr_of rfl (by omega)) jsa_0 (by omega) (by omega) (by omega) zp0 zp3 zp1 zp2 J Sm D)
          ·
            rw [if_pos (by omega)] at D
            refine x_aloadn (x := 125) rfl rfl ?_
            refine z_getLQ (N := 92) 12 12 rfl f_12_224 rfl J rfl (fun v10 qv10 => ?_)
            have ev10 := jfullL v10
            try rw [vrfL qv10] at D
            refine x_lloadn (x := 624256276644) rfl rfl ?_
            refine z_lcmp rfl rfl jkl_624256276644 (fun v11 ev11 => ?_)
            refine x_ifne (tgt := 21) rfl rfl (ti_ne rfl jk_0 ⟨fun c12 => ?_, fun c12 => ?_⟩)
            ·
              rw [if_neg (by omega)] at D
              refine x_iconst (v := 0) rfl ki_0 ?_
              refine x_zret rfl rfl (by decide) ?_
              show jX m_X12_partAt 3 0 0 63 [(0, .ref 125)] [.int 0] _ 0 0 _
              refine x_ifeq (tgt := 70) rfl rfl (ti_eq jk_0 jk_0 (br_t (by omega) ?_))
              refine x_iconst (v := (-1)) rfl ki_m1 ?_
              refine x_iret rfl rfl ?_
              show jX m_X12_readPart 4 0 0 4 [(0, .ref 125)] [.int (-1)] _ 0 0 _
              refine x_istoren (lsx9 := [(1, .int (-1)), (0, .ref 125)]) rfl rfl rfl ?_
              refine x_aloadn (x := 125) rfl rfl ?_
              refine z_getM (N := 92) (v := p3) 12 11 rfl f_12_235 rfl J rfl zp3 ?_
              refine x_iconst (v := 2) rfl ki_2 ?_
              refine x_icne (tgt := 28) rfl rfl (ti_ne rfl jk_2 (bn_t (by omega) ?_))
              exact jX.sub (jsb_c rfl (jsb_c rfl jsb_n)) (ct_X12_readPart_r125d_28 hA hD hQ  (-1) p0 p3 p1 p2 h (jr_of jk_m1 (by omega)) (jr_of rfl (by omega)) (jr_of rfl (by omega)) (jr_of rfl (by omega)) (jr_of rfl (by omega)) jsa_0 (by have := jk_m1; omega) (by omega) (by omega) zp0 zp3 zp1 zp2 J Sm (by rw [jk_m1]; exact D))
            ·
              rw [if_pos (by omega)] at D
              refine x_iconst (v := 1) rfl ki_1 ?_
              refine x_goto (tgt := 22) rfl rfl ?_
              refine x_zret rfl rfl (by decide) ?_
              show jX m_X12_partAt 3 0 0 63 [(0, .ref 125)] [.int 1] _ 0 0 _
              refine x_ifeq (tgt := 70) rfl rfl (ti_eq jk_1 jk_0 (br_f (by omega) ?_))
              refine x_iconst (v := 5) rfl ki_5 ?_
              refine x_goto (tgt := 71) rfl rfl ?_
              refine x_iret rfl rfl ?_
              show jX m_X12_readPart 4 0 0 4 [(0, .ref 125)] [.int 5] _ 0 0 _
              refine x_istoren (lsx9 := [(1, .int 5), (0, .ref 125)]) rfl rfl rfl ?_
              refine x_aloadn (x := 125) rfl rfl ?_
              refine z_getM (N := 92) (v := p3) 12 11 rfl f_12_235 rfl J rfl zp3 ?_
              refine x_iconst (v := 2) rfl ki_2 ?_
              refine x_icne (tgt := 28) rfl rfl (ti_ne rfl jk_2 (bn_t (by omega) ?_))
              exact jX.sub (jsb_c rfl (jsb_c rfl jsb_n)) (ct_X12_readPart_r125d_28 hA hD hQ  5 p0 p3 p1 p2 h (jr_of jk_5 (by omega)) (jr_of rfl (by omega)) (jr_of rfl (by omega)) (jr_of rfl (by omega)) (jr_of rfl (by omega)) jsa_0 (by have := jk_5; omega) (by omega) (by omega) zp0 zp3 zp1 zp2 J Sm (by rw [jk_5]; exact D))
        ·
          rw [if_pos (by omega)] at D
          refine x_aloadn (x := 125) rfl rfl ?_
          refine z_getLQ (N := 92) 12 12 rfl f_12_224 rfl J rfl (fun v13 qv13 => ?_)
          have ev13 := jfullL v13
          try rw [vrfL qv13] at D
          refine x_lloadn (x := 26379859) rfl rfl ?_
          refine z_lcmp rfl rfl jkl_26379859 (fun v14 ev14 => ?_)
          refine x_ifne (tgt := 21) rfl rfl (ti_ne rfl jk_0 ⟨fun c15 => ?_, fun c15 => ?_⟩)
          ·
            rw [if_neg (by omega)] at D
            refine x_iconst (v := 0) rfl ki_0 ?_
            refine x_zret rfl rfl (by decide) ?_
            show jX m_X12_partAt 3 0 0 49 [(0, .ref 125)] [.int 0] _ 0 0 _
            refine x_ifeq (tgt := 56) rfl rfl (ti_eq jk_0 jk_0 (br_t (by omega) ?_))
            refine x_aloadn (x := 125) rfl rfl ?_
            refine x_ldc2 (v := 624256276644) rfl z_12_521 ?_
            refine x_inv (N := m_X12_isWord) (As := [.long 624256276644]) (b := 125) (st := []) (dx9 := 2) (mc := 0) (ms := 0) (host := "") 12 rfl t_X12_isWord ⟨Or.inl q_12_511, i_X12_isWord.1, i_X12_isWord.2⟩ ⟨by decide, rfl⟩ (congrArg Prod.fst (J.1.1 125 (12, 92) rfl)) rfl (by decide) rfl rfl ⟨by decide, by decide⟩ (jC.of rfl k_X12_isWord rfl ?_)
            show jX m_X12_isWord 2 0 0 0 [(0, .ref 125), (1, .long 624256276644)] [] _ 0 0 _
            refine x_aloadn (x := 125) rfl rfl ?_
            refine z_getM (N := 92) (v := p3) 12 11 rfl f_12_235 rfl J rfl zp3 ?_
            refine x_iconst (v := 1) rfl ki_1 ?_
            refine x_icne (tgt := 21) rfl rfl (ti_ne rfl jk_1 (bn_f (by omega) ?_))
            refine x_aloadn (x := 125) rfl rfl ?_
            refine z_getLQ (N := 92) 12 12 rfl f_12_224 rfl J rfl (fun v16 qv16 => ?_)
            have ev16 := jfullL v16
            try have kqv16 : v13.toInt = v16.toInt := ((vrfL qv13).symm.trans (vrfL qv16))
            try rw [show v13.toInt = v16.toInt from ((vrfL qv13).symm.trans (vrfL qv16))] at D
            try rw [vrfL qv16] at D
            refine x_lloadn (x := 624256276644) rfl rfl ?_
            refine z_lcmp rfl rfl jkl_624256276644 (fun v17 ev17 => ?_)
            refine x_ifne (tgt := 21) rfl rfl (ti_ne rfl jk_0 ⟨fun c18 => ?_, fun c18 => ?_⟩)
            ·
              rw [if_neg (by omega)] at D
              refine x_iconst (v := 0) rfl ki_0 ?_
              refine x_zret rfl rfl (by decide) ?_
              show jX m_X12_partAt 3 0 0 63 [(0, .ref 125)] [.int 0] _ 0 0 _
              refine x_ifeq (tgt := 70) rfl rfl (ti_eq jk_0 jk_0 (br_t (by omega) ?_))
              refine x_iconst (v := (-1)) rfl ki_m1 ?_
              refine x_iret rfl rfl ?_
              show jX m_X12_readPart 4 0 0 4 [(0, .ref 125)] [.int (-1)] _ 0 0 _
              refine x_istoren (lsx9 := [(1, .int (-1)), (0, .ref 125)]) rfl rfl rfl ?_
              refine x_aloadn (x := 125) rfl rfl ?_
              refine z_getM (N := 92) (v := p3) 12 11 rfl f_12_235 rfl J rfl zp3 ?_
              refine x_iconst (v := 2) rfl ki_2 ?_
              refine x_icne (tgt := 28) rfl rfl (ti_ne rfl jk_2 (bn_t (by omega) ?_))
              exact jX.sub (jsb_c rfl (jsb_c rfl jsb_n)) (ct_X12_readPart_r125d_28 hA hD hQ  (-1) p0 p3 p1 p2 h (jr_of jk_m1 (by omega)) (jr_of rfl (by omega)) (jr_of rfl (by omega)) (jr_of rfl (by omega)) (jr_of rfl (by omega)) jsa_0 (by have := jk_m1; omega) (by omega) (by omega) zp0 zp3 zp1 zp2 J Sm (by rw [jk_m1]; exact D))
            ·
              rw [if_pos (by omega)] at D
              refine x_iconst (v := 1) rfl ki_1 ?_
              refine x_goto (tgt := 22) rfl rfl ?_
              refine x_zret rfl rfl (by decide) ?_
              show jX m_X12_partAt 3 0 0 63 [(0, .ref 125)] [.int 1] _ 0 0 _
              refine x_ifeq (tgt := 70) rfl rfl (ti_eq jk_1 jk_0 (br_f (by omega) ?_))
              refine x_iconst (v := 5) rfl ki_5 ?_
              refine x_goto (tgt := 71) rfl rfl ?_
              refine x_iret rfl rfl ?_
              show jX m_X12_readPart 4 0 0 4 [(0, .ref 125)] [.int 5] _ 0 0 _
              refine x_istoren (lsx9 := [(1, .int 5), (0, .ref 125)]) rfl rfl rfl ?_
              refine x_aloadn (x := 125) rfl rfl ?_
              refine z_getM (N := 92) (v := p3) 12 11 rfl f_12_235 rfl J rfl zp3 ?_
              refine x_iconst (v := 2) rfl ki_2 ?_
              refine x_icne (tgt := 28) rfl rfl (ti_ne rfl jk_2 (bn_t (by omega) ?_))
              exact jX.sub (jsb_c rfl (jsb_c rfl jsb_n)) (ct_X12_readPart_r125d_28 hA hD hQ  5 p0 p3 p1 p2 h (jr_of jk_5 (by omega)) (jr_of rfl (by omega)) (jr_of rfl (by omega)) (jr_of rfl (by omega)) (jr_of rfl (by omega)) jsa_0 (by have := jk_5; omega) (by omega) (by omega) zp0 zp3 zp1 zp2 J Sm (by rw [jk_5]; exact D))
          ·
            rw [if_pos (by omega)] at D
            refine x_iconst (v := 1) rfl ki_1 ?_
            refine x_goto (tgt := 22) rfl rfl ?_
            refine x_zret rfl rfl (by decide) ?_
            show jX m_X12_partAt 3 0 0 49 [(0, .ref 125)] [.int 1] _ 0 0 _
            refine x_ifeq (tgt := 56) rfl rfl (ti_eq jk_1 jk_0 (br_f (by omega) ?_))
            refine x_iconst (v := 4) rfl ki_4 ?_
            refine x_goto (tgt := 71) rfl rfl ?_
            refine x_iret rfl rfl ?_
            show jX m_X12_readPart 4 0 0 4 [(0, .ref 125)] [.int 4] _ 0 0 _
            refine x_istoren (lsx9 := [(1, .int 4), (0, .ref 125)]) rfl rfl rfl ?_
            refine x_aloadn (x := 125) rfl rfl ?_
            refine z_getM (N := 92) (v := p3) 12 11 rfl f_12_235 rfl J rfl zp3 ?_
            refine x_iconst (v := 2) rfl ki_2 ?_
            refine x_icne (tgt := 28) rfl rfl (ti_ne rfl jk_2 (bn_t (by omega) ?_))
            exact jX.sub (jsb_c rfl (jsb_c rfl jsb_n)) (ct_X12_readPart_r125d_28 hA hD hQ  4 p0 p3 p1 p2 h (jr_of jk_4 (by omega)) (jr_of rfl (by omega)) (jr_of rfl (by omega)) (jr_of rfl (by omega)) (jr_of rfl (by omega)) jsa_0 (by have := jk_4; omega) (by omega) (by omega) zp0 zp3 zp1 zp2 J Sm (by rw [jk_4]; exact D))
      ·
        rw [if_pos (by omega)] at D
        refine x_aloadn (x := 125) rfl rfl ?_
        refine z_getLQ (N := 92) 12 12 rfl f_12_224 rfl J rfl (fun v19 qv19 => ?_)
        have ev19 := jfullL v19
        try rw [vrfL qv19] at D
        refine x_lloadn (x := 23114405) rfl rfl ?_
        refine z_lcmp rfl rfl jkl_23114405 (fun v20 ev20 => ?_)
        refine x_ifne (tgt := 21) rfl rfl (ti_ne rfl jk_0 ⟨fun c21 => ?_, fun c21 => ?_⟩)
        ·
          rw [if_neg (by omega)] at D
          refine x_iconst (v := 0) rfl ki_0 ?_
          refine x_zret rfl rfl (by decide) ?_
          show jX m_X12_partAt 3 0 0 35 [(0, .ref 125)] [.int 0] _ 0 0 _
          refine x_ifeq (tgt := 42) rfl rfl (ti_eq jk_0 jk_0 (br_t (by omega) ?_))
          refine x_aloadn (x := 125) rfl rfl ?_
          refine x_ldc2 (v := 26379859) rfl z_12_519 ?_
          refine x_inv (N := m_X12_isWord) (As := [.long 26379859]) (b := 125) (st := []) (dx9 := 2) (mc := 0) (ms := 0) (host := "") 12 rfl t_X12_isWord ⟨Or.inl q_12_511, i_X12_isWord.1, i_X12_isWord.2⟩ ⟨by decide, rfl⟩ (congrArg Prod.fst (J.1.1 125 (12, 92) rfl)) rfl (by decide) rfl rfl ⟨by decide, by decide⟩ (jC.of rfl k_X12_isWord rfl ?_)
          show jX m_X12_isWord 2 0 0 0 [(0, .ref 125), (1, .long 26379859)] [] _ 0 0 _
          refine x_aloadn (x := 125) rfl rfl ?_
          refine z_getM (N := 92) (v := p3) 12 11 rfl f_12_235 rfl J rfl zp3 ?_
          refine x_iconst (v := 1) rfl ki_1 ?_
          refine x_icne (tgt := 21) rfl rfl (ti_ne rfl jk_1 (bn_f (by omega) ?_))
          refine x_aloadn (x := 125) rfl rfl ?_
          refine z_getLQ (N := 92) 12 12 rfl f_12_224 rfl J rfl (fun v22 qv22 => ?_)
          have ev22 := jfullL v22
          try have kqv22 : v19.toInt = v22.toInt := ((vrfL qv19).symm.trans (vrfL qv22))
          try rw [show v19.toInt = v22.toInt from ((vrfL qv19).symm.trans (vrfL qv22))] at D
          try rw [vrfL qv22] at D
          refine x_lloadn (x := 26379859) rfl rfl ?_
          refine z_lcmp rfl rfl jkl_26379859 (fun v23 ev23 => ?_)
          refine x_ifne (tgt := 21) rfl rfl (ti_ne rfl jk_0 ⟨fun c24 => ?_, fun c24 => ?_⟩)
          ·
            rw [if_neg (by omega)] at D
            refine x_iconst (v := 0) rfl ki_0 ?_
            refine x_zret rfl rfl (by decide) ?_
            show jX m_X12_partAt 3 0 0 49 [(0, .ref 125)] [.int 0] _ 0 0 _
            refine x_ifeq (tgt := 56) rfl rfl (ti_eq jk_0 jk_0 (br_t (by omega) ?_))
            refine x_aloadn (x := 125) rfl rfl ?_
            refine x_ldc2 (v := 624256276644) rfl z_12_521 ?_
            refine x_inv (N := m_X12_isWord) (As := [.long 624256276644]) (b := 125) (st := []) (dx9 := 2) (mc := 0) (ms := 0) (host := "") 12 rfl t_X12_isWord ⟨Or.inl q_12_511, i_X12_isWord.1, i_X12_isWord.2⟩ ⟨by decide, rfl⟩ (congrArg Prod.fst (J.1.1 125 (12, 92) rfl)) rfl (by decide) rfl rfl ⟨by decide, by decide⟩ (jC.of rfl k_X12_isWord rfl ?_)
            show jX m_X12_isWord 2 0 0 0 [(0, .ref 125), (1, .long 624256276644)] [] _ 0 0 _
            refine x_aloadn (x := 125) rfl rfl ?_
            refine z_getM (N := 92) (v := p3) 12 11 rfl f_12_235 rfl J rfl zp3 ?_
            refine x_iconst (v := 1) rfl ki_1 ?_
            refine x_icne (tgt := 21) rfl rfl (ti_ne rfl jk_1 (bn_f (by omega) ?_))
            refine x_aloadn (x := 125) rfl rfl ?_
            refine z_getLQ (N := 92) 12 12 rfl f_12_224 rfl J rfl (fun v25 qv25 => ?_)
            have ev25 := jfullL v25
            try have kqv25 : v22.toInt = v25.toInt := ((vrfL qv22).symm.trans (vrfL qv25))
            try rw [show v22.toInt = v25.toInt from ((vrfL qv22).symm.trans (vrfL qv25))] at D
            try rw [vrfL qv25] at D
            refine x_lloadn (x := 624256276644) rfl rfl ?_
            refine z_lcmp rfl rfl jkl_624256276644 (fun v26 ev26 => ?_)
            refine x_ifne (tgt := 21) rfl rfl (ti_ne rfl jk_0 ⟨fun c27 => ?_, fun c27 => ?_⟩)
            ·
              rw [if_neg (by omega)] at D
              refine x_iconst (v := 0) rfl ki_0 ?_
              refine x_zret rfl rfl (by decide) ?_
              show jX m_X12_partAt 3 0 0 63 [(0, .ref 125)] [.int 0] _ 0 0 _
              refine x_ifeq (tgt := 70) rfl rfl (ti_eq jk_0 jk_0 (br_t (by omega) ?_))
              refine x_iconst (v := (-1)) rfl ki_m1 ?_
              refine x_iret rfl rfl ?_
              show jX m_X12_readPart 4 0 0 4 [(0, .ref 125)] [.int (-1)] _ 0 0 _
              refine x_istoren (lsx9 := [(1, .int (-1)), (0, .ref 125)]) rfl rfl rfl ?_
              refine x_aloadn (x := 125) rfl rfl ?_
              refine z_getM (N := 92) (v := p3) 12 11 rfl f_12_235 rfl J rfl zp3 ?_
              refine x_iconst (v := 2) rfl ki_2 ?_
              refine x_icne (tgt := 28) rfl rfl (ti_ne rfl jk_2 (bn_t (by omega) ?_))
              exact jX.sub (jsb_c rfl (jsb_c rfl jsb_n)) (ct_X12_readPart_r125d_28 hA hD hQ  (-1) p0 p3 p1 p2 h (jr_of jk_m1 (by omega)) (jr_of rfl (by omega)) (jr_of rfl (by omega)) (jr_of rfl (by omega)) (jr_of rfl (by omega)) jsa_0 (by have := jk_m1; omega) (by omega) (by omega) zp0 zp3 zp1 zp2 J Sm (by rw [jk_m1]; exact D))
            ·
              rw [if_pos (by omega)] at D
              refine x_iconst (v := 1) rfl ki_1 ?_
              refine x_goto (tgt := 22) rfl rfl ?_
              refine x_zret rfl rfl (by decide) ?_
              show jX m_X12_partAt 3 0 0 63 [(0, .ref 125)] [.int 1] _ 0 0 _
              refine x_ifeq (tgt := 70) rfl rfl (ti_eq jk_1 jk_0 (br_f (by omega) ?_))
              refine x_iconst (v := 5) rfl ki_5 ?_
              refine x_goto (tgt := 71) rfl rfl ?_
              refine x_iret rfl rfl ?_
              show jX m_X12_readPart 4 0 0 4 [(0, .ref 125)] [.int 5] _ 0 0 _
              refine x_istoren (lsx9 := [(1, .int 5), (0, .ref 125)]) rfl rfl rfl ?_
              refine x_aloadn (x := 125) rfl rfl ?_
              refine z_getM (N := 92) (v := p3) 12 11 rfl f_12_235 rfl J rfl zp3 ?_
              refine x_iconst (v := 2) rfl ki_2 ?_
              refine x_icne (tgt := 28) rfl rfl (ti_ne rfl jk_2 (bn_t (by omega) ?_))
              exact jX.sub (jsb_c rfl (jsb_c rfl jsb_n)) (ct_X12_readPart_r125d_28 hA hD hQ  5 p0 p3 p1 p2 h (jr_of jk_5 (by omega)) (jr_of rfl (by omega)) (jr_of rfl (by omega)) (jr_of rfl (by omega)) (jr_of rfl (by omega)) jsa_0 (by have := jk_5; omega) (by omega) (by omega) zp0 zp3 zp1 zp2 J Sm (by rw [jk_5]; exact D))
          ·
            rw [if_pos (by omega)] at D
            refine x_iconst (v := 1) rfl ki_1 ?_
            refine x_goto (tgt := 22) rfl rfl ?_
            refine x_zret rfl rfl (by decide) ?_
            show jX m_X12_partAt 3 0 0 49 [(0, .ref 125)] [.int 1] _ 0 0 _
            refine x_ifeq (tgt := 56) rfl rfl (ti_eq jk_1 jk_0 (br_f (by omega) ?_))
            refine x_iconst (v := 4) rfl ki_4 ?_
            refine x_goto (tgt := 71) rfl rfl ?_
            refine x_iret rfl rfl ?_
            show jX m_X12_readPart 4 0 0 4 [(0, .ref 125)] [.int 4] _ 0 0 _
            refine x_istoren (lsx9 := [(1, .int 4), (0, .ref 125)]) rfl rfl rfl ?_
            refine x_aloadn (x := 125) rfl rfl ?_
            refine z_getM (N := 92) (v := p3) 12 11 rfl f_12_235 rfl J rfl zp3 ?_
            refine x_iconst (v := 2) rfl ki_2 ?_
            refine x_icne (tgt := 28) rfl rfl (ti_ne rfl jk_2 (bn_t (by omega) ?_))
            exact jX.sub (jsb_c rfl (jsb_c rfl jsb_n)) (ct_X12_readPart_r125d_28 hA hD hQ  4 p0 p3 p1 p2 h (jr_of jk_4 (by omega)) (jr_of rfl (by omega)) (jr_of rfl (by omega)) (jr_of rfl (by omega)) (jr_of rfl (by omega)) jsa_0 (by have := jk_4; omega) (by omega) (by omega) zp0 zp3 zp1 zp2 J Sm (by rw [jk_4]; exact D))
        ·
          rw [if_pos (by omega)] at D
          refine x_iconst (v := 1) rfl ki_1 ?_
          refine x_goto (tgt := 22) rfl rfl ?_
          refine x_zret rfl rfl (by decide) ?_
          show jX m_X12_partAt 3 0 0 35 [(0, .ref 125)] [.int 1] _ 0 0 _
          refine x_ifeq (tgt := 42) rfl rfl (ti_eq jk_1 jk_0 (br_f (by omega) ?_))
          refine x_iconst (v := 3) rfl ki_3 ?_
          refine x_goto (tgt := 71) rfl rfl ?_
          refine x_iret rfl rfl ?_
          show jX m_X12_readPart 4 0 0 4 [(0, .ref 125)] [.int 3] _ 0 0 _
          refine x_istoren (lsx9 := [(1, .int 3), (0, .ref 125)]) rfl rfl rfl ?_
          refine x_aloadn (x := 125) rfl rfl ?_
          refine z_getM (N := 92) (v := p3) 12 11 rfl f_12_235 rfl J rfl zp3 ?_
          refine x_iconst (v := 2) rfl ki_2 ?_
          refine x_icne (tgt := 28) rfl rfl (ti_ne rfl jk_2 (bn_t (by omega) ?_))
          exact jX.sub (jsb_c rfl (jsb_c rfl jsb_n)) (ct_X12_readPart_r125d_28 hA hD hQ  3 p0 p3 p1 p2 h (jr_of jk_3 (by omega)) (jr_of rfl (by omega)) (jr_of rfl (by omega)) (jr_of rfl (by omega)) (jr_of rfl (by omega)) jsa_0 (by have := jk_3; omega) (by omega) (by omega) zp0 zp3 zp1 zp2 J Sm (by rw [jk_3]; exact D))
    ·
      rw [if_pos (by omega)] at D
      refine x_aloadn (x := 125) rfl rfl ?_
      refine z_getLQ (N := 92) 12 12 rfl f_12_224 rfl J rfl (fun v28 qv28 => ?_)
      have ev28 := jfullL v28
      try rw [vrfL qv28] at D
      refine x_lloadn (x := 111983872174) rfl rfl ?_
      refine z_lcmp rfl rfl jkl_111983872174 (fun v29 ev29 => ?_)
      refine x_ifne (tgt := 21) rfl rfl (ti_ne rfl jk_0 ⟨fun c30 => ?_, fun c30 => ?_⟩)
      ·
        rw [if_neg (by omega)] at D
        refine x_iconst (v := 0) rfl ki_0 ?_
        refine x_zret rfl rfl (by decide) ?_
        show jX m_X12_partAt 3 0 0 21 [(0, .ref 125)] [.int 0] _ 0 0 _
        refine x_ifeq (tgt := 28) rfl rfl (ti_eq jk_0 jk_0 (br_t (by omega) ?_))
        refine x_aloadn (x := 125) rfl rfl ?_
        refine x_ldc2 (v := 23114405) rfl z_12_517 ?_
        refine x_inv (N := m_X12_isWord) (As := [.long 23114405]) (b := 125) (st := []) (dx9 := 2) (mc := 0) (ms := 0) (host := "") 12 rfl t_X12_isWord ⟨Or.inl q_12_511, i_X12_isWord.1, i_X12_isWord.2⟩ ⟨by decide, rfl⟩ (congrArg Prod.fst (J.1.1 125 (12, 92) rfl)) rfl (by decide) rfl rfl ⟨by decide, by decide⟩ (jC.of rfl k_X12_isWord rfl ?_)
        show jX m_X12_isWord 2 0 0 0 [(0, .ref 125), (1, .long 23114405)] [] _ 0 0 _
        refine x_aloadn (x := 125) rfl rfl ?_
        refine z_getM (N := 92) (v := p3) 12 11 rfl f_12_235 rfl J rfl zp3 ?_
        refine x_iconst (v := 1) rfl ki_1 ?_
        refine x_icne (tgt := 21) rfl rfl (ti_ne rfl jk_1 (bn_f (by omega) ?_))
        refine x_aloadn (x := 125) rfl rfl ?_
        refine z_getLQ (N := 92) 12 12 rfl f_12_224 rfl J rfl (fun v31 qv31 => ?_)
        have ev31 := jfullL v31
        try have kqv31 : v28.toInt = v31.toInt := ((vrfL qv28).symm.trans (vrfL qv31))
        try rw [show v28.toInt = v31.toInt from ((vrfL qv28).symm.trans (vrfL qv31))] at D
        try rw [vrfL qv31] at D
        refine x_lloadn (x := 23114405) rfl rfl ?_
        refine z_lcmp rfl rfl jkl_23114405 (fun v32 ev32 => ?_)
        refine x_ifne (tgt := 21) rfl rfl (ti_ne rfl jk_0 ⟨fun c33 => ?_, fun c33 => ?_⟩)
        ·
          rw [if_neg (by omega)] at D
          refine x_iconst (v := 0) rfl ki_0 ?_
          refine x_zret rfl rfl (by decide) ?_
          show jX m_X12_partAt 3 0 0 35 [(0, .ref 125)] [.int 0] _ 0 0 _
          refine x_ifeq (tgt := 42) rfl rfl (ti_eq jk_0 jk_0 (br_t (by omega) ?_))
          refine x_aloadn (x := 125) rfl rfl ?_
          refine x_ldc2 (v := 26379859) rfl z_12_519 ?_
          refine x_inv (N := m_X12_isWord) (As := [.long 26379859]) (b := 125) (st := []) (dx9 := 2) (mc := 0) (ms := 0) (host := "") 12 rfl t_X12_isWord ⟨Or.inl q_12_511, i_X12_isWord.1, i_X12_isWord.2⟩ ⟨by decide, rfl⟩ (congrArg Prod.fst (J.1.1 125 (12, 92) rfl)) rfl (by decide) rfl rfl ⟨by decide, by decide⟩ (jC.of rfl k_X12_isWord rfl ?_)
          show jX m_X12_isWord 2 0 0 0 [(0, .ref 125), (1, .long 26379859)] [] _ 0 0 _
          refine x_aloadn (x := 125) rfl rfl ?_
          refine z_getM (N := 92) (v := p3) 12 11 rfl f_12_235 rfl J rfl zp3 ?_
          refine x_iconst (v := 1) rfl ki_1 ?_
          refine x_icne (tgt := 21) rfl rfl (ti_ne rfl jk_1 (bn_f (by omega) ?_))
          refine x_aloadn (x := 125) rfl rfl ?_
          refine z_getLQ (N := 92) 12 12 rfl f_12_224 rfl J rfl (fun v34 qv34 => ?_)
          have ev34 := jfullL v34
          try have kqv34 : v31.toInt = v34.toInt := ((vrfL qv31).symm.trans (vrfL qv34))
          try rw [show v31.toInt = v34.toInt from ((vrfL qv31).symm.trans (vrfL qv34))] at D
          try rw [vrfL qv34] at D
          refine x_lloadn (x := 26379859) rfl rfl ?_
          refine z_lcmp rfl rfl jkl_26379859 (fun v35 ev35 => ?_)
          refine x_ifne (tgt := 21) rfl rfl (ti_ne rfl jk_0 ⟨fun c36 => ?_, fun c36 => ?_⟩)
          ·
            rw [if_neg (by omega)] at D
            refine x_iconst (v := 0) rfl ki_0 ?_
            refine x_zret rfl rfl (by decide) ?_
            show jX m_X12_partAt 3 0 0 49 [(0, .ref 125)] [.int 0] _ 0 0 _
            refine x_ifeq (tgt := 56) rfl rfl (ti_eq jk_0 jk_0 (br_t (by omega) ?_))
            refine x_aloadn (x := 125) rfl rfl ?_
            refine x_ldc2 (v := 624256276644) rfl z_12_521 ?_
            refine x_inv (N := m_X12_isWord) (As := [.long 624256276644]) (b := 125) (st := []) (dx9 := 2) (mc := 0) (ms := 0) (host := "") 12 rfl t_X12_isWord ⟨Or.inl q_12_511, i_X12_isWord.1, i_X12_isWord.2⟩ ⟨by decide, rfl⟩ (congrArg Prod.fst (J.1.1 125 (12, 92) rfl)) rfl (by decide) rfl rfl ⟨by decide, by decide⟩ (jC.of rfl k_X12_isWord rfl ?_)
            show jX m_X12_isWord 2 0 0 0 [(0, .ref 125), (1, .long 624256276644)] [] _ 0 0 _
            refine x_aloadn (x := 125) rfl rfl ?_
            refine z_getM (N := 92) (v := p3) 12 11 rfl f_12_235 rfl J rfl zp3 ?_
            refine x_iconst (v := 1) rfl ki_1 ?_
            refine x_icne (tgt := 21) rfl rfl (ti_ne rfl jk_1 (bn_f (by omega) ?_))
            refine x_aloadn (x := 125) rfl rfl ?_
            refine z_getLQ (N := 92) 12 12 rfl f_12_224 rfl J rfl (fun v37 qv37 => ?_)
            have ev37 := jfullL v37
            try have kqv37 : v34.toInt = v37.toInt := ((vrfL qv34).symm.trans (vrfL qv37))
            try rw [show v34.toInt = v37.toInt from ((vrfL qv34).symm.trans (vrfL qv37))] at D
            try rw [vrfL qv37] at D
            refine x_lloadn (x := 624256276644) rfl rfl ?_
            refine z_lcmp rfl rfl jkl_624256276644 (fun v38 ev38 => ?_)
            refine x_ifne (tgt := 21) rfl rfl (ti_ne rfl jk_0 ⟨fun c39 => ?_, fun c39 => ?_⟩)
            ·
              rw [if_neg (by omega)] at D
              refine x_iconst (v := 0) rfl ki_0 ?_
              refine x_zret rfl rfl (by decide) ?_
              show jX m_X12_partAt 3 0 0 63 [(0, .ref 125)] [.int 0] _ 0 0 _
              refine x_ifeq (tgt := 70) rfl rfl (ti_eq jk_0 jk_0 (br_t (by omega) ?_))
              refine x_iconst (v := (-1)) rfl ki_m1 ?_
              refine x_iret rfl rfl ?_
              show jX m_X12_readPart 4 0 0 4 [(0, .ref 125)] [.int (-1)] _ 0 0 _
              refine x_istoren (lsx9 := [(1, .int (-1)), (0, .ref 125)]) rfl rfl rfl ?_
              refine x_aloadn (x := 125) rfl rfl ?_
              refine z_getM (N := 92) (v := p3) 12 11 rfl f_12_235 rfl J rfl zp3 ?_
              refine x_iconst (v := 2) rfl ki_2 ?_
              refine x_icne (tgt := 28) rfl rfl (ti_ne rfl jk_2 (bn_t (by omega) ?_))
              exact jX.sub (jsb_c rfl (jsb_c rfl jsb_n)) (ct_X12_readPart_r125d_28 hA hD hQ  (-1) p0 p3 p1 p2 h (jr_of jk_m1 (by omega)) (jr_of rfl (by omega)) (jr_of rfl (by omega)) (jr_of rfl (by omega)) (jr_of rfl (by omega)) jsa_0 (by have := jk_m1; omega) (by omega) (by omega) zp0 zp3 zp1 zp2 J Sm (by rw [jk_m1]; exact D))
            ·
              rw [if_pos (by omega)] at D
              refine x_iconst (v := 1) rfl ki_1 ?_
              refine x_goto (tgt := 22) rfl rfl ?_
              refine x_zret rfl rfl (by decide) ?_
              show jX m_X12_partAt 3 0 0 63 [(0, .ref 125)] [.int 1] _ 0 0 _
              refine x_ifeq (tgt := 70) rfl rfl (ti_eq jk_1 jk_0 (br_f (by omega) ?_))
              refine x_iconst (v := 5) rfl ki_5 ?_
              refine x_goto (tgt := 71) rfl rfl ?_
              refine x_iret rfl rfl ?_
              show jX m_X12_readPart 4 0 0 4 [(0, .ref 125)] [.int 5] _ 0 0 _
              refine x_istoren (lsx9 := [(1, .int 5), (0, .ref 125)]) rfl rfl rfl ?_
              refine x_aloadn (x := 125) rfl rfl ?_
              refine z_getM (N := 92) (v := p3) 12 11 rfl f_12_235 rfl J rfl zp3 ?_
              refine x_iconst (v := 2) rfl ki_2 ?_
              refine x_icne (tgt := 28) rfl rfl (ti_ne rfl jk_2 (bn_t (by omega) ?_))
              exact jX.sub (jsb_c rfl (jsb_c rfl jsb_n)) (ct_X12_readPart_r125d_28 hA hD hQ  5 p0 p3 p1 p2 h (jr_of jk_5 (by omega)) (jr_of rfl (by omega)) (jr_of rfl (by omega)) (jr_of rfl (by omega)) (jr_of rfl (by omega)) jsa_0 (by have := jk_5; omega) (by omega) (by omega) zp0 zp3 zp1 zp2 J Sm (by rw [jk_5]; exact D))
          ·
            rw [if_pos (by omega)] at D
            refine x_iconst (v := 1) rfl ki_1 ?_
            refine x_goto (tgt := 22) rfl rfl ?_
            refine x_zret rfl rfl (by decide) ?_
            show jX m_X12_partAt 3 0 0 49 [(0, .ref 125)] [.int 1] _ 0 0 _
            refine x_ifeq (tgt := 56) rfl rfl (ti_eq jk_1 jk_0 (br_f (by omega) ?_))
            refine x_iconst (v := 4) rfl ki_4 ?_
            refine x_goto (tgt := 71) rfl rfl ?_
            refine x_iret rfl rfl ?_
            show jX m_X12_readPart 4 0 0 4 [(0, .ref 125)] [.int 4] _ 0 0 _
            refine x_istoren (lsx9 := [(1, .int 4), (0, .ref 125)]) rfl rfl rfl ?_
            refine x_aloadn (x := 125) rfl rfl ?_
            refine z_getM (N := 92) (v := p3) 12 11 rfl f_12_235 rfl J rfl zp3 ?_
            refine x_iconst (v := 2) rfl ki_2 ?_
            refine x_icne (tgt := 28) rfl rfl (ti_ne rfl jk_2 (bn_t (by omega) ?_))
            exact jX.sub (jsb_c rfl (jsb_c rfl jsb_n)) (ct_X12_readPart_r125d_28 hA hD hQ  4 p0 p3 p1 p2 h (jr_of jk_4 (by omega)) (jr_of rfl (by omega)) (jr_of rfl (by omega)) (jr_of rfl (by omega)) (jr_of rfl (by omega)) jsa_0 (by have := jk_4; omega) (by omega) (by omega) zp0 zp3 zp1 zp2 J Sm (by rw [jk_4]; exact D))
        ·
          rw [if_pos (by omega)] at D
          refine x_iconst (v := 1) rfl ki_1 ?_
          refine x_goto (tgt := 22) rfl rfl ?_
          refine x_zret rfl rfl (by decide) ?_
          show jX m_X12_partAt 3 0 0 35 [(0, .ref 125)] [.int 1] _ 0 0 _
          refine x_ifeq (tgt := 42) rfl rfl (ti_eq jk_1 jk_0 (br_f (by omega) ?_))
          refine x_iconst (v := 3) rfl ki_3 ?_
          refine x_goto (tgt := 71) rfl rfl ?_
          refine x_iret rfl rfl ?_
          show jX m_X12_readPart 4 0 0 4 [(0, .ref 125)] [.int 3] _ 0 0 _
          refine x_istoren (lsx9 := [(1, .int 3), (0, .ref 125)]) rfl rfl rfl ?_
          refine x_aloadn (x := 125) rfl rfl ?_
          refine z_getM (N := 92) (v := p3) 12 11 rfl f_12_235 rfl J rfl zp3 ?_
          refine x_iconst (v := 2) rfl ki_2 ?_
          refine x_icne (tgt := 28) rfl rfl (ti_ne rfl jk_2 (bn_t (by omega) ?_))
          exact jX.sub (jsb_c rfl (jsb_c rfl jsb_n)) (ct_X12_readPart_r125d_28 hA hD hQ  3 p0 p3 p1 p2 h (jr_of jk_3 (by omega)) (jr_of rfl (by omega)) (jr_of rfl (by omega)) (jr_of rfl (by omega)) (jr_of rfl (by omega)) jsa_0 (by have := jk_3; omega) (by omega) (by omega) zp0 zp3 zp1 zp2 J Sm (by rw [jk_3]; exact D))
      ·
        rw [if_pos (by omega)] at D
        refine x_iconst (v := 1) rfl ki_1 ?_
        refine x_goto (tgt := 22) rfl rfl ?_
        refine x_zret rfl rfl (by decide) ?_
        show jX m_X12_partAt 3 0 0 21 [(0, .ref 125)] [.int 1] _ 0 0 _
        refine x_ifeq (tgt := 28) rfl rfl (ti_eq jk_1 jk_0 (br_f (by omega) ?_))
        refine x_iconst (v := 2) rfl ki_2 ?_
        refine x_goto (tgt := 71) rfl rfl ?_
        refine x_iret rfl rfl ?_
        show jX m_X12_readPart 4 0 0 4 [(0, .ref 125)] [.int 2] _ 0 0 _
        refine x_istoren (lsx9 := [(1, .int 2), (0, .ref 125)]) rfl rfl rfl ?_
        refine x_aloadn (x := 125) rfl rfl ?_
        refine z_getM (N := 92) (v := p3) 12 11 rfl f_12_235 rfl J rfl zp3 ?_
        refine x_iconst (v := 2) rfl ki_2 ?_
        refine x_icne (tgt := 28) rfl rfl (ti_ne rfl jk_2 (bn_t (by omega) ?_))
        exact jX.sub (jsb_c rfl (jsb_c rfl jsb_n)) (ct_X12_readPart_r125d_28 hA hD hQ  2 p0 p3 p1 p2 h (jr_of jk_2 (by omega)) (jr_of rfl (by omega)) (jr_of rfl (by omega)) (jr_of rfl (by omega)) (jr_of rfl (by omega)) jsa_0 (by have := jk_2; omega) (by omega) (by omega) zp0 zp3 zp1 zp2 J Sm (by rw [jk_2]; exact D))
  ·
    rw [if_pos (by omega)] at D
    refine x_aloadn (x := 125) rfl rfl ?_
    refine z_getLQ (N := 92) 12 12 rfl f_12_224 rfl J rfl (fun v40 qv40 => ?_)
    have ev40 := jfullL v40
    try rw [vrfL qv40] at D
    refine x_lloadn (x := 1253) rfl rfl ?_
    refine z_lcmp rfl rfl jkl_1253 (fun v41 ev41 => ?_)
    refine x_ifne (tgt := 21) rfl rfl (ti_ne rfl jk_0 ⟨fun c42 => ?_, fun c42 => ?_⟩)
    ·
      rw [if_neg (by omega)] at D
      refine x_iconst (v := 0) rfl ki_0 ?_
      refine x_zret rfl rfl (by decide) ?_
      show jX m_X12_partAt 3 0 0 7 [(0, .ref 125)] [.int 0] _ 0 0 _
      refine x_ifeq (tgt := 14) rfl rfl (ti_eq jk_0 jk_0 (br_t (by omega) ?_))
      refine x_aloadn (x := 125) rfl rfl ?_
      refine x_ldc2 (v := 111983872174) rfl z_12_515 ?_
      refine x_inv (N := m_X12_isWord) (As := [.long 111983872174]) (b := 125) (st := []) (dx9 := 2) (mc := 0) (ms := 0) (host := "") 12 rfl t_X12_isWord ⟨Or.inl q_12_511, i_X12_isWord.1, i_X12_isWord.2⟩ ⟨by decide, rfl⟩ (congrArg Prod.fst (J.1.1 125 (12, 92) rfl)) rfl (by decide) rfl rfl ⟨by decide, by decide⟩ (jC.of rfl k_X12_isWord rfl ?_)
      show jX m_X12_isWord 2 0 0 0 [(0, .ref 125), (1, .long 111983872174)] [] _ 0 0 _
      refine x_aloadn (x := 125) rfl rfl ?_
      refine z_getM (N := 92) (v := p3) 12 11 rfl f_12_235 rfl J rfl zp3 ?_
      refine x_iconst (v := 1) rfl ki_1 ?_
      refine x_icne (tgt := 21) rfl rfl (ti_ne rfl jk_1 (bn_f (by omega) ?_))
      refine x_aloadn (x := 125) rfl rfl ?_
      refine z_getLQ (N := 92) 12 12 rfl f_12_224 rfl J rfl (fun v43 qv43 => ?_)
      have ev43 := jfullL v43
      try have kqv43 : v40.toInt = v43.toInt := ((vrfL qv40).symm.trans (vrfL qv43))
      try rw [show v40.toInt = v43.toInt from ((vrfL qv40).symm.trans (vrfL qv43))] at D
      try rw [vrfL qv43] at D
      refine x_lloadn (x := 111983872174) rfl rfl ?_
      refine z_lcmp rfl rfl jkl_111983872174 (fun v44 ev44 => ?_)
      refine x_ifne (tgt := 21) rfl rfl (ti_ne rfl jk_0 ⟨fun c45 => ?_, fun c45 => ?_⟩)
      ·
        rw [if_neg (by omega)] at D
        refine x_iconst (v := 0) rfl ki_0 ?_
        refine x_zret rfl rfl (by decide) ?_
        show jX m_X12_partAt 3 0 0 21 [(0, .ref 125)] [.int 0] _ 0 0 _
        refine x_ifeq (tgt := 28) rfl rfl (ti_eq jk_0 jk_0 (br_t (by omega) ?_))
        refine x_aloadn (x := 125) rfl rfl ?_
        refine x_ldc2 (v := 23114405) rfl z_12_517 ?_
        refine x_inv (N := m_X12_isWord) (As := [.long 23114405]) (b := 125) (st := []) (dx9 := 2) (mc := 0) (ms := 0) (host := "") 12 rfl t_X12_isWord ⟨Or.inl q_12_511, i_X12_isWord.1, i_X12_isWord.2⟩ ⟨by decide, rfl⟩ (congrArg Prod.fst (J.1.1 125 (12, 92) rfl)) rfl (by decide) rfl rfl ⟨by decide, by decide⟩ (jC.of rfl k_X12_isWord rfl ?_)
        show jX m_X12_isWord 2 0 0 0 [(0, .ref 125), (1, .long 23114405)] [] _ 0 0 _
        refine x_aloadn (x := 125) rfl rfl ?_
        refine z_getM (N := 92) (v := p3) 12 11 rfl f_12_235 rfl J rfl zp3 ?_
        refine x_iconst (v := 1) rfl ki_1 ?_
        refine x_icne (tgt := 21) rfl rfl (ti_ne rfl jk_1 (bn_f (by omega) ?_))
        refine x_aloadn (x := 125) rfl rfl ?_
        refine z_getLQ (N := 92) 12 12 rfl f_12_224 rfl J rfl (fun v46 qv46 => ?_)
        have ev46 := jfullL v46
        try have kqv46 : v43.toInt = v46.toInt := ((vrfL qv43).symm.trans (vrfL qv46))
        try rw [show v43.toInt = v46.toInt from ((vrfL qv43).symm.trans (vrfL qv46))] at D
        try rw [vrfL qv46] at D
        refine x_lloadn (x := 23114405) rfl rfl ?_
        refine z_lcmp rfl rfl jkl_23114405 (fun v47 ev47 => ?_)
        refine x_ifne (tgt := 21) rfl rfl (ti_ne rfl jk_0 ⟨fun c48 => ?_, fun c48 => ?_⟩)
        ·
          rw [if_neg (by omega)] at D
          refine x_iconst (v := 0) rfl ki_0 ?_
          refine x_zret rfl rfl (by decide) ?_
          show jX m_X12_partAt 3 0 0 35 [(0, .ref 125)] [.int 0] _ 0 0 _
          refine x_ifeq (tgt := 42) rfl rfl (ti_eq jk_0 jk_0 (br_t (by omega) ?_))
          refine x_aloadn (x := 125) rfl rfl ?_
          refine x_ldc2 (v := 26379859) rfl z_12_519 ?_
          refine x_inv (N := m_X12_isWord) (As := [.long 26379859]) (b := 125) (st := []) (dx9 := 2) (mc := 0) (ms := 0) (host := "") 12 rfl t_X12_isWord ⟨Or.inl q_12_511, i_X12_isWord.1, i_X12_isWord.2⟩ ⟨by decide, rfl⟩ (congrArg Prod.fst (J.1.1 125 (12, 92) rfl)) rfl (by decide) rfl rfl ⟨by decide, by decide⟩ (jC.of rfl k_X12_isWord rfl ?_)
          show jX m_X12_isWord 2 0 0 0 [(0, .ref 125), (1, .long 26379859)] [] _ 0 0 _
          refine x_aloadn (x := 125) rfl rfl ?_
          refine z_getM (N := 92) (v := p3) 12 11 rfl f_12_235 rfl J rfl zp3 ?_
          refine x_iconst (v := 1) rfl ki_1 ?_
          refine x_icne (tgt := 21) rfl rfl (ti_ne rfl jk_1 (bn_f (by omega) ?_))
          refine x_aloadn (x := 125) rfl rfl ?_
          refine z_getLQ (N := 92) 12 12 rfl f_12_224 rfl J rfl (fun v49 qv49 => ?_)
          have ev49 := jfullL v49
          try have kqv49 : v46.toInt = v49.toInt := ((vrfL qv46).symm.trans (vrfL qv49))
          try rw [show v46.toInt = v49.toInt from ((vrfL qv46).symm.trans (vrfL qv49))] at D
          try rw [vrfL qv49] at D
          refine x_lloadn (x := 26379859) rfl rfl ?_
          refine z_lcmp rfl rfl jkl_26379859 (fun v50 ev50 => ?_)
          refine x_ifne (tgt := 21) rfl rfl (ti_ne rfl jk_0 ⟨fun c51 => ?_, fun c51 => ?_⟩)
          ·
            rw [if_neg (by omega)] at D
            refine x_iconst (v := 0) rfl ki_0 ?_
            refine x_zret rfl rfl (by decide) ?_
            show jX m_X12_partAt 3 0 0 49 [(0, .ref 125)] [.int 0] _ 0 0 _
            refine x_ifeq (tgt := 56) rfl rfl (ti_eq jk_0 jk_0 (br_t (by omega) ?_))
            refine x_aloadn (x := 125) rfl rfl ?_
            refine x_ldc2 (v := 624256276644) rfl z_12_521 ?_
            refine x_inv (N := m_X12_isWord) (As := [.long 624256276644]) (b := 125) (st := []) (dx9 := 2) (mc := 0) (ms := 0) (host := "") 12 rfl t_X12_isWord ⟨Or.inl q_12_511, i_X12_isWord.1, i_X12_isWord.2⟩ ⟨by decide, rfl⟩ (congrArg Prod.fst (J.1.1 125 (12, 92) rfl)) rfl (by decide) rfl rfl ⟨by decide, by decide⟩ (jC.of rfl k_X12_isWord rfl ?_)
            show jX m_X12_isWord 2 0 0 0 [(0, .ref 125), (1, .long 624256276644)] [] _ 0 0 _
            refine x_aloadn (x := 125) rfl rfl ?_
            refine z_getM (N := 92) (v := p3) 12 11 rfl f_12_235 rfl J rfl zp3 ?_
            refine x_iconst (v := 1) rfl ki_1 ?_
            refine x_icne (tgt := 21) rfl rfl (ti_ne rfl jk_1 (bn_f (by omega) ?_))
            refine x_aloadn (x := 125) rfl rfl ?_
            refine z_getLQ (N := 92) 12 12 rfl f_12_224 rfl J rfl (fun v52 qv52 => ?_)
            have ev52 := jfullL v52
            try have kqv52 : v49.toInt = v52.toInt := ((vrfL qv49).symm.trans (vrfL qv52))
            try rw [show v49.toInt = v52.toInt from ((vrfL qv49).symm.trans (vrfL qv52))] at D
            try rw [vrfL qv52] at D
            refine x_lloadn (x := 624256276644) rfl rfl ?_
            refine z_lcmp rfl rfl jkl_624256276644 (fun v53 ev53 => ?_)
            refine x_ifne (tgt := 21) rfl rfl (ti_ne rfl jk_0 ⟨fun c54 => ?_, fun c54 => ?_⟩)
            ·
              rw [if_neg (by omega)] at D
              refine x_iconst (v := 0) rfl ki_0 ?_
              refine x_zret rfl rfl (by decide) ?_
              show jX m_X12_partAt 3 0 0 63 [(0, .ref 125)] [.int 0] _ 0 0 _
              refine x_ifeq (tgt := 70) rfl rfl (ti_eq jk_0 jk_0 (br_t (by omega) ?_))
              refine x_iconst (v := (-1)) rfl ki_m1 ?_
              refine x_iret rfl rfl ?_
              show jX m_X12_readPart 4 0 0 4 [(0, .ref 125)] [.int (-1)] _ 0 0 _
              refine x_istoren (lsx9 := [(1, .int (-1)), (0, .ref 125)]) rfl rfl rfl ?_
              refine x_aloadn (x := 125) rfl rfl ?_
              refine z_getM (N := 92) (v := p3) 12 11 rfl f_12_235 rfl J rfl zp3 ?_
              refine x_iconst (v := 2) rfl ki_2 ?_
              refine x_icne (tgt := 28) rfl rfl (ti_ne rfl jk_2 (bn_t (by omega) ?_))
              exact jX.sub (jsb_c rfl (jsb_c rfl jsb_n)) (ct_X12_readPart_r125d_28 hA hD hQ  (-1) p0 p3 p1 p2 h (jr_of jk_m1 (by omega)) (jr_of rfl (by omega)) (jr_of rfl (by omega)) (jr_of rfl (by omega)) (jr_of rfl (by omega)) jsa_0 (by have := jk_m1; omega) (by omega) (by omega) zp0 zp3 zp1 zp2 J Sm (by rw [jk_m1]; exact D))
            ·
              rw [if_pos (by omega)] at D
              refine x_iconst (v := 1) rfl ki_1 ?_
              refine x_goto (tgt := 22) rfl rfl ?_
              refine x_zret rfl rfl (by decide) ?_
              show jX m_X12_partAt 3 0 0 63 [(0, .ref 125)] [.int 1] _ 0 0 _
              refine x_ifeq (tgt := 70) rfl rfl (ti_eq jk_1 jk_0 (br_f (by omega) ?_))
              refine x_iconst (v := 5) rfl ki_5 ?_
              refine x_goto (tgt := 71) rfl rfl ?_
              refine x_iret rfl rfl ?_
              show jX m_X12_readPart 4 0 0 4 [(0, .ref 125)] [.int 5] _ 0 0 _
              refine x_istoren (lsx9 := [(1, .int 5), (0, .ref 125)]) rfl rfl rfl ?_
              refine x_aloadn (x := 125) rfl rfl ?_
              refine z_getM (N := 92) (v := p3) 12 11 rfl f_12_235 rfl J rfl zp3 ?_
              refine x_iconst (v := 2) rfl ki_2 ?_
              refine x_icne (tgt := 28) rfl rfl (ti_ne rfl jk_2 (bn_t (by omega) ?_))
              exact jX.sub (jsb_c rfl (jsb_c rfl jsb_n)) (ct_X12_readPart_r125d_28 hA hD hQ  5 p0 p3 p1 p2 h (jr_of jk_5 (by omega)) (jr_of rfl (by omega)) (jr_of rfl (by omega)) (jr_of rfl (by omega)) (jr_of rfl (by omega)) jsa_0 (by have := jk_5; omega) (by omega) (by omega) zp0 zp3 zp1 zp2 J Sm (by rw [jk_5]; exact D))
          ·
            rw [if_pos (by omega)] at D
            refine x_iconst (v := 1) rfl ki_1 ?_
            refine x_goto (tgt := 22) rfl rfl ?_
            refine x_zret rfl rfl (by decide) ?_
            show jX m_X12_partAt 3 0 0 49 [(0, .ref 125)] [.int 1] _ 0 0 _
            refine x_ifeq (tgt := 56) rfl rfl (ti_eq jk_1 jk_0 (br_f (by omega) ?_))
            refine x_iconst (v := 4) rfl ki_4 ?_
            refine x_goto (tgt := 71) rfl rfl ?_
            refine x_iret rfl rfl ?_
            show jX m_X12_readPart 4 0 0 4 [(0, .ref 125)] [.int 4] _ 0 0 _
            refine x_istoren (lsx9 := [(1, .int 4), (0, .ref 125)]) rfl rfl rfl ?_
            refine x_aloadn (x := 125) rfl rfl ?_
            refine z_getM (N := 92) (v := p3) 12 11 rfl f_12_235 rfl J rfl zp3 ?_
            refine x_iconst (v := 2) rfl ki_2 ?_
            refine x_icne (tgt := 28) rfl rfl (ti_ne rfl jk_2 (bn_t (by omega) ?_))
            exact jX.sub (jsb_c rfl (jsb_c rfl jsb_n)) (ct_X12_readPart_r125d_28 hA hD hQ  4 p0 p3 p1 p2 h (jr_of jk_4 (by omega)) (jr_of rfl (by omega)) (jr_of rfl (by omega)) (jr_of rfl (by omega)) (jr_of rfl (by omega)) jsa_0 (by have := jk_4; omega) (by omega) (by omega) zp0 zp3 zp1 zp2 J Sm (by rw [jk_4]; exact D))
        ·
          rw [if_pos (by omega)] at D
          refine x_iconst (v := 1) rfl ki_1 ?_
          refine x_goto (tgt := 22) rfl rfl ?_
          refine x_zret rfl rfl (by decide) ?_
          show jX m_X12_partAt 3 0 0 35 [(0, .ref 125)] [.int 1] _ 0 0 _
          refine x_ifeq (tgt := 42) rfl rfl (ti_eq jk_1 jk_0 (br_f (by omega) ?_))
          refine x_iconst (v := 3) rfl ki_3 ?_
          refine x_goto (tgt := 71) rfl rfl ?_
          refine x_iret rfl rfl ?_
          show jX m_X12_readPart 4 0 0 4 [(0, .ref 125)] [.int 3] _ 0 0 _
          refine x_istoren (lsx9 := [(1, .int 3), (0, .ref 125)]) rfl rfl rfl ?_
          refine x_aloadn (x := 125) rfl rfl ?_
          refine z_getM (N := 92) (v := p3) 12 11 rfl f_12_235 rfl J rfl zp3 ?_
          refine x_iconst (v := 2) rfl ki_2 ?_
          refine x_icne (tgt := 28) rfl rfl (ti_ne rfl jk_2 (bn_t (by omega) ?_))
          exact jX.sub (jsb_c rfl (jsb_c rfl jsb_n)) (ct_X12_readPart_r125d_28 hA hD hQ  3 p0 p3 p1 p2 h (jr_of jk_3 (by omega)) (jr_of rfl (by omega)) (jr_of rfl (by omega)) (jr_of rfl (by omega)) (jr_of rfl (by omega)) jsa_0 (by have := jk_3; omega) (by omega) (by omega) zp0 zp3 zp1 zp2 J Sm (by rw [jk_3]; exact D))
      ·
        rw [if_pos (by omega)] at D
        refine x_iconst (v := 1) rfl ki_1 ?_
        refine x_goto (tgt := 22) rfl rfl ?_
        refine x_zret rfl rfl (by decide) ?_
        show jX m_X12_partAt 3 0 0 21 [(0, .ref 125)] [.int 1] _ 0 0 _
        refine x_ifeq (tgt := 28) rfl rfl (ti_eq jk_1 jk_0 (br_f (by omega) ?_))
        refine x_iconst (v := 2) rfl ki_2 ?_
        refine x_goto (tgt := 71) rfl rfl ?_
        refine x_iret rfl rfl ?_
        show jX m_X12_readPart 4 0 0 4 [(0, .ref 125)] [.int 2] _ 0 0 _
        refine x_istoren (lsx9 := [(1, .int 2), (0, .ref 125)]) rfl rfl rfl ?_
        refine x_aloadn (x := 125) rfl rfl ?_
        refine z_getM (N := 92) (v := p3) 12 11 rfl f_12_235 rfl J rfl zp3 ?_
        refine x_iconst (v := 2) rfl ki_2 ?_
        refine x_icne (tgt := 28) rfl rfl (ti_ne rfl jk_2 (bn_t (by omega) ?_))
        exact jX.sub (jsb_c rfl (jsb_c rfl jsb_n)) (ct_X12_readPart_r125d_28 hA hD hQ  2 p0 p3 p1 p2 h (jr_of jk_2 (by omega)) (jr_of rfl (by omega)) (jr_of rfl (by omega)) (jr_of rfl (by omega)) (jr_of rfl (by omega)) jsa_0 (by have := jk_2; omega) (by omega) (by omega) zp0 zp3 zp1 zp2 J Sm (by rw [jk_2]; exact D))
    ·
      rw [if_pos (by omega)] at D
      refine x_iconst (v := 1) rfl ki_1 ?_
      refine x_goto (tgt := 22) rfl rfl ?_
      refine x_zret rfl rfl (by decide) ?_
      show jX m_X12_partAt 3 0 0 7 [(0, .ref 125)] [.int 1] _ 0 0 _
      refine x_ifeq (tgt := 14) rfl rfl (ti_eq jk_1 jk_0 (br_f (by omega) ?_))
      refine x_iconst (v := 1) rfl ki_1 ?_
      refine x_goto (tgt := 71) rfl rfl ?_
      refine x_iret rfl rfl ?_
      show jX m_X12_readPart 4 0 0 4 [(0, .ref 125)] [.int 1] _ 0 0 _
      refine x_istoren (lsx9 := [(1, .int 1), (0, .ref 125)]) rfl rfl rfl ?_
      refine x_aloadn (x := 125) rfl rfl ?_
      refine z_getM (N := 92) (v := p3) 12 11 rfl f_12_235 rfl J rfl zp3 ?_
      refine x_iconst (v := 2) rfl ki_2 ?_
      refine x_icne (tgt := 28) rfl rfl (ti_ne rfl jk_2 (bn_t (by omega) ?_))
      exact jX.sub (jsb_c rfl (jsb_c rfl jsb_n)) (ct_X12_readPart_r125d_28 hA hD hQ  1 p0 p3 p1 p2 h (jr_of jk_1 (by omega)) (jr_of rfl (by omega)) (jr_of rfl (by omega)) (jr_of rfl (by omega)) (jr_of rfl (by omega)) jsa_0 (by have := jk_1; omega) (by omega) (by omega) zp0 zp3 zp1 zp2 J Sm (by rw [jk_1]; exact D))
def fp_X12_readSum_r125d : jFp := [(125, 9, 10), (125, 10, 11), (125, 11, 12), (125, 12, 13), (125, 13, 14), (125, 14, 15), (125, 49, 50), (125, 52, 53), (125, 55, 56), (125, 56, 57), (148, 0, 400), (149, 0, 400), (150, 0, 400), (151, 0, 400)]
set_option maxRecDepth 100000 in
set_option maxHeartbeats 4000000 in
theorem sf_X12_readSum_r125d {Dy : jH → Prop} {h : jH} {Q : Option Value → jH → Prop} {dr : (Int × jW)} {A : Nat} (hA : jTu 0 h A 0) (hD : jDk Dy) (J : jJ jSgM Dy h) {p0 p1 p2 : Int32} {p3 p4 p5 : Int32} (zp0 : jiv h 125 10 = p0) (zp1 : jiv h 125 8 = p1) (zp2 : jiv h 125 9 = p2) (rl_p0 : (p0.toInt ≤ p1.toInt ∧ p2.toInt ≤ p0.toInt)) (zp3 : jiv h 125 11 = p3) (zp4 : jiv h 125 9 = p4) (zp5 : jiv h 125 10 = p5) (rl_p3 : (p3.toInt = 0 ∨ p4.toInt + 1 ≤ p5.toInt)) (D : d_X12_readSum_r125d (vw h) = dr) (hQ : ∀ (v : Int32) hx9, 1 ≤ v.toInt ∧ v.toInt ≤ 3 → jJ jSgM Dy hx9 → jSm fp_X12_readSum_r125d h hx9 → ∀ u0 u1 u2 : Int32, jiv hx9 125 10 = u0 → jiv hx9 125 8 = u1 → jiv hx9 125 9 = u2 → (u0.toInt ≤ u1.toInt ∧ u2.toInt ≤ u0.toInt) → ∀ u3 u4 u5 : Int32, jiv hx9 125 11 = u3 → jiv hx9 125 9 = u4 → jiv hx9 125 10 = u5 → (u3.toInt = 0 ∨ u4.toInt + 1 ≤ u5.toInt) → (jTn A v.toInt hx9 ∧ jFm 1 A h hx9) → dr.1 = v.toInt → dr.2 = vw hx9 → Q (some (.int v)) hx9) : jC m_X12_readSum 5 0 0 [.ref 125] h Q := by
  refine jC.of rfl k_X12_readSum rfl ?_
  have Sm := jSm_rf fp_X12_readSum_r125d h
  have ep0 := (show 0 ≤ p0.toInt ∧ p0.toInt ≤ 400 from zp0 ▸ jrg_f J sg_125_10_11_1_0_1)
  have ep1 := (show 0 ≤ p1.toInt ∧ p1.toInt ≤ 400 from zp1 ▸ jrg_f J sg_125_8_9_1_0_1)
  have ep2 := (show 0 ≤ p2.toInt ∧ p2.toInt ≤ 400 from zp2 ▸ jrg_f J sg_125_9_10_1_0_1)
  have ep3 := (show 0 ≤ p3.toInt ∧ p3.toInt ≤ 3 from zp3 ▸ jrg_f J sg_125_11_12_1_0_1)
  have ep4 := (show 0 ≤ p4.toInt ∧ p4.toInt ≤ 400 from zp4 ▸ jrg_f J sg_125_9_10_1_0_1)
  have ep5 := (show 0 ≤ p5.toInt ∧ p5.toInt ≤ 400 from zp5 ▸ jrg_f J sg_125_10_11_1_0_1)
  obtain rfl : p2 = p4 := zp2.symm.trans zp4
  obtain rfl : p0 = p5 := zp0.symm.trans zp5
  skip
  show jX m_X12_readSum 5 0 0 0 [(0, .ref 125)] [] _ 0 0 _
  unfold d_X12_readSum_r125d at D
  try rw [vrf zp0] at D
  try rw [vrf zp1] at D
  try rw [vrf zp2] at D
  try rw [vrf zp3] at D
  try rw [vrf zp4] at D
  try rw [vrf zp5] at D
  refine x_aloadn (x := 125) rfl rfl ?_
  refine x_bipush (v := 91) rfl kb_91 ?_
  refine x_inv (N := m_X12_isSign) (As := [.int 91]) (b := 125) (st := []) (dx9 := 4) (mc := 0) (ms := 0) (host := "") 12 rfl t_X12_isSign ⟨Or.inl q_12_257, i_X12_isSign.1, i_X12_isSign.2⟩ ⟨by decide, rfl⟩ (congrArg Prod.fst (J.1.1 125 (12, 92) rfl)) rfl (by decide) rfl rfl ⟨by decide, by decide⟩ (jC.of rfl k_X12_isSign rfl ?_)
  show jX m_X12_isSign 4 0 0 0 [(0, .ref 125), (1, .int 91)] [] _ 0 0 _
  refine x_aloadn (x := 125) rfl rfl ?_
  refine z_getM (N := 92) (v := p3) 12 11 rfl f_12_235 rfl J rfl zp3 ?_
  refine x_iconst (v := 3) rfl ki_3 ?_
  refine x_icne (tgt := 22) rfl rfl (ti_ne rfl jk_3 ⟨fun c1 => ?_, fun c1 => ?_⟩)
  ·
    rw [if_neg (by omega)] at D
    refine x_iconst (v := 0) rfl ki_0 ?_
    refine x_zret rfl rfl (by decide) ?_
    show jX m_X12_readSum 5 0 0 6 [(0, .ref 125)] [.int 0] _ 0 0 _
    refine x_ifeq (tgt := 17) rfl rfl (ti_eq jk_0 jk_0 (br_t (by omega) ?_))
    refine x_aloadn (x := 125) rfl rfl ?_
    refine x_inv (N := m_X12_readPart) (As := []) (b := 125) (st := []) (dx9 := 4) (mc := 0) (ms := 0) (host := "") 12 rfl t_X12_readPart ⟨Or.inl q_12_572, i_X12_readPart.1, i_X12_readPart.2⟩ ⟨by decide, rfl⟩ (congrArg Prod.fst (J.1.1 125 (12, 92) rfl)) rfl (by decide) rfl rfl ⟨by decide, by decide⟩ (sf_X12_readPart_r125d  hA hD J zp0 zp1 zp2 (by omega) zp3 zp2 zp0 (by omega) rfl  (fun h J S2 u3 u4 u5 qu3 qu4 qu5 ru3 u6 u7 u8 qu6 qu7 qu8 ru6 P9 X10 => ?_))
    have Sm := jSm_tr rfl Sm S2
    rw [X10] at D
    have eu3 := (show 0 ≤ u3.toInt ∧ u3.toInt ≤ 400 from qu3 ▸ jrg_f J sg_125_10_11_1_0_1)
    try rw [vrf qu3] at D
    have eu4 := (show 0 ≤ u4.toInt ∧ u4.toInt ≤ 400 from qu4 ▸ jrg_f J sg_125_8_9_1_0_1)
    try rw [vrf (jmb_c S2 qu4 rfl)] at D
    have eu5 := (show 0 ≤ u5.toInt ∧ u5.toInt ≤ 400 from qu5 ▸ jrg_f J sg_125_9_10_1_0_1)
    try rw [vrf qu5] at D
    have eu6 := (show 0 ≤ u6.toInt ∧ u6.toInt ≤ 3 from qu6 ▸ jrg_f J sg_125_11_12_1_0_1)
    try rw [vrf qu6] at D
    obtain rfl : u5 = u7 := qu5.symm.trans qu7
    obtain rfl : u3 = u8 := qu3.symm.trans qu8
    show jX m_X12_readSum 5 0 0 21 [(0, .ref 125)] [] _ 0 0 _
    refine x_iconst (v := 3) rfl ki_3 ?_
    refine x_iret rfl rfl ?_
    exact hQ _ _ (jr_of jk_3 (by omega)) J Sm _ _ _ qu3 qu4 qu5 (by omega) _ _ _ qu6 qu5 qu3 (by omega) (by rw [jk_3]; exact rs_part P9) ((congrArg Prod.fst D).symm.trans (show 3 = (3 : Int32).toInt from by have := jk_3; omega)) (congrArg Prod.snd D).symm
  ·
    rw [if_pos (by omega)] at D
    refine x_aloadn (x := 125) rfl rfl ?_
    refine z_getLQ (N := 92) 12 12 rfl f_12_224 rfl J rfl (fun v11 qv11 => ?_)
    have ev11 := jfullL v11
    try rw [vrfL qv11] at D
    refine x_iloadn (x := 91) rfl rfl ?_
    refine z_i2l rfl jk_91 (fun v12 ev12 => ?_)
    refine z_lcmp rfl rfl rfl (fun v13 ev13 => ?_)
    refine x_ifne (tgt := 22) rfl rfl (ti_ne rfl jk_0 ⟨fun c14 => ?_, fun c14 => ?_⟩)
    ·
      rw [if_neg (by omega)] at D
      refine x_iconst (v := 0) rfl ki_0 ?_
      refine x_zret rfl rfl (by decide) ?_
      show jX m_X12_readSum 5 0 0 6 [(0, .ref 125)] [.int 0] _ 0 0 _
      refine x_ifeq (tgt := 17) rfl rfl (ti_eq jk_0 jk_0 (br_t (by omega) ?_))
      refine x_aloadn (x := 125) rfl rfl ?_
      refine x_inv (N := m_X12_readPart) (As := []) (b := 125) (st := []) (dx9 := 4) (mc := 0) (ms := 0) (host := "") 12 rfl t_X12_readPart ⟨Or.inl q_12_572, i_X12_readPart.1, i_X12_readPart.2⟩ ⟨by decide, rfl⟩ (congrArg Prod.fst (J.1.1 125 (12, 92) rfl)) rfl (by decide) rfl rfl ⟨by decide, by decide⟩ (sf_X12_readPart_r125d  hA hD J zp0 zp1 zp2 (by omega) zp3 zp2 zp0 (by omega) rfl  (fun h J S15 u16 u17 u18 qu16 qu17 qu18 ru16 u19 u20 u21 qu19 qu20 qu21 ru19 P22 X23 => ?_))
      have Sm := jSm_tr rfl Sm S15
      rw [X23] at D
      have eu16 := (show 0 ≤ u16.toInt ∧ u16.toInt ≤ 400 from qu16 ▸ jrg_f J sg_125_10_11_1_0_1)
      try rw [vrf qu16] at D
      have eu17 := (show 0 ≤ u17.toInt ∧ u17.toInt ≤ 400 from qu17 ▸ jrg_f J sg_125_8_9_1_0_1)
      try rw [vrf (jmb_c S15 qu17 rfl)] at D
      have eu18 := (show 0 ≤ u18.toInt ∧ u18.toInt ≤ 400 from qu18 ▸ jrg_f J sg_125_9_10_1_0_1)
      try rw [vrf qu18] at D
      have eu19 := (show 0 ≤ u19.toInt ∧ u19.toInt ≤ 3 from qu19 ▸ jrg_f J sg_125_11_12_1_0_1)
      try rw [vrf qu19] at D
      obtain rfl : u18 = u20 := qu18.symm.trans qu20
      obtain rfl : u16 = u21 := qu16.symm.trans qu21
      show jX m_X12_readSum 5 0 0 21 [(0, .ref 125)] [] _ 0 0 _
      refine x_iconst (v := 3) rfl ki_3 ?_
      refine x_iret rfl rfl ?_
      exact hQ _ _ (jr_of jk_3 (by omega)) J Sm _ _ _ qu16 qu17 qu18 (by omega) _ _ _ qu19 qu18 qu16 (by omega) (by rw [jk_3]; exact rs_part P22) ((congrArg Prod.fst D).symm.trans (show 3 = (3 : Int32).toInt from by have := jk_3; omega)) (congrArg Prod.snd D).symm
    ·
      rw [if_pos (by omega)] at D
      refine x_iconst (v := 1) rfl ki_1 ?_
      refine x_goto (tgt := 23) rfl rfl ?_
      refine x_zret rfl rfl (by decide) ?_
      show jX m_X12_readSum 5 0 0 6 [(0, .ref 125)] [.int 1] _ 0 0 _
      refine x_ifeq (tgt := 17) rfl rfl (ti_eq jk_1 jk_0 (br_f (by omega) ?_))
      refine x_aloadn (x := 125) rfl rfl ?_
      refine x_bipush (v := 31) rfl kb_31 ?_
      refine x_inv (N := m_X12_open) (As := [.int 31]) (b := 125) (st := []) (dx9 := 4) (mc := 0) (ms := 0) (host := "") 12 rfl t_X12_open ⟨Or.inl q_12_563, i_X12_open.1, i_X12_open.2⟩ ⟨by decide, rfl⟩ (congrArg Prod.fst (J.1.1 125 (12, 92) rfl)) rfl (by decide) rfl rfl ⟨by decide, by decide⟩ (jC.of rfl k_X12_open rfl ?_)
      show jX m_X12_open 4 0 0 0 [(0, .ref 125), (1, .int 31)] [] _ 0 0 _
      refine x_aloadn (x := 125) rfl rfl ?_
      refine x_aloadn (x := 125) rfl rfl ?_
      refine z_getI0 (N := 92) 12 56 rfl f_12_533 rfl J rfl (fun v24 qv24 => ?_)
      have ev24 := jfull v24
      try rw [vrf qv24] at D
      refine x_bipush (v := 8) rfl kb_8 ?_
      refine x_icge (tgt := 14) rfl rfl (ti_ge rfl jk_8 ⟨fun c25 => ?_, fun c25 => ?_⟩)
      ·
        rw [if_pos (by omega)] at D
        refine x_iconst (v := 0) rfl ki_0 ?_
        refine x_inv (N := m_X12_must) (As := [.int 0]) (b := 125) (st := []) (dx9 := 3) (mc := 0) (ms := 0) (host := "") 12 rfl t_X12_must ⟨Or.inl q_12_250, i_X12_must.1, i_X12_must.2⟩ ⟨by decide, rfl⟩ (congrArg Prod.fst (J.1.1 125 (12, 92) rfl)) rfl (by decide) rfl rfl ⟨by decide, by decide⟩ (jC.of rfl k_X12_must rfl ?_)
        show jX m_X12_must 3 0 0 0 [(0, .ref 125), (1, .int 0)] [] _ 0 0 _
        refine x_aloadn (x := 125) rfl rfl ?_
        refine z_getI (N := 92) 12 14 rfl f_12_214 rfl J rfl sg_125_14_15_1_0_1 (fun v26 qv26 ev26 => ?_)
        try rw [vrf qv26] at D
        refine x_ifne (tgt := 24) rfl rfl (ti_ne rfl jk_0 ⟨fun c27 => ?_, fun c27 => ?_⟩)
        ·
          rw [if_neg (by omega)] at D
          refine x_aloadn (x := 125) rfl rfl ?_
          refine z_getM (N := 92) (v := v26) 12 14 rfl f_12_214 rfl J rfl qv26 ?_
          refine x_ifne (tgt := 35) rfl rfl (ti_ne rfl jk_0 (bn_t (by omega) ?_))
          refine x_vret rfl rfl ?_
          show jX m_X12_open 4 0 0 18 [(0, .ref 125), (1, .int 31)] [] _ 0 0 _
          refine x_aloadn (x := 125) rfl rfl ?_
          refine z_getM (N := 92) (v := v26) 12 14 rfl f_12_214 rfl J rfl qv26 ?_
          refine x_ifne (tgt := 41) rfl rfl (ti_ne rfl jk_0 (bn_t (by omega) ?_))
          refine x_vret rfl rfl ?_
          show jX m_X12_readSum 5 0 0 15 [(0, .ref 125)] [] _ 0 0 _
          refine x_iconst (v := 1) rfl ki_1 ?_
          refine x_iret rfl rfl ?_
          exact hQ _ _ (jr_of jk_1 (by omega)) J Sm _ _ _ zp0 zp1 zp2 (by omega) _ _ _ zp3 zp2 zp0 (by omega) (by rw [jk_1]; exact jmu_tb (jmu_bad hA jeq_0 jeq_0 jeq_0 jeq_0 rfl rfl rfl qv26 (by omega)) qv26 (by omega)) ((congrArg Prod.fst D).symm.trans (show 1 = (1 : Int32).toInt from by have := jk_1; omega)) (congrArg Prod.snd D).symm
        ·
          rw [if_pos (by omega)] at D
          refine x_iloadn (x := 0) rfl rfl ?_
          refine x_ifne (tgt := 24) rfl rfl (ti_ne jk_0 jk_0 (bn_f (by omega) ?_))
          refine x_aloadn (x := 125) rfl rfl ?_
          refine x_iconst (v := 1) rfl ki_1 ?_
          refine z_putZ (N := 92) (w := 1) 12 14 rfl f_12_214 rfl (jfin_no TX12 RX12 92 rfl rfl) hD J Sm rfl rfl jk_1 (by omega) (pw_125_14 (by omega)) rfl (fun h w28 J Sm => ?_)
          rw [vwf w28 (show 1 = (1 : Int32).toInt from by have := jk_1; omega)] at D
          refine x_aloadn (x := 125) rfl rfl ?_
          refine x_aloadn (x := 125) rfl rfl ?_
          refine z_getM (N := 92) (v := p2) 12 9 rfl f_12_221 rfl J rfl (jmo w28 rfl zp2) ?_
          refine z_putI (N := 92) (w := p2.toInt) 12 13 rfl f_12_32 rfl (jfin_no TX12 RX12 92 rfl rfl) hD J Sm rfl rfl rfl (pw_125_13 (by omega)) rfl (fun h w29 J Sm => ?_)
          rw [vwf w29 (show p2.toInt = p2.toInt from by omega)] at D
          refine x_aloadn (x := 125) rfl rfl ?_
          refine z_getM (N := 92) (v := 1) 12 14 rfl f_12_214 rfl J rfl (jmo w29 rfl (jmw w28)) ?_
          refine x_ifne (tgt := 35) rfl rfl (ti_ne jk_1 jk_0 (bn_t (by omega) ?_))
          refine x_vret rfl rfl ?_
          show jX m_X12_open 4 0 0 18 [(0, .ref 125), (1, .int 31)] [] _ 0 0 _
          refine x_aloadn (x := 125) rfl rfl ?_
          refine z_getM (N := 92) (v := 1) 12 14 rfl f_12_214 rfl J rfl (jmo w29 rfl (jmw w28)) ?_
          refine x_ifne (tgt := 41) rfl rfl (ti_ne jk_1 jk_0 (bn_t (by omega) ?_))
          refine x_vret rfl rfl ?_
          show jX m_X12_readSum 5 0 0 15 [(0, .ref 125)] [] _ 0 0 _
          refine x_iconst (v := 1) rfl ki_1 ?_
          refine x_iret rfl rfl ?_
          exact hQ _ _ (jr_of jk_1 (by omega)) J Sm _ _ _ (jmo w29 rfl (jmo w28 rfl zp0)) (jmo w29 rfl (jmo w28 rfl zp1)) (jmo w29 rfl (jmo w28 rfl zp2)) (by omega) _ _ _ (jmo w29 rfl (jmo w28 rfl zp3)) (jmo w29 rfl (jmo w28 rfl zp2)) (jmo w29 rfl (jmo w28 rfl zp0)) (by omega) (by rw [jk_1]; exact jmu_tb (jmu_bad hA (jeq_o w29 rfl (jeq_o w28 rfl jeq_0)) (jeq_o w29 rfl (jeq_o w28 rfl jeq_0)) (jeq_o w29 rfl (jeq_o w28 rfl jeq_0)) (jeq_o w29 rfl (jeq_o w28 rfl jeq_0)) (jmo w29 rfl (jmo w28 rfl rfl)) (jmo w29 rfl (jmo w28 rfl rfl)) (jmo w29 rfl (jmo w28 rfl rfl)) (jmo w29 rfl (jmw w28)) (by decide)) (jmo w29 rfl (jmw w28)) (by decide)) ((congrArg Prod.fst D).symm.trans (show 1 = (1 : Int32).toInt from by have := jk_1; omega)) (congrArg Prod.snd D).symm
      ·
        rw [if_neg (by omega)] at D
        refine x_iconst (v := 1) rfl ki_1 ?_
        refine x_goto (tgt := 15) rfl rfl ?_
        refine x_inv (N := m_X12_must) (As := [.int 1]) (b := 125) (st := []) (dx9 := 3) (mc := 0) (ms := 0) (host := "") 12 rfl t_X12_must ⟨Or.inl q_12_250, i_X12_must.1, i_X12_must.2⟩ ⟨by decide, rfl⟩ (congrArg Prod.fst (J.1.1 125 (12, 92) rfl)) rfl (by decide) rfl rfl ⟨by decide, by decide⟩ (jC.of rfl k_X12_must rfl ?_)
        show jX m_X12_must 3 0 0 0 [(0, .ref 125), (1, .int 1)] [] _ 0 0 _
        refine x_aloadn (x := 125) rfl rfl ?_
        refine z_getI (N := 92) 12 14 rfl f_12_214 rfl J rfl sg_125_14_15_1_0_1 (fun v30 qv30 ev30 => ?_)
        try rw [vrf qv30] at D
        refine x_ifne (tgt := 24) rfl rfl (ti_ne rfl jk_0 ⟨fun c31 => ?_, fun c31 => ?_⟩)
        ·
          rw [if_neg (by omega)] at D
          refine x_aloadn (x := 125) rfl rfl ?_
          refine z_getM (N := 92) (v := v30) 12 14 rfl f_12_214 rfl J rfl qv30 ?_
          refine x_ifne (tgt := 35) rfl rfl (ti_ne rfl jk_0 (bn_t (by omega) ?_))
          refine x_vret rfl rfl ?_
          show jX m_X12_open 4 0 0 18 [(0, .ref 125), (1, .int 31)] [] _ 0 0 _
          refine x_aloadn (x := 125) rfl rfl ?_
          refine z_getM (N := 92) (v := v30) 12 14 rfl f_12_214 rfl J rfl qv30 ?_
          refine x_ifne (tgt := 41) rfl rfl (ti_ne rfl jk_0 (bn_t (by omega) ?_))
          refine x_vret rfl rfl ?_
          show jX m_X12_readSum 5 0 0 15 [(0, .ref 125)] [] _ 0 0 _
          refine x_iconst (v := 1) rfl ki_1 ?_
          refine x_iret rfl rfl ?_
          exact hQ _ _ (jr_of jk_1 (by omega)) J Sm _ _ _ zp0 zp1 zp2 (by omega) _ _ _ zp3 zp2 zp0 (by omega) (by rw [jk_1]; exact jmu_tb (jmu_bad hA jeq_0 jeq_0 jeq_0 jeq_0 rfl rfl rfl qv30 (by omega)) qv30 (by omega)) ((congrArg Prod.fst D).symm.trans (show 1 = (1 : Int32).toInt from by have := jk_1; omega)) (congrArg Prod.snd D).symm
        ·
          rw [if_pos (by omega)] at D
          refine x_iloadn (x := 1) rfl rfl ?_
          refine x_ifne (tgt := 24) rfl rfl (ti_ne jk_1 jk_0 (bn_t (by omega) ?_))
          refine x_aloadn (x := 125) rfl rfl ?_
          refine z_getM (N := 92) (v := v30) 12 14 rfl f_12_214 rfl J rfl qv30 ?_
          refine x_ifne (tgt := 35) rfl rfl (ti_ne rfl jk_0 (bn_f (by omega) ?_))
          refine x_aloadn (x := 125) rfl rfl ?_
          refine x_inv (N := m_X12_next) (As := []) (b := 125) (st := []) (dx9 := 2) (mc := 0) (ms := 0) (host := "") 12 rfl t_X12_next ⟨Or.inl q_12_218, i_X12_next.1, i_X12_next.2⟩ ⟨by decide, rfl⟩ (congrArg Prod.fst (J.1.1 125 (12, 92) rfl)) rfl (by decide) rfl rfl ⟨by decide, by decide⟩ (sf_X12_next_r125d  hD J zp0 zp1 (by omega) rfl  (fun h J S32 u33 u34 u35 qu33 qu34 qu35 ru33 u36 u37 u38 qu36 qu37 qu38 ru36 P39 X40 => ?_))
          have Sm := jSm_tr rfl Sm S32
          rw [X40] at D
          have eu33 := (show 0 ≤ u33.toInt ∧ u33.toInt ≤ 400 from qu33 ▸ jrg_f J sg_125_10_11_1_0_1)
          try rw [vrf qu33] at D
          have eu34 := (show 0 ≤ u34.toInt ∧ u34.toInt ≤ 400 from qu34 ▸ jrg_f J sg_125_8_9_1_0_1)
          try rw [vrf (jmb_c S32 qu34 rfl)] at D
          have eu35 := (show 0 ≤ u35.toInt ∧ u35.toInt ≤ 400 from qu35 ▸ jrg_f J sg_125_9_10_1_0_1)
          try rw [vrf qu35] at D
          have eu36 := (show 0 ≤ u36.toInt ∧ u36.toInt ≤ 3 from qu36 ▸ jrg_f J sg_125_11_12_1_0_1)
          try rw [vrf qu36] at D
          obtain rfl : u35 = u37 := qu35.symm.trans qu37
          obtain rfl : u33 = u38 := qu33.symm.trans qu38
          have nfP39 := jnf P39.1 zp0 qu35
          show jX m_X12_must 3 0 0 35 [(0, .ref 125), (1, .int 1)] [] _ 0 0 _
          refine x_vret rfl rfl ?_
          show jX m_X12_open 4 0 0 18 [(0, .ref 125), (1, .int 31)] [] _ 0 0 _
          refine x_aloadn (x := 125) rfl rfl ?_
          refine z_getM (N := 92) (v := v30) 12 14 rfl f_12_214 rfl J rfl (jmc S32 rfl qv30) ?_
          refine x_ifne (tgt := 41) rfl rfl (ti_ne rfl jk_0 (bn_f (by omega) ?_))
          obtain ⟨u41, qu41⟩ : ∃ v : Int32, jiv h 125 55 = v := ⟨_, rfl⟩
          have eu41 := (show 0 ≤ u41.toInt ∧ u41.toInt ≤ 400 from qu41 ▸ jrg_f J sg_125_55_56_1_0_1)
          try rw [vrf (jmb_c S32 qu41 rfl)] at D
          have lx := jmu_l (jmu_on hA (jeq_c S32 rfl jeq_0) (jeq_c S32 rfl jeq_0) (jeq_c S32 rfl jeq_0) (jeq_c S32 rfl jeq_0) (jmc S32 rfl rfl) (jmc S32 rfl rfl) (jmc S32 rfl rfl) (zp2) qu35 (by omega)) (jmc S32 rfl qv30) (by omega) qu41 (by have := jrg_f J sg_125_9_10_1_0_1; omega)
          refine x_aloadn (x := 125) rfl rfl ?_
          refine x_dup rfl rfl ?_
          refine z_getM (N := 92) (v := v24) 12 56 rfl f_12_533 rfl J rfl (jmc S32 rfl qv24) ?_
          refine x_iconst (v := 1) rfl ki_1 ?_
          refine z_iadd rfl rfl jk_1 (by omega) (fun v42 ev42 => ?_)
          refine z_putI (N := 92) (w := v42.toInt) 12 56 rfl f_12_533 rfl (jfin_no TX12 RX12 92 rfl rfl) hD J Sm rfl rfl rfl (pw_125_56 trivial) rfl (fun h w43 J Sm => ?_)
          rw [vwf w43 (show (v24.toInt + 1) = v42.toInt from by omega)] at D
          refine x_aloadn (x := 125) rfl rfl ?_
          refine x_iloadn (x := 31) rfl rfl ?_
          refine x_iconst (v := 0) rfl ki_0 ?_
          refine x_inv (N := m_X12_push) (As := [.int 31, .int 0]) (b := 125) (st := []) (dx9 := 3) (mc := 0) (ms := 0) (host := "") 12 rfl t_X12_push ⟨Or.inl q_12_536, i_X12_push.1, i_X12_push.2⟩ ⟨by decide, rfl⟩ (congrArg Prod.fst (J.1.1 125 (12, 92) rfl)) rfl (by decide) rfl rfl ⟨by decide, by decide⟩ (jC.of rfl k_X12_push rfl ?_)
          show jX m_X12_push 3 0 0 0 [(0, .ref 125), (1, .int 31), (2, .int 0)] [] _ 0 0 _
          refine x_aloadn (x := 125) rfl rfl ?_
          refine z_getR (N := 92) (b := 150) 12 53 rfl f_12_105 rfl J rfl 16053 ⟨rfl, rfl⟩ rfl ?_
          refine x_aloadn (x := 125) rfl rfl ?_
          refine z_getM (N := 92) (v := u41) 12 55 rfl f_12_496 rfl J rfl (jmo w43 rfl qu41) ?_
          refine x_iloadn (x := 31) rfl rfl ?_
          refine z_iast (N := 400) (l := 0) (u := 400) (w := 31) rfl hD J Sm rfl rfl rfl (by omega) jk_31 (wr_150) rfl (fun h w44 J Sm => ?_)
          rw [vww w44 (show u41.toInt = u41.toInt from by omega) (show 31 = (31 : Int32).toInt from by have := jk_31; omega)] at D
          refine x_aloadn (x := 125) rfl rfl ?_
          refine z_getR (N := 92) (b := 151) 12 54 rfl f_12_108 rfl J rfl 16054 ⟨rfl, rfl⟩ rfl ?_
          refine x_aloadn (x := 125) rfl rfl ?_
          refine z_getM (N := 92) (v := u41) 12 55 rfl f_12_496 rfl J rfl (jmo w44 rfl (jmo w43 rfl qu41)) ?_
          refine x_iloadn (x := 0) rfl rfl ?_
          refine z_iast (N := 400) (l := 0) (u := 400) (w := 0) rfl hD J Sm rfl rfl rfl (by omega) jk_0 (wr_151) rfl (fun h w45 J Sm => ?_)
          rw [vww w45 (show u41.toInt = u41.toInt from by omega) (show 0 = (0 : Int32).toInt from by have := jk_0; omega)] at D
          refine x_aloadn (x := 125) rfl rfl ?_
          refine x_dup rfl rfl ?_
          refine z_getM (N := 92) (v := u41) 12 55 rfl f_12_496 rfl J rfl (jmo w45 rfl (jmo w44 rfl (jmo w43 rfl qu41))) ?_
          refine x_iconst (v := 1) rfl ki_1 ?_
          refine z_iadd rfl rfl jk_1 (by omega) (fun v46 ev46 => ?_)
          refine z_putI (N := 92) (w := v46.toInt) 12 55 rfl f_12_496 rfl (jfin_no TX12 RX12 92 rfl rfl) hD J Sm rfl rfl rfl (pw_125_55 (by omega)) rfl (fun h w47 J Sm => ?_)
          rw [vwf w47 (show (u41.toInt + 1) = v46.toInt from by omega)] at D
          refine x_vret rfl rfl ?_
          show jX m_X12_open 4 0 0 41 [(0, .ref 125), (1, .int 31)] [] _ 0 0 _
          refine x_vret rfl rfl ?_
          show jX m_X12_readSum 5 0 0 15 [(0, .ref 125)] [] _ 0 0 _
          refine x_iconst (v := 1) rfl ki_1 ?_
          refine x_iret rfl rfl ?_
          exact hQ _ _ (jr_of jk_1 (by omega)) J Sm _ _ _ (jmo w47 rfl (jmo w45 rfl (jmo w44 rfl (jmo w43 rfl qu33)))) (jmo w47 rfl (jmo w45 rfl (jmo w44 rfl (jmo w43 rfl qu34)))) (jmo w47 rfl (jmo w45 rfl (jmo w44 rfl (jmo w43 rfl qu35)))) (by omega) _ _ _ (jmo w47 rfl (jmo w45 rfl (jmo w44 rfl (jmo w43 rfl qu36)))) (jmo w47 rfl (jmo w45 rfl (jmo w44 rfl (jmo w43 rfl qu35)))) (jmo w47 rfl (jmo w45 rfl (jmo w44 rfl (jmo w43 rfl qu33)))) (by omega) (by rw [jk_1]; exact op_mark (jmu_on hA (jeq_c S32 rfl jeq_0) (jeq_c S32 rfl jeq_0) (jeq_c S32 rfl jeq_0) (jeq_c S32 rfl jeq_0) (jmc S32 rfl rfl) (jmc S32 rfl rfl) (jmc S32 rfl rfl) (zp2) qu35 (by omega)) (jmc S32 rfl qv30) (by omega) w43 (jmo w43 rfl qu41) w44 w45 w47 (by omega) (Or.inr ⟨by decide, rfl⟩) (Or.inl (by decide))) ((congrArg Prod.fst D).symm.trans (show 1 = (1 : Int32).toInt from by have := jk_1; omega)) (congrArg Prod.snd D).symm
