def fp_X12_findCount_r125d : jFp := [(125, 32, 33), (125, 33, 34), (125, 34, 35), (125, 35, 36), (125, 57, 58), (125, 61, 62), (125, 62, 63), (125, 63, 64), (125, 64, 65), (125, 65, 66), (125, 66, 67), (152, 0, 360), (153, 0, 30), (154, 0, 400), (155, 0, 360), (162, 0, 40), (163, 0, 40), (164, 0, 40)]
set_option maxRecDepth 100000 in
set_option maxHeartbeats 4000000 in
theorem ct_X12_findCount_r125d_200202 {Dy : jH → Prop} {h0 : jH} {Q : Option Value → jH → Prop} {dr : jW} {K170 : Int → Int → jW → jW} {R170 : Int} (hD : jDk Dy) (hQ : ∀ hx9, jJ jSgM Dy hx9 → jSm fp_X12_findCount_r125d h0 hx9 → dr = vw hx9 → Q none hx9) (k170 : ∀ (l5 : Int32) (l6 : Int32) (g0 : Int32) (h : jH), 360 - l6.toInt < R170 → 0 ≤ l5.toInt ∧ l5.toInt ≤ 360 → 0 ≤ l6.toInt ∧ l6.toInt ≤ 360 → l5.toInt ≤ 360 → jiv h 125 66 = g0 → jJ jSgM Dy h → jSm fp_X12_findCount_r125d h0 h → K170 l5.toInt l6.toInt (vw h) = dr → jX m_X12_findCount 11 0 0 170 [(0, .ref 125), (5, .int l5), (6, .int l6)] [] h 0 0 Q) : ∀ (l5 : Int32) (l6 : Int32) (s1 : Int32) (h : jH), 1 ≤ l5.toInt ∧ l5.toInt ≤ 360 → 0 ≤ l6.toInt ∧ l6.toInt ≤ 359 → l5.toInt ≤ 360 → 360 - l6.toInt ≤ R170 → jJ jSgM Dy h → jSm fp_X12_findCount_r125d h0 h → d_X12_findCount_r125d_200202 K170  l5.toInt l6.toInt s1.toInt (vw h) = dr → jX m_X12_findCount 11 0 0 202 [(0, .ref 125), (5, .int l5), (6, .int l6)] [.int 0, .int s1, .ref 125] h 0 0 Q := by
  intro l5 l6 s1 h y0 y1 y2  m170 J Sm D
  have es1 := jfull s1
  unfold d_X12_findCount_r125d_200202 at D
  refine z_iadd rfl rfl jk_0 (by omega) (fun v1 ev1 => ?_)
  refine z_putI (N := 92) (w := v1.toInt) 12 66 rfl f_12_758 rfl (jfin_no TX12 RX12 92 rfl rfl) hD J Sm rfl rfl rfl (pw_125_66 trivial) rfl (fun h w2 J Sm => ?_)
  rw [vwf w2 (show (s1.toInt + 0) = v1.toInt from by omega)] at D
  refine z_iinc (x := l6) (lsx9 := fun v3 => [(6, .int v3), (0, .ref 125), (5, .int l5)]) rfl rfl rfl jko_1 (by omega) rfl (fun _ => rfl) (fun v3 ev3 => ?_)
  refine x_goto (tgt := 170) rfl rfl ?_
  try rw [show (l6.toInt + 1) = v3.toInt from by omega] at D
  exact jX.sub (jsb_c rfl (jsb_c rfl (jsb_c rfl jsb_n))) (k170 l5 v3 v1 h (by omega) (jr_of rfl (by omega)) (jr_of rfl (by omega)) (by omega) (jmw w2) J Sm D)
set_option maxRecDepth 100000 in
set_option maxHeartbeats 4000000 in
theorem ct_X12_findCount_r125d_300202 {Dy : jH → Prop} {h0 : jH} {Q : Option Value → jH → Prop} {dr : jW} {K170 : Int → Int → jW → jW} {R170 : Int} (hD : jDk Dy) (hQ : ∀ hx9, jJ jSgM Dy hx9 → jSm fp_X12_findCount_r125d h0 hx9 → dr = vw hx9 → Q none hx9) (k170 : ∀ (l5 : Int32) (l6 : Int32) (g0 : Int32) (h : jH), 360 - l6.toInt < R170 → 0 ≤ l5.toInt ∧ l5.toInt ≤ 360 → 0 ≤ l6.toInt ∧ l6.toInt ≤ 360 → l5.toInt ≤ 360 → jiv h 125 66 = g0 → jJ jSgM Dy h → jSm fp_X12_findCount_r125d h0 h → K170 l5.toInt l6.toInt (vw h) = dr → jX m_X12_findCount 11 0 0 170 [(0, .ref 125), (5, .int l5), (6, .int l6)] [] h 0 0 Q) : ∀ (l5 : Int32) (l6 : Int32) (s1 : Int32) (h : jH), 1 ≤ l5.toInt ∧ l5.toInt ≤ 360 → 0 ≤ l6.toInt ∧ l6.toInt ≤ 359 → l5.toInt ≤ 360 → 360 - l6.toInt ≤ R170 → jJ jSgM Dy h → jSm fp_X12_findCount_r125d h0 h → d_X12_findCount_r125d_300202 K170  l5.toInt l6.toInt s1.toInt (vw h) = dr → jX m_X12_findCount 11 0 0 202 [(0, .ref 125), (5, .int l5), (6, .int l6)] [.int 1, .int s1, .ref 125] h 0 0 Q := by
  intro l5 l6 s1 h y0 y1 y2  m170 J Sm D
  have es1 := jfull s1
  unfold d_X12_findCount_r125d_300202 at D
  refine z_iaddW rfl rfl jk_1 (fun v1 ev1 => ?_)
  have fv1 := jfull v1
  try rw [← ev1] at D
  refine z_putI (N := 92) (w := v1.toInt) 12 66 rfl f_12_758 rfl (jfin_no TX12 RX12 92 rfl rfl) hD J Sm rfl rfl rfl (pw_125_66 trivial) rfl (fun h w2 J Sm => ?_)
  rw [vwf w2 (show v1.toInt = v1.toInt from by omega)] at D
  refine z_iinc (x := l6) (lsx9 := fun v3 => [(6, .int v3), (0, .ref 125), (5, .int l5)]) rfl rfl rfl jko_1 (by omega) rfl (fun _ => rfl) (fun v3 ev3 => ?_)
  refine x_goto (tgt := 170) rfl rfl ?_
  try rw [show (l6.toInt + 1) = v3.toInt from by omega] at D
  exact jX.sub (jsb_c rfl (jsb_c rfl (jsb_c rfl jsb_n))) (k170 l5 v3 v1 h (by omega) (jr_of rfl (by omega)) (jr_of rfl (by omega)) (by omega) (jmw w2) J Sm D)
set_option maxRecDepth 100000 in
set_option maxHeartbeats 4000000 in
theorem ct_X12_findCount_r125d_170 {Dy : jH → Prop} {h0 : jH} {Q : Option Value → jH → Prop} {dr : jW} (hD : jDk Dy) (hQ : ∀ hx9, jJ jSgM Dy hx9 → jSm fp_X12_findCount_r125d h0 hx9 → dr = vw hx9 → Q none hx9) : ∀ r : Nat, ∀ (l5 : Int32) (l6 : Int32) (g0 : Int32) (h : jH), 360 - l6.toInt < (r : Int) → 0 ≤ l5.toInt ∧ l5.toInt ≤ 360 → 0 ≤ l6.toInt ∧ l6.toInt ≤ 360 → l5.toInt ≤ 360 → jiv h 125 66 = g0 → jJ jSgM Dy h → jSm fp_X12_findCount_r125d h0 h → d_X12_findCount_r125d_170 r l5.toInt l6.toInt (vw h) = dr → jX m_X12_findCount 11 0 0 170 [(0, .ref 125), (5, .int l5), (6, .int l6)] [] h 0 0 Q := by
  intro r
  induction r with
  | zero =>
    intro l5 l6 g0 h hm y0 y1 y2 z0  J Sm D
    exfalso
    have eg0 := jfull g0
    omega
  | succ r ih =>
    intro l5 l6 g0 h hm y0 y1 y2 z0  J Sm D
    have eg0 := jfull g0
    rw [d_X12_findCount_r125d_170.eq_2] at D
    try rw [vrf z0] at D
    refine x_iload (x := l6) rfl rfl ?_
    refine x_iload (x := l5) rfl rfl ?_
    refine x_icge (tgt := 212) rfl rfl (ti_ge rfl rfl ⟨fun c1 => ?_, fun c1 => ?_⟩)
    ·
      rw [if_pos (by omega)] at D
      refine x_vret rfl rfl ?_
      exact hQ _ J Sm D.symm
    ·
      rw [if_neg (by omega)] at D
      refine x_aloadn (x := 125) rfl rfl ?_
      refine x_dup rfl rfl ?_
      refine z_getM (N := 92) (v := g0) 12 66 rfl f_12_758 rfl J rfl z0 ?_
      refine x_aloadn (x := 125) rfl rfl ?_
      refine z_getR (N := 92) (b := 155) 12 67 rfl f_12_123 rfl J rfl 16067 ⟨rfl, rfl⟩ rfl ?_
      refine x_iload (x := l6) rfl rfl ?_
      refine z_laldQ (N := 360) rfl J rfl rfl (by omega) (fun v2 qv2 => ?_)
      have ev2 := jfullL v2
      try rw [vrdL qv2 (show l6.toInt = l6.toInt from by omega)] at D
      refine x_aloadn (x := 125) rfl rfl ?_
      refine z_getLQ (N := 92) 12 64 rfl f_12_755 rfl J rfl (fun v3 qv3 => ?_)
      have ev3 := jfullL v3
      try rw [vrfL qv3] at D
      refine z_lcmp rfl rfl rfl (fun v4 ev4 => ?_)
      refine x_ifeq (tgt := 201) rfl rfl (ti_eq rfl jk_0 ⟨fun c5 => ?_, fun c5 => ?_⟩)
      ·
        rw [if_pos (by omega)] at D
        refine x_iconst (v := 0) rfl ki_0 ?_
        exact jX.sub (jsb_c rfl (jsb_c rfl (jsb_c rfl jsb_n))) (ct_X12_findCount_r125d_200202 hD hQ ih l5 l6 g0 h (jr_of rfl (by omega)) (jr_of rfl (by omega)) (by omega) (by omega) J Sm D)
      ·
        rw [if_neg (by omega)] at D
        refine x_iconst (v := 1) rfl ki_1 ?_
        refine x_goto (tgt := 202) rfl rfl ?_
        exact jX.sub (jsb_c rfl (jsb_c rfl (jsb_c rfl jsb_n))) (ct_X12_findCount_r125d_300202 hD hQ ih l5 l6 g0 h (jr_of rfl (by omega)) (jr_of rfl (by omega)) (by omega) (by omega) J Sm D)
set_option maxRecDepth 100000 in
set_option maxHeartbeats 4000000 in
theorem ct_X12_findCount_r125d_161 {Dy : jH → Prop} {h0 : jH} {Q : Option Value → jH → Prop} {dr : jW} {K21 : Int → Int → Int → Int → Int → Int → jW → jW} {R21 : Int} (hD : jDk Dy) (hQ : ∀ hx9, jJ jSgM Dy hx9 → jSm fp_X12_findCount_r125d h0 hx9 → dr = vw hx9 → Q none hx9) (k21 : ∀ (l1 : Int32) (l2 : Int32) (l3 : Int32) (l4 : Int32) (l5 : Int32) (l6 : Int32) (g0 : Int32) (h : jH), 720 - l6.toInt < R21 → 3 ≤ l1.toInt ∧ l1.toInt ≤ 8 → 0 ≤ l2.toInt ∧ l2.toInt ≤ 2 → (-1) ≤ l3.toInt ∧ l3.toInt ≤ 599 → 0 ≤ l4.toInt ∧ l4.toInt ≤ 146399 → 0 ≤ l5.toInt ∧ l5.toInt ≤ 366 → 0 ≤ l6.toInt ∧ l6.toInt ≤ 720 → 0 ≤ g0.toInt ∧ g0.toInt ≤ 0 → l5.toInt ≤ jA (jiv h0 126) l6.toInt.toNat → jiv h 125 66 = g0 → jJ jSgM Dy h → jSm fp_X12_findCount_r125d h0 h → K21 l1.toInt l2.toInt l3.toInt l4.toInt l5.toInt l6.toInt (vw h) = dr → jX m_X12_findCount 11 0 0 21 [(0, .ref 125), (1, .int l1), (2, .int l2), (3, .int l3), (4, .int l4), (5, .int l5), (6, .int l6)] [] h 0 0 Q) : ∀ (l1 : Int32) (l2 : Int32) (l3 : Int32) (l4 : Int32) (l5 : Int32) (l6 : Int32) (g0 : Int32) (h : jH), 3 ≤ l1.toInt ∧ l1.toInt ≤ 8 → 0 ≤ l2.toInt ∧ l2.toInt ≤ 2 → (-1) ≤ l3.toInt ∧ l3.toInt ≤ 599 → 0 ≤ l4.toInt ∧ l4.toInt ≤ 146399 → 0 ≤ l5.toInt ∧ l5.toInt ≤ 366 → 0 ≤ l6.toInt ∧ l6.toInt ≤ 719 → 0 ≤ g0.toInt ∧ g0.toInt ≤ 0 → l5.toInt ≤ jA (jiv h0 126) (l6.toInt + 1).toNat → jiv h 125 66 = g0 → 720 - l6.toInt ≤ R21 → jJ jSgM Dy h → jSm fp_X12_findCount_r125d h0 h → d_X12_findCount_r125d_161 K21  l1.toInt l2.toInt l3.toInt l4.toInt l5.toInt l6.toInt (vw h) = dr → jX m_X12_findCount 11 0 0 161 [(0, .ref 125), (1, .int l1), (2, .int l2), (3, .int l3), (4, .int l4), (5, .int l5), (6, .int l6)] [] h 0 0 Q := by
  intro l1 l2 l3 l4 l5 l6 g0 h y0 y1 y2 y3 y4 y5 y6 C0 z0 m21 J Sm D
  unfold d_X12_findCount_r125d_161 at D
  try rw [vrf z0] at D
  refine z_iinc (x := l6) (lsx9 := fun v1 => [(6, .int v1), (0, .ref 125), (1, .int l1), (2, .int l2), (3, .int l3), (4, .int l4), (5, .int l5)]) rfl rfl rfl jko_1 (by omega) rfl (fun _ => rfl) (fun v1 ev1 => ?_)
  refine x_goto (tgt := 21) rfl rfl ?_
  try rw [show (l6.toInt + 1) = v1.toInt from by omega] at D
  exact jX.sub (jsb_c rfl (jsb_c rfl (jsb_c rfl (jsb_c rfl (jsb_c rfl (jsb_c rfl (jsb_c rfl jsb_n))))))) (k21 l1 l2 l3 l4 l5 v1 g0 h (by omega) (jr_of rfl (by omega)) (jr_of rfl (by omega)) (jr_of rfl (by omega)) (jr_of rfl (by omega)) (jr_of rfl (by omega)) (jr_of rfl (by omega)) (jr_of rfl (by omega)) (by rw [ev1]; exact C0) z0 J Sm D)
set_option maxRecDepth 100000 in
set_option maxHeartbeats 4000000 in
theorem ct_X12_findCount_r125d_21 {Dy : jH → Prop} {h0 : jH} {Q : Option Value → jH → Prop} {dr : jW} (hD : jDk Dy) (hQ : ∀ hx9, jJ jSgM Dy hx9 → jSm fp_X12_findCount_r125d h0 hx9 → dr = vw hx9 → Q none hx9) : ∀ r : Nat, ∀ (l1 : Int32) (l2 : Int32) (l3 : Int32) (l4 : Int32) (l5 : Int32) (l6 : Int32) (g0 : Int32) (h : jH), 720 - l6.toInt < (r : Int) → 3 ≤ l1.toInt ∧ l1.toInt ≤ 8 → 0 ≤ l2.toInt ∧ l2.toInt ≤ 2 → (-1) ≤ l3.toInt ∧ l3.toInt ≤ 599 → 0 ≤ l4.toInt ∧ l4.toInt ≤ 146399 → 0 ≤ l5.toInt ∧ l5.toInt ≤ 366 → 0 ≤ l6.toInt ∧ l6.toInt ≤ 720 → 0 ≤ g0.toInt ∧ g0.toInt ≤ 0 → l5.toInt ≤ jA (jiv h0 126) l6.toInt.toNat → jiv h 125 66 = g0 → jJ jSgM Dy h → jSm fp_X12_findCount_r125d h0 h → d_X12_findCount_r125d_21 r l1.toInt l2.toInt l3.toInt l4.toInt l5.toInt l6.toInt (vw h) = dr → jX m_X12_findCount 11 0 0 21 [(0, .ref 125), (1, .int l1), (2, .int l2), (3, .int l3), (4, .int l4), (5, .int l5), (6, .int l6)] [] h 0 0 Q := by
  intro r
  induction r with
  | zero =>
    intro l1 l2 l3 l4 l5 l6 g0 h hm y0 y1 y2 y3 y4 y5 y6 C0 z0  J Sm D
    exfalso
    omega
  | succ r ih =>
    intro l1 l2 l3 l4 l5 l6 g0 h hm y0 y1 y2 y3 y4 y5 y6 C0 z0  J Sm D
    rw [d_X12_findCount_r125d_21.eq_2] at D
    try rw [vrf z0] at D
    refine x_iload (x := l6) rfl rfl ?_
    refine x_sipush (v := 720) rfl ks_720 ?_
    refine x_icge (tgt := 167) rfl rfl (ti_ge rfl jk_720 ⟨fun c1 => ?_, fun c1 => ?_⟩)
    ·
      rw [if_pos (by omega)] at D
      have xb := jA_max C0 (by omega)
      refine x_iconst (v := 0) rfl ki_0 ?_
      refine x_istore (lsx9 := [(6, .int 0), (0, .ref 125), (1, .int l1), (2, .int l2), (3, .int l3), (4, .int l4), (5, .int l5)]) rfl rfl rfl ?_
      exact jX.sub (jsb_c rfl (jsb_c rfl (jsb_c rfl jsb_n))) (ct_X12_findCount_r125d_170 hD hQ  361 l5 0 g0 h (by have := jk_0; omega) (jr_of rfl (by omega)) (jr_of jk_0 (by omega)) (by omega) z0 J Sm (by rw [jk_0]; exact D))
    ·
      rw [if_neg (by omega)] at D
      refine x_iload (x := l6) rfl rfl ?_
      refine x_sipush (v := 360) rfl ks_360 ?_
      refine z_irem rfl rfl jk_360 (by omega) (by omega) (fun v2 ev2 => ?_)
      refine x_bipush (v := 12) rfl kb_12 ?_
      refine z_idiv rfl rfl jk_12 (by omega) (by omega) (fun v3 ev3 => ?_)
      refine x_istore (lsx9 := [(7, .int v3), (0, .ref 125), (1, .int l1), (2, .int l2), (3, .int l3), (4, .int l4), (5, .int l5), (6, .int l6)]) rfl rfl rfl ?_
      refine x_iload (x := l6) rfl rfl ?_
      refine x_bipush (v := 12) rfl kb_12 ?_
      refine z_irem rfl rfl jk_12 (by omega) (by omega) (fun v4 ev4 => ?_)
      refine x_istore (lsx9 := [(8, .int v4), (7, .int v3), (0, .ref 125), (1, .int l1), (2, .int l2), (3, .int l3), (4, .int l4), (5, .int l5), (6, .int l6)]) rfl rfl rfl ?_
      refine x_aloadn (x := 125) rfl rfl ?_
      refine x_iload (x := v3) rfl rfl ?_
      refine x_iload (x := v4) rfl rfl ?_
      refine x_inv (N := m_X12_isClause) (As := [.int v3, .int v4]) (b := 125) (st := []) (dx9 := 10) (mc := 0) (ms := 0) (host := "") 12 rfl t_X12_isClause ⟨Or.inl q_12_685, i_X12_isClause.1, i_X12_isClause.2⟩ ⟨by decide, rfl⟩ (congrArg Prod.fst (J.1.1 125 (12, 92) rfl)) rfl (by decide) rfl rfl ⟨by decide, by decide⟩ (jC.of rfl k_X12_isClause rfl ?_)
      show jX m_X12_isClause 10 0 0 0 [(0, .ref 125), (1, .int v3), (2, .int v4)] [] _ 0 0 _
      refine x_iloadn (x := v3) rfl rfl ?_
      refine z_i2l rfl rfl (fun v5 ev5 => ?_)
      refine x_lconst (v := 0) rfl kl_0 ?_
      refine x_aloadn (x := 125) rfl rfl ?_
      refine z_getR (N := 92) (b := 126) 12 2 rfl f_12_8 rfl J rfl 16002 ⟨rfl, rfl⟩ rfl ?_
      refine x_iconst (v := 4) rfl ki_4 ?_
      refine z_iald (N := 50660) rfl J rfl sg_126_4_5_1_0_1 jk_4 (by omega) (fun v6 qv6 ev6 => ?_)
      try rw [vrn (n := 4) (by decide) qv6] at D
      refine z_i2l rfl rfl (fun v7 ev7 => ?_)
      refine x_lconst (v := 1) rfl kl_1 ?_
      refine z_lsub rfl rfl jkl_1 (by omega) (fun v8 ev8 => ?_)
      refine x_inst (N := m_X12_in) (As := [.long v5, .long 0, .long v8]) (st := []) (dx9 := 1) (mc := 0) (ms := 0) (host := "") rfl t_X12_in ⟨Or.inl q_12_188, s_X12_in⟩ rfl (by decide) rfl rfl ⟨by decide, by decide⟩ (zc_X12_in rfl jkl_0 rfl (fun v9 ev9 => ?_))
      show jX m_X12_isClause 10 0 0 15 [(0, .ref 125), (1, .int v3), (2, .int v4)] [.int v9] _ 0 0 _
      refine x_ifeq (tgt := 45) rfl rfl (ti_eq rfl jk_0 ⟨fun c10 => ?_, fun c10 => ?_⟩)
      ·
        rw [if_neg (by omega)] at D
        refine x_iconst (v := 0) rfl ki_0 ?_
        refine x_zret rfl rfl (by decide) ?_
        show jX m_X12_findCount 11 0 0 55 [(8, .int v4), (7, .int v3), (0, .ref 125), (1, .int l1), (2, .int l2), (3, .int l3), (4, .int l4), (5, .int l5), (6, .int l6)] [.int 0] _ 0 0 _
        refine x_ifeq (tgt := 161) rfl rfl (ti_eq jk_0 jk_0 (br_t (by omega) ?_))
        exact jX.sub (jsb_c rfl (jsb_c rfl (jsb_c rfl (jsb_c rfl (jsb_c rfl (jsb_c rfl (jsb_c rfl jsb_n))))))) (ct_X12_findCount_r125d_161 hD hQ ih l1 l2 l3 l4 l5 l6 g0 h (jr_of rfl (by omega)) (jr_of rfl (by omega)) (jr_of rfl (by omega)) (jr_of rfl (by omega)) (jr_of rfl (by omega)) (jr_of rfl (by omega)) (jr_of rfl (by omega)) (jA_le C0 (by omega)) z0 (by omega) J Sm D)
      ·
        rw [if_pos (by omega)] at D
        refine x_iloadn (x := v4) rfl rfl ?_
        refine z_i2l rfl rfl (fun v11 ev11 => ?_)
        refine x_lconst (v := 0) rfl kl_0 ?_
        refine x_aloadn (x := 125) rfl rfl ?_
        refine z_getR (N := 92) (b := 126) 12 2 rfl f_12_8 rfl J rfl 16002 ⟨rfl, rfl⟩ rfl ?_
        refine x_iloadn (x := v3) rfl rfl ?_
        refine x_inst (N := m_X12_textAt) (As := [.int v3]) (st := [.ref 126, .long 0, .long v11]) (dx9 := 9) (mc := 0) (ms := 0) (host := "") rfl t_X12_textAt ⟨Or.inl q_12_676, s_X12_textAt⟩ rfl (by decide) rfl rfl ⟨by decide, by decide⟩ (jC.of rfl k_X12_textAt rfl ?_)
        show jX m_X12_textAt 9 0 0 0 [(0, .int v3)] [] _ 0 0 _
        refine x_sipush (v := 18820) rfl ks_18820 ?_
        refine x_sipush (v := 924) rfl ks_924 ?_
        refine x_iloadn (x := v3) rfl rfl ?_
        refine z_imul rfl jk_924 rfl (by omega) (fun v12 ev12 => ?_)
        refine z_iadd rfl jk_18820 rfl (by omega) (fun v13 ev13 => ?_)
        refine x_iret rfl rfl ?_
        show jX m_X12_isClause 10 0 0 29 [(0, .ref 125), (1, .int v3), (2, .int v4)] [.int v13, .ref 126, .long 0, .long v11] _ 0 0 _
        refine x_iconst (v := 3) rfl ki_3 ?_
        refine z_iadd rfl rfl jk_3 (by omega) (fun v14 ev14 => ?_)
        refine z_iald (N := 50660) rfl J rfl sg_126_18820_46540_924_3_4 rfl (by omega) (fun v15 qv15 ev15 => ?_)
        try rw [vrd qv15 (show ((18820 + (924 * ((l6.toInt % 360) / 12))) + 3) = v14.toInt from by omega)] at D
        refine z_i2l rfl rfl (fun v16 ev16 => ?_)
        refine x_lconst (v := 1) rfl kl_1 ?_
        refine z_lsub rfl rfl jkl_1 (by omega) (fun v17 ev17 => ?_)
        refine x_inst (N := m_X12_in) (As := [.long v11, .long 0, .long v17]) (st := []) (dx9 := 1) (mc := 0) (ms := 0) (host := "") rfl t_X12_in ⟨Or.inl q_12_188, s_X12_in⟩ rfl (by decide) rfl rfl ⟨by decide, by decide⟩ (zc_X12_in rfl jkl_0 rfl (fun v18 ev18 => ?_))
        show jX m_X12_isClause 10 0 0 38 [(0, .ref 125), (1, .int v3), (2, .int v4)] [.int v18] _ 0 0 _
        refine x_ifeq (tgt := 45) rfl rfl (ti_eq rfl jk_0 ⟨fun c19 => ?_, fun c19 => ?_⟩)
        ·
          rw [if_neg (by omega)] at D
          refine x_iconst (v := 0) rfl ki_0 ?_
          refine x_zret rfl rfl (by decide) ?_
          show jX m_X12_findCount 11 0 0 55 [(8, .int v4), (7, .int v3), (0, .ref 125), (1, .int l1), (2, .int l2), (3, .int l3), (4, .int l4), (5, .int l5), (6, .int l6)] [.int 0] _ 0 0 _
          refine x_ifeq (tgt := 161) rfl rfl (ti_eq jk_0 jk_0 (br_t (by omega) ?_))
          exact jX.sub (jsb_c rfl (jsb_c rfl (jsb_c rfl (jsb_c rfl (jsb_c rfl (jsb_c rfl (jsb_c rfl jsb_n))))))) (ct_X12_findCount_r125d_161 hD hQ ih l1 l2 l3 l4 l5 l6 g0 h (jr_of rfl (by omega)) (jr_of rfl (by omega)) (jr_of rfl (by omega)) (jr_of rfl (by omega)) (jr_of rfl (by omega)) (jr_of rfl (by omega)) (jr_of rfl (by omega)) (jA_le C0 (by omega)) z0 (by omega) J Sm D)
        ·
          rw [if_pos (by omega)] at D
          refine x_iconst (v := 1) rfl ki_1 ?_
          refine x_goto (tgt := 46) rfl rfl ?_
          refine x_zret rfl rfl (by decide) ?_
          show jX m_X12_findCount 11 0 0 55 [(8, .int v4), (7, .int v3), (0, .ref 125), (1, .int l1), (2, .int l2), (3, .int l3), (4, .int l4), (5, .int l5), (6, .int l6)] [.int 1] _ 0 0 _
          refine x_ifeq (tgt := 161) rfl rfl (ti_eq jk_1 jk_0 (br_f (by omega) ?_))
          refine x_aloadn (x := 125) rfl rfl ?_
          refine z_getR (N := 92) (b := 126) 12 2 rfl f_12_8 rfl J rfl 16002 ⟨rfl, rfl⟩ rfl ?_
          refine x_iload (x := v3) rfl rfl ?_
          refine x_inst (N := m_X12_textAt) (As := [.int v3]) (st := [.ref 126]) (dx9 := 10) (mc := 0) (ms := 0) (host := "") rfl t_X12_textAt ⟨Or.inl q_12_676, s_X12_textAt⟩ rfl (by decide) rfl rfl ⟨by decide, by decide⟩ (jC.of rfl k_X12_textAt rfl ?_)
          show jX m_X12_textAt 10 0 0 0 [(0, .int v3)] [] _ 0 0 _
          refine x_sipush (v := 18820) rfl ks_18820 ?_
          refine x_sipush (v := 924) rfl ks_924 ?_
          refine x_iloadn (x := v3) rfl rfl ?_
          refine z_imul rfl jk_924 rfl (by omega) (fun v20 ev20 => ?_)
          refine z_iadd rfl jk_18820 rfl (by omega) (fun v21 ev21 => ?_)
          refine x_iret rfl rfl ?_
          show jX m_X12_findCount 11 0 0 67 [(8, .int v4), (7, .int v3), (0, .ref 125), (1, .int l1), (2, .int l2), (3, .int l3), (4, .int l4), (5, .int l5), (6, .int l6)] [.int v21, .ref 126] _ 0 0 _
          refine z_iald (N := 50660) rfl J rfl sg_126_18820_46540_924_0_1 rfl (by omega) (fun v22 qv22 ev22 => ?_)
          try rw [vrd qv22 (show (18820 + (924 * ((l6.toInt % 360) / 12))) = v21.toInt from by omega)] at D
          refine x_iload (x := l6) rfl rfl ?_
          refine x_sipush (v := 360) rfl ks_360 ?_
          refine z_idiv rfl rfl jk_360 (by omega) (by omega) (fun v23 ev23 => ?_)
          refine x_icne (tgt := 161) rfl rfl (ti_ne rfl rfl ⟨fun c24 => ?_, fun c24 => ?_⟩)
          ·
            rw [if_neg (by omega)] at D
            exact jX.sub (jsb_c rfl (jsb_c rfl (jsb_c rfl (jsb_c rfl (jsb_c rfl (jsb_c rfl (jsb_c rfl jsb_n))))))) (ct_X12_findCount_r125d_161 hD hQ ih l1 l2 l3 l4 l5 l6 g0 h (jr_of rfl (by omega)) (jr_of rfl (by omega)) (jr_of rfl (by omega)) (jr_of rfl (by omega)) (jr_of rfl (by omega)) (jr_of rfl (by omega)) (jr_of rfl (by omega)) (jA_le C0 (by omega)) z0 (by omega) J Sm D)
          ·
            rw [if_pos (by omega)] at D
            have xa := jA_hit2 (n := l5) (k := l6) Sm rfl C0 (by omega) (by omega) qv22 (by omega)
            refine x_aloadn (x := 125) rfl rfl ?_
            refine z_getR (N := 92) (b := 126) 12 2 rfl f_12_8 rfl J rfl 16002 ⟨rfl, rfl⟩ rfl ?_
            refine x_aloadn (x := 125) rfl rfl ?_
            refine x_iload (x := v3) rfl rfl ?_
            refine x_iload (x := v4) rfl rfl ?_
            refine x_inv (N := m_X12_clauseAt) (As := [.int v3, .int v4]) (b := 125) (st := [.ref 126]) (dx9 := 10) (mc := 0) (ms := 0) (host := "") 12 rfl t_X12_clauseAt ⟨Or.inl q_12_679, i_X12_clauseAt.1, i_X12_clauseAt.2⟩ ⟨by decide, rfl⟩ (congrArg Prod.fst (J.1.1 125 (12, 92) rfl)) rfl (by decide) rfl rfl ⟨by decide, by decide⟩ (jC.of rfl k_X12_clauseAt rfl ?_)
            show jX m_X12_clauseAt 10 0 0 0 [(0, .ref 125), (1, .int v3), (2, .int v4)] [] _ 0 0 _
            refine x_iloadn (x := v3) rfl rfl ?_
            refine x_inst (N := m_X12_textAt) (As := [.int v3]) (st := []) (dx9 := 9) (mc := 0) (ms := 0) (host := "") rfl t_X12_textAt ⟨Or.inl q_12_676, s_X12_textAt⟩ rfl (by decide) rfl rfl ⟨by decide, by decide⟩ (jC.of rfl k_X12_textAt rfl ?_)
            show jX m_X12_textAt 9 0 0 0 [(0, .int v3)] [] _ 0 0 _
            refine x_sipush (v := 18820) rfl ks_18820 ?_
            refine x_sipush (v := 924) rfl ks_924 ?_
            refine x_iloadn (x := v3) rfl rfl ?_
            refine z_imul rfl jk_924 rfl (by omega) (fun v25 ev25 => ?_)
            refine z_iadd rfl jk_18820 rfl (by omega) (fun v26 ev26 => ?_)
            refine x_iret rfl rfl ?_
            show jX m_X12_clauseAt 10 0 0 4 [(0, .ref 125), (1, .int v3), (2, .int v4)] [.int v26] _ 0 0 _
            refine x_iconst (v := 4) rfl ki_4 ?_
            refine z_iadd rfl rfl jk_4 (by omega) (fun v27 ev27 => ?_)
            refine x_bipush (v := 10) rfl kb_10 ?_
            refine x_iloadn (x := v4) rfl rfl ?_
            refine z_imul rfl jk_10 rfl (by omega) (fun v28 ev28 => ?_)
            refine z_iadd rfl rfl rfl (by omega) (fun v29 ev29 => ?_)
            refine x_iret rfl rfl ?_
            show jX m_X12_findCount 11 0 0 89 [(8, .int v4), (7, .int v3), (0, .ref 125), (1, .int l1), (2, .int l2), (3, .int l3), (4, .int l4), (5, .int l5), (6, .int l6)] [.int v29, .ref 126] _ 0 0 _
            refine z_iald0 (N := 50660) rfl J rfl rfl (by omega) (fun v30 qv30 => ?_)
            have ev30 := jfull v30
            try rw [vrd qv30 (show (((18820 + (924 * ((l6.toInt % 360) / 12))) + 4) + (10 * (l6.toInt % 12))) = v29.toInt from by omega)] at D
            refine x_iloadn (x := l1) rfl rfl ?_
            refine x_icne (tgt := 161) rfl rfl (ti_ne rfl rfl ⟨fun c31 => ?_, fun c31 => ?_⟩)
            ·
              rw [if_neg (by omega)] at D
              exact jX.sub (jsb_c rfl (jsb_c rfl (jsb_c rfl (jsb_c rfl (jsb_c rfl (jsb_c rfl (jsb_c rfl jsb_n))))))) (ct_X12_findCount_r125d_161 hD hQ ih l1 l2 l3 l4 l5 l6 g0 h (jr_of rfl (by omega)) (jr_of rfl (by omega)) (jr_of rfl (by omega)) (jr_of rfl (by omega)) (jr_of rfl (by omega)) (jr_of rfl (by omega)) (jr_of rfl (by omega)) (jA_le C0 (by omega)) z0 (by omega) J Sm D)
            ·
              rw [if_pos (by omega)] at D
              refine x_aloadn (x := 125) rfl rfl ?_
              refine z_getR (N := 92) (b := 126) 12 2 rfl f_12_8 rfl J rfl 16002 ⟨rfl, rfl⟩ rfl ?_
              refine x_aloadn (x := 125) rfl rfl ?_
              refine x_iload (x := v3) rfl rfl ?_
              refine x_iload (x := v4) rfl rfl ?_
              refine x_inv (N := m_X12_clauseAt) (As := [.int v3, .int v4]) (b := 125) (st := [.ref 126]) (dx9 := 10) (mc := 0) (ms := 0) (host := "") 12 rfl t_X12_clauseAt ⟨Or.inl q_12_679, i_X12_clauseAt.1, i_X12_clauseAt.2⟩ ⟨by decide, rfl⟩ (congrArg Prod.fst (J.1.1 125 (12, 92) rfl)) rfl (by decide) rfl rfl ⟨by decide, by decide⟩ (jC.of rfl k_X12_clauseAt rfl ?_)
              show jX m_X12_clauseAt 10 0 0 0 [(0, .ref 125), (1, .int v3), (2, .int v4)] [] _ 0 0 _
              refine x_iloadn (x := v3) rfl rfl ?_
              refine x_inst (N := m_X12_textAt) (As := [.int v3]) (st := []) (dx9 := 9) (mc := 0) (ms := 0) (host := "") rfl t_X12_textAt ⟨Or.inl q_12_676, s_X12_textAt⟩ rfl (by decide) rfl rfl ⟨by decide, by decide⟩ (jC.of rfl k_X12_textAt rfl ?_)
              show jX m_X12_textAt 9 0 0 0 [(0, .int v3)] [] _ 0 0 _
              refine x_sipush (v := 18820) rfl ks_18820 ?_
              refine x_sipush (v := 924) rfl ks_924 ?_
              refine x_iloadn (x := v3) rfl rfl ?_
              refine z_imul rfl jk_924 rfl (by omega) (fun v32 ev32 => ?_)
              refine z_iadd rfl jk_18820 rfl (by omega) (fun v33 ev33 => ?_)
              refine x_iret rfl rfl ?_
              show jX m_X12_clauseAt 10 0 0 4 [(0, .ref 125), (1, .int v3), (2, .int v4)] [.int v33] _ 0 0 _
              refine x_iconst (v := 4) rfl ki_4 ?_
              refine z_iadd rfl rfl jk_4 (by omega) (fun v34 ev34 => ?_)
              refine x_bipush (v := 10) rfl kb_10 ?_
              refine x_iloadn (x := v4) rfl rfl ?_
              refine z_imul rfl jk_10 rfl (by omega) (fun v35 ev35 => ?_)
              refine z_iadd rfl rfl rfl (by omega) (fun v36 ev36 => ?_)
              refine x_iret rfl rfl ?_
              show jX m_X12_findCount 11 0 0 106 [(8, .int v4), (7, .int v3), (0, .ref 125), (1, .int l1), (2, .int l2), (3, .int l3), (4, .int l4), (5, .int l5), (6, .int l6)] [.int v36, .ref 126] _ 0 0 _
              refine x_iconst (v := 1) rfl ki_1 ?_
              refine z_iadd rfl rfl jk_1 (by omega) (fun v37 ev37 => ?_)
              refine z_iald0 (N := 50660) rfl J rfl rfl (by omega) (fun v38 qv38 => ?_)
              have ev38 := jfull v38
              try rw [vrd qv38 (show ((((18820 + (924 * ((l6.toInt % 360) / 12))) + 4) + (10 * (l6.toInt % 12))) + 1) = v37.toInt from by omega)] at D
              refine x_iloadn (x := l2) rfl rfl ?_
              refine x_icne (tgt := 161) rfl rfl (ti_ne rfl rfl ⟨fun c39 => ?_, fun c39 => ?_⟩)
              ·
                rw [if_neg (by omega)] at D
                exact jX.sub (jsb_c rfl (jsb_c rfl (jsb_c rfl (jsb_c rfl (jsb_c rfl (jsb_c rfl (jsb_c rfl jsb_n))))))) (ct_X12_findCount_r125d_161 hD hQ ih l1 l2 l3 l4 l5 l6 g0 h (jr_of rfl (by omega)) (jr_of rfl (by omega)) (jr_of rfl (by omega)) (jr_of rfl (by omega)) (jr_of rfl (by omega)) (jr_of rfl (by omega)) (jr_of rfl (by omega)) (jA_le C0 (by omega)) z0 (by omega) J Sm D)
              ·
                rw [if_pos (by omega)] at D
                refine x_aloadn (x := 125) rfl rfl ?_
                refine x_iload (x := v3) rfl rfl ?_
                refine x_iload (x := v4) rfl rfl ?_
                refine x_iloadn (x := l3) rfl rfl ?_
                refine x_iload (x := l4) rfl rfl ?_
                try rw [show ((l6.toInt % 360) / 12) = v3.toInt from by omega] at D
                try rw [show (l6.toInt % 12) = v4.toInt from by omega] at D
                refine x_inv (N := m_X12_holdsFor) (As := [.int v3, .int v4, .int l3, .int l4]) (b := 125) (st := []) (dx9 := 10) (mc := 0) (ms := 0) (host := "") 12 rfl t_X12_holdsFor ⟨Or.inl q_12_749, i_X12_holdsFor.1, i_X12_holdsFor.2⟩ ⟨by decide, rfl⟩ (congrArg Prod.fst (J.1.1 125 (12, 92) rfl)) rfl (by decide) rfl rfl ⟨by decide, by decide⟩ (sf_X12_holdsFor_r125d (jr_of rfl (by omega)) (jr_of rfl (by omega)) (jr_of rfl (by omega)) (jr_of rfl (by omega)) (jcn qv15 (by omega) (by omega) (by omega)) hD J rfl  (fun v43 h ev43 J S40 X41 X42 => ?_))
                have Sm := jSm_tr rfl Sm S40
                try rw [X41] at D
                try rw [X42] at D
                show jX m_X12_findCount 11 0 0 124 [(8, .int v4), (7, .int v3), (0, .ref 125), (1, .int l1), (2, .int l2), (3, .int l3), (4, .int l4), (5, .int l5), (6, .int l6)] [.int v43] _ 0 0 _
                refine x_ifeq (tgt := 161) rfl rfl (ti_eq rfl jk_0 ⟨fun c44 => ?_, fun c44 => ?_⟩)
                ·
                  rw [if_pos (by omega)] at D
                  exact jX.sub (jsb_c rfl (jsb_c rfl (jsb_c rfl (jsb_c rfl (jsb_c rfl (jsb_c rfl (jsb_c rfl jsb_n))))))) (ct_X12_findCount_r125d_161 hD hQ ih l1 l2 l3 l4 l5 l6 g0 h (jr_of rfl (by omega)) (jr_of rfl (by omega)) (jr_of rfl (by omega)) (jr_of rfl (by omega)) (jr_of rfl (by omega)) (jr_of rfl (by omega)) (jr_of rfl (by omega)) (jA_le C0 (by omega)) (jmc S40 rfl z0) (by omega) J Sm D)
                ·
                  rw [if_neg (by omega)] at D
                  refine x_aloadn (x := 125) rfl rfl ?_
                  refine x_bipush (v := 12) rfl kb_12 ?_
                  refine x_iload (x := v3) rfl rfl ?_
                  refine z_imul rfl jk_12 rfl (by omega) (fun v45 ev45 => ?_)
                  refine x_iload (x := v4) rfl rfl ?_
                  refine z_iadd rfl rfl rfl (by omega) (fun v46 ev46 => ?_)
                  refine z_putI (N := 92) (w := v46.toInt) 12 65 rfl f_12_752 rfl (jfin_no TX12 RX12 92 rfl rfl) hD J Sm rfl rfl rfl (pw_125_65 (by omega)) rfl (fun h w47 J Sm => ?_)
                  rw [vwf w47 (show ((12 * v3.toInt) + v4.toInt) = v46.toInt from by omega)] at D
                  refine x_aloadn (x := 125) rfl rfl ?_
                  refine x_aloadn (x := 125) rfl rfl ?_
                  refine z_getLQ (N := 92) 12 63 rfl f_12_746 rfl J rfl (fun v48 qv48 => ?_)
                  have ev48 := jfullL v48
                  try rw [vrfL qv48] at D
                  refine z_putL (N := 92) 12 64 rfl f_12_755 rfl (jfin_no TX12 RX12 92 rfl rfl) hD J Sm rfl rfl rfl (fun h w49 J Sm => ?_)
                  rw [vwfL w49 (show v48.toInt = v48.toInt from by omega)] at D
                  refine x_aloadn (x := 125) rfl rfl ?_
                  refine z_getR (N := 92) (b := 155) 12 67 rfl f_12_123 rfl J rfl 16067 ⟨rfl, rfl⟩ rfl ?_
                  refine x_iload (x := l5) rfl rfl ?_
                  refine x_aloadn (x := 125) rfl rfl ?_
                  refine z_getLQ (N := 92) 12 63 rfl f_12_746 rfl J rfl (fun v50 qv50 => ?_)
                  have ev50 := jfullL v50
                  try rw [vrfL qv50] at D
                  refine z_last (N := 360) (l := 0) (u := 360) rfl hD J Sm rfl rfl rfl (by omega) rfl (fun h w51 J Sm => ?_)
                  rw [vwwL w51 (show l5.toInt = l5.toInt from by omega) (show v50.toInt = v50.toInt from by omega)] at D
                  refine z_iinc (x := l5) (lsx9 := fun v52 => [(5, .int v52), (8, .int v4), (7, .int v3), (0, .ref 125), (1, .int l1), (2, .int l2), (3, .int l3), (4, .int l4), (6, .int l6)]) rfl rfl rfl jko_1 (by omega) rfl (fun _ => rfl) (fun v52 ev52 => ?_)
                  try rw [show (l5.toInt + 1) = v52.toInt from by omega] at D
                  exact jX.sub (jsb_c rfl (jsb_c rfl (jsb_c rfl (jsb_c rfl (jsb_c rfl (jsb_c rfl (jsb_c rfl jsb_n))))))) (ct_X12_findCount_r125d_161 hD hQ ih l1 l2 l3 l4 v52 l6 g0 h (jr_of rfl (by omega)) (jr_of rfl (by omega)) (jr_of rfl (by omega)) (jr_of rfl (by omega)) (jr_of rfl (by omega)) (jr_of rfl (by omega)) (jr_of rfl (by omega)) (by have := xa.1; omega) (jml w51 (jml w49 (jmo w47 rfl (jmc S40 rfl z0)))) (by omega) J Sm D)
set_option maxRecDepth 100000 in
set_option maxHeartbeats 4000000 in
theorem sf_X12_findCount_r125d {Dy : jH → Prop} {h : jH} {Q : Option Value → jH → Prop} {dr : jW} {a1 : Int32} {a2 : Int32} {a3 : Int32} {a4 : Int32} (y1 : 3 ≤ a1.toInt ∧ a1.toInt ≤ 8) (y2 : 0 ≤ a2.toInt ∧ a2.toInt ≤ 2) (y3 : (-1) ≤ a3.toInt ∧ a3.toInt ≤ 599) (y4 : 0 ≤ a4.toInt ∧ a4.toInt ≤ 146399) (hD : jDk Dy) (J : jJ jSgM Dy h) (D : d_X12_findCount_r125d a1.toInt a2.toInt a3.toInt a4.toInt (vw h) = dr) (hQ : ∀ hx9, jJ jSgM Dy hx9 → jSm fp_X12_findCount_r125d h hx9 → dr = vw hx9 → Q none hx9) : jC m_X12_findCount 11 0 0 [.ref 125, .int a1, .int a2, .int a3, .int a4] h Q := by
  refine jC.of rfl k_X12_findCount rfl ?_
  have Sm := jSm_rf fp_X12_findCount_r125d h
  show jX m_X12_findCount 11 0 0 0 [(0, .ref 125), (1, .int a1), (2, .int a2), (3, .int a3), (4, .int a4)] [] _ 0 0 _
  unfold d_X12_findCount_r125d at D
  refine x_aloadn (x := 125) rfl rfl ?_
  refine x_iconst (v := (-1)) rfl ki_m1 ?_
  refine z_putI (N := 92) (w := (-1)) 12 65 rfl f_12_752 rfl (jfin_no TX12 RX12 92 rfl rfl) hD J Sm rfl rfl jk_m1 (pw_125_65 (by omega)) rfl (fun h w1 J Sm => ?_)
  rw [vwf w1 (show (-1) = ((-1) : Int32).toInt from by have := jk_m1; omega)] at D
  refine x_aloadn (x := 125) rfl rfl ?_
  refine x_lconst (v := 0) rfl kl_0 ?_
  refine z_putL (N := 92) 12 64 rfl f_12_755 rfl (jfin_no TX12 RX12 92 rfl rfl) hD J Sm rfl rfl rfl (fun h w2 J Sm => ?_)
  rw [vwfL w2 (show 0 = (0 : Int64).toInt from by have := jkl_0; omega)] at D
  refine x_aloadn (x := 125) rfl rfl ?_
  refine x_iconst (v := 0) rfl ki_0 ?_
  refine z_putI (N := 92) (w := 0) 12 66 rfl f_12_758 rfl (jfin_no TX12 RX12 92 rfl rfl) hD J Sm rfl rfl jk_0 (pw_125_66 trivial) rfl (fun h w3 J Sm => ?_)
  rw [vwf w3 (show 0 = (0 : Int32).toInt from by have := jk_0; omega)] at D
  refine x_iconst (v := 0) rfl ki_0 ?_
  refine x_istore (lsx9 := [(5, .int 0), (0, .ref 125), (1, .int a1), (2, .int a2), (3, .int a3), (4, .int a4)]) rfl rfl rfl ?_
  refine x_iconst (v := 0) rfl ki_0 ?_
  refine x_istore (lsx9 := [(6, .int 0), (5, .int 0), (0, .ref 125), (1, .int a1), (2, .int a2), (3, .int a3), (4, .int a4)]) rfl rfl rfl ?_
  exact jX.sub (jsb_c rfl (jsb_c rfl (jsb_c rfl (jsb_c rfl (jsb_c rfl (jsb_c rfl (jsb_c rfl jsb_n))))))) (ct_X12_findCount_r125d_21 hD hQ  721 a1 a2 a3 a4 0 0 0 h (by have := jk_0; omega) (jr_of rfl (by omega)) (jr_of rfl (by omega)) (jr_of rfl (by omega)) (jr_of rfl (by omega)) (jr_of jk_0 (by omega)) (jr_of jk_0 (by omega)) (jr_of jk_0 (by omega)) jA_00 (jmw w3) J Sm (by rw [jk_0]; exact D))
def fp_X12_findHouses_r125_c1d : jFp := [(162, 40, 80), (163, 40, 80), (164, 0, 40)]
set_option maxRecDepth 100000 in
set_option maxHeartbeats 4000000 in
theorem ct_X12_findHouses_r125_c1d_316 {Dy : jH → Prop} {h0 : jH} {Q : Option Value → jH → Prop} {dr : jW} {K75 : Int → Int → Int → jW → jW} {R75 : Int} (hD : jDk Dy) (hQ : ∀ hx9, jJ jSgM Dy hx9 → jSm fp_X12_findHouses_r125_c1d h0 hx9 → dr = vw hx9 → Q none hx9) (k75 : ∀ (l1 : Int32) (l3 : Int32) (l4 : Int32) (h : jH), 40 - l4.toInt < R75 → 0 ≤ l1.toInt ∧ l1.toInt ≤ 146399 → 0 ≤ l3.toInt ∧ l3.toInt ≤ 40 → 0 ≤ l4.toInt ∧ l4.toInt ≤ 40 → jJ jSgM Dy h → jSm fp_X12_findHouses_r125_c1d h0 h → K75 l1.toInt l3.toInt l4.toInt (vw h) = dr → jX m_X12_findHouses 2 0 0 75 [(0, .ref 125), (1, .int l1), (2, .int 1), (3, .int l3), (4, .int l4)] [] h 0 0 Q) : ∀ (l1 : Int32) (l3 : Int32) (l4 : Int32) (s0 : Int32) (s1 : Int32) (h : jH), 0 ≤ l1.toInt ∧ l1.toInt ≤ 146399 → 1 ≤ l3.toInt ∧ l3.toInt ≤ 40 → 0 ≤ l4.toInt ∧ l4.toInt ≤ 39 → (-1) ≤ s0.toInt ∧ s0.toInt ≤ 599 → 40 ≤ s1.toInt ∧ s1.toInt ≤ 79 → 40 - l4.toInt ≤ R75 → jJ jSgM Dy h → jSm fp_X12_findHouses_r125_c1d h0 h → d_X12_findHouses_r125_c1d_316 K75  l1.toInt l3.toInt l4.toInt s0.toInt s1.toInt (vw h) = dr → jX m_X12_findHouses 2 0 0 316 [(0, .ref 125), (1, .int l1), (2, .int 1), (3, .int l3), (4, .int l4)] [.int s0, .int s1, .ref 163] h 0 0 Q := by
  intro l1 l3 l4 s0 s1 h y0 y1 y2 y3 y4  m75 J Sm D
  unfold d_X12_findHouses_r125_c1d_316 at D
  refine z_iast (N := 80) (l := 40) (u := 80) (w := s0.toInt) rfl hD J Sm rfl rfl rfl (by omega) rfl (wr_163_40 (by omega) (fun q1 q2 q3 q4 => by omega)) rfl (fun h w1 J Sm => ?_)
  rw [vww w1 (show s1.toInt = s1.toInt from by omega) (show s0.toInt = s0.toInt from by omega)] at D
  refine z_iinc (x := l4) (lsx9 := fun v2 => [(4, .int v2), (0, .ref 125), (1, .int l1), (2, .int 1), (3, .int l3)]) rfl rfl rfl jko_1 (by omega) rfl (fun _ => rfl) (fun v2 ev2 => ?_)
  refine x_goto (tgt := 75) rfl rfl ?_
  try rw [show (l4.toInt + 1) = v2.toInt from by omega] at D
  exact jX.sub (jsb_c rfl (jsb_c rfl (jsb_c rfl (jsb_c rfl (jsb_c rfl jsb_n))))) (k75 l1 l3 v2 h (by omega) (jr_of rfl (by omega)) (jr_of rfl (by omega)) (jr_of rfl (by omega)) J Sm D)
set_option maxRecDepth 100000 in
set_option maxHeartbeats 4000000 in
theorem ct_X12_findHouses_r125_c1d_100316 {Dy : jH → Prop} {h0 : jH} {Q : Option Value → jH → Prop} {dr : jW} {K75 : Int → Int → Int → jW → jW} {R75 : Int} (hD : jDk Dy) (hQ : ∀ hx9, jJ jSgM Dy hx9 → jSm fp_X12_findHouses_r125_c1d h0 hx9 → dr = vw hx9 → Q none hx9) (k75 : ∀ (l1 : Int32) (l3 : Int32) (l4 : Int32) (h : jH), 40 - l4.toInt < R75 → 0 ≤ l1.toInt ∧ l1.toInt ≤ 146399 → 0 ≤ l3.toInt ∧ l3.toInt ≤ 40 → 0 ≤ l4.toInt ∧ l4.toInt ≤ 40 → jJ jSgM Dy h → jSm fp_X12_findHouses_r125_c1d h0 h → K75 l1.toInt l3.toInt l4.toInt (vw h) = dr → jX m_X12_findHouses 2 0 0 75 [(0, .ref 125), (1, .int l1), (2, .int 1), (3, .int l3), (4, .int l4)] [] h 0 0 Q) : ∀ (l1 : Int32) (l3 : Int32) (l4 : Int32) (s1 : Int32) (h : jH), 0 ≤ l1.toInt ∧ l1.toInt ≤ 146399 → 1 ≤ l3.toInt ∧ l3.toInt ≤ 40 → 0 ≤ l4.toInt ∧ l4.toInt ≤ 39 → 40 ≤ s1.toInt ∧ s1.toInt ≤ 79 → 40 - l4.toInt ≤ R75 → jJ jSgM Dy h → jSm fp_X12_findHouses_r125_c1d h0 h → d_X12_findHouses_r125_c1d_100316 K75  l1.toInt l3.toInt l4.toInt s1.toInt (vw h) = dr → jX m_X12_findHouses 2 0 0 316 [(0, .ref 125), (1, .int l1), (2, .int 1), (3, .int l3), (4, .int l4)] [.int (-1), .int s1, .ref 163] h 0 0 Q := by
  intro l1 l3 l4 s1 h y0 y1 y2 y3  m75 J Sm D
  unfold d_X12_findHouses_r125_c1d_100316 at D
  refine z_iast (N := 80) (l := 40) (u := 80) (w := (-1)) rfl hD J Sm rfl rfl rfl (by omega) jk_m1 (wr_163_40 (by omega) (fun q1 q2 q3 q4 => by omega)) rfl (fun h w1 J Sm => ?_)
  rw [vww w1 (show s1.toInt = s1.toInt from by omega) (show (-1) = ((-1) : Int32).toInt from by have := jk_m1; omega)] at D
  refine z_iinc (x := l4) (lsx9 := fun v2 => [(4, .int v2), (0, .ref 125), (1, .int l1), (2, .int 1), (3, .int l3)]) rfl rfl rfl jko_1 (by omega) rfl (fun _ => rfl) (fun v2 ev2 => ?_)
  refine x_goto (tgt := 75) rfl rfl ?_
  try rw [show (l4.toInt + 1) = v2.toInt from by omega] at D
  exact jX.sub (jsb_c rfl (jsb_c rfl (jsb_c rfl (jsb_c rfl (jsb_c rfl jsb_n))))) (k75 l1 l3 v2 h (by omega) (jr_of rfl (by omega)) (jr_of rfl (by omega)) (jr_of rfl (by omega)) J Sm D)
set_option maxRecDepth 100000 in
set_option maxHeartbeats 4000000 in
theorem ct_X12_findHouses_r125_c1d_293 {Dy : jH → Prop} {h0 : jH} {Q : Option Value → jH → Prop} {dr : jW} {K75 : Int → Int → Int → jW → jW} {R75 : Int} (hD : jDk Dy) (hQ : ∀ hx9, jJ jSgM Dy hx9 → jSm fp_X12_findHouses_r125_c1d h0 hx9 → dr = vw hx9 → Q none hx9) (k75 : ∀ (l1 : Int32) (l3 : Int32) (l4 : Int32) (h : jH), 40 - l4.toInt < R75 → 0 ≤ l1.toInt ∧ l1.toInt ≤ 146399 → 0 ≤ l3.toInt ∧ l3.toInt ≤ 40 → 0 ≤ l4.toInt ∧ l4.toInt ≤ 40 → jJ jSgM Dy h → jSm fp_X12_findHouses_r125_c1d h0 h → K75 l1.toInt l3.toInt l4.toInt (vw h) = dr → jX m_X12_findHouses 2 0 0 75 [(0, .ref 125), (1, .int l1), (2, .int 1), (3, .int l3), (4, .int l4)] [] h 0 0 Q) : ∀ (l1 : Int32) (l3 : Int32) (l4 : Int32) (s0 : Int32) (h : jH), 0 ≤ l1.toInt ∧ l1.toInt ≤ 146399 → 1 ≤ l3.toInt ∧ l3.toInt ≤ 40 → 0 ≤ l4.toInt ∧ l4.toInt ≤ 39 → 40 ≤ s0.toInt ∧ s0.toInt ≤ 79 → 40 - l4.toInt ≤ R75 → jJ jSgM Dy h → jSm fp_X12_findHouses_r125_c1d h0 h → d_X12_findHouses_r125_c1d_293 K75  l1.toInt l3.toInt l4.toInt s0.toInt (vw h) = dr → jX m_X12_findHouses 2 0 0 293 [(0, .ref 125), (1, .int l1), (2, .int 1), (3, .int l3), (4, .int l4)] [.int s0, .ref 163] h 0 0 Q := by
  intro l1 l3 l4 s0 h y0 y1 y2 y3  m75 J Sm D
  unfold d_X12_findHouses_r125_c1d_293 at D
  refine x_iconst (v := (-1)) rfl ki_m1 ?_
  refine x_goto (tgt := 316) rfl rfl ?_
  exact jX.sub (jsb_c rfl (jsb_c rfl (jsb_c rfl (jsb_c rfl (jsb_c rfl jsb_n))))) (ct_X12_findHouses_r125_c1d_100316 hD hQ k75 l1 l3 l4 s0 h (jr_of rfl (by omega)) (jr_of rfl (by omega)) (jr_of rfl (by omega)) (jr_of rfl (by omega)) (by omega) J Sm D)
set_option maxRecDepth 100000 in
set_option maxHeartbeats 4000000 in
theorem ct_X12_findHouses_r125_c1d_208 {Dy : jH → Prop} {h0 : jH} {Q : Option Value → jH → Prop} {dr : jW} {K75 : Int → Int → Int → jW → jW} {K93 : Int → Int → Int → Int → Int → jW → jW} {R75 : Int} {R93 : Int} (hD : jDk Dy) (hQ : ∀ hx9, jJ jSgM Dy hx9 → jSm fp_X12_findHouses_r125_c1d h0 hx9 → dr = vw hx9 → Q none hx9) (k75 : ∀ (l1 : Int32) (l3 : Int32) (l4 : Int32) (h : jH), 40 - l4.toInt < R75 → 0 ≤ l1.toInt ∧ l1.toInt ≤ 146399 → 0 ≤ l3.toInt ∧ l3.toInt ≤ 40 → 0 ≤ l4.toInt ∧ l4.toInt ≤ 40 → jJ jSgM Dy h → jSm fp_X12_findHouses_r125_c1d h0 h → K75 l1.toInt l3.toInt l4.toInt (vw h) = dr → jX m_X12_findHouses 2 0 0 75 [(0, .ref 125), (1, .int l1), (2, .int 1), (3, .int l3), (4, .int l4)] [] h 0 0 Q) (k93 : ∀ (l1 : Int32) (l3 : Int32) (l4 : Int32) (l5 : Int32) (l6 : Int32) (h : jH), 40 - l6.toInt < R93 → 0 ≤ l1.toInt ∧ l1.toInt ≤ 146399 → 1 ≤ l3.toInt ∧ l3.toInt ≤ 40 → 0 ≤ l4.toInt ∧ l4.toInt ≤ 39 → 0 ≤ l6.toInt ∧ l6.toInt ≤ 40 → 40 - l4.toInt ≤ R75 → jJ jSgM Dy h → jSm fp_X12_findHouses_r125_c1d h0 h → K93 l1.toInt l3.toInt l4.toInt l5.toInt l6.toInt (vw h) = dr → jX m_X12_findHouses 2 0 0 93 [(0, .ref 125), (1, .int l1), (2, .int 1), (3, .int l3), (4, .int l4), (5, .int l5), (6, .int l6)] [] h 0 0 Q) : ∀ (l1 : Int32) (l3 : Int32) (l4 : Int32) (l5 : Int32) (l6 : Int32) (h : jH), 0 ≤ l1.toInt ∧ l1.toInt ≤ 146399 → 1 ≤ l3.toInt ∧ l3.toInt ≤ 40 → 0 ≤ l4.toInt ∧ l4.toInt ≤ 39 → 0 ≤ l6.toInt ∧ l6.toInt ≤ 39 → 40 - l4.toInt ≤ R75 → 40 - l6.toInt ≤ R93 → jJ jSgM Dy h → jSm fp_X12_findHouses_r125_c1d h0 h → d_X12_findHouses_r125_c1d_208 K75 K93  l1.toInt l3.toInt l4.toInt l5.toInt l6.toInt (vw h) = dr → jX m_X12_findHouses 2 0 0 208 [(0, .ref 125), (1, .int l1), (2, .int 1), (3, .int l3), (4, .int l4), (5, .int l5), (6, .int l6)] [] h 0 0 Q := by
  intro l1 l3 l4 l5 l6 h y0 y1 y2 y3  m75 m93 J Sm D
  have el5 := jfull l5
  unfold d_X12_findHouses_r125_c1d_208 at D
  refine z_iinc (x := l6) (lsx9 := fun v1 => [(6, .int v1), (0, .ref 125), (1, .int l1), (2, .int 1), (3, .int l3), (4, .int l4), (5, .int l5)]) rfl rfl rfl jko_1 (by omega) rfl (fun _ => rfl) (fun v1 ev1 => ?_)
  refine x_goto (tgt := 93) rfl rfl ?_
  try rw [show (l6.toInt + 1) = v1.toInt from by omega] at D
  exact jX.sub (jsb_c rfl (jsb_c rfl (jsb_c rfl (jsb_c rfl (jsb_c rfl (jsb_c rfl (jsb_c rfl jsb_n))))))) (k93 l1 l3 l4 l5 v1 h (by omega) (jr_of rfl (by omega)) (jr_of rfl (by omega)) (jr_of rfl (by omega)) (jr_of rfl (by omega)) (by omega) J Sm D)
set_option maxRecDepth 100000 in
set_option maxHeartbeats 4000000 in
theorem ct_X12_findHouses_r125_c1d_93 {Dy : jH → Prop} {h0 : jH} {Q : Option Value → jH → Prop} {dr : jW} {K75 : Int → Int → Int → jW → jW} {R75 : Int} (hD : jDk Dy) (hQ : ∀ hx9, jJ jSgM Dy hx9 → jSm fp_X12_findHouses_r125_c1d h0 hx9 → dr = vw hx9 → Q none hx9) (k75 : ∀ (l1 : Int32) (l3 : Int32) (l4 : Int32) (h : jH), 40 - l4.toInt < R75 → 0 ≤ l1.toInt ∧ l1.toInt ≤ 146399 → 0 ≤ l3.toInt ∧ l3.toInt ≤ 40 → 0 ≤ l4.toInt ∧ l4.toInt ≤ 40 → jJ jSgM Dy h → jSm fp_X12_findHouses_r125_c1d h0 h → K75 l1.toInt l3.toInt l4.toInt (vw h) = dr → jX m_X12_findHouses 2 0 0 75 [(0, .ref 125), (1, .int l1), (2, .int 1), (3, .int l3), (4, .int l4)] [] h 0 0 Q) : ∀ r : Nat, ∀ (l1 : Int32) (l3 : Int32) (l4 : Int32) (l5 : Int32) (l6 : Int32) (h : jH), 40 - l6.toInt < (r : Int) → 0 ≤ l1.toInt ∧ l1.toInt ≤ 146399 → 1 ≤ l3.toInt ∧ l3.toInt ≤ 40 → 0 ≤ l4.toInt ∧ l4.toInt ≤ 39 → 0 ≤ l6.toInt ∧ l6.toInt ≤ 40 → 40 - l4.toInt ≤ R75 → jJ jSgM Dy h → jSm fp_X12_findHouses_r125_c1d h0 h → d_X12_findHouses_r125_c1d_93 K75 r l1.toInt l3.toInt l4.toInt l5.toInt l6.toInt (vw h) = dr → jX m_X12_findHouses 2 0 0 93 [(0, .ref 125), (1, .int l1), (2, .int 1), (3, .int l3), (4, .int l4), (5, .int l5), (6, .int l6)] [] h 0 0 Q := by
  intro r
  induction r with
  | zero =>
    intro l1 l3 l4 l5 l6 h hm y0 y1 y2 y3  m75 J Sm D
    exfalso
    have el5 := jfull l5
    omega
  | succ r ih =>
    intro l1 l3 l4 l5 l6 h hm y0 y1 y2 y3  m75 J Sm D
    have el5 := jfull l5
    rw [d_X12_findHouses_r125_c1d_93.eq_2] at D
    refine x_iload (x := l6) rfl rfl ?_
    refine x_aloadn (x := 125) rfl rfl ?_
    refine z_getR (N := 92) (b := 126) 12 2 rfl f_12_8 rfl J rfl 16002 ⟨rfl, rfl⟩ rfl ?_
    refine x_bipush (v := 9) rfl kb_9 ?_
    refine z_iald (N := 50660) rfl J rfl sg_126_9_10_1_0_1 jk_9 (by omega) (fun v1 qv1 ev1 => ?_)
    try rw [vrn (n := 9) (by decide) qv1] at D
    refine x_icge (tgt := 214) rfl rfl (ti_ge rfl rfl ⟨fun c2 => ?_, fun c2 => ?_⟩)
    ·
      rw [if_pos (by omega)] at D
      refine x_aloadn (x := 125) rfl rfl ?_
      refine z_getR (N := 92) (b := 162) 12 77 rfl f_12_144 rfl J rfl 16077 ⟨rfl, rfl⟩ rfl ?_
      refine x_bipush (v := 40) rfl kb_40 ?_
      refine x_iloadn (x := 1) rfl rfl ?_
      refine y_imul (v := 40) rfl (by decide) ?_
      refine x_iload (x := l4) rfl rfl ?_
      refine z_iadd rfl jk_40 rfl (by omega) (fun v3 ev3 => ?_)
      refine x_iload (x := l5) rfl rfl ?_
      refine z_iast (N := 80) (l := 40) (u := 80) (w := l5.toInt) rfl hD J Sm rfl rfl rfl (by omega) rfl (wr_162_40 (by omega)) rfl (fun h w4 J Sm => ?_)
      rw [vww w4 (show (40 + l4.toInt) = v3.toInt from by omega) (show l5.toInt = l5.toInt from by omega)] at D
      refine x_aloadn (x := 125) rfl rfl ?_
      refine x_ldcw (v := 47900) rfl z_12_808 ?_
      refine x_aloadn (x := 125) rfl rfl ?_
      refine z_getR (N := 92) (b := 126) 12 2 rfl f_12_8 rfl J rfl 16002 ⟨rfl, rfl⟩ rfl ?_
      refine x_bipush (v := 10) rfl kb_10 ?_
      refine z_iald (N := 50660) rfl J rfl sg_126_10_11_1_0_1 jk_10 (by omega) (fun v5 qv5 ev5 => ?_)
      try rw [vrn (n := 10) (by decide) (jmb_w w4 qv5 rfl)] at D
      refine x_iload (x := l4) rfl rfl ?_
      refine x_iloadn (x := l1) rfl rfl ?_
      refine x_inv (N := m_X12_latest) (As := [.int 47900, .int v5, .int l4, .int l1]) (b := 125) (st := []) (dx9 := 1) (mc := 0) (ms := 0) (host := "") 12 rfl t_X12_latest ⟨Or.inl q_12_801, i_X12_latest.1, i_X12_latest.2⟩ ⟨by decide, rfl⟩ (congrArg Prod.fst (J.1.1 125 (12, 92) rfl)) rfl (by decide) rfl rfl ⟨by decide, by decide⟩ (sf_X12_latest_r125_c47900d (jr_of rfl (by omega)) (jr_of rfl (by omega)) (jr_of rfl (by omega)) hD J rfl  (fun v9 h ev9 J S6 X7 X8 => ?_))
      have Sm := jSm_tr rfl Sm S6
      try rw [X7] at D
      try rw [← X8] at D
      show jX m_X12_findHouses 2 0 0 245 [(0, .ref 125), (1, .int l1), (2, .int 1), (3, .int l3), (4, .int l4), (5, .int l5), (6, .int l6)] [.int v9] _ 0 0 _
      refine x_istore (lsx9 := [(6, .int v9), (0, .ref 125), (1, .int l1), (2, .int 1), (3, .int l3), (4, .int l4), (5, .int l5)]) rfl rfl rfl ?_
      refine x_aloadn (x := 125) rfl rfl ?_
      refine x_iload (x := l4) rfl rfl ?_
      refine x_inv (N := m_X12_splitOf) (As := [.int l4]) (b := 125) (st := []) (dx9 := 1) (mc := 0) (ms := 0) (host := "") 12 rfl t_X12_splitOf ⟨Or.inl q_12_805, i_X12_splitOf.1, i_X12_splitOf.2⟩ ⟨by decide, rfl⟩ (congrArg Prod.fst (J.1.1 125 (12, 92) rfl)) rfl (by decide) rfl rfl ⟨by decide, by decide⟩ (sf_X12_splitOf_r125d (jr_of rfl (by omega)) hD J rfl  (fun v13 h ev13 xv13 J S10 X11 X12 => ?_))
      have Sm := jSm_tr rfl Sm S10
      try rw [X11] at D
      try rw [← X12] at D
      show jX m_X12_findHouses 2 0 0 253 [(6, .int v9), (0, .ref 125), (1, .int l1), (2, .int 1), (3, .int l3), (4, .int l4), (5, .int l5)] [.int v13] _ 0 0 _
      refine x_istore (lsx9 := [(7, .int v13), (6, .int v9), (0, .ref 125), (1, .int l1), (2, .int 1), (3, .int l3), (4, .int l4), (5, .int l5)]) rfl rfl rfl ?_
      refine x_aloadn (x := 125) rfl rfl ?_
      refine z_getR (N := 92) (b := 163) 12 78 rfl f_12_147 rfl J rfl 16078 ⟨rfl, rfl⟩ rfl ?_
      refine x_bipush (v := 40) rfl kb_40 ?_
      refine x_iloadn (x := 1) rfl rfl ?_
      refine y_imul (v := 40) rfl (by decide) ?_
      refine x_iload (x := l4) rfl rfl ?_
      refine z_iadd rfl jk_40 rfl (by omega) (fun v14 ev14 => ?_)
      refine x_iload (x := v9) rfl rfl ?_
      refine x_iflt (tgt := 281) rfl rfl (ti_lt rfl jk_0 ⟨fun c15 => ?_, fun c15 => ?_⟩)
      ·
        rw [if_pos (by omega)] at D
        refine x_iload (x := v9) rfl rfl ?_
        refine x_iconst (v := (-1)) rfl ki_m1 ?_
        refine x_iceq (tgt := 293) rfl rfl (ti_eq rfl jk_m1 ⟨fun c16 => ?_, fun c16 => ?_⟩)
        ·
          rw [if_pos (by omega)] at D
          try rw [show (40 + l4.toInt) = v14.toInt from by omega] at D
          exact jX.sub (jsb_c rfl (jsb_c rfl (jsb_c rfl (jsb_c rfl (jsb_c rfl jsb_n))))) (ct_X12_findHouses_r125_c1d_293 hD hQ k75 l1 l3 l4 v14 h (jr_of rfl (by omega)) (jr_of rfl (by omega)) (jr_of rfl (by omega)) (jr_of rfl (by omega)) (by omega) J Sm D)
        ·
          rw [if_neg (by omega)] at D
          refine x_iload (x := v13) rfl rfl ?_
          refine x_iconst (v := (-1)) rfl ki_m1 ?_
          refine x_icne (tgt := 297) rfl rfl (ti_ne rfl jk_m1 ⟨fun c17 => ?_, fun c17 => ?_⟩)
          ·
            rw [if_neg (by omega)] at D
            refine x_aloadn (x := 125) rfl rfl ?_
            refine z_getR (N := 92) (b := 163) 12 78 rfl f_12_147 rfl J rfl 16078 ⟨rfl, rfl⟩ rfl ?_
            refine x_bipush (v := 40) rfl kb_40 ?_
            refine x_iloadn (x := 1) rfl rfl ?_
            refine y_imul (v := 40) rfl (by decide) ?_
            refine x_aloadn (x := 125) rfl rfl ?_
            refine z_getR (N := 92) (b := 126) 12 2 rfl f_12_8 rfl J rfl 16002 ⟨rfl, rfl⟩ rfl ?_
            refine x_iload (x := v13) rfl rfl ?_
            refine x_iconst (v := 1) rfl ki_1 ?_
            refine z_iadd rfl rfl jk_1 (by omega) (fun v18 ev18 => ?_)
            refine z_iald (N := 50660) rfl J rfl sg_126_47660_47900_6_1_2 rfl (by omega) (fun v19 qv19 ev19 => ?_)
            try rw [vrd (jmb_w w4 (jmb_c S6 (jmb_c S10 qv19 rfl) rfl) rfl) (show (v13.toInt + 1) = v18.toInt from by omega)] at D
            refine z_iadd rfl jk_40 rfl (by omega) (fun v20 ev20 => ?_)
            refine z_iald (N := 80) rfl J rfl sg_163_0_80_1_0_1 rfl (by omega) (fun v21 qv21 ev21 => ?_)
            try rw [vrd (jmb_w w4 (jmb_c S6 (jmb_c S10 qv21 rfl) rfl) rfl) (show (40 + v19.toInt) = v20.toInt from by omega)] at D
            try rw [show (40 + l4.toInt) = v14.toInt from by omega] at D
            exact jX.sub (jsb_c rfl (jsb_c rfl (jsb_c rfl (jsb_c rfl (jsb_c rfl jsb_n))))) (ct_X12_findHouses_r125_c1d_316 hD hQ k75 l1 l3 l4 v21 v14 h (jr_of rfl (by omega)) (jr_of rfl (by omega)) (jr_of rfl (by omega)) (jr_of rfl (by omega)) (jr_of rfl (by omega)) (by omega) J Sm D)
          ·
            rw [if_pos (by omega)] at D
            try rw [show (40 + l4.toInt) = v14.toInt from by omega] at D
            exact jX.sub (jsb_c rfl (jsb_c rfl (jsb_c rfl (jsb_c rfl (jsb_c rfl jsb_n))))) (ct_X12_findHouses_r125_c1d_293 hD hQ k75 l1 l3 l4 v14 h (jr_of rfl (by omega)) (jr_of rfl (by omega)) (jr_of rfl (by omega)) (jr_of rfl (by omega)) (by omega) J Sm D)
      ·
        rw [if_neg (by omega)] at D
        refine x_aloadn (x := 125) rfl rfl ?_
        refine z_getR (N := 92) (b := 139) 12 29 rfl f_12_72 rfl J rfl 16029 ⟨rfl, rfl⟩ rfl ?_
        refine x_iload (x := v9) rfl rfl ?_
        refine z_iald (N := 600) rfl J rfl sg_139_0_600_1_0_1 rfl (by omega) (fun v22 qv22 ev22 => ?_)
        try rw [vrd (jmb_w w4 (jmb_c S6 (jmb_c S10 qv22 rfl) rfl) rfl) (show v9.toInt = v9.toInt from by omega)] at D
        refine x_goto (tgt := 316) rfl rfl ?_
        try rw [show (40 + l4.toInt) = v14.toInt from by omega] at D
        exact jX.sub (jsb_c rfl (jsb_c rfl (jsb_c rfl (jsb_c rfl (jsb_c rfl jsb_n))))) (ct_X12_findHouses_r125_c1d_316 hD hQ k75 l1 l3 l4 v22 v14 h (jr_of rfl (by omega)) (jr_of rfl (by omega)) (jr_of rfl (by omega)) (jr_of rfl (by omega)) (jr_of rfl (by omega)) (by omega) J Sm D)
    ·
      rw [if_neg (by omega)] at D
      refine x_ldcw (v := 47660) rfl z_12_799 ?_
      refine x_bipush (v := 6) rfl kb_6 ?_
      refine x_iload (x := l6) rfl rfl ?_
      refine z_imul rfl jk_6 rfl (by omega) (fun v23 ev23 => ?_)
      refine z_iadd rfl jk_47660 rfl (by omega) (fun v24 ev24 => ?_)
      refine x_istore (lsx9 := [(7, .int v24), (0, .ref 125), (1, .int l1), (2, .int 1), (3, .int l3), (4, .int l4), (5, .int l5), (6, .int l6)]) rfl rfl rfl ?_
      refine x_aloadn (x := 125) rfl rfl ?_
      refine z_getR (N := 92) (b := 126) 12 2 rfl f_12_8 rfl J rfl 16002 ⟨rfl, rfl⟩ rfl ?_
      refine x_iload (x := v24) rfl rfl ?_
      refine x_iconst (v := 1) rfl ki_1 ?_
      refine z_iadd rfl rfl jk_1 (by omega) (fun v25 ev25 => ?_)
      refine z_iald (N := 50660) rfl J rfl sg_126_47660_47900_6_1_2 rfl (by omega) (fun v26 qv26 ev26 => ?_)
      try rw [vrd qv26 (show ((47660 + (6 * l6.toInt)) + 1) = v25.toInt from by omega)] at D
      refine x_iload (x := l4) rfl rfl ?_
      refine x_icne (tgt := 208) rfl rfl (ti_ne rfl rfl ⟨fun c27 => ?_, fun c27 => ?_⟩)
      ·
        rw [if_neg (by omega)] at D
        exact jX.sub (jsb_c rfl (jsb_c rfl (jsb_c rfl (jsb_c rfl (jsb_c rfl (jsb_c rfl (jsb_c rfl jsb_n))))))) (ct_X12_findHouses_r125_c1d_208 hD hQ k75 ih l1 l3 l4 l5 l6 h (jr_of rfl (by omega)) (jr_of rfl (by omega)) (jr_of rfl (by omega)) (jr_of rfl (by omega)) (by omega) (by omega) J Sm D)
      ·
        rw [if_pos (by omega)] at D
        refine x_aloadn (x := 125) rfl rfl ?_
        refine z_getR (N := 92) (b := 126) 12 2 rfl f_12_8 rfl J rfl 16002 ⟨rfl, rfl⟩ rfl ?_
        refine x_iload (x := v24) rfl rfl ?_
        refine x_iconst (v := 4) rfl ki_4 ?_
        refine z_iadd rfl rfl jk_4 (by omega) (fun v28 ev28 => ?_)
        refine z_iald (N := 50660) rfl J rfl sg_126_47660_47900_6_4_5 rfl (by omega) (fun v29 qv29 ev29 => ?_)
        try rw [vrd qv29 (show ((47660 + (6 * l6.toInt)) + 4) = v28.toInt from by omega)] at D
        refine x_iloadn (x := l1) rfl rfl ?_
        refine x_icgt (tgt := 208) rfl rfl (ti_gt rfl rfl ⟨fun c30 => ?_, fun c30 => ?_⟩)
        ·
          rw [if_pos (by omega)] at D
          exact jX.sub (jsb_c rfl (jsb_c rfl (jsb_c rfl (jsb_c rfl (jsb_c rfl (jsb_c rfl (jsb_c rfl jsb_n))))))) (ct_X12_findHouses_r125_c1d_208 hD hQ k75 ih l1 l3 l4 l5 l6 h (jr_of rfl (by omega)) (jr_of rfl (by omega)) (jr_of rfl (by omega)) (jr_of rfl (by omega)) (by omega) (by omega) J Sm D)
        ·
          rw [if_neg (by omega)] at D
          refine x_aloadn (x := 125) rfl rfl ?_
          refine z_getR (N := 92) (b := 126) 12 2 rfl f_12_8 rfl J rfl 16002 ⟨rfl, rfl⟩ rfl ?_
          refine x_iload (x := v24) rfl rfl ?_
          refine x_iconst (v := 5) rfl ki_5 ?_
          refine z_iadd rfl rfl jk_5 (by omega) (fun v31 ev31 => ?_)
          refine z_iald (N := 50660) rfl J rfl sg_126_47660_47900_6_5_6 rfl (by omega) (fun v32 qv32 ev32 => ?_)
          try rw [vrd qv32 (show ((47660 + (6 * l6.toInt)) + 5) = v31.toInt from by omega)] at D
          refine x_aloadn (x := 125) rfl rfl ?_
          refine z_getI (N := 92) 12 28 rfl f_12_377 rfl J rfl sg_125_28_29_1_0_1 (fun v33 qv33 ev33 => ?_)
          try rw [vrf qv33] at D
          refine x_icgt (tgt := 208) rfl rfl (ti_gt rfl rfl ⟨fun c34 => ?_, fun c34 => ?_⟩)
          ·
            rw [if_pos (by omega)] at D
            exact jX.sub (jsb_c rfl (jsb_c rfl (jsb_c rfl (jsb_c rfl (jsb_c rfl (jsb_c rfl (jsb_c rfl jsb_n))))))) (ct_X12_findHouses_r125_c1d_208 hD hQ k75 ih l1 l3 l4 l5 l6 h (jr_of rfl (by omega)) (jr_of rfl (by omega)) (jr_of rfl (by omega)) (jr_of rfl (by omega)) (by omega) (by omega) J Sm D)
          ·
            rw [if_neg (by omega)] at D
            refine x_iload (x := l5) rfl rfl ?_
            refine z_i2l rfl rfl (fun v35 ev35 => ?_)
            refine x_aloadn (x := 125) rfl rfl ?_
            refine z_getR (N := 92) (b := 126) 12 2 rfl f_12_8 rfl J rfl 16002 ⟨rfl, rfl⟩ rfl ?_
            refine x_iload (x := v24) rfl rfl ?_
            refine x_iconst (v := 2) rfl ki_2 ?_
            refine z_iadd rfl rfl jk_2 (by omega) (fun v36 ev36 => ?_)
            refine z_iald (N := 50660) rfl J rfl sg_126_47660_47900_6_2_3 rfl (by omega) (fun v37 qv37 ev37 => ?_)
            try rw [vrd qv37 (show ((47660 + (6 * l6.toInt)) + 2) = v36.toInt from by omega)] at D
            refine z_i2l rfl rfl (fun v38 ev38 => ?_)
            refine z_lmulW rfl rfl rfl (fun v39 ev39 => ?_)
            have fv39 := jfullL v39
            try rw [show l5.toInt = v35.toInt from by omega] at D
            try rw [show v37.toInt = v38.toInt from by omega] at D
            try rw [← ev39] at D
            refine x_aloadn (x := 125) rfl rfl ?_
            refine z_getR (N := 92) (b := 126) 12 2 rfl f_12_8 rfl J rfl 16002 ⟨rfl, rfl⟩ rfl ?_
            refine x_iload (x := v24) rfl rfl ?_
            refine x_iconst (v := 3) rfl ki_3 ?_
            refine z_iadd rfl rfl jk_3 (by omega) (fun v40 ev40 => ?_)
            refine z_iald (N := 50660) rfl J rfl sg_126_47660_47900_6_3_4 rfl (by omega) (fun v41 qv41 ev41 => ?_)
            try rw [vrd qv41 (show ((47660 + (6 * l6.toInt)) + 3) = v40.toInt from by omega)] at D
            have sv41 := jspt_at (p := l6.toInt) hD J (by omega) (by omega) qv1 qv41
            refine z_i2l rfl rfl (fun v42 ev42 => ?_)
            refine z_ldivW rfl rfl rfl (by omega) (fun v43 ev43 => ?_)
            have fv43 := jfullL v43
            try rw [show v41.toInt = v42.toInt from by omega] at D
            try rw [← ev43] at D
            refine z_l2iD rfl rfl (fun v44 ev44 => ?_)
            have fv44 := jfull v44
            try rw [← ev44] at D
            refine x_istore (lsx9 := [(8, .int v44), (7, .int v24), (0, .ref 125), (1, .int l1), (2, .int 1), (3, .int l3), (4, .int l4), (5, .int l5), (6, .int l6)]) rfl rfl rfl ?_
            refine x_aloadn (x := 125) rfl rfl ?_
            refine z_getR (N := 92) (b := 164) 12 79 rfl f_12_150 rfl J rfl 16079 ⟨rfl, rfl⟩ rfl ?_
            refine x_aloadn (x := 125) rfl rfl ?_
            refine z_getR (N := 92) (b := 126) 12 2 rfl f_12_8 rfl J rfl 16002 ⟨rfl, rfl⟩ rfl ?_
            refine x_iload (x := v24) rfl rfl ?_
            refine z_iald (N := 50660) rfl J rfl sg_126_47660_47900_6_0_1 rfl (by omega) (fun v45 qv45 ev45 => ?_)
            try rw [vrd qv45 (show (47660 + (6 * l6.toInt)) = v24.toInt from by omega)] at D
            refine x_iload (x := v44) rfl rfl ?_
            refine z_iast (N := 40) (l := 0) (u := 40) (w := v44.toInt) rfl hD J Sm rfl rfl rfl (by omega) rfl (wr_164) rfl (fun h w46 J Sm => ?_)
            rw [vww w46 (show v45.toInt = v45.toInt from by omega) (show v44.toInt = v44.toInt from by omega)] at D
            refine x_iload (x := l5) rfl rfl ?_
            refine x_iload (x := v44) rfl rfl ?_
            refine z_isubW rfl rfl rfl (fun v47 ev47 => ?_)
            have fv47 := jfull v47
            try rw [show v35.toInt = l5.toInt from by omega] at D
            try rw [← ev47] at D
            refine x_istore (lsx9 := [(5, .int v47), (8, .int v44), (7, .int v24), (0, .ref 125), (1, .int l1), (2, .int 1), (3, .int l3), (4, .int l4), (6, .int l6)]) rfl rfl rfl ?_
            exact jX.sub (jsb_c rfl (jsb_c rfl (jsb_c rfl (jsb_c rfl (jsb_c rfl (jsb_c rfl (jsb_c rfl jsb_n))))))) (ct_X12_findHouses_r125_c1d_208 hD hQ k75 ih l1 l3 l4 v47 l6 h (jr_of rfl (by omega)) (jr_of rfl (by omega)) (jr_of rfl (by omega)) (jr_of rfl (by omega)) (by omega) (by omega) J Sm D)
set_option maxRecDepth 100000 in
set_option maxHeartbeats 4000000 in
theorem ct_X12_findHouses_r125_c1d_75 {Dy : jH → Prop} {h0 : jH} {Q : Option Value → jH → Prop} {dr : jW} (hD : jDk Dy) (hQ : ∀ hx9, jJ jSgM Dy hx9 → jSm fp_X12_findHouses_r125_c1d h0 hx9 → dr = vw hx9 → Q none hx9) : ∀ r : Nat, ∀ (l1 : Int32) (l3 : Int32) (l4 : Int32) (h : jH), 40 - l4.toInt < (r : Int) → 0 ≤ l1.toInt ∧ l1.toInt ≤ 146399 → 0 ≤ l3.toInt ∧ l3.toInt ≤ 40 → 0 ≤ l4.toInt ∧ l4.toInt ≤ 40 → jJ jSgM Dy h → jSm fp_X12_findHouses_r125_c1d h0 h → d_X12_findHouses_r125_c1d_75 r l1.toInt l3.toInt l4.toInt (vw h) = dr → jX m_X12_findHouses 2 0 0 75 [(0, .ref 125), (1, .int l1), (2, .int 1), (3, .int l3), (4, .int l4)] [] h 0 0 Q := by
  intro r
  induction r with
  | zero =>
    intro l1 l3 l4 h hm y0 y1 y2   J Sm D
    exfalso
    omega
  | succ r ih =>
    intro l1 l3 l4 h hm y0 y1 y2   J Sm D
    rw [d_X12_findHouses_r125_c1d_75.eq_2] at D
    refine x_iload (x := l4) rfl rfl ?_
    refine x_iloadn (x := l3) rfl rfl ?_
    refine x_icge (tgt := 323) rfl rfl (ti_ge rfl rfl ⟨fun c1 => ?_, fun c1 => ?_⟩)
    ·
      rw [if_pos (by omega)] at D
      refine x_vret rfl rfl ?_
      exact hQ _ J Sm D.symm
    ·
      rw [if_neg (by omega)] at D
      refine x_aloadn (x := 125) rfl rfl ?_
      refine z_getR (N := 92) (b := 164) 12 79 rfl f_12_150 rfl J rfl 16079 ⟨rfl, rfl⟩ rfl ?_
      refine x_iload (x := l4) rfl rfl ?_
      refine z_iald0 (N := 40) rfl J rfl rfl (by omega) (fun v2 qv2 => ?_)
      have ev2 := jfull v2
      try rw [vrd qv2 (show l4.toInt = l4.toInt from by omega)] at D
      refine x_istore (lsx9 := [(5, .int v2), (0, .ref 125), (1, .int l1), (2, .int 1), (3, .int l3), (4, .int l4)]) rfl rfl rfl ?_
      refine x_iconst (v := 0) rfl ki_0 ?_
      refine x_istore (lsx9 := [(6, .int 0), (5, .int v2), (0, .ref 125), (1, .int l1), (2, .int 1), (3, .int l3), (4, .int l4)]) rfl rfl rfl ?_
      exact jX.sub (jsb_c rfl (jsb_c rfl (jsb_c rfl (jsb_c rfl (jsb_c rfl (jsb_c rfl (jsb_c rfl jsb_n))))))) (ct_X12_findHouses_r125_c1d_93 hD hQ ih 41 l1 l3 l4 v2 0 h (by have := jk_0; omega) (jr_of rfl (by omega)) (jr_of rfl (by omega)) (jr_of rfl (by omega)) (jr_of jk_0 (by omega)) (by omega) J Sm (by rw [jk_0]; exact D))
set_option maxRecDepth 100000 in
set_option maxHeartbeats 4000000 in
theorem ct_X12_findHouses_r125_c1d_65 {Dy : jH → Prop} {h0 : jH} {Q : Option Value → jH → Prop} {dr : jW} {K11 : Int → Int → Int → jW → jW} {R11 : Int} (hD : jDk Dy) (hQ : ∀ hx9, jJ jSgM Dy hx9 → jSm fp_X12_findHouses_r125_c1d h0 hx9 → dr = vw hx9 → Q none hx9) (k11 : ∀ (l1 : Int32) (l3 : Int32) (l4 : Int32) (h : jH), 40 - l4.toInt < R11 → 0 ≤ l1.toInt ∧ l1.toInt ≤ 146399 → 0 ≤ l3.toInt ∧ l3.toInt ≤ 40 → 0 ≤ l4.toInt ∧ l4.toInt ≤ 40 → jJ jSgM Dy h → jSm fp_X12_findHouses_r125_c1d h0 h → K11 l1.toInt l3.toInt l4.toInt (vw h) = dr → jX m_X12_findHouses 2 0 0 11 [(0, .ref 125), (1, .int l1), (2, .int 1), (3, .int l3), (4, .int l4)] [] h 0 0 Q) : ∀ (l1 : Int32) (l3 : Int32) (l4 : Int32) (s0 : Int32) (s1 : Int32) (h : jH), 0 ≤ l1.toInt ∧ l1.toInt ≤ 146399 → 1 ≤ l3.toInt ∧ l3.toInt ≤ 40 → 0 ≤ l4.toInt ∧ l4.toInt ≤ 39 → (-1) ≤ s0.toInt ∧ s0.toInt ≤ 10000 → 0 ≤ s1.toInt ∧ s1.toInt ≤ 39 → 40 - l4.toInt ≤ R11 → jJ jSgM Dy h → jSm fp_X12_findHouses_r125_c1d h0 h → d_X12_findHouses_r125_c1d_65 K11  l1.toInt l3.toInt l4.toInt s0.toInt s1.toInt (vw h) = dr → jX m_X12_findHouses 2 0 0 65 [(0, .ref 125), (1, .int l1), (2, .int 1), (3, .int l3), (4, .int l4)] [.int s0, .int s1, .ref 164] h 0 0 Q := by
  intro l1 l3 l4 s0 s1 h y0 y1 y2 y3 y4  m11 J Sm D
  unfold d_X12_findHouses_r125_c1d_65 at D
  refine z_iast (N := 40) (l := 0) (u := 40) (w := s0.toInt) rfl hD J Sm rfl rfl rfl (by omega) rfl (wr_164) rfl (fun h w1 J Sm => ?_)
  rw [vww w1 (show s1.toInt = s1.toInt from by omega) (show s0.toInt = s0.toInt from by omega)] at D
  refine z_iinc (x := l4) (lsx9 := fun v2 => [(4, .int v2), (0, .ref 125), (1, .int l1), (2, .int 1), (3, .int l3)]) rfl rfl rfl jko_1 (by omega) rfl (fun _ => rfl) (fun v2 ev2 => ?_)
  refine x_goto (tgt := 11) rfl rfl ?_
  try rw [show (l4.toInt + 1) = v2.toInt from by omega] at D
  exact jX.sub (jsb_c rfl (jsb_c rfl (jsb_c rfl (jsb_c rfl (jsb_c rfl jsb_n))))) (k11 l1 l3 v2 h (by omega) (jr_of rfl (by omega)) (jr_of rfl (by omega)) (jr_of rfl (by omega)) J Sm D)
set_option maxRecDepth 100000 in
set_option maxHeartbeats 4000000 in
theorem ct_X12_findHouses_r125_c1d_200065 {Dy : jH → Prop} {h0 : jH} {Q : Option Value → jH → Prop} {dr : jW} {K11 : Int → Int → Int → jW → jW} {R11 : Int} (hD : jDk Dy) (hQ : ∀ hx9, jJ jSgM Dy hx9 → jSm fp_X12_findHouses_r125_c1d h0 hx9 → dr = vw hx9 → Q none hx9) (k11 : ∀ (l1 : Int32) (l3 : Int32) (l4 : Int32) (h : jH), 40 - l4.toInt < R11 → 0 ≤ l1.toInt ∧ l1.toInt ≤ 146399 → 0 ≤ l3.toInt ∧ l3.toInt ≤ 40 → 0 ≤ l4.toInt ∧ l4.toInt ≤ 40 → jJ jSgM Dy h → jSm fp_X12_findHouses_r125_c1d h0 h → K11 l1.toInt l3.toInt l4.toInt (vw h) = dr → jX m_X12_findHouses 2 0 0 11 [(0, .ref 125), (1, .int l1), (2, .int 1), (3, .int l3), (4, .int l4)] [] h 0 0 Q) : ∀ (l1 : Int32) (l3 : Int32) (l4 : Int32) (s1 : Int32) (h : jH), 0 ≤ l1.toInt ∧ l1.toInt ≤ 146399 → 1 ≤ l3.toInt ∧ l3.toInt ≤ 40 → 0 ≤ l4.toInt ∧ l4.toInt ≤ 39 → 0 ≤ s1.toInt ∧ s1.toInt ≤ 39 → 40 - l4.toInt ≤ R11 → jJ jSgM Dy h → jSm fp_X12_findHouses_r125_c1d h0 h → d_X12_findHouses_r125_c1d_200065 K11  l1.toInt l3.toInt l4.toInt s1.toInt (vw h) = dr → jX m_X12_findHouses 2 0 0 65 [(0, .ref 125), (1, .int l1), (2, .int 1), (3, .int l3), (4, .int l4)] [.int 0, .int s1, .ref 164] h 0 0 Q := by
  intro l1 l3 l4 s1 h y0 y1 y2 y3  m11 J Sm D
  unfold d_X12_findHouses_r125_c1d_200065 at D
  refine z_iast (N := 40) (l := 0) (u := 40) (w := 0) rfl hD J Sm rfl rfl rfl (by omega) jk_0 (wr_164) rfl (fun h w1 J Sm => ?_)
  rw [vww w1 (show s1.toInt = s1.toInt from by omega) (show 0 = (0 : Int32).toInt from by have := jk_0; omega)] at D
  refine z_iinc (x := l4) (lsx9 := fun v2 => [(4, .int v2), (0, .ref 125), (1, .int l1), (2, .int 1), (3, .int l3)]) rfl rfl rfl jko_1 (by omega) rfl (fun _ => rfl) (fun v2 ev2 => ?_)
  refine x_goto (tgt := 11) rfl rfl ?_
  try rw [show (l4.toInt + 1) = v2.toInt from by omega] at D
  exact jX.sub (jsb_c rfl (jsb_c rfl (jsb_c rfl (jsb_c rfl (jsb_c rfl jsb_n))))) (k11 l1 l3 v2 h (by omega) (jr_of rfl (by omega)) (jr_of rfl (by omega)) (jr_of rfl (by omega)) J Sm D)
set_option maxRecDepth 100000 in
set_option maxHeartbeats 4000000 in
theorem ct_X12_findHouses_r125_c1d_59 {Dy : jH → Prop} {h0 : jH} {Q : Option Value → jH → Prop} {dr : jW} {K11 : Int → Int → Int → jW → jW} {R11 : Int} (hD : jDk Dy) (hQ : ∀ hx9, jJ jSgM Dy hx9 → jSm fp_X12_findHouses_r125_c1d h0 hx9 → dr = vw hx9 → Q none hx9) (k11 : ∀ (l1 : Int32) (l3 : Int32) (l4 : Int32) (h : jH), 40 - l4.toInt < R11 → 0 ≤ l1.toInt ∧ l1.toInt ≤ 146399 → 0 ≤ l3.toInt ∧ l3.toInt ≤ 40 → 0 ≤ l4.toInt ∧ l4.toInt ≤ 40 → jJ jSgM Dy h → jSm fp_X12_findHouses_r125_c1d h0 h → K11 l1.toInt l3.toInt l4.toInt (vw h) = dr → jX m_X12_findHouses 2 0 0 11 [(0, .ref 125), (1, .int l1), (2, .int 1), (3, .int l3), (4, .int l4)] [] h 0 0 Q) : ∀ (l1 : Int32) (l3 : Int32) (l4 : Int32) (s0 : Int32) (h : jH), 0 ≤ l1.toInt ∧ l1.toInt ≤ 146399 → 1 ≤ l3.toInt ∧ l3.toInt ≤ 40 → 0 ≤ l4.toInt ∧ l4.toInt ≤ 39 → 0 ≤ s0.toInt ∧ s0.toInt ≤ 39 → 40 - l4.toInt ≤ R11 → jJ jSgM Dy h → jSm fp_X12_findHouses_r125_c1d h0 h → d_X12_findHouses_r125_c1d_59 K11  l1.toInt l3.toInt l4.toInt s0.toInt (vw h) = dr → jX m_X12_findHouses 2 0 0 59 [(0, .ref 125), (1, .int l1), (2, .int 1), (3, .int l3), (4, .int l4)] [.int s0, .ref 164] h 0 0 Q := by
  intro l1 l3 l4 s0 h y0 y1 y2 y3  m11 J Sm D
  unfold d_X12_findHouses_r125_c1d_59 at D
  refine x_iconst (v := 0) rfl ki_0 ?_
  refine x_goto (tgt := 65) rfl rfl ?_
  exact jX.sub (jsb_c rfl (jsb_c rfl (jsb_c rfl (jsb_c rfl (jsb_c rfl jsb_n))))) (ct_X12_findHouses_r125_c1d_200065 hD hQ k11 l1 l3 l4 s0 h (jr_of rfl (by omega)) (jr_of rfl (by omega)) (jr_of rfl (by omega)) (jr_of rfl (by omega)) (by omega) J Sm D)
set_option maxRecDepth 100000 in
set_option maxHeartbeats 4000000 in
theorem ct_X12_findHouses_r125_c1d_11 {Dy : jH → Prop} {h0 : jH} {Q : Option Value → jH → Prop} {dr : jW} (hD : jDk Dy) (hQ : ∀ hx9, jJ jSgM Dy hx9 → jSm fp_X12_findHouses_r125_c1d h0 hx9 → dr = vw hx9 → Q none hx9) : ∀ r : Nat, ∀ (l1 : Int32) (l3 : Int32) (l4 : Int32) (h : jH), 40 - l4.toInt < (r : Int) → 0 ≤ l1.toInt ∧ l1.toInt ≤ 146399 → 0 ≤ l3.toInt ∧ l3.toInt ≤ 40 → 0 ≤ l4.toInt ∧ l4.toInt ≤ 40 → jJ jSgM Dy h → jSm fp_X12_findHouses_r125_c1d h0 h → d_X12_findHouses_r125_c1d_11 r l1.toInt l3.toInt l4.toInt (vw h) = dr → jX m_X12_findHouses 2 0 0 11 [(0, .ref 125), (1, .int l1), (2, .int 1), (3, .int l3), (4, .int l4)] [] h 0 0 Q := by
  intro r
  induction r with
  | zero =>
    intro l1 l3 l4 h hm y0 y1 y2   J Sm D
    exfalso
    omega
  | succ r ih =>
    intro l1 l3 l4 h hm y0 y1 y2   J Sm D
    rw [d_X12_findHouses_r125_c1d_11.eq_2] at D
    refine x_iload (x := l4) rfl rfl ?_
    refine x_iloadn (x := l3) rfl rfl ?_
    refine x_icge (tgt := 72) rfl rfl (ti_ge rfl rfl ⟨fun c1 => ?_, fun c1 => ?_⟩)
    ·
      rw [if_pos (by omega)] at D
      refine x_iconst (v := 0) rfl ki_0 ?_
      refine x_istore (lsx9 := [(4, .int 0), (0, .ref 125), (1, .int l1), (2, .int 1), (3, .int l3)]) rfl rfl rfl ?_
      exact jX.sub (jsb_c rfl (jsb_c rfl (jsb_c rfl (jsb_c rfl (jsb_c rfl jsb_n))))) (ct_X12_findHouses_r125_c1d_75 hD hQ  41 l1 l3 0 h (by have := jk_0; omega) (jr_of rfl (by omega)) (jr_of rfl (by omega)) (jr_of jk_0 (by omega)) J Sm (by rw [jk_0]; exact D))
    ·
      rw [if_neg (by omega)] at D
      refine x_aloadn (x := 125) rfl rfl ?_
      refine x_ldcw (v := 47260) rfl z_12_800 ?_
      refine x_aloadn (x := 125) rfl rfl ?_
      refine z_getR (N := 92) (b := 126) 12 2 rfl f_12_8 rfl J rfl 16002 ⟨rfl, rfl⟩ rfl ?_
      refine x_bipush (v := 8) rfl kb_8 ?_
      refine z_iald (N := 50660) rfl J rfl sg_126_8_9_1_0_1 jk_8 (by omega) (fun v2 qv2 ev2 => ?_)
      try rw [vrn (n := 8) (by decide) qv2] at D
      refine x_iload (x := l4) rfl rfl ?_
      refine x_iloadn (x := l1) rfl rfl ?_
      refine x_inv (N := m_X12_latest) (As := [.int 47260, .int v2, .int l4, .int l1]) (b := 125) (st := []) (dx9 := 1) (mc := 0) (ms := 0) (host := "") 12 rfl t_X12_latest ⟨Or.inl q_12_801, i_X12_latest.1, i_X12_latest.2⟩ ⟨by decide, rfl⟩ (congrArg Prod.fst (J.1.1 125 (12, 92) rfl)) rfl (by decide) rfl rfl ⟨by decide, by decide⟩ (sf_X12_latest_r125_c47260d (jr_of rfl (by omega)) (jr_of rfl (by omega)) (jr_of rfl (by omega)) hD J rfl  (fun v6 h ev6 J S3 X4 X5 => ?_))
      have Sm := jSm_tr rfl Sm S3
      try rw [X4] at D
      try rw [← X5] at D
      show jX m_X12_findHouses 2 0 0 34 [(0, .ref 125), (1, .int l1), (2, .int 1), (3, .int l3), (4, .int l4)] [.int v6] _ 0 0 _
      refine x_istore (lsx9 := [(5, .int v6), (0, .ref 125), (1, .int l1), (2, .int 1), (3, .int l3), (4, .int l4)]) rfl rfl rfl ?_
      refine x_aloadn (x := 125) rfl rfl ?_
      refine z_getR (N := 92) (b := 164) 12 79 rfl f_12_150 rfl J rfl 16079 ⟨rfl, rfl⟩ rfl ?_
      refine x_iload (x := l4) rfl rfl ?_
      refine x_aloadn (x := 125) rfl rfl ?_
      refine x_iload (x := l4) rfl rfl ?_
      refine x_inv (N := m_X12_splitOf) (As := [.int l4]) (b := 125) (st := [.int l4, .ref 164]) (dx9 := 1) (mc := 0) (ms := 0) (host := "") 12 rfl t_X12_splitOf ⟨Or.inl q_12_805, i_X12_splitOf.1, i_X12_splitOf.2⟩ ⟨by decide, rfl⟩ (congrArg Prod.fst (J.1.1 125 (12, 92) rfl)) rfl (by decide) rfl rfl ⟨by decide, by decide⟩ (sf_X12_splitOf_r125d (jr_of rfl (by omega)) hD J rfl  (fun v10 h ev10 xv10 J S7 X8 X9 => ?_))
      have Sm := jSm_tr rfl Sm S7
      try rw [X8] at D
      try rw [← X9] at D
      show jX m_X12_findHouses 2 0 0 48 [(5, .int v6), (0, .ref 125), (1, .int l1), (2, .int 1), (3, .int l3), (4, .int l4)] [.int v10, .int l4, .ref 164] _ 0 0 _
      refine x_iconst (v := (-1)) rfl ki_m1 ?_
      refine x_icne (tgt := 59) rfl rfl (ti_ne rfl jk_m1 ⟨fun c11 => ?_, fun c11 => ?_⟩)
      ·
        rw [if_neg (by omega)] at D
        exact jX.sub (jsb_c rfl (jsb_c rfl (jsb_c rfl (jsb_c rfl (jsb_c rfl jsb_n))))) (ct_X12_findHouses_r125_c1d_59 hD hQ ih l1 l3 l4 l4 h (jr_of rfl (by omega)) (jr_of rfl (by omega)) (jr_of rfl (by omega)) (jr_of rfl (by omega)) (by omega) J Sm D)
      ·
        rw [if_pos (by omega)] at D
        refine x_iload (x := v6) rfl rfl ?_
        refine x_bipush (v := (-2)) rfl kb_m2 ?_
        refine x_icne (tgt := 63) rfl rfl (ti_ne rfl jk_m2 ⟨fun c12 => ?_, fun c12 => ?_⟩)
        ·
          rw [if_neg (by omega)] at D
          refine x_iload (x := v6) rfl rfl ?_
          exact jX.sub (jsb_c rfl (jsb_c rfl (jsb_c rfl (jsb_c rfl (jsb_c rfl jsb_n))))) (ct_X12_findHouses_r125_c1d_65 hD hQ ih l1 l3 l4 v6 l4 h (jr_of rfl (by omega)) (jr_of rfl (by omega)) (jr_of rfl (by omega)) (jr_of rfl (by omega)) (jr_of rfl (by omega)) (by omega) J Sm D)
        ·
          rw [if_pos (by omega)] at D
          exact jX.sub (jsb_c rfl (jsb_c rfl (jsb_c rfl (jsb_c rfl (jsb_c rfl jsb_n))))) (ct_X12_findHouses_r125_c1d_59 hD hQ ih l1 l3 l4 l4 h (jr_of rfl (by omega)) (jr_of rfl (by omega)) (jr_of rfl (by omega)) (jr_of rfl (by omega)) (by omega) J Sm D)
set_option maxRecDepth 100000 in
set_option maxHeartbeats 4000000 in
theorem sf_X12_findHouses_r125_c1d {Dy : jH → Prop} {h : jH} {Q : Option Value → jH → Prop} {dr : jW} {a1 : Int32} (y1 : 0 ≤ a1.toInt ∧ a1.toInt ≤ 146399) (hD : jDk Dy) (J : jJ jSgM Dy h) (D : d_X12_findHouses_r125_c1d a1.toInt (vw h) = dr) (hQ : ∀ hx9, jJ jSgM Dy hx9 → jSm fp_X12_findHouses_r125_c1d h hx9 → dr = vw hx9 → Q none hx9) : jC m_X12_findHouses 2 0 0 [.ref 125, .int a1, .int 1] h Q := by
  refine jC.of rfl k_X12_findHouses rfl ?_
  have Sm := jSm_rf fp_X12_findHouses_r125_c1d h
  show jX m_X12_findHouses 2 0 0 0 [(0, .ref 125), (1, .int a1), (2, .int 1)] [] _ 0 0 _
  unfold d_X12_findHouses_r125_c1d at D
  refine x_aloadn (x := 125) rfl rfl ?_
  refine z_getR (N := 92) (b := 126) 12 2 rfl f_12_8 rfl J rfl 16002 ⟨rfl, rfl⟩ rfl ?_
  refine x_bipush (v := 7) rfl kb_7 ?_
  refine z_iald (N := 50660) rfl J rfl sg_126_7_8_1_0_1 jk_7 (by omega) (fun v1 qv1 ev1 => ?_)
  try rw [vrn (n := 7) (by decide) qv1] at D
  refine x_istoren (lsx9 := [(3, .int v1), (0, .ref 125), (1, .int a1), (2, .int 1)]) rfl rfl rfl ?_
  refine x_iconst (v := 0) rfl ki_0 ?_
  refine x_istore (lsx9 := [(4, .int 0), (3, .int v1), (0, .ref 125), (1, .int a1), (2, .int 1)]) rfl rfl rfl ?_
  exact jX.sub (jsb_c rfl (jsb_c rfl (jsb_c rfl (jsb_c rfl (jsb_c rfl jsb_n))))) (ct_X12_findHouses_r125_c1d_11 hD hQ  41 a1 v1 0 h (by have := jk_0; omega) (jr_of rfl (by omega)) (jr_of rfl (by omega)) (jr_of jk_0 (by omega)) J Sm (by rw [jk_0]; exact D))
def fp_X12_isExempt_r125d : jFp := [(125, 32, 33), (125, 33, 34), (125, 34, 35), (125, 35, 36), (125, 57, 58), (125, 61, 62), (125, 62, 63), (125, 63, 64), (152, 0, 360), (153, 0, 30), (154, 0, 400), (162, 0, 40), (163, 0, 40), (164, 0, 40)]
set_option maxRecDepth 100000 in
set_option maxHeartbeats 4000000 in
theorem ct_X12_isExempt_r125d_83 {Dy : jH → Prop} {h0 : jH} {Q : Option Value → jH → Prop} {dr : (Int × jW)} {K3 : Int → Int → Int → Int → jW → (Int × jW)} {K17 : Int → Int → Int → Int → Int → jW → (Int × jW)} {R3 : Int} {R17 : Int} (hD : jDk Dy) (hQ : ∀ (v : Int32) hx9, 0 ≤ v.toInt ∧ v.toInt ≤ 1 → jJ jSgM Dy hx9 → jSm fp_X12_isExempt_r125d h0 hx9 → dr.1 = v.toInt → dr.2 = vw hx9 → Q (some (.int v)) hx9) (k3 : ∀ (l1 : Int32) (l2 : Int32) (l3 : Int32) (l4 : Int32) (h : jH), 30 - l4.toInt < R3 → 0 ≤ l1.toInt ∧ l1.toInt ≤ 2 → (-1) ≤ l2.toInt ∧ l2.toInt ≤ 599 → 0 ≤ l3.toInt ∧ l3.toInt ≤ 146034 → l3.toInt % 366 = 0 → 0 ≤ l4.toInt ∧ l4.toInt ≤ 30 → jJ jSgM Dy h → jSm fp_X12_isExempt_r125d h0 h → K3 l1.toInt l2.toInt l3.toInt l4.toInt (vw h) = dr → jX m_X12_isExempt 11 0 0 3 [(0, .ref 125), (1, .int l1), (2, .int l2), (3, .int l3), (4, .int l4)] [] h 0 0 Q) (k17 : ∀ (l1 : Int32) (l2 : Int32) (l3 : Int32) (l4 : Int32) (l5 : Int32) (h : jH), 12 - l5.toInt < R17 → 0 ≤ l1.toInt ∧ l1.toInt ≤ 2 → (-1) ≤ l2.toInt ∧ l2.toInt ≤ 599 → 0 ≤ l3.toInt ∧ l3.toInt ≤ 146034 → l3.toInt % 366 = 0 → 0 ≤ l4.toInt ∧ l4.toInt ≤ 29 → 0 ≤ l5.toInt ∧ l5.toInt ≤ 12 → 30 - l4.toInt ≤ R3 → jJ jSgM Dy h → jSm fp_X12_isExempt_r125d h0 h → K17 l1.toInt l2.toInt l3.toInt l4.toInt l5.toInt (vw h) = dr → jX m_X12_isExempt 11 0 0 17 [(0, .ref 125), (1, .int l1), (2, .int l2), (3, .int l3), (4, .int l4), (5, .int l5)] [] h 0 0 Q) : ∀ (l1 : Int32) (l2 : Int32) (l3 : Int32) (l4 : Int32) (l5 : Int32) (h : jH), 0 ≤ l1.toInt ∧ l1.toInt ≤ 2 → (-1) ≤ l2.toInt ∧ l2.toInt ≤ 599 → 0 ≤ l3.toInt ∧ l3.toInt ≤ 146034 → l3.toInt % 366 = 0 → 0 ≤ l4.toInt ∧ l4.toInt ≤ 29 → 0 ≤ l5.toInt ∧ l5.toInt ≤ 11 → 30 - l4.toInt ≤ R3 → 12 - l5.toInt ≤ R17 → jJ jSgM Dy h → jSm fp_X12_isExempt_r125d h0 h → d_X12_isExempt_r125d_83 K3 K17  l1.toInt l2.toInt l3.toInt l4.toInt l5.toInt (vw h) = dr → jX m_X12_isExempt 11 0 0 83 [(0, .ref 125), (1, .int l1), (2, .int l2), (3, .int l3), (4, .int l4), (5, .int l5)] [] h 0 0 Q := by
  intro l1 l2 l3 l4 l5 h y0 y1 y2 y3 y4 y5  m3 m17 J Sm D
  unfold d_X12_isExempt_r125d_83 at D
  refine z_iinc (x := l5) (lsx9 := fun v1 => [(5, .int v1), (0, .ref 125), (1, .int l1), (2, .int l2), (3, .int l3), (4, .int l4)]) rfl rfl rfl jko_1 (by omega) rfl (fun _ => rfl) (fun v1 ev1 => ?_)
  refine x_goto (tgt := 17) rfl rfl ?_
  try rw [show (l5.toInt + 1) = v1.toInt from by omega] at D
  exact jX.sub (jsb_c rfl (jsb_c rfl (jsb_c rfl (jsb_c rfl (jsb_c rfl (jsb_c rfl jsb_n)))))) (k17 l1 l2 l3 l4 v1 h (by omega) (jr_of rfl (by omega)) (jr_of rfl (by omega)) (jr_of rfl (by omega)) (jr_mod rfl (by omega)) (jr_of rfl (by omega)) (jr_of rfl (by omega)) (by omega) J Sm D)
set_option maxRecDepth 100000 in
set_option maxHeartbeats 4000000 in
theorem ct_X12_isExempt_r125d_17 {Dy : jH → Prop} {h0 : jH} {Q : Option Value → jH → Prop} {dr : (Int × jW)} {K3 : Int → Int → Int → Int → jW → (Int × jW)} {R3 : Int} (hD : jDk Dy) (hQ : ∀ (v : Int32) hx9, 0 ≤ v.toInt ∧ v.toInt ≤ 1 → jJ jSgM Dy hx9 → jSm fp_X12_isExempt_r125d h0 hx9 → dr.1 = v.toInt → dr.2 = vw hx9 → Q (some (.int v)) hx9) (k3 : ∀ (l1 : Int32) (l2 : Int32) (l3 : Int32) (l4 : Int32) (h : jH), 30 - l4.toInt < R3 → 0 ≤ l1.toInt ∧ l1.toInt ≤ 2 → (-1) ≤ l2.toInt ∧ l2.toInt ≤ 599 → 0 ≤ l3.toInt ∧ l3.toInt ≤ 146034 → l3.toInt % 366 = 0 → 0 ≤ l4.toInt ∧ l4.toInt ≤ 30 → jJ jSgM Dy h → jSm fp_X12_isExempt_r125d h0 h → K3 l1.toInt l2.toInt l3.toInt l4.toInt (vw h) = dr → jX m_X12_isExempt 11 0 0 3 [(0, .ref 125), (1, .int l1), (2, .int l2), (3, .int l3), (4, .int l4)] [] h 0 0 Q) : ∀ r : Nat, ∀ (l1 : Int32) (l2 : Int32) (l3 : Int32) (l4 : Int32) (l5 : Int32) (h : jH), 12 - l5.toInt < (r : Int) → 0 ≤ l1.toInt ∧ l1.toInt ≤ 2 → (-1) ≤ l2.toInt ∧ l2.toInt ≤ 599 → 0 ≤ l3.toInt ∧ l3.toInt ≤ 146034 → l3.toInt % 366 = 0 → 0 ≤ l4.toInt ∧ l4.toInt ≤ 29 → 0 ≤ l5.toInt ∧ l5.toInt ≤ 12 → 30 - l4.toInt ≤ R3 → jJ jSgM Dy h → jSm fp_X12_isExempt_r125d h0 h → d_X12_isExempt_r125d_17 K3 r l1.toInt l2.toInt l3.toInt l4.toInt l5.toInt (vw h) = dr → jX m_X12_isExempt 11 0 0 17 [(0, .ref 125), (1, .int l1), (2, .int l2), (3, .int l3), (4, .int l4), (5, .int l5)] [] h 0 0 Q := by
  intro r
  induction r with
  | zero =>
    intro l1 l2 l3 l4 l5 h hm y0 y1 y2 y3 y4 y5  m3 J Sm D
    exfalso
    omega
  | succ r ih =>
    intro l1 l2 l3 l4 l5 h hm y0 y1 y2 y3 y4 y5  m3 J Sm D
    rw [d_X12_isExempt_r125d_17.eq_2] at D
    refine x_iload (x := l5) rfl rfl ?_
    refine x_aloadn (x := 125) rfl rfl ?_
    refine z_getR (N := 92) (b := 126) 12 2 rfl f_12_8 rfl J rfl 16002 ⟨rfl, rfl⟩ rfl ?_
    refine x_iload (x := l4) rfl rfl ?_
    refine x_inst (N := m_X12_textAt) (As := [.int l4]) (st := [.ref 126, .int l5]) (dx9 := 10) (mc := 0) (ms := 0) (host := "") rfl t_X12_textAt ⟨Or.inl q_12_676, s_X12_textAt⟩ rfl (by decide) rfl rfl ⟨by decide, by decide⟩ (jC.of rfl k_X12_textAt rfl ?_)
    show jX m_X12_textAt 10 0 0 0 [(0, .int l4)] [] _ 0 0 _
    refine x_sipush (v := 18820) rfl ks_18820 ?_
    refine x_sipush (v := 924) rfl ks_924 ?_
    refine x_iloadn (x := l4) rfl rfl ?_
    refine z_imul rfl jk_924 rfl (by omega) (fun v1 ev1 => ?_)
    refine z_iadd rfl jk_18820 rfl (by omega) (fun v2 ev2 => ?_)
    refine x_iret rfl rfl ?_
    show jX m_X12_isExempt 11 0 0 28 [(0, .ref 125), (1, .int l1), (2, .int l2), (3, .int l3), (4, .int l4), (5, .int l5)] [.int v2, .ref 126, .int l5] _ 0 0 _
    refine x_iconst (v := 3) rfl ki_3 ?_
    refine z_iadd rfl rfl jk_3 (by omega) (fun v3 ev3 => ?_)
    refine z_iald (N := 50660) rfl J rfl sg_126_18820_46540_924_3_4 rfl (by omega) (fun v4 qv4 ev4 => ?_)
    try rw [vrd qv4 (show ((18820 + (924 * l4.toInt)) + 3) = v3.toInt from by omega)] at D
    refine x_icge (tgt := 89) rfl rfl (ti_ge rfl rfl ⟨fun c5 => ?_, fun c5 => ?_⟩)
    ·
      rw [if_pos (by omega)] at D
      refine z_iinc (x := l4) (lsx9 := fun v6 => [(4, .int v6), (0, .ref 125), (1, .int l1), (2, .int l2), (3, .int l3), (5, .int l5)]) rfl rfl rfl jko_1 (by omega) rfl (fun _ => rfl) (fun v6 ev6 => ?_)
      refine x_goto (tgt := 3) rfl rfl ?_
      try rw [show (l4.toInt + 1) = v6.toInt from by omega] at D
      exact jX.sub (jsb_c rfl (jsb_c rfl (jsb_c rfl (jsb_c rfl (jsb_c rfl jsb_n))))) (k3 l1 l2 l3 v6 h (by omega) (jr_of rfl (by omega)) (jr_of rfl (by omega)) (jr_of rfl (by omega)) (jr_mod rfl (by omega)) (jr_of rfl (by omega)) J Sm D)
    ·
      rw [if_neg (by omega)] at D
      refine x_aloadn (x := 125) rfl rfl ?_
      refine x_iload (x := l4) rfl rfl ?_
      refine x_iload (x := l5) rfl rfl ?_
      refine x_inv (N := m_X12_clauseAt) (As := [.int l4, .int l5]) (b := 125) (st := []) (dx9 := 10) (mc := 0) (ms := 0) (host := "") 12 rfl t_X12_clauseAt ⟨Or.inl q_12_679, i_X12_clauseAt.1, i_X12_clauseAt.2⟩ ⟨by decide, rfl⟩ (congrArg Prod.fst (J.1.1 125 (12, 92) rfl)) rfl (by decide) rfl rfl ⟨by decide, by decide⟩ (jC.of rfl k_X12_clauseAt rfl ?_)
      show jX m_X12_clauseAt 10 0 0 0 [(0, .ref 125), (1, .int l4), (2, .int l5)] [] _ 0 0 _
      refine x_iloadn (x := l4) rfl rfl ?_
      refine x_inst (N := m_X12_textAt) (As := [.int l4]) (st := []) (dx9 := 9) (mc := 0) (ms := 0) (host := "") rfl t_X12_textAt ⟨Or.inl q_12_676, s_X12_textAt⟩ rfl (by decide) rfl rfl ⟨by decide, by decide⟩ (jC.of rfl k_X12_textAt rfl ?_)
      show jX m_X12_textAt 9 0 0 0 [(0, .int l4)] [] _ 0 0 _
      refine x_sipush (v := 18820) rfl ks_18820 ?_
      refine x_sipush (v := 924) rfl ks_924 ?_
      refine x_iloadn (x := l4) rfl rfl ?_
      refine z_imul rfl jk_924 rfl (by omega) (fun v7 ev7 => ?_)
      refine z_iadd rfl jk_18820 rfl (by omega) (fun v8 ev8 => ?_)
      refine x_iret rfl rfl ?_
      show jX m_X12_clauseAt 10 0 0 4 [(0, .ref 125), (1, .int l4), (2, .int l5)] [.int v8] _ 0 0 _
      refine x_iconst (v := 4) rfl ki_4 ?_
      refine z_iadd rfl rfl jk_4 (by omega) (fun v9 ev9 => ?_)
      refine x_bipush (v := 10) rfl kb_10 ?_
      refine x_iloadn (x := l5) rfl rfl ?_
      refine z_imul rfl jk_10 rfl (by omega) (fun v10 ev10 => ?_)
      refine z_iadd rfl rfl rfl (by omega) (fun v11 ev11 => ?_)
      refine x_iret rfl rfl ?_
      show jX m_X12_isExempt 11 0 0 42 [(0, .ref 125), (1, .int l1), (2, .int l2), (3, .int l3), (4, .int l4), (5, .int l5)] [.int v11] _ 0 0 _
      refine x_istore (lsx9 := [(6, .int v11), (0, .ref 125), (1, .int l1), (2, .int l2), (3, .int l3), (4, .int l4), (5, .int l5)]) rfl rfl rfl ?_
      refine x_aloadn (x := 125) rfl rfl ?_
      refine z_getR (N := 92) (b := 126) 12 2 rfl f_12_8 rfl J rfl 16002 ⟨rfl, rfl⟩ rfl ?_
      refine x_iload (x := v11) rfl rfl ?_
      refine z_iald0 (N := 50660) rfl J rfl rfl (by omega) (fun v12 qv12 => ?_)
      have ev12 := jfull v12
      try rw [vrd qv12 (show (((18820 + (924 * l4.toInt)) + 4) + (10 * l5.toInt)) = v11.toInt from by omega)] at D
      refine x_iconst (v := 2) rfl ki_2 ?_
      refine x_icne (tgt := 83) rfl rfl (ti_ne rfl jk_2 ⟨fun c13 => ?_, fun c13 => ?_⟩)
      ·
        rw [if_neg (by omega)] at D
        exact jX.sub (jsb_c rfl (jsb_c rfl (jsb_c rfl (jsb_c rfl (jsb_c rfl (jsb_c rfl jsb_n)))))) (ct_X12_isExempt_r125d_83 hD hQ k3 ih l1 l2 l3 l4 l5 h (jr_of rfl (by omega)) (jr_of rfl (by omega)) (jr_of rfl (by omega)) (jr_mod rfl (by omega)) (jr_of rfl (by omega)) (jr_of rfl (by omega)) (by omega) (by omega) J Sm D)
      ·
        rw [if_pos (by omega)] at D
        refine x_aloadn (x := 125) rfl rfl ?_
        refine z_getR (N := 92) (b := 126) 12 2 rfl f_12_8 rfl J rfl 16002 ⟨rfl, rfl⟩ rfl ?_
        refine x_iload (x := v11) rfl rfl ?_
        refine x_iconst (v := 1) rfl ki_1 ?_
        refine z_iadd rfl rfl jk_1 (by omega) (fun v14 ev14 => ?_)
        refine z_iald0 (N := 50660) rfl J rfl rfl (by omega) (fun v15 qv15 => ?_)
        have ev15 := jfull v15
        try rw [vrd qv15 (show ((((18820 + (924 * l4.toInt)) + 4) + (10 * l5.toInt)) + 1) = v14.toInt from by omega)] at D
        refine x_iloadn (x := l1) rfl rfl ?_
        refine x_icne (tgt := 83) rfl rfl (ti_ne rfl rfl ⟨fun c16 => ?_, fun c16 => ?_⟩)
        ·
          rw [if_neg (by omega)] at D
          exact jX.sub (jsb_c rfl (jsb_c rfl (jsb_c rfl (jsb_c rfl (jsb_c rfl (jsb_c rfl jsb_n)))))) (ct_X12_isExempt_r125d_83 hD hQ k3 ih l1 l2 l3 l4 l5 h (jr_of rfl (by omega)) (jr_of rfl (by omega)) (jr_of rfl (by omega)) (jr_mod rfl (by omega)) (jr_of rfl (by omega)) (jr_of rfl (by omega)) (by omega) (by omega) J Sm D)
        ·
          rw [if_pos (by omega)] at D
          refine x_aloadn (x := 125) rfl rfl ?_
          refine x_iload (x := l4) rfl rfl ?_
          refine x_iload (x := l5) rfl rfl ?_
          refine x_iloadn (x := l2) rfl rfl ?_
          refine x_iloadn (x := l3) rfl rfl ?_
          refine x_inv (N := m_X12_holdsFor) (As := [.int l4, .int l5, .int l2, .int l3]) (b := 125) (st := []) (dx9 := 10) (mc := 0) (ms := 0) (host := "") 12 rfl t_X12_holdsFor ⟨Or.inl q_12_749, i_X12_holdsFor.1, i_X12_holdsFor.2⟩ ⟨by decide, rfl⟩ (congrArg Prod.fst (J.1.1 125 (12, 92) rfl)) rfl (by decide) rfl rfl ⟨by decide, by decide⟩ (sf_X12_holdsFor_r125d (jr_of rfl (by omega)) (jr_of rfl (by omega)) (jr_of rfl (by omega)) (jr_of rfl (by omega)) (jcn qv4 (by omega) (by omega) (by omega)) hD J rfl  (fun v20 h ev20 J S17 X18 X19 => ?_))
          have Sm := jSm_tr rfl Sm S17
          try rw [X18] at D
          try rw [X19] at D
          show jX m_X12_isExempt 11 0 0 78 [(6, .int v11), (0, .ref 125), (1, .int l1), (2, .int l2), (3, .int l3), (4, .int l4), (5, .int l5)] [.int v20] _ 0 0 _
          refine x_ifeq (tgt := 83) rfl rfl (ti_eq rfl jk_0 ⟨fun c21 => ?_, fun c21 => ?_⟩)
          ·
            rw [if_pos (by omega)] at D
            exact jX.sub (jsb_c rfl (jsb_c rfl (jsb_c rfl (jsb_c rfl (jsb_c rfl (jsb_c rfl jsb_n)))))) (ct_X12_isExempt_r125d_83 hD hQ k3 ih l1 l2 l3 l4 l5 h (jr_of rfl (by omega)) (jr_of rfl (by omega)) (jr_of rfl (by omega)) (jr_mod rfl (by omega)) (jr_of rfl (by omega)) (jr_of rfl (by omega)) (by omega) (by omega) J Sm D)
          ·
            rw [if_neg (by omega)] at D
            refine x_iconst (v := 1) rfl ki_1 ?_
            refine x_zret rfl rfl (by decide) ?_
            exact hQ _ _ (jr_of jk_1 (by omega)) J Sm ((congrArg Prod.fst D).symm.trans (show 1 = (1 : Int32).toInt from by have := jk_1; omega)) (congrArg Prod.snd D).symm
set_option maxRecDepth 100000 in
set_option maxHeartbeats 4000000 in
theorem ct_X12_isExempt_r125d_3 {Dy : jH → Prop} {h0 : jH} {Q : Option Value → jH → Prop} {dr : (Int × jW)} (hD : jDk Dy) (hQ : ∀ (v : Int32) hx9, 0 ≤ v.toInt ∧ v.toInt ≤ 1 → jJ jSgM Dy hx9 → jSm fp_X12_isExempt_r125d h0 hx9 → dr.1 = v.toInt → dr.2 = vw hx9 → Q (some (.int v)) hx9) : ∀ r : Nat, ∀ (l1 : Int32) (l2 : Int32) (l3 : Int32) (l4 : Int32) (h : jH), 30 - l4.toInt < (r : Int) → 0 ≤ l1.toInt ∧ l1.toInt ≤ 2 → (-1) ≤ l2.toInt ∧ l2.toInt ≤ 599 → 0 ≤ l3.toInt ∧ l3.toInt ≤ 146034 → l3.toInt % 366 = 0 → 0 ≤ l4.toInt ∧ l4.toInt ≤ 30 → jJ jSgM Dy h → jSm fp_X12_isExempt_r125d h0 h → d_X12_isExempt_r125d_3 r l1.toInt l2.toInt l3.toInt l4.toInt (vw h) = dr → jX m_X12_isExempt 11 0 0 3 [(0, .ref 125), (1, .int l1), (2, .int l2), (3, .int l3), (4, .int l4)] [] h 0 0 Q := by
  intro r
  induction r with
  | zero =>
    intro l1 l2 l3 l4 h hm y0 y1 y2 y3 y4   J Sm D
    exfalso
    omega
  | succ r ih =>
    intro l1 l2 l3 l4 h hm y0 y1 y2 y3 y4   J Sm D
    rw [d_X12_isExempt_r125d_3.eq_2] at D
    refine x_iload (x := l4) rfl rfl ?_
    refine x_aloadn (x := 125) rfl rfl ?_
    refine z_getR (N := 92) (b := 126) 12 2 rfl f_12_8 rfl J rfl 16002 ⟨rfl, rfl⟩ rfl ?_
    refine x_iconst (v := 4) rfl ki_4 ?_
    refine z_iald (N := 50660) rfl J rfl sg_126_4_5_1_0_1 jk_4 (by omega) (fun v1 qv1 ev1 => ?_)
    try rw [vrn (n := 4) (by decide) qv1] at D
    refine x_icge (tgt := 95) rfl rfl (ti_ge rfl rfl ⟨fun c2 => ?_, fun c2 => ?_⟩)
    ·
      rw [if_pos (by omega)] at D
      refine x_iconst (v := 0) rfl ki_0 ?_
      refine x_zret rfl rfl (by decide) ?_
      exact hQ _ _ (jr_of jk_0 (by omega)) J Sm ((congrArg Prod.fst D).symm.trans (show 0 = (0 : Int32).toInt from by have := jk_0; omega)) (congrArg Prod.snd D).symm
    ·
      rw [if_neg (by omega)] at D
      refine x_iconst (v := 0) rfl ki_0 ?_
      refine x_istore (lsx9 := [(5, .int 0), (0, .ref 125), (1, .int l1), (2, .int l2), (3, .int l3), (4, .int l4)]) rfl rfl rfl ?_
      exact jX.sub (jsb_c rfl (jsb_c rfl (jsb_c rfl (jsb_c rfl (jsb_c rfl (jsb_c rfl jsb_n)))))) (ct_X12_isExempt_r125d_17 hD hQ ih 13 l1 l2 l3 l4 0 h (by have := jk_0; omega) (jr_of rfl (by omega)) (jr_of rfl (by omega)) (jr_of rfl (by omega)) (jr_mod rfl (by omega)) (jr_of rfl (by omega)) (jr_of jk_0 (by omega)) (by omega) J Sm (by rw [jk_0]; exact D))
set_option maxRecDepth 100000 in
set_option maxHeartbeats 4000000 in
theorem sf_X12_isExempt_r125d {Dy : jH → Prop} {h : jH} {Q : Option Value → jH → Prop} {dr : (Int × jW)} {a1 : Int32} {a2 : Int32} {a3 : Int32} (y1 : 0 ≤ a1.toInt ∧ a1.toInt ≤ 2) (y2 : (-1) ≤ a2.toInt ∧ a2.toInt ≤ 599) (y3 : 0 ≤ a3.toInt ∧ a3.toInt ≤ 146034) (ym3 : a3.toInt % 366 = 0) (hD : jDk Dy) (J : jJ jSgM Dy h) (D : d_X12_isExempt_r125d a1.toInt a2.toInt a3.toInt (vw h) = dr) (hQ : ∀ (v : Int32) hx9, 0 ≤ v.toInt ∧ v.toInt ≤ 1 → jJ jSgM Dy hx9 → jSm fp_X12_isExempt_r125d h hx9 → dr.1 = v.toInt → dr.2 = vw hx9 → Q (some (.int v)) hx9) : jC m_X12_isExempt 11 0 0 [.ref 125, .int a1, .int a2, .int a3] h Q := by
  refine jC.of rfl k_X12_isExempt rfl ?_
  have Sm := jSm_rf fp_X12_isExempt_r125d h
  show jX m_X12_isExempt 11 0 0 0 [(0, .ref 125), (1, .int a1), (2, .int a2), (3, .int a3)] [] _ 0 0 _
  unfold d_X12_isExempt_r125d at D
  refine x_iconst (v := 0) rfl ki_0 ?_
  refine x_istore (lsx9 := [(4, .int 0), (0, .ref 125), (1, .int a1), (2, .int a2), (3, .int a3)]) rfl rfl rfl ?_
  exact jX.sub (jsb_c rfl (jsb_c rfl (jsb_c rfl (jsb_c rfl (jsb_c rfl jsb_n))))) (ct_X12_isExempt_r125d_3 hD hQ  31 a1 a2 a3 0 h (by have := jk_0; omega) (jr_of rfl (by omega)) (jr_of rfl (by omega)) (jr_of rfl (by omega)) (jr_mod rfl (by omega)) (jr_of jk_0 (by omega)) J Sm (by rw [jk_0]; exact D))
def fp_X12_partLevy_r125d : jFp := [(125, 32, 33), (125, 33, 34), (125, 34, 35), (125, 35, 36), (125, 57, 58), (125, 61, 62), (125, 62, 63), (125, 63, 64), (125, 64, 65), (125, 65, 66), (125, 66, 67), (152, 0, 360), (153, 0, 30), (154, 0, 400), (155, 0, 360), (162, 0, 40), (162, 40, 80), (163, 0, 40), (163, 40, 80), (164, 0, 40), (165, 0, 40), (166, 0, 40), (167, 0, 40)]
set_option maxRecDepth 100000 in
set_option maxHeartbeats 4000000 in
theorem ct_X12_partLevy_r125d_490 {Dy : jH → Prop} {h0 : jH} {Q : Option Value → jH → Prop} {dr : jW} {K396 : Int → Int → Int → Int → jW → jW} {R396 : Int} (hD : jDk Dy) (hQ : ∀ hx9, jJ jSgM Dy hx9 → jSm fp_X12_partLevy_r125d h0 hx9 → dr = vw hx9 → Q none hx9) (k396 : ∀ (l3 : Int32) (l4 : Int32) (l5 : Int32) (l10 : Int32) (h : jH), 40 - l10.toInt < R396 → 0 ≤ l3.toInt ∧ l3.toInt ≤ 2 → 0 ≤ l4.toInt ∧ l4.toInt ≤ 146034 → l4.toInt % 366 = 0 → 0 ≤ l5.toInt ∧ l5.toInt ≤ 40 → 0 ≤ l10.toInt ∧ l10.toInt ≤ 40 → jJ jSgM Dy h → jSm fp_X12_partLevy_r125d h0 h → K396 l3.toInt l4.toInt l5.toInt l10.toInt (vw h) = dr → jX m_X12_partLevy 12 0 0 396 [(0, .ref 125), (3, .int l3), (4, .int l4), (5, .int l5), (10, .int l10)] [] h 0 0 Q) : ∀ (l3 : Int32) (l4 : Int32) (l5 : Int32) (l10 : Int32) (h : jH), 0 ≤ l3.toInt ∧ l3.toInt ≤ 2 → 0 ≤ l4.toInt ∧ l4.toInt ≤ 146034 → l4.toInt % 366 = 0 → 1 ≤ l5.toInt ∧ l5.toInt ≤ 40 → 0 ≤ l10.toInt ∧ l10.toInt ≤ 39 → 40 - l10.toInt ≤ R396 → jJ jSgM Dy h → jSm fp_X12_partLevy_r125d h0 h → d_X12_partLevy_r125d_490 K396  l3.toInt l4.toInt l5.toInt l10.toInt (vw h) = dr → jX m_X12_partLevy 12 0 0 490 [(0, .ref 125), (3, .int l3), (4, .int l4), (5, .int l5), (10, .int l10)] [] h 0 0 Q := by
  intro l3 l4 l5 l10 h y0 y1 y2 y3 y4  m396 J Sm D
  unfold d_X12_partLevy_r125d_490 at D
  refine z_iinc (x := l10) (lsx9 := fun v1 => [(10, .int v1), (0, .ref 125), (3, .int l3), (4, .int l4), (5, .int l5)]) rfl rfl rfl jko_1 (by omega) rfl (fun _ => rfl) (fun v1 ev1 => ?_)
  refine x_goto (tgt := 396) rfl rfl ?_
  try rw [show (l10.toInt + 1) = v1.toInt from by omega] at D
  exact jX.sub (jsb_c rfl (jsb_c rfl (jsb_c rfl (jsb_c rfl (jsb_c rfl jsb_n))))) (k396 l3 l4 l5 v1 h (by omega) (jr_of rfl (by omega)) (jr_of rfl (by omega)) (jr_mod rfl (by omega)) (jr_of rfl (by omega)) (jr_of rfl (by omega)) J Sm D)
set_option maxRecDepth 100000 in
set_option maxHeartbeats 4000000 in
theorem ct_X12_partLevy_r125d_489 {Dy : jH → Prop} {h0 : jH} {Q : Option Value → jH → Prop} {dr : jW} {K396 : Int → Int → Int → Int → jW → jW} {R396 : Int} (hD : jDk Dy) (hQ : ∀ hx9, jJ jSgM Dy hx9 → jSm fp_X12_partLevy_r125d h0 hx9 → dr = vw hx9 → Q none hx9) (k396 : ∀ (l3 : Int32) (l4 : Int32) (l5 : Int32) (l10 : Int32) (h : jH), 40 - l10.toInt < R396 → 0 ≤ l3.toInt ∧ l3.toInt ≤ 2 → 0 ≤ l4.toInt ∧ l4.toInt ≤ 146034 → l4.toInt % 366 = 0 → 0 ≤ l5.toInt ∧ l5.toInt ≤ 40 → 0 ≤ l10.toInt ∧ l10.toInt ≤ 40 → jJ jSgM Dy h → jSm fp_X12_partLevy_r125d h0 h → K396 l3.toInt l4.toInt l5.toInt l10.toInt (vw h) = dr → jX m_X12_partLevy 12 0 0 396 [(0, .ref 125), (3, .int l3), (4, .int l4), (5, .int l5), (10, .int l10)] [] h 0 0 Q) : ∀ (l3 : Int32) (l4 : Int32) (l5 : Int32) (l10 : Int32) (s0 : Int64) (s1 : Int32) (h : jH), 0 ≤ l3.toInt ∧ l3.toInt ≤ 2 → 0 ≤ l4.toInt ∧ l4.toInt ≤ 146034 → l4.toInt % 366 = 0 → 1 ≤ l5.toInt ∧ l5.toInt ≤ 40 → 0 ≤ l10.toInt ∧ l10.toInt ≤ 39 → 0 ≤ s1.toInt ∧ s1.toInt ≤ 39 → 40 - l10.toInt ≤ R396 → jJ jSgM Dy h → jSm fp_X12_partLevy_r125d h0 h → d_X12_partLevy_r125d_489 K396  l3.toInt l4.toInt l5.toInt l10.toInt s0.toInt s1.toInt (vw h) = dr → jX m_X12_partLevy 12 0 0 489 [(0, .ref 125), (3, .int l3), (4, .int l4), (5, .int l5), (10, .int l10)] [.long s0, .int s1, .ref 165] h 0 0 Q := by
  intro l3 l4 l5 l10 s0 s1 h y0 y1 y2 y3 y4 y5  m396 J Sm D
  have es0 := jfullL s0
  unfold d_X12_partLevy_r125d_489 at D
  refine z_last (N := 40) (l := 0) (u := 40) rfl hD J Sm rfl rfl rfl (by omega) rfl (fun h w1 J Sm => ?_)
  rw [vwwL w1 (show s1.toInt = s1.toInt from by omega) (show s0.toInt = s0.toInt from by omega)] at D
  exact jX.sub (jsb_c rfl (jsb_c rfl (jsb_c rfl (jsb_c rfl (jsb_c rfl jsb_n))))) (ct_X12_partLevy_r125d_490 hD hQ k396 l3 l4 l5 l10 h (jr_of rfl (by omega)) (jr_of rfl (by omega)) (jr_mod rfl (by omega)) (jr_of rfl (by omega)) (jr_of rfl (by omega)) (by omega) J Sm D)
set_option maxRecDepth 100000 in
set_option maxHeartbeats 4000000 in
theorem ct_X12_partLevy_r125d_5000489 {Dy : jH → Prop} {h0 : jH} {Q : Option Value → jH → Prop} {dr : jW} {K396 : Int → Int → Int → Int → jW → jW} {R396 : Int} (hD : jDk Dy) (hQ : ∀ hx9, jJ jSgM Dy hx9 → jSm fp_X12_partLevy_r125d h0 hx9 → dr = vw hx9 → Q none hx9) (k396 : ∀ (l3 : Int32) (l4 : Int32) (l5 : Int32) (l10 : Int32) (h : jH), 40 - l10.toInt < R396 → 0 ≤ l3.toInt ∧ l3.toInt ≤ 2 → 0 ≤ l4.toInt ∧ l4.toInt ≤ 146034 → l4.toInt % 366 = 0 → 0 ≤ l5.toInt ∧ l5.toInt ≤ 40 → 0 ≤ l10.toInt ∧ l10.toInt ≤ 40 → jJ jSgM Dy h → jSm fp_X12_partLevy_r125d h0 h → K396 l3.toInt l4.toInt l5.toInt l10.toInt (vw h) = dr → jX m_X12_partLevy 12 0 0 396 [(0, .ref 125), (3, .int l3), (4, .int l4), (5, .int l5), (10, .int l10)] [] h 0 0 Q) : ∀ (l3 : Int32) (l4 : Int32) (l5 : Int32) (l10 : Int32) (s1 : Int32) (h : jH), 0 ≤ l3.toInt ∧ l3.toInt ≤ 2 → 0 ≤ l4.toInt ∧ l4.toInt ≤ 146034 → l4.toInt % 366 = 0 → 1 ≤ l5.toInt ∧ l5.toInt ≤ 40 → 0 ≤ l10.toInt ∧ l10.toInt ≤ 39 → 0 ≤ s1.toInt ∧ s1.toInt ≤ 39 → 40 - l10.toInt ≤ R396 → jJ jSgM Dy h → jSm fp_X12_partLevy_r125d h0 h → d_X12_partLevy_r125d_5000489 K396  l3.toInt l4.toInt l5.toInt l10.toInt s1.toInt (vw h) = dr → jX m_X12_partLevy 12 0 0 489 [(0, .ref 125), (3, .int l3), (4, .int l4), (5, .int l5), (10, .int l10)] [.long 0, .int s1, .ref 165] h 0 0 Q := by
  intro l3 l4 l5 l10 s1 h y0 y1 y2 y3 y4 y5  m396 J Sm D
  unfold d_X12_partLevy_r125d_5000489 at D
  refine z_last (N := 40) (l := 0) (u := 40) rfl hD J Sm rfl rfl rfl (by omega) rfl (fun h w1 J Sm => ?_)
  rw [vwwL w1 (show s1.toInt = s1.toInt from by omega) (show 0 = (0 : Int64).toInt from by have := jkl_0; omega)] at D
  exact jX.sub (jsb_c rfl (jsb_c rfl (jsb_c rfl (jsb_c rfl (jsb_c rfl jsb_n))))) (ct_X12_partLevy_r125d_490 hD hQ k396 l3 l4 l5 l10 h (jr_of rfl (by omega)) (jr_of rfl (by omega)) (jr_mod rfl (by omega)) (jr_of rfl (by omega)) (jr_of rfl (by omega)) (by omega) J Sm D)
set_option maxRecDepth 100000 in
set_option maxHeartbeats 4000000 in
theorem ct_X12_partLevy_r125d_482 {Dy : jH → Prop} {h0 : jH} {Q : Option Value → jH → Prop} {dr : jW} {K396 : Int → Int → Int → Int → jW → jW} {R396 : Int} (hD : jDk Dy) (hQ : ∀ hx9, jJ jSgM Dy hx9 → jSm fp_X12_partLevy_r125d h0 hx9 → dr = vw hx9 → Q none hx9) (k396 : ∀ (l3 : Int32) (l4 : Int32) (l5 : Int32) (l10 : Int32) (h : jH), 40 - l10.toInt < R396 → 0 ≤ l3.toInt ∧ l3.toInt ≤ 2 → 0 ≤ l4.toInt ∧ l4.toInt ≤ 146034 → l4.toInt % 366 = 0 → 0 ≤ l5.toInt ∧ l5.toInt ≤ 40 → 0 ≤ l10.toInt ∧ l10.toInt ≤ 40 → jJ jSgM Dy h → jSm fp_X12_partLevy_r125d h0 h → K396 l3.toInt l4.toInt l5.toInt l10.toInt (vw h) = dr → jX m_X12_partLevy 12 0 0 396 [(0, .ref 125), (3, .int l3), (4, .int l4), (5, .int l5), (10, .int l10)] [] h 0 0 Q) : ∀ (l3 : Int32) (l4 : Int32) (l5 : Int32) (l10 : Int32) (s0 : Int32) (h : jH), 0 ≤ l3.toInt ∧ l3.toInt ≤ 2 → 0 ≤ l4.toInt ∧ l4.toInt ≤ 146034 → l4.toInt % 366 = 0 → 1 ≤ l5.toInt ∧ l5.toInt ≤ 40 → 0 ≤ l10.toInt ∧ l10.toInt ≤ 39 → 0 ≤ s0.toInt ∧ s0.toInt ≤ 39 → 40 - l10.toInt ≤ R396 → jJ jSgM Dy h → jSm fp_X12_partLevy_r125d h0 h → d_X12_partLevy_r125d_482 K396  l3.toInt l4.toInt l5.toInt l10.toInt s0.toInt (vw h) = dr → jX m_X12_partLevy 12 0 0 482 [(0, .ref 125), (3, .int l3), (4, .int l4), (5, .int l5), (10, .int l10)] [.int s0, .ref 165] h 0 0 Q := by
  intro l3 l4 l5 l10 s0 h y0 y1 y2 y3 y4 y5  m396 J Sm D
  unfold d_X12_partLevy_r125d_482 at D
  refine x_aloadn (x := 125) rfl rfl ?_
  refine z_getR (N := 92) (b := 165) 12 80 rfl f_12_153 rfl J rfl 16080 ⟨rfl, rfl⟩ rfl ?_
  refine x_iload (x := l10) rfl rfl ?_
  refine z_laldQ (N := 40) rfl J rfl rfl (by omega) (fun v1 qv1 => ?_)
  have ev1 := jfullL v1
  try rw [vrdL qv1 (show l10.toInt = l10.toInt from by omega)] at D
  exact jX.sub (jsb_c rfl (jsb_c rfl (jsb_c rfl (jsb_c rfl (jsb_c rfl jsb_n))))) (ct_X12_partLevy_r125d_489 hD hQ k396 l3 l4 l5 l10 v1 s0 h (jr_of rfl (by omega)) (jr_of rfl (by omega)) (jr_mod rfl (by omega)) (jr_of rfl (by omega)) (jr_of rfl (by omega)) (jr_of rfl (by omega)) (by omega) J Sm D)
set_option maxRecDepth 100000 in
set_option maxHeartbeats 4000000 in
theorem ct_X12_partLevy_r125d_448 {Dy : jH → Prop} {h0 : jH} {Q : Option Value → jH → Prop} {dr : jW} {K396 : Int → Int → Int → Int → jW → jW} {R396 : Int} (hD : jDk Dy) (hQ : ∀ hx9, jJ jSgM Dy hx9 → jSm fp_X12_partLevy_r125d h0 hx9 → dr = vw hx9 → Q none hx9) (k396 : ∀ (l3 : Int32) (l4 : Int32) (l5 : Int32) (l10 : Int32) (h : jH), 40 - l10.toInt < R396 → 0 ≤ l3.toInt ∧ l3.toInt ≤ 2 → 0 ≤ l4.toInt ∧ l4.toInt ≤ 146034 → l4.toInt % 366 = 0 → 0 ≤ l5.toInt ∧ l5.toInt ≤ 40 → 0 ≤ l10.toInt ∧ l10.toInt ≤ 40 → jJ jSgM Dy h → jSm fp_X12_partLevy_r125d h0 h → K396 l3.toInt l4.toInt l5.toInt l10.toInt (vw h) = dr → jX m_X12_partLevy 12 0 0 396 [(0, .ref 125), (3, .int l3), (4, .int l4), (5, .int l5), (10, .int l10)] [] h 0 0 Q) : ∀ (l3 : Int32) (l4 : Int32) (l5 : Int32) (l10 : Int32) (s0 : Int64) (h : jH), 0 ≤ l3.toInt ∧ l3.toInt ≤ 2 → 0 ≤ l4.toInt ∧ l4.toInt ≤ 146034 → l4.toInt % 366 = 0 → 1 ≤ l5.toInt ∧ l5.toInt ≤ 40 → 0 ≤ l10.toInt ∧ l10.toInt ≤ 39 → 40 - l10.toInt ≤ R396 → jJ jSgM Dy h → jSm fp_X12_partLevy_r125d h0 h → d_X12_partLevy_r125d_448 K396  l3.toInt l4.toInt l5.toInt l10.toInt s0.toInt (vw h) = dr → jX m_X12_partLevy 12 0 0 448 [(0, .ref 125), (3, .int l3), (4, .int l4), (5, .int l5), (10, .int l10)] [.long s0] h 0 0 Q := by
  intro l3 l4 l5 l10 s0 h y0 y1 y2 y3 y4  m396 J Sm D
  have es0 := jfullL s0
  unfold d_X12_partLevy_r125d_448 at D
  refine x_lstore (lsx9 := [(11, .long s0), (0, .ref 125), (3, .int l3), (4, .int l4), (5, .int l5), (10, .int l10)]) rfl rfl rfl ?_
  refine x_aloadn (x := 125) rfl rfl ?_
  refine z_getR (N := 92) (b := 165) 12 80 rfl f_12_153 rfl J rfl 16080 ⟨rfl, rfl⟩ rfl ?_
  refine x_iload (x := l10) rfl rfl ?_
  refine x_aloadn (x := 125) rfl rfl ?_
  refine z_getI (N := 92) 12 65 rfl f_12_752 rfl J rfl sg_125_65_66_1_0_1 (fun v1 qv1 ev1 => ?_)
  try rw [vrf qv1] at D
  refine x_iconst (v := (-1)) rfl ki_m1 ?_
  refine x_iceq (tgt := 482) rfl rfl (ti_eq rfl jk_m1 ⟨fun c2 => ?_, fun c2 => ?_⟩)
  ·
    rw [if_pos (by omega)] at D
    exact jX.sub (jsb_c rfl (jsb_c rfl (jsb_c rfl (jsb_c rfl (jsb_c rfl jsb_n))))) (ct_X12_partLevy_r125d_482 hD hQ k396 l3 l4 l5 l10 l10 h (jr_of rfl (by omega)) (jr_of rfl (by omega)) (jr_mod rfl (by omega)) (jr_of rfl (by omega)) (jr_of rfl (by omega)) (jr_of rfl (by omega)) (by omega) J Sm D)
  ·
    rw [if_neg (by omega)] at D
    refine x_aloadn (x := 125) rfl rfl ?_
    refine z_getR (N := 92) (b := 165) 12 80 rfl f_12_153 rfl J rfl 16080 ⟨rfl, rfl⟩ rfl ?_
    refine x_iload (x := l10) rfl rfl ?_
    refine z_laldQ (N := 40) rfl J rfl rfl (by omega) (fun v3 qv3 => ?_)
    have ev3 := jfullL v3
    try rw [vrdL qv3 (show l10.toInt = l10.toInt from by omega)] at D
    refine x_lload (x := s0) rfl rfl ?_
    refine z_lcmp rfl rfl rfl (fun v4 ev4 => ?_)
    refine x_ifle (tgt := 482) rfl rfl (ti_le rfl jk_0 ⟨fun c5 => ?_, fun c5 => ?_⟩)
    ·
      rw [if_pos (by omega)] at D
      exact jX.sub (jsb_c rfl (jsb_c rfl (jsb_c rfl (jsb_c rfl (jsb_c rfl jsb_n))))) (ct_X12_partLevy_r125d_482 hD hQ k396 l3 l4 l5 l10 l10 h (jr_of rfl (by omega)) (jr_of rfl (by omega)) (jr_mod rfl (by omega)) (jr_of rfl (by omega)) (jr_of rfl (by omega)) (jr_of rfl (by omega)) (by omega) J Sm D)
    ·
      rw [if_neg (by omega)] at D
      refine x_lload (x := s0) rfl rfl ?_
      refine x_goto (tgt := 489) rfl rfl ?_
      exact jX.sub (jsb_c rfl (jsb_c rfl (jsb_c rfl (jsb_c rfl (jsb_c rfl jsb_n))))) (ct_X12_partLevy_r125d_489 hD hQ k396 l3 l4 l5 l10 s0 l10 h (jr_of rfl (by omega)) (jr_of rfl (by omega)) (jr_mod rfl (by omega)) (jr_of rfl (by omega)) (jr_of rfl (by omega)) (jr_of rfl (by omega)) (by omega) J Sm D)
set_option maxRecDepth 100000 in
set_option maxHeartbeats 4000000 in
theorem ct_X12_partLevy_r125d_5000448 {Dy : jH → Prop} {h0 : jH} {Q : Option Value → jH → Prop} {dr : jW} {K396 : Int → Int → Int → Int → jW → jW} {R396 : Int} (hD : jDk Dy) (hQ : ∀ hx9, jJ jSgM Dy hx9 → jSm fp_X12_partLevy_r125d h0 hx9 → dr = vw hx9 → Q none hx9) (k396 : ∀ (l3 : Int32) (l4 : Int32) (l5 : Int32) (l10 : Int32) (h : jH), 40 - l10.toInt < R396 → 0 ≤ l3.toInt ∧ l3.toInt ≤ 2 → 0 ≤ l4.toInt ∧ l4.toInt ≤ 146034 → l4.toInt % 366 = 0 → 0 ≤ l5.toInt ∧ l5.toInt ≤ 40 → 0 ≤ l10.toInt ∧ l10.toInt ≤ 40 → jJ jSgM Dy h → jSm fp_X12_partLevy_r125d h0 h → K396 l3.toInt l4.toInt l5.toInt l10.toInt (vw h) = dr → jX m_X12_partLevy 12 0 0 396 [(0, .ref 125), (3, .int l3), (4, .int l4), (5, .int l5), (10, .int l10)] [] h 0 0 Q) : ∀ (l3 : Int32) (l4 : Int32) (l5 : Int32) (l10 : Int32) (h : jH), 0 ≤ l3.toInt ∧ l3.toInt ≤ 2 → 0 ≤ l4.toInt ∧ l4.toInt ≤ 146034 → l4.toInt % 366 = 0 → 1 ≤ l5.toInt ∧ l5.toInt ≤ 40 → 0 ≤ l10.toInt ∧ l10.toInt ≤ 39 → 40 - l10.toInt ≤ R396 → jJ jSgM Dy h → jSm fp_X12_partLevy_r125d h0 h → d_X12_partLevy_r125d_5000448 K396  l3.toInt l4.toInt l5.toInt l10.toInt (vw h) = dr → jX m_X12_partLevy 12 0 0 448 [(0, .ref 125), (3, .int l3), (4, .int l4), (5, .int l5), (10, .int l10)] [.long 0] h 0 0 Q := by
  intro l3 l4 l5 l10 h y0 y1 y2 y3 y4  m396 J Sm D
  unfold d_X12_partLevy_r125d_5000448 at D
  refine x_lstore (lsx9 := [(11, .long 0), (0, .ref 125), (3, .int l3), (4, .int l4), (5, .int l5), (10, .int l10)]) rfl rfl rfl ?_
  refine x_aloadn (x := 125) rfl rfl ?_
  refine z_getR (N := 92) (b := 165) 12 80 rfl f_12_153 rfl J rfl 16080 ⟨rfl, rfl⟩ rfl ?_
  refine x_iload (x := l10) rfl rfl ?_
  refine x_aloadn (x := 125) rfl rfl ?_
  refine z_getI (N := 92) 12 65 rfl f_12_752 rfl J rfl sg_125_65_66_1_0_1 (fun v1 qv1 ev1 => ?_)
  try rw [vrf qv1] at D
  refine x_iconst (v := (-1)) rfl ki_m1 ?_
  refine x_iceq (tgt := 482) rfl rfl (ti_eq rfl jk_m1 ⟨fun c2 => ?_, fun c2 => ?_⟩)
  ·
    rw [if_pos (by omega)] at D
    exact jX.sub (jsb_c rfl (jsb_c rfl (jsb_c rfl (jsb_c rfl (jsb_c rfl jsb_n))))) (ct_X12_partLevy_r125d_482 hD hQ k396 l3 l4 l5 l10 l10 h (jr_of rfl (by omega)) (jr_of rfl (by omega)) (jr_mod rfl (by omega)) (jr_of rfl (by omega)) (jr_of rfl (by omega)) (jr_of rfl (by omega)) (by omega) J Sm D)
  ·
    rw [if_neg (by omega)] at D
    refine x_aloadn (x := 125) rfl rfl ?_
    refine z_getR (N := 92) (b := 165) 12 80 rfl f_12_153 rfl J rfl 16080 ⟨rfl, rfl⟩ rfl ?_
    refine x_iload (x := l10) rfl rfl ?_
    refine z_laldQ (N := 40) rfl J rfl rfl (by omega) (fun v3 qv3 => ?_)
    have ev3 := jfullL v3
    try rw [vrdL qv3 (show l10.toInt = l10.toInt from by omega)] at D
    refine x_lload (x := 0) rfl rfl ?_
    refine z_lcmp rfl rfl jkl_0 (fun v4 ev4 => ?_)
    refine x_ifle (tgt := 482) rfl rfl (ti_le rfl jk_0 ⟨fun c5 => ?_, fun c5 => ?_⟩)
    ·
      rw [if_pos (by omega)] at D
      exact jX.sub (jsb_c rfl (jsb_c rfl (jsb_c rfl (jsb_c rfl (jsb_c rfl jsb_n))))) (ct_X12_partLevy_r125d_482 hD hQ k396 l3 l4 l5 l10 l10 h (jr_of rfl (by omega)) (jr_of rfl (by omega)) (jr_mod rfl (by omega)) (jr_of rfl (by omega)) (jr_of rfl (by omega)) (jr_of rfl (by omega)) (by omega) J Sm D)
    ·
      rw [if_neg (by omega)] at D
      refine x_lload (x := 0) rfl rfl ?_
      refine x_goto (tgt := 489) rfl rfl ?_
      exact jX.sub (jsb_c rfl (jsb_c rfl (jsb_c rfl (jsb_c rfl (jsb_c rfl jsb_n))))) (ct_X12_partLevy_r125d_5000489 hD hQ k396 l3 l4 l5 l10 l10 h (jr_of rfl (by omega)) (jr_of rfl (by omega)) (jr_mod rfl (by omega)) (jr_of rfl (by omega)) (jr_of rfl (by omega)) (jr_of rfl (by omega)) (by omega) J Sm D)
set_option maxRecDepth 100000 in
set_option maxHeartbeats 4000000 in
theorem ct_X12_partLevy_r125d_396 {Dy : jH → Prop} {h0 : jH} {Q : Option Value → jH → Prop} {dr : jW} (hD : jDk Dy) (hQ : ∀ hx9, jJ jSgM Dy hx9 → jSm fp_X12_partLevy_r125d h0 hx9 → dr = vw hx9 → Q none hx9) : ∀ r : Nat, ∀ (l3 : Int32) (l4 : Int32) (l5 : Int32) (l10 : Int32) (h : jH), 40 - l10.toInt < (r : Int) → 0 ≤ l3.toInt ∧ l3.toInt ≤ 2 → 0 ≤ l4.toInt ∧ l4.toInt ≤ 146034 → l4.toInt % 366 = 0 → 0 ≤ l5.toInt ∧ l5.toInt ≤ 40 → 0 ≤ l10.toInt ∧ l10.toInt ≤ 40 → jJ jSgM Dy h → jSm fp_X12_partLevy_r125d h0 h → d_X12_partLevy_r125d_396 r l3.toInt l4.toInt l5.toInt l10.toInt (vw h) = dr → jX m_X12_partLevy 12 0 0 396 [(0, .ref 125), (3, .int l3), (4, .int l4), (5, .int l5), (10, .int l10)] [] h 0 0 Q := by
  intro r
  induction r with
  | zero =>
    intro l3 l4 l5 l10 h hm y0 y1 y2 y3 y4   J Sm D
    exfalso
    omega
  | succ r ih =>
    intro l3 l4 l5 l10 h hm y0 y1 y2 y3 y4   J Sm D
    rw [d_X12_partLevy_r125d_396.eq_2] at D
    refine x_iload (x := l10) rfl rfl ?_
    refine x_iload (x := l5) rfl rfl ?_
    refine x_icge (tgt := 496) rfl rfl (ti_ge rfl rfl ⟨fun c1 => ?_, fun c1 => ?_⟩)
    ·
      rw [if_pos (by omega)] at D
      refine x_vret rfl rfl ?_
      exact hQ _ J Sm D.symm
    ·
      rw [if_neg (by omega)] at D
      refine x_aloadn (x := 125) rfl rfl ?_
      refine z_getR (N := 92) (b := 167) 12 82 rfl f_12_159 rfl J rfl 16082 ⟨rfl, rfl⟩ rfl ?_
      refine x_iload (x := l10) rfl rfl ?_
      refine z_zald (N := 40) rfl J rfl sg_167_0_40_1_0_1 rfl (by omega) (fun v2 qv2 ev2 => ?_)
      try rw [vrd qv2 (show l10.toInt = l10.toInt from by omega)] at D
      refine x_ifeq (tgt := 490) rfl rfl (ti_eq rfl jk_0 ⟨fun c3 => ?_, fun c3 => ?_⟩)
      ·
        rw [if_pos (by omega)] at D
        exact jX.sub (jsb_c rfl (jsb_c rfl (jsb_c rfl (jsb_c rfl (jsb_c rfl jsb_n))))) (ct_X12_partLevy_r125d_490 hD hQ ih l3 l4 l5 l10 h (jr_of rfl (by omega)) (jr_of rfl (by omega)) (jr_mod rfl (by omega)) (jr_of rfl (by omega)) (jr_of rfl (by omega)) (by omega) J Sm D)
      ·
        rw [if_neg (by omega)] at D
        refine x_aloadn (x := 125) rfl rfl ?_
        refine x_iconst (v := 3) rfl ki_3 ?_
        refine x_iloadn (x := l3) rfl rfl ?_
        refine x_aloadn (x := 125) rfl rfl ?_
        refine z_getR (N := 92) (b := 163) 12 78 rfl f_12_147 rfl J rfl 16078 ⟨rfl, rfl⟩ rfl ?_
        refine x_bipush (v := 40) rfl kb_40 ?_
        refine x_iload (x := l10) rfl rfl ?_
        refine z_iadd rfl jk_40 rfl (by omega) (fun v4 ev4 => ?_)
        refine z_iald (N := 80) rfl J rfl sg_163_0_80_1_0_1 rfl (by omega) (fun v5 qv5 ev5 => ?_)
        try rw [vrd qv5 (show (40 + l10.toInt) = v4.toInt from by omega)] at D
        refine x_iload (x := l4) rfl rfl ?_
        refine x_inv (N := m_X12_findCount) (As := [.int 3, .int l3, .int v5, .int l4]) (b := 125) (st := []) (dx9 := 11) (mc := 0) (ms := 0) (host := "") 12 rfl t_X12_findCount ⟨Or.inl q_12_765, i_X12_findCount.1, i_X12_findCount.2⟩ ⟨by decide, rfl⟩ (congrArg Prod.fst (J.1.1 125 (12, 92) rfl)) rfl (by decide) rfl rfl ⟨by decide, by decide⟩ (sf_X12_findCount_r125d (jr_of jk_3 (by omega)) (jr_of rfl (by omega)) (jr_of rfl (by omega)) (jr_of rfl (by omega)) hD J rfl  (fun h J S6 X7 => ?_))
        have Sm := jSm_tr rfl Sm S6
        try rw [jk_3] at X7
        rw [X7] at D
        show jX m_X12_partLevy 12 0 0 431 [(0, .ref 125), (3, .int l3), (4, .int l4), (5, .int l5), (10, .int l10)] [] _ 0 0 _
        refine x_aloadn (x := 125) rfl rfl ?_
        refine z_getLQ (N := 92) 12 64 rfl f_12_755 rfl J rfl (fun v8 qv8 => ?_)
        have ev8 := jfullL v8
        try rw [vrfL qv8] at D
        refine x_lconst (v := 0) rfl kl_0 ?_
        refine z_lcmp rfl rfl jkl_0 (fun v9 ev9 => ?_)
        refine x_ifge (tgt := 444) rfl rfl (ti_ge rfl jk_0 ⟨fun c10 => ?_, fun c10 => ?_⟩)
        ·
          rw [if_pos (by omega)] at D
          refine x_aloadn (x := 125) rfl rfl ?_
          refine z_getLQ (N := 92) 12 64 rfl f_12_755 rfl J rfl (fun v11 qv11 => ?_)
          have ev11 := jfullL v11
          try rw [show v8.toInt = v11.toInt from ((vrfL qv8).symm.trans (vrfL qv11))] at D
          try rw [vrfL qv11] at D
          exact jX.sub (jsb_c rfl (jsb_c rfl (jsb_c rfl (jsb_c rfl (jsb_c rfl jsb_n))))) (ct_X12_partLevy_r125d_448 hD hQ ih l3 l4 l5 l10 v11 h (jr_of rfl (by omega)) (jr_of rfl (by omega)) (jr_mod rfl (by omega)) (jr_of rfl (by omega)) (jr_of rfl (by omega)) (by omega) J Sm D)
        ·
          rw [if_neg (by omega)] at D
          refine x_lconst (v := 0) rfl kl_0 ?_
          refine x_goto (tgt := 448) rfl rfl ?_
          exact jX.sub (jsb_c rfl (jsb_c rfl (jsb_c rfl (jsb_c rfl (jsb_c rfl jsb_n))))) (ct_X12_partLevy_r125d_5000448 hD hQ ih l3 l4 l5 l10 h (jr_of rfl (by omega)) (jr_of rfl (by omega)) (jr_mod rfl (by omega)) (jr_of rfl (by omega)) (jr_of rfl (by omega)) (by omega) J Sm D)
set_option maxRecDepth 100000 in
set_option maxHeartbeats 4000000 in
theorem ct_X12_partLevy_r125d_355 {Dy : jH → Prop} {h0 : jH} {Q : Option Value → jH → Prop} {dr : jW} {K293 : Int → Int → Int → Int → jW → jW} {K306 : Int → Int → Int → Int → Int → Int → jW → jW} {R293 : Int} {R306 : Int} (hD : jDk Dy) (hQ : ∀ hx9, jJ jSgM Dy hx9 → jSm fp_X12_partLevy_r125d h0 hx9 → dr = vw hx9 → Q none hx9) (k293 : ∀ (l3 : Int32) (l4 : Int32) (l5 : Int32) (l8 : Int64) (h : jH), l8.toInt < R293 → 0 ≤ l3.toInt ∧ l3.toInt ≤ 2 → 0 ≤ l4.toInt ∧ l4.toInt ≤ 146034 → l4.toInt % 366 = 0 → 0 ≤ l5.toInt ∧ l5.toInt ≤ 40 → 0 ≤ l8.toInt ∧ l8.toInt ≤ 1000000 → jF3 h l5 l8 → jJ jSgM Dy h → jSm fp_X12_partLevy_r125d h0 h → K293 l3.toInt l4.toInt l5.toInt l8.toInt (vw h) = dr → jX m_X12_partLevy 12 0 0 293 [(0, .ref 125), (3, .int l3), (4, .int l4), (5, .int l5), (8, .long l8)] [] h 0 0 Q) (k306 : ∀ (l3 : Int32) (l4 : Int32) (l5 : Int32) (l8 : Int64) (l10 : Int32) (l11 : Int32) (h : jH), 40 - l11.toInt < R306 → 0 ≤ l3.toInt ∧ l3.toInt ≤ 2 → 0 ≤ l4.toInt ∧ l4.toInt ≤ 146034 → l4.toInt % 366 = 0 → 0 ≤ l5.toInt ∧ l5.toInt ≤ 40 → 1 ≤ l8.toInt ∧ l8.toInt ≤ 1000000 → (-1) ≤ l10.toInt ∧ l10.toInt ≤ 39 → 0 ≤ l11.toInt ∧ l11.toInt ≤ 40 → (jF4 h l5 l10 l8 l11.toNatClampNeg ∧ l10.toInt < l5.toInt ∧ l11.toInt ≤ l5.toInt) → l8.toInt ≤ R293 → jJ jSgM Dy h → jSm fp_X12_partLevy_r125d h0 h → K306 l3.toInt l4.toInt l5.toInt l8.toInt l10.toInt l11.toInt (vw h) = dr → jX m_X12_partLevy 12 0 0 306 [(0, .ref 125), (3, .int l3), (4, .int l4), (5, .int l5), (8, .long l8), (10, .int l10), (11, .int l11)] [] h 0 0 Q) : ∀ (l3 : Int32) (l4 : Int32) (l5 : Int32) (l8 : Int64) (l11 : Int32) (s0 : Int32) (h : jH), 0 ≤ l3.toInt ∧ l3.toInt ≤ 2 → 0 ≤ l4.toInt ∧ l4.toInt ≤ 146034 → l4.toInt % 366 = 0 → 1 ≤ l5.toInt ∧ l5.toInt ≤ 40 → 1 ≤ l8.toInt ∧ l8.toInt ≤ 1000000 → 0 ≤ l11.toInt ∧ l11.toInt ≤ 39 → (-1) ≤ s0.toInt ∧ s0.toInt ≤ 39 → (jF4 h l5 s0 l8 (l11.toNatClampNeg + 1) ∧ s0.toInt < l5.toInt ∧ l11.toInt < l5.toInt) → l8.toInt ≤ R293 → 40 - l11.toInt ≤ R306 → jJ jSgM Dy h → jSm fp_X12_partLevy_r125d h0 h → d_X12_partLevy_r125d_355 K293 K306  l3.toInt l4.toInt l5.toInt l8.toInt l11.toInt s0.toInt (vw h) = dr → jX m_X12_partLevy 12 0 0 355 [(0, .ref 125), (3, .int l3), (4, .int l4), (5, .int l5), (8, .long l8), (11, .int l11)] [.int s0] h 0 0 Q := by
  intro l3 l4 l5 l8 l11 s0 h y0 y1 y2 y3 y4 y5 y6 C0  m293 m306 J Sm D
  unfold d_X12_partLevy_r125d_355 at D
  have f1 := C0.1.1.2.1
  have f0 := C0.1.2.1
  refine x_istore (lsx9 := [(10, .int s0), (0, .ref 125), (3, .int l3), (4, .int l4), (5, .int l5), (8, .long l8), (11, .int l11)]) rfl rfl rfl ?_
  refine z_iinc (x := l11) (lsx9 := fun v1 => [(11, .int v1), (10, .int s0), (0, .ref 125), (3, .int l3), (4, .int l4), (5, .int l5), (8, .long l8)]) rfl rfl rfl jko_1 (by omega) rfl (fun _ => rfl) (fun v1 ev1 => ?_)
  refine x_goto (tgt := 306) rfl rfl ?_
  try rw [show (l11.toInt + 1) = v1.toInt from by omega] at D
  exact jX.sub (jsb_c rfl (jsb_c rfl (jsb_c rfl (jsb_c rfl (jsb_c rfl (jsb_c rfl (jsb_c rfl jsb_n))))))) (k306 l3 l4 l5 l8 s0 v1 h (by omega) (jr_of rfl (by omega)) (jr_of rfl (by omega)) (jr_mod rfl (by omega)) (jr_of rfl (by omega)) (jr_ofl rfl (by omega)) (jr_of rfl (by omega)) (jr_of rfl (by omega)) ⟨(jF4_n C0.1 (by omega)), (by have := C0.2.1; omega), (by have := C0.2.2; omega)⟩ (by omega) J Sm D)
set_option maxRecDepth 100000 in
set_option maxHeartbeats 4000000 in
theorem ct_X12_partLevy_r125d_353 {Dy : jH → Prop} {h0 : jH} {Q : Option Value → jH → Prop} {dr : jW} {K293 : Int → Int → Int → Int → jW → jW} {K306 : Int → Int → Int → Int → Int → Int → jW → jW} {R293 : Int} {R306 : Int} (hD : jDk Dy) (hQ : ∀ hx9, jJ jSgM Dy hx9 → jSm fp_X12_partLevy_r125d h0 hx9 → dr = vw hx9 → Q none hx9) (k293 : ∀ (l3 : Int32) (l4 : Int32) (l5 : Int32) (l8 : Int64) (h : jH), l8.toInt < R293 → 0 ≤ l3.toInt ∧ l3.toInt ≤ 2 → 0 ≤ l4.toInt ∧ l4.toInt ≤ 146034 → l4.toInt % 366 = 0 → 0 ≤ l5.toInt ∧ l5.toInt ≤ 40 → 0 ≤ l8.toInt ∧ l8.toInt ≤ 1000000 → jF3 h l5 l8 → jJ jSgM Dy h → jSm fp_X12_partLevy_r125d h0 h → K293 l3.toInt l4.toInt l5.toInt l8.toInt (vw h) = dr → jX m_X12_partLevy 12 0 0 293 [(0, .ref 125), (3, .int l3), (4, .int l4), (5, .int l5), (8, .long l8)] [] h 0 0 Q) (k306 : ∀ (l3 : Int32) (l4 : Int32) (l5 : Int32) (l8 : Int64) (l10 : Int32) (l11 : Int32) (h : jH), 40 - l11.toInt < R306 → 0 ≤ l3.toInt ∧ l3.toInt ≤ 2 → 0 ≤ l4.toInt ∧ l4.toInt ≤ 146034 → l4.toInt % 366 = 0 → 0 ≤ l5.toInt ∧ l5.toInt ≤ 40 → 1 ≤ l8.toInt ∧ l8.toInt ≤ 1000000 → (-1) ≤ l10.toInt ∧ l10.toInt ≤ 39 → 0 ≤ l11.toInt ∧ l11.toInt ≤ 40 → (jF4 h l5 l10 l8 l11.toNatClampNeg ∧ l10.toInt < l5.toInt ∧ l11.toInt ≤ l5.toInt) → l8.toInt ≤ R293 → jJ jSgM Dy h → jSm fp_X12_partLevy_r125d h0 h → K306 l3.toInt l4.toInt l5.toInt l8.toInt l10.toInt l11.toInt (vw h) = dr → jX m_X12_partLevy 12 0 0 306 [(0, .ref 125), (3, .int l3), (4, .int l4), (5, .int l5), (8, .long l8), (10, .int l10), (11, .int l11)] [] h 0 0 Q) : ∀ (l3 : Int32) (l4 : Int32) (l5 : Int32) (l8 : Int64) (l10 : Int32) (l11 : Int32) (h : jH), 0 ≤ l3.toInt ∧ l3.toInt ≤ 2 → 0 ≤ l4.toInt ∧ l4.toInt ≤ 146034 → l4.toInt % 366 = 0 → 1 ≤ l5.toInt ∧ l5.toInt ≤ 40 → 1 ≤ l8.toInt ∧ l8.toInt ≤ 1000000 → (-1) ≤ l10.toInt ∧ l10.toInt ≤ 39 → 0 ≤ l11.toInt ∧ l11.toInt ≤ 39 → (jF4 h l5 l10 l8 l11.toNatClampNeg ∧ l10.toInt < l5.toInt ∧ l11.toInt < l5.toInt ∧ (l10.toInt < 0 → (jlv h 166 l11.toNatClampNeg).toInt < 0)) → l8.toInt ≤ R293 → 40 - l11.toInt ≤ R306 → jJ jSgM Dy h → jSm fp_X12_partLevy_r125d h0 h → d_X12_partLevy_r125d_353 K293 K306  l3.toInt l4.toInt l5.toInt l8.toInt l10.toInt l11.toInt (vw h) = dr → jX m_X12_partLevy 12 0 0 353 [(0, .ref 125), (3, .int l3), (4, .int l4), (5, .int l5), (8, .long l8), (10, .int l10), (11, .int l11)] [] h 0 0 Q := by
  intro l3 l4 l5 l8 l10 l11 h y0 y1 y2 y3 y4 y5 y6 C0  m293 m306 J Sm D
  unfold d_X12_partLevy_r125d_353 at D
  have f1 := C0.1.1.2.1
  have f0 := C0.1.2.1
  refine x_iload (x := l10) rfl rfl ?_
  exact jX.sub (jsb_c rfl (jsb_c rfl (jsb_c rfl (jsb_c rfl (jsb_c rfl (jsb_c rfl jsb_n)))))) (ct_X12_partLevy_r125d_355 hD hQ k293 k306 l3 l4 l5 l8 l11 l10 h (jr_of rfl (by omega)) (jr_of rfl (by omega)) (jr_mod rfl (by omega)) (jr_of rfl (by omega)) (jr_ofl rfl (by omega)) (jr_of rfl (by omega)) (jr_of rfl (by omega)) ⟨(jF4_f C0.1 C0.2.2.2), C0.2.1, C0.2.2.1⟩ (by omega) (by omega) J Sm D)
set_option maxRecDepth 100000 in
set_option maxHeartbeats 4000000 in
theorem ct_X12_partLevy_r125d_348 {Dy : jH → Prop} {h0 : jH} {Q : Option Value → jH → Prop} {dr : jW} {K293 : Int → Int → Int → Int → jW → jW} {K306 : Int → Int → Int → Int → Int → Int → jW → jW} {R293 : Int} {R306 : Int} (hD : jDk Dy) (hQ : ∀ hx9, jJ jSgM Dy hx9 → jSm fp_X12_partLevy_r125d h0 hx9 → dr = vw hx9 → Q none hx9) (k293 : ∀ (l3 : Int32) (l4 : Int32) (l5 : Int32) (l8 : Int64) (h : jH), l8.toInt < R293 → 0 ≤ l3.toInt ∧ l3.toInt ≤ 2 → 0 ≤ l4.toInt ∧ l4.toInt ≤ 146034 → l4.toInt % 366 = 0 → 0 ≤ l5.toInt ∧ l5.toInt ≤ 40 → 0 ≤ l8.toInt ∧ l8.toInt ≤ 1000000 → jF3 h l5 l8 → jJ jSgM Dy h → jSm fp_X12_partLevy_r125d h0 h → K293 l3.toInt l4.toInt l5.toInt l8.toInt (vw h) = dr → jX m_X12_partLevy 12 0 0 293 [(0, .ref 125), (3, .int l3), (4, .int l4), (5, .int l5), (8, .long l8)] [] h 0 0 Q) (k306 : ∀ (l3 : Int32) (l4 : Int32) (l5 : Int32) (l8 : Int64) (l10 : Int32) (l11 : Int32) (h : jH), 40 - l11.toInt < R306 → 0 ≤ l3.toInt ∧ l3.toInt ≤ 2 → 0 ≤ l4.toInt ∧ l4.toInt ≤ 146034 → l4.toInt % 366 = 0 → 0 ≤ l5.toInt ∧ l5.toInt ≤ 40 → 1 ≤ l8.toInt ∧ l8.toInt ≤ 1000000 → (-1) ≤ l10.toInt ∧ l10.toInt ≤ 39 → 0 ≤ l11.toInt ∧ l11.toInt ≤ 40 → (jF4 h l5 l10 l8 l11.toNatClampNeg ∧ l10.toInt < l5.toInt ∧ l11.toInt ≤ l5.toInt) → l8.toInt ≤ R293 → jJ jSgM Dy h → jSm fp_X12_partLevy_r125d h0 h → K306 l3.toInt l4.toInt l5.toInt l8.toInt l10.toInt l11.toInt (vw h) = dr → jX m_X12_partLevy 12 0 0 306 [(0, .ref 125), (3, .int l3), (4, .int l4), (5, .int l5), (8, .long l8), (10, .int l10), (11, .int l11)] [] h 0 0 Q) : ∀ (l3 : Int32) (l4 : Int32) (l5 : Int32) (l8 : Int64) (l11 : Int32) (h : jH), 0 ≤ l3.toInt ∧ l3.toInt ≤ 2 → 0 ≤ l4.toInt ∧ l4.toInt ≤ 146034 → l4.toInt % 366 = 0 → 1 ≤ l5.toInt ∧ l5.toInt ≤ 40 → 1 ≤ l8.toInt ∧ l8.toInt ≤ 1000000 → 0 ≤ l11.toInt ∧ l11.toInt ≤ 39 → (jF3 h l5 l8 ∧ 0 < l8.toInt ∧ l11.toInt < l5.toInt) → l8.toInt ≤ R293 → 40 - l11.toInt ≤ R306 → jJ jSgM Dy h → jSm fp_X12_partLevy_r125d h0 h → d_X12_partLevy_r125d_348 K293 K306  l3.toInt l4.toInt l5.toInt l8.toInt l11.toInt (vw h) = dr → jX m_X12_partLevy 12 0 0 348 [(0, .ref 125), (3, .int l3), (4, .int l4), (5, .int l5), (8, .long l8), (11, .int l11)] [] h 0 0 Q := by
  intro l3 l4 l5 l8 l11 h y0 y1 y2 y3 y4 y5 C0  m293 m306 J Sm D
  unfold d_X12_partLevy_r125d_348 at D
  have f1 := C0.1.2.1
  have f0 := C0.2.1
  refine x_iload (x := l11) rfl rfl ?_
  refine x_goto (tgt := 355) rfl rfl ?_
  exact jX.sub (jsb_c rfl (jsb_c rfl (jsb_c rfl (jsb_c rfl (jsb_c rfl (jsb_c rfl jsb_n)))))) (ct_X12_partLevy_r125d_355 hD hQ k293 k306 l3 l4 l5 l8 l11 l11 h (jr_of rfl (by omega)) (jr_of rfl (by omega)) (jr_mod rfl (by omega)) (jr_of rfl (by omega)) (jr_ofl rfl (by omega)) (jr_of rfl (by omega)) (jr_of rfl (by omega)) ⟨(jF4_u C0.1 C0.2.1 (by omega)), C0.2.2, C0.2.2⟩ (by omega) (by omega) J Sm D)
set_option maxRecDepth 100000 in
set_option maxHeartbeats 4000000 in
theorem ct_X12_partLevy_r125d_306 {Dy : jH → Prop} {h0 : jH} {Q : Option Value → jH → Prop} {dr : jW} {K293 : Int → Int → Int → Int → jW → jW} {R293 : Int} (hD : jDk Dy) (hQ : ∀ hx9, jJ jSgM Dy hx9 → jSm fp_X12_partLevy_r125d h0 hx9 → dr = vw hx9 → Q none hx9) (k293 : ∀ (l3 : Int32) (l4 : Int32) (l5 : Int32) (l8 : Int64) (h : jH), l8.toInt < R293 → 0 ≤ l3.toInt ∧ l3.toInt ≤ 2 → 0 ≤ l4.toInt ∧ l4.toInt ≤ 146034 → l4.toInt % 366 = 0 → 0 ≤ l5.toInt ∧ l5.toInt ≤ 40 → 0 ≤ l8.toInt ∧ l8.toInt ≤ 1000000 → jF3 h l5 l8 → jJ jSgM Dy h → jSm fp_X12_partLevy_r125d h0 h → K293 l3.toInt l4.toInt l5.toInt l8.toInt (vw h) = dr → jX m_X12_partLevy 12 0 0 293 [(0, .ref 125), (3, .int l3), (4, .int l4), (5, .int l5), (8, .long l8)] [] h 0 0 Q) : ∀ r : Nat, ∀ (l3 : Int32) (l4 : Int32) (l5 : Int32) (l8 : Int64) (l10 : Int32) (l11 : Int32) (h : jH), 40 - l11.toInt < (r : Int) → 0 ≤ l3.toInt ∧ l3.toInt ≤ 2 → 0 ≤ l4.toInt ∧ l4.toInt ≤ 146034 → l4.toInt % 366 = 0 → 0 ≤ l5.toInt ∧ l5.toInt ≤ 40 → 1 ≤ l8.toInt ∧ l8.toInt ≤ 1000000 → (-1) ≤ l10.toInt ∧ l10.toInt ≤ 39 → 0 ≤ l11.toInt ∧ l11.toInt ≤ 40 → (jF4 h l5 l10 l8 l11.toNatClampNeg ∧ l10.toInt < l5.toInt ∧ l11.toInt ≤ l5.toInt) → l8.toInt ≤ R293 → jJ jSgM Dy h → jSm fp_X12_partLevy_r125d h0 h → d_X12_partLevy_r125d_306 K293 r l3.toInt l4.toInt l5.toInt l8.toInt l10.toInt l11.toInt (vw h) = dr → jX m_X12_partLevy 12 0 0 306 [(0, .ref 125), (3, .int l3), (4, .int l4), (5, .int l5), (8, .long l8), (10, .int l10), (11, .int l11)] [] h 0 0 Q := by
  intro r
  induction r with
  | zero =>
    intro l3 l4 l5 l8 l10 l11 h hm y0 y1 y2 y3 y4 y5 y6 C0  m293 J Sm D
    exfalso
    omega
  | succ r ih =>
    intro l3 l4 l5 l8 l10 l11 h hm y0 y1 y2 y3 y4 y5 y6 C0  m293 J Sm D
    rw [d_X12_partLevy_r125d_306.eq_2] at D
    have f1 := C0.1.1.2.1
    have f0 := C0.1.2.1
    refine x_iload (x := l11) rfl rfl ?_
    refine x_iload (x := l5) rfl rfl ?_
    refine x_icge (tgt := 363) rfl rfl (ti_ge rfl rfl ⟨fun c1 => ?_, fun c1 => ?_⟩)
    ·
      rw [if_pos (by omega)] at D
      have ip := jF4_its C0.1 (by have := C0.2.2; omega)
      refine x_aloadn (x := 125) rfl rfl ?_
      refine z_getR (N := 92) (b := 165) 12 80 rfl f_12_153 rfl J rfl 16080 ⟨rfl, rfl⟩ rfl ?_
      refine x_iload (x := l10) rfl rfl ?_
      refine x_dup2 rfl rfl rfl ?_
      refine z_laldQ (N := 40) rfl J rfl rfl (by omega) (fun v2 qv2 => ?_)
      have ev2 := jfullL v2
      try rw [vrdL qv2 (show l10.toInt = l10.toInt from by omega)] at D
      refine x_lconst (v := 1) rfl kl_1 ?_
      refine z_laddW rfl rfl jkl_1 (fun v3 ev3 => ?_)
      have fv3 := jfullL v3
      try rw [← ev3] at D
      refine z_last (N := 40) (l := 0) (u := 40) rfl hD J Sm rfl rfl rfl (by omega) rfl (fun h w4 J Sm => ?_)
      rw [vwwL w4 (show l10.toInt = l10.toInt from by omega) (show v3.toInt = v3.toInt from by omega)] at D
      refine x_aloadn (x := 125) rfl rfl ?_
      refine z_getR (N := 92) (b := 166) 12 81 rfl f_12_156 rfl J rfl 16081 ⟨rfl, rfl⟩ rfl ?_
      refine x_iload (x := l10) rfl rfl ?_
      refine x_ldc2 (v := (-1)) rfl z_12_242 ?_
      refine z_last (N := 40) (l := 0) (u := 40) rfl hD J Sm rfl rfl rfl (by omega) rfl (fun h w5 J Sm => ?_)
      rw [vwwL w5 (show l10.toInt = l10.toInt from by omega) (show (-1) = ((-1) : Int64).toInt from by have := jkl_m1; omega)] at D
      refine x_lload (x := l8) rfl rfl ?_
      refine x_lconst (v := 1) rfl kl_1 ?_
      refine z_lsub rfl rfl jkl_1 (by omega) (fun v6 ev6 => ?_)
      refine x_lstore (lsx9 := [(8, .long v6), (0, .ref 125), (3, .int l3), (4, .int l4), (5, .int l5), (10, .int l10), (11, .int l11)]) rfl rfl rfl ?_
      refine x_goto (tgt := 293) rfl rfl ?_
      try rw [show (l8.toInt - 1) = v6.toInt from by omega] at D
      exact jX.sub (jsb_c rfl (jsb_c rfl (jsb_c rfl (jsb_c rfl (jsb_c rfl jsb_n))))) (k293 l3 l4 l5 v6 h (by omega) (jr_of rfl (by omega)) (jr_of rfl (by omega)) (jr_mod rfl (by omega)) (jr_of rfl (by omega)) (jr_ofl rfl (by omega)) (jF3_s (k := l10) C0.1.1 C0.1.2.1 (by omega) (jlq_s w5 (fun q => q rfl) (jlq_o w4 rfl jlq_0)) (by rw [jlv_w w5]; decide) (by omega)) J Sm D)
    ·
      rw [if_neg (by omega)] at D
      refine x_aloadn (x := 125) rfl rfl ?_
      refine z_getR (N := 92) (b := 166) 12 81 rfl f_12_156 rfl J rfl 16081 ⟨rfl, rfl⟩ rfl ?_
      refine x_iload (x := l11) rfl rfl ?_
      refine z_laldQ (N := 40) rfl J rfl rfl (by omega) (fun v7 qv7 => ?_)
      have ev7 := jfullL v7
      try rw [vrdL qv7 (show l11.toInt = l11.toInt from by omega)] at D
      refine x_lconst (v := 0) rfl kl_0 ?_
      refine z_lcmp rfl rfl jkl_0 (fun v8 ev8 => ?_)
      refine x_iflt (tgt := 353) rfl rfl (ti_lt rfl jk_0 ⟨fun c9 => ?_, fun c9 => ?_⟩)
      ·
        rw [if_pos (by omega)] at D
        exact jX.sub (jsb_c rfl (jsb_c rfl (jsb_c rfl (jsb_c rfl (jsb_c rfl (jsb_c rfl (jsb_c rfl jsb_n))))))) (ct_X12_partLevy_r125d_353 hD hQ k293 ih l3 l4 l5 l8 l10 l11 h (jr_of rfl (by omega)) (jr_of rfl (by omega)) (jr_mod rfl (by omega)) (jr_of rfl (by omega)) (jr_ofl rfl (by omega)) (jr_of rfl (by omega)) (jr_of rfl (by omega)) ⟨C0.1, C0.2.1, (by omega), (fun _ => by rw [qv7]; omega)⟩ (by omega) (by omega) J Sm D)
      ·
        rw [if_neg (by omega)] at D
        refine x_iload (x := l10) rfl rfl ?_
        refine x_iflt (tgt := 348) rfl rfl (ti_lt rfl jk_0 ⟨fun c10 => ?_, fun c10 => ?_⟩)
        ·
          rw [if_pos (by omega)] at D
          exact jX.sub (jsb_c rfl (jsb_c rfl (jsb_c rfl (jsb_c rfl (jsb_c rfl (jsb_c rfl jsb_n)))))) (ct_X12_partLevy_r125d_348 hD hQ k293 ih l3 l4 l5 l8 l11 h (jr_of rfl (by omega)) (jr_of rfl (by omega)) (jr_mod rfl (by omega)) (jr_of rfl (by omega)) (jr_ofl rfl (by omega)) (jr_of rfl (by omega)) ⟨C0.1.1, C0.1.2.1, (by omega)⟩ (by omega) (by omega) J Sm D)
        ·
          rw [if_neg (by omega)] at D
          refine x_aloadn (x := 125) rfl rfl ?_
          refine z_getR (N := 92) (b := 166) 12 81 rfl f_12_156 rfl J rfl 16081 ⟨rfl, rfl⟩ rfl ?_
          refine x_iload (x := l11) rfl rfl ?_
          refine z_laldQ (N := 40) rfl J rfl rfl (by omega) (fun v11 qv11 => ?_)
          have ev11 := jfullL v11
          try rw [show v7.toInt = v11.toInt from ((vrdL qv7 (show l11.toInt = l11.toInt from by omega)).symm.trans (vrdL qv11 (show l11.toInt = l11.toInt from by omega)))] at D
          try rw [vrdL qv11 (show l11.toInt = l11.toInt from by omega)] at D
          refine x_aloadn (x := 125) rfl rfl ?_
          refine z_getR (N := 92) (b := 166) 12 81 rfl f_12_156 rfl J rfl 16081 ⟨rfl, rfl⟩ rfl ?_
          refine x_iload (x := l10) rfl rfl ?_
          refine z_laldQ (N := 40) rfl J rfl rfl (by omega) (fun v12 qv12 => ?_)
          have ev12 := jfullL v12
          try rw [vrdL qv12 (show l10.toInt = l10.toInt from by omega)] at D
          refine z_lcmp rfl rfl rfl (fun v13 ev13 => ?_)
          refine x_ifle (tgt := 353) rfl rfl (ti_le rfl jk_0 ⟨fun c14 => ?_, fun c14 => ?_⟩)
          ·
            rw [if_pos (by omega)] at D
            exact jX.sub (jsb_c rfl (jsb_c rfl (jsb_c rfl (jsb_c rfl (jsb_c rfl (jsb_c rfl (jsb_c rfl jsb_n))))))) (ct_X12_partLevy_r125d_353 hD hQ k293 ih l3 l4 l5 l8 l10 l11 h (jr_of rfl (by omega)) (jr_of rfl (by omega)) (jr_mod rfl (by omega)) (jr_of rfl (by omega)) (jr_ofl rfl (by omega)) (jr_of rfl (by omega)) (jr_of rfl (by omega)) ⟨C0.1, C0.2.1, (by omega), (fun q => absurd q (by omega))⟩ (by omega) (by omega) J Sm D)
          ·
            rw [if_neg (by omega)] at D
            exact jX.sub (jsb_c rfl (jsb_c rfl (jsb_c rfl (jsb_c rfl (jsb_c rfl (jsb_c rfl jsb_n)))))) (ct_X12_partLevy_r125d_348 hD hQ k293 ih l3 l4 l5 l8 l11 h (jr_of rfl (by omega)) (jr_of rfl (by omega)) (jr_mod rfl (by omega)) (jr_of rfl (by omega)) (jr_ofl rfl (by omega)) (jr_of rfl (by omega)) ⟨C0.1.1, C0.1.2.1, (by omega)⟩ (by omega) (by omega) J Sm D)
set_option maxRecDepth 100000 in
set_option maxHeartbeats 4000000 in
theorem ct_X12_partLevy_r125d_293 {Dy : jH → Prop} {h0 : jH} {Q : Option Value → jH → Prop} {dr : jW} (hD : jDk Dy) (hQ : ∀ hx9, jJ jSgM Dy hx9 → jSm fp_X12_partLevy_r125d h0 hx9 → dr = vw hx9 → Q none hx9) : ∀ r : Nat, ∀ (l3 : Int32) (l4 : Int32) (l5 : Int32) (l8 : Int64) (h : jH), l8.toInt < (r : Int) → 0 ≤ l3.toInt ∧ l3.toInt ≤ 2 → 0 ≤ l4.toInt ∧ l4.toInt ≤ 146034 → l4.toInt % 366 = 0 → 0 ≤ l5.toInt ∧ l5.toInt ≤ 40 → 0 ≤ l8.toInt ∧ l8.toInt ≤ 1000000 → jF3 h l5 l8 → jJ jSgM Dy h → jSm fp_X12_partLevy_r125d h0 h → d_X12_partLevy_r125d_293 r l3.toInt l4.toInt l5.toInt l8.toInt (vw h) = dr → jX m_X12_partLevy 12 0 0 293 [(0, .ref 125), (3, .int l3), (4, .int l4), (5, .int l5), (8, .long l8)] [] h 0 0 Q := by
  intro r
  induction r with
  | zero =>
    intro l3 l4 l5 l8 h hm y0 y1 y2 y3 y4 C0   J Sm D
    exfalso
    have := C0.1; omega
  | succ r ih =>
    intro l3 l4 l5 l8 h hm y0 y1 y2 y3 y4 C0   J Sm D
    rw [d_X12_partLevy_r125d_293.eq_2] at D
    refine x_lload (x := l8) rfl rfl ?_
    refine x_lconst (v := 0) rfl kl_0 ?_
    refine z_lcmp rfl rfl jkl_0 (fun v1 ev1 => ?_)
    refine x_ifle (tgt := 393) rfl rfl (ti_le rfl jk_0 ⟨fun c2 => ?_, fun c2 => ?_⟩)
    ·
      rw [if_pos (by omega)] at D
      refine x_iconst (v := 0) rfl ki_0 ?_
      refine x_istore (lsx9 := [(10, .int 0), (0, .ref 125), (3, .int l3), (4, .int l4), (5, .int l5), (8, .long l8)]) rfl rfl rfl ?_
      exact jX.sub (jsb_c rfl (jsb_c rfl (jsb_c rfl (jsb_c rfl (jsb_c rfl jsb_n))))) (ct_X12_partLevy_r125d_396 hD hQ  41 l3 l4 l5 0 h (by have := jk_0; omega) (jr_of rfl (by omega)) (jr_of rfl (by omega)) (jr_mod rfl (by omega)) (jr_of rfl (by omega)) (jr_of jk_0 (by omega)) J Sm (by rw [jk_0]; exact D))
    ·
      rw [if_neg (by omega)] at D
      refine x_iconst (v := (-1)) rfl ki_m1 ?_
      refine x_istore (lsx9 := [(10, .int (-1)), (0, .ref 125), (3, .int l3), (4, .int l4), (5, .int l5), (8, .long l8)]) rfl rfl rfl ?_
      refine x_iconst (v := 0) rfl ki_0 ?_
      refine x_istore (lsx9 := [(11, .int 0), (10, .int (-1)), (0, .ref 125), (3, .int l3), (4, .int l4), (5, .int l5), (8, .long l8)]) rfl rfl rfl ?_
      exact jX.sub (jsb_c rfl (jsb_c rfl (jsb_c rfl (jsb_c rfl (jsb_c rfl (jsb_c rfl (jsb_c rfl jsb_n))))))) (ct_X12_partLevy_r125d_306 hD hQ ih 41 l3 l4 l5 l8 (-1) 0 h (by have := jk_0; omega) (jr_of rfl (by omega)) (jr_of rfl (by omega)) (jr_mod rfl (by omega)) (jr_of rfl (by omega)) (jr_ofl rfl (by omega)) (jr_of jk_m1 (by omega)) (jr_of jk_0 (by omega)) ⟨(jF4_0 C0 (by omega)), (by have := jk_m1; omega), (by have := jk_0; omega)⟩ (by omega) J Sm (by rw [jk_m1, jk_0]; exact D))
set_option maxRecDepth 100000 in
set_option maxHeartbeats 4000000 in
theorem ct_X12_partLevy_r125d_287 {Dy : jH → Prop} {h0 : jH} {Q : Option Value → jH → Prop} {dr : jW} {K196 : Int → Int → Int → Int → Int → Int → Int → jW → jW} {R196 : Int} (hD : jDk Dy) (hQ : ∀ hx9, jJ jSgM Dy hx9 → jSm fp_X12_partLevy_r125d h0 hx9 → dr = vw hx9 → Q none hx9) (k196 : ∀ (l2 : Int32) (l3 : Int32) (l4 : Int32) (l5 : Int32) (l6 : Int64) (l8 : Int64) (l10 : Int32) (h : jH), 40 - l10.toInt < R196 → 48300 ≤ l2.toInt ∧ l2.toInt ≤ 48456 → l2.toInt % 4 = 0 → 0 ≤ l3.toInt ∧ l3.toInt ≤ 2 → 0 ≤ l4.toInt ∧ l4.toInt ≤ 146034 → l4.toInt % 366 = 0 → 0 ≤ l5.toInt ∧ l5.toInt ≤ 40 → 0 ≤ l6.toInt ∧ l6.toInt ≤ 88046829527 → 0 ≤ l8.toInt ∧ l8.toInt ≤ 1000000 → 0 ≤ l10.toInt ∧ l10.toInt ≤ 40 → (jF2 h l5 l2 l6 l8 l10.toNatClampNeg ∧ l10.toInt ≤ l5.toInt) → jJ jSgM Dy h → jSm fp_X12_partLevy_r125d h0 h → K196 l2.toInt l3.toInt l4.toInt l5.toInt l6.toInt l8.toInt l10.toInt (vw h) = dr → jX m_X12_partLevy 12 0 0 196 [(0, .ref 125), (2, .int l2), (3, .int l3), (4, .int l4), (5, .int l5), (6, .long l6), (8, .long l8), (10, .int l10)] [] h 0 0 Q) : ∀ (l2 : Int32) (l3 : Int32) (l4 : Int32) (l5 : Int32) (l6 : Int64) (l8 : Int64) (l10 : Int32) (h : jH), 48300 ≤ l2.toInt ∧ l2.toInt ≤ 48456 → l2.toInt % 4 = 0 → 0 ≤ l3.toInt ∧ l3.toInt ≤ 2 → 0 ≤ l4.toInt ∧ l4.toInt ≤ 146034 → l4.toInt % 366 = 0 → 1 ≤ l5.toInt ∧ l5.toInt ≤ 40 → 0 ≤ l6.toInt ∧ l6.toInt ≤ 88046829527 → (-2147483647000000) ≤ l8.toInt ∧ l8.toInt ≤ 1000000 → 0 ≤ l10.toInt ∧ l10.toInt ≤ 39 → (jF2 h l5 l2 l6 l8 (l10.toNatClampNeg + 1) ∧ l10.toInt < l5.toInt) → 40 - l10.toInt ≤ R196 → jJ jSgM Dy h → jSm fp_X12_partLevy_r125d h0 h → d_X12_partLevy_r125d_287 K196  l2.toInt l3.toInt l4.toInt l5.toInt l6.toInt l8.toInt l10.toInt (vw h) = dr → jX m_X12_partLevy 12 0 0 287 [(0, .ref 125), (2, .int l2), (3, .int l3), (4, .int l4), (5, .int l5), (6, .long l6), (8, .long l8), (10, .int l10)] [] h 0 0 Q := by
  intro l2 l3 l4 l5 l6 l8 l10 h y0 y1 y2 y3 y4 y5 y6 y7 y8 C0  m196 J Sm D
  unfold d_X12_partLevy_r125d_287 at D
  have ja := jcl_of (d := l10) (by omega)
  have jn := jcl_of (d := l5) (by omega)
  have fb := jF2_b C0.1 (by have := C0.2; omega)
  have jb := jsv_b C0.1.2.1
  have j1 := C0.1.1
  refine z_iinc (x := l10) (lsx9 := fun v1 => [(10, .int v1), (0, .ref 125), (2, .int l2), (3, .int l3), (4, .int l4), (5, .int l5), (6, .long l6), (8, .long l8)]) rfl rfl rfl jko_1 (by omega) rfl (fun _ => rfl) (fun v1 ev1 => ?_)
  refine x_goto (tgt := 196) rfl rfl ?_
  try rw [show (l10.toInt + 1) = v1.toInt from by omega] at D
  exact jX.sub (jsb_c rfl (jsb_c rfl (jsb_c rfl (jsb_c rfl (jsb_c rfl (jsb_c rfl (jsb_c rfl (jsb_c rfl jsb_n)))))))) (k196 l2 l3 l4 l5 l6 l8 v1 h (by omega) (jr_of rfl (by omega)) (jr_mod rfl (by omega)) (jr_of rfl (by omega)) (jr_of rfl (by omega)) (jr_mod rfl (by omega)) (jr_of rfl (by omega)) (jr_ofl rfl (by omega)) (jr_ofl rfl (by omega)) (jr_of rfl (by omega)) ⟨(jF2_n C0.1 (by omega)), (by have := C0.2; omega)⟩ J Sm D)
set_option maxRecDepth 100000 in
set_option maxHeartbeats 4000000 in
theorem ct_X12_partLevy_r125d_196 {Dy : jH → Prop} {h0 : jH} {Q : Option Value → jH → Prop} {dr : jW} (hD : jDk Dy) (hQ : ∀ hx9, jJ jSgM Dy hx9 → jSm fp_X12_partLevy_r125d h0 hx9 → dr = vw hx9 → Q none hx9) : ∀ r : Nat, ∀ (l2 : Int32) (l3 : Int32) (l4 : Int32) (l5 : Int32) (l6 : Int64) (l8 : Int64) (l10 : Int32) (h : jH), 40 - l10.toInt < (r : Int) → 48300 ≤ l2.toInt ∧ l2.toInt ≤ 48456 → l2.toInt % 4 = 0 → 0 ≤ l3.toInt ∧ l3.toInt ≤ 2 → 0 ≤ l4.toInt ∧ l4.toInt ≤ 146034 → l4.toInt % 366 = 0 → 0 ≤ l5.toInt ∧ l5.toInt ≤ 40 → 0 ≤ l6.toInt ∧ l6.toInt ≤ 88046829527 → 0 ≤ l8.toInt ∧ l8.toInt ≤ 1000000 → 0 ≤ l10.toInt ∧ l10.toInt ≤ 40 → (jF2 h l5 l2 l6 l8 l10.toNatClampNeg ∧ l10.toInt ≤ l5.toInt) → jJ jSgM Dy h → jSm fp_X12_partLevy_r125d h0 h → d_X12_partLevy_r125d_196 r l2.toInt l3.toInt l4.toInt l5.toInt l6.toInt l8.toInt l10.toInt (vw h) = dr → jX m_X12_partLevy 12 0 0 196 [(0, .ref 125), (2, .int l2), (3, .int l3), (4, .int l4), (5, .int l5), (6, .long l6), (8, .long l8), (10, .int l10)] [] h 0 0 Q := by
  intro r
  induction r with
  | zero =>
    intro l2 l3 l4 l5 l6 l8 l10 h hm y0 y1 y2 y3 y4 y5 y6 y7 y8 C0   J Sm D
    exfalso
    omega
  | succ r ih =>
    intro l2 l3 l4 l5 l6 l8 l10 h hm y0 y1 y2 y3 y4 y5 y6 y7 y8 C0   J Sm D
    rw [d_X12_partLevy_r125d_196.eq_2] at D
    have ja := jcl_of (d := l10) (by omega)
    have jn := jcl_of (d := l5) (by omega)
    have fb := jF2_b C0.1 (by have := C0.2; omega)
    have jb := jsv_b C0.1.2.1
    have j1 := C0.1.1
    refine x_iload (x := l10) rfl rfl ?_
    refine x_iload (x := l5) rfl rfl ?_
    refine x_icge (tgt := 293) rfl rfl (ti_ge rfl rfl ⟨fun c1 => ?_, fun c1 => ?_⟩)
    ·
      rw [if_pos (by omega)] at D
      exact jX.sub (jsb_c rfl (jsb_c rfl (jsb_c rfl (jsb_c rfl (jsb_c rfl jsb_n))))) (ct_X12_partLevy_r125d_293 hD hQ  1000001 l3 l4 l5 l8 h (by have q := jF3_of C0.1 (by have := C0.2; omega); have := q.2.1; omega) (jr_of rfl (by omega)) (jr_of rfl (by omega)) (jr_mod rfl (by omega)) (jr_of rfl (by omega)) (jr_ofl rfl (by omega)) (jF3_of C0.1 (by have := C0.2; omega)) J Sm D)
    ·
      rw [if_neg (by omega)] at D
      refine x_aloadn (x := 125) rfl rfl ?_
      refine z_getR (N := 92) (b := 167) 12 82 rfl f_12_159 rfl J rfl 16082 ⟨rfl, rfl⟩ rfl ?_
      refine x_iload (x := l10) rfl rfl ?_
      refine z_zald (N := 40) rfl J rfl sg_167_0_40_1_0_1 rfl (by omega) (fun v2 qv2 ev2 => ?_)
      try rw [vrd qv2 (show l10.toInt = l10.toInt from by omega)] at D
      refine x_ifeq (tgt := 287) rfl rfl (ti_eq rfl jk_0 ⟨fun c3 => ?_, fun c3 => ?_⟩)
      ·
        rw [if_pos (by omega)] at D
        exact jX.sub (jsb_c rfl (jsb_c rfl (jsb_c rfl (jsb_c rfl (jsb_c rfl (jsb_c rfl (jsb_c rfl (jsb_c rfl jsb_n)))))))) (ct_X12_partLevy_r125d_287 hD hQ ih l2 l3 l4 l5 l6 l8 l10 h (jr_of rfl (by omega)) (jr_mod rfl (by omega)) (jr_of rfl (by omega)) (jr_of rfl (by omega)) (jr_mod rfl (by omega)) (jr_of rfl (by omega)) (jr_ofl rfl (by omega)) (jr_ofl rfl (by omega)) (jr_of rfl (by omega)) ⟨(jF2_k C0.1 qv2 (by omega)), (by omega)⟩ (by omega) J Sm D)
      ·
        rw [if_neg (by omega)] at D
        refine x_aloadn (x := 125) rfl rfl ?_
        refine z_getR (N := 92) (b := 165) 12 80 rfl f_12_153 rfl J rfl 16080 ⟨rfl, rfl⟩ rfl ?_
        refine x_iload (x := l10) rfl rfl ?_
        refine x_aloadn (x := 125) rfl rfl ?_
        refine z_getR (N := 92) (b := 126) 12 2 rfl f_12_8 rfl J rfl 16002 ⟨rfl, rfl⟩ rfl ?_
        refine x_iloadn (x := l2) rfl rfl ?_
        refine x_iconst (v := 2) rfl ki_2 ?_
        refine z_iadd rfl rfl jk_2 (by omega) (fun v4 ev4 => ?_)
        refine z_iald (N := 50660) rfl J rfl sg_126_48300_48460_4_2_3 rfl (by omega) (fun v5 qv5 ev5 => ?_)
        try rw [vrd qv5 (show (l2.toInt + 2) = v4.toInt from by omega)] at D
        have pq := jPn_q (l := l2) qv5 (by omega) (by omega)
        have pb := C0.1.2.2.2.2.2.2
        refine z_i2l rfl rfl (fun v6 ev6 => ?_)
        refine x_aloadn (x := 125) rfl rfl ?_
        refine z_getR (N := 92) (b := 162) 12 77 rfl f_12_144 rfl J rfl 16077 ⟨rfl, rfl⟩ rfl ?_
        refine x_bipush (v := 40) rfl kb_40 ?_
        refine x_iload (x := l10) rfl rfl ?_
        refine z_iadd rfl jk_40 rfl (by omega) (fun v7 ev7 => ?_)
        refine z_iald0 (N := 80) rfl J rfl rfl (by omega) (fun v8 qv8 => ?_)
        have ev8 := jfull v8
        try rw [vrd qv8 (show (40 + l10.toInt) = v7.toInt from by omega)] at D
        have vq := jpv_t (l := l10) qv2 (by omega) qv8 (by omega) (by omega)
        have vp := jPp_v (n := l5) (l := l10) C0.1.2.1 qv2 (by omega) qv8 (by omega) (by omega)
        have vb := jF2_v C0.1 (by omega)
        refine z_i2l rfl rfl (fun v9 ev9 => ?_)
        refine z_lmulQ (A := 1000000) (B := 2147483647) rfl rfl rfl (by omega) (by omega) rfl (by decide) (fun v10 ev10 => ?_)
        try rw [show v5.toInt = v6.toInt from by omega] at D
        try rw [show v8.toInt = v9.toInt from by omega] at D
        try rw [← ev10.1] at D
        refine x_lload (x := l6) rfl rfl ?_
        refine z_ldivQ rfl rfl rfl (by omega) (by omega) (fun v11 ev11 => ?_)
        have bv11 := (show 0 ≤ v11.toInt ∧ v11.toInt ≤ v10.toInt from by rw [ev11]; exact ⟨Int.ediv_nonneg (by omega) (by omega), Int.ediv_le_self _ (by omega)⟩)
        refine z_last (N := 40) (l := 0) (u := 40) rfl hD J Sm rfl rfl rfl (by omega) rfl (fun h w12 J Sm => ?_)
        rw [vwwL w12 (show l10.toInt = l10.toInt from by omega) (show (v10.toInt / l6.toInt) = v11.toInt from by omega)] at D
        refine x_aloadn (x := 125) rfl rfl ?_
        refine z_getR (N := 92) (b := 166) 12 81 rfl f_12_156 rfl J rfl 16081 ⟨rfl, rfl⟩ rfl ?_
        refine x_iload (x := l10) rfl rfl ?_
        refine x_aloadn (x := 125) rfl rfl ?_
        refine z_getR (N := 92) (b := 126) 12 2 rfl f_12_8 rfl J rfl 16002 ⟨rfl, rfl⟩ rfl ?_
        refine x_iloadn (x := l2) rfl rfl ?_
        refine x_iconst (v := 2) rfl ki_2 ?_
        refine z_iadd rfl rfl jk_2 (by omega) (fun v13 ev13 => ?_)
        refine z_iald (N := 50660) rfl J rfl sg_126_48300_48460_4_2_3 rfl (by omega) (fun v14 qv14 ev14 => ?_)
        try rw [show v6.toInt = v14.toInt from (show v6.toInt = v5.toInt from by omega).trans ((vrd qv5 (show (l2.toInt + 2) = v4.toInt from by omega)).symm.trans (vrd (jmb_l w12 qv14) (show (l2.toInt + 2) = v13.toInt from by omega)))] at D
        try rw [vrd (jmb_l w12 qv14) (show (l2.toInt + 2) = v13.toInt from by omega)] at D
        have pq2 := (jPn_q (l := l2) qv14 (by omega) (by omega)).trans (jPn_e (jeq_l w12 jeq_0))
        refine z_i2l rfl rfl (fun v15 ev15 => ?_)
        refine x_aloadn (x := 125) rfl rfl ?_
        refine z_getR (N := 92) (b := 162) 12 77 rfl f_12_144 rfl J rfl 16077 ⟨rfl, rfl⟩ rfl ?_
        refine x_bipush (v := 40) rfl kb_40 ?_
        refine x_iload (x := l10) rfl rfl ?_
        refine z_iadd rfl jk_40 rfl (by omega) (fun v16 ev16 => ?_)
        refine z_iald0 (N := 80) rfl J rfl rfl (by omega) (fun v17 qv17 => ?_)
        have ev17 := jfull v17
        try rw [show v9.toInt = v17.toInt from (show v9.toInt = v8.toInt from by omega).trans ((vrd qv8 (show (40 + l10.toInt) = v7.toInt from by omega)).symm.trans (vrd (jmb_l w12 qv17) (show (40 + l10.toInt) = v16.toInt from by omega)))] at D
        try rw [vrd (jmb_l w12 qv17) (show (40 + l10.toInt) = v16.toInt from by omega)] at D
        have vq2 := (jpv_t (l := l10) (jml w12 qv2) (by omega) qv17 (by omega) (by omega)).trans (jpv_e ((jeq_l w12 (jeq_0 (P := fun _ => True))) _ trivial) (jeq_w (fun _ _ => trivial) (jeq_l w12 (jeq_0 (P := fun _ => True)))))
        refine z_i2l rfl rfl (fun v18 ev18 => ?_)
        refine z_lmulQ (A := 1000000) (B := 2147483647) rfl rfl rfl (by omega) (by omega) rfl (by decide) (fun v19 ev19 => ?_)
        try rw [show v14.toInt = v15.toInt from by omega] at D
        try rw [show v17.toInt = v18.toInt from by omega] at D
        try rw [← ev19.1] at D
        try rw [show v10.toInt = v19.toInt from by have a0 : v6.toInt = v14.toInt := (show v6.toInt = v5.toInt from by omega).trans ((vrd qv5 (show (l2.toInt + 2) = v4.toInt from by omega)).symm.trans (vrd (jmb_l w12 qv14) (show (l2.toInt + 2) = v13.toInt from by omega))); have a1 : v9.toInt = v17.toInt := (show v9.toInt = v8.toInt from by omega).trans ((vrd qv8 (show (40 + l10.toInt) = v7.toInt from by omega)).symm.trans (vrd (jmb_l w12 qv17) (show (40 + l10.toInt) = v16.toInt from by omega))); exact ev10.1.trans ((congr (congrArg HMul.hMul (show v6.toInt = v15.toInt from by omega)) (show v9.toInt = v18.toInt from by omega)).trans ev19.1.symm)] at D
        refine x_lload (x := l6) rfl rfl ?_
        refine z_lremQ rfl rfl rfl (by omega) (by omega) (fun v20 ev20 => ?_)
        refine z_last (N := 40) (l := 0) (u := 40) rfl hD J Sm rfl rfl rfl (by omega) rfl (fun h w21 J Sm => ?_)
        rw [vwwL w21 (show l10.toInt = l10.toInt from by omega) (show (v19.toInt % l6.toInt) = v20.toInt from by omega)] at D
        refine x_lload (x := l8) rfl rfl ?_
        refine x_aloadn (x := 125) rfl rfl ?_
        refine z_getR (N := 92) (b := 165) 12 80 rfl f_12_153 rfl J rfl 16080 ⟨rfl, rfl⟩ rfl ?_
        refine x_iload (x := l10) rfl rfl ?_
        refine z_laldQ (N := 40) rfl J rfl rfl (by omega) (fun v22 qv22 => ?_)
        have ev22 := jfullL v22
        try rw [vrdL qv22 (show l10.toInt = l10.toInt from by omega)] at D
        have ve : v22.toInt = v11.toInt := congrArg Int64.toInt (qv22.symm.trans (jlv_c w21 rfl (jlv_w w12)))
        refine z_lsub rfl rfl rfl (by omega) (fun v23 ev23 => ?_)
        refine x_lstore (lsx9 := [(8, .long v23), (0, .ref 125), (2, .int l2), (3, .int l3), (4, .int l4), (5, .int l5), (6, .long l6), (10, .int l10)]) rfl rfl rfl ?_
        try rw [show (l8.toInt - v22.toInt) = v23.toInt from by omega] at D
        exact jX.sub (jsb_c rfl (jsb_c rfl (jsb_c rfl (jsb_c rfl (jsb_c rfl (jsb_c rfl (jsb_c rfl (jsb_c rfl jsb_n)))))))) (ct_X12_partLevy_r125d_287 hD hQ ih l2 l3 l4 l5 l6 v23 l10 h (jr_of rfl (by omega)) (jr_mod rfl (by omega)) (jr_of rfl (by omega)) (jr_of rfl (by omega)) (jr_mod rfl (by omega)) (jr_of rfl (by omega)) (jr_ofl rfl (by omega)) (jr_ofl rfl (by omega)) (jr_of rfl (by omega)) ⟨(jF2_p (sh := v11) (rm := v20) (v := v8.toInt) C0.1 (by omega) vq vp (by rw [ev11, ev10.1, ev6, ev9, pq]) (by rw [ev20, ev19.1, ev15, ev18, pq2, vq2, ← vq]) (jeq_l w21 (jeq_l w12 jeq_0)) (jeq_l w21 (jeq_l w12 jeq_0)) (jeq_l w21 (jeq_l w12 jeq_0)) (jlq_s w21 (fun q => q rfl) (jlq_o w12 rfl jlq_0)) (jlv_w w21) (by omega)), (by omega)⟩ (by omega) J Sm D)
set_option maxRecDepth 100000 in
set_option maxHeartbeats 4000000 in
theorem ct_X12_partLevy_r125d_191 {Dy : jH → Prop} {h0 : jH} {Q : Option Value → jH → Prop} {dr : jW} (hD : jDk Dy) (hQ : ∀ hx9, jJ jSgM Dy hx9 → jSm fp_X12_partLevy_r125d h0 hx9 → dr = vw hx9 → Q none hx9) : ∀ (l2 : Int32) (l3 : Int32) (l4 : Int32) (l5 : Int32) (l6 : Int64) (s0 : Int64) (h : jH), 48300 ≤ l2.toInt ∧ l2.toInt ≤ 48456 → l2.toInt % 4 = 0 → 0 ≤ l3.toInt ∧ l3.toInt ≤ 2 → 0 ≤ l4.toInt ∧ l4.toInt ≤ 146034 → l4.toInt % 366 = 0 → 0 ≤ l5.toInt ∧ l5.toInt ≤ 40 → 1 ≤ l6.toInt ∧ l6.toInt ≤ 88046829527 → 0 ≤ s0.toInt ∧ s0.toInt ≤ 1000000 → l6.toInt ≠ 0 → jF2 h l5 l2 l6 s0 (0 : Int32).toNatClampNeg → jJ jSgM Dy h → jSm fp_X12_partLevy_r125d h0 h → d_X12_partLevy_r125d_191  l2.toInt l3.toInt l4.toInt l5.toInt l6.toInt s0.toInt (vw h) = dr → jX m_X12_partLevy 12 0 0 191 [(0, .ref 125), (2, .int l2), (3, .int l3), (4, .int l4), (5, .int l5), (6, .long l6)] [.long s0] h 0 0 Q := by
  intro l2 l3 l4 l5 l6 s0 h y0 y1 y2 y3 y4 y5 y6 y7 y8 C0   J Sm D
  unfold d_X12_partLevy_r125d_191 at D
  have jb := jsv_b C0.2.1
  have j1 := C0.1
  have jn := jcl_of (d := l5) (by omega)
  have fb := jF2_b C0 (by rw [show (0 : Int32).toNatClampNeg = 0 from by decide]; omega)
  refine x_lstore (lsx9 := [(8, .long s0), (0, .ref 125), (2, .int l2), (3, .int l3), (4, .int l4), (5, .int l5), (6, .long l6)]) rfl rfl rfl ?_
  refine x_iconst (v := 0) rfl ki_0 ?_
  refine x_istore (lsx9 := [(10, .int 0), (8, .long s0), (0, .ref 125), (2, .int l2), (3, .int l3), (4, .int l4), (5, .int l5), (6, .long l6)]) rfl rfl rfl ?_
  exact jX.sub (jsb_c rfl (jsb_c rfl (jsb_c rfl (jsb_c rfl (jsb_c rfl (jsb_c rfl (jsb_c rfl (jsb_c rfl jsb_n)))))))) (ct_X12_partLevy_r125d_196 hD hQ  41 l2 l3 l4 l5 l6 s0 0 h (by have := jk_0; omega) (jr_of rfl (by omega)) (jr_mod rfl (by omega)) (jr_of rfl (by omega)) (jr_of rfl (by omega)) (jr_mod rfl (by omega)) (jr_of rfl (by omega)) (jr_ofl rfl (by omega)) (jr_ofl rfl (by omega)) (jr_of jk_0 (by omega)) ⟨C0, (by have := jk_0; omega)⟩ J Sm (by rw [jk_0]; exact D))
set_option maxRecDepth 100000 in
set_option maxHeartbeats 4000000 in
theorem ct_X12_partLevy_r125d_5000191 {Dy : jH → Prop} {h0 : jH} {Q : Option Value → jH → Prop} {dr : jW} (hD : jDk Dy) (hQ : ∀ hx9, jJ jSgM Dy hx9 → jSm fp_X12_partLevy_r125d h0 hx9 → dr = vw hx9 → Q none hx9) : ∀ (l2 : Int32) (l3 : Int32) (l4 : Int32) (l5 : Int32) (l6 : Int64) (h : jH), 48300 ≤ l2.toInt ∧ l2.toInt ≤ 48456 → l2.toInt % 4 = 0 → 0 ≤ l3.toInt ∧ l3.toInt ≤ 2 → 0 ≤ l4.toInt ∧ l4.toInt ≤ 146034 → l4.toInt % 366 = 0 → 0 ≤ l5.toInt ∧ l5.toInt ≤ 40 → 0 ≤ l6.toInt ∧ l6.toInt ≤ 0 → jF2 h l5 l2 l6 0 (0 : Int32).toNatClampNeg → jJ jSgM Dy h → jSm fp_X12_partLevy_r125d h0 h → d_X12_partLevy_r125d_5000191  l2.toInt l3.toInt l4.toInt l5.toInt l6.toInt (vw h) = dr → jX m_X12_partLevy 12 0 0 191 [(0, .ref 125), (2, .int l2), (3, .int l3), (4, .int l4), (5, .int l5), (6, .long l6)] [.long 0] h 0 0 Q := by
  intro l2 l3 l4 l5 l6 h y0 y1 y2 y3 y4 y5 y6 C0   J Sm D
  unfold d_X12_partLevy_r125d_5000191 at D
  have jb := jsv_b C0.2.1
  have j1 := C0.1
  have jn := jcl_of (d := l5) (by omega)
  have fb := jF2_b C0 (by rw [show (0 : Int32).toNatClampNeg = 0 from by decide]; omega)
  refine x_lstore (lsx9 := [(8, .long 0), (0, .ref 125), (2, .int l2), (3, .int l3), (4, .int l4), (5, .int l5), (6, .long l6)]) rfl rfl rfl ?_
  refine x_iconst (v := 0) rfl ki_0 ?_
  refine x_istore (lsx9 := [(10, .int 0), (8, .long 0), (0, .ref 125), (2, .int l2), (3, .int l3), (4, .int l4), (5, .int l5), (6, .long l6)]) rfl rfl rfl ?_
  exact jX.sub (jsb_c rfl (jsb_c rfl (jsb_c rfl (jsb_c rfl (jsb_c rfl (jsb_c rfl (jsb_c rfl (jsb_c rfl jsb_n)))))))) (ct_X12_partLevy_r125d_196 hD hQ  41 l2 l3 l4 l5 l6 0 0 h (by have := jk_0; omega) (jr_of rfl (by omega)) (jr_mod rfl (by omega)) (jr_of rfl (by omega)) (jr_of rfl (by omega)) (jr_mod rfl (by omega)) (jr_of rfl (by omega)) (jr_ofl rfl (by omega)) (jr_ofl jkl_0 (by omega)) (jr_of jk_0 (by omega)) ⟨C0, (by have := jk_0; omega)⟩ J Sm (by rw [jkl_0, jk_0]; exact D))
set_option maxRecDepth 100000 in
set_option maxHeartbeats 4000000 in
theorem ct_X12_partLevy_r125d_5000162 {Dy : jH → Prop} {h0 : jH} {Q : Option Value → jH → Prop} {dr : jW} {K51 : Int → Int → Int → Int → Int → Int → jW → jW} {R51 : Int} (hD : jDk Dy) (hQ : ∀ hx9, jJ jSgM Dy hx9 → jSm fp_X12_partLevy_r125d h0 hx9 → dr = vw hx9 → Q none hx9) (k51 : ∀ (l2 : Int32) (l3 : Int32) (l4 : Int32) (l5 : Int32) (l6 : Int64) (l8 : Int32) (h : jH), 40 - l8.toInt < R51 → 48300 ≤ l2.toInt ∧ l2.toInt ≤ 48456 → l2.toInt % 4 = 0 → 0 ≤ l3.toInt ∧ l3.toInt ≤ 2 → 0 ≤ l4.toInt ∧ l4.toInt ≤ 146034 → l4.toInt % 366 = 0 → 0 ≤ l5.toInt ∧ l5.toInt ≤ 40 → (-2147483648) ≤ l6.toInt ∧ l6.toInt ≤ 88046829527 → 0 ≤ l8.toInt ∧ l8.toInt ≤ 40 → (jF1 h l6 l8.toNatClampNeg ∧ l8.toInt ≤ l5.toInt) → jJ jSgM Dy h → jSm fp_X12_partLevy_r125d h0 h → K51 l2.toInt l3.toInt l4.toInt l5.toInt l6.toInt l8.toInt (vw h) = dr → jX m_X12_partLevy 12 0 0 51 [(0, .ref 125), (2, .int l2), (3, .int l3), (4, .int l4), (5, .int l5), (6, .long l6), (8, .int l8)] [] h 0 0 Q) : ∀ (l2 : Int32) (l3 : Int32) (l4 : Int32) (l5 : Int32) (l8 : Int32) (s1 : Int64) (h : jH), 48300 ≤ l2.toInt ∧ l2.toInt ≤ 48456 → l2.toInt % 4 = 0 → 0 ≤ l3.toInt ∧ l3.toInt ≤ 2 → 0 ≤ l4.toInt ∧ l4.toInt ≤ 146034 → l4.toInt % 366 = 0 → 1 ≤ l5.toInt ∧ l5.toInt ≤ 40 → 0 ≤ l8.toInt ∧ l8.toInt ≤ 39 → 0 ≤ s1.toInt ∧ s1.toInt ≤ 88046829527 → ((s1.toInt = jsv h l8.toNatClampNeg ∧ jPp h (l8.toNatClampNeg + 1) ∧ jRm h 0 (l8.toNatClampNeg + 1)) ∧ (0 : Int) = jpv h l8.toNatClampNeg ∧ l8.toInt < l5.toInt) → 40 - l8.toInt ≤ R51 → jJ jSgM Dy h → jSm fp_X12_partLevy_r125d h0 h → d_X12_partLevy_r125d_5000162 K51  l2.toInt l3.toInt l4.toInt l5.toInt l8.toInt s1.toInt (vw h) = dr → jX m_X12_partLevy 12 0 0 162 [(0, .ref 125), (2, .int l2), (3, .int l3), (4, .int l4), (5, .int l5), (8, .int l8)] [.long 0, .long s1] h 0 0 Q := by
  intro l2 l3 l4 l5 l8 s1 h y0 y1 y2 y3 y4 y5 y6 y7 C0  m51 J Sm D
  unfold d_X12_partLevy_r125d_5000162 at D
  have jb := jsv_b (h := h) (i := l8.toNatClampNeg) (fun j hj => C0.1.2.1 j (by omega))
  have jl := jcl_of (d := l8) (by omega)
  have j1 := C0.1.1
  refine z_ladd rfl rfl jkl_0 (by omega) (fun v1 ev1 => ?_)
  refine x_lstore (lsx9 := [(6, .long v1), (0, .ref 125), (2, .int l2), (3, .int l3), (4, .int l4), (5, .int l5), (8, .int l8)]) rfl rfl rfl ?_
  refine z_iinc (x := l8) (lsx9 := fun v2 => [(8, .int v2), (6, .long v1), (0, .ref 125), (2, .int l2), (3, .int l3), (4, .int l4), (5, .int l5)]) rfl rfl rfl jko_1 (by omega) rfl (fun _ => rfl) (fun v2 ev2 => ?_)
  refine x_goto (tgt := 51) rfl rfl ?_
  try rw [show (s1.toInt + 0) = v1.toInt from by omega] at D
  try rw [show (l8.toInt + 1) = v2.toInt from by omega] at D
  exact jX.sub (jsb_c rfl (jsb_c rfl (jsb_c rfl (jsb_c rfl (jsb_c rfl (jsb_c rfl (jsb_c rfl jsb_n))))))) (k51 l2 l3 l4 l5 v1 v2 h (by omega) (jr_of rfl (by omega)) (jr_mod rfl (by omega)) (jr_of rfl (by omega)) (jr_of rfl (by omega)) (jr_mod rfl (by omega)) (jr_of rfl (by omega)) (jr_ofl rfl (by omega)) (jr_of rfl (by omega)) ⟨(jF1_n C0.1 C0.2.1 (by omega) (by omega)), (by have := C0.2.2; omega)⟩ J Sm D)
set_option maxRecDepth 100000 in
set_option maxHeartbeats 4000000 in
theorem ct_X12_partLevy_r125d_162 {Dy : jH → Prop} {h0 : jH} {Q : Option Value → jH → Prop} {dr : jW} {K51 : Int → Int → Int → Int → Int → Int → jW → jW} {R51 : Int} (hD : jDk Dy) (hQ : ∀ hx9, jJ jSgM Dy hx9 → jSm fp_X12_partLevy_r125d h0 hx9 → dr = vw hx9 → Q none hx9) (k51 : ∀ (l2 : Int32) (l3 : Int32) (l4 : Int32) (l5 : Int32) (l6 : Int64) (l8 : Int32) (h : jH), 40 - l8.toInt < R51 → 48300 ≤ l2.toInt ∧ l2.toInt ≤ 48456 → l2.toInt % 4 = 0 → 0 ≤ l3.toInt ∧ l3.toInt ≤ 2 → 0 ≤ l4.toInt ∧ l4.toInt ≤ 146034 → l4.toInt % 366 = 0 → 0 ≤ l5.toInt ∧ l5.toInt ≤ 40 → (-2147483648) ≤ l6.toInt ∧ l6.toInt ≤ 88046829527 → 0 ≤ l8.toInt ∧ l8.toInt ≤ 40 → (jF1 h l6 l8.toNatClampNeg ∧ l8.toInt ≤ l5.toInt) → jJ jSgM Dy h → jSm fp_X12_partLevy_r125d h0 h → K51 l2.toInt l3.toInt l4.toInt l5.toInt l6.toInt l8.toInt (vw h) = dr → jX m_X12_partLevy 12 0 0 51 [(0, .ref 125), (2, .int l2), (3, .int l3), (4, .int l4), (5, .int l5), (6, .long l6), (8, .int l8)] [] h 0 0 Q) : ∀ (l2 : Int32) (l3 : Int32) (l4 : Int32) (l5 : Int32) (l8 : Int32) (s0 : Int64) (s1 : Int64) (h : jH), 48300 ≤ l2.toInt ∧ l2.toInt ≤ 48456 → l2.toInt % 4 = 0 → 0 ≤ l3.toInt ∧ l3.toInt ≤ 2 → 0 ≤ l4.toInt ∧ l4.toInt ≤ 146034 → l4.toInt % 366 = 0 → 1 ≤ l5.toInt ∧ l5.toInt ≤ 40 → 0 ≤ l8.toInt ∧ l8.toInt ≤ 39 → (-2147483648) ≤ s0.toInt ∧ s0.toInt ≤ 2147483647 → 0 ≤ s1.toInt ∧ s1.toInt ≤ 88046829527 → ((s1.toInt = jsv h l8.toNatClampNeg ∧ jPp h (l8.toNatClampNeg + 1) ∧ jRm h 0 (l8.toNatClampNeg + 1)) ∧ s0.toInt = jpv h l8.toNatClampNeg ∧ l8.toInt < l5.toInt) → 40 - l8.toInt ≤ R51 → jJ jSgM Dy h → jSm fp_X12_partLevy_r125d h0 h → d_X12_partLevy_r125d_162 K51  l2.toInt l3.toInt l4.toInt l5.toInt l8.toInt s0.toInt s1.toInt (vw h) = dr → jX m_X12_partLevy 12 0 0 162 [(0, .ref 125), (2, .int l2), (3, .int l3), (4, .int l4), (5, .int l5), (8, .int l8)] [.long s0, .long s1] h 0 0 Q := by
  intro l2 l3 l4 l5 l8 s0 s1 h y0 y1 y2 y3 y4 y5 y6 y7 y8 C0  m51 J Sm D
  unfold d_X12_partLevy_r125d_162 at D
  have jb := jsv_b (h := h) (i := l8.toNatClampNeg) (fun j hj => C0.1.2.1 j (by omega))
  have jl := jcl_of (d := l8) (by omega)
  have j1 := C0.1.1
  refine z_ladd rfl rfl rfl (by omega) (fun v1 ev1 => ?_)
  refine x_lstore (lsx9 := [(6, .long v1), (0, .ref 125), (2, .int l2), (3, .int l3), (4, .int l4), (5, .int l5), (8, .int l8)]) rfl rfl rfl ?_
  refine z_iinc (x := l8) (lsx9 := fun v2 => [(8, .int v2), (6, .long v1), (0, .ref 125), (2, .int l2), (3, .int l3), (4, .int l4), (5, .int l5)]) rfl rfl rfl jko_1 (by omega) rfl (fun _ => rfl) (fun v2 ev2 => ?_)
  refine x_goto (tgt := 51) rfl rfl ?_
  try rw [show (s1.toInt + s0.toInt) = v1.toInt from by omega] at D
  try rw [show (l8.toInt + 1) = v2.toInt from by omega] at D
  exact jX.sub (jsb_c rfl (jsb_c rfl (jsb_c rfl (jsb_c rfl (jsb_c rfl (jsb_c rfl (jsb_c rfl jsb_n))))))) (k51 l2 l3 l4 l5 v1 v2 h (by omega) (jr_of rfl (by omega)) (jr_mod rfl (by omega)) (jr_of rfl (by omega)) (jr_of rfl (by omega)) (jr_mod rfl (by omega)) (jr_of rfl (by omega)) (jr_ofl rfl (by omega)) (jr_of rfl (by omega)) ⟨(jF1_n C0.1 C0.2.1 (by omega) (by omega)), (by have := C0.2.2; omega)⟩ J Sm D)
set_option maxRecDepth 100000 in
set_option maxHeartbeats 4000000 in
theorem ct_X12_partLevy_r125d_300134 {Dy : jH → Prop} {h0 : jH} {Q : Option Value → jH → Prop} {dr : jW} {K51 : Int → Int → Int → Int → Int → Int → jW → jW} {R51 : Int} (hD : jDk Dy) (hQ : ∀ hx9, jJ jSgM Dy hx9 → jSm fp_X12_partLevy_r125d h0 hx9 → dr = vw hx9 → Q none hx9) (k51 : ∀ (l2 : Int32) (l3 : Int32) (l4 : Int32) (l5 : Int32) (l6 : Int64) (l8 : Int32) (h : jH), 40 - l8.toInt < R51 → 48300 ≤ l2.toInt ∧ l2.toInt ≤ 48456 → l2.toInt % 4 = 0 → 0 ≤ l3.toInt ∧ l3.toInt ≤ 2 → 0 ≤ l4.toInt ∧ l4.toInt ≤ 146034 → l4.toInt % 366 = 0 → 0 ≤ l5.toInt ∧ l5.toInt ≤ 40 → (-2147483648) ≤ l6.toInt ∧ l6.toInt ≤ 88046829527 → 0 ≤ l8.toInt ∧ l8.toInt ≤ 40 → (jF1 h l6 l8.toNatClampNeg ∧ l8.toInt ≤ l5.toInt) → jJ jSgM Dy h → jSm fp_X12_partLevy_r125d h0 h → K51 l2.toInt l3.toInt l4.toInt l5.toInt l6.toInt l8.toInt (vw h) = dr → jX m_X12_partLevy 12 0 0 51 [(0, .ref 125), (2, .int l2), (3, .int l3), (4, .int l4), (5, .int l5), (6, .long l6), (8, .int l8)] [] h 0 0 Q) : ∀ (l2 : Int32) (l3 : Int32) (l4 : Int32) (l5 : Int32) (l6 : Int64) (l8 : Int32) (s1 : Int32) (h : jH), 48300 ≤ l2.toInt ∧ l2.toInt ≤ 48456 → l2.toInt % 4 = 0 → 0 ≤ l3.toInt ∧ l3.toInt ≤ 2 → 0 ≤ l4.toInt ∧ l4.toInt ≤ 146034 → l4.toInt % 366 = 0 → 1 ≤ l5.toInt ∧ l5.toInt ≤ 40 → 0 ≤ l6.toInt ∧ l6.toInt ≤ 88046829527 → 0 ≤ l8.toInt ∧ l8.toInt ≤ 39 → 0 ≤ s1.toInt ∧ s1.toInt ≤ 39 → (jF1 h l6 l8.toNatClampNeg ∧ s1 = l8 ∧ (jlv h 166 l8.toNatClampNeg).toInt = -1 ∧ l8.toInt < l5.toInt ∧ 0 < (jiv h 162 (40 + l8.toNatClampNeg)).toInt) → 40 - l8.toInt ≤ R51 → jJ jSgM Dy h → jSm fp_X12_partLevy_r125d h0 h → d_X12_partLevy_r125d_300134 K51  l2.toInt l3.toInt l4.toInt l5.toInt l6.toInt l8.toInt s1.toInt (vw h) = dr → jX m_X12_partLevy 12 0 0 134 [(0, .ref 125), (2, .int l2), (3, .int l3), (4, .int l4), (5, .int l5), (6, .long l6), (8, .int l8)] [.int 1, .int s1, .ref 167] h 0 0 Q := by
  intro l2 l3 l4 l5 l6 l8 s1 h y0 y1 y2 y3 y4 y5 y6 y7 y8 C0  m51 J Sm D
  unfold d_X12_partLevy_r125d_300134 at D
  have sl := congrArg Int32.toInt C0.2.1
  refine z_zast (N := 40) (l := 0) (u := 40) (w := 1) rfl hD J Sm rfl rfl rfl (by omega) jk_1 (by omega) (wr_167 (fun q1 q2 q3 q4 => by omega)) rfl (fun h w1 J Sm => ?_)
  rw [vww w1 (show s1.toInt = s1.toInt from by omega) (show 1 = (1 : Int32).toInt from by have := jk_1; omega)] at D
  refine x_lload (x := l6) rfl rfl ?_
  refine x_aloadn (x := 125) rfl rfl ?_
  refine z_getR (N := 92) (b := 167) 12 82 rfl f_12_159 rfl J rfl 16082 ⟨rfl, rfl⟩ rfl ?_
  refine x_iload (x := l8) rfl rfl ?_
  refine z_zald (N := 40) rfl J rfl sg_167_0_40_1_0_1 rfl (by omega) (fun v2 qv2 ev2 => ?_)
  try rw [vrd qv2 (show l8.toInt = l8.toInt from by omega)] at D
  refine x_ifeq (tgt := 161) rfl rfl (ti_eq rfl jk_0 ⟨fun c3 => ?_, fun c3 => ?_⟩)
  ·
    rw [if_pos (by omega)] at D
    refine x_lconst (v := 0) rfl kl_0 ?_
    exact jX.sub (jsb_c rfl (jsb_c rfl (jsb_c rfl (jsb_c rfl (jsb_c rfl (jsb_c rfl jsb_n)))))) (ct_X12_partLevy_r125d_5000162 hD hQ k51 l2 l3 l4 l5 l8 l6 h (jr_of rfl (by omega)) (jr_mod rfl (by omega)) (jr_of rfl (by omega)) (jr_of rfl (by omega)) (jr_mod rfl (by omega)) (jr_of rfl (by omega)) (jr_of rfl (by omega)) (jr_ofl rfl (by omega)) ⟨(jF1_p C0.1 C0.2.1 w1 C0.2.2.1 (Or.inr C0.2.2.2.2)), (jpv_f qv2 (by omega)), (by have := C0.2.2.2; omega)⟩ (by omega) J Sm D)
  ·
    rw [if_neg (by omega)] at D
    refine x_aloadn (x := 125) rfl rfl ?_
    refine z_getR (N := 92) (b := 162) 12 77 rfl f_12_144 rfl J rfl 16077 ⟨rfl, rfl⟩ rfl ?_
    refine x_bipush (v := 40) rfl kb_40 ?_
    refine x_iload (x := l8) rfl rfl ?_
    refine z_iadd rfl jk_40 rfl (by omega) (fun v4 ev4 => ?_)
    refine z_iald0 (N := 80) rfl J rfl rfl (by omega) (fun v5 qv5 => ?_)
    have ev5 := jfull v5
    try rw [vrd (jmb_w w1 qv5 rfl) (show (40 + l8.toInt) = v4.toInt from by omega)] at D
    refine z_i2l rfl rfl (fun v6 ev6 => ?_)
    refine x_goto (tgt := 162) rfl rfl ?_
    try rw [show v5.toInt = v6.toInt from by omega] at D
    exact jX.sub (jsb_c rfl (jsb_c rfl (jsb_c rfl (jsb_c rfl (jsb_c rfl (jsb_c rfl jsb_n)))))) (ct_X12_partLevy_r125d_162 hD hQ k51 l2 l3 l4 l5 l8 v6 l6 h (jr_of rfl (by omega)) (jr_mod rfl (by omega)) (jr_of rfl (by omega)) (jr_of rfl (by omega)) (jr_mod rfl (by omega)) (jr_of rfl (by omega)) (jr_of rfl (by omega)) (jr_ofl rfl (by omega)) (jr_ofl rfl (by omega)) ⟨(jF1_p C0.1 C0.2.1 w1 C0.2.2.1 (Or.inr C0.2.2.2.2)), (by have q := jpv_t qv2 (by omega) qv5 (by omega) (by omega); omega), (by have := C0.2.2.2; omega)⟩ (by omega) J Sm D)
set_option maxRecDepth 100000 in
set_option maxHeartbeats 4000000 in
theorem ct_X12_partLevy_r125d_200134 {Dy : jH → Prop} {h0 : jH} {Q : Option Value → jH → Prop} {dr : jW} {K51 : Int → Int → Int → Int → Int → Int → jW → jW} {R51 : Int} (hD : jDk Dy) (hQ : ∀ hx9, jJ jSgM Dy hx9 → jSm fp_X12_partLevy_r125d h0 hx9 → dr = vw hx9 → Q none hx9) (k51 : ∀ (l2 : Int32) (l3 : Int32) (l4 : Int32) (l5 : Int32) (l6 : Int64) (l8 : Int32) (h : jH), 40 - l8.toInt < R51 → 48300 ≤ l2.toInt ∧ l2.toInt ≤ 48456 → l2.toInt % 4 = 0 → 0 ≤ l3.toInt ∧ l3.toInt ≤ 2 → 0 ≤ l4.toInt ∧ l4.toInt ≤ 146034 → l4.toInt % 366 = 0 → 0 ≤ l5.toInt ∧ l5.toInt ≤ 40 → (-2147483648) ≤ l6.toInt ∧ l6.toInt ≤ 88046829527 → 0 ≤ l8.toInt ∧ l8.toInt ≤ 40 → (jF1 h l6 l8.toNatClampNeg ∧ l8.toInt ≤ l5.toInt) → jJ jSgM Dy h → jSm fp_X12_partLevy_r125d h0 h → K51 l2.toInt l3.toInt l4.toInt l5.toInt l6.toInt l8.toInt (vw h) = dr → jX m_X12_partLevy 12 0 0 51 [(0, .ref 125), (2, .int l2), (3, .int l3), (4, .int l4), (5, .int l5), (6, .long l6), (8, .int l8)] [] h 0 0 Q) : ∀ (l2 : Int32) (l3 : Int32) (l4 : Int32) (l5 : Int32) (l6 : Int64) (l8 : Int32) (s1 : Int32) (h : jH), 48300 ≤ l2.toInt ∧ l2.toInt ≤ 48456 → l2.toInt % 4 = 0 → 0 ≤ l3.toInt ∧ l3.toInt ≤ 2 → 0 ≤ l4.toInt ∧ l4.toInt ≤ 146034 → l4.toInt % 366 = 0 → 1 ≤ l5.toInt ∧ l5.toInt ≤ 40 → 0 ≤ l6.toInt ∧ l6.toInt ≤ 88046829527 → 0 ≤ l8.toInt ∧ l8.toInt ≤ 39 → 0 ≤ s1.toInt ∧ s1.toInt ≤ 39 → (jF1 h l6 l8.toNatClampNeg ∧ s1 = l8 ∧ (jlv h 166 l8.toNatClampNeg).toInt = -1 ∧ l8.toInt < l5.toInt) → 40 - l8.toInt ≤ R51 → jJ jSgM Dy h → jSm fp_X12_partLevy_r125d h0 h → d_X12_partLevy_r125d_200134 K51  l2.toInt l3.toInt l4.toInt l5.toInt l6.toInt l8.toInt s1.toInt (vw h) = dr → jX m_X12_partLevy 12 0 0 134 [(0, .ref 125), (2, .int l2), (3, .int l3), (4, .int l4), (5, .int l5), (6, .long l6), (8, .int l8)] [.int 0, .int s1, .ref 167] h 0 0 Q := by
  intro l2 l3 l4 l5 l6 l8 s1 h y0 y1 y2 y3 y4 y5 y6 y7 y8 C0  m51 J Sm D
  unfold d_X12_partLevy_r125d_200134 at D
  have sl := congrArg Int32.toInt C0.2.1
  refine z_zast (N := 40) (l := 0) (u := 40) (w := 0) rfl hD J Sm rfl rfl rfl (by omega) jk_0 (by omega) (wr_167 (fun q1 q2 q3 q4 => by omega)) rfl (fun h w1 J Sm => ?_)
  rw [vww w1 (show s1.toInt = s1.toInt from by omega) (show 0 = (0 : Int32).toInt from by have := jk_0; omega)] at D
  refine x_lload (x := l6) rfl rfl ?_
  refine x_aloadn (x := 125) rfl rfl ?_
  refine z_getR (N := 92) (b := 167) 12 82 rfl f_12_159 rfl J rfl 16082 ⟨rfl, rfl⟩ rfl ?_
  refine x_iload (x := l8) rfl rfl ?_
  refine z_zald (N := 40) rfl J rfl sg_167_0_40_1_0_1 rfl (by omega) (fun v2 qv2 ev2 => ?_)
  try rw [vrd qv2 (show l8.toInt = l8.toInt from by omega)] at D
  refine x_ifeq (tgt := 161) rfl rfl (ti_eq rfl jk_0 ⟨fun c3 => ?_, fun c3 => ?_⟩)
  ·
    rw [if_pos (by omega)] at D
    refine x_lconst (v := 0) rfl kl_0 ?_
    exact jX.sub (jsb_c rfl (jsb_c rfl (jsb_c rfl (jsb_c rfl (jsb_c rfl (jsb_c rfl jsb_n)))))) (ct_X12_partLevy_r125d_5000162 hD hQ k51 l2 l3 l4 l5 l8 l6 h (jr_of rfl (by omega)) (jr_mod rfl (by omega)) (jr_of rfl (by omega)) (jr_of rfl (by omega)) (jr_mod rfl (by omega)) (jr_of rfl (by omega)) (jr_of rfl (by omega)) (jr_ofl rfl (by omega)) ⟨(jF1_p C0.1 C0.2.1 w1 C0.2.2.1 (Or.inl (by decide))), (jpv_f qv2 (by omega)), (by have := C0.2.2.2; omega)⟩ (by omega) J Sm D)
  ·
    rw [if_neg (by omega)] at D
    refine x_aloadn (x := 125) rfl rfl ?_
    refine z_getR (N := 92) (b := 162) 12 77 rfl f_12_144 rfl J rfl 16077 ⟨rfl, rfl⟩ rfl ?_
    refine x_bipush (v := 40) rfl kb_40 ?_
    refine x_iload (x := l8) rfl rfl ?_
    refine z_iadd rfl jk_40 rfl (by omega) (fun v4 ev4 => ?_)
    refine z_iald0 (N := 80) rfl J rfl rfl (by omega) (fun v5 qv5 => ?_)
    have ev5 := jfull v5
    try rw [vrd (jmb_w w1 qv5 rfl) (show (40 + l8.toInt) = v4.toInt from by omega)] at D
    refine z_i2l rfl rfl (fun v6 ev6 => ?_)
    refine x_goto (tgt := 162) rfl rfl ?_
    try rw [show v5.toInt = v6.toInt from by omega] at D
    exact jX.sub (jsb_c rfl (jsb_c rfl (jsb_c rfl (jsb_c rfl (jsb_c rfl (jsb_c rfl jsb_n)))))) (ct_X12_partLevy_r125d_162 hD hQ k51 l2 l3 l4 l5 l8 v6 l6 h (jr_of rfl (by omega)) (jr_mod rfl (by omega)) (jr_of rfl (by omega)) (jr_of rfl (by omega)) (jr_mod rfl (by omega)) (jr_of rfl (by omega)) (jr_of rfl (by omega)) (jr_ofl rfl (by omega)) (jr_ofl rfl (by omega)) ⟨(jF1_p C0.1 C0.2.1 w1 C0.2.2.1 (Or.inl (by decide))), (by have q := jpv_t qv2 (by omega) qv5 (by omega) (by omega); omega), (by have := C0.2.2.2; omega)⟩ (by omega) J Sm D)
set_option maxRecDepth 100000 in
set_option maxHeartbeats 4000000 in
theorem ct_X12_partLevy_r125d_133 {Dy : jH → Prop} {h0 : jH} {Q : Option Value → jH → Prop} {dr : jW} {K51 : Int → Int → Int → Int → Int → Int → jW → jW} {R51 : Int} (hD : jDk Dy) (hQ : ∀ hx9, jJ jSgM Dy hx9 → jSm fp_X12_partLevy_r125d h0 hx9 → dr = vw hx9 → Q none hx9) (k51 : ∀ (l2 : Int32) (l3 : Int32) (l4 : Int32) (l5 : Int32) (l6 : Int64) (l8 : Int32) (h : jH), 40 - l8.toInt < R51 → 48300 ≤ l2.toInt ∧ l2.toInt ≤ 48456 → l2.toInt % 4 = 0 → 0 ≤ l3.toInt ∧ l3.toInt ≤ 2 → 0 ≤ l4.toInt ∧ l4.toInt ≤ 146034 → l4.toInt % 366 = 0 → 0 ≤ l5.toInt ∧ l5.toInt ≤ 40 → (-2147483648) ≤ l6.toInt ∧ l6.toInt ≤ 88046829527 → 0 ≤ l8.toInt ∧ l8.toInt ≤ 40 → (jF1 h l6 l8.toNatClampNeg ∧ l8.toInt ≤ l5.toInt) → jJ jSgM Dy h → jSm fp_X12_partLevy_r125d h0 h → K51 l2.toInt l3.toInt l4.toInt l5.toInt l6.toInt l8.toInt (vw h) = dr → jX m_X12_partLevy 12 0 0 51 [(0, .ref 125), (2, .int l2), (3, .int l3), (4, .int l4), (5, .int l5), (6, .long l6), (8, .int l8)] [] h 0 0 Q) : ∀ (l2 : Int32) (l3 : Int32) (l4 : Int32) (l5 : Int32) (l6 : Int64) (l8 : Int32) (s0 : Int32) (h : jH), 48300 ≤ l2.toInt ∧ l2.toInt ≤ 48456 → l2.toInt % 4 = 0 → 0 ≤ l3.toInt ∧ l3.toInt ≤ 2 → 0 ≤ l4.toInt ∧ l4.toInt ≤ 146034 → l4.toInt % 366 = 0 → 1 ≤ l5.toInt ∧ l5.toInt ≤ 40 → 0 ≤ l6.toInt ∧ l6.toInt ≤ 88046829527 → 0 ≤ l8.toInt ∧ l8.toInt ≤ 39 → 0 ≤ s0.toInt ∧ s0.toInt ≤ 39 → (jF1 h l6 l8.toNatClampNeg ∧ s0 = l8 ∧ (jlv h 166 l8.toNatClampNeg).toInt = -1 ∧ l8.toInt < l5.toInt) → 40 - l8.toInt ≤ R51 → jJ jSgM Dy h → jSm fp_X12_partLevy_r125d h0 h → d_X12_partLevy_r125d_133 K51  l2.toInt l3.toInt l4.toInt l5.toInt l6.toInt l8.toInt s0.toInt (vw h) = dr → jX m_X12_partLevy 12 0 0 133 [(0, .ref 125), (2, .int l2), (3, .int l3), (4, .int l4), (5, .int l5), (6, .long l6), (8, .int l8)] [.int s0, .ref 167] h 0 0 Q := by
  intro l2 l3 l4 l5 l6 l8 s0 h y0 y1 y2 y3 y4 y5 y6 y7 y8 C0  m51 J Sm D
  unfold d_X12_partLevy_r125d_133 at D
  have sl := congrArg Int32.toInt C0.2.1
  refine x_iconst (v := 0) rfl ki_0 ?_
  exact jX.sub (jsb_c rfl (jsb_c rfl (jsb_c rfl (jsb_c rfl (jsb_c rfl (jsb_c rfl (jsb_c rfl jsb_n))))))) (ct_X12_partLevy_r125d_200134 hD hQ k51 l2 l3 l4 l5 l6 l8 s0 h (jr_of rfl (by omega)) (jr_mod rfl (by omega)) (jr_of rfl (by omega)) (jr_of rfl (by omega)) (jr_mod rfl (by omega)) (jr_of rfl (by omega)) (jr_ofl rfl (by omega)) (jr_of rfl (by omega)) (jr_of rfl (by omega)) C0 (by omega) J Sm D)
set_option maxRecDepth 100000 in
set_option maxHeartbeats 4000000 in
theorem ct_X12_partLevy_r125d_51 {Dy : jH → Prop} {h0 : jH} {Q : Option Value → jH → Prop} {dr : jW} (hD : jDk Dy) (hQ : ∀ hx9, jJ jSgM Dy hx9 → jSm fp_X12_partLevy_r125d h0 hx9 → dr = vw hx9 → Q none hx9) : ∀ r : Nat, ∀ (l2 : Int32) (l3 : Int32) (l4 : Int32) (l5 : Int32) (l6 : Int64) (l8 : Int32) (h : jH), 40 - l8.toInt < (r : Int) → 48300 ≤ l2.toInt ∧ l2.toInt ≤ 48456 → l2.toInt % 4 = 0 → 0 ≤ l3.toInt ∧ l3.toInt ≤ 2 → 0 ≤ l4.toInt ∧ l4.toInt ≤ 146034 → l4.toInt % 366 = 0 → 0 ≤ l5.toInt ∧ l5.toInt ≤ 40 → (-2147483648) ≤ l6.toInt ∧ l6.toInt ≤ 88046829527 → 0 ≤ l8.toInt ∧ l8.toInt ≤ 40 → (jF1 h l6 l8.toNatClampNeg ∧ l8.toInt ≤ l5.toInt) → jJ jSgM Dy h → jSm fp_X12_partLevy_r125d h0 h → d_X12_partLevy_r125d_51 r l2.toInt l3.toInt l4.toInt l5.toInt l6.toInt l8.toInt (vw h) = dr → jX m_X12_partLevy 12 0 0 51 [(0, .ref 125), (2, .int l2), (3, .int l3), (4, .int l4), (5, .int l5), (6, .long l6), (8, .int l8)] [] h 0 0 Q := by
  intro r
  induction r with
  | zero =>
    intro l2 l3 l4 l5 l6 l8 h hm y0 y1 y2 y3 y4 y5 y6 y7 C0   J Sm D
    exfalso
    omega
  | succ r ih =>
    intro l2 l3 l4 l5 l6 l8 h hm y0 y1 y2 y3 y4 y5 y6 y7 C0   J Sm D
    rw [d_X12_partLevy_r125d_51.eq_2] at D
    have jb := jsv_b C0.1.2.1
    have j1 := C0.1.1
    have jl := jcl_of (d := l8) (by omega)
    refine x_iload (x := l8) rfl rfl ?_
    refine x_iload (x := l5) rfl rfl ?_
    refine x_icge (tgt := 171) rfl rfl (ti_ge rfl rfl ⟨fun c1 => ?_, fun c1 => ?_⟩)
    ·
      rw [if_pos (by omega)] at D
      refine x_lload (x := l6) rfl rfl ?_
      refine x_lconst (v := 0) rfl kl_0 ?_
      refine z_lcmp rfl rfl jkl_0 (fun v2 ev2 => ?_)
      refine x_ifne (tgt := 182) rfl rfl (ti_ne rfl jk_0 ⟨fun c3 => ?_, fun c3 => ?_⟩)
      ·
        rw [if_neg (by omega)] at D
        refine x_aloadn (x := 125) rfl rfl ?_
        refine z_getR (N := 92) (b := 126) 12 2 rfl f_12_8 rfl J rfl 16002 ⟨rfl, rfl⟩ rfl ?_
        refine x_iloadn (x := l2) rfl rfl ?_
        refine x_iconst (v := 2) rfl ki_2 ?_
        refine z_iadd rfl rfl jk_2 (by omega) (fun v4 ev4 => ?_)
        refine z_iald (N := 50660) rfl J rfl sg_126_48300_48460_4_2_3 rfl (by omega) (fun v5 qv5 ev5 => ?_)
        try rw [vrd qv5 (show (l2.toInt + 2) = v4.toInt from by omega)] at D
        refine z_i2l rfl rfl (fun v6 ev6 => ?_)
        try rw [show v5.toInt = v6.toInt from by omega] at D
        exact jX.sub (jsb_c rfl (jsb_c rfl (jsb_c rfl (jsb_c rfl (jsb_c rfl (jsb_c rfl jsb_n)))))) (ct_X12_partLevy_r125d_191 hD hQ  l2 l3 l4 l5 l6 v6 h (jr_of rfl (by omega)) (jr_mod rfl (by omega)) (jr_of rfl (by omega)) (jr_of rfl (by omega)) (jr_mod rfl (by omega)) (jr_of rfl (by omega)) (jr_ofl rfl (by omega)) (jr_ofl rfl (by omega)) (by omega) (jF2_1 C0.1 (by have := C0.2; omega) (by omega) (jPn_b J (by omega)) (by have q := jPn_q (l := l2) qv5 (by omega) (by omega); omega)) J Sm D)
      ·
        rw [if_pos (by omega)] at D
        refine x_lconst (v := 0) rfl kl_0 ?_
        refine x_goto (tgt := 191) rfl rfl ?_
        exact jX.sub (jsb_c rfl (jsb_c rfl (jsb_c rfl (jsb_c rfl (jsb_c rfl (jsb_c rfl jsb_n)))))) (ct_X12_partLevy_r125d_5000191 hD hQ  l2 l3 l4 l5 l6 h (jr_of rfl (by omega)) (jr_mod rfl (by omega)) (jr_of rfl (by omega)) (jr_of rfl (by omega)) (jr_mod rfl (by omega)) (jr_of rfl (by omega)) (jr_ofl rfl (by omega)) (jF2_0 C0.1 (by have := C0.2; omega) (by omega) (jPn_b J (by omega))) J Sm D)
    ·
      rw [if_neg (by omega)] at D
      refine x_aloadn (x := 125) rfl rfl ?_
      refine z_getR (N := 92) (b := 165) 12 80 rfl f_12_153 rfl J rfl 16080 ⟨rfl, rfl⟩ rfl ?_
      refine x_iload (x := l8) rfl rfl ?_
      refine x_lconst (v := 0) rfl kl_0 ?_
      refine z_last (N := 40) (l := 0) (u := 40) rfl hD J Sm rfl rfl rfl (by omega) rfl (fun h w7 J Sm => ?_)
      rw [vwwL w7 (show l8.toInt = l8.toInt from by omega) (show 0 = (0 : Int64).toInt from by have := jkl_0; omega)] at D
      refine x_aloadn (x := 125) rfl rfl ?_
      refine z_getR (N := 92) (b := 166) 12 81 rfl f_12_156 rfl J rfl 16081 ⟨rfl, rfl⟩ rfl ?_
      refine x_iload (x := l8) rfl rfl ?_
      refine x_ldc2 (v := (-1)) rfl z_12_242 ?_
      refine z_last (N := 40) (l := 0) (u := 40) rfl hD J Sm rfl rfl rfl (by omega) rfl (fun h w8 J Sm => ?_)
      rw [vwwL w8 (show l8.toInt = l8.toInt from by omega) (show (-1) = ((-1) : Int64).toInt from by have := jkl_m1; omega)] at D
      refine x_aloadn (x := 125) rfl rfl ?_
      refine z_getR (N := 92) (b := 167) 12 82 rfl f_12_159 rfl J rfl 16082 ⟨rfl, rfl⟩ rfl ?_
      refine x_iload (x := l8) rfl rfl ?_
      refine x_aloadn (x := 125) rfl rfl ?_
      refine z_getR (N := 92) (b := 162) 12 77 rfl f_12_144 rfl J rfl 16077 ⟨rfl, rfl⟩ rfl ?_
      refine x_bipush (v := 40) rfl kb_40 ?_
      refine x_iload (x := l8) rfl rfl ?_
      refine z_iadd rfl jk_40 rfl (by omega) (fun v9 ev9 => ?_)
      refine z_iald0 (N := 80) rfl J rfl rfl (by omega) (fun v10 qv10 => ?_)
      have ev10 := jfull v10
      try rw [vrd (jmb_l w7 (jmb_l w8 qv10)) (show (40 + l8.toInt) = v9.toInt from by omega)] at D
      refine x_ifle (tgt := 133) rfl rfl (ti_le rfl jk_0 ⟨fun c11 => ?_, fun c11 => ?_⟩)
      ·
        rw [if_pos (by omega)] at D
        exact jX.sub (jsb_c rfl (jsb_c rfl (jsb_c rfl (jsb_c rfl (jsb_c rfl (jsb_c rfl (jsb_c rfl jsb_n))))))) (ct_X12_partLevy_r125d_133 hD hQ ih l2 l3 l4 l5 l6 l8 l8 h (jr_of rfl (by omega)) (jr_mod rfl (by omega)) (jr_of rfl (by omega)) (jr_of rfl (by omega)) (jr_mod rfl (by omega)) (jr_of rfl (by omega)) (jr_ofl rfl (by omega)) (jr_of rfl (by omega)) (jr_of rfl (by omega)) ⟨(jF1_e (jeq_l w8 (jeq_l w7 jeq_0)) (jeq_l w8 (jeq_l w7 jeq_0)) (jlq_s w8 (by omega) (jlq_o w7 rfl jlq_0)) C0.1), rfl, (by rw [(jlq_0 (P := fun _ => True)) _ trivial, jlv_w w8]; decide), (by omega)⟩ (by omega) J Sm D)
      ·
        rw [if_neg (by omega)] at D
        refine x_aloadn (x := 125) rfl rfl ?_
        refine z_getR (N := 92) (b := 163) 12 78 rfl f_12_147 rfl J rfl 16078 ⟨rfl, rfl⟩ rfl ?_
        refine x_bipush (v := 40) rfl kb_40 ?_
        refine x_iload (x := l8) rfl rfl ?_
        refine z_iadd rfl jk_40 rfl (by omega) (fun v12 ev12 => ?_)
        refine z_iald (N := 80) rfl J rfl sg_163_0_80_1_0_1 rfl (by omega) (fun v13 qv13 ev13 => ?_)
        try rw [vrd (jmb_l w7 (jmb_l w8 qv13)) (show (40 + l8.toInt) = v12.toInt from by omega)] at D
        refine x_iconst (v := (-1)) rfl ki_m1 ?_
        refine x_iceq (tgt := 133) rfl rfl (ti_eq rfl jk_m1 ⟨fun c14 => ?_, fun c14 => ?_⟩)
        ·
          rw [if_pos (by omega)] at D
          exact jX.sub (jsb_c rfl (jsb_c rfl (jsb_c rfl (jsb_c rfl (jsb_c rfl (jsb_c rfl (jsb_c rfl jsb_n))))))) (ct_X12_partLevy_r125d_133 hD hQ ih l2 l3 l4 l5 l6 l8 l8 h (jr_of rfl (by omega)) (jr_mod rfl (by omega)) (jr_of rfl (by omega)) (jr_of rfl (by omega)) (jr_mod rfl (by omega)) (jr_of rfl (by omega)) (jr_ofl rfl (by omega)) (jr_of rfl (by omega)) (jr_of rfl (by omega)) ⟨(jF1_e (jeq_l w8 (jeq_l w7 jeq_0)) (jeq_l w8 (jeq_l w7 jeq_0)) (jlq_s w8 (by omega) (jlq_o w7 rfl jlq_0)) C0.1), rfl, (by rw [(jlq_0 (P := fun _ => True)) _ trivial, jlv_w w8]; decide), (by omega)⟩ (by omega) J Sm D)
        ·
          rw [if_neg (by omega)] at D
          refine x_aloadn (x := 125) rfl rfl ?_
          refine x_iloadn (x := l3) rfl rfl ?_
          refine x_aloadn (x := 125) rfl rfl ?_
          refine z_getR (N := 92) (b := 163) 12 78 rfl f_12_147 rfl J rfl 16078 ⟨rfl, rfl⟩ rfl ?_
          refine x_bipush (v := 40) rfl kb_40 ?_
          refine x_iload (x := l8) rfl rfl ?_
          refine z_iadd rfl jk_40 rfl (by omega) (fun v15 ev15 => ?_)
          refine z_iald (N := 80) rfl J rfl sg_163_0_80_1_0_1 rfl (by omega) (fun v16 qv16 ev16 => ?_)
          try rw [show v13.toInt = v16.toInt from ((vrd (jmb_l w7 (jmb_l w8 qv13)) (show (40 + l8.toInt) = v12.toInt from by omega)).symm.trans (vrd (jmb_l w7 (jmb_l w8 qv16)) (show (40 + l8.toInt) = v15.toInt from by omega)))] at D
          try rw [vrd (jmb_l w7 (jmb_l w8 qv16)) (show (40 + l8.toInt) = v15.toInt from by omega)] at D
          refine x_iload (x := l4) rfl rfl ?_
          refine x_inv (N := m_X12_isExempt) (As := [.int l3, .int v16, .int l4]) (b := 125) (st := [.int l8, .ref 167]) (dx9 := 11) (mc := 0) (ms := 0) (host := "") 12 rfl t_X12_isExempt ⟨Or.inl q_12_821, i_X12_isExempt.1, i_X12_isExempt.2⟩ ⟨by decide, rfl⟩ (congrArg Prod.fst (J.1.1 125 (12, 92) rfl)) rfl (by decide) rfl rfl ⟨by decide, by decide⟩ (sf_X12_isExempt_r125d (jr_of rfl (by omega)) (jr_of rfl (by omega)) (jr_of rfl (by omega)) (jr_mod rfl (by omega)) hD J rfl  (fun v20 h ev20 J S17 X18 X19 => ?_))
          have Sm := jSm_tr rfl Sm S17
          try rw [X18] at D
          try rw [X19] at D
          show jX m_X12_partLevy 12 0 0 126 [(0, .ref 125), (2, .int l2), (3, .int l3), (4, .int l4), (5, .int l5), (6, .long l6), (8, .int l8)] [.int v20, .int l8, .ref 167] _ 0 0 _
          refine x_ifne (tgt := 133) rfl rfl (ti_ne rfl jk_0 ⟨fun c21 => ?_, fun c21 => ?_⟩)
          ·
            rw [if_neg (by omega)] at D
            exact jX.sub (jsb_c rfl (jsb_c rfl (jsb_c rfl (jsb_c rfl (jsb_c rfl (jsb_c rfl (jsb_c rfl jsb_n))))))) (ct_X12_partLevy_r125d_133 hD hQ ih l2 l3 l4 l5 l6 l8 l8 h (jr_of rfl (by omega)) (jr_mod rfl (by omega)) (jr_of rfl (by omega)) (jr_of rfl (by omega)) (jr_mod rfl (by omega)) (jr_of rfl (by omega)) (jr_ofl rfl (by omega)) (jr_of rfl (by omega)) (jr_of rfl (by omega)) ⟨(jF1_e (jeq_c S17 rfl (jeq_l w8 (jeq_l w7 jeq_0))) (jeq_c2 (lo := 40) S17 rfl (fun _ q => q) (jeq_l w8 (jeq_l w7 jeq_0))) (jlq_cc S17 rfl (jlq_s w8 (by omega) (jlq_o w7 rfl jlq_0))) C0.1), rfl, (by rw [(jlq_cc S17 rfl (jlq_0 (P := fun _ => True))) _ trivial, jlv_w w8]; decide), (by omega)⟩ (by omega) J Sm D)
          ·
            rw [if_pos (by omega)] at D
            refine x_iconst (v := 1) rfl ki_1 ?_
            refine x_goto (tgt := 134) rfl rfl ?_
            exact jX.sub (jsb_c rfl (jsb_c rfl (jsb_c rfl (jsb_c rfl (jsb_c rfl (jsb_c rfl (jsb_c rfl jsb_n))))))) (ct_X12_partLevy_r125d_300134 hD hQ ih l2 l3 l4 l5 l6 l8 l8 h (jr_of rfl (by omega)) (jr_mod rfl (by omega)) (jr_of rfl (by omega)) (jr_of rfl (by omega)) (jr_mod rfl (by omega)) (jr_of rfl (by omega)) (jr_ofl rfl (by omega)) (jr_of rfl (by omega)) (jr_of rfl (by omega)) ⟨(jF1_e (jeq_c S17 rfl (jeq_l w8 (jeq_l w7 jeq_0))) (jeq_c2 (lo := 40) S17 rfl (fun _ q => q) (jeq_l w8 (jeq_l w7 jeq_0))) (jlq_cc S17 rfl (jlq_s w8 (by omega) (jlq_o w7 rfl jlq_0))) C0.1), rfl, (by rw [(jlq_cc S17 rfl (jlq_0 (P := fun _ => True))) _ trivial, jlv_w w8]; decide), (by omega), (by rw [← jcl_40 (x := v9) (by omega) (by omega), (jmc2 (lo := 40) S17 rfl rfl (by omega) qv10)]; omega)⟩ (by omega) J Sm D)
set_option maxRecDepth 100000 in
set_option maxHeartbeats 4000000 in
theorem sf_X12_partLevy_r125d {Dy : jH → Prop} {h : jH} {Q : Option Value → jH → Prop} {dr : jW} {a1 : Int32} (y1 : 0 ≤ a1.toInt ∧ a1.toInt ≤ 39) (hD : jDk Dy) (J : jJ jSgM Dy h) (D : d_X12_partLevy_r125d a1.toInt (vw h) = dr) (hQ : ∀ hx9, jJ jSgM Dy hx9 → jSm fp_X12_partLevy_r125d h hx9 → dr = vw hx9 → Q none hx9) : jC m_X12_partLevy 12 0 0 [.ref 125, .int a1] h Q := by
  refine jC.of rfl k_X12_partLevy rfl ?_
  have Sm := jSm_rf fp_X12_partLevy_r125d h
  show jX m_X12_partLevy 12 0 0 0 [(0, .ref 125), (1, .int a1)] [] _ 0 0 _
  unfold d_X12_partLevy_r125d at D
  refine x_ldcw (v := 48300) rfl z_12_820 ?_
  refine x_iconst (v := 4) rfl ki_4 ?_
  refine x_iloadn (x := a1) rfl rfl ?_
  refine z_imul rfl jk_4 rfl (by omega) (fun v1 ev1 => ?_)
  refine z_iadd rfl jk_48300 rfl (by omega) (fun v2 ev2 => ?_)
  refine x_istoren (lsx9 := [(2, .int v2), (0, .ref 125), (1, .int a1)]) rfl rfl rfl ?_
  refine x_aloadn (x := 125) rfl rfl ?_
  refine z_getR (N := 92) (b := 126) 12 2 rfl f_12_8 rfl J rfl 16002 ⟨rfl, rfl⟩ rfl ?_
  refine x_iloadn (x := v2) rfl rfl ?_
  refine z_iald (N := 50660) rfl J rfl sg_126_48300_48460_4_0_1 rfl (by omega) (fun v3 qv3 ev3 => ?_)
  try rw [vrd qv3 (show (48300 + (4 * a1.toInt)) = v2.toInt from by omega)] at D
  refine x_istoren (lsx9 := [(3, .int v3), (2, .int v2), (0, .ref 125), (1, .int a1)]) rfl rfl rfl ?_
  refine x_aloadn (x := 125) rfl rfl ?_
  refine z_getR (N := 92) (b := 126) 12 2 rfl f_12_8 rfl J rfl 16002 ⟨rfl, rfl⟩ rfl ?_
  refine x_iloadn (x := v2) rfl rfl ?_
  refine x_iconst (v := 1) rfl ki_1 ?_
  refine z_iadd rfl rfl jk_1 (by omega) (fun v4 ev4 => ?_)
  refine z_iald (N := 50660) rfl J rfl sg_126_48300_48460_4_1_2 rfl (by omega) (fun v5 qv5 ev5 => ?_)
  try rw [vrd qv5 (show ((48300 + (4 * a1.toInt)) + 1) = v4.toInt from by omega)] at D
  refine x_sipush (v := 366) rfl ks_366 ?_
  refine z_imul rfl rfl jk_366 (by omega) (fun v6 ev6 => ?_)
  refine x_istore (lsx9 := [(4, .int v6), (3, .int v3), (2, .int v2), (0, .ref 125), (1, .int a1)]) rfl rfl rfl ?_
  refine x_aloadn (x := 125) rfl rfl ?_
  refine z_getR (N := 92) (b := 126) 12 2 rfl f_12_8 rfl J rfl 16002 ⟨rfl, rfl⟩ rfl ?_
  refine x_bipush (v := 7) rfl kb_7 ?_
  refine z_iald (N := 50660) rfl J rfl sg_126_7_8_1_0_1 jk_7 (by omega) (fun v7 qv7 ev7 => ?_)
  try rw [vrn (n := 7) (by decide) qv7] at D
  refine x_istore (lsx9 := [(5, .int v7), (4, .int v6), (3, .int v3), (2, .int v2), (0, .ref 125), (1, .int a1)]) rfl rfl rfl ?_
  refine x_aloadn (x := 125) rfl rfl ?_
  refine x_iload (x := v6) rfl rfl ?_
  refine x_iconst (v := 1) rfl ki_1 ?_
  try rw [show (v5.toInt * 366) = v6.toInt from by omega] at D
  refine x_inv (N := m_X12_findHouses) (As := [.int v6, .int 1]) (b := 125) (st := []) (dx9 := 2) (mc := 0) (ms := 0) (host := "") 12 rfl t_X12_findHouses ⟨Or.inl q_12_694, i_X12_findHouses.1, i_X12_findHouses.2⟩ ⟨by decide, rfl⟩ (congrArg Prod.fst (J.1.1 125 (12, 92) rfl)) rfl (by decide) rfl rfl ⟨by decide, by decide⟩ (sf_X12_findHouses_r125_c1d (jr_of rfl (by omega)) hD J rfl  (fun h J S8 X9 => ?_))
  have Sm := jSm_tr rfl Sm S8
  rw [X9] at D
  show jX m_X12_partLevy 12 0 0 45 [(5, .int v7), (4, .int v6), (3, .int v3), (2, .int v2), (0, .ref 125), (1, .int a1)] [] _ 0 0 _
  refine x_lconst (v := 0) rfl kl_0 ?_
  refine x_lstore (lsx9 := [(6, .long 0), (5, .int v7), (4, .int v6), (3, .int v3), (2, .int v2), (0, .ref 125), (1, .int a1)]) rfl rfl rfl ?_
  refine x_iconst (v := 0) rfl ki_0 ?_
  refine x_istore (lsx9 := [(8, .int 0), (6, .long 0), (5, .int v7), (4, .int v6), (3, .int v3), (2, .int v2), (0, .ref 125), (1, .int a1)]) rfl rfl rfl ?_
  try rw [show (48300 + (4 * a1.toInt)) = v2.toInt from by omega] at D
  exact jX.sub (jsb_c rfl (jsb_c rfl (jsb_c rfl (jsb_c rfl (jsb_c rfl (jsb_c rfl (jsb_c rfl jsb_n))))))) (ct_X12_partLevy_r125d_51 hD hQ  41 v2 v3 v6 v7 0 0 h (by have := jk_0; omega) (jr_of rfl (by omega)) (jr_mod rfl (by omega)) (jr_of rfl (by omega)) (jr_of rfl (by omega)) (jr_mod rfl (by omega)) (jr_of rfl (by omega)) (jr_ofl jkl_0 (by omega)) (jr_of jk_0 (by omega)) ⟨jF1_0, (by have := jk_0; omega)⟩ J Sm (by rw [jkl_0, jk_0]; exact D))
def fp_X12_arrear_r125d : jFp := [(125, 0, 1), (125, 28, 29), (125, 31, 32), (125, 32, 33), (125, 33, 34), (125, 34, 35), (125, 35, 36), (125, 57, 58), (125, 61, 62), (125, 62, 63), (125, 63, 64), (125, 64, 65), (125, 65, 66), (125, 66, 67), (137, 0, 80), (138, 0, 2), (139, 0, 600), (140, 0, 200), (152, 0, 360), (153, 0, 30), (154, 0, 400), (155, 0, 360), (162, 0, 40), (162, 40, 80), (163, 0, 40), (163, 40, 80), (164, 0, 40), (165, 0, 40), (166, 0, 40), (167, 0, 40)]
set_option maxRecDepth 100000 in
set_option maxHeartbeats 4000000 in
theorem ct_X12_arrear_r125d_55 {Dy : jH → Prop} {h0 : jH} {Q : Option Value → jH → Prop} {dr : (Int × jW)} (hD : jDk Dy) (hQ : ∀ (v : Int32) hx9, jJ jSgM Dy hx9 → jSm fp_X12_arrear_r125d h0 hx9 → dr.1 = v.toInt → dr.2 = vw hx9 → Q (some (.int v)) hx9) : ∀ (h : jH), jJ jSgM Dy h → jSm fp_X12_arrear_r125d h0 h → d_X12_arrear_r125d_55  (vw h) = dr → jX m_X12_arrear 13 0 0 55 [] [] h 0 0 Q := by
  intro  h    J Sm D
  unfold d_X12_arrear_r125d_55 at D
  refine x_ldcw (v := (-2000000000)) rfl z_12_831 ?_
  refine x_iret rfl rfl ?_
  exact hQ _ _ J Sm ((congrArg Prod.fst D).symm.trans (show (-2000000000) = ((-2000000000) : Int32).toInt from by have := jk_m2000000000; omega)) (congrArg Prod.snd D).symm
set_option maxRecDepth 100000 in
set_option maxHeartbeats 4000000 in
theorem ct_X12_arrear_r125d_170 {Dy : jH → Prop} {h0 : jH} {Q : Option Value → jH → Prop} {dr : (Int × jW)} {K82 : Int → Int → Int → Int → Int → Int → jW → (Int × jW)} {R82 : Int} (hD : jDk Dy) (hQ : ∀ (v : Int32) hx9, jJ jSgM Dy hx9 → jSm fp_X12_arrear_r125d h0 hx9 → dr.1 = v.toInt → dr.2 = vw hx9 → Q (some (.int v)) hx9) (k82 : ∀ (l1 : Int32) (l2 : Int32) (l3 : Int32) (l4 : Int32) (l5 : Int32) (l6 : Int32) (h : jH), 100 - l6.toInt < R82 → 0 ≤ l1.toInt ∧ l1.toInt ≤ 39 → 0 ≤ l2.toInt ∧ l2.toInt ≤ 39 → 0 ≤ l3.toInt ∧ l3.toInt ≤ 146399 → 0 ≤ l4.toInt ∧ l4.toInt ≤ 146399 → 0 ≤ l6.toInt ∧ l6.toInt ≤ 100 → jJ jSgM Dy h → jSm fp_X12_arrear_r125d h0 h → K82 l1.toInt l2.toInt l3.toInt l4.toInt l5.toInt l6.toInt (vw h) = dr → jX m_X12_arrear 13 0 0 82 [(0, .ref 125), (1, .int l1), (2, .int l2), (3, .int l3), (4, .int l4), (5, .int l5), (6, .int l6)] [] h 0 0 Q) : ∀ (l1 : Int32) (l2 : Int32) (l3 : Int32) (l4 : Int32) (l6 : Int32) (s0 : Int32) (s1 : Int32) (h : jH), 0 ≤ l1.toInt ∧ l1.toInt ≤ 39 → 0 ≤ l2.toInt ∧ l2.toInt ≤ 39 → 0 ≤ l3.toInt ∧ l3.toInt ≤ 146399 → 0 ≤ l4.toInt ∧ l4.toInt ≤ 146399 → 0 ≤ l6.toInt ∧ l6.toInt ≤ 99 → 0 ≤ s0.toInt ∧ s0.toInt ≤ 1000000 → 100 - l6.toInt ≤ R82 → jJ jSgM Dy h → jSm fp_X12_arrear_r125d h0 h → d_X12_arrear_r125d_170 K82  l1.toInt l2.toInt l3.toInt l4.toInt l6.toInt s0.toInt s1.toInt (vw h) = dr → jX m_X12_arrear 13 0 0 170 [(0, .ref 125), (1, .int l1), (2, .int l2), (3, .int l3), (4, .int l4), (6, .int l6)] [.int s0, .int s1] h 0 0 Q := by
  intro l1 l2 l3 l4 l6 s0 s1 h y0 y1 y2 y3 y4 y5  m82 J Sm D
  have es1 := jfull s1
  unfold d_X12_arrear_r125d_170 at D
  refine z_isubW rfl rfl rfl (fun v1 ev1 => ?_)
  have fv1 := jfull v1
  try rw [← ev1] at D
  refine x_istore (lsx9 := [(5, .int v1), (0, .ref 125), (1, .int l1), (2, .int l2), (3, .int l3), (4, .int l4), (6, .int l6)]) rfl rfl rfl ?_
  refine z_iinc (x := l6) (lsx9 := fun v2 => [(6, .int v2), (5, .int v1), (0, .ref 125), (1, .int l1), (2, .int l2), (3, .int l3), (4, .int l4)]) rfl rfl rfl jko_1 (by omega) rfl (fun _ => rfl) (fun v2 ev2 => ?_)
  refine x_goto (tgt := 82) rfl rfl ?_
  try rw [show (l6.toInt + 1) = v2.toInt from by omega] at D
  exact jX.sub (jsb_c rfl (jsb_c rfl (jsb_c rfl (jsb_c rfl (jsb_c rfl (jsb_c rfl (jsb_c rfl jsb_n))))))) (k82 l1 l2 l3 l4 v1 v2 h (by omega) (jr_of rfl (by omega)) (jr_of rfl (by omega)) (jr_of rfl (by omega)) (jr_of rfl (by omega)) (jr_of rfl (by omega)) J Sm D)
set_option maxRecDepth 100000 in
set_option maxHeartbeats 4000000 in
theorem ct_X12_arrear_r125d_200170 {Dy : jH → Prop} {h0 : jH} {Q : Option Value → jH → Prop} {dr : (Int × jW)} {K82 : Int → Int → Int → Int → Int → Int → jW → (Int × jW)} {R82 : Int} (hD : jDk Dy) (hQ : ∀ (v : Int32) hx9, jJ jSgM Dy hx9 → jSm fp_X12_arrear_r125d h0 hx9 → dr.1 = v.toInt → dr.2 = vw hx9 → Q (some (.int v)) hx9) (k82 : ∀ (l1 : Int32) (l2 : Int32) (l3 : Int32) (l4 : Int32) (l5 : Int32) (l6 : Int32) (h : jH), 100 - l6.toInt < R82 → 0 ≤ l1.toInt ∧ l1.toInt ≤ 39 → 0 ≤ l2.toInt ∧ l2.toInt ≤ 39 → 0 ≤ l3.toInt ∧ l3.toInt ≤ 146399 → 0 ≤ l4.toInt ∧ l4.toInt ≤ 146399 → 0 ≤ l6.toInt ∧ l6.toInt ≤ 100 → jJ jSgM Dy h → jSm fp_X12_arrear_r125d h0 h → K82 l1.toInt l2.toInt l3.toInt l4.toInt l5.toInt l6.toInt (vw h) = dr → jX m_X12_arrear 13 0 0 82 [(0, .ref 125), (1, .int l1), (2, .int l2), (3, .int l3), (4, .int l4), (5, .int l5), (6, .int l6)] [] h 0 0 Q) : ∀ (l1 : Int32) (l2 : Int32) (l3 : Int32) (l4 : Int32) (l6 : Int32) (s1 : Int32) (h : jH), 0 ≤ l1.toInt ∧ l1.toInt ≤ 39 → 0 ≤ l2.toInt ∧ l2.toInt ≤ 39 → 0 ≤ l3.toInt ∧ l3.toInt ≤ 146399 → 0 ≤ l4.toInt ∧ l4.toInt ≤ 146399 → 0 ≤ l6.toInt ∧ l6.toInt ≤ 99 → 100 - l6.toInt ≤ R82 → jJ jSgM Dy h → jSm fp_X12_arrear_r125d h0 h → d_X12_arrear_r125d_200170 K82  l1.toInt l2.toInt l3.toInt l4.toInt l6.toInt s1.toInt (vw h) = dr → jX m_X12_arrear 13 0 0 170 [(0, .ref 125), (1, .int l1), (2, .int l2), (3, .int l3), (4, .int l4), (6, .int l6)] [.int 0, .int s1] h 0 0 Q := by
  intro l1 l2 l3 l4 l6 s1 h y0 y1 y2 y3 y4  m82 J Sm D
  have es1 := jfull s1
  unfold d_X12_arrear_r125d_200170 at D
  refine z_isub rfl rfl jk_0 (by omega) (fun v1 ev1 => ?_)
  refine x_istore (lsx9 := [(5, .int v1), (0, .ref 125), (1, .int l1), (2, .int l2), (3, .int l3), (4, .int l4), (6, .int l6)]) rfl rfl rfl ?_
  refine z_iinc (x := l6) (lsx9 := fun v2 => [(6, .int v2), (5, .int v1), (0, .ref 125), (1, .int l1), (2, .int l2), (3, .int l3), (4, .int l4)]) rfl rfl rfl jko_1 (by omega) rfl (fun _ => rfl) (fun v2 ev2 => ?_)
  refine x_goto (tgt := 82) rfl rfl ?_
  try rw [show (s1.toInt - 0) = v1.toInt from by omega] at D
  try rw [show (l6.toInt + 1) = v2.toInt from by omega] at D
  exact jX.sub (jsb_c rfl (jsb_c rfl (jsb_c rfl (jsb_c rfl (jsb_c rfl (jsb_c rfl (jsb_c rfl jsb_n))))))) (k82 l1 l2 l3 l4 v1 v2 h (by omega) (jr_of rfl (by omega)) (jr_of rfl (by omega)) (jr_of rfl (by omega)) (jr_of rfl (by omega)) (jr_of rfl (by omega)) J Sm D)
set_option maxRecDepth 100000 in
set_option maxHeartbeats 4000000 in
theorem ct_X12_arrear_r125d_169 {Dy : jH → Prop} {h0 : jH} {Q : Option Value → jH → Prop} {dr : (Int × jW)} {K82 : Int → Int → Int → Int → Int → Int → jW → (Int × jW)} {R82 : Int} (hD : jDk Dy) (hQ : ∀ (v : Int32) hx9, jJ jSgM Dy hx9 → jSm fp_X12_arrear_r125d h0 hx9 → dr.1 = v.toInt → dr.2 = vw hx9 → Q (some (.int v)) hx9) (k82 : ∀ (l1 : Int32) (l2 : Int32) (l3 : Int32) (l4 : Int32) (l5 : Int32) (l6 : Int32) (h : jH), 100 - l6.toInt < R82 → 0 ≤ l1.toInt ∧ l1.toInt ≤ 39 → 0 ≤ l2.toInt ∧ l2.toInt ≤ 39 → 0 ≤ l3.toInt ∧ l3.toInt ≤ 146399 → 0 ≤ l4.toInt ∧ l4.toInt ≤ 146399 → 0 ≤ l6.toInt ∧ l6.toInt ≤ 100 → jJ jSgM Dy h → jSm fp_X12_arrear_r125d h0 h → K82 l1.toInt l2.toInt l3.toInt l4.toInt l5.toInt l6.toInt (vw h) = dr → jX m_X12_arrear 13 0 0 82 [(0, .ref 125), (1, .int l1), (2, .int l2), (3, .int l3), (4, .int l4), (5, .int l5), (6, .int l6)] [] h 0 0 Q) : ∀ (l1 : Int32) (l2 : Int32) (l3 : Int32) (l4 : Int32) (l6 : Int32) (s0 : Int32) (h : jH), 0 ≤ l1.toInt ∧ l1.toInt ≤ 39 → 0 ≤ l2.toInt ∧ l2.toInt ≤ 39 → 0 ≤ l3.toInt ∧ l3.toInt ≤ 146399 → 0 ≤ l4.toInt ∧ l4.toInt ≤ 146399 → 0 ≤ l6.toInt ∧ l6.toInt ≤ 99 → 100 - l6.toInt ≤ R82 → jJ jSgM Dy h → jSm fp_X12_arrear_r125d h0 h → d_X12_arrear_r125d_169 K82  l1.toInt l2.toInt l3.toInt l4.toInt l6.toInt s0.toInt (vw h) = dr → jX m_X12_arrear 13 0 0 169 [(0, .ref 125), (1, .int l1), (2, .int l2), (3, .int l3), (4, .int l4), (6, .int l6)] [.int s0] h 0 0 Q := by
  intro l1 l2 l3 l4 l6 s0 h y0 y1 y2 y3 y4  m82 J Sm D
  have es0 := jfull s0
  unfold d_X12_arrear_r125d_169 at D
  refine x_iconst (v := 0) rfl ki_0 ?_
  exact jX.sub (jsb_c rfl (jsb_c rfl (jsb_c rfl (jsb_c rfl (jsb_c rfl (jsb_c rfl jsb_n)))))) (ct_X12_arrear_r125d_200170 hD hQ k82 l1 l2 l3 l4 l6 s0 h (jr_of rfl (by omega)) (jr_of rfl (by omega)) (jr_of rfl (by omega)) (jr_of rfl (by omega)) (jr_of rfl (by omega)) (by omega) J Sm D)
set_option maxRecDepth 100000 in
set_option maxHeartbeats 4000000 in
theorem ct_X12_arrear_r125d_82 {Dy : jH → Prop} {h0 : jH} {Q : Option Value → jH → Prop} {dr : (Int × jW)} (hD : jDk Dy) (hQ : ∀ (v : Int32) hx9, jJ jSgM Dy hx9 → jSm fp_X12_arrear_r125d h0 hx9 → dr.1 = v.toInt → dr.2 = vw hx9 → Q (some (.int v)) hx9) : ∀ r : Nat, ∀ (l1 : Int32) (l2 : Int32) (l3 : Int32) (l4 : Int32) (l5 : Int32) (l6 : Int32) (h : jH), 100 - l6.toInt < (r : Int) → 0 ≤ l1.toInt ∧ l1.toInt ≤ 39 → 0 ≤ l2.toInt ∧ l2.toInt ≤ 39 → 0 ≤ l3.toInt ∧ l3.toInt ≤ 146399 → 0 ≤ l4.toInt ∧ l4.toInt ≤ 146399 → 0 ≤ l6.toInt ∧ l6.toInt ≤ 100 → jJ jSgM Dy h → jSm fp_X12_arrear_r125d h0 h → d_X12_arrear_r125d_82 r l1.toInt l2.toInt l3.toInt l4.toInt l5.toInt l6.toInt (vw h) = dr → jX m_X12_arrear 13 0 0 82 [(0, .ref 125), (1, .int l1), (2, .int l2), (3, .int l3), (4, .int l4), (5, .int l5), (6, .int l6)] [] h 0 0 Q := by
  intro r
  induction r with
  | zero =>
    intro l1 l2 l3 l4 l5 l6 h hm y0 y1 y2 y3 y4   J Sm D
    exfalso
    have el5 := jfull l5
    omega
  | succ r ih =>
    intro l1 l2 l3 l4 l5 l6 h hm y0 y1 y2 y3 y4   J Sm D
    have el5 := jfull l5
    rw [d_X12_arrear_r125d_82.eq_2] at D
    refine x_iload (x := l6) rfl rfl ?_
    refine x_aloadn (x := 125) rfl rfl ?_
    refine z_getR (N := 92) (b := 126) 12 2 rfl f_12_8 rfl J rfl 16002 ⟨rfl, rfl⟩ rfl ?_
    refine x_bipush (v := 12) rfl kb_12 ?_
    refine z_iald (N := 50660) rfl J rfl sg_126_12_13_1_0_1 jk_12 (by omega) (fun v1 qv1 ev1 => ?_)
    try rw [vrn (n := 12) (by decide) qv1] at D
    refine x_icge (tgt := 179) rfl rfl (ti_ge rfl rfl ⟨fun c2 => ?_, fun c2 => ?_⟩)
    ·
      rw [if_pos (by omega)] at D
      refine x_iload (x := l5) rfl rfl ?_
      refine x_iret rfl rfl ?_
      exact hQ _ _ J Sm ((congrArg Prod.fst D).symm.trans (show l5.toInt = l5.toInt from by omega)) (congrArg Prod.snd D).symm
    ·
      rw [if_neg (by omega)] at D
      refine x_ldcw (v := 48460) rfl z_12_830 ?_
      refine x_iconst (v := 5) rfl ki_5 ?_
      refine x_iload (x := l6) rfl rfl ?_
      refine z_imul rfl jk_5 rfl (by omega) (fun v3 ev3 => ?_)
      refine z_iadd rfl jk_48460 rfl (by omega) (fun v4 ev4 => ?_)
      refine x_istore (lsx9 := [(7, .int v4), (0, .ref 125), (1, .int l1), (2, .int l2), (3, .int l3), (4, .int l4), (5, .int l5), (6, .int l6)]) rfl rfl rfl ?_
      refine x_iload (x := l5) rfl rfl ?_
      refine x_aloadn (x := 125) rfl rfl ?_
      refine z_getR (N := 92) (b := 126) 12 2 rfl f_12_8 rfl J rfl 16002 ⟨rfl, rfl⟩ rfl ?_
      refine x_iload (x := v4) rfl rfl ?_
      refine z_iald (N := 50660) rfl J rfl sg_126_48460_48960_5_0_1 rfl (by omega) (fun v5 qv5 ev5 => ?_)
      try rw [vrd qv5 (show (48460 + (5 * l6.toInt)) = v4.toInt from by omega)] at D
      refine x_iloadn (x := l1) rfl rfl ?_
      refine x_icne (tgt := 169) rfl rfl (ti_ne rfl rfl ⟨fun c6 => ?_, fun c6 => ?_⟩)
      ·
        rw [if_neg (by omega)] at D
        exact jX.sub (jsb_c rfl (jsb_c rfl (jsb_c rfl (jsb_c rfl (jsb_c rfl (jsb_c rfl jsb_n)))))) (ct_X12_arrear_r125d_169 hD hQ ih l1 l2 l3 l4 l6 l5 h (jr_of rfl (by omega)) (jr_of rfl (by omega)) (jr_of rfl (by omega)) (jr_of rfl (by omega)) (jr_of rfl (by omega)) (by omega) J Sm D)
      ·
        rw [if_pos (by omega)] at D
        refine x_aloadn (x := 125) rfl rfl ?_
        refine z_getR (N := 92) (b := 126) 12 2 rfl f_12_8 rfl J rfl 16002 ⟨rfl, rfl⟩ rfl ?_
        refine x_iload (x := v4) rfl rfl ?_
        refine x_iconst (v := 1) rfl ki_1 ?_
        refine z_iadd rfl rfl jk_1 (by omega) (fun v7 ev7 => ?_)
        refine z_iald (N := 50660) rfl J rfl sg_126_48460_48960_5_1_2 rfl (by omega) (fun v8 qv8 ev8 => ?_)
        try rw [vrd qv8 (show ((48460 + (5 * l6.toInt)) + 1) = v7.toInt from by omega)] at D
        refine x_iloadn (x := l2) rfl rfl ?_
        refine x_icne (tgt := 169) rfl rfl (ti_ne rfl rfl ⟨fun c9 => ?_, fun c9 => ?_⟩)
        ·
          rw [if_neg (by omega)] at D
          exact jX.sub (jsb_c rfl (jsb_c rfl (jsb_c rfl (jsb_c rfl (jsb_c rfl (jsb_c rfl jsb_n)))))) (ct_X12_arrear_r125d_169 hD hQ ih l1 l2 l3 l4 l6 l5 h (jr_of rfl (by omega)) (jr_of rfl (by omega)) (jr_of rfl (by omega)) (jr_of rfl (by omega)) (jr_of rfl (by omega)) (by omega) J Sm D)
        ·
          rw [if_pos (by omega)] at D
          refine x_aloadn (x := 125) rfl rfl ?_
          refine z_getR (N := 92) (b := 126) 12 2 rfl f_12_8 rfl J rfl 16002 ⟨rfl, rfl⟩ rfl ?_
          refine x_iload (x := v4) rfl rfl ?_
          refine x_iconst (v := 3) rfl ki_3 ?_
          refine z_iadd rfl rfl jk_3 (by omega) (fun v10 ev10 => ?_)
          refine z_iald (N := 50660) rfl J rfl sg_126_48460_48960_5_3_4 rfl (by omega) (fun v11 qv11 ev11 => ?_)
          try rw [vrd qv11 (show ((48460 + (5 * l6.toInt)) + 3) = v10.toInt from by omega)] at D
          refine x_iloadn (x := l3) rfl rfl ?_
          refine x_icgt (tgt := 169) rfl rfl (ti_gt rfl rfl ⟨fun c12 => ?_, fun c12 => ?_⟩)
          ·
            rw [if_pos (by omega)] at D
            exact jX.sub (jsb_c rfl (jsb_c rfl (jsb_c rfl (jsb_c rfl (jsb_c rfl (jsb_c rfl jsb_n)))))) (ct_X12_arrear_r125d_169 hD hQ ih l1 l2 l3 l4 l6 l5 h (jr_of rfl (by omega)) (jr_of rfl (by omega)) (jr_of rfl (by omega)) (jr_of rfl (by omega)) (jr_of rfl (by omega)) (by omega) J Sm D)
          ·
            rw [if_neg (by omega)] at D
            refine x_aloadn (x := 125) rfl rfl ?_
            refine z_getR (N := 92) (b := 126) 12 2 rfl f_12_8 rfl J rfl 16002 ⟨rfl, rfl⟩ rfl ?_
            refine x_iload (x := v4) rfl rfl ?_
            refine x_iconst (v := 4) rfl ki_4 ?_
            refine z_iadd rfl rfl jk_4 (by omega) (fun v13 ev13 => ?_)
            refine z_iald (N := 50660) rfl J rfl sg_126_48460_48960_5_4_5 rfl (by omega) (fun v14 qv14 ev14 => ?_)
            try rw [vrd qv14 (show ((48460 + (5 * l6.toInt)) + 4) = v13.toInt from by omega)] at D
            refine x_iload (x := l4) rfl rfl ?_
            refine x_icgt (tgt := 169) rfl rfl (ti_gt rfl rfl ⟨fun c15 => ?_, fun c15 => ?_⟩)
            ·
              rw [if_pos (by omega)] at D
              exact jX.sub (jsb_c rfl (jsb_c rfl (jsb_c rfl (jsb_c rfl (jsb_c rfl (jsb_c rfl jsb_n)))))) (ct_X12_arrear_r125d_169 hD hQ ih l1 l2 l3 l4 l6 l5 h (jr_of rfl (by omega)) (jr_of rfl (by omega)) (jr_of rfl (by omega)) (jr_of rfl (by omega)) (jr_of rfl (by omega)) (by omega) J Sm D)
            ·
              rw [if_neg (by omega)] at D
              refine x_aloadn (x := 125) rfl rfl ?_
              refine z_getR (N := 92) (b := 126) 12 2 rfl f_12_8 rfl J rfl 16002 ⟨rfl, rfl⟩ rfl ?_
              refine x_iload (x := v4) rfl rfl ?_
              refine x_iconst (v := 2) rfl ki_2 ?_
              refine z_iadd rfl rfl jk_2 (by omega) (fun v16 ev16 => ?_)
              refine z_iald (N := 50660) rfl J rfl sg_126_48460_48960_5_2_3 rfl (by omega) (fun v17 qv17 ev17 => ?_)
              try rw [vrd qv17 (show ((48460 + (5 * l6.toInt)) + 2) = v16.toInt from by omega)] at D
              refine x_goto (tgt := 170) rfl rfl ?_
              exact jX.sub (jsb_c rfl (jsb_c rfl (jsb_c rfl (jsb_c rfl (jsb_c rfl (jsb_c rfl jsb_n)))))) (ct_X12_arrear_r125d_170 hD hQ ih l1 l2 l3 l4 l6 v17 l5 h (jr_of rfl (by omega)) (jr_of rfl (by omega)) (jr_of rfl (by omega)) (jr_of rfl (by omega)) (jr_of rfl (by omega)) (jr_of rfl (by omega)) (by omega) J Sm D)
set_option maxRecDepth 100000 in
set_option maxHeartbeats 4000000 in
theorem sf_X12_arrear_r125d {Dy : jH → Prop} {h : jH} {Q : Option Value → jH → Prop} {dr : (Int × jW)} {a1 : Int32} {a2 : Int32} {a3 : Int32} {a4 : Int32} (hD : jDk Dy) (J : jJ jSgM Dy h) (D : d_X12_arrear_r125d a1.toInt a2.toInt a3.toInt a4.toInt (vw h) = dr) (hQ : ∀ (v : Int32) hx9, jJ jSgM Dy hx9 → jSm fp_X12_arrear_r125d h hx9 → dr.1 = v.toInt → dr.2 = vw hx9 → Q (some (.int v)) hx9) : jC m_X12_arrear 13 0 0 [.ref 125, .int a1, .int a2, .int a3, .int a4] h Q := by
  refine jC.of rfl k_X12_arrear rfl ?_
  have Sm := jSm_rf fp_X12_arrear_r125d h
  have ea1 := jfull a1
  have ea2 := jfull a2
  have ea3 := jfull a3
  have ea4 := jfull a4
  show jX m_X12_arrear 13 0 0 0 [(0, .ref 125), (1, .int a1), (2, .int a2), (3, .int a3), (4, .int a4)] [] _ 0 0 _
  unfold d_X12_arrear_r125d at D
  refine x_aloadn (x := 125) rfl rfl ?_
  refine x_iconst (v := 0) rfl ki_0 ?_
  refine z_putI (N := 92) (w := 0) 12 0 rfl f_12_180 rfl (jfin_no TX12 RX12 92 rfl rfl) hD J Sm rfl rfl jk_0 (pw_125_0 (by omega)) rfl (fun h w1 J Sm => ?_)
  rw [vwf w1 (show 0 = (0 : Int32).toInt from by have := jk_0; omega)] at D
  refine x_aloadn (x := 125) rfl rfl ?_
  refine x_iloadn (x := a1) rfl rfl ?_
  refine x_inv (N := m_X12_isLevy) (As := [.int a1]) (b := 125) (st := []) (dx9 := 12) (mc := 0) (ms := 0) (host := "") 12 rfl t_X12_isLevy ⟨Or.inl q_12_824, i_X12_isLevy.1, i_X12_isLevy.2⟩ ⟨by decide, rfl⟩ (congrArg Prod.fst (J.1.1 125 (12, 92) rfl)) rfl (by decide) rfl rfl ⟨by decide, by decide⟩ (jC.of rfl k_X12_isLevy rfl ?_)
  show jX m_X12_isLevy 12 0 0 0 [(0, .ref 125), (1, .int a1)] [] _ 0 0 _
  refine x_iloadn (x := a1) rfl rfl ?_
  refine z_i2l rfl rfl (fun v2 ev2 => ?_)
  refine x_lconst (v := 0) rfl kl_0 ?_
  refine x_aloadn (x := 125) rfl rfl ?_
  refine z_getR (N := 92) (b := 126) 12 2 rfl f_12_8 rfl J rfl 16002 ⟨rfl, rfl⟩ rfl ?_
  refine x_bipush (v := 11) rfl kb_11 ?_
  refine z_iald (N := 50660) rfl J rfl sg_126_11_12_1_0_1 jk_11 (by omega) (fun v3 qv3 ev3 => ?_)
  try rw [vrn (n := 11) (by decide) (jmb_w w1 qv3 rfl)] at D
  refine z_i2l rfl rfl (fun v4 ev4 => ?_)
  refine x_lconst (v := 1) rfl kl_1 ?_
  refine z_lsub rfl rfl jkl_1 (by omega) (fun v5 ev5 => ?_)
  refine x_inst (N := m_X12_in) (As := [.long v2, .long 0, .long v5]) (st := []) (dx9 := 1) (mc := 0) (ms := 0) (host := "") rfl t_X12_in ⟨Or.inl q_12_188, s_X12_in⟩ rfl (by decide) rfl rfl ⟨by decide, by decide⟩ (zc_X12_in rfl jkl_0 rfl (fun v6 ev6 => ?_))
  show jX m_X12_isLevy 12 0 0 16 [(0, .ref 125), (1, .int a1)] [.int v6] _ 0 0 _
  refine x_zret rfl rfl (jz01 (by omega)) ?_
  show jX m_X12_arrear 13 0 0 10 [(0, .ref 125), (1, .int a1), (2, .int a2), (3, .int a3), (4, .int a4)] [.int v6] _ 0 0 _
  refine x_ifeq (tgt := 55) rfl rfl (ti_eq rfl jk_0 ⟨fun c7 => ?_, fun c7 => ?_⟩)
  ·
    rw [if_neg (by omega)] at D
    exact jX.sub jsb_n (ct_X12_arrear_r125d_55 hD hQ  h J Sm D)
  ·
    rw [if_pos (by omega)] at D
    refine x_aloadn (x := 125) rfl rfl ?_
    refine x_iloadn (x := a2) rfl rfl ?_
    refine x_inv (N := m_X12_isHolding) (As := [.int a2]) (b := 125) (st := []) (dx9 := 12) (mc := 0) (ms := 0) (host := "") 12 rfl t_X12_isHolding ⟨Or.inl q_12_811, i_X12_isHolding.1, i_X12_isHolding.2⟩ ⟨by decide, rfl⟩ (congrArg Prod.fst (J.1.1 125 (12, 92) rfl)) rfl (by decide) rfl rfl ⟨by decide, by decide⟩ (jC.of rfl k_X12_isHolding rfl ?_)
    show jX m_X12_isHolding 12 0 0 0 [(0, .ref 125), (1, .int a2)] [] _ 0 0 _
    refine x_iloadn (x := a2) rfl rfl ?_
    refine z_i2l rfl rfl (fun v8 ev8 => ?_)
    refine x_lconst (v := 0) rfl kl_0 ?_
    refine x_aloadn (x := 125) rfl rfl ?_
    refine z_getR (N := 92) (b := 126) 12 2 rfl f_12_8 rfl J rfl 16002 ⟨rfl, rfl⟩ rfl ?_
    refine x_bipush (v := 7) rfl kb_7 ?_
    refine z_iald (N := 50660) rfl J rfl sg_126_7_8_1_0_1 jk_7 (by omega) (fun v9 qv9 ev9 => ?_)
    try rw [vrn (n := 7) (by decide) (jmb_w w1 qv9 rfl)] at D
    refine z_i2l rfl rfl (fun v10 ev10 => ?_)
    refine x_lconst (v := 1) rfl kl_1 ?_
    refine z_lsub rfl rfl jkl_1 (by omega) (fun v11 ev11 => ?_)
    refine x_inst (N := m_X12_in) (As := [.long v8, .long 0, .long v11]) (st := []) (dx9 := 1) (mc := 0) (ms := 0) (host := "") rfl t_X12_in ⟨Or.inl q_12_188, s_X12_in⟩ rfl (by decide) rfl rfl ⟨by decide, by decide⟩ (zc_X12_in rfl jkl_0 rfl (fun v12 ev12 => ?_))
    show jX m_X12_isHolding 12 0 0 16 [(0, .ref 125), (1, .int a2)] [.int v12] _ 0 0 _
    refine x_zret rfl rfl (jz01 (by omega)) ?_
    show jX m_X12_arrear 13 0 0 18 [(0, .ref 125), (1, .int a1), (2, .int a2), (3, .int a3), (4, .int a4)] [.int v12] _ 0 0 _
    refine x_ifeq (tgt := 55) rfl rfl (ti_eq rfl jk_0 ⟨fun c13 => ?_, fun c13 => ?_⟩)
    ·
      rw [if_neg (by omega)] at D
      exact jX.sub jsb_n (ct_X12_arrear_r125d_55 hD hQ  h J Sm D)
    ·
      rw [if_pos (by omega)] at D
      refine x_iloadn (x := a3) rfl rfl ?_
      refine x_inst (N := m_X12_isDay) (As := [.int a3]) (st := []) (dx9 := 2) (mc := 0) (ms := 0) (host := "") rfl t_X12_isDay ⟨Or.inl q_12_273, s_X12_isDay⟩ rfl (by decide) rfl rfl ⟨by decide, by decide⟩ (zc_X12_isDay (d := 1) rfl (fun v14 ev14 => ?_))
      show jX m_X12_arrear 13 0 0 25 [(0, .ref 125), (1, .int a1), (2, .int a2), (3, .int a3), (4, .int a4)] [.int v14] _ 0 0 _
      refine x_ifeq (tgt := 55) rfl rfl (ti_eq rfl jk_0 ⟨fun c15 => ?_, fun c15 => ?_⟩)
      ·
        rw [if_neg (by omega)] at D
        exact jX.sub jsb_n (ct_X12_arrear_r125d_55 hD hQ  h J Sm D)
      ·
        rw [if_pos (by omega)] at D
        refine x_iload (x := a4) rfl rfl ?_
        refine x_inst (N := m_X12_isDay) (As := [.int a4]) (st := []) (dx9 := 2) (mc := 0) (ms := 0) (host := "") rfl t_X12_isDay ⟨Or.inl q_12_273, s_X12_isDay⟩ rfl (by decide) rfl rfl ⟨by decide, by decide⟩ (zc_X12_isDay (d := 1) rfl (fun v16 ev16 => ?_))
        show jX m_X12_arrear 13 0 0 33 [(0, .ref 125), (1, .int a1), (2, .int a2), (3, .int a3), (4, .int a4)] [.int v16] _ 0 0 _
        refine x_ifeq (tgt := 55) rfl rfl (ti_eq rfl jk_0 ⟨fun c17 => ?_, fun c17 => ?_⟩)
        ·
          rw [if_neg (by omega)] at D
          exact jX.sub jsb_n (ct_X12_arrear_r125d_55 hD hQ  h J Sm D)
        ·
          rw [if_pos (by omega)] at D
          refine x_aloadn (x := 125) rfl rfl ?_
          refine z_getR (N := 92) (b := 126) 12 2 rfl f_12_8 rfl J rfl 16002 ⟨rfl, rfl⟩ rfl ?_
          refine x_ldcw (v := 48300) rfl z_12_820 ?_
          refine x_iconst (v := 4) rfl ki_4 ?_
          refine x_iloadn (x := a1) rfl rfl ?_
          refine z_imul rfl jk_4 rfl (by omega) (fun v18 ev18 => ?_)
          refine z_iadd rfl jk_48300 rfl (by omega) (fun v19 ev19 => ?_)
          refine x_iconst (v := 3) rfl ki_3 ?_
          refine z_iadd rfl rfl jk_3 (by omega) (fun v20 ev20 => ?_)
          refine z_iald (N := 50660) rfl J rfl sg_126_48300_48460_4_3_4 rfl (by omega) (fun v21 qv21 ev21 => ?_)
          try rw [vrd (jmb_w w1 qv21 rfl) (show ((48300 + (4 * a1.toInt)) + 3) = v20.toInt from by omega)] at D
          refine x_iload (x := a4) rfl rfl ?_
          refine x_icle (tgt := 59) rfl rfl (ti_le rfl rfl ⟨fun c22 => ?_, fun c22 => ?_⟩)
          ·
            rw [if_pos (by omega)] at D
            refine x_aloadn (x := 125) rfl rfl ?_
            refine x_iload (x := a4) rfl rfl ?_
            refine x_inv (N := m_X12_find) (As := [.int a4]) (b := 125) (st := []) (dx9 := 8) (mc := 0) (ms := 0) (host := "") 12 rfl t_X12_find ⟨Or.inl q_12_393, i_X12_find.1, i_X12_find.2⟩ ⟨by decide, rfl⟩ (congrArg Prod.fst (J.1.1 125 (12, 92) rfl)) rfl (by decide) rfl rfl ⟨by decide, by decide⟩ (sf_X12_find_r125d (jr_of rfl (by omega)) hD J rfl  (fun h J S23 X24 => ?_))
            have Sm := jSm_tr rfl Sm S23
            rw [X24] at D
            show jX m_X12_arrear 13 0 0 65 [(0, .ref 125), (1, .int a1), (2, .int a2), (3, .int a3), (4, .int a4)] [] _ 0 0 _
            refine x_aloadn (x := 125) rfl rfl ?_
            refine x_iloadn (x := a1) rfl rfl ?_
            refine x_inv (N := m_X12_partLevy) (As := [.int a1]) (b := 125) (st := []) (dx9 := 12) (mc := 0) (ms := 0) (host := "") 12 rfl t_X12_partLevy ⟨Or.inl q_12_827, i_X12_partLevy.1, i_X12_partLevy.2⟩ ⟨by decide, rfl⟩ (congrArg Prod.fst (J.1.1 125 (12, 92) rfl)) rfl (by decide) rfl rfl ⟨by decide, by decide⟩ (sf_X12_partLevy_r125d (jr_of rfl (by omega)) hD J rfl  (fun h J S25 X26 => ?_))
            have Sm := jSm_tr rfl Sm S25
            rw [X26] at D
            show jX m_X12_arrear 13 0 0 70 [(0, .ref 125), (1, .int a1), (2, .int a2), (3, .int a3), (4, .int a4)] [] _ 0 0 _
            refine x_aloadn (x := 125) rfl rfl ?_
            refine z_getR (N := 92) (b := 165) 12 80 rfl f_12_153 rfl J rfl 16080 ⟨rfl, rfl⟩ rfl ?_
            refine x_iloadn (x := a2) rfl rfl ?_
            refine z_laldQ (N := 40) rfl J rfl rfl (by omega) (fun v27 qv27 => ?_)
            have ev27 := jfullL v27
            try rw [vrdL qv27 (show a2.toInt = a2.toInt from by omega)] at D
            refine z_l2iD rfl rfl (fun v28 ev28 => ?_)
            have fv28 := jfull v28
            try rw [← ev28] at D
            refine x_istore (lsx9 := [(5, .int v28), (0, .ref 125), (1, .int a1), (2, .int a2), (3, .int a3), (4, .int a4)]) rfl rfl rfl ?_
            refine x_iconst (v := 0) rfl ki_0 ?_
            refine x_istore (lsx9 := [(6, .int 0), (5, .int v28), (0, .ref 125), (1, .int a1), (2, .int a2), (3, .int a3), (4, .int a4)]) rfl rfl rfl ?_
            exact jX.sub (jsb_c rfl (jsb_c rfl (jsb_c rfl (jsb_c rfl (jsb_c rfl (jsb_c rfl (jsb_c rfl jsb_n))))))) (ct_X12_arrear_r125d_82 hD hQ  101 a1 a2 a3 a4 v28 0 h (by have := jk_0; omega) (jr_of rfl (by omega)) (jr_of rfl (by omega)) (jr_of rfl (by omega)) (jr_of rfl (by omega)) (jr_of jk_0 (by omega)) J Sm (by rw [jk_0]; exact D))
          ·
            rw [if_neg (by omega)] at D
            exact jX.sub jsb_n (ct_X12_arrear_r125d_55 hD hQ  h J Sm D)
def fp_X12_as_r125d : jFp := [(125, 0, 1)]
set_option maxRecDepth 100000 in
set_option maxHeartbeats 4000000 in
theorem ct_X12_as_r125d_144 {Dy : jH → Prop} {h0 : jH} {Q : Option Value → jH → Prop} {dr : (Int × jW)} (hD : jDk Dy) (hQ : ∀ (v : Int32) hx9, (-3) ≤ v.toInt ∧ v.toInt ≤ 199 → jJ jSgM Dy hx9 → jSm fp_X12_as_r125d h0 hx9 → dr.1 = v.toInt → dr.2 = vw hx9 → Q (some (.int v)) hx9) : ∀ (s0 : Int32) (h : jH), (-3) ≤ s0.toInt ∧ s0.toInt ≤ 199 → jJ jSgM Dy h → jSm fp_X12_as_r125d h0 h → d_X12_as_r125d_144  s0.toInt (vw h) = dr → jX m_X12_as 3 0 0 144 [] [.int s0] h 0 0 Q := by
  intro s0 h y0   J Sm D
  unfold d_X12_as_r125d_144 at D
  refine x_iret rfl rfl ?_
  exact hQ _ _ (jr_of rfl (by omega)) J Sm ((congrArg Prod.fst D).symm.trans (show s0.toInt = s0.toInt from by omega)) (congrArg Prod.snd D).symm
set_option maxRecDepth 100000 in
set_option maxHeartbeats 4000000 in
theorem ct_X12_as_r125d_200130 {Dy : jH → Prop} {h0 : jH} {Q : Option Value → jH → Prop} {dr : (Int × jW)} (hD : jDk Dy) (hQ : ∀ (v : Int32) hx9, (-3) ≤ v.toInt ∧ v.toInt ≤ 199 → jJ jSgM Dy hx9 → jSm fp_X12_as_r125d h0 hx9 → dr.1 = v.toInt → dr.2 = vw hx9 → Q (some (.int v)) hx9) : ∀ (l4 : Int32) (h : jH), 0 ≤ l4.toInt ∧ l4.toInt ≤ 199 → jJ jSgM Dy h → jSm fp_X12_as_r125d h0 h → d_X12_as_r125d_200130  l4.toInt (vw h) = dr → jX m_X12_as 3 0 0 130 [(4, .int l4)] [.int 0] h 0 0 Q := by
  intro l4 h y0   J Sm D
  unfold d_X12_as_r125d_200130 at D
  refine x_istore (lsx9 := [(5, .int 0), (4, .int l4)]) rfl rfl rfl ?_
  refine x_iload (x := 0) rfl rfl ?_
  refine x_ifeq (tgt := 142) rfl rfl (ti_eq jk_0 jk_0 (br_t (by omega) ?_))
  refine x_bipush (v := (-3)) rfl kb_m3 ?_
  exact jX.sub jsb_n (ct_X12_as_r125d_144 hD hQ  (-3) h (jr_of jk_m3 (by omega)) J Sm (by rw [jk_m3]; exact D))
set_option maxRecDepth 100000 in
set_option maxHeartbeats 4000000 in
theorem ct_X12_as_r125d_300130 {Dy : jH → Prop} {h0 : jH} {Q : Option Value → jH → Prop} {dr : (Int × jW)} (hD : jDk Dy) (hQ : ∀ (v : Int32) hx9, (-3) ≤ v.toInt ∧ v.toInt ≤ 199 → jJ jSgM Dy hx9 → jSm fp_X12_as_r125d h0 hx9 → dr.1 = v.toInt → dr.2 = vw hx9 → Q (some (.int v)) hx9) : ∀ (l4 : Int32) (h : jH), 0 ≤ l4.toInt ∧ l4.toInt ≤ 199 → jJ jSgM Dy h → jSm fp_X12_as_r125d h0 h → d_X12_as_r125d_300130  l4.toInt (vw h) = dr → jX m_X12_as 3 0 0 130 [(4, .int l4)] [.int 1] h 0 0 Q := by
  intro l4 h y0   J Sm D
  unfold d_X12_as_r125d_300130 at D
  refine x_istore (lsx9 := [(5, .int 1), (4, .int l4)]) rfl rfl rfl ?_
  refine x_iload (x := 1) rfl rfl ?_
  refine x_ifeq (tgt := 142) rfl rfl (ti_eq jk_1 jk_0 (br_f (by omega) ?_))
  refine x_iload (x := l4) rfl rfl ?_
  refine x_goto (tgt := 144) rfl rfl ?_
  exact jX.sub jsb_n (ct_X12_as_r125d_144 hD hQ  l4 h (jr_of rfl (by omega)) J Sm D)
set_option maxRecDepth 100000 in
set_option maxHeartbeats 4000000 in
theorem ct_X12_as_r125d_129 {Dy : jH → Prop} {h0 : jH} {Q : Option Value → jH → Prop} {dr : (Int × jW)} (hD : jDk Dy) (hQ : ∀ (v : Int32) hx9, (-3) ≤ v.toInt ∧ v.toInt ≤ 199 → jJ jSgM Dy hx9 → jSm fp_X12_as_r125d h0 hx9 → dr.1 = v.toInt → dr.2 = vw hx9 → Q (some (.int v)) hx9) : ∀ (l4 : Int32) (h : jH), 0 ≤ l4.toInt ∧ l4.toInt ≤ 199 → jJ jSgM Dy h → jSm fp_X12_as_r125d h0 h → d_X12_as_r125d_129  l4.toInt (vw h) = dr → jX m_X12_as 3 0 0 129 [(4, .int l4)] [] h 0 0 Q := by
  intro l4 h y0   J Sm D
  unfold d_X12_as_r125d_129 at D
  refine x_iconst (v := 0) rfl ki_0 ?_
  exact jX.sub (jsb_c rfl jsb_n) (ct_X12_as_r125d_200130 hD hQ  l4 h (jr_of rfl (by omega)) J Sm D)
set_option maxRecDepth 100000 in
set_option maxHeartbeats 4000000 in
theorem ct_X12_as_r125d_125 {Dy : jH → Prop} {h0 : jH} {Q : Option Value → jH → Prop} {dr : (Int × jW)} (hD : jDk Dy) (hQ : ∀ (v : Int32) hx9, (-3) ≤ v.toInt ∧ v.toInt ≤ 199 → jJ jSgM Dy hx9 → jSm fp_X12_as_r125d h0 hx9 → dr.1 = v.toInt → dr.2 = vw hx9 → Q (some (.int v)) hx9) : ∀ (l4 : Int32) (h : jH), 0 ≤ l4.toInt ∧ l4.toInt ≤ 199 → jJ jSgM Dy h → jSm fp_X12_as_r125d h0 h → d_X12_as_r125d_125  l4.toInt (vw h) = dr → jX m_X12_as 3 0 0 125 [(4, .int l4)] [] h 0 0 Q := by
  intro l4 h y0   J Sm D
  unfold d_X12_as_r125d_125 at D
  refine x_iconst (v := 1) rfl ki_1 ?_
  refine x_goto (tgt := 130) rfl rfl ?_
  exact jX.sub (jsb_c rfl jsb_n) (ct_X12_as_r125d_300130 hD hQ  l4 h (jr_of rfl (by omega)) J Sm D)
set_option maxRecDepth 100000 in
set_option maxHeartbeats 4000000 in
theorem sf_X12_as_r125d {Dy : jH → Prop} {h : jH} {Q : Option Value → jH → Prop} {dr : (Int × jW)} {a1 : Int32} {a2 : Int32} (hD : jDk Dy) (J : jJ jSgM Dy h) (D : d_X12_as_r125d a1.toInt a2.toInt (vw h) = dr) (hQ : ∀ (v : Int32) hx9, (-3) ≤ v.toInt ∧ v.toInt ≤ 199 → jJ jSgM Dy hx9 → jSm fp_X12_as_r125d h hx9 → dr.1 = v.toInt → dr.2 = vw hx9 → Q (some (.int v)) hx9) : jC m_X12_as 3 0 0 [.ref 125, .int a1, .int a2] h Q := by
  refine jC.of rfl k_X12_as rfl ?_
  have Sm := jSm_rf fp_X12_as_r125d h
  have ea1 := jfull a1
  have ea2 := jfull a2
  show jX m_X12_as 3 0 0 0 [(0, .ref 125), (1, .int a1), (2, .int a2)] [] _ 0 0 _
  unfold d_X12_as_r125d at D
  refine x_aloadn (x := 125) rfl rfl ?_
  refine x_iconst (v := 0) rfl ki_0 ?_
  refine z_putI (N := 92) (w := 0) 12 0 rfl f_12_180 rfl (jfin_no TX12 RX12 92 rfl rfl) hD J Sm rfl rfl jk_0 (pw_125_0 (by omega)) rfl (fun h w1 J Sm => ?_)
  rw [vwf w1 (show 0 = (0 : Int32).toInt from by have := jk_0; omega)] at D
  refine x_iloadn (x := a2) rfl rfl ?_
  refine z_i2l rfl rfl (fun v2 ev2 => ?_)
  refine x_lconst (v := 0) rfl kl_0 ?_
  refine x_ldc2 (v := 9) rfl z_12_505 ?_
  refine x_inst (N := m_X12_in) (As := [.long v2, .long 0, .long 9]) (st := []) (dx9 := 1) (mc := 0) (ms := 0) (host := "") rfl t_X12_in ⟨Or.inl q_12_188, s_X12_in⟩ rfl (by decide) rfl rfl ⟨by decide, by decide⟩ (zc_X12_in rfl jkl_0 jkl_9 (fun v3 ev3 => ?_))
  show jX m_X12_as 3 0 0 14 [(0, .ref 125), (1, .int a1), (2, .int a2)] [.int v3] _ 0 0 _
  refine x_ifne (tgt := 19) rfl rfl (ti_ne rfl jk_0 ⟨fun c4 => ?_, fun c4 => ?_⟩)
  ·
    rw [if_pos (by omega)] at D
    refine x_iloadn (x := a1) rfl rfl ?_
    refine z_i2l rfl rfl (fun v5 ev5 => ?_)
    refine x_lconst (v := 0) rfl kl_0 ?_
    refine x_aloadn (x := 125) rfl rfl ?_
    refine z_getR (N := 92) (b := 126) 12 2 rfl f_12_8 rfl J rfl 16002 ⟨rfl, rfl⟩ rfl ?_
    refine x_bipush (v := 16) rfl kb_16 ?_
    refine z_iald (N := 50660) rfl J rfl sg_126_16_17_1_0_1 jk_16 (by omega) (fun v6 qv6 ev6 => ?_)
    try rw [vrn (n := 16) (by decide) (jmb_w w1 qv6 rfl)] at D
    refine z_i2l rfl rfl (fun v7 ev7 => ?_)
    refine x_lconst (v := 1) rfl kl_1 ?_
    refine z_lsub rfl rfl jkl_1 (by omega) (fun v8 ev8 => ?_)
    refine x_inst (N := m_X12_in) (As := [.long v5, .long 0, .long v8]) (st := []) (dx9 := 1) (mc := 0) (ms := 0) (host := "") rfl t_X12_in ⟨Or.inl q_12_188, s_X12_in⟩ rfl (by decide) rfl rfl ⟨by decide, by decide⟩ (zc_X12_in rfl jkl_0 rfl (fun v9 ev9 => ?_))
    show jX m_X12_as 3 0 0 35 [(0, .ref 125), (1, .int a1), (2, .int a2)] [.int v9] _ 0 0 _
    refine x_ifne (tgt := 41) rfl rfl (ti_ne rfl jk_0 ⟨fun c10 => ?_, fun c10 => ?_⟩)
    ·
      rw [if_pos (by omega)] at D
      refine x_aloadn (x := 125) rfl rfl ?_
      refine z_getR (N := 92) (b := 126) 12 2 rfl f_12_8 rfl J rfl 16002 ⟨rfl, rfl⟩ rfl ?_
      refine x_ldc (v := 49920) rfl z_12_194 ?_
      refine x_iconst (v := 2) rfl ki_2 ?_
      refine x_iloadn (x := a1) rfl rfl ?_
      refine z_imul rfl jk_2 rfl (by omega) (fun v11 ev11 => ?_)
      refine z_iadd rfl jk_49920 rfl (by omega) (fun v12 ev12 => ?_)
      refine z_iald (N := 50660) rfl J rfl sg_126_49920_50660_2_0_1 rfl (by omega) (fun v13 qv13 ev13 => ?_)
      try rw [vrd (jmb_w w1 qv13 rfl) (show (49920 + (2 * a1.toInt)) = v12.toInt from by omega)] at D
      refine x_istoren (lsx9 := [(3, .int v13), (0, .ref 125), (1, .int a1), (2, .int a2)]) rfl rfl rfl ?_
      refine x_aloadn (x := 125) rfl rfl ?_
      refine z_getR (N := 92) (b := 126) 12 2 rfl f_12_8 rfl J rfl 16002 ⟨rfl, rfl⟩ rfl ?_
      refine x_ldc (v := 49920) rfl z_12_194 ?_
      refine x_iconst (v := 2) rfl ki_2 ?_
      refine x_iloadn (x := a1) rfl rfl ?_
      refine z_imul rfl jk_2 rfl (by omega) (fun v14 ev14 => ?_)
      refine z_iadd rfl jk_49920 rfl (by omega) (fun v15 ev15 => ?_)
      refine x_iconst (v := 1) rfl ki_1 ?_
      refine z_iadd rfl rfl jk_1 (by omega) (fun v16 ev16 => ?_)
      refine z_iald (N := 50660) rfl J rfl sg_126_49920_50660_2_1_2 rfl (by omega) (fun v17 qv17 ev17 => ?_)
      try rw [vrd (jmb_w w1 qv17 rfl) (show ((49920 + (2 * a1.toInt)) + 1) = v16.toInt from by omega)] at D
      refine x_istore (lsx9 := [(4, .int v17), (3, .int v13), (0, .ref 125), (1, .int a1), (2, .int a2)]) rfl rfl rfl ?_
      refine x_iloadn (x := a2) rfl rfl ?_
      refine x_bipush (v := 6) rfl kb_6 ?_
      refine x_icle (tgt := 90) rfl rfl (ti_le rfl jk_6 ⟨fun c18 => ?_, fun c18 => ?_⟩)
      ·
        rw [if_pos (by omega)] at D
        refine x_iloadn (x := v13) rfl rfl ?_
        refine x_ifne (tgt := 129) rfl rfl (ti_ne rfl jk_0 ⟨fun c19 => ?_, fun c19 => ?_⟩)
        ·
          rw [if_neg (by omega)] at D
          exact jX.sub (jsb_c rfl jsb_n) (ct_X12_as_r125d_129 hD hQ  v17 h (jr_of rfl (by omega)) J Sm D)
        ·
          rw [if_pos (by omega)] at D
          refine x_iloadn (x := a2) rfl rfl ?_
          refine x_bipush (v := 6) rfl kb_6 ?_
          refine x_iceq (tgt := 125) rfl rfl (ti_eq rfl jk_6 ⟨fun c20 => ?_, fun c20 => ?_⟩)
          ·
            rw [if_pos (by omega)] at D
            exact jX.sub (jsb_c rfl jsb_n) (ct_X12_as_r125d_125 hD hQ  v17 h (jr_of rfl (by omega)) J Sm D)
          ·
            rw [if_neg (by omega)] at D
            refine x_aloadn (x := 125) rfl rfl ?_
            refine x_iload (x := v17) rfl rfl ?_
            refine x_inv (N := m_X12_bookOf) (As := [.int v17]) (b := 125) (st := []) (dx9 := 2) (mc := 0) (ms := 0) (host := "") 12 rfl t_X12_bookOf ⟨Or.inl q_12_299, i_X12_bookOf.1, i_X12_bookOf.2⟩ ⟨by decide, rfl⟩ (congrArg Prod.fst (J.1.1 125 (12, 92) rfl)) rfl (by decide) rfl rfl ⟨by decide, by decide⟩ (jC.of rfl k_X12_bookOf rfl ?_)
            show jX m_X12_bookOf 2 0 0 0 [(0, .ref 125), (1, .int v17)] [] _ 0 0 _
            refine x_aloadn (x := 125) rfl rfl ?_
            refine z_getR (N := 92) (b := 126) 12 2 rfl f_12_8 rfl J rfl 16002 ⟨rfl, rfl⟩ rfl ?_
            refine x_aloadn (x := 125) rfl rfl ?_
            refine x_iloadn (x := v17) rfl rfl ?_
            refine x_inv (N := m_X12_at) (As := [.int v17]) (b := 125) (st := [.ref 126]) (dx9 := 1) (mc := 0) (ms := 0) (host := "") 12 rfl t_X12_at ⟨Or.inl q_12_254, i_X12_at.1, i_X12_at.2⟩ ⟨by decide, rfl⟩ (congrArg Prod.fst (J.1.1 125 (12, 92) rfl)) rfl (by decide) rfl rfl ⟨by decide, by decide⟩ (jC.of rfl k_X12_at rfl ?_)
            show jX m_X12_at 1 0 0 0 [(0, .ref 125), (1, .int v17)] [] _ 0 0 _
            refine x_bipush (v := 20) rfl kb_20 ?_
            refine x_bipush (v := 90) rfl kb_90 ?_
            refine x_iloadn (x := v17) rfl rfl ?_
            refine z_imul rfl jk_90 rfl (by omega) (fun v21 ev21 => ?_)
            refine z_iadd rfl jk_20 rfl (by omega) (fun v22 ev22 => ?_)
            refine x_iret rfl rfl ?_
            show jX m_X12_bookOf 2 0 0 9 [(0, .ref 125), (1, .int v17)] [.int v22, .ref 126] _ 0 0 _
            refine z_iald (N := 50660) rfl J rfl sg_126_20_18020_90_0_1 rfl (by omega) (fun v23 qv23 ev23 => ?_)
            try rw [vrd (jmb_w w1 qv23 rfl) (show (20 + (90 * v17.toInt)) = v22.toInt from by omega)] at D
            refine x_iret rfl rfl ?_
            show jX m_X12_as 3 0 0 106 [(4, .int v17), (3, .int v13), (0, .ref 125), (1, .int a1), (2, .int a2)] [.int v23] _ 0 0 _
            refine x_iloadn (x := a2) rfl rfl ?_
            refine x_iceq (tgt := 125) rfl rfl (ti_eq rfl rfl ⟨fun c24 => ?_, fun c24 => ?_⟩)
            ·
              rw [if_pos (by omega)] at D
              exact jX.sub (jsb_c rfl jsb_n) (ct_X12_as_r125d_125 hD hQ  v17 h (jr_of rfl (by omega)) J Sm D)
            ·
              rw [if_neg (by omega)] at D
              refine x_iloadn (x := a2) rfl rfl ?_
              refine x_iconst (v := 3) rfl ki_3 ?_
              refine x_icne (tgt := 129) rfl rfl (ti_ne rfl jk_3 ⟨fun c25 => ?_, fun c25 => ?_⟩)
              ·
                rw [if_neg (by omega)] at D
                exact jX.sub (jsb_c rfl jsb_n) (ct_X12_as_r125d_129 hD hQ  v17 h (jr_of rfl (by omega)) J Sm D)
              ·
                rw [if_pos (by omega)] at D
                refine x_aloadn (x := 125) rfl rfl ?_
                refine x_iload (x := v17) rfl rfl ?_
                refine x_inv (N := m_X12_bookOf) (As := [.int v17]) (b := 125) (st := []) (dx9 := 2) (mc := 0) (ms := 0) (host := "") 12 rfl t_X12_bookOf ⟨Or.inl q_12_299, i_X12_bookOf.1, i_X12_bookOf.2⟩ ⟨by decide, rfl⟩ (congrArg Prod.fst (J.1.1 125 (12, 92) rfl)) rfl (by decide) rfl rfl ⟨by decide, by decide⟩ (jC.of rfl k_X12_bookOf rfl ?_)
                show jX m_X12_bookOf 2 0 0 0 [(0, .ref 125), (1, .int v17)] [] _ 0 0 _
                refine x_aloadn (x := 125) rfl rfl ?_
                refine z_getR (N := 92) (b := 126) 12 2 rfl f_12_8 rfl J rfl 16002 ⟨rfl, rfl⟩ rfl ?_
                refine x_aloadn (x := 125) rfl rfl ?_
                refine x_iloadn (x := v17) rfl rfl ?_
                refine x_inv (N := m_X12_at) (As := [.int v17]) (b := 125) (st := [.ref 126]) (dx9 := 1) (mc := 0) (ms := 0) (host := "") 12 rfl t_X12_at ⟨Or.inl q_12_254, i_X12_at.1, i_X12_at.2⟩ ⟨by decide, rfl⟩ (congrArg Prod.fst (J.1.1 125 (12, 92) rfl)) rfl (by decide) rfl rfl ⟨by decide, by decide⟩ (jC.of rfl k_X12_at rfl ?_)
                show jX m_X12_at 1 0 0 0 [(0, .ref 125), (1, .int v17)] [] _ 0 0 _
                refine x_bipush (v := 20) rfl kb_20 ?_
                refine x_bipush (v := 90) rfl kb_90 ?_
                refine x_iloadn (x := v17) rfl rfl ?_
                refine z_imul rfl jk_90 rfl (by omega) (fun v26 ev26 => ?_)
                refine z_iadd rfl jk_20 rfl (by omega) (fun v27 ev27 => ?_)
                refine x_iret rfl rfl ?_
                show jX m_X12_bookOf 2 0 0 9 [(0, .ref 125), (1, .int v17)] [.int v27, .ref 126] _ 0 0 _
                refine z_iald (N := 50660) rfl J rfl sg_126_20_18020_90_0_1 rfl (by omega) (fun v28 qv28 ev28 => ?_)
                try rw [show v23.toInt = v28.toInt from ((vrd (jmb_w w1 qv23 rfl) (show (20 + (90 * v17.toInt)) = v22.toInt from by omega)).symm.trans (vrd (jmb_w w1 qv28 rfl) (show (20 + (90 * v17.toInt)) = v27.toInt from by omega)))] at D
                try rw [vrd (jmb_w w1 qv28 rfl) (show (20 + (90 * v17.toInt)) = v27.toInt from by omega)] at D
                refine x_iret rfl rfl ?_
                show jX m_X12_as 3 0 0 121 [(4, .int v17), (3, .int v13), (0, .ref 125), (1, .int a1), (2, .int a2)] [.int v28] _ 0 0 _
                refine x_iconst (v := 4) rfl ki_4 ?_
                refine x_icne (tgt := 129) rfl rfl (ti_ne rfl jk_4 ⟨fun c29 => ?_, fun c29 => ?_⟩)
                ·
                  rw [if_neg (by omega)] at D
                  exact jX.sub (jsb_c rfl jsb_n) (ct_X12_as_r125d_129 hD hQ  v17 h (jr_of rfl (by omega)) J Sm D)
                ·
                  rw [if_pos (by omega)] at D
                  exact jX.sub (jsb_c rfl jsb_n) (ct_X12_as_r125d_125 hD hQ  v17 h (jr_of rfl (by omega)) J Sm D)
      ·
        rw [if_neg (by omega)] at D
        refine x_iloadn (x := v13) rfl rfl ?_
        refine x_iloadn (x := a2) rfl rfl ?_
        refine x_bipush (v := 6) rfl kb_6 ?_
        refine z_isub rfl rfl jk_6 (by omega) (fun v30 ev30 => ?_)
        refine x_icne (tgt := 86) rfl rfl (ti_ne rfl rfl ⟨fun c31 => ?_, fun c31 => ?_⟩)
        ·
          rw [if_neg (by omega)] at D
          refine x_iconst (v := 0) rfl ki_0 ?_
          refine x_goto (tgt := 130) rfl rfl ?_
          exact jX.sub (jsb_c rfl jsb_n) (ct_X12_as_r125d_200130 hD hQ  v17 h (jr_of rfl (by omega)) J Sm D)
        ·
          rw [if_pos (by omega)] at D
          refine x_iconst (v := 1) rfl ki_1 ?_
          refine x_goto (tgt := 130) rfl rfl ?_
          exact jX.sub (jsb_c rfl jsb_n) (ct_X12_as_r125d_300130 hD hQ  v17 h (jr_of rfl (by omega)) J Sm D)
    ·
      rw [if_neg (by omega)] at D
      refine x_bipush (v := (-2)) rfl kb_m2 ?_
      refine x_iret rfl rfl ?_
      exact hQ _ _ (jr_of jk_m2 (by omega)) J Sm ((congrArg Prod.fst D).symm.trans (show (-2) = ((-2) : Int32).toInt from by have := jk_m2; omega)) (congrArg Prod.snd D).symm
  ·
    rw [if_neg (by omega)] at D
    refine x_iconst (v := (-1)) rfl ki_m1 ?_
    refine x_iret rfl rfl ?_
    exact hQ _ _ (jr_of jk_m1 (by omega)) J Sm ((congrArg Prod.fst D).symm.trans (show (-1) = ((-1) : Int32).toInt from by have := jk_m1; omega)) (congrArg Prod.snd D).symm
def fp_X12_named_r125d : jFp := []
set_option maxRecDepth 100000 in
set_option maxHeartbeats 4000000 in
theorem ct_X12_named_r125d_100018 {Dy : jH → Prop} {h0 : jH} {Q : Option Value → jH → Prop} {dr : Int} (hD : jDk Dy) (hQ : ∀ (v : Int32) hx9, (-1) ≤ v.toInt ∧ v.toInt ≤ 599 → jJ jSgM Dy hx9 → jSm fp_X12_named_r125d h0 hx9 → dr = v.toInt → vw hx9 = vw h0 → Q (some (.int v)) hx9) : ∀ (h : jH), jJ jSgM Dy h → jSm fp_X12_named_r125d h0 h → d_X12_named_r125d_100018  (vw h) = dr → vw h = vw h0 → jX m_X12_named 5 0 0 18 [] [.int (-1)] h 0 0 Q := by
  intro  h    J Sm D EV
  unfold d_X12_named_r125d_100018 at D
  refine x_iret rfl rfl ?_
  exact hQ _ _ (jr_of jk_m1 (by omega)) J Sm (D.symm.trans (show (-1) = ((-1) : Int32).toInt from by have := jk_m1; omega)) EV
set_option maxRecDepth 100000 in
set_option maxHeartbeats 4000000 in
theorem ct_X12_named_r125d_18 {Dy : jH → Prop} {h0 : jH} {Q : Option Value → jH → Prop} {dr : Int} (hD : jDk Dy) (hQ : ∀ (v : Int32) hx9, (-1) ≤ v.toInt ∧ v.toInt ≤ 599 → jJ jSgM Dy hx9 → jSm fp_X12_named_r125d h0 hx9 → dr = v.toInt → vw hx9 = vw h0 → Q (some (.int v)) hx9) : ∀ (s0 : Int32) (h : jH), (-1) ≤ s0.toInt ∧ s0.toInt ≤ 599 → jJ jSgM Dy h → jSm fp_X12_named_r125d h0 h → d_X12_named_r125d_18  s0.toInt (vw h) = dr → vw h = vw h0 → jX m_X12_named 5 0 0 18 [] [.int s0] h 0 0 Q := by
  intro s0 h y0   J Sm D EV
  unfold d_X12_named_r125d_18 at D
  refine x_iret rfl rfl ?_
  exact hQ _ _ (jr_of rfl (by omega)) J Sm (D.symm.trans (show s0.toInt = s0.toInt from by omega)) EV
set_option maxRecDepth 100000 in
set_option maxHeartbeats 4000000 in
theorem sf_X12_named_r125d {Dy : jH → Prop} {h : jH} {Q : Option Value → jH → Prop} {dr : Int} {a1 : Int32} (y1 : 0 ≤ a1.toInt ∧ a1.toInt ≤ 599) (hD : jDk Dy) (J : jJ jSgM Dy h) (D : d_X12_named_r125d a1.toInt (vw h) = dr) (hQ : ∀ (v : Int32) hx9, (-1) ≤ v.toInt ∧ v.toInt ≤ 599 → jJ jSgM Dy hx9 → jSm fp_X12_named_r125d h hx9 → dr = v.toInt → vw hx9 = vw h → Q (some (.int v)) hx9) : jC m_X12_named 5 0 0 [.ref 125, .int a1] h Q := by
  refine jC.of rfl k_X12_named rfl ?_
  have Sm := jSm_rf fp_X12_named_r125d h
  show jX m_X12_named 5 0 0 0 [(0, .ref 125), (1, .int a1)] [] _ 0 0 _
  unfold d_X12_named_r125d at D
  have EV : vw h = vw h := rfl
  refine x_aloadn (x := 125) rfl rfl ?_
  refine x_iloadn (x := a1) rfl rfl ?_
  refine x_inv (N := m_X12_isUnknown) (As := [.int a1]) (b := 125) (st := []) (dx9 := 4) (mc := 0) (ms := 0) (host := "") 12 rfl t_X12_isUnknown ⟨Or.inl q_12_402, i_X12_isUnknown.1, i_X12_isUnknown.2⟩ ⟨by decide, rfl⟩ (congrArg Prod.fst (J.1.1 125 (12, 92) rfl)) rfl (by decide) rfl rfl ⟨by decide, by decide⟩ (jC.of rfl k_X12_isUnknown rfl ?_)
  show jX m_X12_isUnknown 4 0 0 0 [(0, .ref 125), (1, .int a1)] [] _ 0 0 _
  refine x_aloadn (x := 125) rfl rfl ?_
  refine x_iloadn (x := a1) rfl rfl ?_
  refine x_iconst (v := 0) rfl ki_0 ?_
  refine x_inv (N := m_X12_isNamed) (As := [.int a1, .int 0]) (b := 125) (st := []) (dx9 := 3) (mc := 0) (ms := 0) (host := "") 12 rfl t_X12_isNamed ⟨Or.inl q_12_315, i_X12_isNamed.1, i_X12_isNamed.2⟩ ⟨by decide, rfl⟩ (congrArg Prod.fst (J.1.1 125 (12, 92) rfl)) rfl (by decide) rfl rfl ⟨by decide, by decide⟩ (jC.of rfl k_X12_isNamed rfl ?_)
  show jX m_X12_isNamed 3 0 0 0 [(0, .ref 125), (1, .int a1), (2, .int 0)] [] _ 0 0 _
  refine x_aloadn (x := 125) rfl rfl ?_
  refine z_getR (N := 92) (b := 126) 12 2 rfl f_12_8 rfl J rfl 16002 ⟨rfl, rfl⟩ rfl ?_
  refine x_aloadn (x := 125) rfl rfl ?_
  refine x_iloadn (x := a1) rfl rfl ?_
  refine x_iloadn (x := 0) rfl rfl ?_
  refine x_inv (N := m_X12_nameAt) (As := [.int a1, .int 0]) (b := 125) (st := [.ref 126]) (dx9 := 2) (mc := 0) (ms := 0) (host := "") 12 rfl t_X12_nameAt ⟨Or.inl q_12_311, i_X12_nameAt.1, i_X12_nameAt.2⟩ ⟨by decide, rfl⟩ (congrArg Prod.fst (J.1.1 125 (12, 92) rfl)) rfl (by decide) rfl rfl ⟨by decide, by decide⟩ (jC.of rfl k_X12_nameAt rfl ?_)
  show jX m_X12_nameAt 2 0 0 0 [(0, .ref 125), (1, .int a1), (2, .int 0)] [] _ 0 0 _
  refine x_aloadn (x := 125) rfl rfl ?_
  refine x_iloadn (x := a1) rfl rfl ?_
  refine x_iconst (v := 3) rfl ki_3 ?_
  refine z_idiv rfl rfl jk_3 (by omega) (by omega) (fun v1 ev1 => ?_)
  refine x_inv (N := m_X12_at) (As := [.int v1]) (b := 125) (st := []) (dx9 := 1) (mc := 0) (ms := 0) (host := "") 12 rfl t_X12_at ⟨Or.inl q_12_254, i_X12_at.1, i_X12_at.2⟩ ⟨by decide, rfl⟩ (congrArg Prod.fst (J.1.1 125 (12, 92) rfl)) rfl (by decide) rfl rfl ⟨by decide, by decide⟩ (jC.of rfl k_X12_at rfl ?_)
  show jX m_X12_at 1 0 0 0 [(0, .ref 125), (1, .int v1)] [] _ 0 0 _
  refine x_bipush (v := 20) rfl kb_20 ?_
  refine x_bipush (v := 90) rfl kb_90 ?_
  refine x_iloadn (x := v1) rfl rfl ?_
  refine z_imul rfl jk_90 rfl (by omega) (fun v2 ev2 => ?_)
  refine z_iadd rfl jk_20 rfl (by omega) (fun v3 ev3 => ?_)
  refine x_iret rfl rfl ?_
  show jX m_X12_nameAt 2 0 0 7 [(0, .ref 125), (1, .int a1), (2, .int 0)] [.int v3] _ 0 0 _
  refine x_bipush (v := 6) rfl kb_6 ?_
  refine z_iadd rfl rfl jk_6 (by omega) (fun v4 ev4 => ?_)
  refine x_bipush (v := 28) rfl kb_28 ?_
  refine x_iloadn (x := a1) rfl rfl ?_
  refine x_iconst (v := 3) rfl ki_3 ?_
  refine z_irem rfl rfl jk_3 (by omega) (by omega) (fun v5 ev5 => ?_)
  refine z_imul rfl jk_28 rfl (by omega) (fun v6 ev6 => ?_)
  refine z_iadd rfl rfl rfl (by omega) (fun v7 ev7 => ?_)
  refine x_bipush (v := 14) rfl kb_14 ?_
  refine x_iloadn (x := 0) rfl rfl ?_
  refine y_imul (v := 0) rfl (by decide) ?_
  refine z_iadd rfl rfl jk_0 (by omega) (fun v8 ev8 => ?_)
  have rnv8 := jnam (m := a1.toInt) (w := 0) (v := v8.toInt) (by omega) (by omega) (by omega)
  refine x_iret rfl rfl ?_
  show jX m_X12_isNamed 3 0 0 10 [(0, .ref 125), (1, .int a1), (2, .int 0)] [.int v8, .ref 126] _ 0 0 _
  refine z_ialdU (N := 50660) (lo := 0) (hi := 12) rfl J rfl rfl (by omega) ((show (v8.toInt - 20) % 90 = 6 ∨ (v8.toInt - 20) % 90 = 34 ∨ (v8.toInt - 20) % 90 = 62 from by omega).elim (fun q => (jrg_w (jrg_c J sg_126_20_18020_90_6_7 rfl (by omega)) (by decide))) (fun q => q.elim (fun q => (jrg_w (jrg_c J sg_126_20_18020_90_34_35 rfl (by omega)) (by decide))) (fun q => (jrg_w (jrg_c J sg_126_20_18020_90_62_63 rfl (by omega)) (by decide))))) (fun v9 qv9 ev9 => ?_)
  try rw [vrd qv9 (show ((((20 + (90 * (a1.toInt / 3))) + 6) + (28 * (a1.toInt % 3))) + 0) = v8.toInt from by omega)] at D
  refine x_ifle (tgt := 18) rfl rfl (ti_le rfl jk_0 ⟨fun c10 => ?_, fun c10 => ?_⟩)
  ·
    rw [if_pos (by omega)] at D
    refine x_iconst (v := 0) rfl ki_0 ?_
    refine x_zret rfl rfl (by decide) ?_
    show jX m_X12_isUnknown 4 0 0 6 [(0, .ref 125), (1, .int a1)] [.int 0] _ 0 0 _
    refine x_ifne (tgt := 22) rfl rfl (ti_ne jk_0 jk_0 (bn_f (by omega) ?_))
    refine x_aloadn (x := 125) rfl rfl ?_
    refine x_iloadn (x := a1) rfl rfl ?_
    refine x_iconst (v := 1) rfl ki_1 ?_
    refine x_inv (N := m_X12_isNamed) (As := [.int a1, .int 1]) (b := 125) (st := []) (dx9 := 3) (mc := 0) (ms := 0) (host := "") 12 rfl t_X12_isNamed ⟨Or.inl q_12_315, i_X12_isNamed.1, i_X12_isNamed.2⟩ ⟨by decide, rfl⟩ (congrArg Prod.fst (J.1.1 125 (12, 92) rfl)) rfl (by decide) rfl rfl ⟨by decide, by decide⟩ (jC.of rfl k_X12_isNamed rfl ?_)
    show jX m_X12_isNamed 3 0 0 0 [(0, .ref 125), (1, .int a1), (2, .int 1)] [] _ 0 0 _
    refine x_aloadn (x := 125) rfl rfl ?_
    refine z_getR (N := 92) (b := 126) 12 2 rfl f_12_8 rfl J rfl 16002 ⟨rfl, rfl⟩ rfl ?_
    refine x_aloadn (x := 125) rfl rfl ?_
    refine x_iloadn (x := a1) rfl rfl ?_
    refine x_iloadn (x := 1) rfl rfl ?_
    refine x_inv (N := m_X12_nameAt) (As := [.int a1, .int 1]) (b := 125) (st := [.ref 126]) (dx9 := 2) (mc := 0) (ms := 0) (host := "") 12 rfl t_X12_nameAt ⟨Or.inl q_12_311, i_X12_nameAt.1, i_X12_nameAt.2⟩ ⟨by decide, rfl⟩ (congrArg Prod.fst (J.1.1 125 (12, 92) rfl)) rfl (by decide) rfl rfl ⟨by decide, by decide⟩ (jC.of rfl k_X12_nameAt rfl ?_)
    show jX m_X12_nameAt 2 0 0 0 [(0, .ref 125), (1, .int a1), (2, .int 1)] [] _ 0 0 _
    refine x_aloadn (x := 125) rfl rfl ?_
    refine x_iloadn (x := a1) rfl rfl ?_
    refine x_iconst (v := 3) rfl ki_3 ?_
    refine z_idiv rfl rfl jk_3 (by omega) (by omega) (fun v11 ev11 => ?_)
    refine x_inv (N := m_X12_at) (As := [.int v11]) (b := 125) (st := []) (dx9 := 1) (mc := 0) (ms := 0) (host := "") 12 rfl t_X12_at ⟨Or.inl q_12_254, i_X12_at.1, i_X12_at.2⟩ ⟨by decide, rfl⟩ (congrArg Prod.fst (J.1.1 125 (12, 92) rfl)) rfl (by decide) rfl rfl ⟨by decide, by decide⟩ (jC.of rfl k_X12_at rfl ?_)
    show jX m_X12_at 1 0 0 0 [(0, .ref 125), (1, .int v11)] [] _ 0 0 _
    refine x_bipush (v := 20) rfl kb_20 ?_
    refine x_bipush (v := 90) rfl kb_90 ?_
    refine x_iloadn (x := v11) rfl rfl ?_
    refine z_imul rfl jk_90 rfl (by omega) (fun v12 ev12 => ?_)
    refine z_iadd rfl jk_20 rfl (by omega) (fun v13 ev13 => ?_)
    refine x_iret rfl rfl ?_
    show jX m_X12_nameAt 2 0 0 7 [(0, .ref 125), (1, .int a1), (2, .int 1)] [.int v13] _ 0 0 _
    refine x_bipush (v := 6) rfl kb_6 ?_
    refine z_iadd rfl rfl jk_6 (by omega) (fun v14 ev14 => ?_)
    refine x_bipush (v := 28) rfl kb_28 ?_
    refine x_iloadn (x := a1) rfl rfl ?_
    refine x_iconst (v := 3) rfl ki_3 ?_
    refine z_irem rfl rfl jk_3 (by omega) (by omega) (fun v15 ev15 => ?_)
    refine z_imul rfl jk_28 rfl (by omega) (fun v16 ev16 => ?_)
    refine z_iadd rfl rfl rfl (by omega) (fun v17 ev17 => ?_)
    refine x_bipush (v := 14) rfl kb_14 ?_
    refine x_iloadn (x := 1) rfl rfl ?_
    refine y_imul (v := 14) rfl (by decide) ?_
    refine z_iadd rfl rfl jk_14 (by omega) (fun v18 ev18 => ?_)
    have rnv18 := jnam (m := a1.toInt) (w := 1) (v := v18.toInt) (by omega) (by omega) (by omega)
    refine x_iret rfl rfl ?_
    show jX m_X12_isNamed 3 0 0 10 [(0, .ref 125), (1, .int a1), (2, .int 1)] [.int v18, .ref 126] _ 0 0 _
    refine z_ialdU (N := 50660) (lo := 0) (hi := 12) rfl J rfl rfl (by omega) ((show (v18.toInt - 20) % 90 = 20 ∨ (v18.toInt - 20) % 90 = 48 ∨ (v18.toInt - 20) % 90 = 76 from by omega).elim (fun q => (jrg_w (jrg_c J sg_126_20_18020_90_20_21 rfl (by omega)) (by decide))) (fun q => q.elim (fun q => (jrg_w (jrg_c J sg_126_20_18020_90_48_49 rfl (by omega)) (by decide))) (fun q => (jrg_w (jrg_c J sg_126_20_18020_90_76_77 rfl (by omega)) (by decide))))) (fun v19 qv19 ev19 => ?_)
    try rw [vrd qv19 (show ((((20 + (90 * (a1.toInt / 3))) + 6) + (28 * (a1.toInt % 3))) + 14) = v18.toInt from by omega)] at D
    refine x_ifle (tgt := 18) rfl rfl (ti_le rfl jk_0 ⟨fun c20 => ?_, fun c20 => ?_⟩)
    ·
      rw [if_pos (by omega)] at D
      refine x_iconst (v := 0) rfl ki_0 ?_
      refine x_zret rfl rfl (by decide) ?_
      show jX m_X12_isUnknown 4 0 0 15 [(0, .ref 125), (1, .int a1)] [.int 0] _ 0 0 _
      refine x_ifne (tgt := 22) rfl rfl (ti_ne jk_0 jk_0 (bn_f (by omega) ?_))
      refine x_iconst (v := 1) rfl ki_1 ?_
      refine x_goto (tgt := 23) rfl rfl ?_
      refine x_zret rfl rfl (by decide) ?_
      show jX m_X12_named 5 0 0 5 [(0, .ref 125), (1, .int a1)] [.int 1] _ 0 0 _
      refine x_ifeq (tgt := 12) rfl rfl (ti_eq jk_1 jk_0 (br_f (by omega) ?_))
      refine x_iconst (v := (-1)) rfl ki_m1 ?_
      refine x_goto (tgt := 18) rfl rfl ?_
      exact jX.sub jsb_n (ct_X12_named_r125d_100018 hD hQ  h J Sm D EV)
    ·
      rw [if_neg (by omega)] at D
      refine x_iconst (v := 1) rfl ki_1 ?_
      refine x_goto (tgt := 19) rfl rfl ?_
      refine x_zret rfl rfl (by decide) ?_
      show jX m_X12_isUnknown 4 0 0 15 [(0, .ref 125), (1, .int a1)] [.int 1] _ 0 0 _
      refine x_ifne (tgt := 22) rfl rfl (ti_ne jk_1 jk_0 (bn_t (by omega) ?_))
      refine x_iconst (v := 0) rfl ki_0 ?_
      refine x_zret rfl rfl (by decide) ?_
      show jX m_X12_named 5 0 0 5 [(0, .ref 125), (1, .int a1)] [.int 0] _ 0 0 _
      refine x_ifeq (tgt := 12) rfl rfl (ti_eq jk_0 jk_0 (br_t (by omega) ?_))
      refine x_aloadn (x := 125) rfl rfl ?_
      refine z_getR (N := 92) (b := 139) 12 29 rfl f_12_72 rfl J rfl 16029 ⟨rfl, rfl⟩ rfl ?_
      refine x_iloadn (x := a1) rfl rfl ?_
      refine z_iald (N := 600) rfl J rfl sg_139_0_600_1_0_1 rfl (by omega) (fun v21 qv21 ev21 => ?_)
      try rw [vrd qv21 (show a1.toInt = a1.toInt from by omega)] at D
      exact jX.sub jsb_n (ct_X12_named_r125d_18 hD hQ  v21 h (jr_of rfl (by omega)) J Sm D EV)
  ·
    rw [if_neg (by omega)] at D
    refine x_iconst (v := 1) rfl ki_1 ?_
    refine x_goto (tgt := 19) rfl rfl ?_
    refine x_zret rfl rfl (by decide) ?_
    show jX m_X12_isUnknown 4 0 0 6 [(0, .ref 125), (1, .int a1)] [.int 1] _ 0 0 _
    refine x_ifne (tgt := 22) rfl rfl (ti_ne jk_1 jk_0 (bn_t (by omega) ?_))
    refine x_iconst (v := 0) rfl ki_0 ?_
    refine x_zret rfl rfl (by decide) ?_
    show jX m_X12_named 5 0 0 5 [(0, .ref 125), (1, .int a1)] [.int 0] _ 0 0 _
    refine x_ifeq (tgt := 12) rfl rfl (ti_eq jk_0 jk_0 (br_t (by omega) ?_))
    refine x_aloadn (x := 125) rfl rfl ?_
    refine z_getR (N := 92) (b := 139) 12 29 rfl f_12_72 rfl J rfl 16029 ⟨rfl, rfl⟩ rfl ?_
    refine x_iloadn (x := a1) rfl rfl ?_
    refine z_iald (N := 600) rfl J rfl sg_139_0_600_1_0_1 rfl (by omega) (fun v22 qv22 ev22 => ?_)
    try rw [vrd qv22 (show a1.toInt = a1.toInt from by omega)] at D
    exact jX.sub jsb_n (ct_X12_named_r125d_18 hD hQ  v22 h (jr_of rfl (by omega)) J Sm D EV)
def fp_X12_askOn_r125d : jFp := [(125, 74, 75), (156, 0, 8), (157, 0, 8), (158, 0, 8), (159, 0, 8), (160, 0, 8), (161, 0, 8)]
set_option maxRecDepth 100000 in
set_option maxHeartbeats 4000000 in
theorem ct_X12_askOn_r125d_187 {Dy : jH → Prop} {h0 : jH} {Q : Option Value → jH → Prop} {dr : jW} (hD : jDk Dy) (hQ : ∀ hx9, jJ jSgM Dy hx9 → jSm fp_X12_askOn_r125d h0 hx9 → ∀ u0 : Int32, jiv hx9 125 74 = u0 → 0 ≤ u0.toInt → jAo h0 hx9 → dr = vw hx9 → Q none hx9) : ∀ (g0 : Int32) (h : jH), 0 ≤ g0.toInt ∧ g0.toInt ≤ 6 → jAo h0 h → jiv h 125 74 = g0 → jJ jSgM Dy h → jSm fp_X12_askOn_r125d h0 h → d_X12_askOn_r125d_187  (vw h) = dr → jX m_X12_askOn 6 0 0 187 [] [] h 0 0 Q := by
  intro g0 h y0 C0 z0  J Sm D
  unfold d_X12_askOn_r125d_187 at D
  try rw [vrf z0] at D
  refine x_vret rfl rfl ?_
  exact hQ _ J Sm _ z0 (by omega) C0 D.symm
set_option maxRecDepth 100000 in
set_option maxHeartbeats 4000000 in
theorem ct_X12_askOn_r125d_80 {Dy : jH → Prop} {h0 : jH} {Q : Option Value → jH → Prop} {dr : jW} (hD : jDk Dy) (hQ : ∀ hx9, jJ jSgM Dy hx9 → jSm fp_X12_askOn_r125d h0 hx9 → ∀ u0 : Int32, jiv hx9 125 74 = u0 → 0 ≤ u0.toInt → jAo h0 hx9 → dr = vw hx9 → Q none hx9) : ∀ (g0 : Int32) (h : jH), 0 ≤ g0.toInt ∧ g0.toInt ≤ 6 → jAo h0 h → jiv h 125 74 = g0 → jJ jSgM Dy h → jSm fp_X12_askOn_r125d h0 h → d_X12_askOn_r125d_80  (vw h) = dr → jX m_X12_askOn 6 0 0 80 [] [] h 0 0 Q := by
  intro g0 h y0 C0 z0  J Sm D
  unfold d_X12_askOn_r125d_80 at D
  try rw [vrf z0] at D
  refine x_vret rfl rfl ?_
  exact hQ _ J Sm _ z0 (by omega) C0 D.symm
set_option maxRecDepth 100000 in
set_option maxHeartbeats 4000000 in
theorem ct_X12_askOn_r125d_53 {Dy : jH → Prop} {h0 : jH} {Q : Option Value → jH → Prop} {dr : jW} (hD : jDk Dy) (hQ : ∀ hx9, jJ jSgM Dy hx9 → jSm fp_X12_askOn_r125d h0 hx9 → ∀ u0 : Int32, jiv hx9 125 74 = u0 → 0 ≤ u0.toInt → jAo h0 hx9 → dr = vw hx9 → Q none hx9) : ∀ (l2 : Int32) (s0 : Int32) (g0 : Int32) (h : jH), 0 ≤ l2.toInt ∧ l2.toInt ≤ 5 → (-1) ≤ s0.toInt ∧ s0.toInt ≤ 599 → 0 ≤ g0.toInt ∧ g0.toInt ≤ 5 → (jiv h0 125 74 = l2 ∧ jiv h 125 74 = l2 ∧ jEq 158 (fun _ => True) h h0 ∧ jEq 159 (fun _ => True) h h0) → 0 ≤ g0.toInt → jiv h 125 74 = g0 → jJ jSgM Dy h → jSm fp_X12_askOn_r125d h0 h → d_X12_askOn_r125d_53  l2.toInt s0.toInt (vw h) = dr → jX m_X12_askOn 6 0 0 53 [(0, .ref 125), (2, .int l2)] [.int s0] h 0 0 Q := by
  intro l2 s0 g0 h y0 y1 y2 C0 y4 z0  J Sm D
  unfold d_X12_askOn_r125d_53 at D
  try rw [vrf z0] at D
  have gl : g0.toInt = l2.toInt := congrArg Int32.toInt (z0.symm.trans C0.2.1)
  refine x_istore (lsx9 := [(4, .int s0), (0, .ref 125), (2, .int l2)]) rfl rfl rfl ?_
  refine x_iload (x := s0) rfl rfl ?_
  refine x_iconst (v := (-1)) rfl ki_m1 ?_
  refine x_iceq (tgt := 80) rfl rfl (ti_eq rfl jk_m1 ⟨fun c1 => ?_, fun c1 => ?_⟩)
  ·
    rw [if_pos (by omega)] at D
    exact jX.sub jsb_n (ct_X12_askOn_r125d_80 hD hQ  g0 h (jr_of rfl (by omega)) (jao_id C0.1 C0.2.1 C0.2.2.1 C0.2.2.2) z0 J Sm D)
  ·
    rw [if_neg (by omega)] at D
    refine x_aloadn (x := 125) rfl rfl ?_
    refine z_getR (N := 92) (b := 159) 12 71 rfl f_12_135 rfl J rfl 16071 ⟨rfl, rfl⟩ rfl ?_
    refine x_iloadn (x := l2) rfl rfl ?_
    refine x_iconst (v := 1) rfl ki_1 ?_
    refine z_iast (N := 8) (l := 0) (u := 8) (w := 1) rfl hD J Sm rfl rfl rfl (by omega) jk_1 (wr_159 (fun q1 q2 q3 q4 => by omega)) rfl (fun h w2 J Sm => ?_)
    rw [vww w2 (show l2.toInt = l2.toInt from by omega) (show 1 = (1 : Int32).toInt from by have := jk_1; omega)] at D
    refine x_aloadn (x := 125) rfl rfl ?_
    refine x_iload (x := s0) rfl rfl ?_
    refine x_aloadn (x := 125) rfl rfl ?_
    refine z_getR (N := 92) (b := 157) 12 69 rfl f_12_129 rfl J rfl 16069 ⟨rfl, rfl⟩ rfl ?_
    refine x_iloadn (x := l2) rfl rfl ?_
    refine z_iald (N := 8) rfl J rfl sg_157_0_8_1_0_1 rfl (by omega) (fun v3 qv3 ev3 => ?_)
    try rw [vrd (jmb_w w2 qv3 rfl) (show l2.toInt = l2.toInt from by omega)] at D
    refine x_inv (N := m_X12_ask) (As := [.int s0, .int v3]) (b := 125) (st := []) (dx9 := 5) (mc := 0) (ms := 0) (host := "") 12 rfl t_X12_ask ⟨Or.inl q_12_780, i_X12_ask.1, i_X12_ask.2⟩ ⟨by decide, rfl⟩ (congrArg Prod.fst (J.1.1 125 (12, 92) rfl)) rfl (by decide) rfl rfl ⟨by decide, by decide⟩ (jC.of rfl k_X12_ask rfl ?_)
    show jX m_X12_ask 5 0 0 0 [(0, .ref 125), (1, .int s0), (2, .int v3)] [] _ 0 0 _
    refine x_aloadn (x := 125) rfl rfl ?_
    refine x_dup rfl rfl ?_
    refine z_getM (N := 92) (v := g0) 12 74 rfl f_12_771 rfl J rfl (jmo w2 rfl z0) ?_
    refine x_iconst (v := 1) rfl ki_1 ?_
    refine z_iadd rfl rfl jk_1 (by omega) (fun v4 ev4 => ?_)
    refine z_putI (N := 92) (w := v4.toInt) 12 74 rfl f_12_771 rfl (jfin_no TX12 RX12 92 rfl rfl) hD J Sm rfl rfl rfl (pw_125_74 (by omega)) rfl (fun h w5 J Sm => ?_)
    rw [vwf w5 (show (g0.toInt + 1) = v4.toInt from by omega)] at D
    refine x_aloadn (x := 125) rfl rfl ?_
    refine z_getR (N := 92) (b := 156) 12 68 rfl f_12_126 rfl J rfl 16068 ⟨rfl, rfl⟩ rfl ?_
    refine x_aloadn (x := 125) rfl rfl ?_
    refine z_getM (N := 92) (v := v4) 12 74 rfl f_12_771 rfl J rfl (jmw w5) ?_
    refine x_iloadn (x := s0) rfl rfl ?_
    refine z_iast (N := 8) (l := 0) (u := 8) (w := s0.toInt) rfl hD J Sm rfl rfl rfl (by omega) rfl (wr_156 (fun q1 q2 q3 q4 => by omega)) rfl (fun h w6 J Sm => ?_)
    rw [vww w6 (show (g0.toInt + 1) = v4.toInt from by omega) (show s0.toInt = s0.toInt from by omega)] at D
    refine x_aloadn (x := 125) rfl rfl ?_
    refine z_getR (N := 92) (b := 157) 12 69 rfl f_12_129 rfl J rfl 16069 ⟨rfl, rfl⟩ rfl ?_
    refine x_aloadn (x := 125) rfl rfl ?_
    refine z_getM (N := 92) (v := v4) 12 74 rfl f_12_771 rfl J rfl (jmo w6 rfl (jmw w5)) ?_
    refine x_iloadn (x := v3) rfl rfl ?_
    refine z_iast (N := 8) (l := 0) (u := 8) (w := v3.toInt) rfl hD J Sm rfl rfl rfl (by omega) rfl (wr_157 (fun q1 q2 q3 q4 => by omega)) rfl (fun h w7 J Sm => ?_)
    rw [vww w7 (show (g0.toInt + 1) = v4.toInt from by omega) (show v3.toInt = v3.toInt from by omega)] at D
    refine x_aloadn (x := 125) rfl rfl ?_
    refine z_getR (N := 92) (b := 158) 12 70 rfl f_12_132 rfl J rfl 16070 ⟨rfl, rfl⟩ rfl ?_
    refine x_aloadn (x := 125) rfl rfl ?_
    refine z_getM (N := 92) (v := v4) 12 74 rfl f_12_771 rfl J rfl (jmo w7 rfl (jmo w6 rfl (jmw w5))) ?_
    refine x_iconst (v := 0) rfl ki_0 ?_
    refine z_iast (N := 8) (l := 0) (u := 8) (w := 0) rfl hD J Sm rfl rfl rfl (by omega) jk_0 (wr_158 (fun q1 q2 q3 q4 => by omega)) rfl (fun h w8 J Sm => ?_)
    rw [vww w8 (show (g0.toInt + 1) = v4.toInt from by omega) (show 0 = (0 : Int32).toInt from by have := jk_0; omega)] at D
    refine x_aloadn (x := 125) rfl rfl ?_
    refine z_getR (N := 92) (b := 159) 12 71 rfl f_12_135 rfl J rfl 16071 ⟨rfl, rfl⟩ rfl ?_
    refine x_aloadn (x := 125) rfl rfl ?_
    refine z_getM (N := 92) (v := v4) 12 74 rfl f_12_771 rfl J rfl (jmo w8 rfl (jmo w7 rfl (jmo w6 rfl (jmw w5)))) ?_
    refine x_iconst (v := 0) rfl ki_0 ?_
    refine z_iast (N := 8) (l := 0) (u := 8) (w := 0) rfl hD J Sm rfl rfl rfl (by omega) jk_0 (wr_159 (fun q1 q2 q3 q4 => by omega)) rfl (fun h w9 J Sm => ?_)
    rw [vww w9 (show (g0.toInt + 1) = v4.toInt from by omega) (show 0 = (0 : Int32).toInt from by have := jk_0; omega)] at D
    refine x_aloadn (x := 125) rfl rfl ?_
    refine z_getR (N := 92) (b := 161) 12 73 rfl f_12_141 rfl J rfl 16073 ⟨rfl, rfl⟩ rfl ?_
    refine x_aloadn (x := 125) rfl rfl ?_
    refine z_getM (N := 92) (v := v4) 12 74 rfl f_12_771 rfl J rfl (jmo w9 rfl (jmo w8 rfl (jmo w7 rfl (jmo w6 rfl (jmw w5))))) ?_
    refine x_iconst (v := 0) rfl ki_0 ?_
    refine z_iast (N := 8) (l := 0) (u := 8) (w := 0) rfl hD J Sm rfl rfl rfl (by omega) jk_0 (wr_161) rfl (fun h w10 J Sm => ?_)
    rw [vww w10 (show (g0.toInt + 1) = v4.toInt from by omega) (show 0 = (0 : Int32).toInt from by have := jk_0; omega)] at D
    refine x_vret rfl rfl ?_
    show jX m_X12_askOn 6 0 0 80 [(4, .int s0), (0, .ref 125), (2, .int l2)] [] _ 0 0 _
    exact jX.sub jsb_n (ct_X12_askOn_r125d_80 hD hQ  v4 h (jr_of rfl (by omega)) (jao_of (d := l2) (u := v4) C0.1 (jmo w10 rfl (jmo w9 rfl (jmo w8 rfl (jmo w7 rfl (jmo w6 rfl (jmw w5)))))) (by omega) (jeq_o w10 rfl (jeq_o w9 rfl (jeq_s w8 (jnne rfl rfl (by omega)) (jeq_o w7 rfl (jeq_o w6 rfl (jeq_o w5 rfl (jeq_o w2 rfl (jeq_w (P := fun _ => True) (fun _ _ => trivial) C0.2.2.1)))))))) (jeq_o w10 rfl (jeq_s w9 (jnlt rfl rfl (by omega)) (jeq_o w8 rfl (jeq_o w7 rfl (jeq_o w6 rfl (jeq_o w5 rfl (jeq_s w2 (jnlt rfl rfl (by omega)) (jeq_w (P := fun _ => True) (fun _ _ => trivial) C0.2.2.2)))))))) (jmo w10 rfl (jmo w9 rfl (jmw w8))) (jmo w10 rfl (jmw w9))) (jmo w10 rfl (jmo w9 rfl (jmo w8 rfl (jmo w7 rfl (jmo w6 rfl (jmw w5)))))) J Sm D)
set_option maxRecDepth 100000 in
set_option maxHeartbeats 4000000 in
theorem ct_X12_askOn_r125d_100053 {Dy : jH → Prop} {h0 : jH} {Q : Option Value → jH → Prop} {dr : jW} (hD : jDk Dy) (hQ : ∀ hx9, jJ jSgM Dy hx9 → jSm fp_X12_askOn_r125d h0 hx9 → ∀ u0 : Int32, jiv hx9 125 74 = u0 → 0 ≤ u0.toInt → jAo h0 hx9 → dr = vw hx9 → Q none hx9) : ∀ (l2 : Int32) (g0 : Int32) (h : jH), 0 ≤ l2.toInt ∧ l2.toInt ≤ 5 → 0 ≤ g0.toInt ∧ g0.toInt ≤ 5 → (jiv h0 125 74 = l2 ∧ jiv h 125 74 = l2 ∧ jEq 158 (fun _ => True) h h0 ∧ jEq 159 (fun _ => True) h h0) → 0 ≤ g0.toInt → jiv h 125 74 = g0 → jJ jSgM Dy h → jSm fp_X12_askOn_r125d h0 h → d_X12_askOn_r125d_100053  l2.toInt (vw h) = dr → jX m_X12_askOn 6 0 0 53 [(0, .ref 125), (2, .int l2)] [.int (-1)] h 0 0 Q := by
  intro l2 g0 h y0 y1 C0 y3 z0  J Sm D
  unfold d_X12_askOn_r125d_100053 at D
  try rw [vrf z0] at D
  have gl : g0.toInt = l2.toInt := congrArg Int32.toInt (z0.symm.trans C0.2.1)
  refine x_istore (lsx9 := [(4, .int (-1)), (0, .ref 125), (2, .int l2)]) rfl rfl rfl ?_
  refine x_iload (x := (-1)) rfl rfl ?_
  refine x_iconst (v := (-1)) rfl ki_m1 ?_
  refine x_iceq (tgt := 80) rfl rfl (ti_eq jk_m1 jk_m1 (br_t (by omega) ?_))
  exact jX.sub jsb_n (ct_X12_askOn_r125d_80 hD hQ  g0 h (jr_of rfl (by omega)) (jao_id C0.1 C0.2.1 C0.2.2.1 C0.2.2.2) z0 J Sm D)
set_option maxRecDepth 100000 in
set_option maxHeartbeats 4000000 in
theorem sf_X12_askOn_r125d {Dy : jH → Prop} {h : jH} {Q : Option Value → jH → Prop} {dr : jW} {a1 : Int32} (y1 : 4 ≤ a1.toInt ∧ a1.toInt ≤ 2147483647) (hD : jDk Dy) (J : jJ jSgM Dy h) {p0 : Int32} (zp0 : jiv h 125 74 = p0) (rl_p0 : 0 ≤ p0.toInt) (D : d_X12_askOn_r125d a1.toInt (vw h) = dr) (hQ : ∀ hx9, jJ jSgM Dy hx9 → jSm fp_X12_askOn_r125d h hx9 → ∀ u0 : Int32, jiv hx9 125 74 = u0 → 0 ≤ u0.toInt → jAo h hx9 → dr = vw hx9 → Q none hx9) : jC m_X12_askOn 6 0 0 [.ref 125, .int a1] h Q := by
  refine jC.of rfl k_X12_askOn rfl ?_
  have Sm := jSm_rf fp_X12_askOn_r125d h
  have ep0 := (show (-1) ≤ p0.toInt ∧ p0.toInt ≤ 6 from zp0 ▸ jrg_f J sg_125_74_75_1_0_1)
  show jX m_X12_askOn 6 0 0 0 [(0, .ref 125), (1, .int a1)] [] _ 0 0 _
  unfold d_X12_askOn_r125d at D
  try rw [vrf zp0] at D
  refine x_aloadn (x := 125) rfl rfl ?_
  refine z_getM (N := 92) (v := p0) 12 74 rfl f_12_771 rfl J rfl zp0 ?_
  refine x_istoren (lsx9 := [(2, .int p0), (0, .ref 125), (1, .int a1)]) rfl rfl rfl ?_
  refine x_iloadn (x := p0) rfl rfl ?_
  refine x_bipush (v := 6) rfl kb_6 ?_
  refine x_icne (tgt := 12) rfl rfl (ti_ne rfl jk_6 ⟨fun c1 => ?_, fun c1 => ?_⟩)
  ·
    rw [if_neg (by omega)] at D
    refine x_iloadn (x := a1) rfl rfl ?_
    refine x_iconst (v := 4) rfl ki_4 ?_
    refine x_icne (tgt := 81) rfl rfl (ti_ne rfl jk_4 ⟨fun c2 => ?_, fun c2 => ?_⟩)
    ·
      rw [if_neg (by omega)] at D
      refine x_aloadn (x := 125) rfl rfl ?_
      refine x_aloadn (x := 125) rfl rfl ?_
      refine z_getR (N := 92) (b := 156) 12 68 rfl f_12_126 rfl J rfl 16068 ⟨rfl, rfl⟩ rfl ?_
      refine x_iloadn (x := p0) rfl rfl ?_
      refine z_iald (N := 8) rfl J rfl sg_156_0_8_1_0_1 rfl (by omega) (fun v3 qv3 ev3 => ?_)
      try rw [vrd qv3 (show p0.toInt = p0.toInt from by omega)] at D
      refine x_iconst (v := 0) rfl ki_0 ?_
      refine x_ldcw (v := 146399) rfl z_12_392 ?_
      refine x_inv (N := m_X12_mentionOf) (As := [.int v3, .int 0, .int 146399]) (b := 125) (st := []) (dx9 := 4) (mc := 0) (ms := 0) (host := "") 12 rfl t_X12_mentionOf ⟨Or.inl q_12_405, i_X12_mentionOf.1, i_X12_mentionOf.2⟩ ⟨by decide, rfl⟩ (congrArg Prod.fst (J.1.1 125 (12, 92) rfl)) rfl (by decide) rfl rfl ⟨by decide, by decide⟩ (sf_X12_mentionOf_r125d (jr_of rfl (by omega)) (jr_of jk_0 (by omega)) (jr_of jk_146399 (by omega)) hD J rfl  (fun v7 h ev7 J S4 X5 X6 => ?_))
      have Sm := jSm_tr rfl Sm S4
      try rw [jk_0] at X5
      try rw [jk_146399] at X5
      try rw [X5] at D
      try rw [← X6] at D
      show jX m_X12_askOn 6 0 0 95 [(2, .int p0), (0, .ref 125), (1, .int a1)] [.int v7] _ 0 0 _
      refine x_istoren (lsx9 := [(3, .int v7), (2, .int p0), (0, .ref 125), (1, .int a1)]) rfl rfl rfl ?_
      refine x_iloadn (x := v7) rfl rfl ?_
      refine x_iconst (v := (-1)) rfl ki_m1 ?_
      refine x_icne (tgt := 102) rfl rfl (ti_ne rfl jk_m1 ⟨fun c8 => ?_, fun c8 => ?_⟩)
      ·
        rw [if_neg (by omega)] at D
        refine x_aloadn (x := 125) rfl rfl ?_
        refine x_iloadn (x := v7) rfl rfl ?_
        refine x_iconst (v := 3) rfl ki_3 ?_
        refine z_idiv rfl rfl jk_3 (by omega) (by omega) (fun v9 ev9 => ?_)
        refine x_iconst (v := 3) rfl ki_3 ?_
        refine z_imul rfl rfl jk_3 (by omega) (fun v10 ev10 => ?_)
        refine x_iconst (v := 1) rfl ki_1 ?_
        refine z_iadd rfl rfl jk_1 (by omega) (fun v11 ev11 => ?_)
        try rw [show (((v7.toInt / 3) * 3) + 1) = v11.toInt from by omega] at D
        refine x_inv (N := m_X12_named) (As := [.int v11]) (b := 125) (st := []) (dx9 := 5) (mc := 0) (ms := 0) (host := "") 12 rfl t_X12_named ⟨Or.inl q_12_409, i_X12_named.1, i_X12_named.2⟩ ⟨by decide, rfl⟩ (congrArg Prod.fst (J.1.1 125 (12, 92) rfl)) rfl (by decide) rfl rfl ⟨by decide, by decide⟩ (sf_X12_named_r125d (jr_of rfl (by omega)) hD J rfl  (fun v15 h ev15 J S12 X13 X14 => ?_))
        have Sm := jSm_tr rfl Sm S12
        try rw [X13] at D
        try rw [← X14] at D
        show jX m_X12_askOn 6 0 0 113 [(3, .int v7), (2, .int p0), (0, .ref 125), (1, .int a1)] [.int v15] _ 0 0 _
        refine x_istore (lsx9 := [(4, .int v15), (3, .int v7), (2, .int p0), (0, .ref 125), (1, .int a1)]) rfl rfl rfl ?_
        refine x_aloadn (x := 125) rfl rfl ?_
        refine x_iloadn (x := v7) rfl rfl ?_
        refine x_iconst (v := 3) rfl ki_3 ?_
        refine z_idiv rfl rfl jk_3 (by omega) (by omega) (fun v16 ev16 => ?_)
        refine x_iconst (v := 3) rfl ki_3 ?_
        refine z_imul rfl rfl jk_3 (by omega) (fun v17 ev17 => ?_)
        refine x_iconst (v := 2) rfl ki_2 ?_
        refine z_iadd rfl rfl jk_2 (by omega) (fun v18 ev18 => ?_)
        try rw [show (((v7.toInt / 3) * 3) + 2) = v18.toInt from by omega] at D
        refine x_inv (N := m_X12_named) (As := [.int v18]) (b := 125) (st := []) (dx9 := 5) (mc := 0) (ms := 0) (host := "") 12 rfl t_X12_named ⟨Or.inl q_12_409, i_X12_named.1, i_X12_named.2⟩ ⟨by decide, rfl⟩ (congrArg Prod.fst (J.1.1 125 (12, 92) rfl)) rfl (by decide) rfl rfl ⟨by decide, by decide⟩ (sf_X12_named_r125d (jr_of rfl (by omega)) hD J rfl  (fun v22 h ev22 J S19 X20 X21 => ?_))
        have Sm := jSm_tr rfl Sm S19
        try rw [X20] at D
        try rw [← X21] at D
        show jX m_X12_askOn 6 0 0 126 [(4, .int v15), (3, .int v7), (2, .int p0), (0, .ref 125), (1, .int a1)] [.int v22] _ 0 0 _
        refine x_istore (lsx9 := [(5, .int v22), (4, .int v15), (3, .int v7), (2, .int p0), (0, .ref 125), (1, .int a1)]) rfl rfl rfl ?_
        refine x_aloadn (x := 125) rfl rfl ?_
        refine z_getR (N := 92) (b := 160) 12 72 rfl f_12_138 rfl J rfl 16072 ⟨rfl, rfl⟩ rfl ?_
        refine x_iloadn (x := p0) rfl rfl ?_
        refine x_iload (x := v22) rfl rfl ?_
        refine z_iast (N := 8) (l := 0) (u := 8) (w := v22.toInt) rfl hD J Sm rfl rfl rfl (by omega) rfl (wr_160 (fun q1 q2 q3 q4 => by omega)) rfl (fun h w23 J Sm => ?_)
        rw [vww w23 (show p0.toInt = p0.toInt from by omega) (show v22.toInt = v22.toInt from by omega)] at D
        refine x_iload (x := v15) rfl rfl ?_
        refine x_iconst (v := (-1)) rfl ki_m1 ?_
        refine x_iceq (tgt := 163) rfl rfl (ti_eq rfl jk_m1 ⟨fun c24 => ?_, fun c24 => ?_⟩)
        ·
          rw [if_pos (by omega)] at D
          refine x_iload (x := v22) rfl rfl ?_
          refine x_iconst (v := (-1)) rfl ki_m1 ?_
          refine x_iceq (tgt := 187) rfl rfl (ti_eq rfl jk_m1 ⟨fun c25 => ?_, fun c25 => ?_⟩)
          ·
            rw [if_pos (by omega)] at D
            exact jX.sub jsb_n (ct_X12_askOn_r125d_187 hD hQ  p0 h (jr_of rfl (by omega)) (jao_id zp0 (jmo w23 rfl (jmc S19 rfl (jmc S12 rfl (jmc S4 rfl zp0)))) (jeq_o w23 rfl (jeq_c S19 rfl (jeq_c S12 rfl (jeq_c S4 rfl jeq_0)))) (jeq_o w23 rfl (jeq_c S19 rfl (jeq_c S12 rfl (jeq_c S4 rfl jeq_0))))) (jmo w23 rfl (jmc S19 rfl (jmc S12 rfl (jmc S4 rfl zp0)))) J Sm D)
          ·
            rw [if_neg (by omega)] at D
            refine x_aloadn (x := 125) rfl rfl ?_
            refine z_getR (N := 92) (b := 159) 12 71 rfl f_12_135 rfl J rfl 16071 ⟨rfl, rfl⟩ rfl ?_
            refine x_iloadn (x := p0) rfl rfl ?_
            refine x_iconst (v := 3) rfl ki_3 ?_
            refine z_iast (N := 8) (l := 0) (u := 8) (w := 3) rfl hD J Sm rfl rfl rfl (by omega) jk_3 (wr_159 (fun q1 q2 q3 q4 => by omega)) rfl (fun h w26 J Sm => ?_)
            rw [vww w26 (show p0.toInt = p0.toInt from by omega) (show 3 = (3 : Int32).toInt from by have := jk_3; omega)] at D
            refine x_aloadn (x := 125) rfl rfl ?_
            refine x_iload (x := v22) rfl rfl ?_
            refine x_aloadn (x := 125) rfl rfl ?_
            refine x_iloadn (x := v7) rfl rfl ?_
            refine x_inv (N := m_X12_dayAt) (As := [.int v7]) (b := 125) (st := [.int v22, .ref 125]) (dx9 := 3) (mc := 0) (ms := 0) (host := "") 12 rfl t_X12_dayAt ⟨Or.inl q_12_347, i_X12_dayAt.1, i_X12_dayAt.2⟩ ⟨by decide, rfl⟩ (congrArg Prod.fst (J.1.1 125 (12, 92) rfl)) rfl (by decide) rfl rfl ⟨by decide, by decide⟩ (sf_X12_dayAt_r125d (jr_of rfl (by omega)) hD J rfl  (fun v30 h ev30 J S27 X28 X29 => ?_))
            have Sm := jSm_tr rfl Sm S27
            try rw [X28] at D
            try rw [← X29] at D
            show jX m_X12_askOn 6 0 0 184 [(5, .int v22), (4, .int v15), (3, .int v7), (2, .int p0), (0, .ref 125), (1, .int a1)] [.int v30, .int v22, .ref 125] _ 0 0 _
            refine x_inv (N := m_X12_ask) (As := [.int v22, .int v30]) (b := 125) (st := []) (dx9 := 5) (mc := 0) (ms := 0) (host := "") 12 rfl t_X12_ask ⟨Or.inl q_12_780, i_X12_ask.1, i_X12_ask.2⟩ ⟨by decide, rfl⟩ (congrArg Prod.fst (J.1.1 125 (12, 92) rfl)) rfl (by decide) rfl rfl ⟨by decide, by decide⟩ (jC.of rfl k_X12_ask rfl ?_)
            show jX m_X12_ask 5 0 0 0 [(0, .ref 125), (1, .int v22), (2, .int v30)] [] _ 0 0 _
            refine x_aloadn (x := 125) rfl rfl ?_
            refine x_dup rfl rfl ?_
            refine z_getM (N := 92) (v := p0) 12 74 rfl f_12_771 rfl J rfl (jmc S27 rfl (jmo w26 rfl (jmo w23 rfl (jmc S19 rfl (jmc S12 rfl (jmc S4 rfl zp0)))))) ?_
            refine x_iconst (v := 1) rfl ki_1 ?_
            refine z_iadd rfl rfl jk_1 (by omega) (fun v31 ev31 => ?_)
            refine z_putI (N := 92) (w := v31.toInt) 12 74 rfl f_12_771 rfl (jfin_no TX12 RX12 92 rfl rfl) hD J Sm rfl rfl rfl (pw_125_74 (by omega)) rfl (fun h w32 J Sm => ?_)
            rw [vwf w32 (show (p0.toInt + 1) = v31.toInt from by omega)] at D
            refine x_aloadn (x := 125) rfl rfl ?_
            refine z_getR (N := 92) (b := 156) 12 68 rfl f_12_126 rfl J rfl 16068 ⟨rfl, rfl⟩ rfl ?_
            refine x_aloadn (x := 125) rfl rfl ?_
            refine z_getM (N := 92) (v := v31) 12 74 rfl f_12_771 rfl J rfl (jmw w32) ?_
            refine x_iloadn (x := v22) rfl rfl ?_
            refine z_iast (N := 8) (l := 0) (u := 8) (w := v22.toInt) rfl hD J Sm rfl rfl rfl (by omega) rfl (wr_156 (fun q1 q2 q3 q4 => by omega)) rfl (fun h w33 J Sm => ?_)
            rw [vww w33 (show (p0.toInt + 1) = v31.toInt from by omega) (show v22.toInt = v22.toInt from by omega)] at D
            refine x_aloadn (x := 125) rfl rfl ?_
            refine z_getR (N := 92) (b := 157) 12 69 rfl f_12_129 rfl J rfl 16069 ⟨rfl, rfl⟩ rfl ?_
            refine x_aloadn (x := 125) rfl rfl ?_
            refine z_getM (N := 92) (v := v31) 12 74 rfl f_12_771 rfl J rfl (jmo w33 rfl (jmw w32)) ?_
            refine x_iloadn (x := v30) rfl rfl ?_
            refine z_iast (N := 8) (l := 0) (u := 8) (w := v30.toInt) rfl hD J Sm rfl rfl rfl (by omega) rfl (wr_157 (fun q1 q2 q3 q4 => by omega)) rfl (fun h w34 J Sm => ?_)
            rw [vww w34 (show (p0.toInt + 1) = v31.toInt from by omega) (show v30.toInt = v30.toInt from by omega)] at D
            refine x_aloadn (x := 125) rfl rfl ?_
            refine z_getR (N := 92) (b := 158) 12 70 rfl f_12_132 rfl J rfl 16070 ⟨rfl, rfl⟩ rfl ?_
            refine x_aloadn (x := 125) rfl rfl ?_
            refine z_getM (N := 92) (v := v31) 12 74 rfl f_12_771 rfl J rfl (jmo w34 rfl (jmo w33 rfl (jmw w32))) ?_
            refine x_iconst (v := 0) rfl ki_0 ?_
            refine z_iast (N := 8) (l := 0) (u := 8) (w := 0) rfl hD J Sm rfl rfl rfl (by omega) jk_0 (wr_158 (fun q1 q2 q3 q4 => by omega)) rfl (fun h w35 J Sm => ?_)
            rw [vww w35 (show (p0.toInt + 1) = v31.toInt from by omega) (show 0 = (0 : Int32).toInt from by have := jk_0; omega)] at D
            refine x_aloadn (x := 125) rfl rfl ?_
            refine z_getR (N := 92) (b := 159) 12 71 rfl f_12_135 rfl J rfl 16071 ⟨rfl, rfl⟩ rfl ?_
            refine x_aloadn (x := 125) rfl rfl ?_
            refine z_getM (N := 92) (v := v31) 12 74 rfl f_12_771 rfl J rfl (jmo w35 rfl (jmo w34 rfl (jmo w33 rfl (jmw w32)))) ?_
            refine x_iconst (v := 0) rfl ki_0 ?_
            refine z_iast (N := 8) (l := 0) (u := 8) (w := 0) rfl hD J Sm rfl rfl rfl (by omega) jk_0 (wr_159 (fun q1 q2 q3 q4 => by omega)) rfl (fun h w36 J Sm => ?_)
            rw [vww w36 (show (p0.toInt + 1) = v31.toInt from by omega) (show 0 = (0 : Int32).toInt from by have := jk_0; omega)] at D
            refine x_aloadn (x := 125) rfl rfl ?_
            refine z_getR (N := 92) (b := 161) 12 73 rfl f_12_141 rfl J rfl 16073 ⟨rfl, rfl⟩ rfl ?_
            refine x_aloadn (x := 125) rfl rfl ?_
            refine z_getM (N := 92) (v := v31) 12 74 rfl f_12_771 rfl J rfl (jmo w36 rfl (jmo w35 rfl (jmo w34 rfl (jmo w33 rfl (jmw w32))))) ?_
            refine x_iconst (v := 0) rfl ki_0 ?_
            refine z_iast (N := 8) (l := 0) (u := 8) (w := 0) rfl hD J Sm rfl rfl rfl (by omega) jk_0 (wr_161) rfl (fun h w37 J Sm => ?_)
            rw [vww w37 (show (p0.toInt + 1) = v31.toInt from by omega) (show 0 = (0 : Int32).toInt from by have := jk_0; omega)] at D
            refine x_vret rfl rfl ?_
            show jX m_X12_askOn 6 0 0 187 [(5, .int v22), (4, .int v15), (3, .int v7), (2, .int p0), (0, .ref 125), (1, .int a1)] [] _ 0 0 _
            exact jX.sub jsb_n (ct_X12_askOn_r125d_187 hD hQ  v31 h (jr_of rfl (by omega)) (jao_of (d := p0) (u := v31) zp0 (jmo w37 rfl (jmo w36 rfl (jmo w35 rfl (jmo w34 rfl (jmo w33 rfl (jmw w32)))))) (by omega) (jeq_o w37 rfl (jeq_o w36 rfl (jeq_s w35 (jnne rfl rfl (by omega)) (jeq_o w34 rfl (jeq_o w33 rfl (jeq_o w32 rfl (jeq_c S27 rfl (jeq_o w26 rfl (jeq_o w23 rfl (jeq_c S19 rfl (jeq_c S12 rfl (jeq_c S4 rfl (jeq_w (P := fun _ => True) (fun _ _ => trivial) jeq_0))))))))))))) (jeq_o w37 rfl (jeq_s w36 (jnlt rfl rfl (by omega)) (jeq_o w35 rfl (jeq_o w34 rfl (jeq_o w33 rfl (jeq_o w32 rfl (jeq_c S27 rfl (jeq_s w26 (jnlt rfl rfl (by omega)) (jeq_o w23 rfl (jeq_c S19 rfl (jeq_c S12 rfl (jeq_c S4 rfl (jeq_w (P := fun _ => True) (fun _ _ => trivial) jeq_0))))))))))))) (jmo w37 rfl (jmo w36 rfl (jmw w35))) (jmo w37 rfl (jmw w36))) (jmo w37 rfl (jmo w36 rfl (jmo w35 rfl (jmo w34 rfl (jmo w33 rfl (jmw w32)))))) J Sm D)
        ·
          rw [if_neg (by omega)] at D
          refine x_aloadn (x := 125) rfl rfl ?_
          refine z_getR (N := 92) (b := 159) 12 71 rfl f_12_135 rfl J rfl 16071 ⟨rfl, rfl⟩ rfl ?_
          refine x_iloadn (x := p0) rfl rfl ?_
          refine x_iconst (v := 2) rfl ki_2 ?_
          refine z_iast (N := 8) (l := 0) (u := 8) (w := 2) rfl hD J Sm rfl rfl rfl (by omega) jk_2 (wr_159 (fun q1 q2 q3 q4 => by omega)) rfl (fun h w38 J Sm => ?_)
          rw [vww w38 (show p0.toInt = p0.toInt from by omega) (show 2 = (2 : Int32).toInt from by have := jk_2; omega)] at D
          refine x_aloadn (x := 125) rfl rfl ?_
          refine x_iload (x := v15) rfl rfl ?_
          refine x_aloadn (x := 125) rfl rfl ?_
          refine x_iloadn (x := v7) rfl rfl ?_
          refine x_inv (N := m_X12_dayAt) (As := [.int v7]) (b := 125) (st := [.int v15, .ref 125]) (dx9 := 3) (mc := 0) (ms := 0) (host := "") 12 rfl t_X12_dayAt ⟨Or.inl q_12_347, i_X12_dayAt.1, i_X12_dayAt.2⟩ ⟨by decide, rfl⟩ (congrArg Prod.fst (J.1.1 125 (12, 92) rfl)) rfl (by decide) rfl rfl ⟨by decide, by decide⟩ (sf_X12_dayAt_r125d (jr_of rfl (by omega)) hD J rfl  (fun v42 h ev42 J S39 X40 X41 => ?_))
          have Sm := jSm_tr rfl Sm S39
          try rw [X40] at D
          try rw [← X41] at D
          show jX m_X12_askOn 6 0 0 157 [(5, .int v22), (4, .int v15), (3, .int v7), (2, .int p0), (0, .ref 125), (1, .int a1)] [.int v42, .int v15, .ref 125] _ 0 0 _
          refine x_inv (N := m_X12_ask) (As := [.int v15, .int v42]) (b := 125) (st := []) (dx9 := 5) (mc := 0) (ms := 0) (host := "") 12 rfl t_X12_ask ⟨Or.inl q_12_780, i_X12_ask.1, i_X12_ask.2⟩ ⟨by decide, rfl⟩ (congrArg Prod.fst (J.1.1 125 (12, 92) rfl)) rfl (by decide) rfl rfl ⟨by decide, by decide⟩ (jC.of rfl k_X12_ask rfl ?_)
          show jX m_X12_ask 5 0 0 0 [(0, .ref 125), (1, .int v15), (2, .int v42)] [] _ 0 0 _
          refine x_aloadn (x := 125) rfl rfl ?_
          refine x_dup rfl rfl ?_
          refine z_getM (N := 92) (v := p0) 12 74 rfl f_12_771 rfl J rfl (jmc S39 rfl (jmo w38 rfl (jmo w23 rfl (jmc S19 rfl (jmc S12 rfl (jmc S4 rfl zp0)))))) ?_
          refine x_iconst (v := 1) rfl ki_1 ?_
          refine z_iadd rfl rfl jk_1 (by omega) (fun v43 ev43 => ?_)
          refine z_putI (N := 92) (w := v43.toInt) 12 74 rfl f_12_771 rfl (jfin_no TX12 RX12 92 rfl rfl) hD J Sm rfl rfl rfl (pw_125_74 (by omega)) rfl (fun h w44 J Sm => ?_)
          rw [vwf w44 (show (p0.toInt + 1) = v43.toInt from by omega)] at D
          refine x_aloadn (x := 125) rfl rfl ?_
          refine z_getR (N := 92) (b := 156) 12 68 rfl f_12_126 rfl J rfl 16068 ⟨rfl, rfl⟩ rfl ?_
          refine x_aloadn (x := 125) rfl rfl ?_
          refine z_getM (N := 92) (v := v43) 12 74 rfl f_12_771 rfl J rfl (jmw w44) ?_
          refine x_iloadn (x := v15) rfl rfl ?_
          refine z_iast (N := 8) (l := 0) (u := 8) (w := v15.toInt) rfl hD J Sm rfl rfl rfl (by omega) rfl (wr_156 (fun q1 q2 q3 q4 => by omega)) rfl (fun h w45 J Sm => ?_)
          rw [vww w45 (show (p0.toInt + 1) = v43.toInt from by omega) (show v15.toInt = v15.toInt from by omega)] at D
          refine x_aloadn (x := 125) rfl rfl ?_
          refine z_getR (N := 92) (b := 157) 12 69 rfl f_12_129 rfl J rfl 16069 ⟨rfl, rfl⟩ rfl ?_
          refine x_aloadn (x := 125) rfl rfl ?_
          refine z_getM (N := 92) (v := v43) 12 74 rfl f_12_771 rfl J rfl (jmo w45 rfl (jmw w44)) ?_
          refine x_iloadn (x := v42) rfl rfl ?_
          refine z_iast (N := 8) (l := 0) (u := 8) (w := v42.toInt) rfl hD J Sm rfl rfl rfl (by omega) rfl (wr_157 (fun q1 q2 q3 q4 => by omega)) rfl (fun h w46 J Sm => ?_)
          rw [vww w46 (show (p0.toInt + 1) = v43.toInt from by omega) (show v42.toInt = v42.toInt from by omega)] at D
          refine x_aloadn (x := 125) rfl rfl ?_
          refine z_getR (N := 92) (b := 158) 12 70 rfl f_12_132 rfl J rfl 16070 ⟨rfl, rfl⟩ rfl ?_
          refine x_aloadn (x := 125) rfl rfl ?_
          refine z_getM (N := 92) (v := v43) 12 74 rfl f_12_771 rfl J rfl (jmo w46 rfl (jmo w45 rfl (jmw w44))) ?_
          refine x_iconst (v := 0) rfl ki_0 ?_
          refine z_iast (N := 8) (l := 0) (u := 8) (w := 0) rfl hD J Sm rfl rfl rfl (by omega) jk_0 (wr_158 (fun q1 q2 q3 q4 => by omega)) rfl (fun h w47 J Sm => ?_)
          rw [vww w47 (show (p0.toInt + 1) = v43.toInt from by omega) (show 0 = (0 : Int32).toInt from by have := jk_0; omega)] at D
          refine x_aloadn (x := 125) rfl rfl ?_
          refine z_getR (N := 92) (b := 159) 12 71 rfl f_12_135 rfl J rfl 16071 ⟨rfl, rfl⟩ rfl ?_
          refine x_aloadn (x := 125) rfl rfl ?_
          refine z_getM (N := 92) (v := v43) 12 74 rfl f_12_771 rfl J rfl (jmo w47 rfl (jmo w46 rfl (jmo w45 rfl (jmw w44)))) ?_
          refine x_iconst (v := 0) rfl ki_0 ?_
          refine z_iast (N := 8) (l := 0) (u := 8) (w := 0) rfl hD J Sm rfl rfl rfl (by omega) jk_0 (wr_159 (fun q1 q2 q3 q4 => by omega)) rfl (fun h w48 J Sm => ?_)
          rw [vww w48 (show (p0.toInt + 1) = v43.toInt from by omega) (show 0 = (0 : Int32).toInt from by have := jk_0; omega)] at D
          refine x_aloadn (x := 125) rfl rfl ?_
          refine z_getR (N := 92) (b := 161) 12 73 rfl f_12_141 rfl J rfl 16073 ⟨rfl, rfl⟩ rfl ?_
          refine x_aloadn (x := 125) rfl rfl ?_
          refine z_getM (N := 92) (v := v43) 12 74 rfl f_12_771 rfl J rfl (jmo w48 rfl (jmo w47 rfl (jmo w46 rfl (jmo w45 rfl (jmw w44))))) ?_
          refine x_iconst (v := 0) rfl ki_0 ?_
          refine z_iast (N := 8) (l := 0) (u := 8) (w := 0) rfl hD J Sm rfl rfl rfl (by omega) jk_0 (wr_161) rfl (fun h w49 J Sm => ?_)
          rw [vww w49 (show (p0.toInt + 1) = v43.toInt from by omega) (show 0 = (0 : Int32).toInt from by have := jk_0; omega)] at D
          refine x_vret rfl rfl ?_
          show jX m_X12_askOn 6 0 0 160 [(5, .int v22), (4, .int v15), (3, .int v7), (2, .int p0), (0, .ref 125), (1, .int a1)] [] _ 0 0 _
          refine x_goto (tgt := 187) rfl rfl ?_
          exact jX.sub jsb_n (ct_X12_askOn_r125d_187 hD hQ  v43 h (jr_of rfl (by omega)) (jao_of (d := p0) (u := v43) zp0 (jmo w49 rfl (jmo w48 rfl (jmo w47 rfl (jmo w46 rfl (jmo w45 rfl (jmw w44)))))) (by omega) (jeq_o w49 rfl (jeq_o w48 rfl (jeq_s w47 (jnne rfl rfl (by omega)) (jeq_o w46 rfl (jeq_o w45 rfl (jeq_o w44 rfl (jeq_c S39 rfl (jeq_o w38 rfl (jeq_o w23 rfl (jeq_c S19 rfl (jeq_c S12 rfl (jeq_c S4 rfl (jeq_w (P := fun _ => True) (fun _ _ => trivial) jeq_0))))))))))))) (jeq_o w49 rfl (jeq_s w48 (jnlt rfl rfl (by omega)) (jeq_o w47 rfl (jeq_o w46 rfl (jeq_o w45 rfl (jeq_o w44 rfl (jeq_c S39 rfl (jeq_s w38 (jnlt rfl rfl (by omega)) (jeq_o w23 rfl (jeq_c S19 rfl (jeq_c S12 rfl (jeq_c S4 rfl (jeq_w (P := fun _ => True) (fun _ _ => trivial) jeq_0))))))))))))) (jmo w49 rfl (jmo w48 rfl (jmw w47))) (jmo w49 rfl (jmw w48))) (jmo w49 rfl (jmo w48 rfl (jmo w47 rfl (jmo w46 rfl (jmo w45 rfl (jmw w44)))))) J Sm D)
      ·
        rw [if_pos (by omega)] at D
        refine x_vret rfl rfl ?_
        exact hQ _ J Sm _ (jmc S4 rfl zp0) (by omega) (jao_id zp0 (jmc S4 rfl zp0) (jeq_c S4 rfl jeq_0) (jeq_c S4 rfl jeq_0)) D.symm
    ·
      rw [if_pos (by omega)] at D
      refine x_aloadn (x := 125) rfl rfl ?_
      refine x_aloadn (x := 125) rfl rfl ?_
      refine z_getR (N := 92) (b := 156) 12 68 rfl f_12_126 rfl J rfl 16068 ⟨rfl, rfl⟩ rfl ?_
      refine x_iloadn (x := p0) rfl rfl ?_
      refine z_iald (N := 8) rfl J rfl sg_156_0_8_1_0_1 rfl (by omega) (fun v50 qv50 ev50 => ?_)
      try rw [vrd qv50 (show p0.toInt = p0.toInt from by omega)] at D
      refine x_iconst (v := 4) rfl ki_4 ?_
      refine x_aloadn (x := 125) rfl rfl ?_
      refine z_getR (N := 92) (b := 157) 12 69 rfl f_12_129 rfl J rfl 16069 ⟨rfl, rfl⟩ rfl ?_
      refine x_iloadn (x := p0) rfl rfl ?_
      refine z_iald (N := 8) rfl J rfl sg_157_0_8_1_0_1 rfl (by omega) (fun v51 qv51 ev51 => ?_)
      try rw [vrd qv51 (show p0.toInt = p0.toInt from by omega)] at D
      refine x_inv (N := m_X12_mentionOf) (As := [.int v50, .int 4, .int v51]) (b := 125) (st := []) (dx9 := 4) (mc := 0) (ms := 0) (host := "") 12 rfl t_X12_mentionOf ⟨Or.inl q_12_405, i_X12_mentionOf.1, i_X12_mentionOf.2⟩ ⟨by decide, rfl⟩ (congrArg Prod.fst (J.1.1 125 (12, 92) rfl)) rfl (by decide) rfl rfl ⟨by decide, by decide⟩ (sf_X12_mentionOf_r125d (jr_of rfl (by omega)) (jr_of jk_4 (by omega)) (jr_of rfl (by omega)) hD J rfl  (fun v55 h ev55 J S52 X53 X54 => ?_))
      have Sm := jSm_tr rfl Sm S52
      try rw [jk_4] at X53
      try rw [X53] at D
      try rw [← X54] at D
      show jX m_X12_askOn 6 0 0 34 [(2, .int p0), (0, .ref 125), (1, .int a1)] [.int v55] _ 0 0 _
      refine x_istoren (lsx9 := [(3, .int v55), (2, .int p0), (0, .ref 125), (1, .int a1)]) rfl rfl rfl ?_
      refine x_iloadn (x := v55) rfl rfl ?_
      refine x_iconst (v := (-1)) rfl ki_m1 ?_
      refine x_icne (tgt := 44) rfl rfl (ti_ne rfl jk_m1 ⟨fun c56 => ?_, fun c56 => ?_⟩)
      ·
        rw [if_neg (by omega)] at D
        refine x_aloadn (x := 125) rfl rfl ?_
        refine x_iloadn (x := v55) rfl rfl ?_
        refine x_iconst (v := 3) rfl ki_3 ?_
        refine z_idiv rfl rfl jk_3 (by omega) (by omega) (fun v57 ev57 => ?_)
        refine x_iconst (v := 3) rfl ki_3 ?_
        refine z_imul rfl rfl jk_3 (by omega) (fun v58 ev58 => ?_)
        try rw [show ((v55.toInt / 3) * 3) = v58.toInt from by omega] at D
        refine x_inv (N := m_X12_named) (As := [.int v58]) (b := 125) (st := []) (dx9 := 5) (mc := 0) (ms := 0) (host := "") 12 rfl t_X12_named ⟨Or.inl q_12_409, i_X12_named.1, i_X12_named.2⟩ ⟨by decide, rfl⟩ (congrArg Prod.fst (J.1.1 125 (12, 92) rfl)) rfl (by decide) rfl rfl ⟨by decide, by decide⟩ (sf_X12_named_r125d (jr_of rfl (by omega)) hD J rfl  (fun v62 h ev62 J S59 X60 X61 => ?_))
        have Sm := jSm_tr rfl Sm S59
        try rw [X60] at D
        try rw [← X61] at D
        show jX m_X12_askOn 6 0 0 53 [(3, .int v55), (2, .int p0), (0, .ref 125), (1, .int a1)] [.int v62] _ 0 0 _
        exact jX.sub (jsb_c rfl (jsb_c rfl jsb_n)) (ct_X12_askOn_r125d_53 hD hQ  p0 v62 p0 h (jr_of rfl (by omega)) (jr_of rfl (by omega)) (jr_of rfl (by omega)) ⟨zp0, (jmc S59 rfl (jmc S52 rfl zp0)), (jeq_c S59 rfl (jeq_c S52 rfl jeq_0)), (jeq_c S59 rfl (jeq_c S52 rfl jeq_0))⟩ (by omega) (jmc S59 rfl (jmc S52 rfl zp0)) J Sm D)
      ·
        rw [if_pos (by omega)] at D
        refine x_iconst (v := (-1)) rfl ki_m1 ?_
        refine x_goto (tgt := 53) rfl rfl ?_
        exact jX.sub (jsb_c rfl (jsb_c rfl jsb_n)) (ct_X12_askOn_r125d_100053 hD hQ  p0 p0 h (jr_of rfl (by omega)) (jr_of rfl (by omega)) ⟨zp0, (jmc S52 rfl zp0), (jeq_c S52 rfl jeq_0), (jeq_c S52 rfl jeq_0)⟩ (by omega) (jmc S52 rfl zp0) J Sm D)
  ·
    rw [if_pos (by omega)] at D
    refine x_vret rfl rfl ?_
    exact hQ _ J Sm _ zp0 (by omega) (jao_id zp0 zp0 jeq_0 jeq_0) D.symm
def fp_X12_badge_r125d : jFp := [(125, 0, 1), (125, 28, 29), (125, 31, 32), (125, 32, 33), (125, 33, 34), (125, 34, 35), (125, 35, 36), (125, 57, 58), (125, 61, 62), (125, 62, 63), (125, 63, 64), (125, 64, 65), (125, 65, 66), (125, 66, 67), (137, 0, 80), (138, 0, 2), (139, 0, 600), (140, 0, 200), (152, 0, 360), (153, 0, 30), (154, 0, 400), (155, 0, 360), (162, 0, 40), (163, 0, 40), (164, 0, 40)]
set_option maxRecDepth 100000 in
set_option maxHeartbeats 4000000 in
theorem ct_X12_badge_r125d_26 {Dy : jH → Prop} {h0 : jH} {Q : Option Value → jH → Prop} {dr : (Int × jW)} (hD : jDk Dy) (hQ : ∀ (v : Int32) hx9, (-1) ≤ v.toInt ∧ v.toInt ≤ 1 → jJ jSgM Dy hx9 → jSm fp_X12_badge_r125d h0 hx9 → dr.1 = v.toInt → dr.2 = vw hx9 → Q (some (.int v)) hx9) : ∀ (h : jH), jJ jSgM Dy h → jSm fp_X12_badge_r125d h0 h → d_X12_badge_r125d_26  (vw h) = dr → jX m_X12_badge 12 0 0 26 [] [] h 0 0 Q := by
  intro  h    J Sm D
  unfold d_X12_badge_r125d_26 at D
  refine x_iconst (v := (-1)) rfl ki_m1 ?_
  refine x_iret rfl rfl ?_
  exact hQ _ _ (jr_of jk_m1 (by omega)) J Sm ((congrArg Prod.fst D).symm.trans (show (-1) = ((-1) : Int32).toInt from by have := jk_m1; omega)) (congrArg Prod.snd D).symm
set_option maxRecDepth 100000 in
set_option maxHeartbeats 4000000 in
theorem ct_X12_badge_r125d_300060 {Dy : jH → Prop} {h0 : jH} {Q : Option Value → jH → Prop} {dr : (Int × jW)} (hD : jDk Dy) (hQ : ∀ (v : Int32) hx9, (-1) ≤ v.toInt ∧ v.toInt ≤ 1 → jJ jSgM Dy hx9 → jSm fp_X12_badge_r125d h0 hx9 → dr.1 = v.toInt → dr.2 = vw hx9 → Q (some (.int v)) hx9) : ∀ (h : jH), jJ jSgM Dy h → jSm fp_X12_badge_r125d h0 h → d_X12_badge_r125d_300060  (vw h) = dr → jX m_X12_badge 12 0 0 60 [] [.int 1] h 0 0 Q := by
  intro  h    J Sm D
  unfold d_X12_badge_r125d_300060 at D
  refine x_iret rfl rfl ?_
  exact hQ _ _ (jr_of jk_1 (by omega)) J Sm ((congrArg Prod.fst D).symm.trans (show 1 = (1 : Int32).toInt from by have := jk_1; omega)) (congrArg Prod.snd D).symm
set_option maxRecDepth 100000 in
set_option maxHeartbeats 4000000 in
theorem ct_X12_badge_r125d_200060 {Dy : jH → Prop} {h0 : jH} {Q : Option Value → jH → Prop} {dr : (Int × jW)} (hD : jDk Dy) (hQ : ∀ (v : Int32) hx9, (-1) ≤ v.toInt ∧ v.toInt ≤ 1 → jJ jSgM Dy hx9 → jSm fp_X12_badge_r125d h0 hx9 → dr.1 = v.toInt → dr.2 = vw hx9 → Q (some (.int v)) hx9) : ∀ (h : jH), jJ jSgM Dy h → jSm fp_X12_badge_r125d h0 h → d_X12_badge_r125d_200060  (vw h) = dr → jX m_X12_badge 12 0 0 60 [] [.int 0] h 0 0 Q := by
  intro  h    J Sm D
  unfold d_X12_badge_r125d_200060 at D
  refine x_iret rfl rfl ?_
  exact hQ _ _ (jr_of jk_0 (by omega)) J Sm ((congrArg Prod.fst D).symm.trans (show 0 = (0 : Int32).toInt from by have := jk_0; omega)) (congrArg Prod.snd D).symm
set_option maxRecDepth 100000 in
set_option maxHeartbeats 4000000 in
theorem ct_X12_badge_r125d_59 {Dy : jH → Prop} {h0 : jH} {Q : Option Value → jH → Prop} {dr : (Int × jW)} (hD : jDk Dy) (hQ : ∀ (v : Int32) hx9, (-1) ≤ v.toInt ∧ v.toInt ≤ 1 → jJ jSgM Dy hx9 → jSm fp_X12_badge_r125d h0 hx9 → dr.1 = v.toInt → dr.2 = vw hx9 → Q (some (.int v)) hx9) : ∀ (h : jH), jJ jSgM Dy h → jSm fp_X12_badge_r125d h0 h → d_X12_badge_r125d_59  (vw h) = dr → jX m_X12_badge 12 0 0 59 [] [] h 0 0 Q := by
  intro  h    J Sm D
  unfold d_X12_badge_r125d_59 at D
  refine x_iconst (v := 0) rfl ki_0 ?_
  exact jX.sub jsb_n (ct_X12_badge_r125d_200060 hD hQ  h J Sm D)
set_option maxRecDepth 100000 in
set_option maxHeartbeats 4000000 in
theorem sf_X12_badge_r125d {Dy : jH → Prop} {h : jH} {Q : Option Value → jH → Prop} {dr : (Int × jW)} {a1 : Int32} {a2 : Int32} {a3 : Int32} (hD : jDk Dy) (J : jJ jSgM Dy h) (D : d_X12_badge_r125d a1.toInt a2.toInt a3.toInt (vw h) = dr) (hQ : ∀ (v : Int32) hx9, (-1) ≤ v.toInt ∧ v.toInt ≤ 1 → jJ jSgM Dy hx9 → jSm fp_X12_badge_r125d h hx9 → dr.1 = v.toInt → dr.2 = vw hx9 → Q (some (.int v)) hx9) : jC m_X12_badge 12 0 0 [.ref 125, .int a1, .int a2, .int a3] h Q := by
  refine jC.of rfl k_X12_badge rfl ?_
  have Sm := jSm_rf fp_X12_badge_r125d h
  have ea1 := jfull a1
  have ea2 := jfull a2
  have ea3 := jfull a3
  show jX m_X12_badge 12 0 0 0 [(0, .ref 125), (1, .int a1), (2, .int a2), (3, .int a3)] [] _ 0 0 _
  unfold d_X12_badge_r125d at D
  refine x_aloadn (x := 125) rfl rfl ?_
  refine x_iconst (v := 0) rfl ki_0 ?_
  refine z_putI (N := 92) (w := 0) 12 0 rfl f_12_180 rfl (jfin_no TX12 RX12 92 rfl rfl) hD J Sm rfl rfl jk_0 (pw_125_0 (by omega)) rfl (fun h w1 J Sm => ?_)
  rw [vwf w1 (show 0 = (0 : Int32).toInt from by have := jk_0; omega)] at D
  refine x_aloadn (x := 125) rfl rfl ?_
  refine x_iloadn (x := a1) rfl rfl ?_
  refine x_iloadn (x := a3) rfl rfl ?_
  refine x_inv (N := m_X12_soulAt) (As := [.int a1, .int a3]) (b := 125) (st := []) (dx9 := 11) (mc := 0) (ms := 0) (host := "") 12 rfl t_X12_soulAt ⟨Or.inl q_12_399, i_X12_soulAt.1, i_X12_soulAt.2⟩ ⟨by decide, rfl⟩ (congrArg Prod.fst (J.1.1 125 (12, 92) rfl)) rfl (by decide) rfl rfl ⟨by decide, by decide⟩ (jC.of rfl k_X12_soulAt rfl ?_)
  show jX m_X12_soulAt 11 0 0 0 [(0, .ref 125), (1, .int a1), (2, .int a3)] [] _ 0 0 _
  refine x_aloadn (x := 125) rfl rfl ?_
  refine x_iloadn (x := a1) rfl rfl ?_
  refine x_inv (N := m_X12_isMention) (As := [.int a1]) (b := 125) (st := []) (dx9 := 10) (mc := 0) (ms := 0) (host := "") 12 rfl t_X12_isMention ⟨Or.inl q_12_322, i_X12_isMention.1, i_X12_isMention.2⟩ ⟨by decide, rfl⟩ (congrArg Prod.fst (J.1.1 125 (12, 92) rfl)) rfl (by decide) rfl rfl ⟨by decide, by decide⟩ (jC.of rfl k_X12_isMention rfl ?_)
  show jX m_X12_isMention 10 0 0 0 [(0, .ref 125), (1, .int a1)] [] _ 0 0 _
  refine x_iloadn (x := a1) rfl rfl ?_
  refine x_iflt (tgt := 34) rfl rfl (ti_lt rfl jk_0 ⟨fun c2 => ?_, fun c2 => ?_⟩)
  ·
    rw [if_pos (by omega)] at D
    refine x_iconst (v := 0) rfl ki_0 ?_
    refine x_zret rfl rfl (by decide) ?_
    show jX m_X12_soulAt 11 0 0 5 [(0, .ref 125), (1, .int a1), (2, .int a3)] [.int 0] _ 0 0 _
    refine x_ifeq (tgt := 15) rfl rfl (ti_eq jk_0 jk_0 (br_t (by omega) ?_))
    refine x_iconst (v := (-1)) rfl ki_m1 ?_
    refine x_iret rfl rfl ?_
    show jX m_X12_badge 12 0 0 11 [(0, .ref 125), (1, .int a1), (2, .int a2), (3, .int a3)] [.int (-1)] _ 0 0 _
    refine x_istore (lsx9 := [(4, .int (-1)), (0, .ref 125), (1, .int a1), (2, .int a2), (3, .int a3)]) rfl rfl rfl ?_
    refine x_iload (x := (-1)) rfl rfl ?_
    refine x_iconst (v := (-1)) rfl ki_m1 ?_
    refine x_iceq (tgt := 26) rfl rfl (ti_eq jk_m1 jk_m1 (br_t (by omega) ?_))
    exact jX.sub jsb_n (ct_X12_badge_r125d_26 hD hQ  h J Sm D)
  ·
    rw [if_neg (by omega)] at D
    refine x_aloadn (x := 125) rfl rfl ?_
    refine x_iloadn (x := a1) rfl rfl ?_
    refine x_iconst (v := 3) rfl ki_3 ?_
    refine z_idiv rfl rfl jk_3 (by omega) (by omega) (fun v3 ev3 => ?_)
    refine x_inv (N := m_X12_isLine) (As := [.int v3]) (b := 125) (st := []) (dx9 := 9) (mc := 0) (ms := 0) (host := "") 12 rfl t_X12_isLine ⟨Or.inl q_12_293, i_X12_isLine.1, i_X12_isLine.2⟩ ⟨by decide, rfl⟩ (congrArg Prod.fst (J.1.1 125 (12, 92) rfl)) rfl (by decide) rfl rfl ⟨by decide, by decide⟩ (jC.of rfl k_X12_isLine rfl ?_)
    show jX m_X12_isLine 9 0 0 0 [(0, .ref 125), (1, .int v3)] [] _ 0 0 _
    refine x_iloadn (x := v3) rfl rfl ?_
    refine z_i2l rfl rfl (fun v4 ev4 => ?_)
    refine x_lconst (v := 0) rfl kl_0 ?_
    refine x_aloadn (x := 125) rfl rfl ?_
    refine z_getR (N := 92) (b := 126) 12 2 rfl f_12_8 rfl J rfl 16002 ⟨rfl, rfl⟩ rfl ?_
    refine x_iconst (v := 0) rfl ki_0 ?_
    refine z_iald (N := 50660) rfl J rfl sg_126_0_1_1_0_1 jk_0 (by omega) (fun v5 qv5 ev5 => ?_)
    try rw [vrn (n := 0) (by decide) (jmb_w w1 qv5 rfl)] at D
    refine z_i2l rfl rfl (fun v6 ev6 => ?_)
    refine x_lconst (v := 1) rfl kl_1 ?_
    refine z_lsub rfl rfl jkl_1 (by omega) (fun v7 ev7 => ?_)
    refine x_inst (N := m_X12_in) (As := [.long v4, .long 0, .long v7]) (st := []) (dx9 := 1) (mc := 0) (ms := 0) (host := "") rfl t_X12_in ⟨Or.inl q_12_188, s_X12_in⟩ rfl (by decide) rfl rfl ⟨by decide, by decide⟩ (zc_X12_in rfl jkl_0 rfl (fun v8 ev8 => ?_))
    show jX m_X12_isLine 9 0 0 15 [(0, .ref 125), (1, .int v3)] [.int v8] _ 0 0 _
    refine x_zret rfl rfl (jz01 (by omega)) ?_
    show jX m_X12_isMention 10 0 0 11 [(0, .ref 125), (1, .int a1)] [.int v8] _ 0 0 _
    refine x_ifeq (tgt := 34) rfl rfl (ti_eq rfl jk_0 ⟨fun c9 => ?_, fun c9 => ?_⟩)
    ·
      rw [if_neg (by omega)] at D
      refine x_iconst (v := 0) rfl ki_0 ?_
      refine x_zret rfl rfl (by decide) ?_
      show jX m_X12_soulAt 11 0 0 5 [(0, .ref 125), (1, .int a1), (2, .int a3)] [.int 0] _ 0 0 _
      refine x_ifeq (tgt := 15) rfl rfl (ti_eq jk_0 jk_0 (br_t (by omega) ?_))
      refine x_iconst (v := (-1)) rfl ki_m1 ?_
      refine x_iret rfl rfl ?_
      show jX m_X12_badge 12 0 0 11 [(0, .ref 125), (1, .int a1), (2, .int a2), (3, .int a3)] [.int (-1)] _ 0 0 _
      refine x_istore (lsx9 := [(4, .int (-1)), (0, .ref 125), (1, .int a1), (2, .int a2), (3, .int a3)]) rfl rfl rfl ?_
      refine x_iload (x := (-1)) rfl rfl ?_
      refine x_iconst (v := (-1)) rfl ki_m1 ?_
      refine x_iceq (tgt := 26) rfl rfl (ti_eq jk_m1 jk_m1 (br_t (by omega) ?_))
      exact jX.sub jsb_n (ct_X12_badge_r125d_26 hD hQ  h J Sm D)
    ·
      rw [if_pos (by omega)] at D
      refine x_iloadn (x := a1) rfl rfl ?_
      refine x_iconst (v := 3) rfl ki_3 ?_
      refine z_irem rfl rfl jk_3 (by omega) (by omega) (fun v10 ev10 => ?_)
      refine x_aloadn (x := 125) rfl rfl ?_
      refine x_iloadn (x := a1) rfl rfl ?_
      refine x_iconst (v := 3) rfl ki_3 ?_
      refine z_idiv rfl rfl jk_3 (by omega) (by omega) (fun v11 ev11 => ?_)
      refine x_inv (N := m_X12_bookOf) (As := [.int v11]) (b := 125) (st := [.int v10]) (dx9 := 9) (mc := 0) (ms := 0) (host := "") 12 rfl t_X12_bookOf ⟨Or.inl q_12_299, i_X12_bookOf.1, i_X12_bookOf.2⟩ ⟨by decide, rfl⟩ (congrArg Prod.fst (J.1.1 125 (12, 92) rfl)) rfl (by decide) rfl rfl ⟨by decide, by decide⟩ (jC.of rfl k_X12_bookOf rfl ?_)
      show jX m_X12_bookOf 9 0 0 0 [(0, .ref 125), (1, .int v11)] [] _ 0 0 _
      refine x_aloadn (x := 125) rfl rfl ?_
      refine z_getR (N := 92) (b := 126) 12 2 rfl f_12_8 rfl J rfl 16002 ⟨rfl, rfl⟩ rfl ?_
      refine x_aloadn (x := 125) rfl rfl ?_
      refine x_iloadn (x := v11) rfl rfl ?_
      refine x_inv (N := m_X12_at) (As := [.int v11]) (b := 125) (st := [.ref 126]) (dx9 := 8) (mc := 0) (ms := 0) (host := "") 12 rfl t_X12_at ⟨Or.inl q_12_254, i_X12_at.1, i_X12_at.2⟩ ⟨by decide, rfl⟩ (congrArg Prod.fst (J.1.1 125 (12, 92) rfl)) rfl (by decide) rfl rfl ⟨by decide, by decide⟩ (jC.of rfl k_X12_at rfl ?_)
      show jX m_X12_at 8 0 0 0 [(0, .ref 125), (1, .int v11)] [] _ 0 0 _
      refine x_bipush (v := 20) rfl kb_20 ?_
      refine x_bipush (v := 90) rfl kb_90 ?_
      refine x_iloadn (x := v11) rfl rfl ?_
      refine z_imul rfl jk_90 rfl (by omega) (fun v12 ev12 => ?_)
      refine z_iadd rfl jk_20 rfl (by omega) (fun v13 ev13 => ?_)
      refine x_iret rfl rfl ?_
      show jX m_X12_bookOf 9 0 0 9 [(0, .ref 125), (1, .int v11)] [.int v13, .ref 126] _ 0 0 _
      refine z_iald (N := 50660) rfl J rfl sg_126_20_18020_90_0_1 rfl (by omega) (fun v14 qv14 ev14 => ?_)
      try rw [vrd (jmb_w w1 qv14 rfl) (show (20 + (90 * (a1.toInt / 3))) = v13.toInt from by omega)] at D
      refine x_iret rfl rfl ?_
      show jX m_X12_isMention 10 0 0 24 [(0, .ref 125), (1, .int a1)] [.int v14, .int v10] _ 0 0 _
      refine x_inst (N := m_X12_rolesOf) (As := [.int v14]) (st := [.int v10]) (dx9 := 9) (mc := 0) (ms := 0) (host := "") rfl t_X12_rolesOf ⟨Or.inl q_12_286, s_X12_rolesOf⟩ rfl (by decide) rfl rfl ⟨by decide, by decide⟩ (jC.of rfl k_X12_rolesOf rfl ?_)
      show jX m_X12_rolesOf 9 0 0 0 [(0, .int v14)] [] _ 0 0 _
      refine x_iloadn (x := v14) rfl rfl ?_
      refine x_ifne (tgt := 8) rfl rfl (ti_ne rfl jk_0 ⟨fun c15 => ?_, fun c15 => ?_⟩)
      ·
        rw [if_neg (by omega)] at D
        refine x_iloadn (x := v14) rfl rfl ?_
        refine x_iconst (v := 1) rfl ki_1 ?_
        refine x_icne (tgt := 17) rfl rfl (ti_ne rfl jk_1 ⟨fun c16 => ?_, fun c16 => ?_⟩)
        ·
          rw [if_neg (by omega)] at D
          refine x_iconst (v := 1) rfl ki_1 ?_
          refine x_iret rfl rfl ?_
          show jX m_X12_isMention 10 0 0 27 [(0, .ref 125), (1, .int a1)] [.int 1, .int v10] _ 0 0 _
          refine x_icge (tgt := 34) rfl rfl (ti_ge rfl jk_1 ⟨fun c17 => ?_, fun c17 => ?_⟩)
          ·
            rw [if_pos (by omega)] at D
            refine x_iconst (v := 0) rfl ki_0 ?_
            refine x_zret rfl rfl (by decide) ?_
            show jX m_X12_soulAt 11 0 0 5 [(0, .ref 125), (1, .int a1), (2, .int a3)] [.int 0] _ 0 0 _
            refine x_ifeq (tgt := 15) rfl rfl (ti_eq jk_0 jk_0 (br_t (by omega) ?_))
            refine x_iconst (v := (-1)) rfl ki_m1 ?_
            refine x_iret rfl rfl ?_
            show jX m_X12_badge 12 0 0 11 [(0, .ref 125), (1, .int a1), (2, .int a2), (3, .int a3)] [.int (-1)] _ 0 0 _
            refine x_istore (lsx9 := [(4, .int (-1)), (0, .ref 125), (1, .int a1), (2, .int a2), (3, .int a3)]) rfl rfl rfl ?_
            refine x_iload (x := (-1)) rfl rfl ?_
            refine x_iconst (v := (-1)) rfl ki_m1 ?_
            refine x_iceq (tgt := 26) rfl rfl (ti_eq jk_m1 jk_m1 (br_t (by omega) ?_))
            exact jX.sub jsb_n (ct_X12_badge_r125d_26 hD hQ  h J Sm D)
          ·
            rw [if_neg (by omega)] at D
            refine x_iconst (v := 1) rfl ki_1 ?_
            refine x_goto (tgt := 35) rfl rfl ?_
            refine x_zret rfl rfl (by decide) ?_
            show jX m_X12_soulAt 11 0 0 5 [(0, .ref 125), (1, .int a1), (2, .int a3)] [.int 1] _ 0 0 _
            refine x_ifeq (tgt := 15) rfl rfl (ti_eq jk_1 jk_0 (br_f (by omega) ?_))
            refine x_iloadn (x := a3) rfl rfl ?_
            refine x_inst (N := m_X12_isDay) (As := [.int a3]) (st := []) (dx9 := 2) (mc := 0) (ms := 0) (host := "") rfl t_X12_isDay ⟨Or.inl q_12_273, s_X12_isDay⟩ rfl (by decide) rfl rfl ⟨by decide, by decide⟩ (zc_X12_isDay (d := 1) rfl (fun v18 ev18 => ?_))
            show jX m_X12_soulAt 11 0 0 12 [(0, .ref 125), (1, .int a1), (2, .int a3)] [.int v18] _ 0 0 _
            refine x_ifne (tgt := 17) rfl rfl (ti_ne rfl jk_0 ⟨fun c19 => ?_, fun c19 => ?_⟩)
            ·
              rw [if_pos (by omega)] at D
              refine x_aloadn (x := 125) rfl rfl ?_
              refine x_iloadn (x := a3) rfl rfl ?_
              refine x_inv (N := m_X12_find) (As := [.int a3]) (b := 125) (st := []) (dx9 := 8) (mc := 0) (ms := 0) (host := "") 12 rfl t_X12_find ⟨Or.inl q_12_393, i_X12_find.1, i_X12_find.2⟩ ⟨by decide, rfl⟩ (congrArg Prod.fst (J.1.1 125 (12, 92) rfl)) rfl (by decide) rfl rfl ⟨by decide, by decide⟩ (sf_X12_find_r125d (jr_of rfl (by omega)) hD J rfl  (fun h J S20 X21 => ?_))
              have Sm := jSm_tr rfl Sm S20
              rw [X21] at D
              show jX m_X12_soulAt 11 0 0 22 [(0, .ref 125), (1, .int a1), (2, .int a3)] [] _ 0 0 _
              refine x_aloadn (x := 125) rfl rfl ?_
              refine z_getR (N := 92) (b := 139) 12 29 rfl f_12_72 rfl J rfl 16029 ⟨rfl, rfl⟩ rfl ?_
              refine x_iloadn (x := a1) rfl rfl ?_
              refine z_iald (N := 600) rfl J rfl sg_139_0_600_1_0_1 rfl (by omega) (fun v22 qv22 ev22 => ?_)
              try rw [vrd qv22 (show a1.toInt = a1.toInt from by omega)] at D
              refine x_iret rfl rfl ?_
              show jX m_X12_badge 12 0 0 11 [(0, .ref 125), (1, .int a1), (2, .int a2), (3, .int a3)] [.int v22] _ 0 0 _
              refine x_istore (lsx9 := [(4, .int v22), (0, .ref 125), (1, .int a1), (2, .int a2), (3, .int a3)]) rfl rfl rfl ?_
              refine x_iload (x := v22) rfl rfl ?_
              refine x_iconst (v := (-1)) rfl ki_m1 ?_
              refine x_iceq (tgt := 26) rfl rfl (ti_eq rfl jk_m1 ⟨fun c23 => ?_, fun c23 => ?_⟩)
              ·
                rw [if_pos (by omega)] at D
                exact jX.sub jsb_n (ct_X12_badge_r125d_26 hD hQ  h J Sm D)
              ·
                rw [if_neg (by omega)] at D
                refine x_iloadn (x := a2) rfl rfl ?_
                refine x_inst (N := m_X12_isDay) (As := [.int a2]) (st := []) (dx9 := 2) (mc := 0) (ms := 0) (host := "") rfl t_X12_isDay ⟨Or.inl q_12_273, s_X12_isDay⟩ rfl (by decide) rfl rfl ⟨by decide, by decide⟩ (zc_X12_isDay (d := 1) rfl (fun v24 ev24 => ?_))
                show jX m_X12_badge 12 0 0 23 [(4, .int v22), (0, .ref 125), (1, .int a1), (2, .int a2), (3, .int a3)] [.int v24] _ 0 0 _
                refine x_ifne (tgt := 28) rfl rfl (ti_ne rfl jk_0 ⟨fun c25 => ?_, fun c25 => ?_⟩)
                ·
                  rw [if_pos (by omega)] at D
                  refine x_aloadn (x := 125) rfl rfl ?_
                  refine x_iconst (v := 5) rfl ki_5 ?_
                  refine x_iconst (v := 0) rfl ki_0 ?_
                  refine x_iload (x := v22) rfl rfl ?_
                  refine x_iloadn (x := a2) rfl rfl ?_
                  refine x_inv (N := m_X12_findCount) (As := [.int 5, .int 0, .int v22, .int a2]) (b := 125) (st := []) (dx9 := 11) (mc := 0) (ms := 0) (host := "") 12 rfl t_X12_findCount ⟨Or.inl q_12_765, i_X12_findCount.1, i_X12_findCount.2⟩ ⟨by decide, rfl⟩ (congrArg Prod.fst (J.1.1 125 (12, 92) rfl)) rfl (by decide) rfl rfl ⟨by decide, by decide⟩ (sf_X12_findCount_r125d (jr_of jk_5 (by omega)) (jr_of jk_0 (by omega)) (jr_of rfl (by omega)) (jr_of rfl (by omega)) hD J rfl  (fun h J S26 X27 => ?_))
                  have Sm := jSm_tr rfl Sm S26
                  try rw [jk_5] at X27
                  try rw [jk_0] at X27
                  rw [X27] at D
                  show jX m_X12_badge 12 0 0 37 [(4, .int v22), (0, .ref 125), (1, .int a1), (2, .int a2), (3, .int a3)] [] _ 0 0 _
                  refine x_aloadn (x := 125) rfl rfl ?_
                  refine z_getI (N := 92) 12 65 rfl f_12_752 rfl J rfl sg_125_65_66_1_0_1 (fun v28 qv28 ev28 => ?_)
                  try rw [vrf qv28] at D
                  refine x_iconst (v := (-1)) rfl ki_m1 ?_
                  refine x_iceq (tgt := 59) rfl rfl (ti_eq rfl jk_m1 ⟨fun c29 => ?_, fun c29 => ?_⟩)
                  ·
                    rw [if_pos (by omega)] at D
                    exact jX.sub jsb_n (ct_X12_badge_r125d_59 hD hQ  h J Sm D)
                  ·
                    rw [if_neg (by omega)] at D
                    refine x_aloadn (x := 125) rfl rfl ?_
                    refine x_iload (x := v22) rfl rfl ?_
                    refine x_iloadn (x := a2) rfl rfl ?_
                    refine x_inv (N := m_X12_isPoor) (As := [.int v22, .int a2]) (b := 125) (st := []) (dx9 := 11) (mc := 0) (ms := 0) (host := "") 12 rfl t_X12_isPoor ⟨Or.inl q_12_716, i_X12_isPoor.1, i_X12_isPoor.2⟩ ⟨by decide, rfl⟩ (congrArg Prod.fst (J.1.1 125 (12, 92) rfl)) rfl (by decide) rfl rfl ⟨by decide, by decide⟩ (jC.of rfl k_X12_isPoor rfl ?_)
                    show jX m_X12_isPoor 11 0 0 0 [(0, .ref 125), (1, .int v22), (2, .int a2)] [] _ 0 0 _
                    refine x_aloadn (x := 125) rfl rfl ?_
                    refine x_iloadn (x := v22) rfl rfl ?_
                    refine x_iloadn (x := a2) rfl rfl ?_
                    refine x_sipush (v := 365) rfl ks_365 ?_
                    refine z_isub rfl rfl jk_365 (by omega) (fun v30 ev30 => ?_)
                    refine x_iloadn (x := a2) rfl rfl ?_
                    try rw [show (a2.toInt - 365) = v30.toInt from by omega] at D
                    refine x_inv (N := m_X12_reliefOf) (As := [.int v22, .int v30, .int a2]) (b := 125) (st := []) (dx9 := 3) (mc := 0) (ms := 0) (host := "") 12 rfl t_X12_reliefOf ⟨Or.inl q_12_701, i_X12_reliefOf.1, i_X12_reliefOf.2⟩ ⟨by decide, rfl⟩ (congrArg Prod.fst (J.1.1 125 (12, 92) rfl)) rfl (by decide) rfl rfl ⟨by decide, by decide⟩ (sf_X12_reliefOf_r125d (jr_of rfl (by omega)) (jr_of rfl (by omega)) (jr_of rfl (by omega)) hD J rfl  (fun v34 h J S31 X32 X33 => ?_))
                    have ev34 := jfull v34
                    have Sm := jSm_tr rfl Sm S31
                    try rw [X32] at D
                    try rw [← X33] at D
                    show jX m_X12_isPoor 11 0 0 11 [(0, .ref 125), (1, .int v22), (2, .int a2)] [.int v34] _ 0 0 _
                    refine x_ifle (tgt := 18) rfl rfl (ti_le rfl jk_0 ⟨fun c35 => ?_, fun c35 => ?_⟩)
                    ·
                      rw [if_pos (by omega)] at D
                      refine x_iconst (v := 0) rfl ki_0 ?_
                      refine x_zret rfl rfl (by decide) ?_
                      show jX m_X12_badge 12 0 0 52 [(4, .int v22), (0, .ref 125), (1, .int a1), (2, .int a2), (3, .int a3)] [.int 0] _ 0 0 _
                      refine x_ifeq (tgt := 59) rfl rfl (ti_eq jk_0 jk_0 (br_t (by omega) ?_))
                      exact jX.sub jsb_n (ct_X12_badge_r125d_59 hD hQ  h J Sm D)
                    ·
                      rw [if_neg (by omega)] at D
                      refine x_iconst (v := 1) rfl ki_1 ?_
                      refine x_goto (tgt := 19) rfl rfl ?_
                      refine x_zret rfl rfl (by decide) ?_
                      show jX m_X12_badge 12 0 0 52 [(4, .int v22), (0, .ref 125), (1, .int a1), (2, .int a2), (3, .int a3)] [.int 1] _ 0 0 _
                      refine x_ifeq (tgt := 59) rfl rfl (ti_eq jk_1 jk_0 (br_f (by omega) ?_))
                      refine x_iconst (v := 1) rfl ki_1 ?_
                      refine x_goto (tgt := 60) rfl rfl ?_
                      exact jX.sub jsb_n (ct_X12_badge_r125d_300060 hD hQ  h J Sm D)
                ·
                  rw [if_neg (by omega)] at D
                  exact jX.sub jsb_n (ct_X12_badge_r125d_26 hD hQ  h J Sm D)
            ·
              rw [if_neg (by omega)] at D
              refine x_iconst (v := (-1)) rfl ki_m1 ?_
              refine x_iret rfl rfl ?_
              show jX m_X12_badge 12 0 0 11 [(0, .ref 125), (1, .int a1), (2, .int a2), (3, .int a3)] [.int (-1)] _ 0 0 _
              refine x_istore (lsx9 := [(4, .int (-1)), (0, .ref 125), (1, .int a1), (2, .int a2), (3, .int a3)]) rfl rfl rfl ?_
              refine x_iload (x := (-1)) rfl rfl ?_
              refine x_iconst (v := (-1)) rfl ki_m1 ?_
              refine x_iceq (tgt := 26) rfl rfl (ti_eq jk_m1 jk_m1 (br_t (by omega) ?_))
              exact jX.sub jsb_n (ct_X12_badge_r125d_26 hD hQ  h J Sm D)
        ·
          rw [if_pos (by omega)] at D
          refine x_iconst (v := 2) rfl ki_2 ?_
          refine x_goto (tgt := 18) rfl rfl ?_
          refine x_iret rfl rfl ?_
          show jX m_X12_isMention 10 0 0 27 [(0, .ref 125), (1, .int a1)] [.int 2, .int v10] _ 0 0 _
          refine x_icge (tgt := 34) rfl rfl (ti_ge rfl jk_2 ⟨fun c36 => ?_, fun c36 => ?_⟩)
          ·
            rw [if_pos (by omega)] at D
            refine x_iconst (v := 0) rfl ki_0 ?_
            refine x_zret rfl rfl (by decide) ?_
            show jX m_X12_soulAt 11 0 0 5 [(0, .ref 125), (1, .int a1), (2, .int a3)] [.int 0] _ 0 0 _
            refine x_ifeq (tgt := 15) rfl rfl (ti_eq jk_0 jk_0 (br_t (by omega) ?_))
            refine x_iconst (v := (-1)) rfl ki_m1 ?_
            refine x_iret rfl rfl ?_
            show jX m_X12_badge 12 0 0 11 [(0, .ref 125), (1, .int a1), (2, .int a2), (3, .int a3)] [.int (-1)] _ 0 0 _
            refine x_istore (lsx9 := [(4, .int (-1)), (0, .ref 125), (1, .int a1), (2, .int a2), (3, .int a3)]) rfl rfl rfl ?_
            refine x_iload (x := (-1)) rfl rfl ?_
            refine x_iconst (v := (-1)) rfl ki_m1 ?_
            refine x_iceq (tgt := 26) rfl rfl (ti_eq jk_m1 jk_m1 (br_t (by omega) ?_))
            exact jX.sub jsb_n (ct_X12_badge_r125d_26 hD hQ  h J Sm D)
          ·
            rw [if_neg (by omega)] at D
            refine x_iconst (v := 1) rfl ki_1 ?_
            refine x_goto (tgt := 35) rfl rfl ?_
            refine x_zret rfl rfl (by decide) ?_
            show jX m_X12_soulAt 11 0 0 5 [(0, .ref 125), (1, .int a1), (2, .int a3)] [.int 1] _ 0 0 _
            refine x_ifeq (tgt := 15) rfl rfl (ti_eq jk_1 jk_0 (br_f (by omega) ?_))
            refine x_iloadn (x := a3) rfl rfl ?_
            refine x_inst (N := m_X12_isDay) (As := [.int a3]) (st := []) (dx9 := 2) (mc := 0) (ms := 0) (host := "") rfl t_X12_isDay ⟨Or.inl q_12_273, s_X12_isDay⟩ rfl (by decide) rfl rfl ⟨by decide, by decide⟩ (zc_X12_isDay (d := 1) rfl (fun v37 ev37 => ?_))
            show jX m_X12_soulAt 11 0 0 12 [(0, .ref 125), (1, .int a1), (2, .int a3)] [.int v37] _ 0 0 _
            refine x_ifne (tgt := 17) rfl rfl (ti_ne rfl jk_0 ⟨fun c38 => ?_, fun c38 => ?_⟩)
            ·
              rw [if_pos (by omega)] at D
              refine x_aloadn (x := 125) rfl rfl ?_
              refine x_iloadn (x := a3) rfl rfl ?_
              refine x_inv (N := m_X12_find) (As := [.int a3]) (b := 125) (st := []) (dx9 := 8) (mc := 0) (ms := 0) (host := "") 12 rfl t_X12_find ⟨Or.inl q_12_393, i_X12_find.1, i_X12_find.2⟩ ⟨by decide, rfl⟩ (congrArg Prod.fst (J.1.1 125 (12, 92) rfl)) rfl (by decide) rfl rfl ⟨by decide, by decide⟩ (sf_X12_find_r125d (jr_of rfl (by omega)) hD J rfl  (fun h J S39 X40 => ?_))
              have Sm := jSm_tr rfl Sm S39
              rw [X40] at D
              show jX m_X12_soulAt 11 0 0 22 [(0, .ref 125), (1, .int a1), (2, .int a3)] [] _ 0 0 _
              refine x_aloadn (x := 125) rfl rfl ?_
              refine z_getR (N := 92) (b := 139) 12 29 rfl f_12_72 rfl J rfl 16029 ⟨rfl, rfl⟩ rfl ?_
              refine x_iloadn (x := a1) rfl rfl ?_
              refine z_iald (N := 600) rfl J rfl sg_139_0_600_1_0_1 rfl (by omega) (fun v41 qv41 ev41 => ?_)
              try rw [vrd qv41 (show a1.toInt = a1.toInt from by omega)] at D
              refine x_iret rfl rfl ?_
              show jX m_X12_badge 12 0 0 11 [(0, .ref 125), (1, .int a1), (2, .int a2), (3, .int a3)] [.int v41] _ 0 0 _
              refine x_istore (lsx9 := [(4, .int v41), (0, .ref 125), (1, .int a1), (2, .int a2), (3, .int a3)]) rfl rfl rfl ?_
              refine x_iload (x := v41) rfl rfl ?_
              refine x_iconst (v := (-1)) rfl ki_m1 ?_
              refine x_iceq (tgt := 26) rfl rfl (ti_eq rfl jk_m1 ⟨fun c42 => ?_, fun c42 => ?_⟩)
              ·
                rw [if_pos (by omega)] at D
                exact jX.sub jsb_n (ct_X12_badge_r125d_26 hD hQ  h J Sm D)
              ·
                rw [if_neg (by omega)] at D
                refine x_iloadn (x := a2) rfl rfl ?_
                refine x_inst (N := m_X12_isDay) (As := [.int a2]) (st := []) (dx9 := 2) (mc := 0) (ms := 0) (host := "") rfl t_X12_isDay ⟨Or.inl q_12_273, s_X12_isDay⟩ rfl (by decide) rfl rfl ⟨by decide, by decide⟩ (zc_X12_isDay (d := 1) rfl (fun v43 ev43 => ?_))
                show jX m_X12_badge 12 0 0 23 [(4, .int v41), (0, .ref 125), (1, .int a1), (2, .int a2), (3, .int a3)] [.int v43] _ 0 0 _
                refine x_ifne (tgt := 28) rfl rfl (ti_ne rfl jk_0 ⟨fun c44 => ?_, fun c44 => ?_⟩)
                ·
                  rw [if_pos (by omega)] at D
                  refine x_aloadn (x := 125) rfl rfl ?_
                  refine x_iconst (v := 5) rfl ki_5 ?_
                  refine x_iconst (v := 0) rfl ki_0 ?_
                  refine x_iload (x := v41) rfl rfl ?_
                  refine x_iloadn (x := a2) rfl rfl ?_
                  refine x_inv (N := m_X12_findCount) (As := [.int 5, .int 0, .int v41, .int a2]) (b := 125) (st := []) (dx9 := 11) (mc := 0) (ms := 0) (host := "") 12 rfl t_X12_findCount ⟨Or.inl q_12_765, i_X12_findCount.1, i_X12_findCount.2⟩ ⟨by decide, rfl⟩ (congrArg Prod.fst (J.1.1 125 (12, 92) rfl)) rfl (by decide) rfl rfl ⟨by decide, by decide⟩ (sf_X12_findCount_r125d (jr_of jk_5 (by omega)) (jr_of jk_0 (by omega)) (jr_of rfl (by omega)) (jr_of rfl (by omega)) hD J rfl  (fun h J S45 X46 => ?_))
                  have Sm := jSm_tr rfl Sm S45
                  try rw [jk_5] at X46
                  try rw [jk_0] at X46
                  rw [X46] at D
                  show jX m_X12_badge 12 0 0 37 [(4, .int v41), (0, .ref 125), (1, .int a1), (2, .int a2), (3, .int a3)] [] _ 0 0 _
                  refine x_aloadn (x := 125) rfl rfl ?_
                  refine z_getI (N := 92) 12 65 rfl f_12_752 rfl J rfl sg_125_65_66_1_0_1 (fun v47 qv47 ev47 => ?_)
                  try rw [vrf qv47] at D
                  refine x_iconst (v := (-1)) rfl ki_m1 ?_
                  refine x_iceq (tgt := 59) rfl rfl (ti_eq rfl jk_m1 ⟨fun c48 => ?_, fun c48 => ?_⟩)
                  ·
                    rw [if_pos (by omega)] at D
                    exact jX.sub jsb_n (ct_X12_badge_r125d_59 hD hQ  h J Sm D)
                  ·
                    rw [if_neg (by omega)] at D
                    refine x_aloadn (x := 125) rfl rfl ?_
                    refine x_iload (x := v41) rfl rfl ?_
                    refine x_iloadn (x := a2) rfl rfl ?_
                    refine x_inv (N := m_X12_isPoor) (As := [.int v41, .int a2]) (b := 125) (st := []) (dx9 := 11) (mc := 0) (ms := 0) (host := "") 12 rfl t_X12_isPoor ⟨Or.inl q_12_716, i_X12_isPoor.1, i_X12_isPoor.2⟩ ⟨by decide, rfl⟩ (congrArg Prod.fst (J.1.1 125 (12, 92) rfl)) rfl (by decide) rfl rfl ⟨by decide, by decide⟩ (jC.of rfl k_X12_isPoor rfl ?_)
                    show jX m_X12_isPoor 11 0 0 0 [(0, .ref 125), (1, .int v41), (2, .int a2)] [] _ 0 0 _
                    refine x_aloadn (x := 125) rfl rfl ?_
                    refine x_iloadn (x := v41) rfl rfl ?_
                    refine x_iloadn (x := a2) rfl rfl ?_
                    refine x_sipush (v := 365) rfl ks_365 ?_
                    refine z_isub rfl rfl jk_365 (by omega) (fun v49 ev49 => ?_)
                    refine x_iloadn (x := a2) rfl rfl ?_
                    try rw [show (a2.toInt - 365) = v49.toInt from by omega] at D
                    refine x_inv (N := m_X12_reliefOf) (As := [.int v41, .int v49, .int a2]) (b := 125) (st := []) (dx9 := 3) (mc := 0) (ms := 0) (host := "") 12 rfl t_X12_reliefOf ⟨Or.inl q_12_701, i_X12_reliefOf.1, i_X12_reliefOf.2⟩ ⟨by decide, rfl⟩ (congrArg Prod.fst (J.1.1 125 (12, 92) rfl)) rfl (by decide) rfl rfl ⟨by decide, by decide⟩ (sf_X12_reliefOf_r125d (jr_of rfl (by omega)) (jr_of rfl (by omega)) (jr_of rfl (by omega)) hD J rfl  (fun v53 h J S50 X51 X52 => ?_))
                    have ev53 := jfull v53
                    have Sm := jSm_tr rfl Sm S50
                    try rw [X51] at D
                    try rw [← X52] at D
                    show jX m_X12_isPoor 11 0 0 11 [(0, .ref 125), (1, .int v41), (2, .int a2)] [.int v53] _ 0 0 _
                    refine x_ifle (tgt := 18) rfl rfl (ti_le rfl jk_0 ⟨fun c54 => ?_, fun c54 => ?_⟩)
                    ·
                      rw [if_pos (by omega)] at D
                      refine x_iconst (v := 0) rfl ki_0 ?_
                      refine x_zret rfl rfl (by decide) ?_
                      show jX m_X12_badge 12 0 0 52 [(4, .int v41), (0, .ref 125), (1, .int a1), (2, .int a2), (3, .int a3)] [.int 0] _ 0 0 _
                      refine x_ifeq (tgt := 59) rfl rfl (ti_eq jk_0 jk_0 (br_t (by omega) ?_))
                      exact jX.sub jsb_n (ct_X12_badge_r125d_59 hD hQ  h J Sm D)
                    ·
                      rw [if_neg (by omega)] at D
                      refine x_iconst (v := 1) rfl ki_1 ?_
                      refine x_goto (tgt := 19) rfl rfl ?_
                      refine x_zret rfl rfl (by decide) ?_
                      show jX m_X12_badge 12 0 0 52 [(4, .int v41), (0, .ref 125), (1, .int a1), (2, .int a2), (3, .int a3)] [.int 1] _ 0 0 _
                      refine x_ifeq (tgt := 59) rfl rfl (ti_eq jk_1 jk_0 (br_f (by omega) ?_))
                      refine x_iconst (v := 1) rfl ki_1 ?_
                      refine x_goto (tgt := 60) rfl rfl ?_
                      exact jX.sub jsb_n (ct_X12_badge_r125d_300060 hD hQ  h J Sm D)
                ·
                  rw [if_neg (by omega)] at D
                  exact jX.sub jsb_n (ct_X12_badge_r125d_26 hD hQ  h J Sm D)
            ·
              rw [if_neg (by omega)] at D
              refine x_iconst (v := (-1)) rfl ki_m1 ?_
              refine x_iret rfl rfl ?_
              show jX m_X12_badge 12 0 0 11 [(0, .ref 125), (1, .int a1), (2, .int a2), (3, .int a3)] [.int (-1)] _ 0 0 _
              refine x_istore (lsx9 := [(4, .int (-1)), (0, .ref 125), (1, .int a1), (2, .int a2), (3, .int a3)]) rfl rfl rfl ?_
              refine x_iload (x := (-1)) rfl rfl ?_
              refine x_iconst (v := (-1)) rfl ki_m1 ?_
              refine x_iceq (tgt := 26) rfl rfl (ti_eq jk_m1 jk_m1 (br_t (by omega) ?_))
              exact jX.sub jsb_n (ct_X12_badge_r125d_26 hD hQ  h J Sm D)
      ·
        rw [if_pos (by omega)] at D
        refine x_iconst (v := 3) rfl ki_3 ?_
        refine x_goto (tgt := 18) rfl rfl ?_
        refine x_iret rfl rfl ?_
        show jX m_X12_isMention 10 0 0 27 [(0, .ref 125), (1, .int a1)] [.int 3, .int v10] _ 0 0 _
        refine x_icge (tgt := 34) rfl rfl (ti_ge rfl jk_3 (br_f (by omega) ?_))
        refine x_iconst (v := 1) rfl ki_1 ?_
        refine x_goto (tgt := 35) rfl rfl ?_
        refine x_zret rfl rfl (by decide) ?_
        show jX m_X12_soulAt 11 0 0 5 [(0, .ref 125), (1, .int a1), (2, .int a3)] [.int 1] _ 0 0 _
        refine x_ifeq (tgt := 15) rfl rfl (ti_eq jk_1 jk_0 (br_f (by omega) ?_))
        refine x_iloadn (x := a3) rfl rfl ?_
        refine x_inst (N := m_X12_isDay) (As := [.int a3]) (st := []) (dx9 := 2) (mc := 0) (ms := 0) (host := "") rfl t_X12_isDay ⟨Or.inl q_12_273, s_X12_isDay⟩ rfl (by decide) rfl rfl ⟨by decide, by decide⟩ (zc_X12_isDay (d := 1) rfl (fun v55 ev55 => ?_))
        show jX m_X12_soulAt 11 0 0 12 [(0, .ref 125), (1, .int a1), (2, .int a3)] [.int v55] _ 0 0 _
        refine x_ifne (tgt := 17) rfl rfl (ti_ne rfl jk_0 ⟨fun c56 => ?_, fun c56 => ?_⟩)
        ·
          rw [if_pos (by omega)] at D
          refine x_aloadn (x := 125) rfl rfl ?_
          refine x_iloadn (x := a3) rfl rfl ?_
          refine x_inv (N := m_X12_find) (As := [.int a3]) (b := 125) (st := []) (dx9 := 8) (mc := 0) (ms := 0) (host := "") 12 rfl t_X12_find ⟨Or.inl q_12_393, i_X12_find.1, i_X12_find.2⟩ ⟨by decide, rfl⟩ (congrArg Prod.fst (J.1.1 125 (12, 92) rfl)) rfl (by decide) rfl rfl ⟨by decide, by decide⟩ (sf_X12_find_r125d (jr_of rfl (by omega)) hD J rfl  (fun h J S57 X58 => ?_))
          have Sm := jSm_tr rfl Sm S57
          rw [X58] at D
          show jX m_X12_soulAt 11 0 0 22 [(0, .ref 125), (1, .int a1), (2, .int a3)] [] _ 0 0 _
          refine x_aloadn (x := 125) rfl rfl ?_
          refine z_getR (N := 92) (b := 139) 12 29 rfl f_12_72 rfl J rfl 16029 ⟨rfl, rfl⟩ rfl ?_
          refine x_iloadn (x := a1) rfl rfl ?_
          refine z_iald (N := 600) rfl J rfl sg_139_0_600_1_0_1 rfl (by omega) (fun v59 qv59 ev59 => ?_)
          try rw [vrd qv59 (show a1.toInt = a1.toInt from by omega)] at D
          refine x_iret rfl rfl ?_
          show jX m_X12_badge 12 0 0 11 [(0, .ref 125), (1, .int a1), (2, .int a2), (3, .int a3)] [.int v59] _ 0 0 _
          refine x_istore (lsx9 := [(4, .int v59), (0, .ref 125), (1, .int a1), (2, .int a2), (3, .int a3)]) rfl rfl rfl ?_
          refine x_iload (x := v59) rfl rfl ?_
          refine x_iconst (v := (-1)) rfl ki_m1 ?_
          refine x_iceq (tgt := 26) rfl rfl (ti_eq rfl jk_m1 ⟨fun c60 => ?_, fun c60 => ?_⟩)
          ·
            rw [if_pos (by omega)] at D
            exact jX.sub jsb_n (ct_X12_badge_r125d_26 hD hQ  h J Sm D)
          ·
            rw [if_neg (by omega)] at D
            refine x_iloadn (x := a2) rfl rfl ?_
            refine x_inst (N := m_X12_isDay) (As := [.int a2]) (st := []) (dx9 := 2) (mc := 0) (ms := 0) (host := "") rfl t_X12_isDay ⟨Or.inl q_12_273, s_X12_isDay⟩ rfl (by decide) rfl rfl ⟨by decide, by decide⟩ (zc_X12_isDay (d := 1) rfl (fun v61 ev61 => ?_))
            show jX m_X12_badge 12 0 0 23 [(4, .int v59), (0, .ref 125), (1, .int a1), (2, .int a2), (3, .int a3)] [.int v61] _ 0 0 _
            refine x_ifne (tgt := 28) rfl rfl (ti_ne rfl jk_0 ⟨fun c62 => ?_, fun c62 => ?_⟩)
            ·
              rw [if_pos (by omega)] at D
              refine x_aloadn (x := 125) rfl rfl ?_
              refine x_iconst (v := 5) rfl ki_5 ?_
              refine x_iconst (v := 0) rfl ki_0 ?_
              refine x_iload (x := v59) rfl rfl ?_
              refine x_iloadn (x := a2) rfl rfl ?_
              refine x_inv (N := m_X12_findCount) (As := [.int 5, .int 0, .int v59, .int a2]) (b := 125) (st := []) (dx9 := 11) (mc := 0) (ms := 0) (host := "") 12 rfl t_X12_findCount ⟨Or.inl q_12_765, i_X12_findCount.1, i_X12_findCount.2⟩ ⟨by decide, rfl⟩ (congrArg Prod.fst (J.1.1 125 (12, 92) rfl)) rfl (by decide) rfl rfl ⟨by decide, by decide⟩ (sf_X12_findCount_r125d (jr_of jk_5 (by omega)) (jr_of jk_0 (by omega)) (jr_of rfl (by omega)) (jr_of rfl (by omega)) hD J rfl  (fun h J S63 X64 => ?_))
              have Sm := jSm_tr rfl Sm S63
              try rw [jk_5] at X64
              try rw [jk_0] at X64
              rw [X64] at D
              show jX m_X12_badge 12 0 0 37 [(4, .int v59), (0, .ref 125), (1, .int a1), (2, .int a2), (3, .int a3)] [] _ 0 0 _
              refine x_aloadn (x := 125) rfl rfl ?_
              refine z_getI (N := 92) 12 65 rfl f_12_752 rfl J rfl sg_125_65_66_1_0_1 (fun v65 qv65 ev65 => ?_)
              try rw [vrf qv65] at D
              refine x_iconst (v := (-1)) rfl ki_m1 ?_
              refine x_iceq (tgt := 59) rfl rfl (ti_eq rfl jk_m1 ⟨fun c66 => ?_, fun c66 => ?_⟩)
              ·
                rw [if_pos (by omega)] at D
                exact jX.sub jsb_n (ct_X12_badge_r125d_59 hD hQ  h J Sm D)
              ·
                rw [if_neg (by omega)] at D
                refine x_aloadn (x := 125) rfl rfl ?_
                refine x_iload (x := v59) rfl rfl ?_
                refine x_iloadn (x := a2) rfl rfl ?_
                refine x_inv (N := m_X12_isPoor) (As := [.int v59, .int a2]) (b := 125) (st := []) (dx9 := 11) (mc := 0) (ms := 0) (host := "") 12 rfl t_X12_isPoor ⟨Or.inl q_12_716, i_X12_isPoor.1, i_X12_isPoor.2⟩ ⟨by decide, rfl⟩ (congrArg Prod.fst (J.1.1 125 (12, 92) rfl)) rfl (by decide) rfl rfl ⟨by decide, by decide⟩ (jC.of rfl k_X12_isPoor rfl ?_)
                show jX m_X12_isPoor 11 0 0 0 [(0, .ref 125), (1, .int v59), (2, .int a2)] [] _ 0 0 _
                refine x_aloadn (x := 125) rfl rfl ?_
                refine x_iloadn (x := v59) rfl rfl ?_
                refine x_iloadn (x := a2) rfl rfl ?_
                refine x_sipush (v := 365) rfl ks_365 ?_
                refine z_isub rfl rfl jk_365 (by omega) (fun v67 ev67 => ?_)
                refine x_iloadn (x := a2) rfl rfl ?_
                try rw [show (a2.toInt - 365) = v67.toInt from by omega] at D
                refine x_inv (N := m_X12_reliefOf) (As := [.int v59, .int v67, .int a2]) (b := 125) (st := []) (dx9 := 3) (mc := 0) (ms := 0) (host := "") 12 rfl t_X12_reliefOf ⟨Or.inl q_12_701, i_X12_reliefOf.1, i_X12_reliefOf.2⟩ ⟨by decide, rfl⟩ (congrArg Prod.fst (J.1.1 125 (12, 92) rfl)) rfl (by decide) rfl rfl ⟨by decide, by decide⟩ (sf_X12_reliefOf_r125d (jr_of rfl (by omega)) (jr_of rfl (by omega)) (jr_of rfl (by omega)) hD J rfl  (fun v71 h J S68 X69 X70 => ?_))
                have ev71 := jfull v71
                have Sm := jSm_tr rfl Sm S68
                try rw [X69] at D
                try rw [← X70] at D
                show jX m_X12_isPoor 11 0 0 11 [(0, .ref 125), (1, .int v59), (2, .int a2)] [.int v71] _ 0 0 _
                refine x_ifle (tgt := 18) rfl rfl (ti_le rfl jk_0 ⟨fun c72 => ?_, fun c72 => ?_⟩)
                ·
                  rw [if_pos (by omega)] at D
                  refine x_iconst (v := 0) rfl ki_0 ?_
                  refine x_zret rfl rfl (by decide) ?_
                  show jX m_X12_badge 12 0 0 52 [(4, .int v59), (0, .ref 125), (1, .int a1), (2, .int a2), (3, .int a3)] [.int 0] _ 0 0 _
                  refine x_ifeq (tgt := 59) rfl rfl (ti_eq jk_0 jk_0 (br_t (by omega) ?_))
                  exact jX.sub jsb_n (ct_X12_badge_r125d_59 hD hQ  h J Sm D)
                ·
                  rw [if_neg (by omega)] at D
                  refine x_iconst (v := 1) rfl ki_1 ?_
                  refine x_goto (tgt := 19) rfl rfl ?_
                  refine x_zret rfl rfl (by decide) ?_
                  show jX m_X12_badge 12 0 0 52 [(4, .int v59), (0, .ref 125), (1, .int a1), (2, .int a2), (3, .int a3)] [.int 1] _ 0 0 _
                  refine x_ifeq (tgt := 59) rfl rfl (ti_eq jk_1 jk_0 (br_f (by omega) ?_))
                  refine x_iconst (v := 1) rfl ki_1 ?_
                  refine x_goto (tgt := 60) rfl rfl ?_
                  exact jX.sub jsb_n (ct_X12_badge_r125d_300060 hD hQ  h J Sm D)
            ·
              rw [if_neg (by omega)] at D
              exact jX.sub jsb_n (ct_X12_badge_r125d_26 hD hQ  h J Sm D)
        ·
          rw [if_neg (by omega)] at D
          refine x_iconst (v := (-1)) rfl ki_m1 ?_
          refine x_iret rfl rfl ?_
          show jX m_X12_badge 12 0 0 11 [(0, .ref 125), (1, .int a1), (2, .int a2), (3, .int a3)] [.int (-1)] _ 0 0 _
          refine x_istore (lsx9 := [(4, .int (-1)), (0, .ref 125), (1, .int a1), (2, .int a2), (3, .int a3)]) rfl rfl rfl ?_
          refine x_iload (x := (-1)) rfl rfl ?_
          refine x_iconst (v := (-1)) rfl ki_m1 ?_
          refine x_iceq (tgt := 26) rfl rfl (ti_eq jk_m1 jk_m1 (br_t (by omega) ?_))
          exact jX.sub jsb_n (ct_X12_badge_r125d_26 hD hQ  h J Sm D)
def fp_X12_closedAt_r125d : jFp := []
set_option maxRecDepth 100000 in
set_option maxHeartbeats 4000000 in
theorem ct_X12_closedAt_r125d_57 {Dy : jH → Prop} {h0 : jH} {Q : Option Value → jH → Prop} {dr : Int} {K5 : Int → Int → Int → Int → jW → Int} {R5 : Int} {a2 : Int32} (yy_a2 : (-1) ≤ a2.toInt ∧ a2.toInt ≤ 400) (hD : jDk Dy) (hQ : ∀ (v : Int32) hx9, (-1) ≤ v.toInt ∧ v.toInt ≤ 49999 → (v.toInt = -1 ∨ (0 ≤ a2.toInt ∧ a2.toInt ≤ 399)) → jJ jSgM Dy hx9 → jSm fp_X12_closedAt_r125d h0 hx9 → dr = v.toInt → vw hx9 = vw h0 → Q (some (.int v)) hx9) (k5 : ∀ (l1 : Int32) (l3 : Int32) (l4 : Int32) (h : jH), 40 - l4.toInt < R5 → 0 ≤ l1.toInt ∧ l1.toInt ≤ 3 → (-1) ≤ l3.toInt ∧ l3.toInt ≤ 49999 → 0 ≤ l4.toInt ∧ l4.toInt ≤ 40 → (l3.toInt = -1 ∨ (0 ≤ a2.toInt ∧ a2.toInt ≤ 399)) → jJ jSgM Dy h → jSm fp_X12_closedAt_r125d h0 h → K5 l1.toInt a2.toInt l3.toInt l4.toInt (vw h) = dr → vw h = vw h0 → jX m_X12_closedAt 1 0 0 5 [(0, .ref 125), (1, .int l1), (2, .int a2), (3, .int l3), (4, .int l4)] [] h 0 0 Q) : ∀ (l1 : Int32) (l4 : Int32) (s0 : Int32) (h : jH), 0 ≤ l1.toInt ∧ l1.toInt ≤ 3 → 0 ≤ l4.toInt ∧ l4.toInt ≤ 39 → (-1) ≤ s0.toInt ∧ s0.toInt ≤ 49999 → (s0.toInt = -1 ∨ (0 ≤ a2.toInt ∧ a2.toInt ≤ 399)) → 40 - l4.toInt ≤ R5 → jJ jSgM Dy h → jSm fp_X12_closedAt_r125d h0 h → d_X12_closedAt_r125d_57 K5  l1.toInt a2.toInt l4.toInt s0.toInt (vw h) = dr → vw h = vw h0 → jX m_X12_closedAt 1 0 0 57 [(0, .ref 125), (1, .int l1), (2, .int a2), (4, .int l4)] [.int s0] h 0 0 Q := by
  intro l1 l4 s0 h y0 y1 y2 y3  m5 J Sm D EV
  unfold d_X12_closedAt_r125d_57 at D
  refine x_istoren (lsx9 := [(3, .int s0), (0, .ref 125), (1, .int l1), (2, .int a2), (4, .int l4)]) rfl rfl rfl ?_
  refine z_iinc (x := l4) (lsx9 := fun v1 => [(4, .int v1), (3, .int s0), (0, .ref 125), (1, .int l1), (2, .int a2)]) rfl rfl rfl jko_1 (by omega) rfl (fun _ => rfl) (fun v1 ev1 => ?_)
  refine x_goto (tgt := 5) rfl rfl ?_
  try rw [show (l4.toInt + 1) = v1.toInt from by omega] at D
  exact jX.sub (jsb_c rfl (jsb_c rfl (jsb_c rfl (jsb_c rfl (jsb_c rfl jsb_n))))) (k5 l1 s0 v1 h (by omega) (jr_of rfl (by omega)) (jr_of rfl (by omega)) (jr_of rfl (by omega)) (by omega) J Sm D EV)
set_option maxRecDepth 100000 in
set_option maxHeartbeats 4000000 in
theorem ct_X12_closedAt_r125d_56 {Dy : jH → Prop} {h0 : jH} {Q : Option Value → jH → Prop} {dr : Int} {K5 : Int → Int → Int → Int → jW → Int} {R5 : Int} {a2 : Int32} (yy_a2 : (-1) ≤ a2.toInt ∧ a2.toInt ≤ 400) (hD : jDk Dy) (hQ : ∀ (v : Int32) hx9, (-1) ≤ v.toInt ∧ v.toInt ≤ 49999 → (v.toInt = -1 ∨ (0 ≤ a2.toInt ∧ a2.toInt ≤ 399)) → jJ jSgM Dy hx9 → jSm fp_X12_closedAt_r125d h0 hx9 → dr = v.toInt → vw hx9 = vw h0 → Q (some (.int v)) hx9) (k5 : ∀ (l1 : Int32) (l3 : Int32) (l4 : Int32) (h : jH), 40 - l4.toInt < R5 → 0 ≤ l1.toInt ∧ l1.toInt ≤ 3 → (-1) ≤ l3.toInt ∧ l3.toInt ≤ 49999 → 0 ≤ l4.toInt ∧ l4.toInt ≤ 40 → (l3.toInt = -1 ∨ (0 ≤ a2.toInt ∧ a2.toInt ≤ 399)) → jJ jSgM Dy h → jSm fp_X12_closedAt_r125d h0 h → K5 l1.toInt a2.toInt l3.toInt l4.toInt (vw h) = dr → vw h = vw h0 → jX m_X12_closedAt 1 0 0 5 [(0, .ref 125), (1, .int l1), (2, .int a2), (3, .int l3), (4, .int l4)] [] h 0 0 Q) : ∀ (l1 : Int32) (l3 : Int32) (l4 : Int32) (h : jH), 0 ≤ l1.toInt ∧ l1.toInt ≤ 3 → (-1) ≤ l3.toInt ∧ l3.toInt ≤ 49999 → 0 ≤ l4.toInt ∧ l4.toInt ≤ 39 → (l3.toInt = -1 ∨ (0 ≤ a2.toInt ∧ a2.toInt ≤ 399)) → 40 - l4.toInt ≤ R5 → jJ jSgM Dy h → jSm fp_X12_closedAt_r125d h0 h → d_X12_closedAt_r125d_56 K5  l1.toInt a2.toInt l3.toInt l4.toInt (vw h) = dr → vw h = vw h0 → jX m_X12_closedAt 1 0 0 56 [(0, .ref 125), (1, .int l1), (2, .int a2), (3, .int l3), (4, .int l4)] [] h 0 0 Q := by
  intro l1 l3 l4 h y0 y1 y2 y3  m5 J Sm D EV
  unfold d_X12_closedAt_r125d_56 at D
  refine x_iloadn (x := l3) rfl rfl ?_
  exact jX.sub (jsb_c rfl (jsb_c rfl (jsb_c rfl (jsb_c rfl jsb_n)))) (ct_X12_closedAt_r125d_57 yy_a2 hD hQ k5 l1 l4 l3 h (jr_of rfl (by omega)) (jr_of rfl (by omega)) (jr_of rfl (by omega)) (by omega) (by omega) J Sm D EV)
set_option maxRecDepth 100000 in
set_option maxHeartbeats 4000000 in
theorem ct_X12_closedAt_r125d_5 {Dy : jH → Prop} {h0 : jH} {Q : Option Value → jH → Prop} {dr : Int} {a2 : Int32} (yy_a2 : (-1) ≤ a2.toInt ∧ a2.toInt ≤ 400) (hD : jDk Dy) (hQ : ∀ (v : Int32) hx9, (-1) ≤ v.toInt ∧ v.toInt ≤ 49999 → (v.toInt = -1 ∨ (0 ≤ a2.toInt ∧ a2.toInt ≤ 399)) → jJ jSgM Dy hx9 → jSm fp_X12_closedAt_r125d h0 hx9 → dr = v.toInt → vw hx9 = vw h0 → Q (some (.int v)) hx9) : ∀ r : Nat, ∀ (l1 : Int32) (l3 : Int32) (l4 : Int32) (h : jH), 40 - l4.toInt < (r : Int) → 0 ≤ l1.toInt ∧ l1.toInt ≤ 3 → (-1) ≤ l3.toInt ∧ l3.toInt ≤ 49999 → 0 ≤ l4.toInt ∧ l4.toInt ≤ 40 → (l3.toInt = -1 ∨ (0 ≤ a2.toInt ∧ a2.toInt ≤ 399)) → jJ jSgM Dy h → jSm fp_X12_closedAt_r125d h0 h → d_X12_closedAt_r125d_5 r l1.toInt a2.toInt l3.toInt l4.toInt (vw h) = dr → vw h = vw h0 → jX m_X12_closedAt 1 0 0 5 [(0, .ref 125), (1, .int l1), (2, .int a2), (3, .int l3), (4, .int l4)] [] h 0 0 Q := by
  intro r
  induction r with
  | zero =>
    intro l1 l3 l4 h hm y0 y1 y2 y3   J Sm D EV
    exfalso
    omega
  | succ r ih =>
    intro l1 l3 l4 h hm y0 y1 y2 y3   J Sm D EV
    rw [d_X12_closedAt_r125d_5.eq_2] at D
    refine x_iload (x := l4) rfl rfl ?_
    refine x_aloadn (x := 125) rfl rfl ?_
    refine z_getR (N := 92) (b := 126) 12 2 rfl f_12_8 rfl J rfl 16002 ⟨rfl, rfl⟩ rfl ?_
    refine x_bipush (v := 14) rfl kb_14 ?_
    refine z_iald (N := 50660) rfl J rfl sg_126_14_15_1_0_1 jk_14 (by omega) (fun v1 qv1 ev1 => ?_)
    try rw [vrn (n := 14) (by decide) qv1] at D
    refine x_icge (tgt := 64) rfl rfl (ti_ge rfl rfl ⟨fun c2 => ?_, fun c2 => ?_⟩)
    ·
      rw [if_pos (by omega)] at D
      refine x_iloadn (x := l3) rfl rfl ?_
      refine x_iret rfl rfl ?_
      exact hQ _ _ (jr_of rfl (by omega)) (by omega) J Sm (D.symm.trans (show l3.toInt = l3.toInt from by omega)) EV
    ·
      rw [if_neg (by omega)] at D
      refine x_ldcw (v := 49360) rfl z_12_844 ?_
      refine x_iconst (v := 4) rfl ki_4 ?_
      refine x_iload (x := l4) rfl rfl ?_
      refine z_imul rfl jk_4 rfl (by omega) (fun v3 ev3 => ?_)
      refine z_iadd rfl jk_49360 rfl (by omega) (fun v4 ev4 => ?_)
      refine x_istore (lsx9 := [(5, .int v4), (0, .ref 125), (1, .int l1), (2, .int a2), (3, .int l3), (4, .int l4)]) rfl rfl rfl ?_
      refine x_aloadn (x := 125) rfl rfl ?_
      refine z_getR (N := 92) (b := 126) 12 2 rfl f_12_8 rfl J rfl 16002 ⟨rfl, rfl⟩ rfl ?_
      refine x_iload (x := v4) rfl rfl ?_
      refine z_iald (N := 50660) rfl J rfl sg_126_49360_49520_4_0_1 rfl (by omega) (fun v5 qv5 ev5 => ?_)
      try rw [vrd qv5 (show (49360 + (4 * l4.toInt)) = v4.toInt from by omega)] at D
      refine x_iloadn (x := l1) rfl rfl ?_
      refine x_icne (tgt := 56) rfl rfl (ti_ne rfl rfl ⟨fun c6 => ?_, fun c6 => ?_⟩)
      ·
        rw [if_neg (by omega)] at D
        exact jX.sub (jsb_c rfl (jsb_c rfl (jsb_c rfl (jsb_c rfl (jsb_c rfl jsb_n))))) (ct_X12_closedAt_r125d_56 yy_a2 hD hQ ih l1 l3 l4 h (jr_of rfl (by omega)) (jr_of rfl (by omega)) (jr_of rfl (by omega)) (by omega) (by omega) J Sm D EV)
      ·
        rw [if_pos (by omega)] at D
        refine x_aloadn (x := 125) rfl rfl ?_
        refine z_getR (N := 92) (b := 126) 12 2 rfl f_12_8 rfl J rfl 16002 ⟨rfl, rfl⟩ rfl ?_
        refine x_iload (x := v4) rfl rfl ?_
        refine x_iconst (v := 1) rfl ki_1 ?_
        refine z_iadd rfl rfl jk_1 (by omega) (fun v7 ev7 => ?_)
        refine z_iald (N := 50660) rfl J rfl sg_126_49360_49520_4_1_2 rfl (by omega) (fun v8 qv8 ev8 => ?_)
        try rw [vrd qv8 (show ((49360 + (4 * l4.toInt)) + 1) = v7.toInt from by omega)] at D
        refine x_iloadn (x := a2) rfl rfl ?_
        refine x_icne (tgt := 56) rfl rfl (ti_ne rfl rfl ⟨fun c9 => ?_, fun c9 => ?_⟩)
        ·
          rw [if_neg (by omega)] at D
          exact jX.sub (jsb_c rfl (jsb_c rfl (jsb_c rfl (jsb_c rfl (jsb_c rfl jsb_n))))) (ct_X12_closedAt_r125d_56 yy_a2 hD hQ ih l1 l3 l4 h (jr_of rfl (by omega)) (jr_of rfl (by omega)) (jr_of rfl (by omega)) (by omega) (by omega) J Sm D EV)
        ·
          rw [if_pos (by omega)] at D
          refine x_iload (x := v4) rfl rfl ?_
          refine x_goto (tgt := 57) rfl rfl ?_
          try rw [show (49360 + (4 * l4.toInt)) = v4.toInt from by omega] at D
          exact jX.sub (jsb_c rfl (jsb_c rfl (jsb_c rfl (jsb_c rfl jsb_n)))) (ct_X12_closedAt_r125d_57 yy_a2 hD hQ ih l1 l4 v4 h (jr_of rfl (by omega)) (jr_of rfl (by omega)) (jr_of rfl (by omega)) (by omega) (by omega) J Sm D EV)
set_option maxRecDepth 100000 in
set_option maxHeartbeats 4000000 in
theorem sf_X12_closedAt_r125d {Dy : jH → Prop} {h : jH} {Q : Option Value → jH → Prop} {dr : Int} {a1 : Int32} {a2 : Int32} (y1 : 0 ≤ a1.toInt ∧ a1.toInt ≤ 3) (y2 : (-1) ≤ a2.toInt ∧ a2.toInt ≤ 400) (hD : jDk Dy) (J : jJ jSgM Dy h) (D : d_X12_closedAt_r125d a1.toInt a2.toInt (vw h) = dr) (hQ : ∀ (v : Int32) hx9, (-1) ≤ v.toInt ∧ v.toInt ≤ 49999 → (v.toInt = -1 ∨ (0 ≤ a2.toInt ∧ a2.toInt ≤ 399)) → jJ jSgM Dy hx9 → jSm fp_X12_closedAt_r125d h hx9 → dr = v.toInt → vw hx9 = vw h → Q (some (.int v)) hx9) : jC m_X12_closedAt 1 0 0 [.ref 125, .int a1, .int a2] h Q := by
  refine jC.of rfl k_X12_closedAt rfl ?_
  have Sm := jSm_rf fp_X12_closedAt_r125d h
  have yy_a2 := y2
  show jX m_X12_closedAt 1 0 0 0 [(0, .ref 125), (1, .int a1), (2, .int a2)] [] _ 0 0 _
  unfold d_X12_closedAt_r125d at D
  have EV : vw h = vw h := rfl
  refine x_iconst (v := (-1)) rfl ki_m1 ?_
  refine x_istoren (lsx9 := [(3, .int (-1)), (0, .ref 125), (1, .int a1), (2, .int a2)]) rfl rfl rfl ?_
  refine x_iconst (v := 0) rfl ki_0 ?_
  refine x_istore (lsx9 := [(4, .int 0), (3, .int (-1)), (0, .ref 125), (1, .int a1), (2, .int a2)]) rfl rfl rfl ?_
  exact jX.sub (jsb_c rfl (jsb_c rfl (jsb_c rfl (jsb_c rfl (jsb_c rfl jsb_n))))) (ct_X12_closedAt_r125d_5 yy_a2 hD hQ  41 a1 (-1) 0 h (by have := jk_0; omega) (jr_of rfl (by omega)) (jr_of jk_m1 (by omega)) (jr_of jk_0 (by omega)) (by have := jk_m1; omega) J Sm (by rw [jk_m1, jk_0]; exact D) EV)
def fp_X12_balanceOf_r125d : jFp := []
set_option maxRecDepth 100000 in
set_option maxHeartbeats 4000000 in
theorem ct_X12_balanceOf_r125d_171 {Dy : jH → Prop} {h0 : jH} {Q : Option Value → jH → Prop} {dr : Int} {K47 : Int → Int → Int → Int → Int → jW → Int} {R47 : Int} (hD : jDk Dy) (hQ : ∀ (v : Int32) hx9, jJ jSgM Dy hx9 → jSm fp_X12_balanceOf_r125d h0 hx9 → dr = v.toInt → vw hx9 = vw h0 → Q (some (.int v)) hx9) (k47 : ∀ (l1 : Int32) (l2 : Int32) (l3 : Int32) (l5 : Int32) (l6 : Int32) (h : jH), 100 - l6.toInt < R47 → 0 ≤ l1.toInt ∧ l1.toInt ≤ 3 → 0 ≤ l2.toInt ∧ l2.toInt ≤ 399 → 0 ≤ l3.toInt ∧ l3.toInt ≤ 146399 → 0 ≤ l6.toInt ∧ l6.toInt ≤ 100 → jJ jSgM Dy h → jSm fp_X12_balanceOf_r125d h0 h → K47 l1.toInt l2.toInt l3.toInt l5.toInt l6.toInt (vw h) = dr → vw h = vw h0 → jX m_X12_balanceOf 2 0 0 47 [(0, .ref 125), (1, .int l1), (2, .int l2), (3, .int l3), (5, .int l5), (6, .int l6)] [] h 0 0 Q) : ∀ (l1 : Int32) (l2 : Int32) (l3 : Int32) (l5 : Int32) (l6 : Int32) (h : jH), 0 ≤ l1.toInt ∧ l1.toInt ≤ 3 → 0 ≤ l2.toInt ∧ l2.toInt ≤ 399 → 0 ≤ l3.toInt ∧ l3.toInt ≤ 146399 → 0 ≤ l6.toInt ∧ l6.toInt ≤ 99 → 100 - l6.toInt ≤ R47 → jJ jSgM Dy h → jSm fp_X12_balanceOf_r125d h0 h → d_X12_balanceOf_r125d_171 K47  l1.toInt l2.toInt l3.toInt l5.toInt l6.toInt (vw h) = dr → vw h = vw h0 → jX m_X12_balanceOf 2 0 0 171 [(0, .ref 125), (1, .int l1), (2, .int l2), (3, .int l3), (5, .int l5), (6, .int l6)] [] h 0 0 Q := by
  intro l1 l2 l3 l5 l6 h y0 y1 y2 y3  m47 J Sm D EV
  have el5 := jfull l5
  unfold d_X12_balanceOf_r125d_171 at D
  refine z_iinc (x := l6) (lsx9 := fun v1 => [(6, .int v1), (0, .ref 125), (1, .int l1), (2, .int l2), (3, .int l3), (5, .int l5)]) rfl rfl rfl jko_1 (by omega) rfl (fun _ => rfl) (fun v1 ev1 => ?_)
  refine x_goto (tgt := 47) rfl rfl ?_
  try rw [show (l6.toInt + 1) = v1.toInt from by omega] at D
  exact jX.sub (jsb_c rfl (jsb_c rfl (jsb_c rfl (jsb_c rfl (jsb_c rfl (jsb_c rfl jsb_n)))))) (k47 l1 l2 l3 l5 v1 h (by omega) (jr_of rfl (by omega)) (jr_of rfl (by omega)) (jr_of rfl (by omega)) (jr_of rfl (by omega)) J Sm D EV)
set_option maxRecDepth 100000 in
set_option maxHeartbeats 4000000 in
theorem ct_X12_balanceOf_r125d_200168 {Dy : jH → Prop} {h0 : jH} {Q : Option Value → jH → Prop} {dr : Int} {K47 : Int → Int → Int → Int → Int → jW → Int} {R47 : Int} (hD : jDk Dy) (hQ : ∀ (v : Int32) hx9, jJ jSgM Dy hx9 → jSm fp_X12_balanceOf_r125d h0 hx9 → dr = v.toInt → vw hx9 = vw h0 → Q (some (.int v)) hx9) (k47 : ∀ (l1 : Int32) (l2 : Int32) (l3 : Int32) (l5 : Int32) (l6 : Int32) (h : jH), 100 - l6.toInt < R47 → 0 ≤ l1.toInt ∧ l1.toInt ≤ 3 → 0 ≤ l2.toInt ∧ l2.toInt ≤ 399 → 0 ≤ l3.toInt ∧ l3.toInt ≤ 146399 → 0 ≤ l6.toInt ∧ l6.toInt ≤ 100 → jJ jSgM Dy h → jSm fp_X12_balanceOf_r125d h0 h → K47 l1.toInt l2.toInt l3.toInt l5.toInt l6.toInt (vw h) = dr → vw h = vw h0 → jX m_X12_balanceOf 2 0 0 47 [(0, .ref 125), (1, .int l1), (2, .int l2), (3, .int l3), (5, .int l5), (6, .int l6)] [] h 0 0 Q) : ∀ (l1 : Int32) (l2 : Int32) (l3 : Int32) (l6 : Int32) (s1 : Int32) (h : jH), 0 ≤ l1.toInt ∧ l1.toInt ≤ 3 → 0 ≤ l2.toInt ∧ l2.toInt ≤ 399 → 0 ≤ l3.toInt ∧ l3.toInt ≤ 146399 → 0 ≤ l6.toInt ∧ l6.toInt ≤ 99 → 100 - l6.toInt ≤ R47 → jJ jSgM Dy h → jSm fp_X12_balanceOf_r125d h0 h → d_X12_balanceOf_r125d_200168 K47  l1.toInt l2.toInt l3.toInt l6.toInt s1.toInt (vw h) = dr → vw h = vw h0 → jX m_X12_balanceOf 2 0 0 168 [(0, .ref 125), (1, .int l1), (2, .int l2), (3, .int l3), (6, .int l6)] [.int 0, .int s1] h 0 0 Q := by
  intro l1 l2 l3 l6 s1 h y0 y1 y2 y3  m47 J Sm D EV
  have es1 := jfull s1
  unfold d_X12_balanceOf_r125d_200168 at D
  refine z_iadd rfl rfl jk_0 (by omega) (fun v1 ev1 => ?_)
  refine x_istore (lsx9 := [(5, .int v1), (0, .ref 125), (1, .int l1), (2, .int l2), (3, .int l3), (6, .int l6)]) rfl rfl rfl ?_
  try rw [show (s1.toInt + 0) = v1.toInt from by omega] at D
  exact jX.sub (jsb_c rfl (jsb_c rfl (jsb_c rfl (jsb_c rfl (jsb_c rfl (jsb_c rfl jsb_n)))))) (ct_X12_balanceOf_r125d_171 hD hQ k47 l1 l2 l3 v1 l6 h (jr_of rfl (by omega)) (jr_of rfl (by omega)) (jr_of rfl (by omega)) (jr_of rfl (by omega)) (by omega) J Sm D EV)
set_option maxRecDepth 100000 in
set_option maxHeartbeats 4000000 in
theorem ct_X12_balanceOf_r125d_168 {Dy : jH → Prop} {h0 : jH} {Q : Option Value → jH → Prop} {dr : Int} {K47 : Int → Int → Int → Int → Int → jW → Int} {R47 : Int} (hD : jDk Dy) (hQ : ∀ (v : Int32) hx9, jJ jSgM Dy hx9 → jSm fp_X12_balanceOf_r125d h0 hx9 → dr = v.toInt → vw hx9 = vw h0 → Q (some (.int v)) hx9) (k47 : ∀ (l1 : Int32) (l2 : Int32) (l3 : Int32) (l5 : Int32) (l6 : Int32) (h : jH), 100 - l6.toInt < R47 → 0 ≤ l1.toInt ∧ l1.toInt ≤ 3 → 0 ≤ l2.toInt ∧ l2.toInt ≤ 399 → 0 ≤ l3.toInt ∧ l3.toInt ≤ 146399 → 0 ≤ l6.toInt ∧ l6.toInt ≤ 100 → jJ jSgM Dy h → jSm fp_X12_balanceOf_r125d h0 h → K47 l1.toInt l2.toInt l3.toInt l5.toInt l6.toInt (vw h) = dr → vw h = vw h0 → jX m_X12_balanceOf 2 0 0 47 [(0, .ref 125), (1, .int l1), (2, .int l2), (3, .int l3), (5, .int l5), (6, .int l6)] [] h 0 0 Q) : ∀ (l1 : Int32) (l2 : Int32) (l3 : Int32) (l6 : Int32) (s0 : Int32) (s1 : Int32) (h : jH), 0 ≤ l1.toInt ∧ l1.toInt ≤ 3 → 0 ≤ l2.toInt ∧ l2.toInt ≤ 399 → 0 ≤ l3.toInt ∧ l3.toInt ≤ 146399 → 0 ≤ l6.toInt ∧ l6.toInt ≤ 99 → (-1000000) ≤ s0.toInt ∧ s0.toInt ≤ 1000000 → 100 - l6.toInt ≤ R47 → jJ jSgM Dy h → jSm fp_X12_balanceOf_r125d h0 h → d_X12_balanceOf_r125d_168 K47  l1.toInt l2.toInt l3.toInt l6.toInt s0.toInt s1.toInt (vw h) = dr → vw h = vw h0 → jX m_X12_balanceOf 2 0 0 168 [(0, .ref 125), (1, .int l1), (2, .int l2), (3, .int l3), (6, .int l6)] [.int s0, .int s1] h 0 0 Q := by
  intro l1 l2 l3 l6 s0 s1 h y0 y1 y2 y3 y4  m47 J Sm D EV
  have es1 := jfull s1
  unfold d_X12_balanceOf_r125d_168 at D
  refine z_iaddW rfl rfl rfl (fun v1 ev1 => ?_)
  have fv1 := jfull v1
  try rw [← ev1] at D
  refine x_istore (lsx9 := [(5, .int v1), (0, .ref 125), (1, .int l1), (2, .int l2), (3, .int l3), (6, .int l6)]) rfl rfl rfl ?_
  exact jX.sub (jsb_c rfl (jsb_c rfl (jsb_c rfl (jsb_c rfl (jsb_c rfl (jsb_c rfl jsb_n)))))) (ct_X12_balanceOf_r125d_171 hD hQ k47 l1 l2 l3 v1 l6 h (jr_of rfl (by omega)) (jr_of rfl (by omega)) (jr_of rfl (by omega)) (jr_of rfl (by omega)) (by omega) J Sm D EV)
set_option maxRecDepth 100000 in
set_option maxHeartbeats 4000000 in
theorem ct_X12_balanceOf_r125d_147 {Dy : jH → Prop} {h0 : jH} {Q : Option Value → jH → Prop} {dr : Int} {K47 : Int → Int → Int → Int → Int → jW → Int} {R47 : Int} (hD : jDk Dy) (hQ : ∀ (v : Int32) hx9, jJ jSgM Dy hx9 → jSm fp_X12_balanceOf_r125d h0 hx9 → dr = v.toInt → vw hx9 = vw h0 → Q (some (.int v)) hx9) (k47 : ∀ (l1 : Int32) (l2 : Int32) (l3 : Int32) (l5 : Int32) (l6 : Int32) (h : jH), 100 - l6.toInt < R47 → 0 ≤ l1.toInt ∧ l1.toInt ≤ 3 → 0 ≤ l2.toInt ∧ l2.toInt ≤ 399 → 0 ≤ l3.toInt ∧ l3.toInt ≤ 146399 → 0 ≤ l6.toInt ∧ l6.toInt ≤ 100 → jJ jSgM Dy h → jSm fp_X12_balanceOf_r125d h0 h → K47 l1.toInt l2.toInt l3.toInt l5.toInt l6.toInt (vw h) = dr → vw h = vw h0 → jX m_X12_balanceOf 2 0 0 47 [(0, .ref 125), (1, .int l1), (2, .int l2), (3, .int l3), (5, .int l5), (6, .int l6)] [] h 0 0 Q) : ∀ (l1 : Int32) (l2 : Int32) (l3 : Int32) (l5 : Int32) (l6 : Int32) (l7 : Int32) (l8 : Int32) (h : jH), 0 ≤ l1.toInt ∧ l1.toInt ≤ 3 → 0 ≤ l2.toInt ∧ l2.toInt ≤ 399 → 0 ≤ l3.toInt ∧ l3.toInt ≤ 146399 → 0 ≤ l6.toInt ∧ l6.toInt ≤ 99 → 48960 ≤ l7.toInt ∧ l7.toInt ≤ 49356 → l7.toInt % 4 = 0 → 0 ≤ l8.toInt ∧ l8.toInt ≤ 400 → 100 - l6.toInt ≤ R47 → jJ jSgM Dy h → jSm fp_X12_balanceOf_r125d h0 h → d_X12_balanceOf_r125d_147 K47  l1.toInt l2.toInt l3.toInt l5.toInt l6.toInt l7.toInt l8.toInt (vw h) = dr → vw h = vw h0 → jX m_X12_balanceOf 2 0 0 147 [(0, .ref 125), (1, .int l1), (2, .int l2), (3, .int l3), (5, .int l5), (6, .int l6), (7, .int l7), (8, .int l8)] [] h 0 0 Q := by
  intro l1 l2 l3 l5 l6 l7 l8 h y0 y1 y2 y3 y4 y5 y6  m47 J Sm D EV
  have el5 := jfull l5
  unfold d_X12_balanceOf_r125d_147 at D
  refine x_iload (x := l5) rfl rfl ?_
  refine x_iload (x := l8) rfl rfl ?_
  refine x_iloadn (x := l2) rfl rfl ?_
  refine x_icne (tgt := 167) rfl rfl (ti_ne rfl rfl ⟨fun c1 => ?_, fun c1 => ?_⟩)
  ·
    rw [if_neg (by omega)] at D
    refine x_iconst (v := 0) rfl ki_0 ?_
    exact jX.sub (jsb_c rfl (jsb_c rfl (jsb_c rfl (jsb_c rfl (jsb_c rfl jsb_n))))) (ct_X12_balanceOf_r125d_200168 hD hQ k47 l1 l2 l3 l6 l5 h (jr_of rfl (by omega)) (jr_of rfl (by omega)) (jr_of rfl (by omega)) (jr_of rfl (by omega)) (by omega) J Sm D EV)
  ·
    rw [if_pos (by omega)] at D
    refine x_aloadn (x := 125) rfl rfl ?_
    refine z_getR (N := 92) (b := 126) 12 2 rfl f_12_8 rfl J rfl 16002 ⟨rfl, rfl⟩ rfl ?_
    refine x_iload (x := l7) rfl rfl ?_
    refine x_iconst (v := 2) rfl ki_2 ?_
    refine z_iadd rfl rfl jk_2 (by omega) (fun v2 ev2 => ?_)
    refine z_iald (N := 50660) rfl J rfl sg_126_48960_49360_4_2_3 rfl (by omega) (fun v3 qv3 ev3 => ?_)
    try rw [vrd qv3 (show (l7.toInt + 2) = v2.toInt from by omega)] at D
    refine x_goto (tgt := 168) rfl rfl ?_
    exact jX.sub (jsb_c rfl (jsb_c rfl (jsb_c rfl (jsb_c rfl (jsb_c rfl jsb_n))))) (ct_X12_balanceOf_r125d_168 hD hQ k47 l1 l2 l3 l6 v3 l5 h (jr_of rfl (by omega)) (jr_of rfl (by omega)) (jr_of rfl (by omega)) (jr_of rfl (by omega)) (jr_of rfl (by omega)) (by omega) J Sm D EV)
set_option maxRecDepth 100000 in
set_option maxHeartbeats 4000000 in
theorem ct_X12_balanceOf_r125d_104 {Dy : jH → Prop} {h0 : jH} {Q : Option Value → jH → Prop} {dr : Int} {K47 : Int → Int → Int → Int → Int → jW → Int} {R47 : Int} (hD : jDk Dy) (hQ : ∀ (v : Int32) hx9, jJ jSgM Dy hx9 → jSm fp_X12_balanceOf_r125d h0 hx9 → dr = v.toInt → vw hx9 = vw h0 → Q (some (.int v)) hx9) (k47 : ∀ (l1 : Int32) (l2 : Int32) (l3 : Int32) (l5 : Int32) (l6 : Int32) (h : jH), 100 - l6.toInt < R47 → 0 ≤ l1.toInt ∧ l1.toInt ≤ 3 → 0 ≤ l2.toInt ∧ l2.toInt ≤ 399 → 0 ≤ l3.toInt ∧ l3.toInt ≤ 146399 → 0 ≤ l6.toInt ∧ l6.toInt ≤ 100 → jJ jSgM Dy h → jSm fp_X12_balanceOf_r125d h0 h → K47 l1.toInt l2.toInt l3.toInt l5.toInt l6.toInt (vw h) = dr → vw h = vw h0 → jX m_X12_balanceOf 2 0 0 47 [(0, .ref 125), (1, .int l1), (2, .int l2), (3, .int l3), (5, .int l5), (6, .int l6)] [] h 0 0 Q) : ∀ r : Nat, ∀ (l1 : Int32) (l2 : Int32) (l3 : Int32) (l5 : Int32) (l6 : Int32) (l7 : Int32) (l8 : Int32) (h : jH), 400 - l8.toInt < (r : Int) → 0 ≤ l1.toInt ∧ l1.toInt ≤ 3 → 0 ≤ l2.toInt ∧ l2.toInt ≤ 399 → 0 ≤ l3.toInt ∧ l3.toInt ≤ 146399 → 0 ≤ l6.toInt ∧ l6.toInt ≤ 99 → 48960 ≤ l7.toInt ∧ l7.toInt ≤ 49356 → l7.toInt % 4 = 0 → 0 ≤ l8.toInt ∧ l8.toInt ≤ 400 → 100 - l6.toInt ≤ R47 → jJ jSgM Dy h → jSm fp_X12_balanceOf_r125d h0 h → d_X12_balanceOf_r125d_104 K47 r l1.toInt l2.toInt l3.toInt l5.toInt l6.toInt l7.toInt l8.toInt (vw h) = dr → vw h = vw h0 → jX m_X12_balanceOf 2 0 0 104 [(0, .ref 125), (1, .int l1), (2, .int l2), (3, .int l3), (5, .int l5), (6, .int l6), (7, .int l7), (8, .int l8)] [] h 0 0 Q := by
  intro r
  induction r with
  | zero =>
    intro l1 l2 l3 l5 l6 l7 l8 h hm y0 y1 y2 y3 y4 y5 y6  m47 J Sm D EV
    exfalso
    have el5 := jfull l5
    omega
  | succ r ih =>
    intro l1 l2 l3 l5 l6 l7 l8 h hm y0 y1 y2 y3 y4 y5 y6  m47 J Sm D EV
    have el5 := jfull l5
    rw [d_X12_balanceOf_r125d_104.eq_2] at D
    refine x_aloadn (x := 125) rfl rfl ?_
    refine x_iloadn (x := l1) rfl rfl ?_
    refine x_iload (x := l8) rfl rfl ?_
    refine x_inv (N := m_X12_closedAt) (As := [.int l1, .int l8]) (b := 125) (st := []) (dx9 := 1) (mc := 0) (ms := 0) (host := "") 12 rfl t_X12_closedAt ⟨Or.inl q_12_845, i_X12_closedAt.1, i_X12_closedAt.2⟩ ⟨by decide, rfl⟩ (congrArg Prod.fst (J.1.1 125 (12, 92) rfl)) rfl (by decide) rfl rfl ⟨by decide, by decide⟩ (sf_X12_closedAt_r125d (jr_of rfl (by omega)) (jr_of rfl (by omega)) hD J rfl  (fun v4 h ev4 xv4 J S1 X2 X3 => ?_))
    have Sm := jSm_tr rfl Sm S1
    try rw [X2] at D
    try rw [← X3] at D
    have EV := X3.trans EV
    show jX m_X12_balanceOf 2 0 0 111 [(0, .ref 125), (1, .int l1), (2, .int l2), (3, .int l3), (5, .int l5), (6, .int l6), (7, .int l7), (8, .int l8)] [.int v4] _ 0 0 _
    refine x_iconst (v := (-1)) rfl ki_m1 ?_
    refine x_iceq (tgt := 147) rfl rfl (ti_eq rfl jk_m1 ⟨fun c5 => ?_, fun c5 => ?_⟩)
    ·
      rw [if_pos (by omega)] at D
      exact jX.sub (jsb_c rfl (jsb_c rfl (jsb_c rfl (jsb_c rfl (jsb_c rfl (jsb_c rfl (jsb_c rfl (jsb_c rfl jsb_n)))))))) (ct_X12_balanceOf_r125d_147 hD hQ k47 l1 l2 l3 l5 l6 l7 l8 h (jr_of rfl (by omega)) (jr_of rfl (by omega)) (jr_of rfl (by omega)) (jr_of rfl (by omega)) (jr_of rfl (by omega)) (jr_mod rfl (by omega)) (jr_of rfl (by omega)) (by omega) J Sm D EV)
    ·
      rw [if_neg (by omega)] at D
      refine x_aloadn (x := 125) rfl rfl ?_
      refine z_getR (N := 92) (b := 126) 12 2 rfl f_12_8 rfl J rfl 16002 ⟨rfl, rfl⟩ rfl ?_
      refine x_aloadn (x := 125) rfl rfl ?_
      refine x_iloadn (x := l1) rfl rfl ?_
      refine x_iload (x := l8) rfl rfl ?_
      refine x_inv (N := m_X12_closedAt) (As := [.int l1, .int l8]) (b := 125) (st := [.ref 126]) (dx9 := 1) (mc := 0) (ms := 0) (host := "") 12 rfl t_X12_closedAt ⟨Or.inl q_12_845, i_X12_closedAt.1, i_X12_closedAt.2⟩ ⟨by decide, rfl⟩ (congrArg Prod.fst (J.1.1 125 (12, 92) rfl)) rfl (by decide) rfl rfl ⟨by decide, by decide⟩ (sf_X12_closedAt_r125d (jr_of rfl (by omega)) (jr_of rfl (by omega)) hD J rfl  (fun v9 h ev9 xv9 J S6 X7 X8 => ?_))
      have Sm := jSm_tr rfl Sm S6
      have Lkv9 : v4.toInt = v9.toInt := by (have Z := X2; try rw [← X3] at Z; exact Z.symm.trans X7)
      try rw [Lkv9] at D
      try rw [X7] at D
      try rw [← X8] at D
      have EV := X8.trans EV
      show jX m_X12_balanceOf 2 0 0 126 [(0, .ref 125), (1, .int l1), (2, .int l2), (3, .int l3), (5, .int l5), (6, .int l6), (7, .int l7), (8, .int l8)] [.int v9, .ref 126] _ 0 0 _
      refine x_iconst (v := 3) rfl ki_3 ?_
      refine z_iadd rfl rfl jk_3 (by omega) (fun v10 ev10 => ?_)
      refine z_iald0 (N := 50660) rfl J rfl rfl (by omega) (fun v11 qv11 => ?_)
      have ev11 := jfull v11
      try rw [vrd qv11 (show (v9.toInt + 3) = v10.toInt from by omega)] at D
      refine x_aloadn (x := 125) rfl rfl ?_
      refine z_getR (N := 92) (b := 126) 12 2 rfl f_12_8 rfl J rfl 16002 ⟨rfl, rfl⟩ rfl ?_
      refine x_iload (x := l7) rfl rfl ?_
      refine x_iconst (v := 3) rfl ki_3 ?_
      refine z_iadd rfl rfl jk_3 (by omega) (fun v12 ev12 => ?_)
      refine z_iald (N := 50660) rfl J rfl sg_126_48960_49360_4_3_4 rfl (by omega) (fun v13 qv13 ev13 => ?_)
      try rw [vrd qv13 (show (l7.toInt + 3) = v12.toInt from by omega)] at D
      refine x_icge (tgt := 147) rfl rfl (ti_ge rfl rfl ⟨fun c14 => ?_, fun c14 => ?_⟩)
      ·
        rw [if_pos (by omega)] at D
        exact jX.sub (jsb_c rfl (jsb_c rfl (jsb_c rfl (jsb_c rfl (jsb_c rfl (jsb_c rfl (jsb_c rfl (jsb_c rfl jsb_n)))))))) (ct_X12_balanceOf_r125d_147 hD hQ k47 l1 l2 l3 l5 l6 l7 l8 h (jr_of rfl (by omega)) (jr_of rfl (by omega)) (jr_of rfl (by omega)) (jr_of rfl (by omega)) (jr_of rfl (by omega)) (jr_mod rfl (by omega)) (jr_of rfl (by omega)) (by omega) J Sm D EV)
      ·
        rw [if_neg (by omega)] at D
        refine z_iinc (x := l8) (lsx9 := fun v15 => [(8, .int v15), (0, .ref 125), (1, .int l1), (2, .int l2), (3, .int l3), (5, .int l5), (6, .int l6), (7, .int l7)]) rfl rfl rfl jko_1 (by omega) rfl (fun _ => rfl) (fun v15 ev15 => ?_)
        refine x_goto (tgt := 104) rfl rfl ?_
        try rw [show (l8.toInt + 1) = v15.toInt from by omega] at D
        exact jX.sub (jsb_c rfl (jsb_c rfl (jsb_c rfl (jsb_c rfl (jsb_c rfl (jsb_c rfl (jsb_c rfl (jsb_c rfl jsb_n)))))))) (ih l1 l2 l3 l5 l6 l7 v15 h (by omega) (jr_of rfl (by omega)) (jr_of rfl (by omega)) (jr_of rfl (by omega)) (jr_of rfl (by omega)) (jr_of rfl (by omega)) (jr_mod rfl (by omega)) (jr_of rfl (by omega)) (by omega) J Sm D EV)
set_option maxRecDepth 100000 in
set_option maxHeartbeats 4000000 in
theorem ct_X12_balanceOf_r125d_47 {Dy : jH → Prop} {h0 : jH} {Q : Option Value → jH → Prop} {dr : Int} (hD : jDk Dy) (hQ : ∀ (v : Int32) hx9, jJ jSgM Dy hx9 → jSm fp_X12_balanceOf_r125d h0 hx9 → dr = v.toInt → vw hx9 = vw h0 → Q (some (.int v)) hx9) : ∀ r : Nat, ∀ (l1 : Int32) (l2 : Int32) (l3 : Int32) (l5 : Int32) (l6 : Int32) (h : jH), 100 - l6.toInt < (r : Int) → 0 ≤ l1.toInt ∧ l1.toInt ≤ 3 → 0 ≤ l2.toInt ∧ l2.toInt ≤ 399 → 0 ≤ l3.toInt ∧ l3.toInt ≤ 146399 → 0 ≤ l6.toInt ∧ l6.toInt ≤ 100 → jJ jSgM Dy h → jSm fp_X12_balanceOf_r125d h0 h → d_X12_balanceOf_r125d_47 r l1.toInt l2.toInt l3.toInt l5.toInt l6.toInt (vw h) = dr → vw h = vw h0 → jX m_X12_balanceOf 2 0 0 47 [(0, .ref 125), (1, .int l1), (2, .int l2), (3, .int l3), (5, .int l5), (6, .int l6)] [] h 0 0 Q := by
  intro r
  induction r with
  | zero =>
    intro l1 l2 l3 l5 l6 h hm y0 y1 y2 y3   J Sm D EV
    exfalso
    have el5 := jfull l5
    omega
  | succ r ih =>
    intro l1 l2 l3 l5 l6 h hm y0 y1 y2 y3   J Sm D EV
    have el5 := jfull l5
    rw [d_X12_balanceOf_r125d_47.eq_2] at D
    refine x_iload (x := l6) rfl rfl ?_
    refine x_aloadn (x := 125) rfl rfl ?_
    refine z_getR (N := 92) (b := 126) 12 2 rfl f_12_8 rfl J rfl 16002 ⟨rfl, rfl⟩ rfl ?_
    refine x_bipush (v := 13) rfl kb_13 ?_
    refine z_iald (N := 50660) rfl J rfl sg_126_13_14_1_0_1 jk_13 (by omega) (fun v1 qv1 ev1 => ?_)
    try rw [vrn (n := 13) (by decide) qv1] at D
    refine x_icge (tgt := 177) rfl rfl (ti_ge rfl rfl ⟨fun c2 => ?_, fun c2 => ?_⟩)
    ·
      rw [if_pos (by omega)] at D
      refine x_iload (x := l5) rfl rfl ?_
      refine x_iret rfl rfl ?_
      exact hQ _ _ J Sm (D.symm.trans (show l5.toInt = l5.toInt from by omega)) EV
    ·
      rw [if_neg (by omega)] at D
      refine x_ldcw (v := 48960) rfl z_12_843 ?_
      refine x_iconst (v := 4) rfl ki_4 ?_
      refine x_iload (x := l6) rfl rfl ?_
      refine z_imul rfl jk_4 rfl (by omega) (fun v3 ev3 => ?_)
      refine z_iadd rfl jk_48960 rfl (by omega) (fun v4 ev4 => ?_)
      refine x_istore (lsx9 := [(7, .int v4), (0, .ref 125), (1, .int l1), (2, .int l2), (3, .int l3), (5, .int l5), (6, .int l6)]) rfl rfl rfl ?_
      refine x_aloadn (x := 125) rfl rfl ?_
      refine z_getR (N := 92) (b := 126) 12 2 rfl f_12_8 rfl J rfl 16002 ⟨rfl, rfl⟩ rfl ?_
      refine x_iload (x := v4) rfl rfl ?_
      refine z_iald (N := 50660) rfl J rfl sg_126_48960_49360_4_0_1 rfl (by omega) (fun v5 qv5 ev5 => ?_)
      try rw [vrd qv5 (show (48960 + (4 * l6.toInt)) = v4.toInt from by omega)] at D
      refine x_iloadn (x := l1) rfl rfl ?_
      refine x_icne (tgt := 171) rfl rfl (ti_ne rfl rfl ⟨fun c6 => ?_, fun c6 => ?_⟩)
      ·
        rw [if_neg (by omega)] at D
        exact jX.sub (jsb_c rfl (jsb_c rfl (jsb_c rfl (jsb_c rfl (jsb_c rfl (jsb_c rfl jsb_n)))))) (ct_X12_balanceOf_r125d_171 hD hQ ih l1 l2 l3 l5 l6 h (jr_of rfl (by omega)) (jr_of rfl (by omega)) (jr_of rfl (by omega)) (jr_of rfl (by omega)) (by omega) J Sm D EV)
      ·
        rw [if_pos (by omega)] at D
        refine x_aloadn (x := 125) rfl rfl ?_
        refine z_getR (N := 92) (b := 126) 12 2 rfl f_12_8 rfl J rfl 16002 ⟨rfl, rfl⟩ rfl ?_
        refine x_iload (x := v4) rfl rfl ?_
        refine x_iconst (v := 3) rfl ki_3 ?_
        refine z_iadd rfl rfl jk_3 (by omega) (fun v7 ev7 => ?_)
        refine z_iald (N := 50660) rfl J rfl sg_126_48960_49360_4_3_4 rfl (by omega) (fun v8 qv8 ev8 => ?_)
        try rw [vrd qv8 (show ((48960 + (4 * l6.toInt)) + 3) = v7.toInt from by omega)] at D
        refine x_iloadn (x := l3) rfl rfl ?_
        refine x_icgt (tgt := 171) rfl rfl (ti_gt rfl rfl ⟨fun c9 => ?_, fun c9 => ?_⟩)
        ·
          rw [if_pos (by omega)] at D
          exact jX.sub (jsb_c rfl (jsb_c rfl (jsb_c rfl (jsb_c rfl (jsb_c rfl (jsb_c rfl jsb_n)))))) (ct_X12_balanceOf_r125d_171 hD hQ ih l1 l2 l3 l5 l6 h (jr_of rfl (by omega)) (jr_of rfl (by omega)) (jr_of rfl (by omega)) (jr_of rfl (by omega)) (by omega) J Sm D EV)
        ·
          rw [if_neg (by omega)] at D
          refine x_aloadn (x := 125) rfl rfl ?_
          refine z_getR (N := 92) (b := 126) 12 2 rfl f_12_8 rfl J rfl 16002 ⟨rfl, rfl⟩ rfl ?_
          refine x_iload (x := v4) rfl rfl ?_
          refine x_iconst (v := 1) rfl ki_1 ?_
          refine z_iadd rfl rfl jk_1 (by omega) (fun v10 ev10 => ?_)
          refine z_iald (N := 50660) rfl J rfl sg_126_48960_49360_4_1_2 rfl (by omega) (fun v11 qv11 ev11 => ?_)
          try rw [vrd qv11 (show ((48960 + (4 * l6.toInt)) + 1) = v10.toInt from by omega)] at D
          refine x_istore (lsx9 := [(8, .int v11), (7, .int v4), (0, .ref 125), (1, .int l1), (2, .int l2), (3, .int l3), (5, .int l5), (6, .int l6)]) rfl rfl rfl ?_
          try rw [show (48960 + (4 * l6.toInt)) = v4.toInt from by omega] at D
          exact jX.sub (jsb_c rfl (jsb_c rfl (jsb_c rfl (jsb_c rfl (jsb_c rfl (jsb_c rfl (jsb_c rfl (jsb_c rfl jsb_n)))))))) (ct_X12_balanceOf_r125d_104 hD hQ ih 401 l1 l2 l3 l5 l6 v4 v11 h (by omega) (jr_of rfl (by omega)) (jr_of rfl (by omega)) (jr_of rfl (by omega)) (jr_of rfl (by omega)) (jr_of rfl (by omega)) (jr_mod rfl (by omega)) (jr_of rfl (by omega)) (by omega) J Sm D EV)
set_option maxRecDepth 100000 in
set_option maxHeartbeats 4000000 in
theorem ct_X12_balanceOf_r125d_42 {Dy : jH → Prop} {h0 : jH} {Q : Option Value → jH → Prop} {dr : Int} (hD : jDk Dy) (hQ : ∀ (v : Int32) hx9, jJ jSgM Dy hx9 → jSm fp_X12_balanceOf_r125d h0 hx9 → dr = v.toInt → vw hx9 = vw h0 → Q (some (.int v)) hx9) : ∀ (l1 : Int32) (l2 : Int32) (l3 : Int32) (s0 : Int32) (h : jH), 0 ≤ l1.toInt ∧ l1.toInt ≤ 3 → 1 ≤ l2.toInt ∧ l2.toInt ≤ 399 → 0 ≤ l3.toInt ∧ l3.toInt ≤ 146399 → jJ jSgM Dy h → jSm fp_X12_balanceOf_r125d h0 h → d_X12_balanceOf_r125d_42  l1.toInt l2.toInt l3.toInt s0.toInt (vw h) = dr → vw h = vw h0 → jX m_X12_balanceOf 2 0 0 42 [(0, .ref 125), (1, .int l1), (2, .int l2), (3, .int l3)] [.int s0] h 0 0 Q := by
  intro l1 l2 l3 s0 h y0 y1 y2   J Sm D EV
  have es0 := jfull s0
  unfold d_X12_balanceOf_r125d_42 at D
  refine x_istore (lsx9 := [(5, .int s0), (0, .ref 125), (1, .int l1), (2, .int l2), (3, .int l3)]) rfl rfl rfl ?_
  refine x_iconst (v := 0) rfl ki_0 ?_
  refine x_istore (lsx9 := [(6, .int 0), (5, .int s0), (0, .ref 125), (1, .int l1), (2, .int l2), (3, .int l3)]) rfl rfl rfl ?_
  exact jX.sub (jsb_c rfl (jsb_c rfl (jsb_c rfl (jsb_c rfl (jsb_c rfl (jsb_c rfl jsb_n)))))) (ct_X12_balanceOf_r125d_47 hD hQ  101 l1 l2 l3 s0 0 h (by have := jk_0; omega) (jr_of rfl (by omega)) (jr_of rfl (by omega)) (jr_of rfl (by omega)) (jr_of jk_0 (by omega)) J Sm (by rw [jk_0]; exact D) EV)
set_option maxRecDepth 100000 in
set_option maxHeartbeats 4000000 in
theorem ct_X12_balanceOf_r125d_200042 {Dy : jH → Prop} {h0 : jH} {Q : Option Value → jH → Prop} {dr : Int} (hD : jDk Dy) (hQ : ∀ (v : Int32) hx9, jJ jSgM Dy hx9 → jSm fp_X12_balanceOf_r125d h0 hx9 → dr = v.toInt → vw hx9 = vw h0 → Q (some (.int v)) hx9) : ∀ (l1 : Int32) (l2 : Int32) (l3 : Int32) (h : jH), 0 ≤ l1.toInt ∧ l1.toInt ≤ 3 → 0 ≤ l2.toInt ∧ l2.toInt ≤ 399 → 0 ≤ l3.toInt ∧ l3.toInt ≤ 146399 → jJ jSgM Dy h → jSm fp_X12_balanceOf_r125d h0 h → d_X12_balanceOf_r125d_200042  l1.toInt l2.toInt l3.toInt (vw h) = dr → vw h = vw h0 → jX m_X12_balanceOf 2 0 0 42 [(0, .ref 125), (1, .int l1), (2, .int l2), (3, .int l3)] [.int 0] h 0 0 Q := by
  intro l1 l2 l3 h y0 y1 y2   J Sm D EV
  unfold d_X12_balanceOf_r125d_200042 at D
  refine x_istore (lsx9 := [(5, .int 0), (0, .ref 125), (1, .int l1), (2, .int l2), (3, .int l3)]) rfl rfl rfl ?_
  refine x_iconst (v := 0) rfl ki_0 ?_
  refine x_istore (lsx9 := [(6, .int 0), (5, .int 0), (0, .ref 125), (1, .int l1), (2, .int l2), (3, .int l3)]) rfl rfl rfl ?_
  exact jX.sub (jsb_c rfl (jsb_c rfl (jsb_c rfl (jsb_c rfl (jsb_c rfl (jsb_c rfl jsb_n)))))) (ct_X12_balanceOf_r125d_47 hD hQ  101 l1 l2 l3 0 0 h (by have := jk_0; omega) (jr_of rfl (by omega)) (jr_of rfl (by omega)) (jr_of rfl (by omega)) (jr_of jk_0 (by omega)) J Sm (by rw [jk_0]; exact D) EV)
set_option maxRecDepth 100000 in
set_option maxHeartbeats 4000000 in
theorem ct_X12_balanceOf_r125d_41 {Dy : jH → Prop} {h0 : jH} {Q : Option Value → jH → Prop} {dr : Int} (hD : jDk Dy) (hQ : ∀ (v : Int32) hx9, jJ jSgM Dy hx9 → jSm fp_X12_balanceOf_r125d h0 hx9 → dr = v.toInt → vw hx9 = vw h0 → Q (some (.int v)) hx9) : ∀ (l1 : Int32) (l2 : Int32) (l3 : Int32) (h : jH), 0 ≤ l1.toInt ∧ l1.toInt ≤ 3 → 0 ≤ l2.toInt ∧ l2.toInt ≤ 399 → 0 ≤ l3.toInt ∧ l3.toInt ≤ 146399 → jJ jSgM Dy h → jSm fp_X12_balanceOf_r125d h0 h → d_X12_balanceOf_r125d_41  l1.toInt l2.toInt l3.toInt (vw h) = dr → vw h = vw h0 → jX m_X12_balanceOf 2 0 0 41 [(0, .ref 125), (1, .int l1), (2, .int l2), (3, .int l3)] [] h 0 0 Q := by
  intro l1 l2 l3 h y0 y1 y2   J Sm D EV
  unfold d_X12_balanceOf_r125d_41 at D
  refine x_iconst (v := 0) rfl ki_0 ?_
  exact jX.sub (jsb_c rfl (jsb_c rfl (jsb_c rfl (jsb_c rfl jsb_n)))) (ct_X12_balanceOf_r125d_200042 hD hQ  l1 l2 l3 h (jr_of rfl (by omega)) (jr_of rfl (by omega)) (jr_of rfl (by omega)) J Sm D EV)
set_option maxRecDepth 100000 in
set_option maxHeartbeats 4000000 in
theorem sf_X12_balanceOf_r125d {Dy : jH → Prop} {h : jH} {Q : Option Value → jH → Prop} {dr : Int} {a1 : Int32} {a2 : Int32} {a3 : Int32} (y1 : 0 ≤ a1.toInt ∧ a1.toInt ≤ 3) (y2 : 0 ≤ a2.toInt ∧ a2.toInt ≤ 399) (y3 : 0 ≤ a3.toInt ∧ a3.toInt ≤ 146399) (hD : jDk Dy) (J : jJ jSgM Dy h) (D : d_X12_balanceOf_r125d a1.toInt a2.toInt a3.toInt (vw h) = dr) (hQ : ∀ (v : Int32) hx9, jJ jSgM Dy hx9 → jSm fp_X12_balanceOf_r125d h hx9 → dr = v.toInt → vw hx9 = vw h → Q (some (.int v)) hx9) : jC m_X12_balanceOf 2 0 0 [.ref 125, .int a1, .int a2, .int a3] h Q := by
  refine jC.of rfl k_X12_balanceOf rfl ?_
  have Sm := jSm_rf fp_X12_balanceOf_r125d h
  show jX m_X12_balanceOf 2 0 0 0 [(0, .ref 125), (1, .int a1), (2, .int a2), (3, .int a3)] [] _ 0 0 _
  unfold d_X12_balanceOf_r125d at D
  have EV : vw h = vw h := rfl
  refine x_aloadn (x := 125) rfl rfl ?_
  refine x_iloadn (x := a1) rfl rfl ?_
  refine x_iloadn (x := a2) rfl rfl ?_
  refine x_iconst (v := 1) rfl ki_1 ?_
  refine z_isub rfl rfl jk_1 (by omega) (fun v1 ev1 => ?_)
  try rw [show (a2.toInt - 1) = v1.toInt from by omega] at D
  refine x_inv (N := m_X12_closedAt) (As := [.int a1, .int v1]) (b := 125) (st := []) (dx9 := 1) (mc := 0) (ms := 0) (host := "") 12 rfl t_X12_closedAt ⟨Or.inl q_12_845, i_X12_closedAt.1, i_X12_closedAt.2⟩ ⟨by decide, rfl⟩ (congrArg Prod.fst (J.1.1 125 (12, 92) rfl)) rfl (by decide) rfl rfl ⟨by decide, by decide⟩ (sf_X12_closedAt_r125d (jr_of rfl (by omega)) (jr_of rfl (by omega)) hD J rfl  (fun v5 h ev5 xv5 J S2 X3 X4 => ?_))
  have Sm := jSm_tr rfl Sm S2
  try rw [X3] at D
  try rw [← X4] at D
  have EV := X4.trans EV
  show jX m_X12_balanceOf 2 0 0 8 [(0, .ref 125), (1, .int a1), (2, .int a2), (3, .int a3)] [.int v5] _ 0 0 _
  refine x_istore (lsx9 := [(4, .int v5), (0, .ref 125), (1, .int a1), (2, .int a2), (3, .int a3)]) rfl rfl rfl ?_
  refine x_iload (x := v5) rfl rfl ?_
  refine x_iconst (v := (-1)) rfl ki_m1 ?_
  refine x_iceq (tgt := 41) rfl rfl (ti_eq rfl jk_m1 ⟨fun c6 => ?_, fun c6 => ?_⟩)
  ·
    rw [if_pos (by omega)] at D
    exact jX.sub (jsb_c rfl (jsb_c rfl (jsb_c rfl (jsb_c rfl jsb_n)))) (ct_X12_balanceOf_r125d_41 hD hQ  a1 a2 a3 h (jr_of rfl (by omega)) (jr_of rfl (by omega)) (jr_of rfl (by omega)) J Sm D EV)
  ·
    rw [if_neg (by omega)] at D
    refine x_aloadn (x := 125) rfl rfl ?_
    refine z_getR (N := 92) (b := 126) 12 2 rfl f_12_8 rfl J rfl 16002 ⟨rfl, rfl⟩ rfl ?_
    refine x_iload (x := v5) rfl rfl ?_
    refine x_iconst (v := 3) rfl ki_3 ?_
    refine z_iadd rfl rfl jk_3 (by omega) (fun v7 ev7 => ?_)
    refine z_iald0 (N := 50660) rfl J rfl rfl (by omega) (fun v8 qv8 => ?_)
    have ev8 := jfull v8
    try rw [vrd qv8 (show (v5.toInt + 3) = v7.toInt from by omega)] at D
    refine x_iloadn (x := a3) rfl rfl ?_
    refine x_icgt (tgt := 41) rfl rfl (ti_gt rfl rfl ⟨fun c9 => ?_, fun c9 => ?_⟩)
    ·
      rw [if_pos (by omega)] at D
      exact jX.sub (jsb_c rfl (jsb_c rfl (jsb_c rfl (jsb_c rfl jsb_n)))) (ct_X12_balanceOf_r125d_41 hD hQ  a1 a2 a3 h (jr_of rfl (by omega)) (jr_of rfl (by omega)) (jr_of rfl (by omega)) J Sm D EV)
    ·
      rw [if_neg (by omega)] at D
      refine x_aloadn (x := 125) rfl rfl ?_
      refine z_getR (N := 92) (b := 126) 12 2 rfl f_12_8 rfl J rfl 16002 ⟨rfl, rfl⟩ rfl ?_
      refine x_iload (x := v5) rfl rfl ?_
      refine x_iconst (v := 2) rfl ki_2 ?_
      refine z_iadd rfl rfl jk_2 (by omega) (fun v10 ev10 => ?_)
      refine z_iald0 (N := 50660) rfl J rfl rfl (by omega) (fun v11 qv11 => ?_)
      have ev11 := jfull v11
      try rw [vrd qv11 (show (v5.toInt + 2) = v10.toInt from by omega)] at D
      refine x_goto (tgt := 42) rfl rfl ?_
      exact jX.sub (jsb_c rfl (jsb_c rfl (jsb_c rfl (jsb_c rfl jsb_n)))) (ct_X12_balanceOf_r125d_42 hD hQ  a1 a2 a3 v11 h (jr_of rfl (by omega)) (jr_of rfl (by omega)) (jr_of rfl (by omega)) J Sm D EV)
def fp_X12_balance_r125d : jFp := [(125, 0, 1)]
set_option maxRecDepth 100000 in
set_option maxHeartbeats 4000000 in
theorem ct_X12_balance_r125d_44 {Dy : jH → Prop} {h0 : jH} {Q : Option Value → jH → Prop} {dr : (Int × jW)} (hD : jDk Dy) (hQ : ∀ (v : Int32) hx9, jJ jSgM Dy hx9 → jSm fp_X12_balance_r125d h0 hx9 → dr.1 = v.toInt → dr.2 = vw hx9 → Q (some (.int v)) hx9) : ∀ (s0 : Int32) (h : jH), jJ jSgM Dy h → jSm fp_X12_balance_r125d h0 h → d_X12_balance_r125d_44  s0.toInt (vw h) = dr → jX m_X12_balance 3 0 0 44 [] [.int s0] h 0 0 Q := by
  intro s0 h    J Sm D
  have es0 := jfull s0
  unfold d_X12_balance_r125d_44 at D
  refine x_iret rfl rfl ?_
  exact hQ _ _ J Sm ((congrArg Prod.fst D).symm.trans (show s0.toInt = s0.toInt from by omega)) (congrArg Prod.snd D).symm
set_option maxRecDepth 100000 in
set_option maxHeartbeats 4000000 in
theorem ct_X12_balance_r125d_41 {Dy : jH → Prop} {h0 : jH} {Q : Option Value → jH → Prop} {dr : (Int × jW)} (hD : jDk Dy) (hQ : ∀ (v : Int32) hx9, jJ jSgM Dy hx9 → jSm fp_X12_balance_r125d h0 hx9 → dr.1 = v.toInt → dr.2 = vw hx9 → Q (some (.int v)) hx9) : ∀ (h : jH), jJ jSgM Dy h → jSm fp_X12_balance_r125d h0 h → d_X12_balance_r125d_41  (vw h) = dr → jX m_X12_balance 3 0 0 41 [] [] h 0 0 Q := by
  intro  h    J Sm D
  unfold d_X12_balance_r125d_41 at D
  refine x_ldcw (v := (-2000000000)) rfl z_12_831 ?_
  exact jX.sub jsb_n (ct_X12_balance_r125d_44 hD hQ  (-2000000000) h J Sm (by rw [jk_m2000000000]; exact D))
set_option maxRecDepth 100000 in
set_option maxHeartbeats 4000000 in
theorem sf_X12_balance_r125d {Dy : jH → Prop} {h : jH} {Q : Option Value → jH → Prop} {dr : (Int × jW)} {a1 : Int32} {a2 : Int32} {a3 : Int32} (hD : jDk Dy) (J : jJ jSgM Dy h) (D : d_X12_balance_r125d a1.toInt a2.toInt a3.toInt (vw h) = dr) (hQ : ∀ (v : Int32) hx9, jJ jSgM Dy hx9 → jSm fp_X12_balance_r125d h hx9 → dr.1 = v.toInt → dr.2 = vw hx9 → Q (some (.int v)) hx9) : jC m_X12_balance 3 0 0 [.ref 125, .int a1, .int a2, .int a3] h Q := by
  refine jC.of rfl k_X12_balance rfl ?_
  have Sm := jSm_rf fp_X12_balance_r125d h
  have ea1 := jfull a1
  have ea2 := jfull a2
  have ea3 := jfull a3
  show jX m_X12_balance 3 0 0 0 [(0, .ref 125), (1, .int a1), (2, .int a2), (3, .int a3)] [] _ 0 0 _
  unfold d_X12_balance_r125d at D
  refine x_aloadn (x := 125) rfl rfl ?_
  refine x_iconst (v := 0) rfl ki_0 ?_
  refine z_putI (N := 92) (w := 0) 12 0 rfl f_12_180 rfl (jfin_no TX12 RX12 92 rfl rfl) hD J Sm rfl rfl jk_0 (pw_125_0 (by omega)) rfl (fun h w1 J Sm => ?_)
  rw [vwf w1 (show 0 = (0 : Int32).toInt from by have := jk_0; omega)] at D
  refine x_iloadn (x := a1) rfl rfl ?_
  refine z_i2l rfl rfl (fun v2 ev2 => ?_)
  refine x_lconst (v := 0) rfl kl_0 ?_
  refine x_ldc2 (v := 3) rfl z_12_195 ?_
  refine x_inst (N := m_X12_in) (As := [.long v2, .long 0, .long 3]) (st := []) (dx9 := 1) (mc := 0) (ms := 0) (host := "") rfl t_X12_in ⟨Or.inl q_12_188, s_X12_in⟩ rfl (by decide) rfl rfl ⟨by decide, by decide⟩ (zc_X12_in rfl jkl_0 jkl_3 (fun v3 ev3 => ?_))
  show jX m_X12_balance 3 0 0 14 [(0, .ref 125), (1, .int a1), (2, .int a2), (3, .int a3)] [.int v3] _ 0 0 _
  refine x_ifeq (tgt := 41) rfl rfl (ti_eq rfl jk_0 ⟨fun c4 => ?_, fun c4 => ?_⟩)
  ·
    rw [if_neg (by omega)] at D
    exact jX.sub jsb_n (ct_X12_balance_r125d_41 hD hQ  h J Sm D)
  ·
    rw [if_pos (by omega)] at D
    refine x_iloadn (x := a2) rfl rfl ?_
    refine x_inst (N := m_X12_isYear) (As := [.int a2]) (st := []) (dx9 := 2) (mc := 0) (ms := 0) (host := "") rfl t_X12_isYear ⟨Or.inl q_12_817, s_X12_isYear⟩ rfl (by decide) rfl rfl ⟨by decide, by decide⟩ (zc_X12_isYear (d := 1) rfl (fun v5 ev5 => ?_))
    show jX m_X12_balance 3 0 0 21 [(0, .ref 125), (1, .int a1), (2, .int a2), (3, .int a3)] [.int v5] _ 0 0 _
    refine x_ifeq (tgt := 41) rfl rfl (ti_eq rfl jk_0 ⟨fun c6 => ?_, fun c6 => ?_⟩)
    ·
      rw [if_neg (by omega)] at D
      exact jX.sub jsb_n (ct_X12_balance_r125d_41 hD hQ  h J Sm D)
    ·
      rw [if_pos (by omega)] at D
      refine x_iloadn (x := a3) rfl rfl ?_
      refine x_inst (N := m_X12_isDay) (As := [.int a3]) (st := []) (dx9 := 2) (mc := 0) (ms := 0) (host := "") rfl t_X12_isDay ⟨Or.inl q_12_273, s_X12_isDay⟩ rfl (by decide) rfl rfl ⟨by decide, by decide⟩ (zc_X12_isDay (d := 1) rfl (fun v7 ev7 => ?_))
      show jX m_X12_balance 3 0 0 28 [(0, .ref 125), (1, .int a1), (2, .int a2), (3, .int a3)] [.int v7] _ 0 0 _
      refine x_ifeq (tgt := 41) rfl rfl (ti_eq rfl jk_0 ⟨fun c8 => ?_, fun c8 => ?_⟩)
      ·
        rw [if_neg (by omega)] at D
        exact jX.sub jsb_n (ct_X12_balance_r125d_41 hD hQ  h J Sm D)
      ·
        rw [if_pos (by omega)] at D
        refine x_aloadn (x := 125) rfl rfl ?_
        refine x_iloadn (x := a1) rfl rfl ?_
        refine x_iloadn (x := a2) rfl rfl ?_
        refine x_iloadn (x := a3) rfl rfl ?_
        refine x_inv (N := m_X12_balanceOf) (As := [.int a1, .int a2, .int a3]) (b := 125) (st := []) (dx9 := 2) (mc := 0) (ms := 0) (host := "") 12 rfl t_X12_balanceOf ⟨Or.inl q_12_848, i_X12_balanceOf.1, i_X12_balanceOf.2⟩ ⟨by decide, rfl⟩ (congrArg Prod.fst (J.1.1 125 (12, 92) rfl)) rfl (by decide) rfl rfl ⟨by decide, by decide⟩ (sf_X12_balanceOf_r125d (jr_of rfl (by omega)) (jr_of rfl (by omega)) (jr_of rfl (by omega)) hD J rfl  (fun v12 h J S9 X10 X11 => ?_))
        have ev12 := jfull v12
        have Sm := jSm_tr rfl Sm S9
        try rw [X10] at D
        try rw [← X11] at D
        show jX m_X12_balance 3 0 0 38 [(0, .ref 125), (1, .int a1), (2, .int a2), (3, .int a3)] [.int v12] _ 0 0 _
        refine x_goto (tgt := 44) rfl rfl ?_
        exact jX.sub jsb_n (ct_X12_balance_r125d_44 hD hQ  v12 h J Sm D)
def fp_X12_inner_r125d : jFp := []
set_option maxRecDepth 100000 in
set_option maxHeartbeats 4000000 in
theorem ct_X12_inner_r125d_33 {Dy : jH → Prop} {h0 : jH} {Q : Option Value → jH → Prop} {dr : Int} {K4 : Int → Int → jW → Int} {R4 : Int} (hD : jDk Dy) (hQ : ∀ (v : Int32) hx9, (-1) ≤ v.toInt ∧ v.toInt ≤ 2147483647 → jJ jSgM Dy hx9 → jSm fp_X12_inner_r125d h0 hx9 → jIr (jiv hx9 150) v (jnL hx9) → dr = v.toInt → vw hx9 = vw h0 → Q (some (.int v)) hx9) (k4 : ∀ (l1 : Int32) (l2 : Int32) (g0 : Int32) (h : jH), 400 - l2.toInt < R4 → (-1) ≤ l1.toInt ∧ l1.toInt ≤ 2147483647 → 0 ≤ l2.toInt ∧ l2.toInt ≤ 400 → 0 ≤ g0.toInt ∧ g0.toInt ≤ 400 → (jIr (jiv h 150) l1 l2.toNatClampNeg ∧ l2.toInt ≤ g0.toInt) → jiv h 125 55 = g0 → jJ jSgM Dy h → jSm fp_X12_inner_r125d h0 h → K4 l1.toInt l2.toInt (vw h) = dr → vw h = vw h0 → jX m_X12_inner 1 0 0 4 [(0, .ref 125), (1, .int l1), (2, .int l2)] [] h 0 0 Q) : ∀ (l2 : Int32) (s0 : Int32) (g0 : Int32) (h : jH), 0 ≤ l2.toInt ∧ l2.toInt ≤ 399 → (-1) ≤ s0.toInt ∧ s0.toInt ≤ 2147483647 → 1 ≤ g0.toInt ∧ g0.toInt ≤ 400 → (jIr (jiv h 150) s0 (l2.toNatClampNeg + 1) ∧ l2.toInt < g0.toInt) → jiv h 125 55 = g0 → 400 - l2.toInt ≤ R4 → jJ jSgM Dy h → jSm fp_X12_inner_r125d h0 h → d_X12_inner_r125d_33 K4  l2.toInt s0.toInt (vw h) = dr → vw h = vw h0 → jX m_X12_inner 1 0 0 33 [(0, .ref 125), (2, .int l2)] [.int s0] h 0 0 Q := by
  intro l2 s0 g0 h y0 y1 y2 C0 z0 m4 J Sm D EV
  unfold d_X12_inner_r125d_33 at D
  try rw [vrf z0] at D
  refine x_istoren (lsx9 := [(1, .int s0), (0, .ref 125), (2, .int l2)]) rfl rfl rfl ?_
  refine z_iinc (x := l2) (lsx9 := fun v1 => [(2, .int v1), (1, .int s0), (0, .ref 125)]) rfl rfl rfl jko_1 (by omega) rfl (fun _ => rfl) (fun v1 ev1 => ?_)
  refine x_goto (tgt := 4) rfl rfl ?_
  try rw [show (l2.toInt + 1) = v1.toInt from by omega] at D
  exact jX.sub (jsb_c rfl (jsb_c rfl (jsb_c rfl jsb_n))) (k4 s0 v1 g0 h (by omega) (jr_of rfl (by omega)) (jr_of rfl (by omega)) (jr_of rfl (by omega)) ⟨(jir_n C0.1 (by omega)), (by have := C0.2; omega)⟩ z0 J Sm D EV)
set_option maxRecDepth 100000 in
set_option maxHeartbeats 4000000 in
theorem ct_X12_inner_r125d_4 {Dy : jH → Prop} {h0 : jH} {Q : Option Value → jH → Prop} {dr : Int} (hD : jDk Dy) (hQ : ∀ (v : Int32) hx9, (-1) ≤ v.toInt ∧ v.toInt ≤ 2147483647 → jJ jSgM Dy hx9 → jSm fp_X12_inner_r125d h0 hx9 → jIr (jiv hx9 150) v (jnL hx9) → dr = v.toInt → vw hx9 = vw h0 → Q (some (.int v)) hx9) : ∀ r : Nat, ∀ (l1 : Int32) (l2 : Int32) (g0 : Int32) (h : jH), 400 - l2.toInt < (r : Int) → (-1) ≤ l1.toInt ∧ l1.toInt ≤ 2147483647 → 0 ≤ l2.toInt ∧ l2.toInt ≤ 400 → 0 ≤ g0.toInt ∧ g0.toInt ≤ 400 → (jIr (jiv h 150) l1 l2.toNatClampNeg ∧ l2.toInt ≤ g0.toInt) → jiv h 125 55 = g0 → jJ jSgM Dy h → jSm fp_X12_inner_r125d h0 h → d_X12_inner_r125d_4 r l1.toInt l2.toInt (vw h) = dr → vw h = vw h0 → jX m_X12_inner 1 0 0 4 [(0, .ref 125), (1, .int l1), (2, .int l2)] [] h 0 0 Q := by
  intro r
  induction r with
  | zero =>
    intro l1 l2 g0 h hm y0 y1 y2 C0 z0  J Sm D EV
    exfalso
    omega
  | succ r ih =>
    intro l1 l2 g0 h hm y0 y1 y2 C0 z0  J Sm D EV
    rw [d_X12_inner_r125d_4.eq_2] at D
    try rw [vrf z0] at D
    refine x_iloadn (x := l2) rfl rfl ?_
    refine x_aloadn (x := 125) rfl rfl ?_
    refine z_getM (N := 92) (v := g0) 12 55 rfl f_12_496 rfl J rfl z0 ?_
    refine x_icge (tgt := 40) rfl rfl (ti_ge rfl rfl ⟨fun c1 => ?_, fun c1 => ?_⟩)
    ·
      rw [if_pos (by omega)] at D
      refine x_iloadn (x := l1) rfl rfl ?_
      refine x_iret rfl rfl ?_
      exact hQ _ _ (jr_of rfl (by omega)) J Sm (jir_x C0.1 z0 (by have := C0.2; omega)) (D.symm.trans (show l1.toInt = l1.toInt from by omega)) EV
    ·
      rw [if_neg (by omega)] at D
      refine x_aloadn (x := 125) rfl rfl ?_
      refine z_getR (N := 92) (b := 150) 12 53 rfl f_12_105 rfl J rfl 16053 ⟨rfl, rfl⟩ rfl ?_
      refine x_iloadn (x := l2) rfl rfl ?_
      refine z_iald0 (N := 400) rfl J rfl rfl (by omega) (fun v2 qv2 => ?_)
      have ev2 := jfull v2
      try rw [vrd qv2 (show l2.toInt = l2.toInt from by omega)] at D
      refine x_bipush (v := 30) rfl kb_30 ?_
      refine x_iclt (tgt := 32) rfl rfl (ti_lt rfl jk_30 ⟨fun c3 => ?_, fun c3 => ?_⟩)
      ·
        rw [if_pos (by omega)] at D
        refine x_iloadn (x := l1) rfl rfl ?_
        exact jX.sub (jsb_c rfl (jsb_c rfl jsb_n)) (ct_X12_inner_r125d_33 hD hQ ih l2 l1 g0 h (jr_of rfl (by omega)) (jr_of rfl (by omega)) (jr_of rfl (by omega)) ⟨(jir_f C0.1 qv2 (by omega)), (by omega)⟩ z0 (by omega) J Sm D EV)
      ·
        rw [if_neg (by omega)] at D
        refine x_aloadn (x := 125) rfl rfl ?_
        refine z_getR (N := 92) (b := 150) 12 53 rfl f_12_105 rfl J rfl 16053 ⟨rfl, rfl⟩ rfl ?_
        refine x_iloadn (x := l2) rfl rfl ?_
        refine z_ialdM (N := 400) (v := v2) rfl J rfl rfl (by omega) qv2 ?_
        refine x_goto (tgt := 33) rfl rfl ?_
        exact jX.sub (jsb_c rfl (jsb_c rfl jsb_n)) (ct_X12_inner_r125d_33 hD hQ ih l2 v2 g0 h (jr_of rfl (by omega)) (jr_of rfl (by omega)) (jr_of rfl (by omega)) ⟨(jir_t qv2 (by omega)), (by omega)⟩ z0 (by omega) J Sm D EV)
set_option maxRecDepth 100000 in
set_option maxHeartbeats 4000000 in
theorem sf_X12_inner_r125d {Dy : jH → Prop} {h : jH} {Q : Option Value → jH → Prop} {dr : Int} (hD : jDk Dy) (J : jJ jSgM Dy h) (D : d_X12_inner_r125d (vw h) = dr) (hQ : ∀ (v : Int32) hx9, (-1) ≤ v.toInt ∧ v.toInt ≤ 2147483647 → jJ jSgM Dy hx9 → jSm fp_X12_inner_r125d h hx9 → jIr (jiv hx9 150) v (jnL hx9) → dr = v.toInt → vw hx9 = vw h → Q (some (.int v)) hx9) : jC m_X12_inner 1 0 0 [.ref 125] h Q := by
  refine jC.of rfl k_X12_inner rfl ?_
  have Sm := jSm_rf fp_X12_inner_r125d h
  show jX m_X12_inner 1 0 0 0 [(0, .ref 125)] [] _ 0 0 _
  unfold d_X12_inner_r125d at D
  have EV : vw h = vw h := rfl
  refine x_iconst (v := (-1)) rfl ki_m1 ?_
  refine x_istoren (lsx9 := [(1, .int (-1)), (0, .ref 125)]) rfl rfl rfl ?_
  refine x_iconst (v := 0) rfl ki_0 ?_
  refine x_istoren (lsx9 := [(2, .int 0), (1, .int (-1)), (0, .ref 125)]) rfl rfl rfl ?_
  have ex55 := jrg_f J sg_125_55_56_1_0_1
  exact jX.sub (jsb_c rfl (jsb_c rfl (jsb_c rfl jsb_n))) (ct_X12_inner_r125d_4 hD hQ  401 (-1) 0 (jiv h 125 55) h (by have := jk_0; omega) (jr_of jk_m1 (by omega)) (jr_of jk_0 (by omega)) (jr_of rfl (by omega)) ⟨jir_0, (by have := jk_0; omega)⟩ rfl J Sm (by rw [jk_m1, jk_0]; exact D) EV)
def fp_X12_isCompared_r125d : jFp := []
set_option maxRecDepth 100000 in
set_option maxHeartbeats 4000000 in
theorem ct_X12_isCompared_r125d_300064 {Dy : jH → Prop} {h0 : jH} {Q : Option Value → jH → Prop} {dr : Int} (hD : jDk Dy) (hQ : ∀ (v : Int32) hx9, 0 ≤ v.toInt ∧ v.toInt ≤ 1 → jJ jSgM Dy hx9 → jSm fp_X12_isCompared_r125d h0 hx9 → dr = v.toInt → vw hx9 = vw h0 → Q (some (.int v)) hx9) : ∀ (h : jH), jJ jSgM Dy h → jSm fp_X12_isCompared_r125d h0 h → d_X12_isCompared_r125d_300064  (vw h) = dr → vw h = vw h0 → jX m_X12_isCompared 2 0 0 64 [] [.int 1] h 0 0 Q := by
  intro  h    J Sm D EV
  unfold d_X12_isCompared_r125d_300064 at D
  refine x_zret rfl rfl (by decide) ?_
  exact hQ _ _ (jr_of jk_1 (by omega)) J Sm (D.symm.trans (show 1 = (1 : Int32).toInt from by have := jk_1; omega)) EV
set_option maxRecDepth 100000 in
set_option maxHeartbeats 4000000 in
theorem ct_X12_isCompared_r125d_200064 {Dy : jH → Prop} {h0 : jH} {Q : Option Value → jH → Prop} {dr : Int} (hD : jDk Dy) (hQ : ∀ (v : Int32) hx9, 0 ≤ v.toInt ∧ v.toInt ≤ 1 → jJ jSgM Dy hx9 → jSm fp_X12_isCompared_r125d h0 hx9 → dr = v.toInt → vw hx9 = vw h0 → Q (some (.int v)) hx9) : ∀ (h : jH), jJ jSgM Dy h → jSm fp_X12_isCompared_r125d h0 h → d_X12_isCompared_r125d_200064  (vw h) = dr → vw h = vw h0 → jX m_X12_isCompared 2 0 0 64 [] [.int 0] h 0 0 Q := by
  intro  h    J Sm D EV
  unfold d_X12_isCompared_r125d_200064 at D
  refine x_zret rfl rfl (by decide) ?_
  exact hQ _ _ (jr_of jk_0 (by omega)) J Sm (D.symm.trans (show 0 = (0 : Int32).toInt from by have := jk_0; omega)) EV
set_option maxRecDepth 100000 in
set_option maxHeartbeats 4000000 in
theorem ct_X12_isCompared_r125d_63 {Dy : jH → Prop} {h0 : jH} {Q : Option Value → jH → Prop} {dr : Int} (hD : jDk Dy) (hQ : ∀ (v : Int32) hx9, 0 ≤ v.toInt ∧ v.toInt ≤ 1 → jJ jSgM Dy hx9 → jSm fp_X12_isCompared_r125d h0 hx9 → dr = v.toInt → vw hx9 = vw h0 → Q (some (.int v)) hx9) : ∀ (h : jH), jJ jSgM Dy h → jSm fp_X12_isCompared_r125d h0 h → d_X12_isCompared_r125d_63  (vw h) = dr → vw h = vw h0 → jX m_X12_isCompared 2 0 0 63 [] [] h 0 0 Q := by
  intro  h    J Sm D EV
  unfold d_X12_isCompared_r125d_63 at D
  refine x_iconst (v := 0) rfl ki_0 ?_
  exact jX.sub jsb_n (ct_X12_isCompared_r125d_200064 hD hQ  h J Sm D EV)
set_option maxRecDepth 100000 in
set_option maxHeartbeats 4000000 in
theorem ct_X12_isCompared_r125d_36 {Dy : jH → Prop} {h0 : jH} {Q : Option Value → jH → Prop} {dr : Int} (hD : jDk Dy) (hQ : ∀ (v : Int32) hx9, 0 ≤ v.toInt ∧ v.toInt ≤ 1 → jJ jSgM Dy hx9 → jSm fp_X12_isCompared_r125d h0 hx9 → dr = v.toInt → vw hx9 = vw h0 → Q (some (.int v)) hx9) : ∀ (l1 : Int32) (h : jH), (-1) ≤ l1.toInt ∧ l1.toInt ≤ 399 → jJ jSgM Dy h → jSm fp_X12_isCompared_r125d h0 h → d_X12_isCompared_r125d_36  l1.toInt (vw h) = dr → vw h = vw h0 → jX m_X12_isCompared 2 0 0 36 [(0, .ref 125), (1, .int l1)] [] h 0 0 Q := by
  intro l1 h y0   J Sm D EV
  unfold d_X12_isCompared_r125d_36 at D
  refine x_iloadn (x := l1) rfl rfl ?_
  refine x_iflt (tgt := 63) rfl rfl (ti_lt rfl jk_0 ⟨fun c1 => ?_, fun c1 => ?_⟩)
  ·
    rw [if_pos (by omega)] at D
    exact jX.sub jsb_n (ct_X12_isCompared_r125d_63 hD hQ  h J Sm D EV)
  ·
    rw [if_neg (by omega)] at D
    refine x_aloadn (x := 125) rfl rfl ?_
    refine z_getR (N := 92) (b := 150) 12 53 rfl f_12_105 rfl J rfl 16053 ⟨rfl, rfl⟩ rfl ?_
    refine x_iloadn (x := l1) rfl rfl ?_
    refine z_iald0 (N := 400) rfl J rfl rfl (by omega) (fun v2 qv2 => ?_)
    have ev2 := jfull v2
    try rw [vrd qv2 (show l1.toInt = l1.toInt from by omega)] at D
    refine z_i2l rfl rfl (fun v3 ev3 => ?_)
    refine x_ldc2 (v := 10) rfl z_12_246 ?_
    refine x_ldc2 (v := 12) rfl z_12_507 ?_
    refine x_inst (N := m_X12_in) (As := [.long v3, .long 10, .long 12]) (st := []) (dx9 := 1) (mc := 0) (ms := 0) (host := "") rfl t_X12_in ⟨Or.inl q_12_188, s_X12_in⟩ rfl (by decide) rfl rfl ⟨by decide, by decide⟩ (zc_X12_in rfl jkl_10 jkl_12 (fun v4 ev4 => ?_))
    show jX m_X12_isCompared 2 0 0 56 [(0, .ref 125), (1, .int l1)] [.int v4] _ 0 0 _
    refine x_ifeq (tgt := 63) rfl rfl (ti_eq rfl jk_0 ⟨fun c5 => ?_, fun c5 => ?_⟩)
    ·
      rw [if_neg (by omega)] at D
      exact jX.sub jsb_n (ct_X12_isCompared_r125d_63 hD hQ  h J Sm D EV)
    ·
      rw [if_pos (by omega)] at D
      refine x_iconst (v := 1) rfl ki_1 ?_
      refine x_goto (tgt := 64) rfl rfl ?_
      exact jX.sub jsb_n (ct_X12_isCompared_r125d_300064 hD hQ  h J Sm D EV)
set_option maxRecDepth 100000 in
set_option maxHeartbeats 4000000 in
theorem ct_X12_isCompared_r125d_7 {Dy : jH → Prop} {h0 : jH} {Q : Option Value → jH → Prop} {dr : Int} (hD : jDk Dy) (hQ : ∀ (v : Int32) hx9, 0 ≤ v.toInt ∧ v.toInt ≤ 1 → jJ jSgM Dy hx9 → jSm fp_X12_isCompared_r125d h0 hx9 → dr = v.toInt → vw hx9 = vw h0 → Q (some (.int v)) hx9) : ∀ r : Nat, ∀ (l1 : Int32) (h : jH), l1.toInt - (-1) < (r : Int) → (-1) ≤ l1.toInt ∧ l1.toInt ≤ 399 → jJ jSgM Dy h → jSm fp_X12_isCompared_r125d h0 h → d_X12_isCompared_r125d_7 r l1.toInt (vw h) = dr → vw h = vw h0 → jX m_X12_isCompared 2 0 0 7 [(0, .ref 125), (1, .int l1)] [] h 0 0 Q := by
  intro r
  induction r with
  | zero =>
    intro l1 h hm y0   J Sm D EV
    exfalso
    omega
  | succ r ih =>
    intro l1 h hm y0   J Sm D EV
    rw [d_X12_isCompared_r125d_7.eq_2] at D
    refine x_iloadn (x := l1) rfl rfl ?_
    refine x_iflt (tgt := 36) rfl rfl (ti_lt rfl jk_0 ⟨fun c1 => ?_, fun c1 => ?_⟩)
    ·
      rw [if_pos (by omega)] at D
      exact jX.sub (jsb_c rfl (jsb_c rfl jsb_n)) (ct_X12_isCompared_r125d_36 hD hQ  l1 h (jr_of rfl (by omega)) J Sm D EV)
    ·
      rw [if_neg (by omega)] at D
      refine x_aloadn (x := 125) rfl rfl ?_
      refine z_getR (N := 92) (b := 150) 12 53 rfl f_12_105 rfl J rfl 16053 ⟨rfl, rfl⟩ rfl ?_
      refine x_iloadn (x := l1) rfl rfl ?_
      refine z_iald0 (N := 400) rfl J rfl rfl (by omega) (fun v2 qv2 => ?_)
      have ev2 := jfull v2
      try rw [vrd qv2 (show l1.toInt = l1.toInt from by omega)] at D
      refine z_i2l rfl rfl (fun v3 ev3 => ?_)
      refine x_ldc2 (v := 6) rfl z_12_329 ?_
      refine x_ldc2 (v := 9) rfl z_12_505 ?_
      refine x_inst (N := m_X12_in) (As := [.long v3, .long 6, .long 9]) (st := []) (dx9 := 1) (mc := 0) (ms := 0) (host := "") rfl t_X12_in ⟨Or.inl q_12_188, s_X12_in⟩ rfl (by decide) rfl rfl ⟨by decide, by decide⟩ (zc_X12_in rfl jkl_6 jkl_9 (fun v4 ev4 => ?_))
      show jX m_X12_isCompared 2 0 0 27 [(0, .ref 125), (1, .int l1)] [.int v4] _ 0 0 _
      refine x_ifeq (tgt := 36) rfl rfl (ti_eq rfl jk_0 ⟨fun c5 => ?_, fun c5 => ?_⟩)
      ·
        rw [if_neg (by omega)] at D
        exact jX.sub (jsb_c rfl (jsb_c rfl jsb_n)) (ct_X12_isCompared_r125d_36 hD hQ  l1 h (jr_of rfl (by omega)) J Sm D EV)
      ·
        rw [if_pos (by omega)] at D
        refine z_iinc (x := l1) (lsx9 := fun v6 => [(1, .int v6), (0, .ref 125)]) rfl rfl rfl jko_m1 (by omega) rfl (fun _ => rfl) (fun v6 ev6 => ?_)
        refine x_goto (tgt := 7) rfl rfl ?_
        try rw [show (l1.toInt + (-1)) = v6.toInt from by omega] at D
        exact jX.sub (jsb_c rfl (jsb_c rfl jsb_n)) (ih v6 h (by omega) (jr_of rfl (by omega)) J Sm D EV)
set_option maxRecDepth 100000 in
set_option maxHeartbeats 4000000 in
theorem sf_X12_isCompared_r125d {Dy : jH → Prop} {h : jH} {Q : Option Value → jH → Prop} {dr : Int} (hD : jDk Dy) (J : jJ jSgM Dy h) (D : d_X12_isCompared_r125d (vw h) = dr) (hQ : ∀ (v : Int32) hx9, 0 ≤ v.toInt ∧ v.toInt ≤ 1 → jJ jSgM Dy hx9 → jSm fp_X12_isCompared_r125d h hx9 → dr = v.toInt → vw hx9 = vw h → Q (some (.int v)) hx9) : jC m_X12_isCompared 2 0 0 [.ref 125] h Q := by
  refine jC.of rfl k_X12_isCompared rfl ?_
  have Sm := jSm_rf fp_X12_isCompared_r125d h
  show jX m_X12_isCompared 2 0 0 0 [(0, .ref 125)] [] _ 0 0 _
  unfold d_X12_isCompared_r125d at D
  have EV : vw h = vw h := rfl
  refine x_aloadn (x := 125) rfl rfl ?_
  refine z_getI (N := 92) 12 55 rfl f_12_496 rfl J rfl sg_125_55_56_1_0_1 (fun v1 qv1 ev1 => ?_)
  try rw [vrf qv1] at D
  refine x_iconst (v := 1) rfl ki_1 ?_
  refine z_isub rfl rfl jk_1 (by omega) (fun v2 ev2 => ?_)
  refine x_istoren (lsx9 := [(1, .int v2), (0, .ref 125)]) rfl rfl rfl ?_
  try rw [show (v1.toInt - 1) = v2.toInt from by omega] at D
  exact jX.sub (jsb_c rfl (jsb_c rfl jsb_n)) (ct_X12_isCompared_r125d_7 hD hQ  401 v2 h (by omega) (jr_of rfl (by omega)) J Sm D EV)
