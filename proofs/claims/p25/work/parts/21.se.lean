def fp_X12_findCount_r125 : jFp := [(125, 32, 33), (125, 33, 34), (125, 34, 35), (125, 35, 36), (125, 57, 58), (125, 61, 62), (125, 62, 63), (125, 63, 64), (125, 64, 65), (125, 65, 66), (125, 66, 67), (152, 0, 360), (153, 0, 30), (154, 0, 400), (155, 0, 360), (162, 0, 40), (163, 0, 40), (164, 0, 40)]
set_option maxRecDepth 100000 in
set_option maxHeartbeats 4000000 in
theorem ct_X12_findCount_r125_200202 {Dy : jH → Prop} {h0 : jH} {Q : Option Value → jH → Prop} {R170 : Int} (hD : jDk Dy) (hQ : ∀ hx9, jJ jSgM Dy hx9 → jSm fp_X12_findCount_r125 h0 hx9 → Q none hx9) (k170 : ∀ (l5 : Int32) (l6 : Int32) (g0 : Int32) (h : jH), 360 - l6.toInt < R170 → 0 ≤ l5.toInt ∧ l5.toInt ≤ 360 → 0 ≤ l6.toInt ∧ l6.toInt ≤ 360 → l5.toInt ≤ 360 → jiv h 125 66 = g0 → jJ jSgM Dy h → jSm fp_X12_findCount_r125 h0 h → jX m_X12_findCount 11 0 0 170 [(0, .ref 125), (5, .int l5), (6, .int l6)] [] h 0 0 Q) : ∀ (l5 : Int32) (l6 : Int32) (s1 : Int32) (h : jH), 1 ≤ l5.toInt ∧ l5.toInt ≤ 360 → 0 ≤ l6.toInt ∧ l6.toInt ≤ 359 → l5.toInt ≤ 360 → 360 - l6.toInt ≤ R170 → jJ jSgM Dy h → jSm fp_X12_findCount_r125 h0 h → jX m_X12_findCount 11 0 0 202 [(0, .ref 125), (5, .int l5), (6, .int l6)] [.int 0, .int s1, .ref 125] h 0 0 Q := by
  intro l5 l6 s1 h y0 y1 y2  m170 J Sm
  have es1 := jfull s1
  refine z_iadd rfl rfl jk_0 (by omega) (fun v1 ev1 => ?_)
  refine z_putI (N := 92) (w := v1.toInt) 12 66 rfl f_12_758 rfl (jfin_no TX12 RX12 92 rfl rfl) hD J Sm rfl rfl rfl (pw_125_66 trivial) rfl (fun h w2 J Sm => ?_)
  refine z_iinc (x := l6) (lsx9 := fun v3 => [(6, .int v3), (0, .ref 125), (5, .int l5)]) rfl rfl rfl jko_1 (by omega) rfl (fun _ => rfl) (fun v3 ev3 => ?_)
  refine x_goto (tgt := 170) rfl rfl ?_
  exact jX.sub (jsb_c rfl (jsb_c rfl (jsb_c rfl jsb_n))) (k170 l5 v3 v1 h (by omega) (jr_of rfl (by omega)) (jr_of rfl (by omega)) (by omega) (jmw w2) J Sm)
set_option maxRecDepth 100000 in
set_option maxHeartbeats 4000000 in
theorem ct_X12_findCount_r125_300202 {Dy : jH → Prop} {h0 : jH} {Q : Option Value → jH → Prop} {R170 : Int} (hD : jDk Dy) (hQ : ∀ hx9, jJ jSgM Dy hx9 → jSm fp_X12_findCount_r125 h0 hx9 → Q none hx9) (k170 : ∀ (l5 : Int32) (l6 : Int32) (g0 : Int32) (h : jH), 360 - l6.toInt < R170 → 0 ≤ l5.toInt ∧ l5.toInt ≤ 360 → 0 ≤ l6.toInt ∧ l6.toInt ≤ 360 → l5.toInt ≤ 360 → jiv h 125 66 = g0 → jJ jSgM Dy h → jSm fp_X12_findCount_r125 h0 h → jX m_X12_findCount 11 0 0 170 [(0, .ref 125), (5, .int l5), (6, .int l6)] [] h 0 0 Q) : ∀ (l5 : Int32) (l6 : Int32) (s1 : Int32) (h : jH), 1 ≤ l5.toInt ∧ l5.toInt ≤ 360 → 0 ≤ l6.toInt ∧ l6.toInt ≤ 359 → l5.toInt ≤ 360 → 360 - l6.toInt ≤ R170 → jJ jSgM Dy h → jSm fp_X12_findCount_r125 h0 h → jX m_X12_findCount 11 0 0 202 [(0, .ref 125), (5, .int l5), (6, .int l6)] [.int 1, .int s1, .ref 125] h 0 0 Q := by
  intro l5 l6 s1 h y0 y1 y2  m170 J Sm
  have es1 := jfull s1
  refine z_iadd0 rfl (fun v1 => ?_)
  have ev1 := jfull v1
  refine z_putI (N := 92) (w := v1.toInt) 12 66 rfl f_12_758 rfl (jfin_no TX12 RX12 92 rfl rfl) hD J Sm rfl rfl rfl (pw_125_66 trivial) rfl (fun h w2 J Sm => ?_)
  refine z_iinc (x := l6) (lsx9 := fun v3 => [(6, .int v3), (0, .ref 125), (5, .int l5)]) rfl rfl rfl jko_1 (by omega) rfl (fun _ => rfl) (fun v3 ev3 => ?_)
  refine x_goto (tgt := 170) rfl rfl ?_
  exact jX.sub (jsb_c rfl (jsb_c rfl (jsb_c rfl jsb_n))) (k170 l5 v3 v1 h (by omega) (jr_of rfl (by omega)) (jr_of rfl (by omega)) (by omega) (jmw w2) J Sm)
set_option maxRecDepth 100000 in
set_option maxHeartbeats 4000000 in
theorem ct_X12_findCount_r125_170 {Dy : jH → Prop} {h0 : jH} {Q : Option Value → jH → Prop} (hD : jDk Dy) (hQ : ∀ hx9, jJ jSgM Dy hx9 → jSm fp_X12_findCount_r125 h0 hx9 → Q none hx9) : ∀ r : Nat, ∀ (l5 : Int32) (l6 : Int32) (g0 : Int32) (h : jH), 360 - l6.toInt < (r : Int) → 0 ≤ l5.toInt ∧ l5.toInt ≤ 360 → 0 ≤ l6.toInt ∧ l6.toInt ≤ 360 → l5.toInt ≤ 360 → jiv h 125 66 = g0 → jJ jSgM Dy h → jSm fp_X12_findCount_r125 h0 h → jX m_X12_findCount 11 0 0 170 [(0, .ref 125), (5, .int l5), (6, .int l6)] [] h 0 0 Q := by
  intro r
  induction r with
  | zero =>
    intro l5 l6 g0 h hm y0 y1 y2 z0  J Sm
    exfalso
    have eg0 := jfull g0
    omega
  | succ r ih =>
    intro l5 l6 g0 h hm y0 y1 y2 z0  J Sm
    have eg0 := jfull g0
    refine x_iload (x := l6) rfl rfl ?_
    refine x_iload (x := l5) rfl rfl ?_
    refine x_icge (tgt := 212) rfl rfl (ti_ge rfl rfl ⟨fun c1 => ?_, fun c1 => ?_⟩)
    ·
      refine x_vret rfl rfl ?_
      exact hQ _ J Sm
    ·
      refine x_aloadn (x := 125) rfl rfl ?_
      refine x_dup rfl rfl ?_
      refine z_getM (N := 92) (v := g0) 12 66 rfl f_12_758 rfl J rfl z0 ?_
      refine x_aloadn (x := 125) rfl rfl ?_
      refine z_getR (N := 92) (b := 155) 12 67 rfl f_12_123 rfl J rfl 16067 ⟨rfl, rfl⟩ rfl ?_
      refine x_iload (x := l6) rfl rfl ?_
      refine z_lald0 (N := 360) rfl J rfl rfl (by omega) (fun v2 => ?_)
      have ev2 := jfullL v2
      refine x_aloadn (x := 125) rfl rfl ?_
      refine z_getL0 (N := 92) 12 64 rfl f_12_755 rfl J rfl (fun v3 => ?_)
      have ev3 := jfullL v3
      refine z_lcmp rfl rfl rfl (fun v4 ev4 => ?_)
      refine x_ifeq (tgt := 201) rfl rfl (ti_eq rfl jk_0 ⟨fun c5 => ?_, fun c5 => ?_⟩)
      ·
        refine x_iconst (v := 0) rfl ki_0 ?_
        exact jX.sub (jsb_c rfl (jsb_c rfl (jsb_c rfl jsb_n))) (ct_X12_findCount_r125_200202 hD hQ ih l5 l6 g0 h (jr_of rfl (by omega)) (jr_of rfl (by omega)) (by omega) (by omega) J Sm)
      ·
        refine x_iconst (v := 1) rfl ki_1 ?_
        refine x_goto (tgt := 202) rfl rfl ?_
        exact jX.sub (jsb_c rfl (jsb_c rfl (jsb_c rfl jsb_n))) (ct_X12_findCount_r125_300202 hD hQ ih l5 l6 g0 h (jr_of rfl (by omega)) (jr_of rfl (by omega)) (by omega) (by omega) J Sm)
set_option maxRecDepth 100000 in
set_option maxHeartbeats 4000000 in
theorem ct_X12_findCount_r125_161 {Dy : jH → Prop} {h0 : jH} {Q : Option Value → jH → Prop} {R21 : Int} (hD : jDk Dy) (hQ : ∀ hx9, jJ jSgM Dy hx9 → jSm fp_X12_findCount_r125 h0 hx9 → Q none hx9) (k21 : ∀ (l1 : Int32) (l2 : Int32) (l3 : Int32) (l4 : Int32) (l5 : Int32) (l6 : Int32) (g0 : Int32) (h : jH), 720 - l6.toInt < R21 → 3 ≤ l1.toInt ∧ l1.toInt ≤ 8 → 0 ≤ l2.toInt ∧ l2.toInt ≤ 2 → (-1) ≤ l3.toInt ∧ l3.toInt ≤ 599 → 0 ≤ l4.toInt ∧ l4.toInt ≤ 146399 → 0 ≤ l5.toInt ∧ l5.toInt ≤ 366 → 0 ≤ l6.toInt ∧ l6.toInt ≤ 720 → 0 ≤ g0.toInt ∧ g0.toInt ≤ 0 → l5.toInt ≤ jA (jiv h0 126) l6.toInt.toNat → jiv h 125 66 = g0 → jJ jSgM Dy h → jSm fp_X12_findCount_r125 h0 h → jX m_X12_findCount 11 0 0 21 [(0, .ref 125), (1, .int l1), (2, .int l2), (3, .int l3), (4, .int l4), (5, .int l5), (6, .int l6)] [] h 0 0 Q) : ∀ (l1 : Int32) (l2 : Int32) (l3 : Int32) (l4 : Int32) (l5 : Int32) (l6 : Int32) (g0 : Int32) (h : jH), 3 ≤ l1.toInt ∧ l1.toInt ≤ 8 → 0 ≤ l2.toInt ∧ l2.toInt ≤ 2 → (-1) ≤ l3.toInt ∧ l3.toInt ≤ 599 → 0 ≤ l4.toInt ∧ l4.toInt ≤ 146399 → 0 ≤ l5.toInt ∧ l5.toInt ≤ 366 → 0 ≤ l6.toInt ∧ l6.toInt ≤ 719 → 0 ≤ g0.toInt ∧ g0.toInt ≤ 0 → l5.toInt ≤ jA (jiv h0 126) (l6.toInt + 1).toNat → jiv h 125 66 = g0 → 720 - l6.toInt ≤ R21 → jJ jSgM Dy h → jSm fp_X12_findCount_r125 h0 h → jX m_X12_findCount 11 0 0 161 [(0, .ref 125), (1, .int l1), (2, .int l2), (3, .int l3), (4, .int l4), (5, .int l5), (6, .int l6)] [] h 0 0 Q := by
  intro l1 l2 l3 l4 l5 l6 g0 h y0 y1 y2 y3 y4 y5 y6 C0 z0 m21 J Sm
  refine z_iinc (x := l6) (lsx9 := fun v1 => [(6, .int v1), (0, .ref 125), (1, .int l1), (2, .int l2), (3, .int l3), (4, .int l4), (5, .int l5)]) rfl rfl rfl jko_1 (by omega) rfl (fun _ => rfl) (fun v1 ev1 => ?_)
  refine x_goto (tgt := 21) rfl rfl ?_
  exact jX.sub (jsb_c rfl (jsb_c rfl (jsb_c rfl (jsb_c rfl (jsb_c rfl (jsb_c rfl (jsb_c rfl jsb_n))))))) (k21 l1 l2 l3 l4 l5 v1 g0 h (by omega) (jr_of rfl (by omega)) (jr_of rfl (by omega)) (jr_of rfl (by omega)) (jr_of rfl (by omega)) (jr_of rfl (by omega)) (jr_of rfl (by omega)) (jr_of rfl (by omega)) (by rw [ev1]; exact C0) z0 J Sm)
set_option maxRecDepth 100000 in
set_option maxHeartbeats 4000000 in
theorem ct_X12_findCount_r125_21 {Dy : jH → Prop} {h0 : jH} {Q : Option Value → jH → Prop} (hD : jDk Dy) (hQ : ∀ hx9, jJ jSgM Dy hx9 → jSm fp_X12_findCount_r125 h0 hx9 → Q none hx9) : ∀ r : Nat, ∀ (l1 : Int32) (l2 : Int32) (l3 : Int32) (l4 : Int32) (l5 : Int32) (l6 : Int32) (g0 : Int32) (h : jH), 720 - l6.toInt < (r : Int) → 3 ≤ l1.toInt ∧ l1.toInt ≤ 8 → 0 ≤ l2.toInt ∧ l2.toInt ≤ 2 → (-1) ≤ l3.toInt ∧ l3.toInt ≤ 599 → 0 ≤ l4.toInt ∧ l4.toInt ≤ 146399 → 0 ≤ l5.toInt ∧ l5.toInt ≤ 366 → 0 ≤ l6.toInt ∧ l6.toInt ≤ 720 → 0 ≤ g0.toInt ∧ g0.toInt ≤ 0 → l5.toInt ≤ jA (jiv h0 126) l6.toInt.toNat → jiv h 125 66 = g0 → jJ jSgM Dy h → jSm fp_X12_findCount_r125 h0 h → jX m_X12_findCount 11 0 0 21 [(0, .ref 125), (1, .int l1), (2, .int l2), (3, .int l3), (4, .int l4), (5, .int l5), (6, .int l6)] [] h 0 0 Q := by
  intro r
  induction r with
  | zero =>
    intro l1 l2 l3 l4 l5 l6 g0 h hm y0 y1 y2 y3 y4 y5 y6 C0 z0  J Sm
    exfalso
    omega
  | succ r ih =>
    intro l1 l2 l3 l4 l5 l6 g0 h hm y0 y1 y2 y3 y4 y5 y6 C0 z0  J Sm
    refine x_iload (x := l6) rfl rfl ?_
    refine x_sipush (v := 720) rfl ks_720 ?_
    refine x_icge (tgt := 167) rfl rfl (ti_ge rfl jk_720 ⟨fun c1 => ?_, fun c1 => ?_⟩)
    ·
      have xb := jA_max C0 (by omega)
      refine x_iconst (v := 0) rfl ki_0 ?_
      refine x_istore (lsx9 := [(6, .int 0), (0, .ref 125), (1, .int l1), (2, .int l2), (3, .int l3), (4, .int l4), (5, .int l5)]) rfl rfl rfl ?_
      exact jX.sub (jsb_c rfl (jsb_c rfl (jsb_c rfl jsb_n))) (ct_X12_findCount_r125_170 hD hQ  361 l5 0 g0 h (by have := jk_0; omega) (jr_of rfl (by omega)) (jr_of jk_0 (by omega)) (by omega) z0 J Sm)
    ·
      refine x_iload (x := l6) rfl rfl ?_
      refine x_sipush (v := 360) rfl ks_360 ?_
      refine z_irem rfl rfl jk_360 (by omega) (by omega) (fun v2 ev2 => ?_)
      refine x_bipush (v := 12) rfl kb_12 ?_
      refine z_idiv rfl rfl jk_12 (by omega) (by omega) (fun v3 ev3 => ?_)
      refine x_istore (lsx9 := [(7, .int v3), (0, .ref 125), (1, .int l1), (2, .int l2), (3, .int l3), (4, .int l4), (5, .int l5), (6, .int l6)]) rfl rfl rfl ?_
      refine x_iload (x := l6) rfl rfl ?_
      refine x_bipush (v := 12) rfl kb_12 ?_
      refine z_irem rfl rfl jk_12 (by omega) (by omega) (fun v4 ev4 => ?_)
      refine x_istore (lsx9 := [(8, .int v4), (7, .int v3), (0, .ref 125), (1, .int l1), (2, .int l2), (3, .int l3), (4, .int l4), (5, .int l5), (6, .int l6)]) rfl rfl rfl ?_
      refine x_aloadn (x := 125) rfl rfl ?_
      refine x_iload (x := v3) rfl rfl ?_
      refine x_iload (x := v4) rfl rfl ?_
      refine x_inv (N := m_X12_isClause) (As := [.int v3, .int v4]) (b := 125) (st := []) (dx9 := 10) (mc := 0) (ms := 0) (host := "") 12 rfl t_X12_isClause ⟨Or.inl q_12_685, i_X12_isClause.1, i_X12_isClause.2⟩ ⟨by decide, rfl⟩ (congrArg Prod.fst (J.1.1 125 (12, 92) rfl)) rfl (by decide) rfl rfl ⟨by decide, by decide⟩ (jC.of rfl k_X12_isClause rfl ?_)
      show jX m_X12_isClause 10 0 0 0 [(0, .ref 125), (1, .int v3), (2, .int v4)] [] _ 0 0 _
      refine x_iloadn (x := v3) rfl rfl ?_
      refine z_i2l rfl rfl (fun v5 ev5 => ?_)
      refine x_lconst (v := 0) rfl kl_0 ?_
      refine x_aloadn (x := 125) rfl rfl ?_
      refine z_getR (N := 92) (b := 126) 12 2 rfl f_12_8 rfl J rfl 16002 ⟨rfl, rfl⟩ rfl ?_
      refine x_iconst (v := 4) rfl ki_4 ?_
      refine z_iald (N := 50660) rfl J rfl sg_126_4_5_1_0_1 jk_4 (by omega) (fun v6 qv6 ev6 => ?_)
      refine z_i2l rfl rfl (fun v7 ev7 => ?_)
      refine x_lconst (v := 1) rfl kl_1 ?_
      refine z_lsub rfl rfl jkl_1 (by omega) (fun v8 ev8 => ?_)
      refine x_inst (N := m_X12_in) (As := [.long v5, .long 0, .long v8]) (st := []) (dx9 := 1) (mc := 0) (ms := 0) (host := "") rfl t_X12_in ⟨Or.inl q_12_188, s_X12_in⟩ rfl (by decide) rfl rfl ⟨by decide, by decide⟩ (zc_X12_in rfl jkl_0 rfl (fun v9 ev9 => ?_))
      show jX m_X12_isClause 10 0 0 15 [(0, .ref 125), (1, .int v3), (2, .int v4)] [.int v9] _ 0 0 _
      refine x_ifeq (tgt := 45) rfl rfl (ti_eq rfl jk_0 ⟨fun c10 => ?_, fun c10 => ?_⟩)
      ·
        refine x_iconst (v := 0) rfl ki_0 ?_
        refine x_zret rfl rfl (by decide) ?_
        show jX m_X12_findCount 11 0 0 55 [(8, .int v4), (7, .int v3), (0, .ref 125), (1, .int l1), (2, .int l2), (3, .int l3), (4, .int l4), (5, .int l5), (6, .int l6)] [.int 0] _ 0 0 _
        refine x_ifeq (tgt := 161) rfl rfl (ti_eq jk_0 jk_0 (br_t (by omega) ?_))
        exact jX.sub (jsb_c rfl (jsb_c rfl (jsb_c rfl (jsb_c rfl (jsb_c rfl (jsb_c rfl (jsb_c rfl jsb_n))))))) (ct_X12_findCount_r125_161 hD hQ ih l1 l2 l3 l4 l5 l6 g0 h (jr_of rfl (by omega)) (jr_of rfl (by omega)) (jr_of rfl (by omega)) (jr_of rfl (by omega)) (jr_of rfl (by omega)) (jr_of rfl (by omega)) (jr_of rfl (by omega)) (jA_le C0 (by omega)) z0 (by omega) J Sm)
      ·
        refine x_iloadn (x := v4) rfl rfl ?_
        refine z_i2l rfl rfl (fun v11 ev11 => ?_)
        refine x_lconst (v := 0) rfl kl_0 ?_
        refine x_aloadn (x := 125) rfl rfl ?_
        refine z_getR (N := 92) (b := 126) 12 2 rfl f_12_8 rfl J rfl 16002 ⟨rfl, rfl⟩ rfl ?_
        refine x_iloadn (x := v3) rfl rfl ?_
        refine x_inst (N := m_X12_textAt) (As := [.int v3]) (st := [.ref 126, .long 0, .long v11]) (dx9 := 9) (mc := 0) (ms := 0) (host := "") rfl t_X12_textAt ⟨Or.inl q_12_676, s_X12_textAt⟩ rfl (by decide) rfl rfl ⟨by decide, by decide⟩ (jC.of rfl k_X12_textAt rfl ?_)
        show jX m_X12_textAt 9 0 0 0 [(0, .int v3)] [] _ 0 0 _
        refine x_sipush (v := 18820) rfl ks_18820 ?_
        refine x_sipush (v := 924) rfl ks_924 ?_
        refine x_iloadn (x := v3) rfl rfl ?_
        refine z_imul rfl jk_924 rfl (by omega) (fun v12 ev12 => ?_)
        refine z_iadd rfl jk_18820 rfl (by omega) (fun v13 ev13 => ?_)
        refine x_iret rfl rfl ?_
        show jX m_X12_isClause 10 0 0 29 [(0, .ref 125), (1, .int v3), (2, .int v4)] [.int v13, .ref 126, .long 0, .long v11] _ 0 0 _
        refine x_iconst (v := 3) rfl ki_3 ?_
        refine z_iadd rfl rfl jk_3 (by omega) (fun v14 ev14 => ?_)
        refine z_iald (N := 50660) rfl J rfl sg_126_18820_46540_924_3_4 rfl (by omega) (fun v15 qv15 ev15 => ?_)
        refine z_i2l rfl rfl (fun v16 ev16 => ?_)
        refine x_lconst (v := 1) rfl kl_1 ?_
        refine z_lsub rfl rfl jkl_1 (by omega) (fun v17 ev17 => ?_)
        refine x_inst (N := m_X12_in) (As := [.long v11, .long 0, .long v17]) (st := []) (dx9 := 1) (mc := 0) (ms := 0) (host := "") rfl t_X12_in ⟨Or.inl q_12_188, s_X12_in⟩ rfl (by decide) rfl rfl ⟨by decide, by decide⟩ (zc_X12_in rfl jkl_0 rfl (fun v18 ev18 => ?_))
        show jX m_X12_isClause 10 0 0 38 [(0, .ref 125), (1, .int v3), (2, .int v4)] [.int v18] _ 0 0 _
        refine x_ifeq (tgt := 45) rfl rfl (ti_eq rfl jk_0 ⟨fun c19 => ?_, fun c19 => ?_⟩)
        ·
          refine x_iconst (v := 0) rfl ki_0 ?_
          refine x_zret rfl rfl (by decide) ?_
          show jX m_X12_findCount 11 0 0 55 [(8, .int v4), (7, .int v3), (0, .ref 125), (1, .int l1), (2, .int l2), (3, .int l3), (4, .int l4), (5, .int l5), (6, .int l6)] [.int 0] _ 0 0 _
          refine x_ifeq (tgt := 161) rfl rfl (ti_eq jk_0 jk_0 (br_t (by omega) ?_))
          exact jX.sub (jsb_c rfl (jsb_c rfl (jsb_c rfl (jsb_c rfl (jsb_c rfl (jsb_c rfl (jsb_c rfl jsb_n))))))) (ct_X12_findCount_r125_161 hD hQ ih l1 l2 l3 l4 l5 l6 g0 h (jr_of rfl (by omega)) (jr_of rfl (by omega)) (jr_of rfl (by omega)) (jr_of rfl (by omega)) (jr_of rfl (by omega)) (jr_of rfl (by omega)) (jr_of rfl (by omega)) (jA_le C0 (by omega)) z0 (by omega) J Sm)
        ·
          refine x_iconst (v := 1) rfl ki_1 ?_
          refine x_goto (tgt := 46) rfl rfl ?_
          refine x_zret rfl rfl (by decide) ?_
          show jX m_X12_findCount 11 0 0 55 [(8, .int v4), (7, .int v3), (0, .ref 125), (1, .int l1), (2, .int l2), (3, .int l3), (4, .int l4), (5, .int l5), (6, .int l6)] [.int 1] _ 0 0 _
          refine x_ifeq (tgt := 161) rfl rfl (ti_eq jk_1 jk_0 (br_f (by omega) ?_))
          refine x_aloadn (x := 125) rfl rfl ?_
          refine z_getR (N := 92) (b := 126) 12 2 rfl f_12_8 rfl J rfl 16002 ⟨rfl, rfl⟩ rfl ?_
          refine x_iload (x := v3) rfl rfl ?_
          refine x_inst (N := m_X12_textAt) (As := [.int v3]) (st := [.ref 126]) (dx9 := 10) (mc := 0) (ms := 0) (host := "") rfl t_X12_textAt ⟨Or.inl q_12_676, s_X12_textAt⟩ rfl (by decide) rfl rfl ⟨by decide, by decide⟩ (jC.of rfl k_X12_textAt rfl ?_)
          show jX m_X12_textAt 10 0 0 0 [(0, .int v3)] [] _ 0 0 _
          refine x_sipush (v := 18820) rfl ks_18820 ?_
          refine x_sipush (v := 924) rfl ks_924 ?_
          refine x_iloadn (x := v3) rfl rfl ?_
          refine z_imul rfl jk_924 rfl (by omega) (fun v20 ev20 => ?_)
          refine z_iadd rfl jk_18820 rfl (by omega) (fun v21 ev21 => ?_)
          refine x_iret rfl rfl ?_
          show jX m_X12_findCount 11 0 0 67 [(8, .int v4), (7, .int v3), (0, .ref 125), (1, .int l1), (2, .int l2), (3, .int l3), (4, .int l4), (5, .int l5), (6, .int l6)] [.int v21, .ref 126] _ 0 0 _
          refine z_iald (N := 50660) rfl J rfl sg_126_18820_46540_924_0_1 rfl (by omega) (fun v22 qv22 ev22 => ?_)
          refine x_iload (x := l6) rfl rfl ?_
          refine x_sipush (v := 360) rfl ks_360 ?_
          refine z_idiv rfl rfl jk_360 (by omega) (by omega) (fun v23 ev23 => ?_)
          refine x_icne (tgt := 161) rfl rfl (ti_ne rfl rfl ⟨fun c24 => ?_, fun c24 => ?_⟩)
          ·
            exact jX.sub (jsb_c rfl (jsb_c rfl (jsb_c rfl (jsb_c rfl (jsb_c rfl (jsb_c rfl (jsb_c rfl jsb_n))))))) (ct_X12_findCount_r125_161 hD hQ ih l1 l2 l3 l4 l5 l6 g0 h (jr_of rfl (by omega)) (jr_of rfl (by omega)) (jr_of rfl (by omega)) (jr_of rfl (by omega)) (jr_of rfl (by omega)) (jr_of rfl (by omega)) (jr_of rfl (by omega)) (jA_le C0 (by omega)) z0 (by omega) J Sm)
          ·
            have xa := jA_hit2 (n := l5) (k := l6) Sm rfl C0 (by omega) (by omega) qv22 (by omega)
            refine x_aloadn (x := 125) rfl rfl ?_
            refine z_getR (N := 92) (b := 126) 12 2 rfl f_12_8 rfl J rfl 16002 ⟨rfl, rfl⟩ rfl ?_
            refine x_aloadn (x := 125) rfl rfl ?_
            refine x_iload (x := v3) rfl rfl ?_
            refine x_iload (x := v4) rfl rfl ?_
            refine x_inv (N := m_X12_clauseAt) (As := [.int v3, .int v4]) (b := 125) (st := [.ref 126]) (dx9 := 10) (mc := 0) (ms := 0) (host := "") 12 rfl t_X12_clauseAt ⟨Or.inl q_12_679, i_X12_clauseAt.1, i_X12_clauseAt.2⟩ ⟨by decide, rfl⟩ (congrArg Prod.fst (J.1.1 125 (12, 92) rfl)) rfl (by decide) rfl rfl ⟨by decide, by decide⟩ (jC.of rfl k_X12_clauseAt rfl ?_)
            show jX m_X12_clauseAt 10 0 0 0 [(0, .ref 125), (1, .int v3), (2, .int v4)] [] _ 0 0 _
            refine x_iloadn (x := v3) rfl rfl ?_
            refine x_inst (N := m_X12_textAt) (As := [.int v3]) (st := []) (dx9 := 9) (mc := 0) (ms := 0) (host := "") rfl t_X12_textAt ⟨Or.inl q_12_676, s_X12_textAt⟩ rfl (by decide) rfl rfl ⟨by decide, by decide⟩ (jC.of rfl k_X12_textAt rfl ?_)
            show jX m_X12_textAt 9 0 0 0 [(0, .int v3)] [] _ 0 0 _
            refine x_sipush (v := 18820) rfl ks_18820 ?_
            refine x_sipush (v := 924) rfl ks_924 ?_
            refine x_iloadn (x := v3) rfl rfl ?_
            refine z_imul rfl jk_924 rfl (by omega) (fun v25 ev25 => ?_)
            refine z_iadd rfl jk_18820 rfl (by omega) (fun v26 ev26 => ?_)
            refine x_iret rfl rfl ?_
            show jX m_X12_clauseAt 10 0 0 4 [(0, .ref 125), (1, .int v3), (2, .int v4)] [.int v26] _ 0 0 _
            refine x_iconst (v := 4) rfl ki_4 ?_
            refine z_iadd rfl rfl jk_4 (by omega) (fun v27 ev27 => ?_)
            refine x_bipush (v := 10) rfl kb_10 ?_
            refine x_iloadn (x := v4) rfl rfl ?_
            refine z_imul rfl jk_10 rfl (by omega) (fun v28 ev28 => ?_)
            refine z_iadd rfl rfl rfl (by omega) (fun v29 ev29 => ?_)
            refine x_iret rfl rfl ?_
            show jX m_X12_findCount 11 0 0 89 [(8, .int v4), (7, .int v3), (0, .ref 125), (1, .int l1), (2, .int l2), (3, .int l3), (4, .int l4), (5, .int l5), (6, .int l6)] [.int v29, .ref 126] _ 0 0 _
            refine z_iald0 (N := 50660) rfl J rfl rfl (by omega) (fun v30 qv30 => ?_)
            have ev30 := jfull v30
            refine x_iloadn (x := l1) rfl rfl ?_
            refine x_icne (tgt := 161) rfl rfl (ti_ne rfl rfl ⟨fun c31 => ?_, fun c31 => ?_⟩)
            ·
              exact jX.sub (jsb_c rfl (jsb_c rfl (jsb_c rfl (jsb_c rfl (jsb_c rfl (jsb_c rfl (jsb_c rfl jsb_n))))))) (ct_X12_findCount_r125_161 hD hQ ih l1 l2 l3 l4 l5 l6 g0 h (jr_of rfl (by omega)) (jr_of rfl (by omega)) (jr_of rfl (by omega)) (jr_of rfl (by omega)) (jr_of rfl (by omega)) (jr_of rfl (by omega)) (jr_of rfl (by omega)) (jA_le C0 (by omega)) z0 (by omega) J Sm)
            ·
              refine x_aloadn (x := 125) rfl rfl ?_
              refine z_getR (N := 92) (b := 126) 12 2 rfl f_12_8 rfl J rfl 16002 ⟨rfl, rfl⟩ rfl ?_
              refine x_aloadn (x := 125) rfl rfl ?_
              refine x_iload (x := v3) rfl rfl ?_
              refine x_iload (x := v4) rfl rfl ?_
              refine x_inv (N := m_X12_clauseAt) (As := [.int v3, .int v4]) (b := 125) (st := [.ref 126]) (dx9 := 10) (mc := 0) (ms := 0) (host := "") 12 rfl t_X12_clauseAt ⟨Or.inl q_12_679, i_X12_clauseAt.1, i_X12_clauseAt.2⟩ ⟨by decide, rfl⟩ (congrArg Prod.fst (J.1.1 125 (12, 92) rfl)) rfl (by decide) rfl rfl ⟨by decide, by decide⟩ (jC.of rfl k_X12_clauseAt rfl ?_)
              show jX m_X12_clauseAt 10 0 0 0 [(0, .ref 125), (1, .int v3), (2, .int v4)] [] _ 0 0 _
              refine x_iloadn (x := v3) rfl rfl ?_
              refine x_inst (N := m_X12_textAt) (As := [.int v3]) (st := []) (dx9 := 9) (mc := 0) (ms := 0) (host := "") rfl t_X12_textAt ⟨Or.inl q_12_676, s_X12_textAt⟩ rfl (by decide) rfl rfl ⟨by decide, by decide⟩ (jC.of rfl k_X12_textAt rfl ?_)
              show jX m_X12_textAt 9 0 0 0 [(0, .int v3)] [] _ 0 0 _
              refine x_sipush (v := 18820) rfl ks_18820 ?_
              refine x_sipush (v := 924) rfl ks_924 ?_
              refine x_iloadn (x := v3) rfl rfl ?_
              refine z_imul rfl jk_924 rfl (by omega) (fun v32 ev32 => ?_)
              refine z_iadd rfl jk_18820 rfl (by omega) (fun v33 ev33 => ?_)
              refine x_iret rfl rfl ?_
              show jX m_X12_clauseAt 10 0 0 4 [(0, .ref 125), (1, .int v3), (2, .int v4)] [.int v33] _ 0 0 _
              refine x_iconst (v := 4) rfl ki_4 ?_
              refine z_iadd rfl rfl jk_4 (by omega) (fun v34 ev34 => ?_)
              refine x_bipush (v := 10) rfl kb_10 ?_
              refine x_iloadn (x := v4) rfl rfl ?_
              refine z_imul rfl jk_10 rfl (by omega) (fun v35 ev35 => ?_)
              refine z_iadd rfl rfl rfl (by omega) (fun v36 ev36 => ?_)
              refine x_iret rfl rfl ?_
              show jX m_X12_findCount 11 0 0 106 [(8, .int v4), (7, .int v3), (0, .ref 125), (1, .int l1), (2, .int l2), (3, .int l3), (4, .int l4), (5, .int l5), (6, .int l6)] [.int v36, .ref 126] _ 0 0 _
              refine x_iconst (v := 1) rfl ki_1 ?_
              refine z_iadd rfl rfl jk_1 (by omega) (fun v37 ev37 => ?_)
              refine z_iald0 (N := 50660) rfl J rfl rfl (by omega) (fun v38 qv38 => ?_)
              have ev38 := jfull v38
              refine x_iloadn (x := l2) rfl rfl ?_
              refine x_icne (tgt := 161) rfl rfl (ti_ne rfl rfl ⟨fun c39 => ?_, fun c39 => ?_⟩)
              ·
                exact jX.sub (jsb_c rfl (jsb_c rfl (jsb_c rfl (jsb_c rfl (jsb_c rfl (jsb_c rfl (jsb_c rfl jsb_n))))))) (ct_X12_findCount_r125_161 hD hQ ih l1 l2 l3 l4 l5 l6 g0 h (jr_of rfl (by omega)) (jr_of rfl (by omega)) (jr_of rfl (by omega)) (jr_of rfl (by omega)) (jr_of rfl (by omega)) (jr_of rfl (by omega)) (jr_of rfl (by omega)) (jA_le C0 (by omega)) z0 (by omega) J Sm)
              ·
                refine x_aloadn (x := 125) rfl rfl ?_
                refine x_iload (x := v3) rfl rfl ?_
                refine x_iload (x := v4) rfl rfl ?_
                refine x_iloadn (x := l3) rfl rfl ?_
                refine x_iload (x := l4) rfl rfl ?_
                refine x_inv (N := m_X12_holdsFor) (As := [.int v3, .int v4, .int l3, .int l4]) (b := 125) (st := []) (dx9 := 10) (mc := 0) (ms := 0) (host := "") 12 rfl t_X12_holdsFor ⟨Or.inl q_12_749, i_X12_holdsFor.1, i_X12_holdsFor.2⟩ ⟨by decide, rfl⟩ (congrArg Prod.fst (J.1.1 125 (12, 92) rfl)) rfl (by decide) rfl rfl ⟨by decide, by decide⟩ (sf_X12_holdsFor_r125 (jr_of rfl (by omega)) (jr_of rfl (by omega)) (jr_of rfl (by omega)) (jr_of rfl (by omega)) (jcn qv15 (by omega) (by omega) (by omega)) hD J  (fun v41 h ev41 J S40 => ?_))
                have Sm := jSm_tr rfl Sm S40
                show jX m_X12_findCount 11 0 0 124 [(8, .int v4), (7, .int v3), (0, .ref 125), (1, .int l1), (2, .int l2), (3, .int l3), (4, .int l4), (5, .int l5), (6, .int l6)] [.int v41] _ 0 0 _
                refine x_ifeq (tgt := 161) rfl rfl (ti_eq rfl jk_0 ⟨fun c42 => ?_, fun c42 => ?_⟩)
                ·
                  exact jX.sub (jsb_c rfl (jsb_c rfl (jsb_c rfl (jsb_c rfl (jsb_c rfl (jsb_c rfl (jsb_c rfl jsb_n))))))) (ct_X12_findCount_r125_161 hD hQ ih l1 l2 l3 l4 l5 l6 g0 h (jr_of rfl (by omega)) (jr_of rfl (by omega)) (jr_of rfl (by omega)) (jr_of rfl (by omega)) (jr_of rfl (by omega)) (jr_of rfl (by omega)) (jr_of rfl (by omega)) (jA_le C0 (by omega)) (jmc S40 rfl z0) (by omega) J Sm)
                ·
                  refine x_aloadn (x := 125) rfl rfl ?_
                  refine x_bipush (v := 12) rfl kb_12 ?_
                  refine x_iload (x := v3) rfl rfl ?_
                  refine z_imul rfl jk_12 rfl (by omega) (fun v43 ev43 => ?_)
                  refine x_iload (x := v4) rfl rfl ?_
                  refine z_iadd rfl rfl rfl (by omega) (fun v44 ev44 => ?_)
                  refine z_putI (N := 92) (w := v44.toInt) 12 65 rfl f_12_752 rfl (jfin_no TX12 RX12 92 rfl rfl) hD J Sm rfl rfl rfl (pw_125_65 (by omega)) rfl (fun h w45 J Sm => ?_)
                  refine x_aloadn (x := 125) rfl rfl ?_
                  refine x_aloadn (x := 125) rfl rfl ?_
                  refine z_getL0 (N := 92) 12 63 rfl f_12_746 rfl J rfl (fun v46 => ?_)
                  have ev46 := jfullL v46
                  refine z_putL (N := 92) 12 64 rfl f_12_755 rfl (jfin_no TX12 RX12 92 rfl rfl) hD J Sm rfl rfl rfl (fun h w47 J Sm => ?_)
                  refine x_aloadn (x := 125) rfl rfl ?_
                  refine z_getR (N := 92) (b := 155) 12 67 rfl f_12_123 rfl J rfl 16067 ⟨rfl, rfl⟩ rfl ?_
                  refine x_iload (x := l5) rfl rfl ?_
                  refine x_aloadn (x := 125) rfl rfl ?_
                  refine z_getL0 (N := 92) 12 63 rfl f_12_746 rfl J rfl (fun v48 => ?_)
                  have ev48 := jfullL v48
                  refine z_last (N := 360) (l := 0) (u := 360) rfl hD J Sm rfl rfl rfl (by omega) rfl (fun h w49 J Sm => ?_)
                  refine z_iinc (x := l5) (lsx9 := fun v50 => [(5, .int v50), (8, .int v4), (7, .int v3), (0, .ref 125), (1, .int l1), (2, .int l2), (3, .int l3), (4, .int l4), (6, .int l6)]) rfl rfl rfl jko_1 (by omega) rfl (fun _ => rfl) (fun v50 ev50 => ?_)
                  exact jX.sub (jsb_c rfl (jsb_c rfl (jsb_c rfl (jsb_c rfl (jsb_c rfl (jsb_c rfl (jsb_c rfl jsb_n))))))) (ct_X12_findCount_r125_161 hD hQ ih l1 l2 l3 l4 v50 l6 g0 h (jr_of rfl (by omega)) (jr_of rfl (by omega)) (jr_of rfl (by omega)) (jr_of rfl (by omega)) (jr_of rfl (by omega)) (jr_of rfl (by omega)) (jr_of rfl (by omega)) (by have := xa.1; omega) (jml w49 (jml w47 (jmo w45 rfl (jmc S40 rfl z0)))) (by omega) J Sm)
set_option maxRecDepth 100000 in
set_option maxHeartbeats 4000000 in
theorem sf_X12_findCount_r125 {Dy : jH → Prop} {h : jH} {Q : Option Value → jH → Prop} {a1 : Int32} {a2 : Int32} {a3 : Int32} {a4 : Int32} (y1 : 3 ≤ a1.toInt ∧ a1.toInt ≤ 8) (y2 : 0 ≤ a2.toInt ∧ a2.toInt ≤ 2) (y3 : (-1) ≤ a3.toInt ∧ a3.toInt ≤ 599) (y4 : 0 ≤ a4.toInt ∧ a4.toInt ≤ 146399) (hD : jDk Dy) (J : jJ jSgM Dy h) (hQ : ∀ hx9, jJ jSgM Dy hx9 → jSm fp_X12_findCount_r125 h hx9 → Q none hx9) : jC m_X12_findCount 11 0 0 [.ref 125, .int a1, .int a2, .int a3, .int a4] h Q := by
  refine jC.of rfl k_X12_findCount rfl ?_
  have Sm := jSm_rf fp_X12_findCount_r125 h
  show jX m_X12_findCount 11 0 0 0 [(0, .ref 125), (1, .int a1), (2, .int a2), (3, .int a3), (4, .int a4)] [] _ 0 0 _
  refine x_aloadn (x := 125) rfl rfl ?_
  refine x_iconst (v := (-1)) rfl ki_m1 ?_
  refine z_putI (N := 92) (w := (-1)) 12 65 rfl f_12_752 rfl (jfin_no TX12 RX12 92 rfl rfl) hD J Sm rfl rfl jk_m1 (pw_125_65 (by omega)) rfl (fun h w1 J Sm => ?_)
  refine x_aloadn (x := 125) rfl rfl ?_
  refine x_lconst (v := 0) rfl kl_0 ?_
  refine z_putL (N := 92) 12 64 rfl f_12_755 rfl (jfin_no TX12 RX12 92 rfl rfl) hD J Sm rfl rfl rfl (fun h w2 J Sm => ?_)
  refine x_aloadn (x := 125) rfl rfl ?_
  refine x_iconst (v := 0) rfl ki_0 ?_
  refine z_putI (N := 92) (w := 0) 12 66 rfl f_12_758 rfl (jfin_no TX12 RX12 92 rfl rfl) hD J Sm rfl rfl jk_0 (pw_125_66 trivial) rfl (fun h w3 J Sm => ?_)
  refine x_iconst (v := 0) rfl ki_0 ?_
  refine x_istore (lsx9 := [(5, .int 0), (0, .ref 125), (1, .int a1), (2, .int a2), (3, .int a3), (4, .int a4)]) rfl rfl rfl ?_
  refine x_iconst (v := 0) rfl ki_0 ?_
  refine x_istore (lsx9 := [(6, .int 0), (5, .int 0), (0, .ref 125), (1, .int a1), (2, .int a2), (3, .int a3), (4, .int a4)]) rfl rfl rfl ?_
  exact jX.sub (jsb_c rfl (jsb_c rfl (jsb_c rfl (jsb_c rfl (jsb_c rfl (jsb_c rfl (jsb_c rfl jsb_n))))))) (ct_X12_findCount_r125_21 hD hQ  721 a1 a2 a3 a4 0 0 0 h (by have := jk_0; omega) (jr_of rfl (by omega)) (jr_of rfl (by omega)) (jr_of rfl (by omega)) (jr_of rfl (by omega)) (jr_of jk_0 (by omega)) (jr_of jk_0 (by omega)) (jr_of jk_0 (by omega)) jA_00 (jmw w3) J Sm)
def fp_X12_findHouses_r125_c1 : jFp := [(162, 40, 80), (163, 40, 80), (164, 0, 40)]
set_option maxRecDepth 100000 in
set_option maxHeartbeats 4000000 in
theorem ct_X12_findHouses_r125_c1_316 {Dy : jH → Prop} {h0 : jH} {Q : Option Value → jH → Prop} {R75 : Int} (hD : jDk Dy) (hQ : ∀ hx9, jJ jSgM Dy hx9 → jSm fp_X12_findHouses_r125_c1 h0 hx9 → Q none hx9) (k75 : ∀ (l1 : Int32) (l3 : Int32) (l4 : Int32) (h : jH), 40 - l4.toInt < R75 → 0 ≤ l1.toInt ∧ l1.toInt ≤ 146399 → 0 ≤ l3.toInt ∧ l3.toInt ≤ 40 → 0 ≤ l4.toInt ∧ l4.toInt ≤ 40 → jJ jSgM Dy h → jSm fp_X12_findHouses_r125_c1 h0 h → jX m_X12_findHouses 2 0 0 75 [(0, .ref 125), (1, .int l1), (2, .int 1), (3, .int l3), (4, .int l4)] [] h 0 0 Q) : ∀ (l1 : Int32) (l3 : Int32) (l4 : Int32) (s0 : Int32) (s1 : Int32) (h : jH), 0 ≤ l1.toInt ∧ l1.toInt ≤ 146399 → 1 ≤ l3.toInt ∧ l3.toInt ≤ 40 → 0 ≤ l4.toInt ∧ l4.toInt ≤ 39 → (-1) ≤ s0.toInt ∧ s0.toInt ≤ 599 → 40 ≤ s1.toInt ∧ s1.toInt ≤ 79 → 40 - l4.toInt ≤ R75 → jJ jSgM Dy h → jSm fp_X12_findHouses_r125_c1 h0 h → jX m_X12_findHouses 2 0 0 316 [(0, .ref 125), (1, .int l1), (2, .int 1), (3, .int l3), (4, .int l4)] [.int s0, .int s1, .ref 163] h 0 0 Q := by
  intro l1 l3 l4 s0 s1 h y0 y1 y2 y3 y4  m75 J Sm
  refine z_iast (N := 80) (l := 40) (u := 80) (w := s0.toInt) rfl hD J Sm rfl rfl rfl (by omega) rfl (wr_163_40 (by omega) (fun q1 q2 q3 q4 => by omega)) rfl (fun h w1 J Sm => ?_)
  refine z_iinc (x := l4) (lsx9 := fun v2 => [(4, .int v2), (0, .ref 125), (1, .int l1), (2, .int 1), (3, .int l3)]) rfl rfl rfl jko_1 (by omega) rfl (fun _ => rfl) (fun v2 ev2 => ?_)
  refine x_goto (tgt := 75) rfl rfl ?_
  exact jX.sub (jsb_c rfl (jsb_c rfl (jsb_c rfl (jsb_c rfl (jsb_c rfl jsb_n))))) (k75 l1 l3 v2 h (by omega) (jr_of rfl (by omega)) (jr_of rfl (by omega)) (jr_of rfl (by omega)) J Sm)
set_option maxRecDepth 100000 in
set_option maxHeartbeats 4000000 in
theorem ct_X12_findHouses_r125_c1_100316 {Dy : jH → Prop} {h0 : jH} {Q : Option Value → jH → Prop} {R75 : Int} (hD : jDk Dy) (hQ : ∀ hx9, jJ jSgM Dy hx9 → jSm fp_X12_findHouses_r125_c1 h0 hx9 → Q none hx9) (k75 : ∀ (l1 : Int32) (l3 : Int32) (l4 : Int32) (h : jH), 40 - l4.toInt < R75 → 0 ≤ l1.toInt ∧ l1.toInt ≤ 146399 → 0 ≤ l3.toInt ∧ l3.toInt ≤ 40 → 0 ≤ l4.toInt ∧ l4.toInt ≤ 40 → jJ jSgM Dy h → jSm fp_X12_findHouses_r125_c1 h0 h → jX m_X12_findHouses 2 0 0 75 [(0, .ref 125), (1, .int l1), (2, .int 1), (3, .int l3), (4, .int l4)] [] h 0 0 Q) : ∀ (l1 : Int32) (l3 : Int32) (l4 : Int32) (s1 : Int32) (h : jH), 0 ≤ l1.toInt ∧ l1.toInt ≤ 146399 → 1 ≤ l3.toInt ∧ l3.toInt ≤ 40 → 0 ≤ l4.toInt ∧ l4.toInt ≤ 39 → 40 ≤ s1.toInt ∧ s1.toInt ≤ 79 → 40 - l4.toInt ≤ R75 → jJ jSgM Dy h → jSm fp_X12_findHouses_r125_c1 h0 h → jX m_X12_findHouses 2 0 0 316 [(0, .ref 125), (1, .int l1), (2, .int 1), (3, .int l3), (4, .int l4)] [.int (-1), .int s1, .ref 163] h 0 0 Q := by
  intro l1 l3 l4 s1 h y0 y1 y2 y3  m75 J Sm
  refine z_iast (N := 80) (l := 40) (u := 80) (w := (-1)) rfl hD J Sm rfl rfl rfl (by omega) jk_m1 (wr_163_40 (by omega) (fun q1 q2 q3 q4 => by omega)) rfl (fun h w1 J Sm => ?_)
  refine z_iinc (x := l4) (lsx9 := fun v2 => [(4, .int v2), (0, .ref 125), (1, .int l1), (2, .int 1), (3, .int l3)]) rfl rfl rfl jko_1 (by omega) rfl (fun _ => rfl) (fun v2 ev2 => ?_)
  refine x_goto (tgt := 75) rfl rfl ?_
  exact jX.sub (jsb_c rfl (jsb_c rfl (jsb_c rfl (jsb_c rfl (jsb_c rfl jsb_n))))) (k75 l1 l3 v2 h (by omega) (jr_of rfl (by omega)) (jr_of rfl (by omega)) (jr_of rfl (by omega)) J Sm)
set_option maxRecDepth 100000 in
set_option maxHeartbeats 4000000 in
theorem ct_X12_findHouses_r125_c1_293 {Dy : jH → Prop} {h0 : jH} {Q : Option Value → jH → Prop} {R75 : Int} (hD : jDk Dy) (hQ : ∀ hx9, jJ jSgM Dy hx9 → jSm fp_X12_findHouses_r125_c1 h0 hx9 → Q none hx9) (k75 : ∀ (l1 : Int32) (l3 : Int32) (l4 : Int32) (h : jH), 40 - l4.toInt < R75 → 0 ≤ l1.toInt ∧ l1.toInt ≤ 146399 → 0 ≤ l3.toInt ∧ l3.toInt ≤ 40 → 0 ≤ l4.toInt ∧ l4.toInt ≤ 40 → jJ jSgM Dy h → jSm fp_X12_findHouses_r125_c1 h0 h → jX m_X12_findHouses 2 0 0 75 [(0, .ref 125), (1, .int l1), (2, .int 1), (3, .int l3), (4, .int l4)] [] h 0 0 Q) : ∀ (l1 : Int32) (l3 : Int32) (l4 : Int32) (s0 : Int32) (h : jH), 0 ≤ l1.toInt ∧ l1.toInt ≤ 146399 → 1 ≤ l3.toInt ∧ l3.toInt ≤ 40 → 0 ≤ l4.toInt ∧ l4.toInt ≤ 39 → 40 ≤ s0.toInt ∧ s0.toInt ≤ 79 → 40 - l4.toInt ≤ R75 → jJ jSgM Dy h → jSm fp_X12_findHouses_r125_c1 h0 h → jX m_X12_findHouses 2 0 0 293 [(0, .ref 125), (1, .int l1), (2, .int 1), (3, .int l3), (4, .int l4)] [.int s0, .ref 163] h 0 0 Q := by
  intro l1 l3 l4 s0 h y0 y1 y2 y3  m75 J Sm
  refine x_iconst (v := (-1)) rfl ki_m1 ?_
  refine x_goto (tgt := 316) rfl rfl ?_
  exact jX.sub (jsb_c rfl (jsb_c rfl (jsb_c rfl (jsb_c rfl (jsb_c rfl jsb_n))))) (ct_X12_findHouses_r125_c1_100316 hD hQ k75 l1 l3 l4 s0 h (jr_of rfl (by omega)) (jr_of rfl (by omega)) (jr_of rfl (by omega)) (jr_of rfl (by omega)) (by omega) J Sm)
set_option maxRecDepth 100000 in
set_option maxHeartbeats 4000000 in
theorem ct_X12_findHouses_r125_c1_208 {Dy : jH → Prop} {h0 : jH} {Q : Option Value → jH → Prop} {R75 : Int} {R93 : Int} (hD : jDk Dy) (hQ : ∀ hx9, jJ jSgM Dy hx9 → jSm fp_X12_findHouses_r125_c1 h0 hx9 → Q none hx9) (k75 : ∀ (l1 : Int32) (l3 : Int32) (l4 : Int32) (h : jH), 40 - l4.toInt < R75 → 0 ≤ l1.toInt ∧ l1.toInt ≤ 146399 → 0 ≤ l3.toInt ∧ l3.toInt ≤ 40 → 0 ≤ l4.toInt ∧ l4.toInt ≤ 40 → jJ jSgM Dy h → jSm fp_X12_findHouses_r125_c1 h0 h → jX m_X12_findHouses 2 0 0 75 [(0, .ref 125), (1, .int l1), (2, .int 1), (3, .int l3), (4, .int l4)] [] h 0 0 Q) (k93 : ∀ (l1 : Int32) (l3 : Int32) (l4 : Int32) (l5 : Int32) (l6 : Int32) (h : jH), 40 - l6.toInt < R93 → 0 ≤ l1.toInt ∧ l1.toInt ≤ 146399 → 1 ≤ l3.toInt ∧ l3.toInt ≤ 40 → 0 ≤ l4.toInt ∧ l4.toInt ≤ 39 → 0 ≤ l6.toInt ∧ l6.toInt ≤ 40 → 40 - l4.toInt ≤ R75 → jJ jSgM Dy h → jSm fp_X12_findHouses_r125_c1 h0 h → jX m_X12_findHouses 2 0 0 93 [(0, .ref 125), (1, .int l1), (2, .int 1), (3, .int l3), (4, .int l4), (5, .int l5), (6, .int l6)] [] h 0 0 Q) : ∀ (l1 : Int32) (l3 : Int32) (l4 : Int32) (l5 : Int32) (l6 : Int32) (h : jH), 0 ≤ l1.toInt ∧ l1.toInt ≤ 146399 → 1 ≤ l3.toInt ∧ l3.toInt ≤ 40 → 0 ≤ l4.toInt ∧ l4.toInt ≤ 39 → 0 ≤ l6.toInt ∧ l6.toInt ≤ 39 → 40 - l4.toInt ≤ R75 → 40 - l6.toInt ≤ R93 → jJ jSgM Dy h → jSm fp_X12_findHouses_r125_c1 h0 h → jX m_X12_findHouses 2 0 0 208 [(0, .ref 125), (1, .int l1), (2, .int 1), (3, .int l3), (4, .int l4), (5, .int l5), (6, .int l6)] [] h 0 0 Q := by
  intro l1 l3 l4 l5 l6 h y0 y1 y2 y3  m75 m93 J Sm
  have el5 := jfull l5
  refine z_iinc (x := l6) (lsx9 := fun v1 => [(6, .int v1), (0, .ref 125), (1, .int l1), (2, .int 1), (3, .int l3), (4, .int l4), (5, .int l5)]) rfl rfl rfl jko_1 (by omega) rfl (fun _ => rfl) (fun v1 ev1 => ?_)
  refine x_goto (tgt := 93) rfl rfl ?_
  exact jX.sub (jsb_c rfl (jsb_c rfl (jsb_c rfl (jsb_c rfl (jsb_c rfl (jsb_c rfl (jsb_c rfl jsb_n))))))) (k93 l1 l3 l4 l5 v1 h (by omega) (jr_of rfl (by omega)) (jr_of rfl (by omega)) (jr_of rfl (by omega)) (jr_of rfl (by omega)) (by omega) J Sm)
set_option maxRecDepth 100000 in
set_option maxHeartbeats 4000000 in
theorem ct_X12_findHouses_r125_c1_93 {Dy : jH → Prop} {h0 : jH} {Q : Option Value → jH → Prop} {R75 : Int} (hD : jDk Dy) (hQ : ∀ hx9, jJ jSgM Dy hx9 → jSm fp_X12_findHouses_r125_c1 h0 hx9 → Q none hx9) (k75 : ∀ (l1 : Int32) (l3 : Int32) (l4 : Int32) (h : jH), 40 - l4.toInt < R75 → 0 ≤ l1.toInt ∧ l1.toInt ≤ 146399 → 0 ≤ l3.toInt ∧ l3.toInt ≤ 40 → 0 ≤ l4.toInt ∧ l4.toInt ≤ 40 → jJ jSgM Dy h → jSm fp_X12_findHouses_r125_c1 h0 h → jX m_X12_findHouses 2 0 0 75 [(0, .ref 125), (1, .int l1), (2, .int 1), (3, .int l3), (4, .int l4)] [] h 0 0 Q) : ∀ r : Nat, ∀ (l1 : Int32) (l3 : Int32) (l4 : Int32) (l5 : Int32) (l6 : Int32) (h : jH), 40 - l6.toInt < (r : Int) → 0 ≤ l1.toInt ∧ l1.toInt ≤ 146399 → 1 ≤ l3.toInt ∧ l3.toInt ≤ 40 → 0 ≤ l4.toInt ∧ l4.toInt ≤ 39 → 0 ≤ l6.toInt ∧ l6.toInt ≤ 40 → 40 - l4.toInt ≤ R75 → jJ jSgM Dy h → jSm fp_X12_findHouses_r125_c1 h0 h → jX m_X12_findHouses 2 0 0 93 [(0, .ref 125), (1, .int l1), (2, .int 1), (3, .int l3), (4, .int l4), (5, .int l5), (6, .int l6)] [] h 0 0 Q := by
  intro r
  induction r with
  | zero =>
    intro l1 l3 l4 l5 l6 h hm y0 y1 y2 y3  m75 J Sm
    exfalso
    have el5 := jfull l5
    omega
  | succ r ih =>
    intro l1 l3 l4 l5 l6 h hm y0 y1 y2 y3  m75 J Sm
    have el5 := jfull l5
    refine x_iload (x := l6) rfl rfl ?_
    refine x_aloadn (x := 125) rfl rfl ?_
    refine z_getR (N := 92) (b := 126) 12 2 rfl f_12_8 rfl J rfl 16002 ⟨rfl, rfl⟩ rfl ?_
    refine x_bipush (v := 9) rfl kb_9 ?_
    refine z_iald (N := 50660) rfl J rfl sg_126_9_10_1_0_1 jk_9 (by omega) (fun v1 qv1 ev1 => ?_)
    refine x_icge (tgt := 214) rfl rfl (ti_ge rfl rfl ⟨fun c2 => ?_, fun c2 => ?_⟩)
    ·
      refine x_aloadn (x := 125) rfl rfl ?_
      refine z_getR (N := 92) (b := 162) 12 77 rfl f_12_144 rfl J rfl 16077 ⟨rfl, rfl⟩ rfl ?_
      refine x_bipush (v := 40) rfl kb_40 ?_
      refine x_iloadn (x := 1) rfl rfl ?_
      refine y_imul (v := 40) rfl (by decide) ?_
      refine x_iload (x := l4) rfl rfl ?_
      refine z_iadd rfl jk_40 rfl (by omega) (fun v3 ev3 => ?_)
      refine x_iload (x := l5) rfl rfl ?_
      refine z_iast (N := 80) (l := 40) (u := 80) (w := l5.toInt) rfl hD J Sm rfl rfl rfl (by omega) rfl (wr_162_40 (by omega)) rfl (fun h w4 J Sm => ?_)
      refine x_aloadn (x := 125) rfl rfl ?_
      refine x_ldcw (v := 47900) rfl z_12_808 ?_
      refine x_aloadn (x := 125) rfl rfl ?_
      refine z_getR (N := 92) (b := 126) 12 2 rfl f_12_8 rfl J rfl 16002 ⟨rfl, rfl⟩ rfl ?_
      refine x_bipush (v := 10) rfl kb_10 ?_
      refine z_iald (N := 50660) rfl J rfl sg_126_10_11_1_0_1 jk_10 (by omega) (fun v5 qv5 ev5 => ?_)
      refine x_iload (x := l4) rfl rfl ?_
      refine x_iloadn (x := l1) rfl rfl ?_
      refine x_inv (N := m_X12_latest) (As := [.int 47900, .int v5, .int l4, .int l1]) (b := 125) (st := []) (dx9 := 1) (mc := 0) (ms := 0) (host := "") 12 rfl t_X12_latest ⟨Or.inl q_12_801, i_X12_latest.1, i_X12_latest.2⟩ ⟨by decide, rfl⟩ (congrArg Prod.fst (J.1.1 125 (12, 92) rfl)) rfl (by decide) rfl rfl ⟨by decide, by decide⟩ (sf_X12_latest_r125_c47900 (jr_of rfl (by omega)) (jr_of rfl (by omega)) (jr_of rfl (by omega)) hD J  (fun v7 h ev7 J S6 => ?_))
      have Sm := jSm_tr rfl Sm S6
      show jX m_X12_findHouses 2 0 0 245 [(0, .ref 125), (1, .int l1), (2, .int 1), (3, .int l3), (4, .int l4), (5, .int l5), (6, .int l6)] [.int v7] _ 0 0 _
      refine x_istore (lsx9 := [(6, .int v7), (0, .ref 125), (1, .int l1), (2, .int 1), (3, .int l3), (4, .int l4), (5, .int l5)]) rfl rfl rfl ?_
      refine x_aloadn (x := 125) rfl rfl ?_
      refine x_iload (x := l4) rfl rfl ?_
      refine x_inv (N := m_X12_splitOf) (As := [.int l4]) (b := 125) (st := []) (dx9 := 1) (mc := 0) (ms := 0) (host := "") 12 rfl t_X12_splitOf ⟨Or.inl q_12_805, i_X12_splitOf.1, i_X12_splitOf.2⟩ ⟨by decide, rfl⟩ (congrArg Prod.fst (J.1.1 125 (12, 92) rfl)) rfl (by decide) rfl rfl ⟨by decide, by decide⟩ (sf_X12_splitOf_r125 (jr_of rfl (by omega)) hD J  (fun v9 h ev9 xv9 J S8 => ?_))
      have Sm := jSm_tr rfl Sm S8
      show jX m_X12_findHouses 2 0 0 253 [(6, .int v7), (0, .ref 125), (1, .int l1), (2, .int 1), (3, .int l3), (4, .int l4), (5, .int l5)] [.int v9] _ 0 0 _
      refine x_istore (lsx9 := [(7, .int v9), (6, .int v7), (0, .ref 125), (1, .int l1), (2, .int 1), (3, .int l3), (4, .int l4), (5, .int l5)]) rfl rfl rfl ?_
      refine x_aloadn (x := 125) rfl rfl ?_
      refine z_getR (N := 92) (b := 163) 12 78 rfl f_12_147 rfl J rfl 16078 ⟨rfl, rfl⟩ rfl ?_
      refine x_bipush (v := 40) rfl kb_40 ?_
      refine x_iloadn (x := 1) rfl rfl ?_
      refine y_imul (v := 40) rfl (by decide) ?_
      refine x_iload (x := l4) rfl rfl ?_
      refine z_iadd rfl jk_40 rfl (by omega) (fun v10 ev10 => ?_)
      refine x_iload (x := v7) rfl rfl ?_
      refine x_iflt (tgt := 281) rfl rfl (ti_lt rfl jk_0 ⟨fun c11 => ?_, fun c11 => ?_⟩)
      ·
        refine x_iload (x := v7) rfl rfl ?_
        refine x_iconst (v := (-1)) rfl ki_m1 ?_
        refine x_iceq (tgt := 293) rfl rfl (ti_eq rfl jk_m1 ⟨fun c12 => ?_, fun c12 => ?_⟩)
        ·
          exact jX.sub (jsb_c rfl (jsb_c rfl (jsb_c rfl (jsb_c rfl (jsb_c rfl jsb_n))))) (ct_X12_findHouses_r125_c1_293 hD hQ k75 l1 l3 l4 v10 h (jr_of rfl (by omega)) (jr_of rfl (by omega)) (jr_of rfl (by omega)) (jr_of rfl (by omega)) (by omega) J Sm)
        ·
          refine x_iload (x := v9) rfl rfl ?_
          refine x_iconst (v := (-1)) rfl ki_m1 ?_
          refine x_icne (tgt := 297) rfl rfl (ti_ne rfl jk_m1 ⟨fun c13 => ?_, fun c13 => ?_⟩)
          ·
            refine x_aloadn (x := 125) rfl rfl ?_
            refine z_getR (N := 92) (b := 163) 12 78 rfl f_12_147 rfl J rfl 16078 ⟨rfl, rfl⟩ rfl ?_
            refine x_bipush (v := 40) rfl kb_40 ?_
            refine x_iloadn (x := 1) rfl rfl ?_
            refine y_imul (v := 40) rfl (by decide) ?_
            refine x_aloadn (x := 125) rfl rfl ?_
            refine z_getR (N := 92) (b := 126) 12 2 rfl f_12_8 rfl J rfl 16002 ⟨rfl, rfl⟩ rfl ?_
            refine x_iload (x := v9) rfl rfl ?_
            refine x_iconst (v := 1) rfl ki_1 ?_
            refine z_iadd rfl rfl jk_1 (by omega) (fun v14 ev14 => ?_)
            refine z_iald (N := 50660) rfl J rfl sg_126_47660_47900_6_1_2 rfl (by omega) (fun v15 qv15 ev15 => ?_)
            refine z_iadd rfl jk_40 rfl (by omega) (fun v16 ev16 => ?_)
            refine z_iald (N := 80) rfl J rfl sg_163_0_80_1_0_1 rfl (by omega) (fun v17 qv17 ev17 => ?_)
            exact jX.sub (jsb_c rfl (jsb_c rfl (jsb_c rfl (jsb_c rfl (jsb_c rfl jsb_n))))) (ct_X12_findHouses_r125_c1_316 hD hQ k75 l1 l3 l4 v17 v10 h (jr_of rfl (by omega)) (jr_of rfl (by omega)) (jr_of rfl (by omega)) (jr_of rfl (by omega)) (jr_of rfl (by omega)) (by omega) J Sm)
          ·
            exact jX.sub (jsb_c rfl (jsb_c rfl (jsb_c rfl (jsb_c rfl (jsb_c rfl jsb_n))))) (ct_X12_findHouses_r125_c1_293 hD hQ k75 l1 l3 l4 v10 h (jr_of rfl (by omega)) (jr_of rfl (by omega)) (jr_of rfl (by omega)) (jr_of rfl (by omega)) (by omega) J Sm)
      ·
        refine x_aloadn (x := 125) rfl rfl ?_
        refine z_getR (N := 92) (b := 139) 12 29 rfl f_12_72 rfl J rfl 16029 ⟨rfl, rfl⟩ rfl ?_
        refine x_iload (x := v7) rfl rfl ?_
        refine z_iald (N := 600) rfl J rfl sg_139_0_600_1_0_1 rfl (by omega) (fun v18 qv18 ev18 => ?_)
        refine x_goto (tgt := 316) rfl rfl ?_
        exact jX.sub (jsb_c rfl (jsb_c rfl (jsb_c rfl (jsb_c rfl (jsb_c rfl jsb_n))))) (ct_X12_findHouses_r125_c1_316 hD hQ k75 l1 l3 l4 v18 v10 h (jr_of rfl (by omega)) (jr_of rfl (by omega)) (jr_of rfl (by omega)) (jr_of rfl (by omega)) (jr_of rfl (by omega)) (by omega) J Sm)
    ·
      refine x_ldcw (v := 47660) rfl z_12_799 ?_
      refine x_bipush (v := 6) rfl kb_6 ?_
      refine x_iload (x := l6) rfl rfl ?_
      refine z_imul rfl jk_6 rfl (by omega) (fun v19 ev19 => ?_)
      refine z_iadd rfl jk_47660 rfl (by omega) (fun v20 ev20 => ?_)
      refine x_istore (lsx9 := [(7, .int v20), (0, .ref 125), (1, .int l1), (2, .int 1), (3, .int l3), (4, .int l4), (5, .int l5), (6, .int l6)]) rfl rfl rfl ?_
      refine x_aloadn (x := 125) rfl rfl ?_
      refine z_getR (N := 92) (b := 126) 12 2 rfl f_12_8 rfl J rfl 16002 ⟨rfl, rfl⟩ rfl ?_
      refine x_iload (x := v20) rfl rfl ?_
      refine x_iconst (v := 1) rfl ki_1 ?_
      refine z_iadd rfl rfl jk_1 (by omega) (fun v21 ev21 => ?_)
      refine z_iald (N := 50660) rfl J rfl sg_126_47660_47900_6_1_2 rfl (by omega) (fun v22 qv22 ev22 => ?_)
      refine x_iload (x := l4) rfl rfl ?_
      refine x_icne (tgt := 208) rfl rfl (ti_ne rfl rfl ⟨fun c23 => ?_, fun c23 => ?_⟩)
      ·
        exact jX.sub (jsb_c rfl (jsb_c rfl (jsb_c rfl (jsb_c rfl (jsb_c rfl (jsb_c rfl (jsb_c rfl jsb_n))))))) (ct_X12_findHouses_r125_c1_208 hD hQ k75 ih l1 l3 l4 l5 l6 h (jr_of rfl (by omega)) (jr_of rfl (by omega)) (jr_of rfl (by omega)) (jr_of rfl (by omega)) (by omega) (by omega) J Sm)
      ·
        refine x_aloadn (x := 125) rfl rfl ?_
        refine z_getR (N := 92) (b := 126) 12 2 rfl f_12_8 rfl J rfl 16002 ⟨rfl, rfl⟩ rfl ?_
        refine x_iload (x := v20) rfl rfl ?_
        refine x_iconst (v := 4) rfl ki_4 ?_
        refine z_iadd rfl rfl jk_4 (by omega) (fun v24 ev24 => ?_)
        refine z_iald (N := 50660) rfl J rfl sg_126_47660_47900_6_4_5 rfl (by omega) (fun v25 qv25 ev25 => ?_)
        refine x_iloadn (x := l1) rfl rfl ?_
        refine x_icgt (tgt := 208) rfl rfl (ti_gt rfl rfl ⟨fun c26 => ?_, fun c26 => ?_⟩)
        ·
          exact jX.sub (jsb_c rfl (jsb_c rfl (jsb_c rfl (jsb_c rfl (jsb_c rfl (jsb_c rfl (jsb_c rfl jsb_n))))))) (ct_X12_findHouses_r125_c1_208 hD hQ k75 ih l1 l3 l4 l5 l6 h (jr_of rfl (by omega)) (jr_of rfl (by omega)) (jr_of rfl (by omega)) (jr_of rfl (by omega)) (by omega) (by omega) J Sm)
        ·
          refine x_aloadn (x := 125) rfl rfl ?_
          refine z_getR (N := 92) (b := 126) 12 2 rfl f_12_8 rfl J rfl 16002 ⟨rfl, rfl⟩ rfl ?_
          refine x_iload (x := v20) rfl rfl ?_
          refine x_iconst (v := 5) rfl ki_5 ?_
          refine z_iadd rfl rfl jk_5 (by omega) (fun v27 ev27 => ?_)
          refine z_iald (N := 50660) rfl J rfl sg_126_47660_47900_6_5_6 rfl (by omega) (fun v28 qv28 ev28 => ?_)
          refine x_aloadn (x := 125) rfl rfl ?_
          refine z_getI (N := 92) 12 28 rfl f_12_377 rfl J rfl sg_125_28_29_1_0_1 (fun v29 qv29 ev29 => ?_)
          refine x_icgt (tgt := 208) rfl rfl (ti_gt rfl rfl ⟨fun c30 => ?_, fun c30 => ?_⟩)
          ·
            exact jX.sub (jsb_c rfl (jsb_c rfl (jsb_c rfl (jsb_c rfl (jsb_c rfl (jsb_c rfl (jsb_c rfl jsb_n))))))) (ct_X12_findHouses_r125_c1_208 hD hQ k75 ih l1 l3 l4 l5 l6 h (jr_of rfl (by omega)) (jr_of rfl (by omega)) (jr_of rfl (by omega)) (jr_of rfl (by omega)) (by omega) (by omega) J Sm)
          ·
            refine x_iload (x := l5) rfl rfl ?_
            refine z_i2l rfl rfl (fun v31 ev31 => ?_)
            refine x_aloadn (x := 125) rfl rfl ?_
            refine z_getR (N := 92) (b := 126) 12 2 rfl f_12_8 rfl J rfl 16002 ⟨rfl, rfl⟩ rfl ?_
            refine x_iload (x := v20) rfl rfl ?_
            refine x_iconst (v := 2) rfl ki_2 ?_
            refine z_iadd rfl rfl jk_2 (by omega) (fun v32 ev32 => ?_)
            refine z_iald (N := 50660) rfl J rfl sg_126_47660_47900_6_2_3 rfl (by omega) (fun v33 qv33 ev33 => ?_)
            refine z_i2l rfl rfl (fun v34 ev34 => ?_)
            refine z_lmul0 rfl (fun v35 => ?_)
            have ev35 := jfullL v35
            refine x_aloadn (x := 125) rfl rfl ?_
            refine z_getR (N := 92) (b := 126) 12 2 rfl f_12_8 rfl J rfl 16002 ⟨rfl, rfl⟩ rfl ?_
            refine x_iload (x := v20) rfl rfl ?_
            refine x_iconst (v := 3) rfl ki_3 ?_
            refine z_iadd rfl rfl jk_3 (by omega) (fun v36 ev36 => ?_)
            refine z_iald (N := 50660) rfl J rfl sg_126_47660_47900_6_3_4 rfl (by omega) (fun v37 qv37 ev37 => ?_)
            have sv37 := jspt_at (p := l6.toInt) hD J (by omega) (by omega) qv1 qv37
            refine z_i2l rfl rfl (fun v38 ev38 => ?_)
            refine z_ldiv0 rfl rfl (by omega) (fun v39 => ?_)
            have ev39 := jfullL v39
            refine z_l2i0 rfl (fun v40 => ?_)
            refine x_istore (lsx9 := [(8, .int v40), (7, .int v20), (0, .ref 125), (1, .int l1), (2, .int 1), (3, .int l3), (4, .int l4), (5, .int l5), (6, .int l6)]) rfl rfl rfl ?_
            refine x_aloadn (x := 125) rfl rfl ?_
            refine z_getR (N := 92) (b := 164) 12 79 rfl f_12_150 rfl J rfl 16079 ⟨rfl, rfl⟩ rfl ?_
            refine x_aloadn (x := 125) rfl rfl ?_
            refine z_getR (N := 92) (b := 126) 12 2 rfl f_12_8 rfl J rfl 16002 ⟨rfl, rfl⟩ rfl ?_
            refine x_iload (x := v20) rfl rfl ?_
            refine z_iald (N := 50660) rfl J rfl sg_126_47660_47900_6_0_1 rfl (by omega) (fun v41 qv41 ev41 => ?_)
            refine x_iload (x := v40) rfl rfl ?_
            refine z_iast (N := 40) (l := 0) (u := 40) (w := v40.toInt) rfl hD J Sm rfl rfl rfl (by omega) rfl (wr_164) rfl (fun h w42 J Sm => ?_)
            refine x_iload (x := l5) rfl rfl ?_
            refine x_iload (x := v40) rfl rfl ?_
            refine z_isub0 rfl (fun v43 => ?_)
            have ev43 := jfull v43
            refine x_istore (lsx9 := [(5, .int v43), (8, .int v40), (7, .int v20), (0, .ref 125), (1, .int l1), (2, .int 1), (3, .int l3), (4, .int l4), (6, .int l6)]) rfl rfl rfl ?_
            exact jX.sub (jsb_c rfl (jsb_c rfl (jsb_c rfl (jsb_c rfl (jsb_c rfl (jsb_c rfl (jsb_c rfl jsb_n))))))) (ct_X12_findHouses_r125_c1_208 hD hQ k75 ih l1 l3 l4 v43 l6 h (jr_of rfl (by omega)) (jr_of rfl (by omega)) (jr_of rfl (by omega)) (jr_of rfl (by omega)) (by omega) (by omega) J Sm)
set_option maxRecDepth 100000 in
set_option maxHeartbeats 4000000 in
theorem ct_X12_findHouses_r125_c1_75 {Dy : jH → Prop} {h0 : jH} {Q : Option Value → jH → Prop} (hD : jDk Dy) (hQ : ∀ hx9, jJ jSgM Dy hx9 → jSm fp_X12_findHouses_r125_c1 h0 hx9 → Q none hx9) : ∀ r : Nat, ∀ (l1 : Int32) (l3 : Int32) (l4 : Int32) (h : jH), 40 - l4.toInt < (r : Int) → 0 ≤ l1.toInt ∧ l1.toInt ≤ 146399 → 0 ≤ l3.toInt ∧ l3.toInt ≤ 40 → 0 ≤ l4.toInt ∧ l4.toInt ≤ 40 → jJ jSgM Dy h → jSm fp_X12_findHouses_r125_c1 h0 h → jX m_X12_findHouses 2 0 0 75 [(0, .ref 125), (1, .int l1), (2, .int 1), (3, .int l3), (4, .int l4)] [] h 0 0 Q := by
  intro r
  induction r with
  | zero =>
    intro l1 l3 l4 h hm y0 y1 y2   J Sm
    exfalso
    omega
  | succ r ih =>
    intro l1 l3 l4 h hm y0 y1 y2   J Sm
    refine x_iload (x := l4) rfl rfl ?_
    refine x_iloadn (x := l3) rfl rfl ?_
    refine x_icge (tgt := 323) rfl rfl (ti_ge rfl rfl ⟨fun c1 => ?_, fun c1 => ?_⟩)
    ·
      refine x_vret rfl rfl ?_
      exact hQ _ J Sm
    ·
      refine x_aloadn (x := 125) rfl rfl ?_
      refine z_getR (N := 92) (b := 164) 12 79 rfl f_12_150 rfl J rfl 16079 ⟨rfl, rfl⟩ rfl ?_
      refine x_iload (x := l4) rfl rfl ?_
      refine z_iald0 (N := 40) rfl J rfl rfl (by omega) (fun v2 qv2 => ?_)
      have ev2 := jfull v2
      refine x_istore (lsx9 := [(5, .int v2), (0, .ref 125), (1, .int l1), (2, .int 1), (3, .int l3), (4, .int l4)]) rfl rfl rfl ?_
      refine x_iconst (v := 0) rfl ki_0 ?_
      refine x_istore (lsx9 := [(6, .int 0), (5, .int v2), (0, .ref 125), (1, .int l1), (2, .int 1), (3, .int l3), (4, .int l4)]) rfl rfl rfl ?_
      exact jX.sub (jsb_c rfl (jsb_c rfl (jsb_c rfl (jsb_c rfl (jsb_c rfl (jsb_c rfl (jsb_c rfl jsb_n))))))) (ct_X12_findHouses_r125_c1_93 hD hQ ih 41 l1 l3 l4 v2 0 h (by have := jk_0; omega) (jr_of rfl (by omega)) (jr_of rfl (by omega)) (jr_of rfl (by omega)) (jr_of jk_0 (by omega)) (by omega) J Sm)
set_option maxRecDepth 100000 in
set_option maxHeartbeats 4000000 in
theorem ct_X12_findHouses_r125_c1_65 {Dy : jH → Prop} {h0 : jH} {Q : Option Value → jH → Prop} {R11 : Int} (hD : jDk Dy) (hQ : ∀ hx9, jJ jSgM Dy hx9 → jSm fp_X12_findHouses_r125_c1 h0 hx9 → Q none hx9) (k11 : ∀ (l1 : Int32) (l3 : Int32) (l4 : Int32) (h : jH), 40 - l4.toInt < R11 → 0 ≤ l1.toInt ∧ l1.toInt ≤ 146399 → 0 ≤ l3.toInt ∧ l3.toInt ≤ 40 → 0 ≤ l4.toInt ∧ l4.toInt ≤ 40 → jJ jSgM Dy h → jSm fp_X12_findHouses_r125_c1 h0 h → jX m_X12_findHouses 2 0 0 11 [(0, .ref 125), (1, .int l1), (2, .int 1), (3, .int l3), (4, .int l4)] [] h 0 0 Q) : ∀ (l1 : Int32) (l3 : Int32) (l4 : Int32) (s0 : Int32) (s1 : Int32) (h : jH), 0 ≤ l1.toInt ∧ l1.toInt ≤ 146399 → 1 ≤ l3.toInt ∧ l3.toInt ≤ 40 → 0 ≤ l4.toInt ∧ l4.toInt ≤ 39 → (-1) ≤ s0.toInt ∧ s0.toInt ≤ 10000 → 0 ≤ s1.toInt ∧ s1.toInt ≤ 39 → 40 - l4.toInt ≤ R11 → jJ jSgM Dy h → jSm fp_X12_findHouses_r125_c1 h0 h → jX m_X12_findHouses 2 0 0 65 [(0, .ref 125), (1, .int l1), (2, .int 1), (3, .int l3), (4, .int l4)] [.int s0, .int s1, .ref 164] h 0 0 Q := by
  intro l1 l3 l4 s0 s1 h y0 y1 y2 y3 y4  m11 J Sm
  refine z_iast (N := 40) (l := 0) (u := 40) (w := s0.toInt) rfl hD J Sm rfl rfl rfl (by omega) rfl (wr_164) rfl (fun h w1 J Sm => ?_)
  refine z_iinc (x := l4) (lsx9 := fun v2 => [(4, .int v2), (0, .ref 125), (1, .int l1), (2, .int 1), (3, .int l3)]) rfl rfl rfl jko_1 (by omega) rfl (fun _ => rfl) (fun v2 ev2 => ?_)
  refine x_goto (tgt := 11) rfl rfl ?_
  exact jX.sub (jsb_c rfl (jsb_c rfl (jsb_c rfl (jsb_c rfl (jsb_c rfl jsb_n))))) (k11 l1 l3 v2 h (by omega) (jr_of rfl (by omega)) (jr_of rfl (by omega)) (jr_of rfl (by omega)) J Sm)
set_option maxRecDepth 100000 in
set_option maxHeartbeats 4000000 in
theorem ct_X12_findHouses_r125_c1_200065 {Dy : jH → Prop} {h0 : jH} {Q : Option Value → jH → Prop} {R11 : Int} (hD : jDk Dy) (hQ : ∀ hx9, jJ jSgM Dy hx9 → jSm fp_X12_findHouses_r125_c1 h0 hx9 → Q none hx9) (k11 : ∀ (l1 : Int32) (l3 : Int32) (l4 : Int32) (h : jH), 40 - l4.toInt < R11 → 0 ≤ l1.toInt ∧ l1.toInt ≤ 146399 → 0 ≤ l3.toInt ∧ l3.toInt ≤ 40 → 0 ≤ l4.toInt ∧ l4.toInt ≤ 40 → jJ jSgM Dy h → jSm fp_X12_findHouses_r125_c1 h0 h → jX m_X12_findHouses 2 0 0 11 [(0, .ref 125), (1, .int l1), (2, .int 1), (3, .int l3), (4, .int l4)] [] h 0 0 Q) : ∀ (l1 : Int32) (l3 : Int32) (l4 : Int32) (s1 : Int32) (h : jH), 0 ≤ l1.toInt ∧ l1.toInt ≤ 146399 → 1 ≤ l3.toInt ∧ l3.toInt ≤ 40 → 0 ≤ l4.toInt ∧ l4.toInt ≤ 39 → 0 ≤ s1.toInt ∧ s1.toInt ≤ 39 → 40 - l4.toInt ≤ R11 → jJ jSgM Dy h → jSm fp_X12_findHouses_r125_c1 h0 h → jX m_X12_findHouses 2 0 0 65 [(0, .ref 125), (1, .int l1), (2, .int 1), (3, .int l3), (4, .int l4)] [.int 0, .int s1, .ref 164] h 0 0 Q := by
  intro l1 l3 l4 s1 h y0 y1 y2 y3  m11 J Sm
  refine z_iast (N := 40) (l := 0) (u := 40) (w := 0) rfl hD J Sm rfl rfl rfl (by omega) jk_0 (wr_164) rfl (fun h w1 J Sm => ?_)
  refine z_iinc (x := l4) (lsx9 := fun v2 => [(4, .int v2), (0, .ref 125), (1, .int l1), (2, .int 1), (3, .int l3)]) rfl rfl rfl jko_1 (by omega) rfl (fun _ => rfl) (fun v2 ev2 => ?_)
  refine x_goto (tgt := 11) rfl rfl ?_
  exact jX.sub (jsb_c rfl (jsb_c rfl (jsb_c rfl (jsb_c rfl (jsb_c rfl jsb_n))))) (k11 l1 l3 v2 h (by omega) (jr_of rfl (by omega)) (jr_of rfl (by omega)) (jr_of rfl (by omega)) J Sm)
set_option maxRecDepth 100000 in
set_option maxHeartbeats 4000000 in
theorem ct_X12_findHouses_r125_c1_59 {Dy : jH → Prop} {h0 : jH} {Q : Option Value → jH → Prop} {R11 : Int} (hD : jDk Dy) (hQ : ∀ hx9, jJ jSgM Dy hx9 → jSm fp_X12_findHouses_r125_c1 h0 hx9 → Q none hx9) (k11 : ∀ (l1 : Int32) (l3 : Int32) (l4 : Int32) (h : jH), 40 - l4.toInt < R11 → 0 ≤ l1.toInt ∧ l1.toInt ≤ 146399 → 0 ≤ l3.toInt ∧ l3.toInt ≤ 40 → 0 ≤ l4.toInt ∧ l4.toInt ≤ 40 → jJ jSgM Dy h → jSm fp_X12_findHouses_r125_c1 h0 h → jX m_X12_findHouses 2 0 0 11 [(0, .ref 125), (1, .int l1), (2, .int 1), (3, .int l3), (4, .int l4)] [] h 0 0 Q) : ∀ (l1 : Int32) (l3 : Int32) (l4 : Int32) (s0 : Int32) (h : jH), 0 ≤ l1.toInt ∧ l1.toInt ≤ 146399 → 1 ≤ l3.toInt ∧ l3.toInt ≤ 40 → 0 ≤ l4.toInt ∧ l4.toInt ≤ 39 → 0 ≤ s0.toInt ∧ s0.toInt ≤ 39 → 40 - l4.toInt ≤ R11 → jJ jSgM Dy h → jSm fp_X12_findHouses_r125_c1 h0 h → jX m_X12_findHouses 2 0 0 59 [(0, .ref 125), (1, .int l1), (2, .int 1), (3, .int l3), (4, .int l4)] [.int s0, .ref 164] h 0 0 Q := by
  intro l1 l3 l4 s0 h y0 y1 y2 y3  m11 J Sm
  refine x_iconst (v := 0) rfl ki_0 ?_
  refine x_goto (tgt := 65) rfl rfl ?_
  exact jX.sub (jsb_c rfl (jsb_c rfl (jsb_c rfl (jsb_c rfl (jsb_c rfl jsb_n))))) (ct_X12_findHouses_r125_c1_200065 hD hQ k11 l1 l3 l4 s0 h (jr_of rfl (by omega)) (jr_of rfl (by omega)) (jr_of rfl (by omega)) (jr_of rfl (by omega)) (by omega) J Sm)
set_option maxRecDepth 100000 in
set_option maxHeartbeats 4000000 in
theorem ct_X12_findHouses_r125_c1_11 {Dy : jH → Prop} {h0 : jH} {Q : Option Value → jH → Prop} (hD : jDk Dy) (hQ : ∀ hx9, jJ jSgM Dy hx9 → jSm fp_X12_findHouses_r125_c1 h0 hx9 → Q none hx9) : ∀ r : Nat, ∀ (l1 : Int32) (l3 : Int32) (l4 : Int32) (h : jH), 40 - l4.toInt < (r : Int) → 0 ≤ l1.toInt ∧ l1.toInt ≤ 146399 → 0 ≤ l3.toInt ∧ l3.toInt ≤ 40 → 0 ≤ l4.toInt ∧ l4.toInt ≤ 40 → jJ jSgM Dy h → jSm fp_X12_findHouses_r125_c1 h0 h → jX m_X12_findHouses 2 0 0 11 [(0, .ref 125), (1, .int l1), (2, .int 1), (3, .int l3), (4, .int l4)] [] h 0 0 Q := by
  intro r
  induction r with
  | zero =>
    intro l1 l3 l4 h hm y0 y1 y2   J Sm
    exfalso
    omega
  | succ r ih =>
    intro l1 l3 l4 h hm y0 y1 y2   J Sm
    refine x_iload (x := l4) rfl rfl ?_
    refine x_iloadn (x := l3) rfl rfl ?_
    refine x_icge (tgt := 72) rfl rfl (ti_ge rfl rfl ⟨fun c1 => ?_, fun c1 => ?_⟩)
    ·
      refine x_iconst (v := 0) rfl ki_0 ?_
      refine x_istore (lsx9 := [(4, .int 0), (0, .ref 125), (1, .int l1), (2, .int 1), (3, .int l3)]) rfl rfl rfl ?_
      exact jX.sub (jsb_c rfl (jsb_c rfl (jsb_c rfl (jsb_c rfl (jsb_c rfl jsb_n))))) (ct_X12_findHouses_r125_c1_75 hD hQ  41 l1 l3 0 h (by have := jk_0; omega) (jr_of rfl (by omega)) (jr_of rfl (by omega)) (jr_of jk_0 (by omega)) J Sm)
    ·
      refine x_aloadn (x := 125) rfl rfl ?_
      refine x_ldcw (v := 47260) rfl z_12_800 ?_
      refine x_aloadn (x := 125) rfl rfl ?_
      refine z_getR (N := 92) (b := 126) 12 2 rfl f_12_8 rfl J rfl 16002 ⟨rfl, rfl⟩ rfl ?_
      refine x_bipush (v := 8) rfl kb_8 ?_
      refine z_iald (N := 50660) rfl J rfl sg_126_8_9_1_0_1 jk_8 (by omega) (fun v2 qv2 ev2 => ?_)
      refine x_iload (x := l4) rfl rfl ?_
      refine x_iloadn (x := l1) rfl rfl ?_
      refine x_inv (N := m_X12_latest) (As := [.int 47260, .int v2, .int l4, .int l1]) (b := 125) (st := []) (dx9 := 1) (mc := 0) (ms := 0) (host := "") 12 rfl t_X12_latest ⟨Or.inl q_12_801, i_X12_latest.1, i_X12_latest.2⟩ ⟨by decide, rfl⟩ (congrArg Prod.fst (J.1.1 125 (12, 92) rfl)) rfl (by decide) rfl rfl ⟨by decide, by decide⟩ (sf_X12_latest_r125_c47260 (jr_of rfl (by omega)) (jr_of rfl (by omega)) (jr_of rfl (by omega)) hD J  (fun v4 h ev4 J S3 => ?_))
      have Sm := jSm_tr rfl Sm S3
      show jX m_X12_findHouses 2 0 0 34 [(0, .ref 125), (1, .int l1), (2, .int 1), (3, .int l3), (4, .int l4)] [.int v4] _ 0 0 _
      refine x_istore (lsx9 := [(5, .int v4), (0, .ref 125), (1, .int l1), (2, .int 1), (3, .int l3), (4, .int l4)]) rfl rfl rfl ?_
      refine x_aloadn (x := 125) rfl rfl ?_
      refine z_getR (N := 92) (b := 164) 12 79 rfl f_12_150 rfl J rfl 16079 ⟨rfl, rfl⟩ rfl ?_
      refine x_iload (x := l4) rfl rfl ?_
      refine x_aloadn (x := 125) rfl rfl ?_
      refine x_iload (x := l4) rfl rfl ?_
      refine x_inv (N := m_X12_splitOf) (As := [.int l4]) (b := 125) (st := [.int l4, .ref 164]) (dx9 := 1) (mc := 0) (ms := 0) (host := "") 12 rfl t_X12_splitOf ⟨Or.inl q_12_805, i_X12_splitOf.1, i_X12_splitOf.2⟩ ⟨by decide, rfl⟩ (congrArg Prod.fst (J.1.1 125 (12, 92) rfl)) rfl (by decide) rfl rfl ⟨by decide, by decide⟩ (sf_X12_splitOf_r125 (jr_of rfl (by omega)) hD J  (fun v6 h ev6 xv6 J S5 => ?_))
      have Sm := jSm_tr rfl Sm S5
      show jX m_X12_findHouses 2 0 0 48 [(5, .int v4), (0, .ref 125), (1, .int l1), (2, .int 1), (3, .int l3), (4, .int l4)] [.int v6, .int l4, .ref 164] _ 0 0 _
      refine x_iconst (v := (-1)) rfl ki_m1 ?_
      refine x_icne (tgt := 59) rfl rfl (ti_ne rfl jk_m1 ⟨fun c7 => ?_, fun c7 => ?_⟩)
      ·
        exact jX.sub (jsb_c rfl (jsb_c rfl (jsb_c rfl (jsb_c rfl (jsb_c rfl jsb_n))))) (ct_X12_findHouses_r125_c1_59 hD hQ ih l1 l3 l4 l4 h (jr_of rfl (by omega)) (jr_of rfl (by omega)) (jr_of rfl (by omega)) (jr_of rfl (by omega)) (by omega) J Sm)
      ·
        refine x_iload (x := v4) rfl rfl ?_
        refine x_bipush (v := (-2)) rfl kb_m2 ?_
        refine x_icne (tgt := 63) rfl rfl (ti_ne rfl jk_m2 ⟨fun c8 => ?_, fun c8 => ?_⟩)
        ·
          refine x_iload (x := v4) rfl rfl ?_
          exact jX.sub (jsb_c rfl (jsb_c rfl (jsb_c rfl (jsb_c rfl (jsb_c rfl jsb_n))))) (ct_X12_findHouses_r125_c1_65 hD hQ ih l1 l3 l4 v4 l4 h (jr_of rfl (by omega)) (jr_of rfl (by omega)) (jr_of rfl (by omega)) (jr_of rfl (by omega)) (jr_of rfl (by omega)) (by omega) J Sm)
        ·
          exact jX.sub (jsb_c rfl (jsb_c rfl (jsb_c rfl (jsb_c rfl (jsb_c rfl jsb_n))))) (ct_X12_findHouses_r125_c1_59 hD hQ ih l1 l3 l4 l4 h (jr_of rfl (by omega)) (jr_of rfl (by omega)) (jr_of rfl (by omega)) (jr_of rfl (by omega)) (by omega) J Sm)
set_option maxRecDepth 100000 in
set_option maxHeartbeats 4000000 in
theorem sf_X12_findHouses_r125_c1 {Dy : jH → Prop} {h : jH} {Q : Option Value → jH → Prop} {a1 : Int32} (y1 : 0 ≤ a1.toInt ∧ a1.toInt ≤ 146399) (hD : jDk Dy) (J : jJ jSgM Dy h) (hQ : ∀ hx9, jJ jSgM Dy hx9 → jSm fp_X12_findHouses_r125_c1 h hx9 → Q none hx9) : jC m_X12_findHouses 2 0 0 [.ref 125, .int a1, .int 1] h Q := by
  refine jC.of rfl k_X12_findHouses rfl ?_
  have Sm := jSm_rf fp_X12_findHouses_r125_c1 h
  show jX m_X12_findHouses 2 0 0 0 [(0, .ref 125), (1, .int a1), (2, .int 1)] [] _ 0 0 _
  refine x_aloadn (x := 125) rfl rfl ?_
  refine z_getR (N := 92) (b := 126) 12 2 rfl f_12_8 rfl J rfl 16002 ⟨rfl, rfl⟩ rfl ?_
  refine x_bipush (v := 7) rfl kb_7 ?_
  refine z_iald (N := 50660) rfl J rfl sg_126_7_8_1_0_1 jk_7 (by omega) (fun v1 qv1 ev1 => ?_)
  refine x_istoren (lsx9 := [(3, .int v1), (0, .ref 125), (1, .int a1), (2, .int 1)]) rfl rfl rfl ?_
  refine x_iconst (v := 0) rfl ki_0 ?_
  refine x_istore (lsx9 := [(4, .int 0), (3, .int v1), (0, .ref 125), (1, .int a1), (2, .int 1)]) rfl rfl rfl ?_
  exact jX.sub (jsb_c rfl (jsb_c rfl (jsb_c rfl (jsb_c rfl (jsb_c rfl jsb_n))))) (ct_X12_findHouses_r125_c1_11 hD hQ  41 a1 v1 0 h (by have := jk_0; omega) (jr_of rfl (by omega)) (jr_of rfl (by omega)) (jr_of jk_0 (by omega)) J Sm)
def fp_X12_isExempt_r125 : jFp := [(125, 32, 33), (125, 33, 34), (125, 34, 35), (125, 35, 36), (125, 57, 58), (125, 61, 62), (125, 62, 63), (125, 63, 64), (152, 0, 360), (153, 0, 30), (154, 0, 400), (162, 0, 40), (163, 0, 40), (164, 0, 40)]
set_option maxRecDepth 100000 in
set_option maxHeartbeats 4000000 in
theorem ct_X12_isExempt_r125_83 {Dy : jH → Prop} {h0 : jH} {Q : Option Value → jH → Prop} {R3 : Int} {R17 : Int} (hD : jDk Dy) (hQ : ∀ (v : Int32) hx9, 0 ≤ v.toInt ∧ v.toInt ≤ 1 → jJ jSgM Dy hx9 → jSm fp_X12_isExempt_r125 h0 hx9 → Q (some (.int v)) hx9) (k3 : ∀ (l1 : Int32) (l2 : Int32) (l3 : Int32) (l4 : Int32) (h : jH), 30 - l4.toInt < R3 → 0 ≤ l1.toInt ∧ l1.toInt ≤ 2 → (-1) ≤ l2.toInt ∧ l2.toInt ≤ 599 → 0 ≤ l3.toInt ∧ l3.toInt ≤ 146034 → l3.toInt % 366 = 0 → 0 ≤ l4.toInt ∧ l4.toInt ≤ 30 → jJ jSgM Dy h → jSm fp_X12_isExempt_r125 h0 h → jX m_X12_isExempt 11 0 0 3 [(0, .ref 125), (1, .int l1), (2, .int l2), (3, .int l3), (4, .int l4)] [] h 0 0 Q) (k17 : ∀ (l1 : Int32) (l2 : Int32) (l3 : Int32) (l4 : Int32) (l5 : Int32) (h : jH), 12 - l5.toInt < R17 → 0 ≤ l1.toInt ∧ l1.toInt ≤ 2 → (-1) ≤ l2.toInt ∧ l2.toInt ≤ 599 → 0 ≤ l3.toInt ∧ l3.toInt ≤ 146034 → l3.toInt % 366 = 0 → 0 ≤ l4.toInt ∧ l4.toInt ≤ 29 → 0 ≤ l5.toInt ∧ l5.toInt ≤ 12 → 30 - l4.toInt ≤ R3 → jJ jSgM Dy h → jSm fp_X12_isExempt_r125 h0 h → jX m_X12_isExempt 11 0 0 17 [(0, .ref 125), (1, .int l1), (2, .int l2), (3, .int l3), (4, .int l4), (5, .int l5)] [] h 0 0 Q) : ∀ (l1 : Int32) (l2 : Int32) (l3 : Int32) (l4 : Int32) (l5 : Int32) (h : jH), 0 ≤ l1.toInt ∧ l1.toInt ≤ 2 → (-1) ≤ l2.toInt ∧ l2.toInt ≤ 599 → 0 ≤ l3.toInt ∧ l3.toInt ≤ 146034 → l3.toInt % 366 = 0 → 0 ≤ l4.toInt ∧ l4.toInt ≤ 29 → 0 ≤ l5.toInt ∧ l5.toInt ≤ 11 → 30 - l4.toInt ≤ R3 → 12 - l5.toInt ≤ R17 → jJ jSgM Dy h → jSm fp_X12_isExempt_r125 h0 h → jX m_X12_isExempt 11 0 0 83 [(0, .ref 125), (1, .int l1), (2, .int l2), (3, .int l3), (4, .int l4), (5, .int l5)] [] h 0 0 Q := by
  intro l1 l2 l3 l4 l5 h y0 y1 y2 y3 y4 y5  m3 m17 J Sm
  refine z_iinc (x := l5) (lsx9 := fun v1 => [(5, .int v1), (0, .ref 125), (1, .int l1), (2, .int l2), (3, .int l3), (4, .int l4)]) rfl rfl rfl jko_1 (by omega) rfl (fun _ => rfl) (fun v1 ev1 => ?_)
  refine x_goto (tgt := 17) rfl rfl ?_
  exact jX.sub (jsb_c rfl (jsb_c rfl (jsb_c rfl (jsb_c rfl (jsb_c rfl (jsb_c rfl jsb_n)))))) (k17 l1 l2 l3 l4 v1 h (by omega) (jr_of rfl (by omega)) (jr_of rfl (by omega)) (jr_of rfl (by omega)) (jr_mod rfl (by omega)) (jr_of rfl (by omega)) (jr_of rfl (by omega)) (by omega) J Sm)
set_option maxRecDepth 100000 in
set_option maxHeartbeats 4000000 in
theorem ct_X12_isExempt_r125_17 {Dy : jH → Prop} {h0 : jH} {Q : Option Value → jH → Prop} {R3 : Int} (hD : jDk Dy) (hQ : ∀ (v : Int32) hx9, 0 ≤ v.toInt ∧ v.toInt ≤ 1 → jJ jSgM Dy hx9 → jSm fp_X12_isExempt_r125 h0 hx9 → Q (some (.int v)) hx9) (k3 : ∀ (l1 : Int32) (l2 : Int32) (l3 : Int32) (l4 : Int32) (h : jH), 30 - l4.toInt < R3 → 0 ≤ l1.toInt ∧ l1.toInt ≤ 2 → (-1) ≤ l2.toInt ∧ l2.toInt ≤ 599 → 0 ≤ l3.toInt ∧ l3.toInt ≤ 146034 → l3.toInt % 366 = 0 → 0 ≤ l4.toInt ∧ l4.toInt ≤ 30 → jJ jSgM Dy h → jSm fp_X12_isExempt_r125 h0 h → jX m_X12_isExempt 11 0 0 3 [(0, .ref 125), (1, .int l1), (2, .int l2), (3, .int l3), (4, .int l4)] [] h 0 0 Q) : ∀ r : Nat, ∀ (l1 : Int32) (l2 : Int32) (l3 : Int32) (l4 : Int32) (l5 : Int32) (h : jH), 12 - l5.toInt < (r : Int) → 0 ≤ l1.toInt ∧ l1.toInt ≤ 2 → (-1) ≤ l2.toInt ∧ l2.toInt ≤ 599 → 0 ≤ l3.toInt ∧ l3.toInt ≤ 146034 → l3.toInt % 366 = 0 → 0 ≤ l4.toInt ∧ l4.toInt ≤ 29 → 0 ≤ l5.toInt ∧ l5.toInt ≤ 12 → 30 - l4.toInt ≤ R3 → jJ jSgM Dy h → jSm fp_X12_isExempt_r125 h0 h → jX m_X12_isExempt 11 0 0 17 [(0, .ref 125), (1, .int l1), (2, .int l2), (3, .int l3), (4, .int l4), (5, .int l5)] [] h 0 0 Q := by
  intro r
  induction r with
  | zero =>
    intro l1 l2 l3 l4 l5 h hm y0 y1 y2 y3 y4 y5  m3 J Sm
    exfalso
    omega
  | succ r ih =>
    intro l1 l2 l3 l4 l5 h hm y0 y1 y2 y3 y4 y5  m3 J Sm
    refine x_iload (x := l5) rfl rfl ?_
    refine x_aloadn (x := 125) rfl rfl ?_
    refine z_getR (N := 92) (b := 126) 12 2 rfl f_12_8 rfl J rfl 16002 ⟨rfl, rfl⟩ rfl ?_
    refine x_iload (x := l4) rfl rfl ?_
    refine x_inst (N := m_X12_textAt) (As := [.int l4]) (st := [.ref 126, .int l5]) (dx9 := 10) (mc := 0) (ms := 0) (host := "") rfl t_X12_textAt ⟨Or.inl q_12_676, s_X12_textAt⟩ rfl (by decide) rfl rfl ⟨by decide, by decide⟩ (jC.of rfl k_X12_textAt rfl ?_)
    show jX m_X12_textAt 10 0 0 0 [(0, .int l4)] [] _ 0 0 _
    refine x_sipush (v := 18820) rfl ks_18820 ?_
    refine x_sipush (v := 924) rfl ks_924 ?_
    refine x_iloadn (x := l4) rfl rfl ?_
    refine z_imul rfl jk_924 rfl (by omega) (fun v1 ev1 => ?_)
    refine z_iadd rfl jk_18820 rfl (by omega) (fun v2 ev2 => ?_)
    refine x_iret rfl rfl ?_
    show jX m_X12_isExempt 11 0 0 28 [(0, .ref 125), (1, .int l1), (2, .int l2), (3, .int l3), (4, .int l4), (5, .int l5)] [.int v2, .ref 126, .int l5] _ 0 0 _
    refine x_iconst (v := 3) rfl ki_3 ?_
    refine z_iadd rfl rfl jk_3 (by omega) (fun v3 ev3 => ?_)
    refine z_iald (N := 50660) rfl J rfl sg_126_18820_46540_924_3_4 rfl (by omega) (fun v4 qv4 ev4 => ?_)
    refine x_icge (tgt := 89) rfl rfl (ti_ge rfl rfl ⟨fun c5 => ?_, fun c5 => ?_⟩)
    ·
      refine z_iinc (x := l4) (lsx9 := fun v6 => [(4, .int v6), (0, .ref 125), (1, .int l1), (2, .int l2), (3, .int l3), (5, .int l5)]) rfl rfl rfl jko_1 (by omega) rfl (fun _ => rfl) (fun v6 ev6 => ?_)
      refine x_goto (tgt := 3) rfl rfl ?_
      exact jX.sub (jsb_c rfl (jsb_c rfl (jsb_c rfl (jsb_c rfl (jsb_c rfl jsb_n))))) (k3 l1 l2 l3 v6 h (by omega) (jr_of rfl (by omega)) (jr_of rfl (by omega)) (jr_of rfl (by omega)) (jr_mod rfl (by omega)) (jr_of rfl (by omega)) J Sm)
    ·
      refine x_aloadn (x := 125) rfl rfl ?_
      refine x_iload (x := l4) rfl rfl ?_
      refine x_iload (x := l5) rfl rfl ?_
      refine x_inv (N := m_X12_clauseAt) (As := [.int l4, .int l5]) (b := 125) (st := []) (dx9 := 10) (mc := 0) (ms := 0) (host := "") 12 rfl t_X12_clauseAt ⟨Or.inl q_12_679, i_X12_clauseAt.1, i_X12_clauseAt.2⟩ ⟨by decide, rfl⟩ (congrArg Prod.fst (J.1.1 125 (12, 92) rfl)) rfl (by decide) rfl rfl ⟨by decide, by decide⟩ (jC.of rfl k_X12_clauseAt rfl ?_)
      show jX m_X12_clauseAt 10 0 0 0 [(0, .ref 125), (1, .int l4), (2, .int l5)] [] _ 0 0 _
      refine x_iloadn (x := l4) rfl rfl ?_
      refine x_inst (N := m_X12_textAt) (As := [.int l4]) (st := []) (dx9 := 9) (mc := 0) (ms := 0) (host := "") rfl t_X12_textAt ⟨Or.inl q_12_676, s_X12_textAt⟩ rfl (by decide) rfl rfl ⟨by decide, by decide⟩ (jC.of rfl k_X12_textAt rfl ?_)
      show jX m_X12_textAt 9 0 0 0 [(0, .int l4)] [] _ 0 0 _
      refine x_sipush (v := 18820) rfl ks_18820 ?_
      refine x_sipush (v := 924) rfl ks_924 ?_
      refine x_iloadn (x := l4) rfl rfl ?_
      refine z_imul rfl jk_924 rfl (by omega) (fun v7 ev7 => ?_)
      refine z_iadd rfl jk_18820 rfl (by omega) (fun v8 ev8 => ?_)
      refine x_iret rfl rfl ?_
      show jX m_X12_clauseAt 10 0 0 4 [(0, .ref 125), (1, .int l4), (2, .int l5)] [.int v8] _ 0 0 _
      refine x_iconst (v := 4) rfl ki_4 ?_
      refine z_iadd rfl rfl jk_4 (by omega) (fun v9 ev9 => ?_)
      refine x_bipush (v := 10) rfl kb_10 ?_
      refine x_iloadn (x := l5) rfl rfl ?_
      refine z_imul rfl jk_10 rfl (by omega) (fun v10 ev10 => ?_)
      refine z_iadd rfl rfl rfl (by omega) (fun v11 ev11 => ?_)
      refine x_iret rfl rfl ?_
      show jX m_X12_isExempt 11 0 0 42 [(0, .ref 125), (1, .int l1), (2, .int l2), (3, .int l3), (4, .int l4), (5, .int l5)] [.int v11] _ 0 0 _
      refine x_istore (lsx9 := [(6, .int v11), (0, .ref 125), (1, .int l1), (2, .int l2), (3, .int l3), (4, .int l4), (5, .int l5)]) rfl rfl rfl ?_
      refine x_aloadn (x := 125) rfl rfl ?_
      refine z_getR (N := 92) (b := 126) 12 2 rfl f_12_8 rfl J rfl 16002 ⟨rfl, rfl⟩ rfl ?_
      refine x_iload (x := v11) rfl rfl ?_
      refine z_iald0 (N := 50660) rfl J rfl rfl (by omega) (fun v12 qv12 => ?_)
      have ev12 := jfull v12
      refine x_iconst (v := 2) rfl ki_2 ?_
      refine x_icne (tgt := 83) rfl rfl (ti_ne rfl jk_2 ⟨fun c13 => ?_, fun c13 => ?_⟩)
      ·
        exact jX.sub (jsb_c rfl (jsb_c rfl (jsb_c rfl (jsb_c rfl (jsb_c rfl (jsb_c rfl jsb_n)))))) (ct_X12_isExempt_r125_83 hD hQ k3 ih l1 l2 l3 l4 l5 h (jr_of rfl (by omega)) (jr_of rfl (by omega)) (jr_of rfl (by omega)) (jr_mod rfl (by omega)) (jr_of rfl (by omega)) (jr_of rfl (by omega)) (by omega) (by omega) J Sm)
      ·
        refine x_aloadn (x := 125) rfl rfl ?_
        refine z_getR (N := 92) (b := 126) 12 2 rfl f_12_8 rfl J rfl 16002 ⟨rfl, rfl⟩ rfl ?_
        refine x_iload (x := v11) rfl rfl ?_
        refine x_iconst (v := 1) rfl ki_1 ?_
        refine z_iadd rfl rfl jk_1 (by omega) (fun v14 ev14 => ?_)
        refine z_iald0 (N := 50660) rfl J rfl rfl (by omega) (fun v15 qv15 => ?_)
        have ev15 := jfull v15
        refine x_iloadn (x := l1) rfl rfl ?_
        refine x_icne (tgt := 83) rfl rfl (ti_ne rfl rfl ⟨fun c16 => ?_, fun c16 => ?_⟩)
        ·
          exact jX.sub (jsb_c rfl (jsb_c rfl (jsb_c rfl (jsb_c rfl (jsb_c rfl (jsb_c rfl jsb_n)))))) (ct_X12_isExempt_r125_83 hD hQ k3 ih l1 l2 l3 l4 l5 h (jr_of rfl (by omega)) (jr_of rfl (by omega)) (jr_of rfl (by omega)) (jr_mod rfl (by omega)) (jr_of rfl (by omega)) (jr_of rfl (by omega)) (by omega) (by omega) J Sm)
        ·
          refine x_aloadn (x := 125) rfl rfl ?_
          refine x_iload (x := l4) rfl rfl ?_
          refine x_iload (x := l5) rfl rfl ?_
          refine x_iloadn (x := l2) rfl rfl ?_
          refine x_iloadn (x := l3) rfl rfl ?_
          refine x_inv (N := m_X12_holdsFor) (As := [.int l4, .int l5, .int l2, .int l3]) (b := 125) (st := []) (dx9 := 10) (mc := 0) (ms := 0) (host := "") 12 rfl t_X12_holdsFor ⟨Or.inl q_12_749, i_X12_holdsFor.1, i_X12_holdsFor.2⟩ ⟨by decide, rfl⟩ (congrArg Prod.fst (J.1.1 125 (12, 92) rfl)) rfl (by decide) rfl rfl ⟨by decide, by decide⟩ (sf_X12_holdsFor_r125 (jr_of rfl (by omega)) (jr_of rfl (by omega)) (jr_of rfl (by omega)) (jr_of rfl (by omega)) (jcn qv4 (by omega) (by omega) (by omega)) hD J  (fun v18 h ev18 J S17 => ?_))
          have Sm := jSm_tr rfl Sm S17
          show jX m_X12_isExempt 11 0 0 78 [(6, .int v11), (0, .ref 125), (1, .int l1), (2, .int l2), (3, .int l3), (4, .int l4), (5, .int l5)] [.int v18] _ 0 0 _
          refine x_ifeq (tgt := 83) rfl rfl (ti_eq rfl jk_0 ⟨fun c19 => ?_, fun c19 => ?_⟩)
          ·
            exact jX.sub (jsb_c rfl (jsb_c rfl (jsb_c rfl (jsb_c rfl (jsb_c rfl (jsb_c rfl jsb_n)))))) (ct_X12_isExempt_r125_83 hD hQ k3 ih l1 l2 l3 l4 l5 h (jr_of rfl (by omega)) (jr_of rfl (by omega)) (jr_of rfl (by omega)) (jr_mod rfl (by omega)) (jr_of rfl (by omega)) (jr_of rfl (by omega)) (by omega) (by omega) J Sm)
          ·
            refine x_iconst (v := 1) rfl ki_1 ?_
            refine x_zret rfl rfl (by decide) ?_
            exact hQ _ _ (jr_of jk_1 (by omega)) J Sm
set_option maxRecDepth 100000 in
set_option maxHeartbeats 4000000 in
theorem ct_X12_isExempt_r125_3 {Dy : jH → Prop} {h0 : jH} {Q : Option Value → jH → Prop} (hD : jDk Dy) (hQ : ∀ (v : Int32) hx9, 0 ≤ v.toInt ∧ v.toInt ≤ 1 → jJ jSgM Dy hx9 → jSm fp_X12_isExempt_r125 h0 hx9 → Q (some (.int v)) hx9) : ∀ r : Nat, ∀ (l1 : Int32) (l2 : Int32) (l3 : Int32) (l4 : Int32) (h : jH), 30 - l4.toInt < (r : Int) → 0 ≤ l1.toInt ∧ l1.toInt ≤ 2 → (-1) ≤ l2.toInt ∧ l2.toInt ≤ 599 → 0 ≤ l3.toInt ∧ l3.toInt ≤ 146034 → l3.toInt % 366 = 0 → 0 ≤ l4.toInt ∧ l4.toInt ≤ 30 → jJ jSgM Dy h → jSm fp_X12_isExempt_r125 h0 h → jX m_X12_isExempt 11 0 0 3 [(0, .ref 125), (1, .int l1), (2, .int l2), (3, .int l3), (4, .int l4)] [] h 0 0 Q := by
  intro r
  induction r with
  | zero =>
    intro l1 l2 l3 l4 h hm y0 y1 y2 y3 y4   J Sm
    exfalso
    omega
  | succ r ih =>
    intro l1 l2 l3 l4 h hm y0 y1 y2 y3 y4   J Sm
    refine x_iload (x := l4) rfl rfl ?_
    refine x_aloadn (x := 125) rfl rfl ?_
    refine z_getR (N := 92) (b := 126) 12 2 rfl f_12_8 rfl J rfl 16002 ⟨rfl, rfl⟩ rfl ?_
    refine x_iconst (v := 4) rfl ki_4 ?_
    refine z_iald (N := 50660) rfl J rfl sg_126_4_5_1_0_1 jk_4 (by omega) (fun v1 qv1 ev1 => ?_)
    refine x_icge (tgt := 95) rfl rfl (ti_ge rfl rfl ⟨fun c2 => ?_, fun c2 => ?_⟩)
    ·
      refine x_iconst (v := 0) rfl ki_0 ?_
      refine x_zret rfl rfl (by decide) ?_
      exact hQ _ _ (jr_of jk_0 (by omega)) J Sm
    ·
      refine x_iconst (v := 0) rfl ki_0 ?_
      refine x_istore (lsx9 := [(5, .int 0), (0, .ref 125), (1, .int l1), (2, .int l2), (3, .int l3), (4, .int l4)]) rfl rfl rfl ?_
      exact jX.sub (jsb_c rfl (jsb_c rfl (jsb_c rfl (jsb_c rfl (jsb_c rfl (jsb_c rfl jsb_n)))))) (ct_X12_isExempt_r125_17 hD hQ ih 13 l1 l2 l3 l4 0 h (by have := jk_0; omega) (jr_of rfl (by omega)) (jr_of rfl (by omega)) (jr_of rfl (by omega)) (jr_mod rfl (by omega)) (jr_of rfl (by omega)) (jr_of jk_0 (by omega)) (by omega) J Sm)
set_option maxRecDepth 100000 in
set_option maxHeartbeats 4000000 in
theorem sf_X12_isExempt_r125 {Dy : jH → Prop} {h : jH} {Q : Option Value → jH → Prop} {a1 : Int32} {a2 : Int32} {a3 : Int32} (y1 : 0 ≤ a1.toInt ∧ a1.toInt ≤ 2) (y2 : (-1) ≤ a2.toInt ∧ a2.toInt ≤ 599) (y3 : 0 ≤ a3.toInt ∧ a3.toInt ≤ 146034) (ym3 : a3.toInt % 366 = 0) (hD : jDk Dy) (J : jJ jSgM Dy h) (hQ : ∀ (v : Int32) hx9, 0 ≤ v.toInt ∧ v.toInt ≤ 1 → jJ jSgM Dy hx9 → jSm fp_X12_isExempt_r125 h hx9 → Q (some (.int v)) hx9) : jC m_X12_isExempt 11 0 0 [.ref 125, .int a1, .int a2, .int a3] h Q := by
  refine jC.of rfl k_X12_isExempt rfl ?_
  have Sm := jSm_rf fp_X12_isExempt_r125 h
  show jX m_X12_isExempt 11 0 0 0 [(0, .ref 125), (1, .int a1), (2, .int a2), (3, .int a3)] [] _ 0 0 _
  refine x_iconst (v := 0) rfl ki_0 ?_
  refine x_istore (lsx9 := [(4, .int 0), (0, .ref 125), (1, .int a1), (2, .int a2), (3, .int a3)]) rfl rfl rfl ?_
  exact jX.sub (jsb_c rfl (jsb_c rfl (jsb_c rfl (jsb_c rfl (jsb_c rfl jsb_n))))) (ct_X12_isExempt_r125_3 hD hQ  31 a1 a2 a3 0 h (by have := jk_0; omega) (jr_of rfl (by omega)) (jr_of rfl (by omega)) (jr_of rfl (by omega)) (jr_mod rfl (by omega)) (jr_of jk_0 (by omega)) J Sm)
def fp_X12_partLevy_r125 : jFp := [(125, 32, 33), (125, 33, 34), (125, 34, 35), (125, 35, 36), (125, 57, 58), (125, 61, 62), (125, 62, 63), (125, 63, 64), (125, 64, 65), (125, 65, 66), (125, 66, 67), (152, 0, 360), (153, 0, 30), (154, 0, 400), (155, 0, 360), (162, 0, 40), (162, 40, 80), (163, 0, 40), (163, 40, 80), (164, 0, 40), (165, 0, 40), (166, 0, 40), (167, 0, 40)]
set_option maxRecDepth 100000 in
set_option maxHeartbeats 4000000 in
theorem ct_X12_partLevy_r125_490 {Dy : jH → Prop} {h0 : jH} {Q : Option Value → jH → Prop} {R396 : Int} (hD : jDk Dy) (hQ : ∀ hx9, jJ jSgM Dy hx9 → jSm fp_X12_partLevy_r125 h0 hx9 → Q none hx9) (k396 : ∀ (l3 : Int32) (l4 : Int32) (l5 : Int32) (l10 : Int32) (h : jH), 40 - l10.toInt < R396 → 0 ≤ l3.toInt ∧ l3.toInt ≤ 2 → 0 ≤ l4.toInt ∧ l4.toInt ≤ 146034 → l4.toInt % 366 = 0 → 0 ≤ l5.toInt ∧ l5.toInt ≤ 40 → 0 ≤ l10.toInt ∧ l10.toInt ≤ 40 → jJ jSgM Dy h → jSm fp_X12_partLevy_r125 h0 h → jX m_X12_partLevy 12 0 0 396 [(0, .ref 125), (3, .int l3), (4, .int l4), (5, .int l5), (10, .int l10)] [] h 0 0 Q) : ∀ (l3 : Int32) (l4 : Int32) (l5 : Int32) (l10 : Int32) (h : jH), 0 ≤ l3.toInt ∧ l3.toInt ≤ 2 → 0 ≤ l4.toInt ∧ l4.toInt ≤ 146034 → l4.toInt % 366 = 0 → 1 ≤ l5.toInt ∧ l5.toInt ≤ 40 → 0 ≤ l10.toInt ∧ l10.toInt ≤ 39 → 40 - l10.toInt ≤ R396 → jJ jSgM Dy h → jSm fp_X12_partLevy_r125 h0 h → jX m_X12_partLevy 12 0 0 490 [(0, .ref 125), (3, .int l3), (4, .int l4), (5, .int l5), (10, .int l10)] [] h 0 0 Q := by
  intro l3 l4 l5 l10 h y0 y1 y2 y3 y4  m396 J Sm
  refine z_iinc (x := l10) (lsx9 := fun v1 => [(10, .int v1), (0, .ref 125), (3, .int l3), (4, .int l4), (5, .int l5)]) rfl rfl rfl jko_1 (by omega) rfl (fun _ => rfl) (fun v1 ev1 => ?_)
  refine x_goto (tgt := 396) rfl rfl ?_
  exact jX.sub (jsb_c rfl (jsb_c rfl (jsb_c rfl (jsb_c rfl (jsb_c rfl jsb_n))))) (k396 l3 l4 l5 v1 h (by omega) (jr_of rfl (by omega)) (jr_of rfl (by omega)) (jr_mod rfl (by omega)) (jr_of rfl (by omega)) (jr_of rfl (by omega)) J Sm)
set_option maxRecDepth 100000 in
set_option maxHeartbeats 4000000 in
theorem ct_X12_partLevy_r125_489 {Dy : jH → Prop} {h0 : jH} {Q : Option Value → jH → Prop} {R396 : Int} (hD : jDk Dy) (hQ : ∀ hx9, jJ jSgM Dy hx9 → jSm fp_X12_partLevy_r125 h0 hx9 → Q none hx9) (k396 : ∀ (l3 : Int32) (l4 : Int32) (l5 : Int32) (l10 : Int32) (h : jH), 40 - l10.toInt < R396 → 0 ≤ l3.toInt ∧ l3.toInt ≤ 2 → 0 ≤ l4.toInt ∧ l4.toInt ≤ 146034 → l4.toInt % 366 = 0 → 0 ≤ l5.toInt ∧ l5.toInt ≤ 40 → 0 ≤ l10.toInt ∧ l10.toInt ≤ 40 → jJ jSgM Dy h → jSm fp_X12_partLevy_r125 h0 h → jX m_X12_partLevy 12 0 0 396 [(0, .ref 125), (3, .int l3), (4, .int l4), (5, .int l5), (10, .int l10)] [] h 0 0 Q) : ∀ (l3 : Int32) (l4 : Int32) (l5 : Int32) (l10 : Int32) (s0 : Int64) (s1 : Int32) (h : jH), 0 ≤ l3.toInt ∧ l3.toInt ≤ 2 → 0 ≤ l4.toInt ∧ l4.toInt ≤ 146034 → l4.toInt % 366 = 0 → 1 ≤ l5.toInt ∧ l5.toInt ≤ 40 → 0 ≤ l10.toInt ∧ l10.toInt ≤ 39 → 0 ≤ s1.toInt ∧ s1.toInt ≤ 39 → 40 - l10.toInt ≤ R396 → jJ jSgM Dy h → jSm fp_X12_partLevy_r125 h0 h → jX m_X12_partLevy 12 0 0 489 [(0, .ref 125), (3, .int l3), (4, .int l4), (5, .int l5), (10, .int l10)] [.long s0, .int s1, .ref 165] h 0 0 Q := by
  intro l3 l4 l5 l10 s0 s1 h y0 y1 y2 y3 y4 y5  m396 J Sm
  have es0 := jfullL s0
  refine z_last (N := 40) (l := 0) (u := 40) rfl hD J Sm rfl rfl rfl (by omega) rfl (fun h w1 J Sm => ?_)
  exact jX.sub (jsb_c rfl (jsb_c rfl (jsb_c rfl (jsb_c rfl (jsb_c rfl jsb_n))))) (ct_X12_partLevy_r125_490 hD hQ k396 l3 l4 l5 l10 h (jr_of rfl (by omega)) (jr_of rfl (by omega)) (jr_mod rfl (by omega)) (jr_of rfl (by omega)) (jr_of rfl (by omega)) (by omega) J Sm)
set_option maxRecDepth 100000 in
set_option maxHeartbeats 4000000 in
theorem ct_X12_partLevy_r125_5000489 {Dy : jH → Prop} {h0 : jH} {Q : Option Value → jH → Prop} {R396 : Int} (hD : jDk Dy) (hQ : ∀ hx9, jJ jSgM Dy hx9 → jSm fp_X12_partLevy_r125 h0 hx9 → Q none hx9) (k396 : ∀ (l3 : Int32) (l4 : Int32) (l5 : Int32) (l10 : Int32) (h : jH), 40 - l10.toInt < R396 → 0 ≤ l3.toInt ∧ l3.toInt ≤ 2 → 0 ≤ l4.toInt ∧ l4.toInt ≤ 146034 → l4.toInt % 366 = 0 → 0 ≤ l5.toInt ∧ l5.toInt ≤ 40 → 0 ≤ l10.toInt ∧ l10.toInt ≤ 40 → jJ jSgM Dy h → jSm fp_X12_partLevy_r125 h0 h → jX m_X12_partLevy 12 0 0 396 [(0, .ref 125), (3, .int l3), (4, .int l4), (5, .int l5), (10, .int l10)] [] h 0 0 Q) : ∀ (l3 : Int32) (l4 : Int32) (l5 : Int32) (l10 : Int32) (s1 : Int32) (h : jH), 0 ≤ l3.toInt ∧ l3.toInt ≤ 2 → 0 ≤ l4.toInt ∧ l4.toInt ≤ 146034 → l4.toInt % 366 = 0 → 1 ≤ l5.toInt ∧ l5.toInt ≤ 40 → 0 ≤ l10.toInt ∧ l10.toInt ≤ 39 → 0 ≤ s1.toInt ∧ s1.toInt ≤ 39 → 40 - l10.toInt ≤ R396 → jJ jSgM Dy h → jSm fp_X12_partLevy_r125 h0 h → jX m_X12_partLevy 12 0 0 489 [(0, .ref 125), (3, .int l3), (4, .int l4), (5, .int l5), (10, .int l10)] [.long 0, .int s1, .ref 165] h 0 0 Q := by
  intro l3 l4 l5 l10 s1 h y0 y1 y2 y3 y4 y5  m396 J Sm
  refine z_last (N := 40) (l := 0) (u := 40) rfl hD J Sm rfl rfl rfl (by omega) rfl (fun h w1 J Sm => ?_)
  exact jX.sub (jsb_c rfl (jsb_c rfl (jsb_c rfl (jsb_c rfl (jsb_c rfl jsb_n))))) (ct_X12_partLevy_r125_490 hD hQ k396 l3 l4 l5 l10 h (jr_of rfl (by omega)) (jr_of rfl (by omega)) (jr_mod rfl (by omega)) (jr_of rfl (by omega)) (jr_of rfl (by omega)) (by omega) J Sm)
set_option maxRecDepth 100000 in
set_option maxHeartbeats 4000000 in
theorem ct_X12_partLevy_r125_482 {Dy : jH → Prop} {h0 : jH} {Q : Option Value → jH → Prop} {R396 : Int} (hD : jDk Dy) (hQ : ∀ hx9, jJ jSgM Dy hx9 → jSm fp_X12_partLevy_r125 h0 hx9 → Q none hx9) (k396 : ∀ (l3 : Int32) (l4 : Int32) (l5 : Int32) (l10 : Int32) (h : jH), 40 - l10.toInt < R396 → 0 ≤ l3.toInt ∧ l3.toInt ≤ 2 → 0 ≤ l4.toInt ∧ l4.toInt ≤ 146034 → l4.toInt % 366 = 0 → 0 ≤ l5.toInt ∧ l5.toInt ≤ 40 → 0 ≤ l10.toInt ∧ l10.toInt ≤ 40 → jJ jSgM Dy h → jSm fp_X12_partLevy_r125 h0 h → jX m_X12_partLevy 12 0 0 396 [(0, .ref 125), (3, .int l3), (4, .int l4), (5, .int l5), (10, .int l10)] [] h 0 0 Q) : ∀ (l3 : Int32) (l4 : Int32) (l5 : Int32) (l10 : Int32) (s0 : Int32) (h : jH), 0 ≤ l3.toInt ∧ l3.toInt ≤ 2 → 0 ≤ l4.toInt ∧ l4.toInt ≤ 146034 → l4.toInt % 366 = 0 → 1 ≤ l5.toInt ∧ l5.toInt ≤ 40 → 0 ≤ l10.toInt ∧ l10.toInt ≤ 39 → 0 ≤ s0.toInt ∧ s0.toInt ≤ 39 → 40 - l10.toInt ≤ R396 → jJ jSgM Dy h → jSm fp_X12_partLevy_r125 h0 h → jX m_X12_partLevy 12 0 0 482 [(0, .ref 125), (3, .int l3), (4, .int l4), (5, .int l5), (10, .int l10)] [.int s0, .ref 165] h 0 0 Q := by
  intro l3 l4 l5 l10 s0 h y0 y1 y2 y3 y4 y5  m396 J Sm
  refine x_aloadn (x := 125) rfl rfl ?_
  refine z_getR (N := 92) (b := 165) 12 80 rfl f_12_153 rfl J rfl 16080 ⟨rfl, rfl⟩ rfl ?_
  refine x_iload (x := l10) rfl rfl ?_
  refine z_laldQ (N := 40) rfl J rfl rfl (by omega) (fun v1 qv1 => ?_)
  have ev1 := jfullL v1
  exact jX.sub (jsb_c rfl (jsb_c rfl (jsb_c rfl (jsb_c rfl (jsb_c rfl jsb_n))))) (ct_X12_partLevy_r125_489 hD hQ k396 l3 l4 l5 l10 v1 s0 h (jr_of rfl (by omega)) (jr_of rfl (by omega)) (jr_mod rfl (by omega)) (jr_of rfl (by omega)) (jr_of rfl (by omega)) (jr_of rfl (by omega)) (by omega) J Sm)
set_option maxRecDepth 100000 in
set_option maxHeartbeats 4000000 in
theorem ct_X12_partLevy_r125_448 {Dy : jH → Prop} {h0 : jH} {Q : Option Value → jH → Prop} {R396 : Int} (hD : jDk Dy) (hQ : ∀ hx9, jJ jSgM Dy hx9 → jSm fp_X12_partLevy_r125 h0 hx9 → Q none hx9) (k396 : ∀ (l3 : Int32) (l4 : Int32) (l5 : Int32) (l10 : Int32) (h : jH), 40 - l10.toInt < R396 → 0 ≤ l3.toInt ∧ l3.toInt ≤ 2 → 0 ≤ l4.toInt ∧ l4.toInt ≤ 146034 → l4.toInt % 366 = 0 → 0 ≤ l5.toInt ∧ l5.toInt ≤ 40 → 0 ≤ l10.toInt ∧ l10.toInt ≤ 40 → jJ jSgM Dy h → jSm fp_X12_partLevy_r125 h0 h → jX m_X12_partLevy 12 0 0 396 [(0, .ref 125), (3, .int l3), (4, .int l4), (5, .int l5), (10, .int l10)] [] h 0 0 Q) : ∀ (l3 : Int32) (l4 : Int32) (l5 : Int32) (l10 : Int32) (s0 : Int64) (h : jH), 0 ≤ l3.toInt ∧ l3.toInt ≤ 2 → 0 ≤ l4.toInt ∧ l4.toInt ≤ 146034 → l4.toInt % 366 = 0 → 1 ≤ l5.toInt ∧ l5.toInt ≤ 40 → 0 ≤ l10.toInt ∧ l10.toInt ≤ 39 → 40 - l10.toInt ≤ R396 → jJ jSgM Dy h → jSm fp_X12_partLevy_r125 h0 h → jX m_X12_partLevy 12 0 0 448 [(0, .ref 125), (3, .int l3), (4, .int l4), (5, .int l5), (10, .int l10)] [.long s0] h 0 0 Q := by
  intro l3 l4 l5 l10 s0 h y0 y1 y2 y3 y4  m396 J Sm
  have es0 := jfullL s0
  refine x_lstore (lsx9 := [(11, .long s0), (0, .ref 125), (3, .int l3), (4, .int l4), (5, .int l5), (10, .int l10)]) rfl rfl rfl ?_
  refine x_aloadn (x := 125) rfl rfl ?_
  refine z_getR (N := 92) (b := 165) 12 80 rfl f_12_153 rfl J rfl 16080 ⟨rfl, rfl⟩ rfl ?_
  refine x_iload (x := l10) rfl rfl ?_
  refine x_aloadn (x := 125) rfl rfl ?_
  refine z_getI (N := 92) 12 65 rfl f_12_752 rfl J rfl sg_125_65_66_1_0_1 (fun v1 qv1 ev1 => ?_)
  refine x_iconst (v := (-1)) rfl ki_m1 ?_
  refine x_iceq (tgt := 482) rfl rfl (ti_eq rfl jk_m1 ⟨fun c2 => ?_, fun c2 => ?_⟩)
  ·
    exact jX.sub (jsb_c rfl (jsb_c rfl (jsb_c rfl (jsb_c rfl (jsb_c rfl jsb_n))))) (ct_X12_partLevy_r125_482 hD hQ k396 l3 l4 l5 l10 l10 h (jr_of rfl (by omega)) (jr_of rfl (by omega)) (jr_mod rfl (by omega)) (jr_of rfl (by omega)) (jr_of rfl (by omega)) (jr_of rfl (by omega)) (by omega) J Sm)
  ·
    refine x_aloadn (x := 125) rfl rfl ?_
    refine z_getR (N := 92) (b := 165) 12 80 rfl f_12_153 rfl J rfl 16080 ⟨rfl, rfl⟩ rfl ?_
    refine x_iload (x := l10) rfl rfl ?_
    refine z_laldQ (N := 40) rfl J rfl rfl (by omega) (fun v3 qv3 => ?_)
    have ev3 := jfullL v3
    refine x_lload (x := s0) rfl rfl ?_
    refine z_lcmp rfl rfl rfl (fun v4 ev4 => ?_)
    refine x_ifle (tgt := 482) rfl rfl (ti_le rfl jk_0 ⟨fun c5 => ?_, fun c5 => ?_⟩)
    ·
      exact jX.sub (jsb_c rfl (jsb_c rfl (jsb_c rfl (jsb_c rfl (jsb_c rfl jsb_n))))) (ct_X12_partLevy_r125_482 hD hQ k396 l3 l4 l5 l10 l10 h (jr_of rfl (by omega)) (jr_of rfl (by omega)) (jr_mod rfl (by omega)) (jr_of rfl (by omega)) (jr_of rfl (by omega)) (jr_of rfl (by omega)) (by omega) J Sm)
    ·
      refine x_lload (x := s0) rfl rfl ?_
      refine x_goto (tgt := 489) rfl rfl ?_
      exact jX.sub (jsb_c rfl (jsb_c rfl (jsb_c rfl (jsb_c rfl (jsb_c rfl jsb_n))))) (ct_X12_partLevy_r125_489 hD hQ k396 l3 l4 l5 l10 s0 l10 h (jr_of rfl (by omega)) (jr_of rfl (by omega)) (jr_mod rfl (by omega)) (jr_of rfl (by omega)) (jr_of rfl (by omega)) (jr_of rfl (by omega)) (by omega) J Sm)
set_option maxRecDepth 100000 in
set_option maxHeartbeats 4000000 in
theorem ct_X12_partLevy_r125_5000448 {Dy : jH → Prop} {h0 : jH} {Q : Option Value → jH → Prop} {R396 : Int} (hD : jDk Dy) (hQ : ∀ hx9, jJ jSgM Dy hx9 → jSm fp_X12_partLevy_r125 h0 hx9 → Q none hx9) (k396 : ∀ (l3 : Int32) (l4 : Int32) (l5 : Int32) (l10 : Int32) (h : jH), 40 - l10.toInt < R396 → 0 ≤ l3.toInt ∧ l3.toInt ≤ 2 → 0 ≤ l4.toInt ∧ l4.toInt ≤ 146034 → l4.toInt % 366 = 0 → 0 ≤ l5.toInt ∧ l5.toInt ≤ 40 → 0 ≤ l10.toInt ∧ l10.toInt ≤ 40 → jJ jSgM Dy h → jSm fp_X12_partLevy_r125 h0 h → jX m_X12_partLevy 12 0 0 396 [(0, .ref 125), (3, .int l3), (4, .int l4), (5, .int l5), (10, .int l10)] [] h 0 0 Q) : ∀ (l3 : Int32) (l4 : Int32) (l5 : Int32) (l10 : Int32) (h : jH), 0 ≤ l3.toInt ∧ l3.toInt ≤ 2 → 0 ≤ l4.toInt ∧ l4.toInt ≤ 146034 → l4.toInt % 366 = 0 → 1 ≤ l5.toInt ∧ l5.toInt ≤ 40 → 0 ≤ l10.toInt ∧ l10.toInt ≤ 39 → 40 - l10.toInt ≤ R396 → jJ jSgM Dy h → jSm fp_X12_partLevy_r125 h0 h → jX m_X12_partLevy 12 0 0 448 [(0, .ref 125), (3, .int l3), (4, .int l4), (5, .int l5), (10, .int l10)] [.long 0] h 0 0 Q := by
  intro l3 l4 l5 l10 h y0 y1 y2 y3 y4  m396 J Sm
  refine x_lstore (lsx9 := [(11, .long 0), (0, .ref 125), (3, .int l3), (4, .int l4), (5, .int l5), (10, .int l10)]) rfl rfl rfl ?_
  refine x_aloadn (x := 125) rfl rfl ?_
  refine z_getR (N := 92) (b := 165) 12 80 rfl f_12_153 rfl J rfl 16080 ⟨rfl, rfl⟩ rfl ?_
  refine x_iload (x := l10) rfl rfl ?_
  refine x_aloadn (x := 125) rfl rfl ?_
  refine z_getI (N := 92) 12 65 rfl f_12_752 rfl J rfl sg_125_65_66_1_0_1 (fun v1 qv1 ev1 => ?_)
  refine x_iconst (v := (-1)) rfl ki_m1 ?_
  refine x_iceq (tgt := 482) rfl rfl (ti_eq rfl jk_m1 ⟨fun c2 => ?_, fun c2 => ?_⟩)
  ·
    exact jX.sub (jsb_c rfl (jsb_c rfl (jsb_c rfl (jsb_c rfl (jsb_c rfl jsb_n))))) (ct_X12_partLevy_r125_482 hD hQ k396 l3 l4 l5 l10 l10 h (jr_of rfl (by omega)) (jr_of rfl (by omega)) (jr_mod rfl (by omega)) (jr_of rfl (by omega)) (jr_of rfl (by omega)) (jr_of rfl (by omega)) (by omega) J Sm)
  ·
    refine x_aloadn (x := 125) rfl rfl ?_
    refine z_getR (N := 92) (b := 165) 12 80 rfl f_12_153 rfl J rfl 16080 ⟨rfl, rfl⟩ rfl ?_
    refine x_iload (x := l10) rfl rfl ?_
    refine z_laldQ (N := 40) rfl J rfl rfl (by omega) (fun v3 qv3 => ?_)
    have ev3 := jfullL v3
    refine x_lload (x := 0) rfl rfl ?_
    refine z_lcmp rfl rfl jkl_0 (fun v4 ev4 => ?_)
    refine x_ifle (tgt := 482) rfl rfl (ti_le rfl jk_0 ⟨fun c5 => ?_, fun c5 => ?_⟩)
    ·
      exact jX.sub (jsb_c rfl (jsb_c rfl (jsb_c rfl (jsb_c rfl (jsb_c rfl jsb_n))))) (ct_X12_partLevy_r125_482 hD hQ k396 l3 l4 l5 l10 l10 h (jr_of rfl (by omega)) (jr_of rfl (by omega)) (jr_mod rfl (by omega)) (jr_of rfl (by omega)) (jr_of rfl (by omega)) (jr_of rfl (by omega)) (by omega) J Sm)
    ·
      refine x_lload (x := 0) rfl rfl ?_
      refine x_goto (tgt := 489) rfl rfl ?_
      exact jX.sub (jsb_c rfl (jsb_c rfl (jsb_c rfl (jsb_c rfl (jsb_c rfl jsb_n))))) (ct_X12_partLevy_r125_5000489 hD hQ k396 l3 l4 l5 l10 l10 h (jr_of rfl (by omega)) (jr_of rfl (by omega)) (jr_mod rfl (by omega)) (jr_of rfl (by omega)) (jr_of rfl (by omega)) (jr_of rfl (by omega)) (by omega) J Sm)
set_option maxRecDepth 100000 in
set_option maxHeartbeats 4000000 in
theorem ct_X12_partLevy_r125_396 {Dy : jH → Prop} {h0 : jH} {Q : Option Value → jH → Prop} (hD : jDk Dy) (hQ : ∀ hx9, jJ jSgM Dy hx9 → jSm fp_X12_partLevy_r125 h0 hx9 → Q none hx9) : ∀ r : Nat, ∀ (l3 : Int32) (l4 : Int32) (l5 : Int32) (l10 : Int32) (h : jH), 40 - l10.toInt < (r : Int) → 0 ≤ l3.toInt ∧ l3.toInt ≤ 2 → 0 ≤ l4.toInt ∧ l4.toInt ≤ 146034 → l4.toInt % 366 = 0 → 0 ≤ l5.toInt ∧ l5.toInt ≤ 40 → 0 ≤ l10.toInt ∧ l10.toInt ≤ 40 → jJ jSgM Dy h → jSm fp_X12_partLevy_r125 h0 h → jX m_X12_partLevy 12 0 0 396 [(0, .ref 125), (3, .int l3), (4, .int l4), (5, .int l5), (10, .int l10)] [] h 0 0 Q := by
  intro r
  induction r with
  | zero =>
    intro l3 l4 l5 l10 h hm y0 y1 y2 y3 y4   J Sm
    exfalso
    omega
  | succ r ih =>
    intro l3 l4 l5 l10 h hm y0 y1 y2 y3 y4   J Sm
    refine x_iload (x := l10) rfl rfl ?_
    refine x_iload (x := l5) rfl rfl ?_
    refine x_icge (tgt := 496) rfl rfl (ti_ge rfl rfl ⟨fun c1 => ?_, fun c1 => ?_⟩)
    ·
      refine x_vret rfl rfl ?_
      exact hQ _ J Sm
    ·
      refine x_aloadn (x := 125) rfl rfl ?_
      refine z_getR (N := 92) (b := 167) 12 82 rfl f_12_159 rfl J rfl 16082 ⟨rfl, rfl⟩ rfl ?_
      refine x_iload (x := l10) rfl rfl ?_
      refine z_zald (N := 40) rfl J rfl sg_167_0_40_1_0_1 rfl (by omega) (fun v2 qv2 ev2 => ?_)
      refine x_ifeq (tgt := 490) rfl rfl (ti_eq rfl jk_0 ⟨fun c3 => ?_, fun c3 => ?_⟩)
      ·
        exact jX.sub (jsb_c rfl (jsb_c rfl (jsb_c rfl (jsb_c rfl (jsb_c rfl jsb_n))))) (ct_X12_partLevy_r125_490 hD hQ ih l3 l4 l5 l10 h (jr_of rfl (by omega)) (jr_of rfl (by omega)) (jr_mod rfl (by omega)) (jr_of rfl (by omega)) (jr_of rfl (by omega)) (by omega) J Sm)
      ·
        refine x_aloadn (x := 125) rfl rfl ?_
        refine x_iconst (v := 3) rfl ki_3 ?_
        refine x_iloadn (x := l3) rfl rfl ?_
        refine x_aloadn (x := 125) rfl rfl ?_
        refine z_getR (N := 92) (b := 163) 12 78 rfl f_12_147 rfl J rfl 16078 ⟨rfl, rfl⟩ rfl ?_
        refine x_bipush (v := 40) rfl kb_40 ?_
        refine x_iload (x := l10) rfl rfl ?_
        refine z_iadd rfl jk_40 rfl (by omega) (fun v4 ev4 => ?_)
        refine z_iald (N := 80) rfl J rfl sg_163_0_80_1_0_1 rfl (by omega) (fun v5 qv5 ev5 => ?_)
        refine x_iload (x := l4) rfl rfl ?_
        refine x_inv (N := m_X12_findCount) (As := [.int 3, .int l3, .int v5, .int l4]) (b := 125) (st := []) (dx9 := 11) (mc := 0) (ms := 0) (host := "") 12 rfl t_X12_findCount ⟨Or.inl q_12_765, i_X12_findCount.1, i_X12_findCount.2⟩ ⟨by decide, rfl⟩ (congrArg Prod.fst (J.1.1 125 (12, 92) rfl)) rfl (by decide) rfl rfl ⟨by decide, by decide⟩ (sf_X12_findCount_r125 (jr_of jk_3 (by omega)) (jr_of rfl (by omega)) (jr_of rfl (by omega)) (jr_of rfl (by omega)) hD J  (fun h J S6 => ?_))
        have Sm := jSm_tr rfl Sm S6
        show jX m_X12_partLevy 12 0 0 431 [(0, .ref 125), (3, .int l3), (4, .int l4), (5, .int l5), (10, .int l10)] [] _ 0 0 _
        refine x_aloadn (x := 125) rfl rfl ?_
        refine z_getL0 (N := 92) 12 64 rfl f_12_755 rfl J rfl (fun v7 => ?_)
        have ev7 := jfullL v7
        refine x_lconst (v := 0) rfl kl_0 ?_
        refine z_lcmp rfl rfl jkl_0 (fun v8 ev8 => ?_)
        refine x_ifge (tgt := 444) rfl rfl (ti_ge rfl jk_0 ⟨fun c9 => ?_, fun c9 => ?_⟩)
        ·
          refine x_aloadn (x := 125) rfl rfl ?_
          refine z_getL0 (N := 92) 12 64 rfl f_12_755 rfl J rfl (fun v10 => ?_)
          have ev10 := jfullL v10
          exact jX.sub (jsb_c rfl (jsb_c rfl (jsb_c rfl (jsb_c rfl (jsb_c rfl jsb_n))))) (ct_X12_partLevy_r125_448 hD hQ ih l3 l4 l5 l10 v10 h (jr_of rfl (by omega)) (jr_of rfl (by omega)) (jr_mod rfl (by omega)) (jr_of rfl (by omega)) (jr_of rfl (by omega)) (by omega) J Sm)
        ·
          refine x_lconst (v := 0) rfl kl_0 ?_
          refine x_goto (tgt := 448) rfl rfl ?_
          exact jX.sub (jsb_c rfl (jsb_c rfl (jsb_c rfl (jsb_c rfl (jsb_c rfl jsb_n))))) (ct_X12_partLevy_r125_5000448 hD hQ ih l3 l4 l5 l10 h (jr_of rfl (by omega)) (jr_of rfl (by omega)) (jr_mod rfl (by omega)) (jr_of rfl (by omega)) (jr_of rfl (by omega)) (by omega) J Sm)
set_option maxRecDepth 100000 in
set_option maxHeartbeats 4000000 in
theorem ct_X12_partLevy_r125_355 {Dy : jH → Prop} {h0 : jH} {Q : Option Value → jH → Prop} {R293 : Int} {R306 : Int} (hD : jDk Dy) (hQ : ∀ hx9, jJ jSgM Dy hx9 → jSm fp_X12_partLevy_r125 h0 hx9 → Q none hx9) (k293 : ∀ (l3 : Int32) (l4 : Int32) (l5 : Int32) (l8 : Int64) (h : jH), l8.toInt < R293 → 0 ≤ l3.toInt ∧ l3.toInt ≤ 2 → 0 ≤ l4.toInt ∧ l4.toInt ≤ 146034 → l4.toInt % 366 = 0 → 0 ≤ l5.toInt ∧ l5.toInt ≤ 40 → 0 ≤ l8.toInt ∧ l8.toInt ≤ 1000000 → jF3 h l5 l8 → jJ jSgM Dy h → jSm fp_X12_partLevy_r125 h0 h → jX m_X12_partLevy 12 0 0 293 [(0, .ref 125), (3, .int l3), (4, .int l4), (5, .int l5), (8, .long l8)] [] h 0 0 Q) (k306 : ∀ (l3 : Int32) (l4 : Int32) (l5 : Int32) (l8 : Int64) (l10 : Int32) (l11 : Int32) (h : jH), 40 - l11.toInt < R306 → 0 ≤ l3.toInt ∧ l3.toInt ≤ 2 → 0 ≤ l4.toInt ∧ l4.toInt ≤ 146034 → l4.toInt % 366 = 0 → 0 ≤ l5.toInt ∧ l5.toInt ≤ 40 → 1 ≤ l8.toInt ∧ l8.toInt ≤ 1000000 → (-1) ≤ l10.toInt ∧ l10.toInt ≤ 39 → 0 ≤ l11.toInt ∧ l11.toInt ≤ 40 → (jF4 h l5 l10 l8 l11.toNatClampNeg ∧ l10.toInt < l5.toInt ∧ l11.toInt ≤ l5.toInt) → l8.toInt ≤ R293 → jJ jSgM Dy h → jSm fp_X12_partLevy_r125 h0 h → jX m_X12_partLevy 12 0 0 306 [(0, .ref 125), (3, .int l3), (4, .int l4), (5, .int l5), (8, .long l8), (10, .int l10), (11, .int l11)] [] h 0 0 Q) : ∀ (l3 : Int32) (l4 : Int32) (l5 : Int32) (l8 : Int64) (l11 : Int32) (s0 : Int32) (h : jH), 0 ≤ l3.toInt ∧ l3.toInt ≤ 2 → 0 ≤ l4.toInt ∧ l4.toInt ≤ 146034 → l4.toInt % 366 = 0 → 1 ≤ l5.toInt ∧ l5.toInt ≤ 40 → 1 ≤ l8.toInt ∧ l8.toInt ≤ 1000000 → 0 ≤ l11.toInt ∧ l11.toInt ≤ 39 → (-1) ≤ s0.toInt ∧ s0.toInt ≤ 39 → (jF4 h l5 s0 l8 (l11.toNatClampNeg + 1) ∧ s0.toInt < l5.toInt ∧ l11.toInt < l5.toInt) → l8.toInt ≤ R293 → 40 - l11.toInt ≤ R306 → jJ jSgM Dy h → jSm fp_X12_partLevy_r125 h0 h → jX m_X12_partLevy 12 0 0 355 [(0, .ref 125), (3, .int l3), (4, .int l4), (5, .int l5), (8, .long l8), (11, .int l11)] [.int s0] h 0 0 Q := by
  intro l3 l4 l5 l8 l11 s0 h y0 y1 y2 y3 y4 y5 y6 C0  m293 m306 J Sm
  have f1 := C0.1.1.2.1
  have f0 := C0.1.2.1
  refine x_istore (lsx9 := [(10, .int s0), (0, .ref 125), (3, .int l3), (4, .int l4), (5, .int l5), (8, .long l8), (11, .int l11)]) rfl rfl rfl ?_
  refine z_iinc (x := l11) (lsx9 := fun v1 => [(11, .int v1), (10, .int s0), (0, .ref 125), (3, .int l3), (4, .int l4), (5, .int l5), (8, .long l8)]) rfl rfl rfl jko_1 (by omega) rfl (fun _ => rfl) (fun v1 ev1 => ?_)
  refine x_goto (tgt := 306) rfl rfl ?_
  exact jX.sub (jsb_c rfl (jsb_c rfl (jsb_c rfl (jsb_c rfl (jsb_c rfl (jsb_c rfl (jsb_c rfl jsb_n))))))) (k306 l3 l4 l5 l8 s0 v1 h (by omega) (jr_of rfl (by omega)) (jr_of rfl (by omega)) (jr_mod rfl (by omega)) (jr_of rfl (by omega)) (jr_ofl rfl (by omega)) (jr_of rfl (by omega)) (jr_of rfl (by omega)) ⟨(jF4_n C0.1 (by omega)), (by have := C0.2.1; omega), (by have := C0.2.2; omega)⟩ (by omega) J Sm)
set_option maxRecDepth 100000 in
set_option maxHeartbeats 4000000 in
theorem ct_X12_partLevy_r125_353 {Dy : jH → Prop} {h0 : jH} {Q : Option Value → jH → Prop} {R293 : Int} {R306 : Int} (hD : jDk Dy) (hQ : ∀ hx9, jJ jSgM Dy hx9 → jSm fp_X12_partLevy_r125 h0 hx9 → Q none hx9) (k293 : ∀ (l3 : Int32) (l4 : Int32) (l5 : Int32) (l8 : Int64) (h : jH), l8.toInt < R293 → 0 ≤ l3.toInt ∧ l3.toInt ≤ 2 → 0 ≤ l4.toInt ∧ l4.toInt ≤ 146034 → l4.toInt % 366 = 0 → 0 ≤ l5.toInt ∧ l5.toInt ≤ 40 → 0 ≤ l8.toInt ∧ l8.toInt ≤ 1000000 → jF3 h l5 l8 → jJ jSgM Dy h → jSm fp_X12_partLevy_r125 h0 h → jX m_X12_partLevy 12 0 0 293 [(0, .ref 125), (3, .int l3), (4, .int l4), (5, .int l5), (8, .long l8)] [] h 0 0 Q) (k306 : ∀ (l3 : Int32) (l4 : Int32) (l5 : Int32) (l8 : Int64) (l10 : Int32) (l11 : Int32) (h : jH), 40 - l11.toInt < R306 → 0 ≤ l3.toInt ∧ l3.toInt ≤ 2 → 0 ≤ l4.toInt ∧ l4.toInt ≤ 146034 → l4.toInt % 366 = 0 → 0 ≤ l5.toInt ∧ l5.toInt ≤ 40 → 1 ≤ l8.toInt ∧ l8.toInt ≤ 1000000 → (-1) ≤ l10.toInt ∧ l10.toInt ≤ 39 → 0 ≤ l11.toInt ∧ l11.toInt ≤ 40 → (jF4 h l5 l10 l8 l11.toNatClampNeg ∧ l10.toInt < l5.toInt ∧ l11.toInt ≤ l5.toInt) → l8.toInt ≤ R293 → jJ jSgM Dy h → jSm fp_X12_partLevy_r125 h0 h → jX m_X12_partLevy 12 0 0 306 [(0, .ref 125), (3, .int l3), (4, .int l4), (5, .int l5), (8, .long l8), (10, .int l10), (11, .int l11)] [] h 0 0 Q) : ∀ (l3 : Int32) (l4 : Int32) (l5 : Int32) (l8 : Int64) (l10 : Int32) (l11 : Int32) (h : jH), 0 ≤ l3.toInt ∧ l3.toInt ≤ 2 → 0 ≤ l4.toInt ∧ l4.toInt ≤ 146034 → l4.toInt % 366 = 0 → 1 ≤ l5.toInt ∧ l5.toInt ≤ 40 → 1 ≤ l8.toInt ∧ l8.toInt ≤ 1000000 → (-1) ≤ l10.toInt ∧ l10.toInt ≤ 39 → 0 ≤ l11.toInt ∧ l11.toInt ≤ 39 → (jF4 h l5 l10 l8 l11.toNatClampNeg ∧ l10.toInt < l5.toInt ∧ l11.toInt < l5.toInt ∧ (l10.toInt < 0 → (jlv h 166 l11.toNatClampNeg).toInt < 0)) → l8.toInt ≤ R293 → 40 - l11.toInt ≤ R306 → jJ jSgM Dy h → jSm fp_X12_partLevy_r125 h0 h → jX m_X12_partLevy 12 0 0 353 [(0, .ref 125), (3, .int l3), (4, .int l4), (5, .int l5), (8, .long l8), (10, .int l10), (11, .int l11)] [] h 0 0 Q := by
  intro l3 l4 l5 l8 l10 l11 h y0 y1 y2 y3 y4 y5 y6 C0  m293 m306 J Sm
  have f1 := C0.1.1.2.1
  have f0 := C0.1.2.1
  refine x_iload (x := l10) rfl rfl ?_
  exact jX.sub (jsb_c rfl (jsb_c rfl (jsb_c rfl (jsb_c rfl (jsb_c rfl (jsb_c rfl jsb_n)))))) (ct_X12_partLevy_r125_355 hD hQ k293 k306 l3 l4 l5 l8 l11 l10 h (jr_of rfl (by omega)) (jr_of rfl (by omega)) (jr_mod rfl (by omega)) (jr_of rfl (by omega)) (jr_ofl rfl (by omega)) (jr_of rfl (by omega)) (jr_of rfl (by omega)) ⟨(jF4_f C0.1 C0.2.2.2), C0.2.1, C0.2.2.1⟩ (by omega) (by omega) J Sm)
set_option maxRecDepth 100000 in
set_option maxHeartbeats 4000000 in
theorem ct_X12_partLevy_r125_348 {Dy : jH → Prop} {h0 : jH} {Q : Option Value → jH → Prop} {R293 : Int} {R306 : Int} (hD : jDk Dy) (hQ : ∀ hx9, jJ jSgM Dy hx9 → jSm fp_X12_partLevy_r125 h0 hx9 → Q none hx9) (k293 : ∀ (l3 : Int32) (l4 : Int32) (l5 : Int32) (l8 : Int64) (h : jH), l8.toInt < R293 → 0 ≤ l3.toInt ∧ l3.toInt ≤ 2 → 0 ≤ l4.toInt ∧ l4.toInt ≤ 146034 → l4.toInt % 366 = 0 → 0 ≤ l5.toInt ∧ l5.toInt ≤ 40 → 0 ≤ l8.toInt ∧ l8.toInt ≤ 1000000 → jF3 h l5 l8 → jJ jSgM Dy h → jSm fp_X12_partLevy_r125 h0 h → jX m_X12_partLevy 12 0 0 293 [(0, .ref 125), (3, .int l3), (4, .int l4), (5, .int l5), (8, .long l8)] [] h 0 0 Q) (k306 : ∀ (l3 : Int32) (l4 : Int32) (l5 : Int32) (l8 : Int64) (l10 : Int32) (l11 : Int32) (h : jH), 40 - l11.toInt < R306 → 0 ≤ l3.toInt ∧ l3.toInt ≤ 2 → 0 ≤ l4.toInt ∧ l4.toInt ≤ 146034 → l4.toInt % 366 = 0 → 0 ≤ l5.toInt ∧ l5.toInt ≤ 40 → 1 ≤ l8.toInt ∧ l8.toInt ≤ 1000000 → (-1) ≤ l10.toInt ∧ l10.toInt ≤ 39 → 0 ≤ l11.toInt ∧ l11.toInt ≤ 40 → (jF4 h l5 l10 l8 l11.toNatClampNeg ∧ l10.toInt < l5.toInt ∧ l11.toInt ≤ l5.toInt) → l8.toInt ≤ R293 → jJ jSgM Dy h → jSm fp_X12_partLevy_r125 h0 h → jX m_X12_partLevy 12 0 0 306 [(0, .ref 125), (3, .int l3), (4, .int l4), (5, .int l5), (8, .long l8), (10, .int l10), (11, .int l11)] [] h 0 0 Q) : ∀ (l3 : Int32) (l4 : Int32) (l5 : Int32) (l8 : Int64) (l11 : Int32) (h : jH), 0 ≤ l3.toInt ∧ l3.toInt ≤ 2 → 0 ≤ l4.toInt ∧ l4.toInt ≤ 146034 → l4.toInt % 366 = 0 → 1 ≤ l5.toInt ∧ l5.toInt ≤ 40 → 1 ≤ l8.toInt ∧ l8.toInt ≤ 1000000 → 0 ≤ l11.toInt ∧ l11.toInt ≤ 39 → (jF3 h l5 l8 ∧ 0 < l8.toInt ∧ l11.toInt < l5.toInt) → l8.toInt ≤ R293 → 40 - l11.toInt ≤ R306 → jJ jSgM Dy h → jSm fp_X12_partLevy_r125 h0 h → jX m_X12_partLevy 12 0 0 348 [(0, .ref 125), (3, .int l3), (4, .int l4), (5, .int l5), (8, .long l8), (11, .int l11)] [] h 0 0 Q := by
  intro l3 l4 l5 l8 l11 h y0 y1 y2 y3 y4 y5 C0  m293 m306 J Sm
  have f1 := C0.1.2.1
  have f0 := C0.2.1
  refine x_iload (x := l11) rfl rfl ?_
  refine x_goto (tgt := 355) rfl rfl ?_
  exact jX.sub (jsb_c rfl (jsb_c rfl (jsb_c rfl (jsb_c rfl (jsb_c rfl (jsb_c rfl jsb_n)))))) (ct_X12_partLevy_r125_355 hD hQ k293 k306 l3 l4 l5 l8 l11 l11 h (jr_of rfl (by omega)) (jr_of rfl (by omega)) (jr_mod rfl (by omega)) (jr_of rfl (by omega)) (jr_ofl rfl (by omega)) (jr_of rfl (by omega)) (jr_of rfl (by omega)) ⟨(jF4_u C0.1 C0.2.1 (by omega)), C0.2.2, C0.2.2⟩ (by omega) (by omega) J Sm)
set_option maxRecDepth 100000 in
set_option maxHeartbeats 4000000 in
theorem ct_X12_partLevy_r125_306 {Dy : jH → Prop} {h0 : jH} {Q : Option Value → jH → Prop} {R293 : Int} (hD : jDk Dy) (hQ : ∀ hx9, jJ jSgM Dy hx9 → jSm fp_X12_partLevy_r125 h0 hx9 → Q none hx9) (k293 : ∀ (l3 : Int32) (l4 : Int32) (l5 : Int32) (l8 : Int64) (h : jH), l8.toInt < R293 → 0 ≤ l3.toInt ∧ l3.toInt ≤ 2 → 0 ≤ l4.toInt ∧ l4.toInt ≤ 146034 → l4.toInt % 366 = 0 → 0 ≤ l5.toInt ∧ l5.toInt ≤ 40 → 0 ≤ l8.toInt ∧ l8.toInt ≤ 1000000 → jF3 h l5 l8 → jJ jSgM Dy h → jSm fp_X12_partLevy_r125 h0 h → jX m_X12_partLevy 12 0 0 293 [(0, .ref 125), (3, .int l3), (4, .int l4), (5, .int l5), (8, .long l8)] [] h 0 0 Q) : ∀ r : Nat, ∀ (l3 : Int32) (l4 : Int32) (l5 : Int32) (l8 : Int64) (l10 : Int32) (l11 : Int32) (h : jH), 40 - l11.toInt < (r : Int) → 0 ≤ l3.toInt ∧ l3.toInt ≤ 2 → 0 ≤ l4.toInt ∧ l4.toInt ≤ 146034 → l4.toInt % 366 = 0 → 0 ≤ l5.toInt ∧ l5.toInt ≤ 40 → 1 ≤ l8.toInt ∧ l8.toInt ≤ 1000000 → (-1) ≤ l10.toInt ∧ l10.toInt ≤ 39 → 0 ≤ l11.toInt ∧ l11.toInt ≤ 40 → (jF4 h l5 l10 l8 l11.toNatClampNeg ∧ l10.toInt < l5.toInt ∧ l11.toInt ≤ l5.toInt) → l8.toInt ≤ R293 → jJ jSgM Dy h → jSm fp_X12_partLevy_r125 h0 h → jX m_X12_partLevy 12 0 0 306 [(0, .ref 125), (3, .int l3), (4, .int l4), (5, .int l5), (8, .long l8), (10, .int l10), (11, .int l11)] [] h 0 0 Q := by
  intro r
  induction r with
  | zero =>
    intro l3 l4 l5 l8 l10 l11 h hm y0 y1 y2 y3 y4 y5 y6 C0  m293 J Sm
    exfalso
    omega
  | succ r ih =>
    intro l3 l4 l5 l8 l10 l11 h hm y0 y1 y2 y3 y4 y5 y6 C0  m293 J Sm
    have f1 := C0.1.1.2.1
    have f0 := C0.1.2.1
    refine x_iload (x := l11) rfl rfl ?_
    refine x_iload (x := l5) rfl rfl ?_
    refine x_icge (tgt := 363) rfl rfl (ti_ge rfl rfl ⟨fun c1 => ?_, fun c1 => ?_⟩)
    ·
      have ip := jF4_its C0.1 (by have := C0.2.2; omega)
      refine x_aloadn (x := 125) rfl rfl ?_
      refine z_getR (N := 92) (b := 165) 12 80 rfl f_12_153 rfl J rfl 16080 ⟨rfl, rfl⟩ rfl ?_
      refine x_iload (x := l10) rfl rfl ?_
      refine x_dup2 rfl rfl rfl ?_
      refine z_laldQ (N := 40) rfl J rfl rfl (by omega) (fun v2 qv2 => ?_)
      have ev2 := jfullL v2
      refine x_lconst (v := 1) rfl kl_1 ?_
      refine z_ladd0 rfl (fun v3 => ?_)
      have ev3 := jfullL v3
      refine z_last (N := 40) (l := 0) (u := 40) rfl hD J Sm rfl rfl rfl (by omega) rfl (fun h w4 J Sm => ?_)
      refine x_aloadn (x := 125) rfl rfl ?_
      refine z_getR (N := 92) (b := 166) 12 81 rfl f_12_156 rfl J rfl 16081 ⟨rfl, rfl⟩ rfl ?_
      refine x_iload (x := l10) rfl rfl ?_
      refine x_ldc2 (v := (-1)) rfl z_12_242 ?_
      refine z_last (N := 40) (l := 0) (u := 40) rfl hD J Sm rfl rfl rfl (by omega) rfl (fun h w5 J Sm => ?_)
      refine x_lload (x := l8) rfl rfl ?_
      refine x_lconst (v := 1) rfl kl_1 ?_
      refine z_lsub rfl rfl jkl_1 (by omega) (fun v6 ev6 => ?_)
      refine x_lstore (lsx9 := [(8, .long v6), (0, .ref 125), (3, .int l3), (4, .int l4), (5, .int l5), (10, .int l10), (11, .int l11)]) rfl rfl rfl ?_
      refine x_goto (tgt := 293) rfl rfl ?_
      exact jX.sub (jsb_c rfl (jsb_c rfl (jsb_c rfl (jsb_c rfl (jsb_c rfl jsb_n))))) (k293 l3 l4 l5 v6 h (by omega) (jr_of rfl (by omega)) (jr_of rfl (by omega)) (jr_mod rfl (by omega)) (jr_of rfl (by omega)) (jr_ofl rfl (by omega)) (jF3_s (k := l10) C0.1.1 C0.1.2.1 (by omega) (jlq_s w5 (fun q => q rfl) (jlq_o w4 rfl jlq_0)) (by rw [jlv_w w5]; decide) (by omega)) J Sm)
    ·
      refine x_aloadn (x := 125) rfl rfl ?_
      refine z_getR (N := 92) (b := 166) 12 81 rfl f_12_156 rfl J rfl 16081 ⟨rfl, rfl⟩ rfl ?_
      refine x_iload (x := l11) rfl rfl ?_
      refine z_laldQ (N := 40) rfl J rfl rfl (by omega) (fun v7 qv7 => ?_)
      have ev7 := jfullL v7
      refine x_lconst (v := 0) rfl kl_0 ?_
      refine z_lcmp rfl rfl jkl_0 (fun v8 ev8 => ?_)
      refine x_iflt (tgt := 353) rfl rfl (ti_lt rfl jk_0 ⟨fun c9 => ?_, fun c9 => ?_⟩)
      ·
        exact jX.sub (jsb_c rfl (jsb_c rfl (jsb_c rfl (jsb_c rfl (jsb_c rfl (jsb_c rfl (jsb_c rfl jsb_n))))))) (ct_X12_partLevy_r125_353 hD hQ k293 ih l3 l4 l5 l8 l10 l11 h (jr_of rfl (by omega)) (jr_of rfl (by omega)) (jr_mod rfl (by omega)) (jr_of rfl (by omega)) (jr_ofl rfl (by omega)) (jr_of rfl (by omega)) (jr_of rfl (by omega)) ⟨C0.1, C0.2.1, (by omega), (fun _ => by rw [qv7]; omega)⟩ (by omega) (by omega) J Sm)
      ·
        refine x_iload (x := l10) rfl rfl ?_
        refine x_iflt (tgt := 348) rfl rfl (ti_lt rfl jk_0 ⟨fun c10 => ?_, fun c10 => ?_⟩)
        ·
          exact jX.sub (jsb_c rfl (jsb_c rfl (jsb_c rfl (jsb_c rfl (jsb_c rfl (jsb_c rfl jsb_n)))))) (ct_X12_partLevy_r125_348 hD hQ k293 ih l3 l4 l5 l8 l11 h (jr_of rfl (by omega)) (jr_of rfl (by omega)) (jr_mod rfl (by omega)) (jr_of rfl (by omega)) (jr_ofl rfl (by omega)) (jr_of rfl (by omega)) ⟨C0.1.1, C0.1.2.1, (by omega)⟩ (by omega) (by omega) J Sm)
        ·
          refine x_aloadn (x := 125) rfl rfl ?_
          refine z_getR (N := 92) (b := 166) 12 81 rfl f_12_156 rfl J rfl 16081 ⟨rfl, rfl⟩ rfl ?_
          refine x_iload (x := l11) rfl rfl ?_
          refine z_laldQ (N := 40) rfl J rfl rfl (by omega) (fun v11 qv11 => ?_)
          have ev11 := jfullL v11
          refine x_aloadn (x := 125) rfl rfl ?_
          refine z_getR (N := 92) (b := 166) 12 81 rfl f_12_156 rfl J rfl 16081 ⟨rfl, rfl⟩ rfl ?_
          refine x_iload (x := l10) rfl rfl ?_
          refine z_laldQ (N := 40) rfl J rfl rfl (by omega) (fun v12 qv12 => ?_)
          have ev12 := jfullL v12
          refine z_lcmp rfl rfl rfl (fun v13 ev13 => ?_)
          refine x_ifle (tgt := 353) rfl rfl (ti_le rfl jk_0 ⟨fun c14 => ?_, fun c14 => ?_⟩)
          ·
            exact jX.sub (jsb_c rfl (jsb_c rfl (jsb_c rfl (jsb_c rfl (jsb_c rfl (jsb_c rfl (jsb_c rfl jsb_n))))))) (ct_X12_partLevy_r125_353 hD hQ k293 ih l3 l4 l5 l8 l10 l11 h (jr_of rfl (by omega)) (jr_of rfl (by omega)) (jr_mod rfl (by omega)) (jr_of rfl (by omega)) (jr_ofl rfl (by omega)) (jr_of rfl (by omega)) (jr_of rfl (by omega)) ⟨C0.1, C0.2.1, (by omega), (fun q => absurd q (by omega))⟩ (by omega) (by omega) J Sm)
          ·
            exact jX.sub (jsb_c rfl (jsb_c rfl (jsb_c rfl (jsb_c rfl (jsb_c rfl (jsb_c rfl jsb_n)))))) (ct_X12_partLevy_r125_348 hD hQ k293 ih l3 l4 l5 l8 l11 h (jr_of rfl (by omega)) (jr_of rfl (by omega)) (jr_mod rfl (by omega)) (jr_of rfl (by omega)) (jr_ofl rfl (by omega)) (jr_of rfl (by omega)) ⟨C0.1.1, C0.1.2.1, (by omega)⟩ (by omega) (by omega) J Sm)
set_option maxRecDepth 100000 in
set_option maxHeartbeats 4000000 in
theorem ct_X12_partLevy_r125_293 {Dy : jH → Prop} {h0 : jH} {Q : Option Value → jH → Prop} (hD : jDk Dy) (hQ : ∀ hx9, jJ jSgM Dy hx9 → jSm fp_X12_partLevy_r125 h0 hx9 → Q none hx9) : ∀ r : Nat, ∀ (l3 : Int32) (l4 : Int32) (l5 : Int32) (l8 : Int64) (h : jH), l8.toInt < (r : Int) → 0 ≤ l3.toInt ∧ l3.toInt ≤ 2 → 0 ≤ l4.toInt ∧ l4.toInt ≤ 146034 → l4.toInt % 366 = 0 → 0 ≤ l5.toInt ∧ l5.toInt ≤ 40 → 0 ≤ l8.toInt ∧ l8.toInt ≤ 1000000 → jF3 h l5 l8 → jJ jSgM Dy h → jSm fp_X12_partLevy_r125 h0 h → jX m_X12_partLevy 12 0 0 293 [(0, .ref 125), (3, .int l3), (4, .int l4), (5, .int l5), (8, .long l8)] [] h 0 0 Q := by
  intro r
  induction r with
  | zero =>
    intro l3 l4 l5 l8 h hm y0 y1 y2 y3 y4 C0   J Sm
    exfalso
    have := C0.1; omega
  | succ r ih =>
    intro l3 l4 l5 l8 h hm y0 y1 y2 y3 y4 C0   J Sm
    refine x_lload (x := l8) rfl rfl ?_
    refine x_lconst (v := 0) rfl kl_0 ?_
    refine z_lcmp rfl rfl jkl_0 (fun v1 ev1 => ?_)
    refine x_ifle (tgt := 393) rfl rfl (ti_le rfl jk_0 ⟨fun c2 => ?_, fun c2 => ?_⟩)
    ·
      refine x_iconst (v := 0) rfl ki_0 ?_
      refine x_istore (lsx9 := [(10, .int 0), (0, .ref 125), (3, .int l3), (4, .int l4), (5, .int l5), (8, .long l8)]) rfl rfl rfl ?_
      exact jX.sub (jsb_c rfl (jsb_c rfl (jsb_c rfl (jsb_c rfl (jsb_c rfl jsb_n))))) (ct_X12_partLevy_r125_396 hD hQ  41 l3 l4 l5 0 h (by have := jk_0; omega) (jr_of rfl (by omega)) (jr_of rfl (by omega)) (jr_mod rfl (by omega)) (jr_of rfl (by omega)) (jr_of jk_0 (by omega)) J Sm)
    ·
      refine x_iconst (v := (-1)) rfl ki_m1 ?_
      refine x_istore (lsx9 := [(10, .int (-1)), (0, .ref 125), (3, .int l3), (4, .int l4), (5, .int l5), (8, .long l8)]) rfl rfl rfl ?_
      refine x_iconst (v := 0) rfl ki_0 ?_
      refine x_istore (lsx9 := [(11, .int 0), (10, .int (-1)), (0, .ref 125), (3, .int l3), (4, .int l4), (5, .int l5), (8, .long l8)]) rfl rfl rfl ?_
      exact jX.sub (jsb_c rfl (jsb_c rfl (jsb_c rfl (jsb_c rfl (jsb_c rfl (jsb_c rfl (jsb_c rfl jsb_n))))))) (ct_X12_partLevy_r125_306 hD hQ ih 41 l3 l4 l5 l8 (-1) 0 h (by have := jk_0; omega) (jr_of rfl (by omega)) (jr_of rfl (by omega)) (jr_mod rfl (by omega)) (jr_of rfl (by omega)) (jr_ofl rfl (by omega)) (jr_of jk_m1 (by omega)) (jr_of jk_0 (by omega)) ⟨(jF4_0 C0 (by omega)), (by have := jk_m1; omega), (by have := jk_0; omega)⟩ (by omega) J Sm)
set_option maxRecDepth 100000 in
set_option maxHeartbeats 4000000 in
theorem ct_X12_partLevy_r125_287 {Dy : jH → Prop} {h0 : jH} {Q : Option Value → jH → Prop} {R196 : Int} (hD : jDk Dy) (hQ : ∀ hx9, jJ jSgM Dy hx9 → jSm fp_X12_partLevy_r125 h0 hx9 → Q none hx9) (k196 : ∀ (l2 : Int32) (l3 : Int32) (l4 : Int32) (l5 : Int32) (l6 : Int64) (l8 : Int64) (l10 : Int32) (h : jH), 40 - l10.toInt < R196 → 48300 ≤ l2.toInt ∧ l2.toInt ≤ 48456 → l2.toInt % 4 = 0 → 0 ≤ l3.toInt ∧ l3.toInt ≤ 2 → 0 ≤ l4.toInt ∧ l4.toInt ≤ 146034 → l4.toInt % 366 = 0 → 0 ≤ l5.toInt ∧ l5.toInt ≤ 40 → 0 ≤ l6.toInt ∧ l6.toInt ≤ 88046829527 → 0 ≤ l8.toInt ∧ l8.toInt ≤ 1000000 → 0 ≤ l10.toInt ∧ l10.toInt ≤ 40 → (jF2 h l5 l2 l6 l8 l10.toNatClampNeg ∧ l10.toInt ≤ l5.toInt) → jJ jSgM Dy h → jSm fp_X12_partLevy_r125 h0 h → jX m_X12_partLevy 12 0 0 196 [(0, .ref 125), (2, .int l2), (3, .int l3), (4, .int l4), (5, .int l5), (6, .long l6), (8, .long l8), (10, .int l10)] [] h 0 0 Q) : ∀ (l2 : Int32) (l3 : Int32) (l4 : Int32) (l5 : Int32) (l6 : Int64) (l8 : Int64) (l10 : Int32) (h : jH), 48300 ≤ l2.toInt ∧ l2.toInt ≤ 48456 → l2.toInt % 4 = 0 → 0 ≤ l3.toInt ∧ l3.toInt ≤ 2 → 0 ≤ l4.toInt ∧ l4.toInt ≤ 146034 → l4.toInt % 366 = 0 → 1 ≤ l5.toInt ∧ l5.toInt ≤ 40 → 0 ≤ l6.toInt ∧ l6.toInt ≤ 88046829527 → (-2147483647000000) ≤ l8.toInt ∧ l8.toInt ≤ 1000000 → 0 ≤ l10.toInt ∧ l10.toInt ≤ 39 → (jF2 h l5 l2 l6 l8 (l10.toNatClampNeg + 1) ∧ l10.toInt < l5.toInt) → 40 - l10.toInt ≤ R196 → jJ jSgM Dy h → jSm fp_X12_partLevy_r125 h0 h → jX m_X12_partLevy 12 0 0 287 [(0, .ref 125), (2, .int l2), (3, .int l3), (4, .int l4), (5, .int l5), (6, .long l6), (8, .long l8), (10, .int l10)] [] h 0 0 Q := by
  intro l2 l3 l4 l5 l6 l8 l10 h y0 y1 y2 y3 y4 y5 y6 y7 y8 C0  m196 J Sm
  have ja := jcl_of (d := l10) (by omega)
  have jn := jcl_of (d := l5) (by omega)
  have fb := jF2_b C0.1 (by have := C0.2; omega)
  have jb := jsv_b C0.1.2.1
  have j1 := C0.1.1
  refine z_iinc (x := l10) (lsx9 := fun v1 => [(10, .int v1), (0, .ref 125), (2, .int l2), (3, .int l3), (4, .int l4), (5, .int l5), (6, .long l6), (8, .long l8)]) rfl rfl rfl jko_1 (by omega) rfl (fun _ => rfl) (fun v1 ev1 => ?_)
  refine x_goto (tgt := 196) rfl rfl ?_
  exact jX.sub (jsb_c rfl (jsb_c rfl (jsb_c rfl (jsb_c rfl (jsb_c rfl (jsb_c rfl (jsb_c rfl (jsb_c rfl jsb_n)))))))) (k196 l2 l3 l4 l5 l6 l8 v1 h (by omega) (jr_of rfl (by omega)) (jr_mod rfl (by omega)) (jr_of rfl (by omega)) (jr_of rfl (by omega)) (jr_mod rfl (by omega)) (jr_of rfl (by omega)) (jr_ofl rfl (by omega)) (jr_ofl rfl (by omega)) (jr_of rfl (by omega)) ⟨(jF2_n C0.1 (by omega)), (by have := C0.2; omega)⟩ J Sm)
set_option maxRecDepth 100000 in
set_option maxHeartbeats 4000000 in
theorem ct_X12_partLevy_r125_196 {Dy : jH → Prop} {h0 : jH} {Q : Option Value → jH → Prop} (hD : jDk Dy) (hQ : ∀ hx9, jJ jSgM Dy hx9 → jSm fp_X12_partLevy_r125 h0 hx9 → Q none hx9) : ∀ r : Nat, ∀ (l2 : Int32) (l3 : Int32) (l4 : Int32) (l5 : Int32) (l6 : Int64) (l8 : Int64) (l10 : Int32) (h : jH), 40 - l10.toInt < (r : Int) → 48300 ≤ l2.toInt ∧ l2.toInt ≤ 48456 → l2.toInt % 4 = 0 → 0 ≤ l3.toInt ∧ l3.toInt ≤ 2 → 0 ≤ l4.toInt ∧ l4.toInt ≤ 146034 → l4.toInt % 366 = 0 → 0 ≤ l5.toInt ∧ l5.toInt ≤ 40 → 0 ≤ l6.toInt ∧ l6.toInt ≤ 88046829527 → 0 ≤ l8.toInt ∧ l8.toInt ≤ 1000000 → 0 ≤ l10.toInt ∧ l10.toInt ≤ 40 → (jF2 h l5 l2 l6 l8 l10.toNatClampNeg ∧ l10.toInt ≤ l5.toInt) → jJ jSgM Dy h → jSm fp_X12_partLevy_r125 h0 h → jX m_X12_partLevy 12 0 0 196 [(0, .ref 125), (2, .int l2), (3, .int l3), (4, .int l4), (5, .int l5), (6, .long l6), (8, .long l8), (10, .int l10)] [] h 0 0 Q := by
  intro r
  induction r with
  | zero =>
    intro l2 l3 l4 l5 l6 l8 l10 h hm y0 y1 y2 y3 y4 y5 y6 y7 y8 C0   J Sm
    exfalso
    omega
  | succ r ih =>
    intro l2 l3 l4 l5 l6 l8 l10 h hm y0 y1 y2 y3 y4 y5 y6 y7 y8 C0   J Sm
    have ja := jcl_of (d := l10) (by omega)
    have jn := jcl_of (d := l5) (by omega)
    have fb := jF2_b C0.1 (by have := C0.2; omega)
    have jb := jsv_b C0.1.2.1
    have j1 := C0.1.1
    refine x_iload (x := l10) rfl rfl ?_
    refine x_iload (x := l5) rfl rfl ?_
    refine x_icge (tgt := 293) rfl rfl (ti_ge rfl rfl ⟨fun c1 => ?_, fun c1 => ?_⟩)
    ·
      exact jX.sub (jsb_c rfl (jsb_c rfl (jsb_c rfl (jsb_c rfl (jsb_c rfl jsb_n))))) (ct_X12_partLevy_r125_293 hD hQ  1000001 l3 l4 l5 l8 h (by have q := jF3_of C0.1 (by have := C0.2; omega); have := q.2.1; omega) (jr_of rfl (by omega)) (jr_of rfl (by omega)) (jr_mod rfl (by omega)) (jr_of rfl (by omega)) (jr_ofl rfl (by omega)) (jF3_of C0.1 (by have := C0.2; omega)) J Sm)
    ·
      refine x_aloadn (x := 125) rfl rfl ?_
      refine z_getR (N := 92) (b := 167) 12 82 rfl f_12_159 rfl J rfl 16082 ⟨rfl, rfl⟩ rfl ?_
      refine x_iload (x := l10) rfl rfl ?_
      refine z_zald (N := 40) rfl J rfl sg_167_0_40_1_0_1 rfl (by omega) (fun v2 qv2 ev2 => ?_)
      refine x_ifeq (tgt := 287) rfl rfl (ti_eq rfl jk_0 ⟨fun c3 => ?_, fun c3 => ?_⟩)
      ·
        exact jX.sub (jsb_c rfl (jsb_c rfl (jsb_c rfl (jsb_c rfl (jsb_c rfl (jsb_c rfl (jsb_c rfl (jsb_c rfl jsb_n)))))))) (ct_X12_partLevy_r125_287 hD hQ ih l2 l3 l4 l5 l6 l8 l10 h (jr_of rfl (by omega)) (jr_mod rfl (by omega)) (jr_of rfl (by omega)) (jr_of rfl (by omega)) (jr_mod rfl (by omega)) (jr_of rfl (by omega)) (jr_ofl rfl (by omega)) (jr_ofl rfl (by omega)) (jr_of rfl (by omega)) ⟨(jF2_k C0.1 qv2 (by omega)), (by omega)⟩ (by omega) J Sm)
      ·
        refine x_aloadn (x := 125) rfl rfl ?_
        refine z_getR (N := 92) (b := 165) 12 80 rfl f_12_153 rfl J rfl 16080 ⟨rfl, rfl⟩ rfl ?_
        refine x_iload (x := l10) rfl rfl ?_
        refine x_aloadn (x := 125) rfl rfl ?_
        refine z_getR (N := 92) (b := 126) 12 2 rfl f_12_8 rfl J rfl 16002 ⟨rfl, rfl⟩ rfl ?_
        refine x_iloadn (x := l2) rfl rfl ?_
        refine x_iconst (v := 2) rfl ki_2 ?_
        refine z_iadd rfl rfl jk_2 (by omega) (fun v4 ev4 => ?_)
        refine z_iald (N := 50660) rfl J rfl sg_126_48300_48460_4_2_3 rfl (by omega) (fun v5 qv5 ev5 => ?_)
        have pq := jPn_q (l := l2) qv5 (by omega) (by omega)
        have pb := C0.1.2.2.2.2.2.2
        refine z_i2l rfl rfl (fun v6 ev6 => ?_)
        refine x_aloadn (x := 125) rfl rfl ?_
        refine z_getR (N := 92) (b := 162) 12 77 rfl f_12_144 rfl J rfl 16077 ⟨rfl, rfl⟩ rfl ?_
        refine x_bipush (v := 40) rfl kb_40 ?_
        refine x_iload (x := l10) rfl rfl ?_
        refine z_iadd rfl jk_40 rfl (by omega) (fun v7 ev7 => ?_)
        refine z_iald0 (N := 80) rfl J rfl rfl (by omega) (fun v8 qv8 => ?_)
        have ev8 := jfull v8
        have vq := jpv_t (l := l10) qv2 (by omega) qv8 (by omega) (by omega)
        have vp := jPp_v (n := l5) (l := l10) C0.1.2.1 qv2 (by omega) qv8 (by omega) (by omega)
        have vb := jF2_v C0.1 (by omega)
        refine z_i2l rfl rfl (fun v9 ev9 => ?_)
        refine z_lmulQ (A := 1000000) (B := 2147483647) rfl rfl rfl (by omega) (by omega) rfl (by decide) (fun v10 ev10 => ?_)
        refine x_lload (x := l6) rfl rfl ?_
        refine z_ldivQ rfl rfl rfl (by omega) (by omega) (fun v11 ev11 => ?_)
        have bv11 := (show 0 ≤ v11.toInt ∧ v11.toInt ≤ v10.toInt from by rw [ev11]; exact ⟨Int.ediv_nonneg (by omega) (by omega), Int.ediv_le_self _ (by omega)⟩)
        refine z_last (N := 40) (l := 0) (u := 40) rfl hD J Sm rfl rfl rfl (by omega) rfl (fun h w12 J Sm => ?_)
        refine x_aloadn (x := 125) rfl rfl ?_
        refine z_getR (N := 92) (b := 166) 12 81 rfl f_12_156 rfl J rfl 16081 ⟨rfl, rfl⟩ rfl ?_
        refine x_iload (x := l10) rfl rfl ?_
        refine x_aloadn (x := 125) rfl rfl ?_
        refine z_getR (N := 92) (b := 126) 12 2 rfl f_12_8 rfl J rfl 16002 ⟨rfl, rfl⟩ rfl ?_
        refine x_iloadn (x := l2) rfl rfl ?_
        refine x_iconst (v := 2) rfl ki_2 ?_
        refine z_iadd rfl rfl jk_2 (by omega) (fun v13 ev13 => ?_)
        refine z_iald (N := 50660) rfl J rfl sg_126_48300_48460_4_2_3 rfl (by omega) (fun v14 qv14 ev14 => ?_)
        have pq2 := (jPn_q (l := l2) qv14 (by omega) (by omega)).trans (jPn_e (jeq_l w12 jeq_0))
        refine z_i2l rfl rfl (fun v15 ev15 => ?_)
        refine x_aloadn (x := 125) rfl rfl ?_
        refine z_getR (N := 92) (b := 162) 12 77 rfl f_12_144 rfl J rfl 16077 ⟨rfl, rfl⟩ rfl ?_
        refine x_bipush (v := 40) rfl kb_40 ?_
        refine x_iload (x := l10) rfl rfl ?_
        refine z_iadd rfl jk_40 rfl (by omega) (fun v16 ev16 => ?_)
        refine z_iald0 (N := 80) rfl J rfl rfl (by omega) (fun v17 qv17 => ?_)
        have ev17 := jfull v17
        have vq2 := (jpv_t (l := l10) (jml w12 qv2) (by omega) qv17 (by omega) (by omega)).trans (jpv_e ((jeq_l w12 (jeq_0 (P := fun _ => True))) _ trivial) (jeq_w (fun _ _ => trivial) (jeq_l w12 (jeq_0 (P := fun _ => True)))))
        refine z_i2l rfl rfl (fun v18 ev18 => ?_)
        refine z_lmulQ (A := 1000000) (B := 2147483647) rfl rfl rfl (by omega) (by omega) rfl (by decide) (fun v19 ev19 => ?_)
        refine x_lload (x := l6) rfl rfl ?_
        refine z_lremQ rfl rfl rfl (by omega) (by omega) (fun v20 ev20 => ?_)
        refine z_last (N := 40) (l := 0) (u := 40) rfl hD J Sm rfl rfl rfl (by omega) rfl (fun h w21 J Sm => ?_)
        refine x_lload (x := l8) rfl rfl ?_
        refine x_aloadn (x := 125) rfl rfl ?_
        refine z_getR (N := 92) (b := 165) 12 80 rfl f_12_153 rfl J rfl 16080 ⟨rfl, rfl⟩ rfl ?_
        refine x_iload (x := l10) rfl rfl ?_
        refine z_laldQ (N := 40) rfl J rfl rfl (by omega) (fun v22 qv22 => ?_)
        have ev22 := jfullL v22
        have ve : v22.toInt = v11.toInt := congrArg Int64.toInt (qv22.symm.trans (jlv_c w21 rfl (jlv_w w12)))
        refine z_lsub rfl rfl rfl (by omega) (fun v23 ev23 => ?_)
        refine x_lstore (lsx9 := [(8, .long v23), (0, .ref 125), (2, .int l2), (3, .int l3), (4, .int l4), (5, .int l5), (6, .long l6), (10, .int l10)]) rfl rfl rfl ?_
        exact jX.sub (jsb_c rfl (jsb_c rfl (jsb_c rfl (jsb_c rfl (jsb_c rfl (jsb_c rfl (jsb_c rfl (jsb_c rfl jsb_n)))))))) (ct_X12_partLevy_r125_287 hD hQ ih l2 l3 l4 l5 l6 v23 l10 h (jr_of rfl (by omega)) (jr_mod rfl (by omega)) (jr_of rfl (by omega)) (jr_of rfl (by omega)) (jr_mod rfl (by omega)) (jr_of rfl (by omega)) (jr_ofl rfl (by omega)) (jr_ofl rfl (by omega)) (jr_of rfl (by omega)) ⟨(jF2_p (sh := v11) (rm := v20) (v := v8.toInt) C0.1 (by omega) vq vp (by rw [ev11, ev10.1, ev6, ev9, pq]) (by rw [ev20, ev19.1, ev15, ev18, pq2, vq2, ← vq]) (jeq_l w21 (jeq_l w12 jeq_0)) (jeq_l w21 (jeq_l w12 jeq_0)) (jeq_l w21 (jeq_l w12 jeq_0)) (jlq_s w21 (fun q => q rfl) (jlq_o w12 rfl jlq_0)) (jlv_w w21) (by omega)), (by omega)⟩ (by omega) J Sm)
set_option maxRecDepth 100000 in
set_option maxHeartbeats 4000000 in
theorem ct_X12_partLevy_r125_191 {Dy : jH → Prop} {h0 : jH} {Q : Option Value → jH → Prop} (hD : jDk Dy) (hQ : ∀ hx9, jJ jSgM Dy hx9 → jSm fp_X12_partLevy_r125 h0 hx9 → Q none hx9) : ∀ (l2 : Int32) (l3 : Int32) (l4 : Int32) (l5 : Int32) (l6 : Int64) (s0 : Int64) (h : jH), 48300 ≤ l2.toInt ∧ l2.toInt ≤ 48456 → l2.toInt % 4 = 0 → 0 ≤ l3.toInt ∧ l3.toInt ≤ 2 → 0 ≤ l4.toInt ∧ l4.toInt ≤ 146034 → l4.toInt % 366 = 0 → 0 ≤ l5.toInt ∧ l5.toInt ≤ 40 → 1 ≤ l6.toInt ∧ l6.toInt ≤ 88046829527 → 0 ≤ s0.toInt ∧ s0.toInt ≤ 1000000 → l6.toInt ≠ 0 → jF2 h l5 l2 l6 s0 (0 : Int32).toNatClampNeg → jJ jSgM Dy h → jSm fp_X12_partLevy_r125 h0 h → jX m_X12_partLevy 12 0 0 191 [(0, .ref 125), (2, .int l2), (3, .int l3), (4, .int l4), (5, .int l5), (6, .long l6)] [.long s0] h 0 0 Q := by
  intro l2 l3 l4 l5 l6 s0 h y0 y1 y2 y3 y4 y5 y6 y7 y8 C0   J Sm
  have jb := jsv_b C0.2.1
  have j1 := C0.1
  have jn := jcl_of (d := l5) (by omega)
  have fb := jF2_b C0 (by rw [show (0 : Int32).toNatClampNeg = 0 from by decide]; omega)
  refine x_lstore (lsx9 := [(8, .long s0), (0, .ref 125), (2, .int l2), (3, .int l3), (4, .int l4), (5, .int l5), (6, .long l6)]) rfl rfl rfl ?_
  refine x_iconst (v := 0) rfl ki_0 ?_
  refine x_istore (lsx9 := [(10, .int 0), (8, .long s0), (0, .ref 125), (2, .int l2), (3, .int l3), (4, .int l4), (5, .int l5), (6, .long l6)]) rfl rfl rfl ?_
  exact jX.sub (jsb_c rfl (jsb_c rfl (jsb_c rfl (jsb_c rfl (jsb_c rfl (jsb_c rfl (jsb_c rfl (jsb_c rfl jsb_n)))))))) (ct_X12_partLevy_r125_196 hD hQ  41 l2 l3 l4 l5 l6 s0 0 h (by have := jk_0; omega) (jr_of rfl (by omega)) (jr_mod rfl (by omega)) (jr_of rfl (by omega)) (jr_of rfl (by omega)) (jr_mod rfl (by omega)) (jr_of rfl (by omega)) (jr_ofl rfl (by omega)) (jr_ofl rfl (by omega)) (jr_of jk_0 (by omega)) ⟨C0, (by have := jk_0; omega)⟩ J Sm)
set_option maxRecDepth 100000 in
set_option maxHeartbeats 4000000 in
theorem ct_X12_partLevy_r125_5000191 {Dy : jH → Prop} {h0 : jH} {Q : Option Value → jH → Prop} (hD : jDk Dy) (hQ : ∀ hx9, jJ jSgM Dy hx9 → jSm fp_X12_partLevy_r125 h0 hx9 → Q none hx9) : ∀ (l2 : Int32) (l3 : Int32) (l4 : Int32) (l5 : Int32) (l6 : Int64) (h : jH), 48300 ≤ l2.toInt ∧ l2.toInt ≤ 48456 → l2.toInt % 4 = 0 → 0 ≤ l3.toInt ∧ l3.toInt ≤ 2 → 0 ≤ l4.toInt ∧ l4.toInt ≤ 146034 → l4.toInt % 366 = 0 → 0 ≤ l5.toInt ∧ l5.toInt ≤ 40 → 0 ≤ l6.toInt ∧ l6.toInt ≤ 0 → jF2 h l5 l2 l6 0 (0 : Int32).toNatClampNeg → jJ jSgM Dy h → jSm fp_X12_partLevy_r125 h0 h → jX m_X12_partLevy 12 0 0 191 [(0, .ref 125), (2, .int l2), (3, .int l3), (4, .int l4), (5, .int l5), (6, .long l6)] [.long 0] h 0 0 Q := by
  intro l2 l3 l4 l5 l6 h y0 y1 y2 y3 y4 y5 y6 C0   J Sm
  have jb := jsv_b C0.2.1
  have j1 := C0.1
  have jn := jcl_of (d := l5) (by omega)
  have fb := jF2_b C0 (by rw [show (0 : Int32).toNatClampNeg = 0 from by decide]; omega)
  refine x_lstore (lsx9 := [(8, .long 0), (0, .ref 125), (2, .int l2), (3, .int l3), (4, .int l4), (5, .int l5), (6, .long l6)]) rfl rfl rfl ?_
  refine x_iconst (v := 0) rfl ki_0 ?_
  refine x_istore (lsx9 := [(10, .int 0), (8, .long 0), (0, .ref 125), (2, .int l2), (3, .int l3), (4, .int l4), (5, .int l5), (6, .long l6)]) rfl rfl rfl ?_
  exact jX.sub (jsb_c rfl (jsb_c rfl (jsb_c rfl (jsb_c rfl (jsb_c rfl (jsb_c rfl (jsb_c rfl (jsb_c rfl jsb_n)))))))) (ct_X12_partLevy_r125_196 hD hQ  41 l2 l3 l4 l5 l6 0 0 h (by have := jk_0; omega) (jr_of rfl (by omega)) (jr_mod rfl (by omega)) (jr_of rfl (by omega)) (jr_of rfl (by omega)) (jr_mod rfl (by omega)) (jr_of rfl (by omega)) (jr_ofl rfl (by omega)) (jr_ofl jkl_0 (by omega)) (jr_of jk_0 (by omega)) ⟨C0, (by have := jk_0; omega)⟩ J Sm)
set_option maxRecDepth 100000 in
set_option maxHeartbeats 4000000 in
theorem ct_X12_partLevy_r125_5000162 {Dy : jH → Prop} {h0 : jH} {Q : Option Value → jH → Prop} {R51 : Int} (hD : jDk Dy) (hQ : ∀ hx9, jJ jSgM Dy hx9 → jSm fp_X12_partLevy_r125 h0 hx9 → Q none hx9) (k51 : ∀ (l2 : Int32) (l3 : Int32) (l4 : Int32) (l5 : Int32) (l6 : Int64) (l8 : Int32) (h : jH), 40 - l8.toInt < R51 → 48300 ≤ l2.toInt ∧ l2.toInt ≤ 48456 → l2.toInt % 4 = 0 → 0 ≤ l3.toInt ∧ l3.toInt ≤ 2 → 0 ≤ l4.toInt ∧ l4.toInt ≤ 146034 → l4.toInt % 366 = 0 → 0 ≤ l5.toInt ∧ l5.toInt ≤ 40 → (-2147483648) ≤ l6.toInt ∧ l6.toInt ≤ 88046829527 → 0 ≤ l8.toInt ∧ l8.toInt ≤ 40 → (jF1 h l6 l8.toNatClampNeg ∧ l8.toInt ≤ l5.toInt) → jJ jSgM Dy h → jSm fp_X12_partLevy_r125 h0 h → jX m_X12_partLevy 12 0 0 51 [(0, .ref 125), (2, .int l2), (3, .int l3), (4, .int l4), (5, .int l5), (6, .long l6), (8, .int l8)] [] h 0 0 Q) : ∀ (l2 : Int32) (l3 : Int32) (l4 : Int32) (l5 : Int32) (l8 : Int32) (s1 : Int64) (h : jH), 48300 ≤ l2.toInt ∧ l2.toInt ≤ 48456 → l2.toInt % 4 = 0 → 0 ≤ l3.toInt ∧ l3.toInt ≤ 2 → 0 ≤ l4.toInt ∧ l4.toInt ≤ 146034 → l4.toInt % 366 = 0 → 1 ≤ l5.toInt ∧ l5.toInt ≤ 40 → 0 ≤ l8.toInt ∧ l8.toInt ≤ 39 → 0 ≤ s1.toInt ∧ s1.toInt ≤ 88046829527 → ((s1.toInt = jsv h l8.toNatClampNeg ∧ jPp h (l8.toNatClampNeg + 1) ∧ jRm h 0 (l8.toNatClampNeg + 1)) ∧ (0 : Int) = jpv h l8.toNatClampNeg ∧ l8.toInt < l5.toInt) → 40 - l8.toInt ≤ R51 → jJ jSgM Dy h → jSm fp_X12_partLevy_r125 h0 h → jX m_X12_partLevy 12 0 0 162 [(0, .ref 125), (2, .int l2), (3, .int l3), (4, .int l4), (5, .int l5), (8, .int l8)] [.long 0, .long s1] h 0 0 Q := by
  intro l2 l3 l4 l5 l8 s1 h y0 y1 y2 y3 y4 y5 y6 y7 C0  m51 J Sm
  have jb := jsv_b (h := h) (i := l8.toNatClampNeg) (fun j hj => C0.1.2.1 j (by omega))
  have jl := jcl_of (d := l8) (by omega)
  have j1 := C0.1.1
  refine z_ladd rfl rfl jkl_0 (by omega) (fun v1 ev1 => ?_)
  refine x_lstore (lsx9 := [(6, .long v1), (0, .ref 125), (2, .int l2), (3, .int l3), (4, .int l4), (5, .int l5), (8, .int l8)]) rfl rfl rfl ?_
  refine z_iinc (x := l8) (lsx9 := fun v2 => [(8, .int v2), (6, .long v1), (0, .ref 125), (2, .int l2), (3, .int l3), (4, .int l4), (5, .int l5)]) rfl rfl rfl jko_1 (by omega) rfl (fun _ => rfl) (fun v2 ev2 => ?_)
  refine x_goto (tgt := 51) rfl rfl ?_
  exact jX.sub (jsb_c rfl (jsb_c rfl (jsb_c rfl (jsb_c rfl (jsb_c rfl (jsb_c rfl (jsb_c rfl jsb_n))))))) (k51 l2 l3 l4 l5 v1 v2 h (by omega) (jr_of rfl (by omega)) (jr_mod rfl (by omega)) (jr_of rfl (by omega)) (jr_of rfl (by omega)) (jr_mod rfl (by omega)) (jr_of rfl (by omega)) (jr_ofl rfl (by omega)) (jr_of rfl (by omega)) ⟨(jF1_n C0.1 C0.2.1 (by omega) (by omega)), (by have := C0.2.2; omega)⟩ J Sm)
set_option maxRecDepth 100000 in
set_option maxHeartbeats 4000000 in
theorem ct_X12_partLevy_r125_162 {Dy : jH → Prop} {h0 : jH} {Q : Option Value → jH → Prop} {R51 : Int} (hD : jDk Dy) (hQ : ∀ hx9, jJ jSgM Dy hx9 → jSm fp_X12_partLevy_r125 h0 hx9 → Q none hx9) (k51 : ∀ (l2 : Int32) (l3 : Int32) (l4 : Int32) (l5 : Int32) (l6 : Int64) (l8 : Int32) (h : jH), 40 - l8.toInt < R51 → 48300 ≤ l2.toInt ∧ l2.toInt ≤ 48456 → l2.toInt % 4 = 0 → 0 ≤ l3.toInt ∧ l3.toInt ≤ 2 → 0 ≤ l4.toInt ∧ l4.toInt ≤ 146034 → l4.toInt % 366 = 0 → 0 ≤ l5.toInt ∧ l5.toInt ≤ 40 → (-2147483648) ≤ l6.toInt ∧ l6.toInt ≤ 88046829527 → 0 ≤ l8.toInt ∧ l8.toInt ≤ 40 → (jF1 h l6 l8.toNatClampNeg ∧ l8.toInt ≤ l5.toInt) → jJ jSgM Dy h → jSm fp_X12_partLevy_r125 h0 h → jX m_X12_partLevy 12 0 0 51 [(0, .ref 125), (2, .int l2), (3, .int l3), (4, .int l4), (5, .int l5), (6, .long l6), (8, .int l8)] [] h 0 0 Q) : ∀ (l2 : Int32) (l3 : Int32) (l4 : Int32) (l5 : Int32) (l8 : Int32) (s0 : Int64) (s1 : Int64) (h : jH), 48300 ≤ l2.toInt ∧ l2.toInt ≤ 48456 → l2.toInt % 4 = 0 → 0 ≤ l3.toInt ∧ l3.toInt ≤ 2 → 0 ≤ l4.toInt ∧ l4.toInt ≤ 146034 → l4.toInt % 366 = 0 → 1 ≤ l5.toInt ∧ l5.toInt ≤ 40 → 0 ≤ l8.toInt ∧ l8.toInt ≤ 39 → (-2147483648) ≤ s0.toInt ∧ s0.toInt ≤ 2147483647 → 0 ≤ s1.toInt ∧ s1.toInt ≤ 88046829527 → ((s1.toInt = jsv h l8.toNatClampNeg ∧ jPp h (l8.toNatClampNeg + 1) ∧ jRm h 0 (l8.toNatClampNeg + 1)) ∧ s0.toInt = jpv h l8.toNatClampNeg ∧ l8.toInt < l5.toInt) → 40 - l8.toInt ≤ R51 → jJ jSgM Dy h → jSm fp_X12_partLevy_r125 h0 h → jX m_X12_partLevy 12 0 0 162 [(0, .ref 125), (2, .int l2), (3, .int l3), (4, .int l4), (5, .int l5), (8, .int l8)] [.long s0, .long s1] h 0 0 Q := by
  intro l2 l3 l4 l5 l8 s0 s1 h y0 y1 y2 y3 y4 y5 y6 y7 y8 C0  m51 J Sm
  have jb := jsv_b (h := h) (i := l8.toNatClampNeg) (fun j hj => C0.1.2.1 j (by omega))
  have jl := jcl_of (d := l8) (by omega)
  have j1 := C0.1.1
  refine z_ladd rfl rfl rfl (by omega) (fun v1 ev1 => ?_)
  refine x_lstore (lsx9 := [(6, .long v1), (0, .ref 125), (2, .int l2), (3, .int l3), (4, .int l4), (5, .int l5), (8, .int l8)]) rfl rfl rfl ?_
  refine z_iinc (x := l8) (lsx9 := fun v2 => [(8, .int v2), (6, .long v1), (0, .ref 125), (2, .int l2), (3, .int l3), (4, .int l4), (5, .int l5)]) rfl rfl rfl jko_1 (by omega) rfl (fun _ => rfl) (fun v2 ev2 => ?_)
  refine x_goto (tgt := 51) rfl rfl ?_
  exact jX.sub (jsb_c rfl (jsb_c rfl (jsb_c rfl (jsb_c rfl (jsb_c rfl (jsb_c rfl (jsb_c rfl jsb_n))))))) (k51 l2 l3 l4 l5 v1 v2 h (by omega) (jr_of rfl (by omega)) (jr_mod rfl (by omega)) (jr_of rfl (by omega)) (jr_of rfl (by omega)) (jr_mod rfl (by omega)) (jr_of rfl (by omega)) (jr_ofl rfl (by omega)) (jr_of rfl (by omega)) ⟨(jF1_n C0.1 C0.2.1 (by omega) (by omega)), (by have := C0.2.2; omega)⟩ J Sm)
set_option maxRecDepth 100000 in
set_option maxHeartbeats 4000000 in
theorem ct_X12_partLevy_r125_300134 {Dy : jH → Prop} {h0 : jH} {Q : Option Value → jH → Prop} {R51 : Int} (hD : jDk Dy) (hQ : ∀ hx9, jJ jSgM Dy hx9 → jSm fp_X12_partLevy_r125 h0 hx9 → Q none hx9) (k51 : ∀ (l2 : Int32) (l3 : Int32) (l4 : Int32) (l5 : Int32) (l6 : Int64) (l8 : Int32) (h : jH), 40 - l8.toInt < R51 → 48300 ≤ l2.toInt ∧ l2.toInt ≤ 48456 → l2.toInt % 4 = 0 → 0 ≤ l3.toInt ∧ l3.toInt ≤ 2 → 0 ≤ l4.toInt ∧ l4.toInt ≤ 146034 → l4.toInt % 366 = 0 → 0 ≤ l5.toInt ∧ l5.toInt ≤ 40 → (-2147483648) ≤ l6.toInt ∧ l6.toInt ≤ 88046829527 → 0 ≤ l8.toInt ∧ l8.toInt ≤ 40 → (jF1 h l6 l8.toNatClampNeg ∧ l8.toInt ≤ l5.toInt) → jJ jSgM Dy h → jSm fp_X12_partLevy_r125 h0 h → jX m_X12_partLevy 12 0 0 51 [(0, .ref 125), (2, .int l2), (3, .int l3), (4, .int l4), (5, .int l5), (6, .long l6), (8, .int l8)] [] h 0 0 Q) : ∀ (l2 : Int32) (l3 : Int32) (l4 : Int32) (l5 : Int32) (l6 : Int64) (l8 : Int32) (s1 : Int32) (h : jH), 48300 ≤ l2.toInt ∧ l2.toInt ≤ 48456 → l2.toInt % 4 = 0 → 0 ≤ l3.toInt ∧ l3.toInt ≤ 2 → 0 ≤ l4.toInt ∧ l4.toInt ≤ 146034 → l4.toInt % 366 = 0 → 1 ≤ l5.toInt ∧ l5.toInt ≤ 40 → 0 ≤ l6.toInt ∧ l6.toInt ≤ 88046829527 → 0 ≤ l8.toInt ∧ l8.toInt ≤ 39 → 0 ≤ s1.toInt ∧ s1.toInt ≤ 39 → (jF1 h l6 l8.toNatClampNeg ∧ s1 = l8 ∧ (jlv h 166 l8.toNatClampNeg).toInt = -1 ∧ l8.toInt < l5.toInt ∧ 0 < (jiv h 162 (40 + l8.toNatClampNeg)).toInt) → 40 - l8.toInt ≤ R51 → jJ jSgM Dy h → jSm fp_X12_partLevy_r125 h0 h → jX m_X12_partLevy 12 0 0 134 [(0, .ref 125), (2, .int l2), (3, .int l3), (4, .int l4), (5, .int l5), (6, .long l6), (8, .int l8)] [.int 1, .int s1, .ref 167] h 0 0 Q := by
  intro l2 l3 l4 l5 l6 l8 s1 h y0 y1 y2 y3 y4 y5 y6 y7 y8 C0  m51 J Sm
  have sl := congrArg Int32.toInt C0.2.1
  refine z_zast (N := 40) (l := 0) (u := 40) (w := 1) rfl hD J Sm rfl rfl rfl (by omega) jk_1 (by omega) (wr_167 (fun q1 q2 q3 q4 => by omega)) rfl (fun h w1 J Sm => ?_)
  refine x_lload (x := l6) rfl rfl ?_
  refine x_aloadn (x := 125) rfl rfl ?_
  refine z_getR (N := 92) (b := 167) 12 82 rfl f_12_159 rfl J rfl 16082 ⟨rfl, rfl⟩ rfl ?_
  refine x_iload (x := l8) rfl rfl ?_
  refine z_zald (N := 40) rfl J rfl sg_167_0_40_1_0_1 rfl (by omega) (fun v2 qv2 ev2 => ?_)
  refine x_ifeq (tgt := 161) rfl rfl (ti_eq rfl jk_0 ⟨fun c3 => ?_, fun c3 => ?_⟩)
  ·
    refine x_lconst (v := 0) rfl kl_0 ?_
    exact jX.sub (jsb_c rfl (jsb_c rfl (jsb_c rfl (jsb_c rfl (jsb_c rfl (jsb_c rfl jsb_n)))))) (ct_X12_partLevy_r125_5000162 hD hQ k51 l2 l3 l4 l5 l8 l6 h (jr_of rfl (by omega)) (jr_mod rfl (by omega)) (jr_of rfl (by omega)) (jr_of rfl (by omega)) (jr_mod rfl (by omega)) (jr_of rfl (by omega)) (jr_of rfl (by omega)) (jr_ofl rfl (by omega)) ⟨(jF1_p C0.1 C0.2.1 w1 C0.2.2.1 (Or.inr C0.2.2.2.2)), (jpv_f qv2 (by omega)), (by have := C0.2.2.2; omega)⟩ (by omega) J Sm)
  ·
    refine x_aloadn (x := 125) rfl rfl ?_
    refine z_getR (N := 92) (b := 162) 12 77 rfl f_12_144 rfl J rfl 16077 ⟨rfl, rfl⟩ rfl ?_
    refine x_bipush (v := 40) rfl kb_40 ?_
    refine x_iload (x := l8) rfl rfl ?_
    refine z_iadd rfl jk_40 rfl (by omega) (fun v4 ev4 => ?_)
    refine z_iald0 (N := 80) rfl J rfl rfl (by omega) (fun v5 qv5 => ?_)
    have ev5 := jfull v5
    refine z_i2l rfl rfl (fun v6 ev6 => ?_)
    refine x_goto (tgt := 162) rfl rfl ?_
    exact jX.sub (jsb_c rfl (jsb_c rfl (jsb_c rfl (jsb_c rfl (jsb_c rfl (jsb_c rfl jsb_n)))))) (ct_X12_partLevy_r125_162 hD hQ k51 l2 l3 l4 l5 l8 v6 l6 h (jr_of rfl (by omega)) (jr_mod rfl (by omega)) (jr_of rfl (by omega)) (jr_of rfl (by omega)) (jr_mod rfl (by omega)) (jr_of rfl (by omega)) (jr_of rfl (by omega)) (jr_ofl rfl (by omega)) (jr_ofl rfl (by omega)) ⟨(jF1_p C0.1 C0.2.1 w1 C0.2.2.1 (Or.inr C0.2.2.2.2)), (by have q := jpv_t qv2 (by omega) qv5 (by omega) (by omega); omega), (by have := C0.2.2.2; omega)⟩ (by omega) J Sm)
set_option maxRecDepth 100000 in
set_option maxHeartbeats 4000000 in
theorem ct_X12_partLevy_r125_200134 {Dy : jH → Prop} {h0 : jH} {Q : Option Value → jH → Prop} {R51 : Int} (hD : jDk Dy) (hQ : ∀ hx9, jJ jSgM Dy hx9 → jSm fp_X12_partLevy_r125 h0 hx9 → Q none hx9) (k51 : ∀ (l2 : Int32) (l3 : Int32) (l4 : Int32) (l5 : Int32) (l6 : Int64) (l8 : Int32) (h : jH), 40 - l8.toInt < R51 → 48300 ≤ l2.toInt ∧ l2.toInt ≤ 48456 → l2.toInt % 4 = 0 → 0 ≤ l3.toInt ∧ l3.toInt ≤ 2 → 0 ≤ l4.toInt ∧ l4.toInt ≤ 146034 → l4.toInt % 366 = 0 → 0 ≤ l5.toInt ∧ l5.toInt ≤ 40 → (-2147483648) ≤ l6.toInt ∧ l6.toInt ≤ 88046829527 → 0 ≤ l8.toInt ∧ l8.toInt ≤ 40 → (jF1 h l6 l8.toNatClampNeg ∧ l8.toInt ≤ l5.toInt) → jJ jSgM Dy h → jSm fp_X12_partLevy_r125 h0 h → jX m_X12_partLevy 12 0 0 51 [(0, .ref 125), (2, .int l2), (3, .int l3), (4, .int l4), (5, .int l5), (6, .long l6), (8, .int l8)] [] h 0 0 Q) : ∀ (l2 : Int32) (l3 : Int32) (l4 : Int32) (l5 : Int32) (l6 : Int64) (l8 : Int32) (s1 : Int32) (h : jH), 48300 ≤ l2.toInt ∧ l2.toInt ≤ 48456 → l2.toInt % 4 = 0 → 0 ≤ l3.toInt ∧ l3.toInt ≤ 2 → 0 ≤ l4.toInt ∧ l4.toInt ≤ 146034 → l4.toInt % 366 = 0 → 1 ≤ l5.toInt ∧ l5.toInt ≤ 40 → 0 ≤ l6.toInt ∧ l6.toInt ≤ 88046829527 → 0 ≤ l8.toInt ∧ l8.toInt ≤ 39 → 0 ≤ s1.toInt ∧ s1.toInt ≤ 39 → (jF1 h l6 l8.toNatClampNeg ∧ s1 = l8 ∧ (jlv h 166 l8.toNatClampNeg).toInt = -1 ∧ l8.toInt < l5.toInt) → 40 - l8.toInt ≤ R51 → jJ jSgM Dy h → jSm fp_X12_partLevy_r125 h0 h → jX m_X12_partLevy 12 0 0 134 [(0, .ref 125), (2, .int l2), (3, .int l3), (4, .int l4), (5, .int l5), (6, .long l6), (8, .int l8)] [.int 0, .int s1, .ref 167] h 0 0 Q := by
  intro l2 l3 l4 l5 l6 l8 s1 h y0 y1 y2 y3 y4 y5 y6 y7 y8 C0  m51 J Sm
  have sl := congrArg Int32.toInt C0.2.1
  refine z_zast (N := 40) (l := 0) (u := 40) (w := 0) rfl hD J Sm rfl rfl rfl (by omega) jk_0 (by omega) (wr_167 (fun q1 q2 q3 q4 => by omega)) rfl (fun h w1 J Sm => ?_)
  refine x_lload (x := l6) rfl rfl ?_
  refine x_aloadn (x := 125) rfl rfl ?_
  refine z_getR (N := 92) (b := 167) 12 82 rfl f_12_159 rfl J rfl 16082 ⟨rfl, rfl⟩ rfl ?_
  refine x_iload (x := l8) rfl rfl ?_
  refine z_zald (N := 40) rfl J rfl sg_167_0_40_1_0_1 rfl (by omega) (fun v2 qv2 ev2 => ?_)
  refine x_ifeq (tgt := 161) rfl rfl (ti_eq rfl jk_0 ⟨fun c3 => ?_, fun c3 => ?_⟩)
  ·
    refine x_lconst (v := 0) rfl kl_0 ?_
    exact jX.sub (jsb_c rfl (jsb_c rfl (jsb_c rfl (jsb_c rfl (jsb_c rfl (jsb_c rfl jsb_n)))))) (ct_X12_partLevy_r125_5000162 hD hQ k51 l2 l3 l4 l5 l8 l6 h (jr_of rfl (by omega)) (jr_mod rfl (by omega)) (jr_of rfl (by omega)) (jr_of rfl (by omega)) (jr_mod rfl (by omega)) (jr_of rfl (by omega)) (jr_of rfl (by omega)) (jr_ofl rfl (by omega)) ⟨(jF1_p C0.1 C0.2.1 w1 C0.2.2.1 (Or.inl (by decide))), (jpv_f qv2 (by omega)), (by have := C0.2.2.2; omega)⟩ (by omega) J Sm)
  ·
    refine x_aloadn (x := 125) rfl rfl ?_
    refine z_getR (N := 92) (b := 162) 12 77 rfl f_12_144 rfl J rfl 16077 ⟨rfl, rfl⟩ rfl ?_
    refine x_bipush (v := 40) rfl kb_40 ?_
    refine x_iload (x := l8) rfl rfl ?_
    refine z_iadd rfl jk_40 rfl (by omega) (fun v4 ev4 => ?_)
    refine z_iald0 (N := 80) rfl J rfl rfl (by omega) (fun v5 qv5 => ?_)
    have ev5 := jfull v5
    refine z_i2l rfl rfl (fun v6 ev6 => ?_)
    refine x_goto (tgt := 162) rfl rfl ?_
    exact jX.sub (jsb_c rfl (jsb_c rfl (jsb_c rfl (jsb_c rfl (jsb_c rfl (jsb_c rfl jsb_n)))))) (ct_X12_partLevy_r125_162 hD hQ k51 l2 l3 l4 l5 l8 v6 l6 h (jr_of rfl (by omega)) (jr_mod rfl (by omega)) (jr_of rfl (by omega)) (jr_of rfl (by omega)) (jr_mod rfl (by omega)) (jr_of rfl (by omega)) (jr_of rfl (by omega)) (jr_ofl rfl (by omega)) (jr_ofl rfl (by omega)) ⟨(jF1_p C0.1 C0.2.1 w1 C0.2.2.1 (Or.inl (by decide))), (by have q := jpv_t qv2 (by omega) qv5 (by omega) (by omega); omega), (by have := C0.2.2.2; omega)⟩ (by omega) J Sm)
set_option maxRecDepth 100000 in
set_option maxHeartbeats 4000000 in
theorem ct_X12_partLevy_r125_133 {Dy : jH → Prop} {h0 : jH} {Q : Option Value → jH → Prop} {R51 : Int} (hD : jDk Dy) (hQ : ∀ hx9, jJ jSgM Dy hx9 → jSm fp_X12_partLevy_r125 h0 hx9 → Q none hx9) (k51 : ∀ (l2 : Int32) (l3 : Int32) (l4 : Int32) (l5 : Int32) (l6 : Int64) (l8 : Int32) (h : jH), 40 - l8.toInt < R51 → 48300 ≤ l2.toInt ∧ l2.toInt ≤ 48456 → l2.toInt % 4 = 0 → 0 ≤ l3.toInt ∧ l3.toInt ≤ 2 → 0 ≤ l4.toInt ∧ l4.toInt ≤ 146034 → l4.toInt % 366 = 0 → 0 ≤ l5.toInt ∧ l5.toInt ≤ 40 → (-2147483648) ≤ l6.toInt ∧ l6.toInt ≤ 88046829527 → 0 ≤ l8.toInt ∧ l8.toInt ≤ 40 → (jF1 h l6 l8.toNatClampNeg ∧ l8.toInt ≤ l5.toInt) → jJ jSgM Dy h → jSm fp_X12_partLevy_r125 h0 h → jX m_X12_partLevy 12 0 0 51 [(0, .ref 125), (2, .int l2), (3, .int l3), (4, .int l4), (5, .int l5), (6, .long l6), (8, .int l8)] [] h 0 0 Q) : ∀ (l2 : Int32) (l3 : Int32) (l4 : Int32) (l5 : Int32) (l6 : Int64) (l8 : Int32) (s0 : Int32) (h : jH), 48300 ≤ l2.toInt ∧ l2.toInt ≤ 48456 → l2.toInt % 4 = 0 → 0 ≤ l3.toInt ∧ l3.toInt ≤ 2 → 0 ≤ l4.toInt ∧ l4.toInt ≤ 146034 → l4.toInt % 366 = 0 → 1 ≤ l5.toInt ∧ l5.toInt ≤ 40 → 0 ≤ l6.toInt ∧ l6.toInt ≤ 88046829527 → 0 ≤ l8.toInt ∧ l8.toInt ≤ 39 → 0 ≤ s0.toInt ∧ s0.toInt ≤ 39 → (jF1 h l6 l8.toNatClampNeg ∧ s0 = l8 ∧ (jlv h 166 l8.toNatClampNeg).toInt = -1 ∧ l8.toInt < l5.toInt) → 40 - l8.toInt ≤ R51 → jJ jSgM Dy h → jSm fp_X12_partLevy_r125 h0 h → jX m_X12_partLevy 12 0 0 133 [(0, .ref 125), (2, .int l2), (3, .int l3), (4, .int l4), (5, .int l5), (6, .long l6), (8, .int l8)] [.int s0, .ref 167] h 0 0 Q := by
  intro l2 l3 l4 l5 l6 l8 s0 h y0 y1 y2 y3 y4 y5 y6 y7 y8 C0  m51 J Sm
  have sl := congrArg Int32.toInt C0.2.1
  refine x_iconst (v := 0) rfl ki_0 ?_
  exact jX.sub (jsb_c rfl (jsb_c rfl (jsb_c rfl (jsb_c rfl (jsb_c rfl (jsb_c rfl (jsb_c rfl jsb_n))))))) (ct_X12_partLevy_r125_200134 hD hQ k51 l2 l3 l4 l5 l6 l8 s0 h (jr_of rfl (by omega)) (jr_mod rfl (by omega)) (jr_of rfl (by omega)) (jr_of rfl (by omega)) (jr_mod rfl (by omega)) (jr_of rfl (by omega)) (jr_ofl rfl (by omega)) (jr_of rfl (by omega)) (jr_of rfl (by omega)) C0 (by omega) J Sm)
set_option maxRecDepth 100000 in
set_option maxHeartbeats 4000000 in
theorem ct_X12_partLevy_r125_51 {Dy : jH → Prop} {h0 : jH} {Q : Option Value → jH → Prop} (hD : jDk Dy) (hQ : ∀ hx9, jJ jSgM Dy hx9 → jSm fp_X12_partLevy_r125 h0 hx9 → Q none hx9) : ∀ r : Nat, ∀ (l2 : Int32) (l3 : Int32) (l4 : Int32) (l5 : Int32) (l6 : Int64) (l8 : Int32) (h : jH), 40 - l8.toInt < (r : Int) → 48300 ≤ l2.toInt ∧ l2.toInt ≤ 48456 → l2.toInt % 4 = 0 → 0 ≤ l3.toInt ∧ l3.toInt ≤ 2 → 0 ≤ l4.toInt ∧ l4.toInt ≤ 146034 → l4.toInt % 366 = 0 → 0 ≤ l5.toInt ∧ l5.toInt ≤ 40 → (-2147483648) ≤ l6.toInt ∧ l6.toInt ≤ 88046829527 → 0 ≤ l8.toInt ∧ l8.toInt ≤ 40 → (jF1 h l6 l8.toNatClampNeg ∧ l8.toInt ≤ l5.toInt) → jJ jSgM Dy h → jSm fp_X12_partLevy_r125 h0 h → jX m_X12_partLevy 12 0 0 51 [(0, .ref 125), (2, .int l2), (3, .int l3), (4, .int l4), (5, .int l5), (6, .long l6), (8, .int l8)] [] h 0 0 Q := by
  intro r
  induction r with
  | zero =>
    intro l2 l3 l4 l5 l6 l8 h hm y0 y1 y2 y3 y4 y5 y6 y7 C0   J Sm
    exfalso
    omega
  | succ r ih =>
    intro l2 l3 l4 l5 l6 l8 h hm y0 y1 y2 y3 y4 y5 y6 y7 C0   J Sm
    have jb := jsv_b C0.1.2.1
    have j1 := C0.1.1
    have jl := jcl_of (d := l8) (by omega)
    refine x_iload (x := l8) rfl rfl ?_
    refine x_iload (x := l5) rfl rfl ?_
    refine x_icge (tgt := 171) rfl rfl (ti_ge rfl rfl ⟨fun c1 => ?_, fun c1 => ?_⟩)
    ·
      refine x_lload (x := l6) rfl rfl ?_
      refine x_lconst (v := 0) rfl kl_0 ?_
      refine z_lcmp rfl rfl jkl_0 (fun v2 ev2 => ?_)
      refine x_ifne (tgt := 182) rfl rfl (ti_ne rfl jk_0 ⟨fun c3 => ?_, fun c3 => ?_⟩)
      ·
        refine x_aloadn (x := 125) rfl rfl ?_
        refine z_getR (N := 92) (b := 126) 12 2 rfl f_12_8 rfl J rfl 16002 ⟨rfl, rfl⟩ rfl ?_
        refine x_iloadn (x := l2) rfl rfl ?_
        refine x_iconst (v := 2) rfl ki_2 ?_
        refine z_iadd rfl rfl jk_2 (by omega) (fun v4 ev4 => ?_)
        refine z_iald (N := 50660) rfl J rfl sg_126_48300_48460_4_2_3 rfl (by omega) (fun v5 qv5 ev5 => ?_)
        refine z_i2l rfl rfl (fun v6 ev6 => ?_)
        exact jX.sub (jsb_c rfl (jsb_c rfl (jsb_c rfl (jsb_c rfl (jsb_c rfl (jsb_c rfl jsb_n)))))) (ct_X12_partLevy_r125_191 hD hQ  l2 l3 l4 l5 l6 v6 h (jr_of rfl (by omega)) (jr_mod rfl (by omega)) (jr_of rfl (by omega)) (jr_of rfl (by omega)) (jr_mod rfl (by omega)) (jr_of rfl (by omega)) (jr_ofl rfl (by omega)) (jr_ofl rfl (by omega)) (by omega) (jF2_1 C0.1 (by have := C0.2; omega) (by omega) (jPn_b J (by omega)) (by have q := jPn_q (l := l2) qv5 (by omega) (by omega); omega)) J Sm)
      ·
        refine x_lconst (v := 0) rfl kl_0 ?_
        refine x_goto (tgt := 191) rfl rfl ?_
        exact jX.sub (jsb_c rfl (jsb_c rfl (jsb_c rfl (jsb_c rfl (jsb_c rfl (jsb_c rfl jsb_n)))))) (ct_X12_partLevy_r125_5000191 hD hQ  l2 l3 l4 l5 l6 h (jr_of rfl (by omega)) (jr_mod rfl (by omega)) (jr_of rfl (by omega)) (jr_of rfl (by omega)) (jr_mod rfl (by omega)) (jr_of rfl (by omega)) (jr_ofl rfl (by omega)) (jF2_0 C0.1 (by have := C0.2; omega) (by omega) (jPn_b J (by omega))) J Sm)
    ·
      refine x_aloadn (x := 125) rfl rfl ?_
      refine z_getR (N := 92) (b := 165) 12 80 rfl f_12_153 rfl J rfl 16080 ⟨rfl, rfl⟩ rfl ?_
      refine x_iload (x := l8) rfl rfl ?_
      refine x_lconst (v := 0) rfl kl_0 ?_
      refine z_last (N := 40) (l := 0) (u := 40) rfl hD J Sm rfl rfl rfl (by omega) rfl (fun h w7 J Sm => ?_)
      refine x_aloadn (x := 125) rfl rfl ?_
      refine z_getR (N := 92) (b := 166) 12 81 rfl f_12_156 rfl J rfl 16081 ⟨rfl, rfl⟩ rfl ?_
      refine x_iload (x := l8) rfl rfl ?_
      refine x_ldc2 (v := (-1)) rfl z_12_242 ?_
      refine z_last (N := 40) (l := 0) (u := 40) rfl hD J Sm rfl rfl rfl (by omega) rfl (fun h w8 J Sm => ?_)
      refine x_aloadn (x := 125) rfl rfl ?_
      refine z_getR (N := 92) (b := 167) 12 82 rfl f_12_159 rfl J rfl 16082 ⟨rfl, rfl⟩ rfl ?_
      refine x_iload (x := l8) rfl rfl ?_
      refine x_aloadn (x := 125) rfl rfl ?_
      refine z_getR (N := 92) (b := 162) 12 77 rfl f_12_144 rfl J rfl 16077 ⟨rfl, rfl⟩ rfl ?_
      refine x_bipush (v := 40) rfl kb_40 ?_
      refine x_iload (x := l8) rfl rfl ?_
      refine z_iadd rfl jk_40 rfl (by omega) (fun v9 ev9 => ?_)
      refine z_iald0 (N := 80) rfl J rfl rfl (by omega) (fun v10 qv10 => ?_)
      have ev10 := jfull v10
      refine x_ifle (tgt := 133) rfl rfl (ti_le rfl jk_0 ⟨fun c11 => ?_, fun c11 => ?_⟩)
      ·
        exact jX.sub (jsb_c rfl (jsb_c rfl (jsb_c rfl (jsb_c rfl (jsb_c rfl (jsb_c rfl (jsb_c rfl jsb_n))))))) (ct_X12_partLevy_r125_133 hD hQ ih l2 l3 l4 l5 l6 l8 l8 h (jr_of rfl (by omega)) (jr_mod rfl (by omega)) (jr_of rfl (by omega)) (jr_of rfl (by omega)) (jr_mod rfl (by omega)) (jr_of rfl (by omega)) (jr_ofl rfl (by omega)) (jr_of rfl (by omega)) (jr_of rfl (by omega)) ⟨(jF1_e (jeq_l w8 (jeq_l w7 jeq_0)) (jeq_l w8 (jeq_l w7 jeq_0)) (jlq_s w8 (by omega) (jlq_o w7 rfl jlq_0)) C0.1), rfl, (by rw [(jlq_0 (P := fun _ => True)) _ trivial, jlv_w w8]; decide), (by omega)⟩ (by omega) J Sm)
      ·
        refine x_aloadn (x := 125) rfl rfl ?_
        refine z_getR (N := 92) (b := 163) 12 78 rfl f_12_147 rfl J rfl 16078 ⟨rfl, rfl⟩ rfl ?_
        refine x_bipush (v := 40) rfl kb_40 ?_
        refine x_iload (x := l8) rfl rfl ?_
        refine z_iadd rfl jk_40 rfl (by omega) (fun v12 ev12 => ?_)
        refine z_iald (N := 80) rfl J rfl sg_163_0_80_1_0_1 rfl (by omega) (fun v13 qv13 ev13 => ?_)
        refine x_iconst (v := (-1)) rfl ki_m1 ?_
        refine x_iceq (tgt := 133) rfl rfl (ti_eq rfl jk_m1 ⟨fun c14 => ?_, fun c14 => ?_⟩)
        ·
          exact jX.sub (jsb_c rfl (jsb_c rfl (jsb_c rfl (jsb_c rfl (jsb_c rfl (jsb_c rfl (jsb_c rfl jsb_n))))))) (ct_X12_partLevy_r125_133 hD hQ ih l2 l3 l4 l5 l6 l8 l8 h (jr_of rfl (by omega)) (jr_mod rfl (by omega)) (jr_of rfl (by omega)) (jr_of rfl (by omega)) (jr_mod rfl (by omega)) (jr_of rfl (by omega)) (jr_ofl rfl (by omega)) (jr_of rfl (by omega)) (jr_of rfl (by omega)) ⟨(jF1_e (jeq_l w8 (jeq_l w7 jeq_0)) (jeq_l w8 (jeq_l w7 jeq_0)) (jlq_s w8 (by omega) (jlq_o w7 rfl jlq_0)) C0.1), rfl, (by rw [(jlq_0 (P := fun _ => True)) _ trivial, jlv_w w8]; decide), (by omega)⟩ (by omega) J Sm)
        ·
          refine x_aloadn (x := 125) rfl rfl ?_
          refine x_iloadn (x := l3) rfl rfl ?_
          refine x_aloadn (x := 125) rfl rfl ?_
          refine z_getR (N := 92) (b := 163) 12 78 rfl f_12_147 rfl J rfl 16078 ⟨rfl, rfl⟩ rfl ?_
          refine x_bipush (v := 40) rfl kb_40 ?_
          refine x_iload (x := l8) rfl rfl ?_
          refine z_iadd rfl jk_40 rfl (by omega) (fun v15 ev15 => ?_)
          refine z_iald (N := 80) rfl J rfl sg_163_0_80_1_0_1 rfl (by omega) (fun v16 qv16 ev16 => ?_)
          refine x_iload (x := l4) rfl rfl ?_
          refine x_inv (N := m_X12_isExempt) (As := [.int l3, .int v16, .int l4]) (b := 125) (st := [.int l8, .ref 167]) (dx9 := 11) (mc := 0) (ms := 0) (host := "") 12 rfl t_X12_isExempt ⟨Or.inl q_12_821, i_X12_isExempt.1, i_X12_isExempt.2⟩ ⟨by decide, rfl⟩ (congrArg Prod.fst (J.1.1 125 (12, 92) rfl)) rfl (by decide) rfl rfl ⟨by decide, by decide⟩ (sf_X12_isExempt_r125 (jr_of rfl (by omega)) (jr_of rfl (by omega)) (jr_of rfl (by omega)) (jr_mod rfl (by omega)) hD J  (fun v18 h ev18 J S17 => ?_))
          have Sm := jSm_tr rfl Sm S17
          show jX m_X12_partLevy 12 0 0 126 [(0, .ref 125), (2, .int l2), (3, .int l3), (4, .int l4), (5, .int l5), (6, .long l6), (8, .int l8)] [.int v18, .int l8, .ref 167] _ 0 0 _
          refine x_ifne (tgt := 133) rfl rfl (ti_ne rfl jk_0 ⟨fun c19 => ?_, fun c19 => ?_⟩)
          ·
            exact jX.sub (jsb_c rfl (jsb_c rfl (jsb_c rfl (jsb_c rfl (jsb_c rfl (jsb_c rfl (jsb_c rfl jsb_n))))))) (ct_X12_partLevy_r125_133 hD hQ ih l2 l3 l4 l5 l6 l8 l8 h (jr_of rfl (by omega)) (jr_mod rfl (by omega)) (jr_of rfl (by omega)) (jr_of rfl (by omega)) (jr_mod rfl (by omega)) (jr_of rfl (by omega)) (jr_ofl rfl (by omega)) (jr_of rfl (by omega)) (jr_of rfl (by omega)) ⟨(jF1_e (jeq_c S17 rfl (jeq_l w8 (jeq_l w7 jeq_0))) (jeq_c2 (lo := 40) S17 rfl (fun _ q => q) (jeq_l w8 (jeq_l w7 jeq_0))) (jlq_cc S17 rfl (jlq_s w8 (by omega) (jlq_o w7 rfl jlq_0))) C0.1), rfl, (by rw [(jlq_cc S17 rfl (jlq_0 (P := fun _ => True))) _ trivial, jlv_w w8]; decide), (by omega)⟩ (by omega) J Sm)
          ·
            refine x_iconst (v := 1) rfl ki_1 ?_
            refine x_goto (tgt := 134) rfl rfl ?_
            exact jX.sub (jsb_c rfl (jsb_c rfl (jsb_c rfl (jsb_c rfl (jsb_c rfl (jsb_c rfl (jsb_c rfl jsb_n))))))) (ct_X12_partLevy_r125_300134 hD hQ ih l2 l3 l4 l5 l6 l8 l8 h (jr_of rfl (by omega)) (jr_mod rfl (by omega)) (jr_of rfl (by omega)) (jr_of rfl (by omega)) (jr_mod rfl (by omega)) (jr_of rfl (by omega)) (jr_ofl rfl (by omega)) (jr_of rfl (by omega)) (jr_of rfl (by omega)) ⟨(jF1_e (jeq_c S17 rfl (jeq_l w8 (jeq_l w7 jeq_0))) (jeq_c2 (lo := 40) S17 rfl (fun _ q => q) (jeq_l w8 (jeq_l w7 jeq_0))) (jlq_cc S17 rfl (jlq_s w8 (by omega) (jlq_o w7 rfl jlq_0))) C0.1), rfl, (by rw [(jlq_cc S17 rfl (jlq_0 (P := fun _ => True))) _ trivial, jlv_w w8]; decide), (by omega), (by rw [← jcl_40 (x := v9) (by omega) (by omega), (jmc2 (lo := 40) S17 rfl rfl (by omega) qv10)]; omega)⟩ (by omega) J Sm)
set_option maxRecDepth 100000 in
set_option maxHeartbeats 4000000 in
theorem sf_X12_partLevy_r125 {Dy : jH → Prop} {h : jH} {Q : Option Value → jH → Prop} {a1 : Int32} (y1 : 0 ≤ a1.toInt ∧ a1.toInt ≤ 39) (hD : jDk Dy) (J : jJ jSgM Dy h) (hQ : ∀ hx9, jJ jSgM Dy hx9 → jSm fp_X12_partLevy_r125 h hx9 → Q none hx9) : jC m_X12_partLevy 12 0 0 [.ref 125, .int a1] h Q := by
  refine jC.of rfl k_X12_partLevy rfl ?_
  have Sm := jSm_rf fp_X12_partLevy_r125 h
  show jX m_X12_partLevy 12 0 0 0 [(0, .ref 125), (1, .int a1)] [] _ 0 0 _
  refine x_ldcw (v := 48300) rfl z_12_820 ?_
  refine x_iconst (v := 4) rfl ki_4 ?_
  refine x_iloadn (x := a1) rfl rfl ?_
  refine z_imul rfl jk_4 rfl (by omega) (fun v1 ev1 => ?_)
  refine z_iadd rfl jk_48300 rfl (by omega) (fun v2 ev2 => ?_)
  refine x_istoren (lsx9 := [(2, .int v2), (0, .ref 125), (1, .int a1)]) rfl rfl rfl ?_
  refine x_aloadn (x := 125) rfl rfl ?_
  refine z_getR (N := 92) (b := 126) 12 2 rfl f_12_8 rfl J rfl 16002 ⟨rfl, rfl⟩ rfl ?_
  refine x_iloadn (x := v2) rfl rfl ?_
  refine z_iald (N := 50660) rfl J rfl sg_126_48300_48460_4_0_1 rfl (by omega) (fun v3 qv3 ev3 => ?_)
  refine x_istoren (lsx9 := [(3, .int v3), (2, .int v2), (0, .ref 125), (1, .int a1)]) rfl rfl rfl ?_
  refine x_aloadn (x := 125) rfl rfl ?_
  refine z_getR (N := 92) (b := 126) 12 2 rfl f_12_8 rfl J rfl 16002 ⟨rfl, rfl⟩ rfl ?_
  refine x_iloadn (x := v2) rfl rfl ?_
  refine x_iconst (v := 1) rfl ki_1 ?_
  refine z_iadd rfl rfl jk_1 (by omega) (fun v4 ev4 => ?_)
  refine z_iald (N := 50660) rfl J rfl sg_126_48300_48460_4_1_2 rfl (by omega) (fun v5 qv5 ev5 => ?_)
  refine x_sipush (v := 366) rfl ks_366 ?_
  refine z_imul rfl rfl jk_366 (by omega) (fun v6 ev6 => ?_)
  refine x_istore (lsx9 := [(4, .int v6), (3, .int v3), (2, .int v2), (0, .ref 125), (1, .int a1)]) rfl rfl rfl ?_
  refine x_aloadn (x := 125) rfl rfl ?_
  refine z_getR (N := 92) (b := 126) 12 2 rfl f_12_8 rfl J rfl 16002 ⟨rfl, rfl⟩ rfl ?_
  refine x_bipush (v := 7) rfl kb_7 ?_
  refine z_iald (N := 50660) rfl J rfl sg_126_7_8_1_0_1 jk_7 (by omega) (fun v7 qv7 ev7 => ?_)
  refine x_istore (lsx9 := [(5, .int v7), (4, .int v6), (3, .int v3), (2, .int v2), (0, .ref 125), (1, .int a1)]) rfl rfl rfl ?_
  refine x_aloadn (x := 125) rfl rfl ?_
  refine x_iload (x := v6) rfl rfl ?_
  refine x_iconst (v := 1) rfl ki_1 ?_
  refine x_inv (N := m_X12_findHouses) (As := [.int v6, .int 1]) (b := 125) (st := []) (dx9 := 2) (mc := 0) (ms := 0) (host := "") 12 rfl t_X12_findHouses ⟨Or.inl q_12_694, i_X12_findHouses.1, i_X12_findHouses.2⟩ ⟨by decide, rfl⟩ (congrArg Prod.fst (J.1.1 125 (12, 92) rfl)) rfl (by decide) rfl rfl ⟨by decide, by decide⟩ (sf_X12_findHouses_r125_c1 (jr_of rfl (by omega)) hD J  (fun h J S8 => ?_))
  have Sm := jSm_tr rfl Sm S8
  show jX m_X12_partLevy 12 0 0 45 [(5, .int v7), (4, .int v6), (3, .int v3), (2, .int v2), (0, .ref 125), (1, .int a1)] [] _ 0 0 _
  refine x_lconst (v := 0) rfl kl_0 ?_
  refine x_lstore (lsx9 := [(6, .long 0), (5, .int v7), (4, .int v6), (3, .int v3), (2, .int v2), (0, .ref 125), (1, .int a1)]) rfl rfl rfl ?_
  refine x_iconst (v := 0) rfl ki_0 ?_
  refine x_istore (lsx9 := [(8, .int 0), (6, .long 0), (5, .int v7), (4, .int v6), (3, .int v3), (2, .int v2), (0, .ref 125), (1, .int a1)]) rfl rfl rfl ?_
  exact jX.sub (jsb_c rfl (jsb_c rfl (jsb_c rfl (jsb_c rfl (jsb_c rfl (jsb_c rfl (jsb_c rfl jsb_n))))))) (ct_X12_partLevy_r125_51 hD hQ  41 v2 v3 v6 v7 0 0 h (by have := jk_0; omega) (jr_of rfl (by omega)) (jr_mod rfl (by omega)) (jr_of rfl (by omega)) (jr_of rfl (by omega)) (jr_mod rfl (by omega)) (jr_of rfl (by omega)) (jr_ofl jkl_0 (by omega)) (jr_of jk_0 (by omega)) ⟨jF1_0, (by have := jk_0; omega)⟩ J Sm)
def fp_X12_arrear_r125 : jFp := [(125, 0, 1), (125, 28, 29), (125, 31, 32), (125, 32, 33), (125, 33, 34), (125, 34, 35), (125, 35, 36), (125, 57, 58), (125, 61, 62), (125, 62, 63), (125, 63, 64), (125, 64, 65), (125, 65, 66), (125, 66, 67), (137, 0, 80), (138, 0, 2), (139, 0, 600), (140, 0, 200), (152, 0, 360), (153, 0, 30), (154, 0, 400), (155, 0, 360), (162, 0, 40), (162, 40, 80), (163, 0, 40), (163, 40, 80), (164, 0, 40), (165, 0, 40), (166, 0, 40), (167, 0, 40)]
set_option maxRecDepth 100000 in
set_option maxHeartbeats 4000000 in
theorem ct_X12_arrear_r125_55 {Dy : jH → Prop} {h0 : jH} {Q : Option Value → jH → Prop} (hD : jDk Dy) (hQ : ∀ (v : Int32) hx9, jJ jSgM Dy hx9 → jSm fp_X12_arrear_r125 h0 hx9 → Q (some (.int v)) hx9) : ∀ (h : jH), jJ jSgM Dy h → jSm fp_X12_arrear_r125 h0 h → jX m_X12_arrear 13 0 0 55 [] [] h 0 0 Q := by
  intro  h    J Sm
  refine x_ldcw (v := (-2000000000)) rfl z_12_831 ?_
  refine x_iret rfl rfl ?_
  exact hQ _ _ J Sm
set_option maxRecDepth 100000 in
set_option maxHeartbeats 4000000 in
theorem ct_X12_arrear_r125_170 {Dy : jH → Prop} {h0 : jH} {Q : Option Value → jH → Prop} {R82 : Int} (hD : jDk Dy) (hQ : ∀ (v : Int32) hx9, jJ jSgM Dy hx9 → jSm fp_X12_arrear_r125 h0 hx9 → Q (some (.int v)) hx9) (k82 : ∀ (l1 : Int32) (l2 : Int32) (l3 : Int32) (l4 : Int32) (l5 : Int32) (l6 : Int32) (h : jH), 100 - l6.toInt < R82 → 0 ≤ l1.toInt ∧ l1.toInt ≤ 39 → 0 ≤ l2.toInt ∧ l2.toInt ≤ 39 → 0 ≤ l3.toInt ∧ l3.toInt ≤ 146399 → 0 ≤ l4.toInt ∧ l4.toInt ≤ 146399 → 0 ≤ l6.toInt ∧ l6.toInt ≤ 100 → jJ jSgM Dy h → jSm fp_X12_arrear_r125 h0 h → jX m_X12_arrear 13 0 0 82 [(0, .ref 125), (1, .int l1), (2, .int l2), (3, .int l3), (4, .int l4), (5, .int l5), (6, .int l6)] [] h 0 0 Q) : ∀ (l1 : Int32) (l2 : Int32) (l3 : Int32) (l4 : Int32) (l6 : Int32) (s0 : Int32) (s1 : Int32) (h : jH), 0 ≤ l1.toInt ∧ l1.toInt ≤ 39 → 0 ≤ l2.toInt ∧ l2.toInt ≤ 39 → 0 ≤ l3.toInt ∧ l3.toInt ≤ 146399 → 0 ≤ l4.toInt ∧ l4.toInt ≤ 146399 → 0 ≤ l6.toInt ∧ l6.toInt ≤ 99 → 0 ≤ s0.toInt ∧ s0.toInt ≤ 1000000 → 100 - l6.toInt ≤ R82 → jJ jSgM Dy h → jSm fp_X12_arrear_r125 h0 h → jX m_X12_arrear 13 0 0 170 [(0, .ref 125), (1, .int l1), (2, .int l2), (3, .int l3), (4, .int l4), (6, .int l6)] [.int s0, .int s1] h 0 0 Q := by
  intro l1 l2 l3 l4 l6 s0 s1 h y0 y1 y2 y3 y4 y5  m82 J Sm
  have es1 := jfull s1
  refine z_isub0 rfl (fun v1 => ?_)
  have ev1 := jfull v1
  refine x_istore (lsx9 := [(5, .int v1), (0, .ref 125), (1, .int l1), (2, .int l2), (3, .int l3), (4, .int l4), (6, .int l6)]) rfl rfl rfl ?_
  refine z_iinc (x := l6) (lsx9 := fun v2 => [(6, .int v2), (5, .int v1), (0, .ref 125), (1, .int l1), (2, .int l2), (3, .int l3), (4, .int l4)]) rfl rfl rfl jko_1 (by omega) rfl (fun _ => rfl) (fun v2 ev2 => ?_)
  refine x_goto (tgt := 82) rfl rfl ?_
  exact jX.sub (jsb_c rfl (jsb_c rfl (jsb_c rfl (jsb_c rfl (jsb_c rfl (jsb_c rfl (jsb_c rfl jsb_n))))))) (k82 l1 l2 l3 l4 v1 v2 h (by omega) (jr_of rfl (by omega)) (jr_of rfl (by omega)) (jr_of rfl (by omega)) (jr_of rfl (by omega)) (jr_of rfl (by omega)) J Sm)
set_option maxRecDepth 100000 in
set_option maxHeartbeats 4000000 in
theorem ct_X12_arrear_r125_200170 {Dy : jH → Prop} {h0 : jH} {Q : Option Value → jH → Prop} {R82 : Int} (hD : jDk Dy) (hQ : ∀ (v : Int32) hx9, jJ jSgM Dy hx9 → jSm fp_X12_arrear_r125 h0 hx9 → Q (some (.int v)) hx9) (k82 : ∀ (l1 : Int32) (l2 : Int32) (l3 : Int32) (l4 : Int32) (l5 : Int32) (l6 : Int32) (h : jH), 100 - l6.toInt < R82 → 0 ≤ l1.toInt ∧ l1.toInt ≤ 39 → 0 ≤ l2.toInt ∧ l2.toInt ≤ 39 → 0 ≤ l3.toInt ∧ l3.toInt ≤ 146399 → 0 ≤ l4.toInt ∧ l4.toInt ≤ 146399 → 0 ≤ l6.toInt ∧ l6.toInt ≤ 100 → jJ jSgM Dy h → jSm fp_X12_arrear_r125 h0 h → jX m_X12_arrear 13 0 0 82 [(0, .ref 125), (1, .int l1), (2, .int l2), (3, .int l3), (4, .int l4), (5, .int l5), (6, .int l6)] [] h 0 0 Q) : ∀ (l1 : Int32) (l2 : Int32) (l3 : Int32) (l4 : Int32) (l6 : Int32) (s1 : Int32) (h : jH), 0 ≤ l1.toInt ∧ l1.toInt ≤ 39 → 0 ≤ l2.toInt ∧ l2.toInt ≤ 39 → 0 ≤ l3.toInt ∧ l3.toInt ≤ 146399 → 0 ≤ l4.toInt ∧ l4.toInt ≤ 146399 → 0 ≤ l6.toInt ∧ l6.toInt ≤ 99 → 100 - l6.toInt ≤ R82 → jJ jSgM Dy h → jSm fp_X12_arrear_r125 h0 h → jX m_X12_arrear 13 0 0 170 [(0, .ref 125), (1, .int l1), (2, .int l2), (3, .int l3), (4, .int l4), (6, .int l6)] [.int 0, .int s1] h 0 0 Q := by
  intro l1 l2 l3 l4 l6 s1 h y0 y1 y2 y3 y4  m82 J Sm
  have es1 := jfull s1
  refine z_isub rfl rfl jk_0 (by omega) (fun v1 ev1 => ?_)
  refine x_istore (lsx9 := [(5, .int v1), (0, .ref 125), (1, .int l1), (2, .int l2), (3, .int l3), (4, .int l4), (6, .int l6)]) rfl rfl rfl ?_
  refine z_iinc (x := l6) (lsx9 := fun v2 => [(6, .int v2), (5, .int v1), (0, .ref 125), (1, .int l1), (2, .int l2), (3, .int l3), (4, .int l4)]) rfl rfl rfl jko_1 (by omega) rfl (fun _ => rfl) (fun v2 ev2 => ?_)
  refine x_goto (tgt := 82) rfl rfl ?_
  exact jX.sub (jsb_c rfl (jsb_c rfl (jsb_c rfl (jsb_c rfl (jsb_c rfl (jsb_c rfl (jsb_c rfl jsb_n))))))) (k82 l1 l2 l3 l4 v1 v2 h (by omega) (jr_of rfl (by omega)) (jr_of rfl (by omega)) (jr_of rfl (by omega)) (jr_of rfl (by omega)) (jr_of rfl (by omega)) J Sm)
set_option maxRecDepth 100000 in
set_option maxHeartbeats 4000000 in
theorem ct_X12_arrear_r125_169 {Dy : jH → Prop} {h0 : jH} {Q : Option Value → jH → Prop} {R82 : Int} (hD : jDk Dy) (hQ : ∀ (v : Int32) hx9, jJ jSgM Dy hx9 → jSm fp_X12_arrear_r125 h0 hx9 → Q (some (.int v)) hx9) (k82 : ∀ (l1 : Int32) (l2 : Int32) (l3 : Int32) (l4 : Int32) (l5 : Int32) (l6 : Int32) (h : jH), 100 - l6.toInt < R82 → 0 ≤ l1.toInt ∧ l1.toInt ≤ 39 → 0 ≤ l2.toInt ∧ l2.toInt ≤ 39 → 0 ≤ l3.toInt ∧ l3.toInt ≤ 146399 → 0 ≤ l4.toInt ∧ l4.toInt ≤ 146399 → 0 ≤ l6.toInt ∧ l6.toInt ≤ 100 → jJ jSgM Dy h → jSm fp_X12_arrear_r125 h0 h → jX m_X12_arrear 13 0 0 82 [(0, .ref 125), (1, .int l1), (2, .int l2), (3, .int l3), (4, .int l4), (5, .int l5), (6, .int l6)] [] h 0 0 Q) : ∀ (l1 : Int32) (l2 : Int32) (l3 : Int32) (l4 : Int32) (l6 : Int32) (s0 : Int32) (h : jH), 0 ≤ l1.toInt ∧ l1.toInt ≤ 39 → 0 ≤ l2.toInt ∧ l2.toInt ≤ 39 → 0 ≤ l3.toInt ∧ l3.toInt ≤ 146399 → 0 ≤ l4.toInt ∧ l4.toInt ≤ 146399 → 0 ≤ l6.toInt ∧ l6.toInt ≤ 99 → 100 - l6.toInt ≤ R82 → jJ jSgM Dy h → jSm fp_X12_arrear_r125 h0 h → jX m_X12_arrear 13 0 0 169 [(0, .ref 125), (1, .int l1), (2, .int l2), (3, .int l3), (4, .int l4), (6, .int l6)] [.int s0] h 0 0 Q := by
  intro l1 l2 l3 l4 l6 s0 h y0 y1 y2 y3 y4  m82 J Sm
  have es0 := jfull s0
  refine x_iconst (v := 0) rfl ki_0 ?_
  exact jX.sub (jsb_c rfl (jsb_c rfl (jsb_c rfl (jsb_c rfl (jsb_c rfl (jsb_c rfl jsb_n)))))) (ct_X12_arrear_r125_200170 hD hQ k82 l1 l2 l3 l4 l6 s0 h (jr_of rfl (by omega)) (jr_of rfl (by omega)) (jr_of rfl (by omega)) (jr_of rfl (by omega)) (jr_of rfl (by omega)) (by omega) J Sm)
set_option maxRecDepth 100000 in
set_option maxHeartbeats 4000000 in
theorem ct_X12_arrear_r125_82 {Dy : jH → Prop} {h0 : jH} {Q : Option Value → jH → Prop} (hD : jDk Dy) (hQ : ∀ (v : Int32) hx9, jJ jSgM Dy hx9 → jSm fp_X12_arrear_r125 h0 hx9 → Q (some (.int v)) hx9) : ∀ r : Nat, ∀ (l1 : Int32) (l2 : Int32) (l3 : Int32) (l4 : Int32) (l5 : Int32) (l6 : Int32) (h : jH), 100 - l6.toInt < (r : Int) → 0 ≤ l1.toInt ∧ l1.toInt ≤ 39 → 0 ≤ l2.toInt ∧ l2.toInt ≤ 39 → 0 ≤ l3.toInt ∧ l3.toInt ≤ 146399 → 0 ≤ l4.toInt ∧ l4.toInt ≤ 146399 → 0 ≤ l6.toInt ∧ l6.toInt ≤ 100 → jJ jSgM Dy h → jSm fp_X12_arrear_r125 h0 h → jX m_X12_arrear 13 0 0 82 [(0, .ref 125), (1, .int l1), (2, .int l2), (3, .int l3), (4, .int l4), (5, .int l5), (6, .int l6)] [] h 0 0 Q := by
  intro r
  induction r with
  | zero =>
    intro l1 l2 l3 l4 l5 l6 h hm y0 y1 y2 y3 y4   J Sm
    exfalso
    have el5 := jfull l5
    omega
  | succ r ih =>
    intro l1 l2 l3 l4 l5 l6 h hm y0 y1 y2 y3 y4   J Sm
    have el5 := jfull l5
    refine x_iload (x := l6) rfl rfl ?_
    refine x_aloadn (x := 125) rfl rfl ?_
    refine z_getR (N := 92) (b := 126) 12 2 rfl f_12_8 rfl J rfl 16002 ⟨rfl, rfl⟩ rfl ?_
    refine x_bipush (v := 12) rfl kb_12 ?_
    refine z_iald (N := 50660) rfl J rfl sg_126_12_13_1_0_1 jk_12 (by omega) (fun v1 qv1 ev1 => ?_)
    refine x_icge (tgt := 179) rfl rfl (ti_ge rfl rfl ⟨fun c2 => ?_, fun c2 => ?_⟩)
    ·
      refine x_iload (x := l5) rfl rfl ?_
      refine x_iret rfl rfl ?_
      exact hQ _ _ J Sm
    ·
      refine x_ldcw (v := 48460) rfl z_12_830 ?_
      refine x_iconst (v := 5) rfl ki_5 ?_
      refine x_iload (x := l6) rfl rfl ?_
      refine z_imul rfl jk_5 rfl (by omega) (fun v3 ev3 => ?_)
      refine z_iadd rfl jk_48460 rfl (by omega) (fun v4 ev4 => ?_)
      refine x_istore (lsx9 := [(7, .int v4), (0, .ref 125), (1, .int l1), (2, .int l2), (3, .int l3), (4, .int l4), (5, .int l5), (6, .int l6)]) rfl rfl rfl ?_
      refine x_iload (x := l5) rfl rfl ?_
      refine x_aloadn (x := 125) rfl rfl ?_
      refine z_getR (N := 92) (b := 126) 12 2 rfl f_12_8 rfl J rfl 16002 ⟨rfl, rfl⟩ rfl ?_
      refine x_iload (x := v4) rfl rfl ?_
      refine z_iald (N := 50660) rfl J rfl sg_126_48460_48960_5_0_1 rfl (by omega) (fun v5 qv5 ev5 => ?_)
      refine x_iloadn (x := l1) rfl rfl ?_
      refine x_icne (tgt := 169) rfl rfl (ti_ne rfl rfl ⟨fun c6 => ?_, fun c6 => ?_⟩)
      ·
        exact jX.sub (jsb_c rfl (jsb_c rfl (jsb_c rfl (jsb_c rfl (jsb_c rfl (jsb_c rfl jsb_n)))))) (ct_X12_arrear_r125_169 hD hQ ih l1 l2 l3 l4 l6 l5 h (jr_of rfl (by omega)) (jr_of rfl (by omega)) (jr_of rfl (by omega)) (jr_of rfl (by omega)) (jr_of rfl (by omega)) (by omega) J Sm)
      ·
        refine x_aloadn (x := 125) rfl rfl ?_
        refine z_getR (N := 92) (b := 126) 12 2 rfl f_12_8 rfl J rfl 16002 ⟨rfl, rfl⟩ rfl ?_
        refine x_iload (x := v4) rfl rfl ?_
        refine x_iconst (v := 1) rfl ki_1 ?_
        refine z_iadd rfl rfl jk_1 (by omega) (fun v7 ev7 => ?_)
        refine z_iald (N := 50660) rfl J rfl sg_126_48460_48960_5_1_2 rfl (by omega) (fun v8 qv8 ev8 => ?_)
        refine x_iloadn (x := l2) rfl rfl ?_
        refine x_icne (tgt := 169) rfl rfl (ti_ne rfl rfl ⟨fun c9 => ?_, fun c9 => ?_⟩)
        ·
          exact jX.sub (jsb_c rfl (jsb_c rfl (jsb_c rfl (jsb_c rfl (jsb_c rfl (jsb_c rfl jsb_n)))))) (ct_X12_arrear_r125_169 hD hQ ih l1 l2 l3 l4 l6 l5 h (jr_of rfl (by omega)) (jr_of rfl (by omega)) (jr_of rfl (by omega)) (jr_of rfl (by omega)) (jr_of rfl (by omega)) (by omega) J Sm)
        ·
          refine x_aloadn (x := 125) rfl rfl ?_
          refine z_getR (N := 92) (b := 126) 12 2 rfl f_12_8 rfl J rfl 16002 ⟨rfl, rfl⟩ rfl ?_
          refine x_iload (x := v4) rfl rfl ?_
          refine x_iconst (v := 3) rfl ki_3 ?_
          refine z_iadd rfl rfl jk_3 (by omega) (fun v10 ev10 => ?_)
          refine z_iald (N := 50660) rfl J rfl sg_126_48460_48960_5_3_4 rfl (by omega) (fun v11 qv11 ev11 => ?_)
          refine x_iloadn (x := l3) rfl rfl ?_
          refine x_icgt (tgt := 169) rfl rfl (ti_gt rfl rfl ⟨fun c12 => ?_, fun c12 => ?_⟩)
          ·
            exact jX.sub (jsb_c rfl (jsb_c rfl (jsb_c rfl (jsb_c rfl (jsb_c rfl (jsb_c rfl jsb_n)))))) (ct_X12_arrear_r125_169 hD hQ ih l1 l2 l3 l4 l6 l5 h (jr_of rfl (by omega)) (jr_of rfl (by omega)) (jr_of rfl (by omega)) (jr_of rfl (by omega)) (jr_of rfl (by omega)) (by omega) J Sm)
          ·
            refine x_aloadn (x := 125) rfl rfl ?_
            refine z_getR (N := 92) (b := 126) 12 2 rfl f_12_8 rfl J rfl 16002 ⟨rfl, rfl⟩ rfl ?_
            refine x_iload (x := v4) rfl rfl ?_
            refine x_iconst (v := 4) rfl ki_4 ?_
            refine z_iadd rfl rfl jk_4 (by omega) (fun v13 ev13 => ?_)
            refine z_iald (N := 50660) rfl J rfl sg_126_48460_48960_5_4_5 rfl (by omega) (fun v14 qv14 ev14 => ?_)
            refine x_iload (x := l4) rfl rfl ?_
            refine x_icgt (tgt := 169) rfl rfl (ti_gt rfl rfl ⟨fun c15 => ?_, fun c15 => ?_⟩)
            ·
              exact jX.sub (jsb_c rfl (jsb_c rfl (jsb_c rfl (jsb_c rfl (jsb_c rfl (jsb_c rfl jsb_n)))))) (ct_X12_arrear_r125_169 hD hQ ih l1 l2 l3 l4 l6 l5 h (jr_of rfl (by omega)) (jr_of rfl (by omega)) (jr_of rfl (by omega)) (jr_of rfl (by omega)) (jr_of rfl (by omega)) (by omega) J Sm)
            ·
              refine x_aloadn (x := 125) rfl rfl ?_
              refine z_getR (N := 92) (b := 126) 12 2 rfl f_12_8 rfl J rfl 16002 ⟨rfl, rfl⟩ rfl ?_
              refine x_iload (x := v4) rfl rfl ?_
              refine x_iconst (v := 2) rfl ki_2 ?_
              refine z_iadd rfl rfl jk_2 (by omega) (fun v16 ev16 => ?_)
              refine z_iald (N := 50660) rfl J rfl sg_126_48460_48960_5_2_3 rfl (by omega) (fun v17 qv17 ev17 => ?_)
              refine x_goto (tgt := 170) rfl rfl ?_
              exact jX.sub (jsb_c rfl (jsb_c rfl (jsb_c rfl (jsb_c rfl (jsb_c rfl (jsb_c rfl jsb_n)))))) (ct_X12_arrear_r125_170 hD hQ ih l1 l2 l3 l4 l6 v17 l5 h (jr_of rfl (by omega)) (jr_of rfl (by omega)) (jr_of rfl (by omega)) (jr_of rfl (by omega)) (jr_of rfl (by omega)) (jr_of rfl (by omega)) (by omega) J Sm)
set_option maxRecDepth 100000 in
set_option maxHeartbeats 4000000 in
theorem sf_X12_arrear_r125 {Dy : jH → Prop} {h : jH} {Q : Option Value → jH → Prop} {a1 : Int32} {a2 : Int32} {a3 : Int32} {a4 : Int32} (hD : jDk Dy) (J : jJ jSgM Dy h) (hQ : ∀ (v : Int32) hx9, jJ jSgM Dy hx9 → jSm fp_X12_arrear_r125 h hx9 → Q (some (.int v)) hx9) : jC m_X12_arrear 13 0 0 [.ref 125, .int a1, .int a2, .int a3, .int a4] h Q := by
  refine jC.of rfl k_X12_arrear rfl ?_
  have Sm := jSm_rf fp_X12_arrear_r125 h
  have ea1 := jfull a1
  have ea2 := jfull a2
  have ea3 := jfull a3
  have ea4 := jfull a4
  show jX m_X12_arrear 13 0 0 0 [(0, .ref 125), (1, .int a1), (2, .int a2), (3, .int a3), (4, .int a4)] [] _ 0 0 _
  refine x_aloadn (x := 125) rfl rfl ?_
  refine x_iconst (v := 0) rfl ki_0 ?_
  refine z_putI (N := 92) (w := 0) 12 0 rfl f_12_180 rfl (jfin_no TX12 RX12 92 rfl rfl) hD J Sm rfl rfl jk_0 (pw_125_0 (by omega)) rfl (fun h w1 J Sm => ?_)
  refine x_aloadn (x := 125) rfl rfl ?_
  refine x_iloadn (x := a1) rfl rfl ?_
  refine x_inv (N := m_X12_isLevy) (As := [.int a1]) (b := 125) (st := []) (dx9 := 12) (mc := 0) (ms := 0) (host := "") 12 rfl t_X12_isLevy ⟨Or.inl q_12_824, i_X12_isLevy.1, i_X12_isLevy.2⟩ ⟨by decide, rfl⟩ (congrArg Prod.fst (J.1.1 125 (12, 92) rfl)) rfl (by decide) rfl rfl ⟨by decide, by decide⟩ (jC.of rfl k_X12_isLevy rfl ?_)
  show jX m_X12_isLevy 12 0 0 0 [(0, .ref 125), (1, .int a1)] [] _ 0 0 _
  refine x_iloadn (x := a1) rfl rfl ?_
  refine z_i2l rfl rfl (fun v2 ev2 => ?_)
  refine x_lconst (v := 0) rfl kl_0 ?_
  refine x_aloadn (x := 125) rfl rfl ?_
  refine z_getR (N := 92) (b := 126) 12 2 rfl f_12_8 rfl J rfl 16002 ⟨rfl, rfl⟩ rfl ?_
  refine x_bipush (v := 11) rfl kb_11 ?_
  refine z_iald (N := 50660) rfl J rfl sg_126_11_12_1_0_1 jk_11 (by omega) (fun v3 qv3 ev3 => ?_)
  refine z_i2l rfl rfl (fun v4 ev4 => ?_)
  refine x_lconst (v := 1) rfl kl_1 ?_
  refine z_lsub rfl rfl jkl_1 (by omega) (fun v5 ev5 => ?_)
  refine x_inst (N := m_X12_in) (As := [.long v2, .long 0, .long v5]) (st := []) (dx9 := 1) (mc := 0) (ms := 0) (host := "") rfl t_X12_in ⟨Or.inl q_12_188, s_X12_in⟩ rfl (by decide) rfl rfl ⟨by decide, by decide⟩ (zc_X12_in rfl jkl_0 rfl (fun v6 ev6 => ?_))
  show jX m_X12_isLevy 12 0 0 16 [(0, .ref 125), (1, .int a1)] [.int v6] _ 0 0 _
  refine x_zret rfl rfl (jz01 (by omega)) ?_
  show jX m_X12_arrear 13 0 0 10 [(0, .ref 125), (1, .int a1), (2, .int a2), (3, .int a3), (4, .int a4)] [.int v6] _ 0 0 _
  refine x_ifeq (tgt := 55) rfl rfl (ti_eq rfl jk_0 ⟨fun c7 => ?_, fun c7 => ?_⟩)
  ·
    exact jX.sub jsb_n (ct_X12_arrear_r125_55 hD hQ  h J Sm)
  ·
    refine x_aloadn (x := 125) rfl rfl ?_
    refine x_iloadn (x := a2) rfl rfl ?_
    refine x_inv (N := m_X12_isHolding) (As := [.int a2]) (b := 125) (st := []) (dx9 := 12) (mc := 0) (ms := 0) (host := "") 12 rfl t_X12_isHolding ⟨Or.inl q_12_811, i_X12_isHolding.1, i_X12_isHolding.2⟩ ⟨by decide, rfl⟩ (congrArg Prod.fst (J.1.1 125 (12, 92) rfl)) rfl (by decide) rfl rfl ⟨by decide, by decide⟩ (jC.of rfl k_X12_isHolding rfl ?_)
    show jX m_X12_isHolding 12 0 0 0 [(0, .ref 125), (1, .int a2)] [] _ 0 0 _
    refine x_iloadn (x := a2) rfl rfl ?_
    refine z_i2l rfl rfl (fun v8 ev8 => ?_)
    refine x_lconst (v := 0) rfl kl_0 ?_
    refine x_aloadn (x := 125) rfl rfl ?_
    refine z_getR (N := 92) (b := 126) 12 2 rfl f_12_8 rfl J rfl 16002 ⟨rfl, rfl⟩ rfl ?_
    refine x_bipush (v := 7) rfl kb_7 ?_
    refine z_iald (N := 50660) rfl J rfl sg_126_7_8_1_0_1 jk_7 (by omega) (fun v9 qv9 ev9 => ?_)
    refine z_i2l rfl rfl (fun v10 ev10 => ?_)
    refine x_lconst (v := 1) rfl kl_1 ?_
    refine z_lsub rfl rfl jkl_1 (by omega) (fun v11 ev11 => ?_)
    refine x_inst (N := m_X12_in) (As := [.long v8, .long 0, .long v11]) (st := []) (dx9 := 1) (mc := 0) (ms := 0) (host := "") rfl t_X12_in ⟨Or.inl q_12_188, s_X12_in⟩ rfl (by decide) rfl rfl ⟨by decide, by decide⟩ (zc_X12_in rfl jkl_0 rfl (fun v12 ev12 => ?_))
    show jX m_X12_isHolding 12 0 0 16 [(0, .ref 125), (1, .int a2)] [.int v12] _ 0 0 _
    refine x_zret rfl rfl (jz01 (by omega)) ?_
    show jX m_X12_arrear 13 0 0 18 [(0, .ref 125), (1, .int a1), (2, .int a2), (3, .int a3), (4, .int a4)] [.int v12] _ 0 0 _
    refine x_ifeq (tgt := 55) rfl rfl (ti_eq rfl jk_0 ⟨fun c13 => ?_, fun c13 => ?_⟩)
    ·
      exact jX.sub jsb_n (ct_X12_arrear_r125_55 hD hQ  h J Sm)
    ·
      refine x_iloadn (x := a3) rfl rfl ?_
      refine x_inst (N := m_X12_isDay) (As := [.int a3]) (st := []) (dx9 := 2) (mc := 0) (ms := 0) (host := "") rfl t_X12_isDay ⟨Or.inl q_12_273, s_X12_isDay⟩ rfl (by decide) rfl rfl ⟨by decide, by decide⟩ (zc_X12_isDay (d := 1) rfl (fun v14 ev14 => ?_))
      show jX m_X12_arrear 13 0 0 25 [(0, .ref 125), (1, .int a1), (2, .int a2), (3, .int a3), (4, .int a4)] [.int v14] _ 0 0 _
      refine x_ifeq (tgt := 55) rfl rfl (ti_eq rfl jk_0 ⟨fun c15 => ?_, fun c15 => ?_⟩)
      ·
        exact jX.sub jsb_n (ct_X12_arrear_r125_55 hD hQ  h J Sm)
      ·
        refine x_iload (x := a4) rfl rfl ?_
        refine x_inst (N := m_X12_isDay) (As := [.int a4]) (st := []) (dx9 := 2) (mc := 0) (ms := 0) (host := "") rfl t_X12_isDay ⟨Or.inl q_12_273, s_X12_isDay⟩ rfl (by decide) rfl rfl ⟨by decide, by decide⟩ (zc_X12_isDay (d := 1) rfl (fun v16 ev16 => ?_))
        show jX m_X12_arrear 13 0 0 33 [(0, .ref 125), (1, .int a1), (2, .int a2), (3, .int a3), (4, .int a4)] [.int v16] _ 0 0 _
        refine x_ifeq (tgt := 55) rfl rfl (ti_eq rfl jk_0 ⟨fun c17 => ?_, fun c17 => ?_⟩)
        ·
          exact jX.sub jsb_n (ct_X12_arrear_r125_55 hD hQ  h J Sm)
        ·
          refine x_aloadn (x := 125) rfl rfl ?_
          refine z_getR (N := 92) (b := 126) 12 2 rfl f_12_8 rfl J rfl 16002 ⟨rfl, rfl⟩ rfl ?_
          refine x_ldcw (v := 48300) rfl z_12_820 ?_
          refine x_iconst (v := 4) rfl ki_4 ?_
          refine x_iloadn (x := a1) rfl rfl ?_
          refine z_imul rfl jk_4 rfl (by omega) (fun v18 ev18 => ?_)
          refine z_iadd rfl jk_48300 rfl (by omega) (fun v19 ev19 => ?_)
          refine x_iconst (v := 3) rfl ki_3 ?_
          refine z_iadd rfl rfl jk_3 (by omega) (fun v20 ev20 => ?_)
          refine z_iald (N := 50660) rfl J rfl sg_126_48300_48460_4_3_4 rfl (by omega) (fun v21 qv21 ev21 => ?_)
          refine x_iload (x := a4) rfl rfl ?_
          refine x_icle (tgt := 59) rfl rfl (ti_le rfl rfl ⟨fun c22 => ?_, fun c22 => ?_⟩)
          ·
            refine x_aloadn (x := 125) rfl rfl ?_
            refine x_iload (x := a4) rfl rfl ?_
            refine x_inv (N := m_X12_find) (As := [.int a4]) (b := 125) (st := []) (dx9 := 8) (mc := 0) (ms := 0) (host := "") 12 rfl t_X12_find ⟨Or.inl q_12_393, i_X12_find.1, i_X12_find.2⟩ ⟨by decide, rfl⟩ (congrArg Prod.fst (J.1.1 125 (12, 92) rfl)) rfl (by decide) rfl rfl ⟨by decide, by decide⟩ (sf_X12_find_r125 (jr_of rfl (by omega)) hD J  (fun h J S23 => ?_))
            have Sm := jSm_tr rfl Sm S23
            show jX m_X12_arrear 13 0 0 65 [(0, .ref 125), (1, .int a1), (2, .int a2), (3, .int a3), (4, .int a4)] [] _ 0 0 _
            refine x_aloadn (x := 125) rfl rfl ?_
            refine x_iloadn (x := a1) rfl rfl ?_
            refine x_inv (N := m_X12_partLevy) (As := [.int a1]) (b := 125) (st := []) (dx9 := 12) (mc := 0) (ms := 0) (host := "") 12 rfl t_X12_partLevy ⟨Or.inl q_12_827, i_X12_partLevy.1, i_X12_partLevy.2⟩ ⟨by decide, rfl⟩ (congrArg Prod.fst (J.1.1 125 (12, 92) rfl)) rfl (by decide) rfl rfl ⟨by decide, by decide⟩ (sf_X12_partLevy_r125 (jr_of rfl (by omega)) hD J  (fun h J S24 => ?_))
            have Sm := jSm_tr rfl Sm S24
            show jX m_X12_arrear 13 0 0 70 [(0, .ref 125), (1, .int a1), (2, .int a2), (3, .int a3), (4, .int a4)] [] _ 0 0 _
            refine x_aloadn (x := 125) rfl rfl ?_
            refine z_getR (N := 92) (b := 165) 12 80 rfl f_12_153 rfl J rfl 16080 ⟨rfl, rfl⟩ rfl ?_
            refine x_iloadn (x := a2) rfl rfl ?_
            refine z_lald0 (N := 40) rfl J rfl rfl (by omega) (fun v25 => ?_)
            have ev25 := jfullL v25
            refine z_l2i0 rfl (fun v26 => ?_)
            refine x_istore (lsx9 := [(5, .int v26), (0, .ref 125), (1, .int a1), (2, .int a2), (3, .int a3), (4, .int a4)]) rfl rfl rfl ?_
            refine x_iconst (v := 0) rfl ki_0 ?_
            refine x_istore (lsx9 := [(6, .int 0), (5, .int v26), (0, .ref 125), (1, .int a1), (2, .int a2), (3, .int a3), (4, .int a4)]) rfl rfl rfl ?_
            exact jX.sub (jsb_c rfl (jsb_c rfl (jsb_c rfl (jsb_c rfl (jsb_c rfl (jsb_c rfl (jsb_c rfl jsb_n))))))) (ct_X12_arrear_r125_82 hD hQ  101 a1 a2 a3 a4 v26 0 h (by have := jk_0; omega) (jr_of rfl (by omega)) (jr_of rfl (by omega)) (jr_of rfl (by omega)) (jr_of rfl (by omega)) (jr_of jk_0 (by omega)) J Sm)
          ·
            exact jX.sub jsb_n (ct_X12_arrear_r125_55 hD hQ  h J Sm)
def fp_X12_as_r125 : jFp := [(125, 0, 1)]
set_option maxRecDepth 100000 in
set_option maxHeartbeats 4000000 in
theorem ct_X12_as_r125_144 {Dy : jH → Prop} {h0 : jH} {Q : Option Value → jH → Prop} (hD : jDk Dy) (hQ : ∀ (v : Int32) hx9, (-3) ≤ v.toInt ∧ v.toInt ≤ 199 → jJ jSgM Dy hx9 → jSm fp_X12_as_r125 h0 hx9 → Q (some (.int v)) hx9) : ∀ (s0 : Int32) (h : jH), (-3) ≤ s0.toInt ∧ s0.toInt ≤ 199 → jJ jSgM Dy h → jSm fp_X12_as_r125 h0 h → jX m_X12_as 3 0 0 144 [] [.int s0] h 0 0 Q := by
  intro s0 h y0   J Sm
  refine x_iret rfl rfl ?_
  exact hQ _ _ (jr_of rfl (by omega)) J Sm
set_option maxRecDepth 100000 in
set_option maxHeartbeats 4000000 in
theorem ct_X12_as_r125_200130 {Dy : jH → Prop} {h0 : jH} {Q : Option Value → jH → Prop} (hD : jDk Dy) (hQ : ∀ (v : Int32) hx9, (-3) ≤ v.toInt ∧ v.toInt ≤ 199 → jJ jSgM Dy hx9 → jSm fp_X12_as_r125 h0 hx9 → Q (some (.int v)) hx9) : ∀ (l4 : Int32) (h : jH), 0 ≤ l4.toInt ∧ l4.toInt ≤ 199 → jJ jSgM Dy h → jSm fp_X12_as_r125 h0 h → jX m_X12_as 3 0 0 130 [(4, .int l4)] [.int 0] h 0 0 Q := by
  intro l4 h y0   J Sm
  refine x_istore (lsx9 := [(5, .int 0), (4, .int l4)]) rfl rfl rfl ?_
  refine x_iload (x := 0) rfl rfl ?_
  refine x_ifeq (tgt := 142) rfl rfl (ti_eq jk_0 jk_0 (br_t (by omega) ?_))
  refine x_bipush (v := (-3)) rfl kb_m3 ?_
  exact jX.sub jsb_n (ct_X12_as_r125_144 hD hQ  (-3) h (jr_of jk_m3 (by omega)) J Sm)
set_option maxRecDepth 100000 in
set_option maxHeartbeats 4000000 in
theorem ct_X12_as_r125_300130 {Dy : jH → Prop} {h0 : jH} {Q : Option Value → jH → Prop} (hD : jDk Dy) (hQ : ∀ (v : Int32) hx9, (-3) ≤ v.toInt ∧ v.toInt ≤ 199 → jJ jSgM Dy hx9 → jSm fp_X12_as_r125 h0 hx9 → Q (some (.int v)) hx9) : ∀ (l4 : Int32) (h : jH), 0 ≤ l4.toInt ∧ l4.toInt ≤ 199 → jJ jSgM Dy h → jSm fp_X12_as_r125 h0 h → jX m_X12_as 3 0 0 130 [(4, .int l4)] [.int 1] h 0 0 Q := by
  intro l4 h y0   J Sm
  refine x_istore (lsx9 := [(5, .int 1), (4, .int l4)]) rfl rfl rfl ?_
  refine x_iload (x := 1) rfl rfl ?_
  refine x_ifeq (tgt := 142) rfl rfl (ti_eq jk_1 jk_0 (br_f (by omega) ?_))
  refine x_iload (x := l4) rfl rfl ?_
  refine x_goto (tgt := 144) rfl rfl ?_
  exact jX.sub jsb_n (ct_X12_as_r125_144 hD hQ  l4 h (jr_of rfl (by omega)) J Sm)
set_option maxRecDepth 100000 in
set_option maxHeartbeats 4000000 in
theorem ct_X12_as_r125_129 {Dy : jH → Prop} {h0 : jH} {Q : Option Value → jH → Prop} (hD : jDk Dy) (hQ : ∀ (v : Int32) hx9, (-3) ≤ v.toInt ∧ v.toInt ≤ 199 → jJ jSgM Dy hx9 → jSm fp_X12_as_r125 h0 hx9 → Q (some (.int v)) hx9) : ∀ (l4 : Int32) (h : jH), 0 ≤ l4.toInt ∧ l4.toInt ≤ 199 → jJ jSgM Dy h → jSm fp_X12_as_r125 h0 h → jX m_X12_as 3 0 0 129 [(4, .int l4)] [] h 0 0 Q := by
  intro l4 h y0   J Sm
  refine x_iconst (v := 0) rfl ki_0 ?_
  exact jX.sub (jsb_c rfl jsb_n) (ct_X12_as_r125_200130 hD hQ  l4 h (jr_of rfl (by omega)) J Sm)
set_option maxRecDepth 100000 in
set_option maxHeartbeats 4000000 in
theorem ct_X12_as_r125_125 {Dy : jH → Prop} {h0 : jH} {Q : Option Value → jH → Prop} (hD : jDk Dy) (hQ : ∀ (v : Int32) hx9, (-3) ≤ v.toInt ∧ v.toInt ≤ 199 → jJ jSgM Dy hx9 → jSm fp_X12_as_r125 h0 hx9 → Q (some (.int v)) hx9) : ∀ (l4 : Int32) (h : jH), 0 ≤ l4.toInt ∧ l4.toInt ≤ 199 → jJ jSgM Dy h → jSm fp_X12_as_r125 h0 h → jX m_X12_as 3 0 0 125 [(4, .int l4)] [] h 0 0 Q := by
  intro l4 h y0   J Sm
  refine x_iconst (v := 1) rfl ki_1 ?_
  refine x_goto (tgt := 130) rfl rfl ?_
  exact jX.sub (jsb_c rfl jsb_n) (ct_X12_as_r125_300130 hD hQ  l4 h (jr_of rfl (by omega)) J Sm)
set_option maxRecDepth 100000 in
set_option maxHeartbeats 4000000 in
theorem sf_X12_as_r125 {Dy : jH → Prop} {h : jH} {Q : Option Value → jH → Prop} {a1 : Int32} {a2 : Int32} (hD : jDk Dy) (J : jJ jSgM Dy h) (hQ : ∀ (v : Int32) hx9, (-3) ≤ v.toInt ∧ v.toInt ≤ 199 → jJ jSgM Dy hx9 → jSm fp_X12_as_r125 h hx9 → Q (some (.int v)) hx9) : jC m_X12_as 3 0 0 [.ref 125, .int a1, .int a2] h Q := by
  refine jC.of rfl k_X12_as rfl ?_
  have Sm := jSm_rf fp_X12_as_r125 h
  have ea1 := jfull a1
  have ea2 := jfull a2
  show jX m_X12_as 3 0 0 0 [(0, .ref 125), (1, .int a1), (2, .int a2)] [] _ 0 0 _
  refine x_aloadn (x := 125) rfl rfl ?_
  refine x_iconst (v := 0) rfl ki_0 ?_
  refine z_putI (N := 92) (w := 0) 12 0 rfl f_12_180 rfl (jfin_no TX12 RX12 92 rfl rfl) hD J Sm rfl rfl jk_0 (pw_125_0 (by omega)) rfl (fun h w1 J Sm => ?_)
  refine x_iloadn (x := a2) rfl rfl ?_
  refine z_i2l rfl rfl (fun v2 ev2 => ?_)
  refine x_lconst (v := 0) rfl kl_0 ?_
  refine x_ldc2 (v := 9) rfl z_12_505 ?_
  refine x_inst (N := m_X12_in) (As := [.long v2, .long 0, .long 9]) (st := []) (dx9 := 1) (mc := 0) (ms := 0) (host := "") rfl t_X12_in ⟨Or.inl q_12_188, s_X12_in⟩ rfl (by decide) rfl rfl ⟨by decide, by decide⟩ (zc_X12_in rfl jkl_0 jkl_9 (fun v3 ev3 => ?_))
  show jX m_X12_as 3 0 0 14 [(0, .ref 125), (1, .int a1), (2, .int a2)] [.int v3] _ 0 0 _
  refine x_ifne (tgt := 19) rfl rfl (ti_ne rfl jk_0 ⟨fun c4 => ?_, fun c4 => ?_⟩)
  ·
    refine x_iloadn (x := a1) rfl rfl ?_
    refine z_i2l rfl rfl (fun v5 ev5 => ?_)
    refine x_lconst (v := 0) rfl kl_0 ?_
    refine x_aloadn (x := 125) rfl rfl ?_
    refine z_getR (N := 92) (b := 126) 12 2 rfl f_12_8 rfl J rfl 16002 ⟨rfl, rfl⟩ rfl ?_
    refine x_bipush (v := 16) rfl kb_16 ?_
    refine z_iald (N := 50660) rfl J rfl sg_126_16_17_1_0_1 jk_16 (by omega) (fun v6 qv6 ev6 => ?_)
    refine z_i2l rfl rfl (fun v7 ev7 => ?_)
    refine x_lconst (v := 1) rfl kl_1 ?_
    refine z_lsub rfl rfl jkl_1 (by omega) (fun v8 ev8 => ?_)
    refine x_inst (N := m_X12_in) (As := [.long v5, .long 0, .long v8]) (st := []) (dx9 := 1) (mc := 0) (ms := 0) (host := "") rfl t_X12_in ⟨Or.inl q_12_188, s_X12_in⟩ rfl (by decide) rfl rfl ⟨by decide, by decide⟩ (zc_X12_in rfl jkl_0 rfl (fun v9 ev9 => ?_))
    show jX m_X12_as 3 0 0 35 [(0, .ref 125), (1, .int a1), (2, .int a2)] [.int v9] _ 0 0 _
    refine x_ifne (tgt := 41) rfl rfl (ti_ne rfl jk_0 ⟨fun c10 => ?_, fun c10 => ?_⟩)
    ·
      refine x_aloadn (x := 125) rfl rfl ?_
      refine z_getR (N := 92) (b := 126) 12 2 rfl f_12_8 rfl J rfl 16002 ⟨rfl, rfl⟩ rfl ?_
      refine x_ldc (v := 49920) rfl z_12_194 ?_
      refine x_iconst (v := 2) rfl ki_2 ?_
      refine x_iloadn (x := a1) rfl rfl ?_
      refine z_imul rfl jk_2 rfl (by omega) (fun v11 ev11 => ?_)
      refine z_iadd rfl jk_49920 rfl (by omega) (fun v12 ev12 => ?_)
      refine z_iald (N := 50660) rfl J rfl sg_126_49920_50660_2_0_1 rfl (by omega) (fun v13 qv13 ev13 => ?_)
      refine x_istoren (lsx9 := [(3, .int v13), (0, .ref 125), (1, .int a1), (2, .int a2)]) rfl rfl rfl ?_
      refine x_aloadn (x := 125) rfl rfl ?_
      refine z_getR (N := 92) (b := 126) 12 2 rfl f_12_8 rfl J rfl 16002 ⟨rfl, rfl⟩ rfl ?_
      refine x_ldc (v := 49920) rfl z_12_194 ?_
      refine x_iconst (v := 2) rfl ki_2 ?_
      refine x_iloadn (x := a1) rfl rfl ?_
      refine z_imul rfl jk_2 rfl (by omega) (fun v14 ev14 => ?_)
      refine z_iadd rfl jk_49920 rfl (by omega) (fun v15 ev15 => ?_)
      refine x_iconst (v := 1) rfl ki_1 ?_
      refine z_iadd rfl rfl jk_1 (by omega) (fun v16 ev16 => ?_)
      refine z_iald (N := 50660) rfl J rfl sg_126_49920_50660_2_1_2 rfl (by omega) (fun v17 qv17 ev17 => ?_)
      refine x_istore (lsx9 := [(4, .int v17), (3, .int v13), (0, .ref 125), (1, .int a1), (2, .int a2)]) rfl rfl rfl ?_
      refine x_iloadn (x := a2) rfl rfl ?_
      refine x_bipush (v := 6) rfl kb_6 ?_
      refine x_icle (tgt := 90) rfl rfl (ti_le rfl jk_6 ⟨fun c18 => ?_, fun c18 => ?_⟩)
      ·
        refine x_iloadn (x := v13) rfl rfl ?_
        refine x_ifne (tgt := 129) rfl rfl (ti_ne rfl jk_0 ⟨fun c19 => ?_, fun c19 => ?_⟩)
        ·
          exact jX.sub (jsb_c rfl jsb_n) (ct_X12_as_r125_129 hD hQ  v17 h (jr_of rfl (by omega)) J Sm)
        ·
          refine x_iloadn (x := a2) rfl rfl ?_
          refine x_bipush (v := 6) rfl kb_6 ?_
          refine x_iceq (tgt := 125) rfl rfl (ti_eq rfl jk_6 ⟨fun c20 => ?_, fun c20 => ?_⟩)
          ·
            exact jX.sub (jsb_c rfl jsb_n) (ct_X12_as_r125_125 hD hQ  v17 h (jr_of rfl (by omega)) J Sm)
          ·
            refine x_aloadn (x := 125) rfl rfl ?_
            refine x_iload (x := v17) rfl rfl ?_
            refine x_inv (N := m_X12_bookOf) (As := [.int v17]) (b := 125) (st := []) (dx9 := 2) (mc := 0) (ms := 0) (host := "") 12 rfl t_X12_bookOf ⟨Or.inl q_12_299, i_X12_bookOf.1, i_X12_bookOf.2⟩ ⟨by decide, rfl⟩ (congrArg Prod.fst (J.1.1 125 (12, 92) rfl)) rfl (by decide) rfl rfl ⟨by decide, by decide⟩ (jC.of rfl k_X12_bookOf rfl ?_)
            show jX m_X12_bookOf 2 0 0 0 [(0, .ref 125), (1, .int v17)] [] _ 0 0 _
            refine x_aloadn (x := 125) rfl rfl ?_
            refine z_getR (N := 92) (b := 126) 12 2 rfl f_12_8 rfl J rfl 16002 ⟨rfl, rfl⟩ rfl ?_
            refine x_aloadn (x := 125) rfl rfl ?_
            refine x_iloadn (x := v17) rfl rfl ?_
            refine x_inv (N := m_X12_at) (As := [.int v17]) (b := 125) (st := [.ref 126]) (dx9 := 1) (mc := 0) (ms := 0) (host := "") 12 rfl t_X12_at ⟨Or.inl q_12_254, i_X12_at.1, i_X12_at.2⟩ ⟨by decide, rfl⟩ (congrArg Prod.fst (J.1.1 125 (12, 92) rfl)) rfl (by decide) rfl rfl ⟨by decide, by decide⟩ (jC.of rfl k_X12_at rfl ?_)
            show jX m_X12_at 1 0 0 0 [(0, .ref 125), (1, .int v17)] [] _ 0 0 _
            refine x_bipush (v := 20) rfl kb_20 ?_
            refine x_bipush (v := 90) rfl kb_90 ?_
            refine x_iloadn (x := v17) rfl rfl ?_
            refine z_imul rfl jk_90 rfl (by omega) (fun v21 ev21 => ?_)
            refine z_iadd rfl jk_20 rfl (by omega) (fun v22 ev22 => ?_)
            refine x_iret rfl rfl ?_
            show jX m_X12_bookOf 2 0 0 9 [(0, .ref 125), (1, .int v17)] [.int v22, .ref 126] _ 0 0 _
            refine z_iald (N := 50660) rfl J rfl sg_126_20_18020_90_0_1 rfl (by omega) (fun v23 qv23 ev23 => ?_)
            refine x_iret rfl rfl ?_
            show jX m_X12_as 3 0 0 106 [(4, .int v17), (3, .int v13), (0, .ref 125), (1, .int a1), (2, .int a2)] [.int v23] _ 0 0 _
            refine x_iloadn (x := a2) rfl rfl ?_
            refine x_iceq (tgt := 125) rfl rfl (ti_eq rfl rfl ⟨fun c24 => ?_, fun c24 => ?_⟩)
            ·
              exact jX.sub (jsb_c rfl jsb_n) (ct_X12_as_r125_125 hD hQ  v17 h (jr_of rfl (by omega)) J Sm)
            ·
              refine x_iloadn (x := a2) rfl rfl ?_
              refine x_iconst (v := 3) rfl ki_3 ?_
              refine x_icne (tgt := 129) rfl rfl (ti_ne rfl jk_3 ⟨fun c25 => ?_, fun c25 => ?_⟩)
              ·
                exact jX.sub (jsb_c rfl jsb_n) (ct_X12_as_r125_129 hD hQ  v17 h (jr_of rfl (by omega)) J Sm)
              ·
                refine x_aloadn (x := 125) rfl rfl ?_
                refine x_iload (x := v17) rfl rfl ?_
                refine x_inv (N := m_X12_bookOf) (As := [.int v17]) (b := 125) (st := []) (dx9 := 2) (mc := 0) (ms := 0) (host := "") 12 rfl t_X12_bookOf ⟨Or.inl q_12_299, i_X12_bookOf.1, i_X12_bookOf.2⟩ ⟨by decide, rfl⟩ (congrArg Prod.fst (J.1.1 125 (12, 92) rfl)) rfl (by decide) rfl rfl ⟨by decide, by decide⟩ (jC.of rfl k_X12_bookOf rfl ?_)
                show jX m_X12_bookOf 2 0 0 0 [(0, .ref 125), (1, .int v17)] [] _ 0 0 _
                refine x_aloadn (x := 125) rfl rfl ?_
                refine z_getR (N := 92) (b := 126) 12 2 rfl f_12_8 rfl J rfl 16002 ⟨rfl, rfl⟩ rfl ?_
                refine x_aloadn (x := 125) rfl rfl ?_
                refine x_iloadn (x := v17) rfl rfl ?_
                refine x_inv (N := m_X12_at) (As := [.int v17]) (b := 125) (st := [.ref 126]) (dx9 := 1) (mc := 0) (ms := 0) (host := "") 12 rfl t_X12_at ⟨Or.inl q_12_254, i_X12_at.1, i_X12_at.2⟩ ⟨by decide, rfl⟩ (congrArg Prod.fst (J.1.1 125 (12, 92) rfl)) rfl (by decide) rfl rfl ⟨by decide, by decide⟩ (jC.of rfl k_X12_at rfl ?_)
                show jX m_X12_at 1 0 0 0 [(0, .ref 125), (1, .int v17)] [] _ 0 0 _
                refine x_bipush (v := 20) rfl kb_20 ?_
                refine x_bipush (v := 90) rfl kb_90 ?_
                refine x_iloadn (x := v17) rfl rfl ?_
                refine z_imul rfl jk_90 rfl (by omega) (fun v26 ev26 => ?_)
                refine z_iadd rfl jk_20 rfl (by omega) (fun v27 ev27 => ?_)
                refine x_iret rfl rfl ?_
                show jX m_X12_bookOf 2 0 0 9 [(0, .ref 125), (1, .int v17)] [.int v27, .ref 126] _ 0 0 _
                refine z_iald (N := 50660) rfl J rfl sg_126_20_18020_90_0_1 rfl (by omega) (fun v28 qv28 ev28 => ?_)
                refine x_iret rfl rfl ?_
                show jX m_X12_as 3 0 0 121 [(4, .int v17), (3, .int v13), (0, .ref 125), (1, .int a1), (2, .int a2)] [.int v28] _ 0 0 _
                refine x_iconst (v := 4) rfl ki_4 ?_
                refine x_icne (tgt := 129) rfl rfl (ti_ne rfl jk_4 ⟨fun c29 => ?_, fun c29 => ?_⟩)
                ·
                  exact jX.sub (jsb_c rfl jsb_n) (ct_X12_as_r125_129 hD hQ  v17 h (jr_of rfl (by omega)) J Sm)
                ·
                  exact jX.sub (jsb_c rfl jsb_n) (ct_X12_as_r125_125 hD hQ  v17 h (jr_of rfl (by omega)) J Sm)
      ·
        refine x_iloadn (x := v13) rfl rfl ?_
        refine x_iloadn (x := a2) rfl rfl ?_
        refine x_bipush (v := 6) rfl kb_6 ?_
        refine z_isub rfl rfl jk_6 (by omega) (fun v30 ev30 => ?_)
        refine x_icne (tgt := 86) rfl rfl (ti_ne rfl rfl ⟨fun c31 => ?_, fun c31 => ?_⟩)
        ·
          refine x_iconst (v := 0) rfl ki_0 ?_
          refine x_goto (tgt := 130) rfl rfl ?_
          exact jX.sub (jsb_c rfl jsb_n) (ct_X12_as_r125_200130 hD hQ  v17 h (jr_of rfl (by omega)) J Sm)
        ·
          refine x_iconst (v := 1) rfl ki_1 ?_
          refine x_goto (tgt := 130) rfl rfl ?_
          exact jX.sub (jsb_c rfl jsb_n) (ct_X12_as_r125_300130 hD hQ  v17 h (jr_of rfl (by omega)) J Sm)
    ·
      refine x_bipush (v := (-2)) rfl kb_m2 ?_
      refine x_iret rfl rfl ?_
      exact hQ _ _ (jr_of jk_m2 (by omega)) J Sm
  ·
    refine x_iconst (v := (-1)) rfl ki_m1 ?_
    refine x_iret rfl rfl ?_
    exact hQ _ _ (jr_of jk_m1 (by omega)) J Sm
def fp_X12_named_r125 : jFp := []
set_option maxRecDepth 100000 in
set_option maxHeartbeats 4000000 in
theorem ct_X12_named_r125_100018 {Dy : jH → Prop} {h0 : jH} {Q : Option Value → jH → Prop} (hD : jDk Dy) (hQ : ∀ (v : Int32) hx9, (-1) ≤ v.toInt ∧ v.toInt ≤ 599 → jJ jSgM Dy hx9 → jSm fp_X12_named_r125 h0 hx9 → Q (some (.int v)) hx9) : ∀ (h : jH), jJ jSgM Dy h → jSm fp_X12_named_r125 h0 h → jX m_X12_named 5 0 0 18 [] [.int (-1)] h 0 0 Q := by
  intro  h    J Sm
  refine x_iret rfl rfl ?_
  exact hQ _ _ (jr_of jk_m1 (by omega)) J Sm
set_option maxRecDepth 100000 in
set_option maxHeartbeats 4000000 in
theorem ct_X12_named_r125_18 {Dy : jH → Prop} {h0 : jH} {Q : Option Value → jH → Prop} (hD : jDk Dy) (hQ : ∀ (v : Int32) hx9, (-1) ≤ v.toInt ∧ v.toInt ≤ 599 → jJ jSgM Dy hx9 → jSm fp_X12_named_r125 h0 hx9 → Q (some (.int v)) hx9) : ∀ (s0 : Int32) (h : jH), (-1) ≤ s0.toInt ∧ s0.toInt ≤ 599 → jJ jSgM Dy h → jSm fp_X12_named_r125 h0 h → jX m_X12_named 5 0 0 18 [] [.int s0] h 0 0 Q := by
  intro s0 h y0   J Sm
  refine x_iret rfl rfl ?_
  exact hQ _ _ (jr_of rfl (by omega)) J Sm
set_option maxRecDepth 100000 in
set_option maxHeartbeats 4000000 in
theorem sf_X12_named_r125 {Dy : jH → Prop} {h : jH} {Q : Option Value → jH → Prop} {a1 : Int32} (y1 : 0 ≤ a1.toInt ∧ a1.toInt ≤ 599) (hD : jDk Dy) (J : jJ jSgM Dy h) (hQ : ∀ (v : Int32) hx9, (-1) ≤ v.toInt ∧ v.toInt ≤ 599 → jJ jSgM Dy hx9 → jSm fp_X12_named_r125 h hx9 → Q (some (.int v)) hx9) : jC m_X12_named 5 0 0 [.ref 125, .int a1] h Q := by
  refine jC.of rfl k_X12_named rfl ?_
  have Sm := jSm_rf fp_X12_named_r125 h
  show jX m_X12_named 5 0 0 0 [(0, .ref 125), (1, .int a1)] [] _ 0 0 _
  refine x_aloadn (x := 125) rfl rfl ?_
  refine x_iloadn (x := a1) rfl rfl ?_
  refine x_inv (N := m_X12_isUnknown) (As := [.int a1]) (b := 125) (st := []) (dx9 := 4) (mc := 0) (ms := 0) (host := "") 12 rfl t_X12_isUnknown ⟨Or.inl q_12_402, i_X12_isUnknown.1, i_X12_isUnknown.2⟩ ⟨by decide, rfl⟩ (congrArg Prod.fst (J.1.1 125 (12, 92) rfl)) rfl (by decide) rfl rfl ⟨by decide, by decide⟩ (jC.of rfl k_X12_isUnknown rfl ?_)
  show jX m_X12_isUnknown 4 0 0 0 [(0, .ref 125), (1, .int a1)] [] _ 0 0 _
  refine x_aloadn (x := 125) rfl rfl ?_
  refine x_iloadn (x := a1) rfl rfl ?_
  refine x_iconst (v := 0) rfl ki_0 ?_
  refine x_inv (N := m_X12_isNamed) (As := [.int a1, .int 0]) (b := 125) (st := []) (dx9 := 3) (mc := 0) (ms := 0) (host := "") 12 rfl t_X12_isNamed ⟨Or.inl q_12_315, i_X12_isNamed.1, i_X12_isNamed.2⟩ ⟨by decide, rfl⟩ (congrArg Prod.fst (J.1.1 125 (12, 92) rfl)) rfl (by decide) rfl rfl ⟨by decide, by decide⟩ (jC.of rfl k_X12_isNamed rfl ?_)
  show jX m_X12_isNamed 3 0 0 0 [(0, .ref 125), (1, .int a1), (2, .int 0)] [] _ 0 0 _
  refine x_aloadn (x := 125) rfl rfl ?_
  refine z_getR (N := 92) (b := 126) 12 2 rfl f_12_8 rfl J rfl 16002 ⟨rfl, rfl⟩ rfl ?_
  refine x_aloadn (x := 125) rfl rfl ?_
  refine x_iloadn (x := a1) rfl rfl ?_
  refine x_iloadn (x := 0) rfl rfl ?_
  refine x_inv (N := m_X12_nameAt) (As := [.int a1, .int 0]) (b := 125) (st := [.ref 126]) (dx9 := 2) (mc := 0) (ms := 0) (host := "") 12 rfl t_X12_nameAt ⟨Or.inl q_12_311, i_X12_nameAt.1, i_X12_nameAt.2⟩ ⟨by decide, rfl⟩ (congrArg Prod.fst (J.1.1 125 (12, 92) rfl)) rfl (by decide) rfl rfl ⟨by decide, by decide⟩ (jC.of rfl k_X12_nameAt rfl ?_)
  show jX m_X12_nameAt 2 0 0 0 [(0, .ref 125), (1, .int a1), (2, .int 0)] [] _ 0 0 _
  refine x_aloadn (x := 125) rfl rfl ?_
  refine x_iloadn (x := a1) rfl rfl ?_
  refine x_iconst (v := 3) rfl ki_3 ?_
  refine z_idiv rfl rfl jk_3 (by omega) (by omega) (fun v1 ev1 => ?_)
  refine x_inv (N := m_X12_at) (As := [.int v1]) (b := 125) (st := []) (dx9 := 1) (mc := 0) (ms := 0) (host := "") 12 rfl t_X12_at ⟨Or.inl q_12_254, i_X12_at.1, i_X12_at.2⟩ ⟨by decide, rfl⟩ (congrArg Prod.fst (J.1.1 125 (12, 92) rfl)) rfl (by decide) rfl rfl ⟨by decide, by decide⟩ (jC.of rfl k_X12_at rfl ?_)
  show jX m_X12_at 1 0 0 0 [(0, .ref 125), (1, .int v1)] [] _ 0 0 _
  refine x_bipush (v := 20) rfl kb_20 ?_
  refine x_bipush (v := 90) rfl kb_90 ?_
  refine x_iloadn (x := v1) rfl rfl ?_
  refine z_imul rfl jk_90 rfl (by omega) (fun v2 ev2 => ?_)
  refine z_iadd rfl jk_20 rfl (by omega) (fun v3 ev3 => ?_)
  refine x_iret rfl rfl ?_
  show jX m_X12_nameAt 2 0 0 7 [(0, .ref 125), (1, .int a1), (2, .int 0)] [.int v3] _ 0 0 _
  refine x_bipush (v := 6) rfl kb_6 ?_
  refine z_iadd rfl rfl jk_6 (by omega) (fun v4 ev4 => ?_)
  refine x_bipush (v := 28) rfl kb_28 ?_
  refine x_iloadn (x := a1) rfl rfl ?_
  refine x_iconst (v := 3) rfl ki_3 ?_
  refine z_irem rfl rfl jk_3 (by omega) (by omega) (fun v5 ev5 => ?_)
  refine z_imul rfl jk_28 rfl (by omega) (fun v6 ev6 => ?_)
  refine z_iadd rfl rfl rfl (by omega) (fun v7 ev7 => ?_)
  refine x_bipush (v := 14) rfl kb_14 ?_
  refine x_iloadn (x := 0) rfl rfl ?_
  refine y_imul (v := 0) rfl (by decide) ?_
  refine z_iadd rfl rfl jk_0 (by omega) (fun v8 ev8 => ?_)
  have rnv8 := jnam (m := a1.toInt) (w := 0) (v := v8.toInt) (by omega) (by omega) (by omega)
  refine x_iret rfl rfl ?_
  show jX m_X12_isNamed 3 0 0 10 [(0, .ref 125), (1, .int a1), (2, .int 0)] [.int v8, .ref 126] _ 0 0 _
  refine z_ialdU (N := 50660) (lo := 0) (hi := 12) rfl J rfl rfl (by omega) ((show (v8.toInt - 20) % 90 = 6 ∨ (v8.toInt - 20) % 90 = 34 ∨ (v8.toInt - 20) % 90 = 62 from by omega).elim (fun q => (jrg_w (jrg_c J sg_126_20_18020_90_6_7 rfl (by omega)) (by decide))) (fun q => q.elim (fun q => (jrg_w (jrg_c J sg_126_20_18020_90_34_35 rfl (by omega)) (by decide))) (fun q => (jrg_w (jrg_c J sg_126_20_18020_90_62_63 rfl (by omega)) (by decide))))) (fun v9 qv9 ev9 => ?_)
  refine x_ifle (tgt := 18) rfl rfl (ti_le rfl jk_0 ⟨fun c10 => ?_, fun c10 => ?_⟩)
  ·
    refine x_iconst (v := 0) rfl ki_0 ?_
    refine x_zret rfl rfl (by decide) ?_
    show jX m_X12_isUnknown 4 0 0 6 [(0, .ref 125), (1, .int a1)] [.int 0] _ 0 0 _
    refine x_ifne (tgt := 22) rfl rfl (ti_ne jk_0 jk_0 (bn_f (by omega) ?_))
    refine x_aloadn (x := 125) rfl rfl ?_
    refine x_iloadn (x := a1) rfl rfl ?_
    refine x_iconst (v := 1) rfl ki_1 ?_
    refine x_inv (N := m_X12_isNamed) (As := [.int a1, .int 1]) (b := 125) (st := []) (dx9 := 3) (mc := 0) (ms := 0) (host := "") 12 rfl t_X12_isNamed ⟨Or.inl q_12_315, i_X12_isNamed.1, i_X12_isNamed.2⟩ ⟨by decide, rfl⟩ (congrArg Prod.fst (J.1.1 125 (12, 92) rfl)) rfl (by decide) rfl rfl ⟨by decide, by decide⟩ (jC.of rfl k_X12_isNamed rfl ?_)
    show jX m_X12_isNamed 3 0 0 0 [(0, .ref 125), (1, .int a1), (2, .int 1)] [] _ 0 0 _
    refine x_aloadn (x := 125) rfl rfl ?_
    refine z_getR (N := 92) (b := 126) 12 2 rfl f_12_8 rfl J rfl 16002 ⟨rfl, rfl⟩ rfl ?_
    refine x_aloadn (x := 125) rfl rfl ?_
    refine x_iloadn (x := a1) rfl rfl ?_
    refine x_iloadn (x := 1) rfl rfl ?_
    refine x_inv (N := m_X12_nameAt) (As := [.int a1, .int 1]) (b := 125) (st := [.ref 126]) (dx9 := 2) (mc := 0) (ms := 0) (host := "") 12 rfl t_X12_nameAt ⟨Or.inl q_12_311, i_X12_nameAt.1, i_X12_nameAt.2⟩ ⟨by decide, rfl⟩ (congrArg Prod.fst (J.1.1 125 (12, 92) rfl)) rfl (by decide) rfl rfl ⟨by decide, by decide⟩ (jC.of rfl k_X12_nameAt rfl ?_)
    show jX m_X12_nameAt 2 0 0 0 [(0, .ref 125), (1, .int a1), (2, .int 1)] [] _ 0 0 _
    refine x_aloadn (x := 125) rfl rfl ?_
    refine x_iloadn (x := a1) rfl rfl ?_
    refine x_iconst (v := 3) rfl ki_3 ?_
    refine z_idiv rfl rfl jk_3 (by omega) (by omega) (fun v11 ev11 => ?_)
    refine x_inv (N := m_X12_at) (As := [.int v11]) (b := 125) (st := []) (dx9 := 1) (mc := 0) (ms := 0) (host := "") 12 rfl t_X12_at ⟨Or.inl q_12_254, i_X12_at.1, i_X12_at.2⟩ ⟨by decide, rfl⟩ (congrArg Prod.fst (J.1.1 125 (12, 92) rfl)) rfl (by decide) rfl rfl ⟨by decide, by decide⟩ (jC.of rfl k_X12_at rfl ?_)
    show jX m_X12_at 1 0 0 0 [(0, .ref 125), (1, .int v11)] [] _ 0 0 _
    refine x_bipush (v := 20) rfl kb_20 ?_
    refine x_bipush (v := 90) rfl kb_90 ?_
    refine x_iloadn (x := v11) rfl rfl ?_
    refine z_imul rfl jk_90 rfl (by omega) (fun v12 ev12 => ?_)
    refine z_iadd rfl jk_20 rfl (by omega) (fun v13 ev13 => ?_)
    refine x_iret rfl rfl ?_
    show jX m_X12_nameAt 2 0 0 7 [(0, .ref 125), (1, .int a1), (2, .int 1)] [.int v13] _ 0 0 _
    refine x_bipush (v := 6) rfl kb_6 ?_
    refine z_iadd rfl rfl jk_6 (by omega) (fun v14 ev14 => ?_)
    refine x_bipush (v := 28) rfl kb_28 ?_
    refine x_iloadn (x := a1) rfl rfl ?_
    refine x_iconst (v := 3) rfl ki_3 ?_
    refine z_irem rfl rfl jk_3 (by omega) (by omega) (fun v15 ev15 => ?_)
    refine z_imul rfl jk_28 rfl (by omega) (fun v16 ev16 => ?_)
    refine z_iadd rfl rfl rfl (by omega) (fun v17 ev17 => ?_)
    refine x_bipush (v := 14) rfl kb_14 ?_
    refine x_iloadn (x := 1) rfl rfl ?_
    refine y_imul (v := 14) rfl (by decide) ?_
    refine z_iadd rfl rfl jk_14 (by omega) (fun v18 ev18 => ?_)
    have rnv18 := jnam (m := a1.toInt) (w := 1) (v := v18.toInt) (by omega) (by omega) (by omega)
    refine x_iret rfl rfl ?_
    show jX m_X12_isNamed 3 0 0 10 [(0, .ref 125), (1, .int a1), (2, .int 1)] [.int v18, .ref 126] _ 0 0 _
    refine z_ialdU (N := 50660) (lo := 0) (hi := 12) rfl J rfl rfl (by omega) ((show (v18.toInt - 20) % 90 = 20 ∨ (v18.toInt - 20) % 90 = 48 ∨ (v18.toInt - 20) % 90 = 76 from by omega).elim (fun q => (jrg_w (jrg_c J sg_126_20_18020_90_20_21 rfl (by omega)) (by decide))) (fun q => q.elim (fun q => (jrg_w (jrg_c J sg_126_20_18020_90_48_49 rfl (by omega)) (by decide))) (fun q => (jrg_w (jrg_c J sg_126_20_18020_90_76_77 rfl (by omega)) (by decide))))) (fun v19 qv19 ev19 => ?_)
    refine x_ifle (tgt := 18) rfl rfl (ti_le rfl jk_0 ⟨fun c20 => ?_, fun c20 => ?_⟩)
    ·
      refine x_iconst (v := 0) rfl ki_0 ?_
      refine x_zret rfl rfl (by decide) ?_
      show jX m_X12_isUnknown 4 0 0 15 [(0, .ref 125), (1, .int a1)] [.int 0] _ 0 0 _
      refine x_ifne (tgt := 22) rfl rfl (ti_ne jk_0 jk_0 (bn_f (by omega) ?_))
      refine x_iconst (v := 1) rfl ki_1 ?_
      refine x_goto (tgt := 23) rfl rfl ?_
      refine x_zret rfl rfl (by decide) ?_
      show jX m_X12_named 5 0 0 5 [(0, .ref 125), (1, .int a1)] [.int 1] _ 0 0 _
      refine x_ifeq (tgt := 12) rfl rfl (ti_eq jk_1 jk_0 (br_f (by omega) ?_))
      refine x_iconst (v := (-1)) rfl ki_m1 ?_
      refine x_goto (tgt := 18) rfl rfl ?_
      exact jX.sub jsb_n (ct_X12_named_r125_100018 hD hQ  h J Sm)
    ·
      refine x_iconst (v := 1) rfl ki_1 ?_
      refine x_goto (tgt := 19) rfl rfl ?_
      refine x_zret rfl rfl (by decide) ?_
      show jX m_X12_isUnknown 4 0 0 15 [(0, .ref 125), (1, .int a1)] [.int 1] _ 0 0 _
      refine x_ifne (tgt := 22) rfl rfl (ti_ne jk_1 jk_0 (bn_t (by omega) ?_))
      refine x_iconst (v := 0) rfl ki_0 ?_
      refine x_zret rfl rfl (by decide) ?_
      show jX m_X12_named 5 0 0 5 [(0, .ref 125), (1, .int a1)] [.int 0] _ 0 0 _
      refine x_ifeq (tgt := 12) rfl rfl (ti_eq jk_0 jk_0 (br_t (by omega) ?_))
      refine x_aloadn (x := 125) rfl rfl ?_
      refine z_getR (N := 92) (b := 139) 12 29 rfl f_12_72 rfl J rfl 16029 ⟨rfl, rfl⟩ rfl ?_
      refine x_iloadn (x := a1) rfl rfl ?_
      refine z_iald (N := 600) rfl J rfl sg_139_0_600_1_0_1 rfl (by omega) (fun v21 qv21 ev21 => ?_)
      exact jX.sub jsb_n (ct_X12_named_r125_18 hD hQ  v21 h (jr_of rfl (by omega)) J Sm)
  ·
    refine x_iconst (v := 1) rfl ki_1 ?_
    refine x_goto (tgt := 19) rfl rfl ?_
    refine x_zret rfl rfl (by decide) ?_
    show jX m_X12_isUnknown 4 0 0 6 [(0, .ref 125), (1, .int a1)] [.int 1] _ 0 0 _
    refine x_ifne (tgt := 22) rfl rfl (ti_ne jk_1 jk_0 (bn_t (by omega) ?_))
    refine x_iconst (v := 0) rfl ki_0 ?_
    refine x_zret rfl rfl (by decide) ?_
    show jX m_X12_named 5 0 0 5 [(0, .ref 125), (1, .int a1)] [.int 0] _ 0 0 _
    refine x_ifeq (tgt := 12) rfl rfl (ti_eq jk_0 jk_0 (br_t (by omega) ?_))
    refine x_aloadn (x := 125) rfl rfl ?_
    refine z_getR (N := 92) (b := 139) 12 29 rfl f_12_72 rfl J rfl 16029 ⟨rfl, rfl⟩ rfl ?_
    refine x_iloadn (x := a1) rfl rfl ?_
    refine z_iald (N := 600) rfl J rfl sg_139_0_600_1_0_1 rfl (by omega) (fun v22 qv22 ev22 => ?_)
    exact jX.sub jsb_n (ct_X12_named_r125_18 hD hQ  v22 h (jr_of rfl (by omega)) J Sm)
def fp_X12_askOn_r125 : jFp := [(125, 74, 75), (156, 0, 8), (157, 0, 8), (158, 0, 8), (159, 0, 8), (160, 0, 8), (161, 0, 8)]
set_option maxRecDepth 100000 in
set_option maxHeartbeats 4000000 in
theorem ct_X12_askOn_r125_187 {Dy : jH → Prop} {h0 : jH} {Q : Option Value → jH → Prop} (hD : jDk Dy) (hQ : ∀ hx9, jJ jSgM Dy hx9 → jSm fp_X12_askOn_r125 h0 hx9 → ∀ u0 : Int32, jiv hx9 125 74 = u0 → 0 ≤ u0.toInt → jAo h0 hx9 → Q none hx9) : ∀ (g0 : Int32) (h : jH), 0 ≤ g0.toInt ∧ g0.toInt ≤ 6 → jAo h0 h → jiv h 125 74 = g0 → jJ jSgM Dy h → jSm fp_X12_askOn_r125 h0 h → jX m_X12_askOn 6 0 0 187 [] [] h 0 0 Q := by
  intro g0 h y0 C0 z0  J Sm
  refine x_vret rfl rfl ?_
  exact hQ _ J Sm _ z0 (by omega) C0
set_option maxRecDepth 100000 in
set_option maxHeartbeats 4000000 in
theorem ct_X12_askOn_r125_80 {Dy : jH → Prop} {h0 : jH} {Q : Option Value → jH → Prop} (hD : jDk Dy) (hQ : ∀ hx9, jJ jSgM Dy hx9 → jSm fp_X12_askOn_r125 h0 hx9 → ∀ u0 : Int32, jiv hx9 125 74 = u0 → 0 ≤ u0.toInt → jAo h0 hx9 → Q none hx9) : ∀ (g0 : Int32) (h : jH), 0 ≤ g0.toInt ∧ g0.toInt ≤ 6 → jAo h0 h → jiv h 125 74 = g0 → jJ jSgM Dy h → jSm fp_X12_askOn_r125 h0 h → jX m_X12_askOn 6 0 0 80 [] [] h 0 0 Q := by
  intro g0 h y0 C0 z0  J Sm
  refine x_vret rfl rfl ?_
  exact hQ _ J Sm _ z0 (by omega) C0
set_option maxRecDepth 100000 in
set_option maxHeartbeats 4000000 in
theorem ct_X12_askOn_r125_53 {Dy : jH → Prop} {h0 : jH} {Q : Option Value → jH → Prop} (hD : jDk Dy) (hQ : ∀ hx9, jJ jSgM Dy hx9 → jSm fp_X12_askOn_r125 h0 hx9 → ∀ u0 : Int32, jiv hx9 125 74 = u0 → 0 ≤ u0.toInt → jAo h0 hx9 → Q none hx9) : ∀ (l2 : Int32) (s0 : Int32) (g0 : Int32) (h : jH), 0 ≤ l2.toInt ∧ l2.toInt ≤ 5 → (-1) ≤ s0.toInt ∧ s0.toInt ≤ 599 → 0 ≤ g0.toInt ∧ g0.toInt ≤ 5 → (jiv h0 125 74 = l2 ∧ jiv h 125 74 = l2 ∧ jEq 158 (fun _ => True) h h0 ∧ jEq 159 (fun _ => True) h h0) → 0 ≤ g0.toInt → jiv h 125 74 = g0 → jJ jSgM Dy h → jSm fp_X12_askOn_r125 h0 h → jX m_X12_askOn 6 0 0 53 [(0, .ref 125), (2, .int l2)] [.int s0] h 0 0 Q := by
  intro l2 s0 g0 h y0 y1 y2 C0 y4 z0  J Sm
  have gl : g0.toInt = l2.toInt := congrArg Int32.toInt (z0.symm.trans C0.2.1)
  refine x_istore (lsx9 := [(4, .int s0), (0, .ref 125), (2, .int l2)]) rfl rfl rfl ?_
  refine x_iload (x := s0) rfl rfl ?_
  refine x_iconst (v := (-1)) rfl ki_m1 ?_
  refine x_iceq (tgt := 80) rfl rfl (ti_eq rfl jk_m1 ⟨fun c1 => ?_, fun c1 => ?_⟩)
  ·
    exact jX.sub jsb_n (ct_X12_askOn_r125_80 hD hQ  g0 h (jr_of rfl (by omega)) (jao_id C0.1 C0.2.1 C0.2.2.1 C0.2.2.2) z0 J Sm)
  ·
    refine x_aloadn (x := 125) rfl rfl ?_
    refine z_getR (N := 92) (b := 159) 12 71 rfl f_12_135 rfl J rfl 16071 ⟨rfl, rfl⟩ rfl ?_
    refine x_iloadn (x := l2) rfl rfl ?_
    refine x_iconst (v := 1) rfl ki_1 ?_
    refine z_iast (N := 8) (l := 0) (u := 8) (w := 1) rfl hD J Sm rfl rfl rfl (by omega) jk_1 (wr_159 (fun q1 q2 q3 q4 => by omega)) rfl (fun h w2 J Sm => ?_)
    refine x_aloadn (x := 125) rfl rfl ?_
    refine x_iload (x := s0) rfl rfl ?_
    refine x_aloadn (x := 125) rfl rfl ?_
    refine z_getR (N := 92) (b := 157) 12 69 rfl f_12_129 rfl J rfl 16069 ⟨rfl, rfl⟩ rfl ?_
    refine x_iloadn (x := l2) rfl rfl ?_
    refine z_iald (N := 8) rfl J rfl sg_157_0_8_1_0_1 rfl (by omega) (fun v3 qv3 ev3 => ?_)
    refine x_inv (N := m_X12_ask) (As := [.int s0, .int v3]) (b := 125) (st := []) (dx9 := 5) (mc := 0) (ms := 0) (host := "") 12 rfl t_X12_ask ⟨Or.inl q_12_780, i_X12_ask.1, i_X12_ask.2⟩ ⟨by decide, rfl⟩ (congrArg Prod.fst (J.1.1 125 (12, 92) rfl)) rfl (by decide) rfl rfl ⟨by decide, by decide⟩ (jC.of rfl k_X12_ask rfl ?_)
    show jX m_X12_ask 5 0 0 0 [(0, .ref 125), (1, .int s0), (2, .int v3)] [] _ 0 0 _
    refine x_aloadn (x := 125) rfl rfl ?_
    refine x_dup rfl rfl ?_
    refine z_getM (N := 92) (v := g0) 12 74 rfl f_12_771 rfl J rfl (jmo w2 rfl z0) ?_
    refine x_iconst (v := 1) rfl ki_1 ?_
    refine z_iadd rfl rfl jk_1 (by omega) (fun v4 ev4 => ?_)
    refine z_putI (N := 92) (w := v4.toInt) 12 74 rfl f_12_771 rfl (jfin_no TX12 RX12 92 rfl rfl) hD J Sm rfl rfl rfl (pw_125_74 (by omega)) rfl (fun h w5 J Sm => ?_)
    refine x_aloadn (x := 125) rfl rfl ?_
    refine z_getR (N := 92) (b := 156) 12 68 rfl f_12_126 rfl J rfl 16068 ⟨rfl, rfl⟩ rfl ?_
    refine x_aloadn (x := 125) rfl rfl ?_
    refine z_getM (N := 92) (v := v4) 12 74 rfl f_12_771 rfl J rfl (jmw w5) ?_
    refine x_iloadn (x := s0) rfl rfl ?_
    refine z_iast (N := 8) (l := 0) (u := 8) (w := s0.toInt) rfl hD J Sm rfl rfl rfl (by omega) rfl (wr_156 (fun q1 q2 q3 q4 => by omega)) rfl (fun h w6 J Sm => ?_)
    refine x_aloadn (x := 125) rfl rfl ?_
    refine z_getR (N := 92) (b := 157) 12 69 rfl f_12_129 rfl J rfl 16069 ⟨rfl, rfl⟩ rfl ?_
    refine x_aloadn (x := 125) rfl rfl ?_
    refine z_getM (N := 92) (v := v4) 12 74 rfl f_12_771 rfl J rfl (jmo w6 rfl (jmw w5)) ?_
    refine x_iloadn (x := v3) rfl rfl ?_
    refine z_iast (N := 8) (l := 0) (u := 8) (w := v3.toInt) rfl hD J Sm rfl rfl rfl (by omega) rfl (wr_157 (fun q1 q2 q3 q4 => by omega)) rfl (fun h w7 J Sm => ?_)
    refine x_aloadn (x := 125) rfl rfl ?_
    refine z_getR (N := 92) (b := 158) 12 70 rfl f_12_132 rfl J rfl 16070 ⟨rfl, rfl⟩ rfl ?_
    refine x_aloadn (x := 125) rfl rfl ?_
    refine z_getM (N := 92) (v := v4) 12 74 rfl f_12_771 rfl J rfl (jmo w7 rfl (jmo w6 rfl (jmw w5))) ?_
    refine x_iconst (v := 0) rfl ki_0 ?_
    refine z_iast (N := 8) (l := 0) (u := 8) (w := 0) rfl hD J Sm rfl rfl rfl (by omega) jk_0 (wr_158 (fun q1 q2 q3 q4 => by omega)) rfl (fun h w8 J Sm => ?_)
    refine x_aloadn (x := 125) rfl rfl ?_
    refine z_getR (N := 92) (b := 159) 12 71 rfl f_12_135 rfl J rfl 16071 ⟨rfl, rfl⟩ rfl ?_
    refine x_aloadn (x := 125) rfl rfl ?_
    refine z_getM (N := 92) (v := v4) 12 74 rfl f_12_771 rfl J rfl (jmo w8 rfl (jmo w7 rfl (jmo w6 rfl (jmw w5)))) ?_
    refine x_iconst (v := 0) rfl ki_0 ?_
    refine z_iast (N := 8) (l := 0) (u := 8) (w := 0) rfl hD J Sm rfl rfl rfl (by omega) jk_0 (wr_159 (fun q1 q2 q3 q4 => by omega)) rfl (fun h w9 J Sm => ?_)
    refine x_aloadn (x := 125) rfl rfl ?_
    refine z_getR (N := 92) (b := 161) 12 73 rfl f_12_141 rfl J rfl 16073 ⟨rfl, rfl⟩ rfl ?_
    refine x_aloadn (x := 125) rfl rfl ?_
    refine z_getM (N := 92) (v := v4) 12 74 rfl f_12_771 rfl J rfl (jmo w9 rfl (jmo w8 rfl (jmo w7 rfl (jmo w6 rfl (jmw w5))))) ?_
    refine x_iconst (v := 0) rfl ki_0 ?_
    refine z_iast (N := 8) (l := 0) (u := 8) (w := 0) rfl hD J Sm rfl rfl rfl (by omega) jk_0 (wr_161) rfl (fun h w10 J Sm => ?_)
    refine x_vret rfl rfl ?_
    show jX m_X12_askOn 6 0 0 80 [(4, .int s0), (0, .ref 125), (2, .int l2)] [] _ 0 0 _
    exact jX.sub jsb_n (ct_X12_askOn_r125_80 hD hQ  v4 h (jr_of rfl (by omega)) (jao_of (d := l2) (u := v4) C0.1 (jmo w10 rfl (jmo w9 rfl (jmo w8 rfl (jmo w7 rfl (jmo w6 rfl (jmw w5)))))) (by omega) (jeq_o w10 rfl (jeq_o w9 rfl (jeq_s w8 (jnne rfl rfl (by omega)) (jeq_o w7 rfl (jeq_o w6 rfl (jeq_o w5 rfl (jeq_o w2 rfl (jeq_w (P := fun _ => True) (fun _ _ => trivial) C0.2.2.1)))))))) (jeq_o w10 rfl (jeq_s w9 (jnlt rfl rfl (by omega)) (jeq_o w8 rfl (jeq_o w7 rfl (jeq_o w6 rfl (jeq_o w5 rfl (jeq_s w2 (jnlt rfl rfl (by omega)) (jeq_w (P := fun _ => True) (fun _ _ => trivial) C0.2.2.2)))))))) (jmo w10 rfl (jmo w9 rfl (jmw w8))) (jmo w10 rfl (jmw w9))) (jmo w10 rfl (jmo w9 rfl (jmo w8 rfl (jmo w7 rfl (jmo w6 rfl (jmw w5)))))) J Sm)
set_option maxRecDepth 100000 in
set_option maxHeartbeats 4000000 in
theorem ct_X12_askOn_r125_100053 {Dy : jH → Prop} {h0 : jH} {Q : Option Value → jH → Prop} (hD : jDk Dy) (hQ : ∀ hx9, jJ jSgM Dy hx9 → jSm fp_X12_askOn_r125 h0 hx9 → ∀ u0 : Int32, jiv hx9 125 74 = u0 → 0 ≤ u0.toInt → jAo h0 hx9 → Q none hx9) : ∀ (l2 : Int32) (g0 : Int32) (h : jH), 0 ≤ l2.toInt ∧ l2.toInt ≤ 5 → 0 ≤ g0.toInt ∧ g0.toInt ≤ 5 → (jiv h0 125 74 = l2 ∧ jiv h 125 74 = l2 ∧ jEq 158 (fun _ => True) h h0 ∧ jEq 159 (fun _ => True) h h0) → 0 ≤ g0.toInt → jiv h 125 74 = g0 → jJ jSgM Dy h → jSm fp_X12_askOn_r125 h0 h → jX m_X12_askOn 6 0 0 53 [(0, .ref 125), (2, .int l2)] [.int (-1)] h 0 0 Q := by
  intro l2 g0 h y0 y1 C0 y3 z0  J Sm
  have gl : g0.toInt = l2.toInt := congrArg Int32.toInt (z0.symm.trans C0.2.1)
  refine x_istore (lsx9 := [(4, .int (-1)), (0, .ref 125), (2, .int l2)]) rfl rfl rfl ?_
  refine x_iload (x := (-1)) rfl rfl ?_
  refine x_iconst (v := (-1)) rfl ki_m1 ?_
  refine x_iceq (tgt := 80) rfl rfl (ti_eq jk_m1 jk_m1 (br_t (by omega) ?_))
  exact jX.sub jsb_n (ct_X12_askOn_r125_80 hD hQ  g0 h (jr_of rfl (by omega)) (jao_id C0.1 C0.2.1 C0.2.2.1 C0.2.2.2) z0 J Sm)
set_option maxRecDepth 100000 in
set_option maxHeartbeats 4000000 in
theorem sf_X12_askOn_r125 {Dy : jH → Prop} {h : jH} {Q : Option Value → jH → Prop} {a1 : Int32} (y1 : 4 ≤ a1.toInt ∧ a1.toInt ≤ 2147483647) (hD : jDk Dy) (J : jJ jSgM Dy h) {p0 : Int32} (zp0 : jiv h 125 74 = p0) (rl_p0 : 0 ≤ p0.toInt) (hQ : ∀ hx9, jJ jSgM Dy hx9 → jSm fp_X12_askOn_r125 h hx9 → ∀ u0 : Int32, jiv hx9 125 74 = u0 → 0 ≤ u0.toInt → jAo h hx9 → Q none hx9) : jC m_X12_askOn 6 0 0 [.ref 125, .int a1] h Q := by
  refine jC.of rfl k_X12_askOn rfl ?_
  have Sm := jSm_rf fp_X12_askOn_r125 h
  have ep0 := (show (-1) ≤ p0.toInt ∧ p0.toInt ≤ 6 from zp0 ▸ jrg_f J sg_125_74_75_1_0_1)
  show jX m_X12_askOn 6 0 0 0 [(0, .ref 125), (1, .int a1)] [] _ 0 0 _
  refine x_aloadn (x := 125) rfl rfl ?_
  refine z_getM (N := 92) (v := p0) 12 74 rfl f_12_771 rfl J rfl zp0 ?_
  refine x_istoren (lsx9 := [(2, .int p0), (0, .ref 125), (1, .int a1)]) rfl rfl rfl ?_
  refine x_iloadn (x := p0) rfl rfl ?_
  refine x_bipush (v := 6) rfl kb_6 ?_
  refine x_icne (tgt := 12) rfl rfl (ti_ne rfl jk_6 ⟨fun c1 => ?_, fun c1 => ?_⟩)
  ·
    refine x_iloadn (x := a1) rfl rfl ?_
    refine x_iconst (v := 4) rfl ki_4 ?_
    refine x_icne (tgt := 81) rfl rfl (ti_ne rfl jk_4 ⟨fun c2 => ?_, fun c2 => ?_⟩)
    ·
      refine x_aloadn (x := 125) rfl rfl ?_
      refine x_aloadn (x := 125) rfl rfl ?_
      refine z_getR (N := 92) (b := 156) 12 68 rfl f_12_126 rfl J rfl 16068 ⟨rfl, rfl⟩ rfl ?_
      refine x_iloadn (x := p0) rfl rfl ?_
      refine z_iald (N := 8) rfl J rfl sg_156_0_8_1_0_1 rfl (by omega) (fun v3 qv3 ev3 => ?_)
      refine x_iconst (v := 0) rfl ki_0 ?_
      refine x_ldcw (v := 146399) rfl z_12_392 ?_
      refine x_inv (N := m_X12_mentionOf) (As := [.int v3, .int 0, .int 146399]) (b := 125) (st := []) (dx9 := 4) (mc := 0) (ms := 0) (host := "") 12 rfl t_X12_mentionOf ⟨Or.inl q_12_405, i_X12_mentionOf.1, i_X12_mentionOf.2⟩ ⟨by decide, rfl⟩ (congrArg Prod.fst (J.1.1 125 (12, 92) rfl)) rfl (by decide) rfl rfl ⟨by decide, by decide⟩ (sf_X12_mentionOf_r125 (jr_of rfl (by omega)) (jr_of jk_0 (by omega)) (jr_of jk_146399 (by omega)) hD J  (fun v5 h ev5 J S4 => ?_))
      have Sm := jSm_tr rfl Sm S4
      show jX m_X12_askOn 6 0 0 95 [(2, .int p0), (0, .ref 125), (1, .int a1)] [.int v5] _ 0 0 _
      refine x_istoren (lsx9 := [(3, .int v5), (2, .int p0), (0, .ref 125), (1, .int a1)]) rfl rfl rfl ?_
      refine x_iloadn (x := v5) rfl rfl ?_
      refine x_iconst (v := (-1)) rfl ki_m1 ?_
      refine x_icne (tgt := 102) rfl rfl (ti_ne rfl jk_m1 ⟨fun c6 => ?_, fun c6 => ?_⟩)
      ·
        refine x_aloadn (x := 125) rfl rfl ?_
        refine x_iloadn (x := v5) rfl rfl ?_
        refine x_iconst (v := 3) rfl ki_3 ?_
        refine z_idiv rfl rfl jk_3 (by omega) (by omega) (fun v7 ev7 => ?_)
        refine x_iconst (v := 3) rfl ki_3 ?_
        refine z_imul rfl rfl jk_3 (by omega) (fun v8 ev8 => ?_)
        refine x_iconst (v := 1) rfl ki_1 ?_
        refine z_iadd rfl rfl jk_1 (by omega) (fun v9 ev9 => ?_)
        refine x_inv (N := m_X12_named) (As := [.int v9]) (b := 125) (st := []) (dx9 := 5) (mc := 0) (ms := 0) (host := "") 12 rfl t_X12_named ⟨Or.inl q_12_409, i_X12_named.1, i_X12_named.2⟩ ⟨by decide, rfl⟩ (congrArg Prod.fst (J.1.1 125 (12, 92) rfl)) rfl (by decide) rfl rfl ⟨by decide, by decide⟩ (sf_X12_named_r125 (jr_of rfl (by omega)) hD J  (fun v11 h ev11 J S10 => ?_))
        have Sm := jSm_tr rfl Sm S10
        show jX m_X12_askOn 6 0 0 113 [(3, .int v5), (2, .int p0), (0, .ref 125), (1, .int a1)] [.int v11] _ 0 0 _
        refine x_istore (lsx9 := [(4, .int v11), (3, .int v5), (2, .int p0), (0, .ref 125), (1, .int a1)]) rfl rfl rfl ?_
        refine x_aloadn (x := 125) rfl rfl ?_
        refine x_iloadn (x := v5) rfl rfl ?_
        refine x_iconst (v := 3) rfl ki_3 ?_
        refine z_idiv rfl rfl jk_3 (by omega) (by omega) (fun v12 ev12 => ?_)
        refine x_iconst (v := 3) rfl ki_3 ?_
        refine z_imul rfl rfl jk_3 (by omega) (fun v13 ev13 => ?_)
        refine x_iconst (v := 2) rfl ki_2 ?_
        refine z_iadd rfl rfl jk_2 (by omega) (fun v14 ev14 => ?_)
        refine x_inv (N := m_X12_named) (As := [.int v14]) (b := 125) (st := []) (dx9 := 5) (mc := 0) (ms := 0) (host := "") 12 rfl t_X12_named ⟨Or.inl q_12_409, i_X12_named.1, i_X12_named.2⟩ ⟨by decide, rfl⟩ (congrArg Prod.fst (J.1.1 125 (12, 92) rfl)) rfl (by decide) rfl rfl ⟨by decide, by decide⟩ (sf_X12_named_r125 (jr_of rfl (by omega)) hD J  (fun v16 h ev16 J S15 => ?_))
        have Sm := jSm_tr rfl Sm S15
        show jX m_X12_askOn 6 0 0 126 [(4, .int v11), (3, .int v5), (2, .int p0), (0, .ref 125), (1, .int a1)] [.int v16] _ 0 0 _
        refine x_istore (lsx9 := [(5, .int v16), (4, .int v11), (3, .int v5), (2, .int p0), (0, .ref 125), (1, .int a1)]) rfl rfl rfl ?_
        refine x_aloadn (x := 125) rfl rfl ?_
        refine z_getR (N := 92) (b := 160) 12 72 rfl f_12_138 rfl J rfl 16072 ⟨rfl, rfl⟩ rfl ?_
        refine x_iloadn (x := p0) rfl rfl ?_
        refine x_iload (x := v16) rfl rfl ?_
        refine z_iast (N := 8) (l := 0) (u := 8) (w := v16.toInt) rfl hD J Sm rfl rfl rfl (by omega) rfl (wr_160 (fun q1 q2 q3 q4 => by omega)) rfl (fun h w17 J Sm => ?_)
        refine x_iload (x := v11) rfl rfl ?_
        refine x_iconst (v := (-1)) rfl ki_m1 ?_
        refine x_iceq (tgt := 163) rfl rfl (ti_eq rfl jk_m1 ⟨fun c18 => ?_, fun c18 => ?_⟩)
        ·
          refine x_iload (x := v16) rfl rfl ?_
          refine x_iconst (v := (-1)) rfl ki_m1 ?_
          refine x_iceq (tgt := 187) rfl rfl (ti_eq rfl jk_m1 ⟨fun c19 => ?_, fun c19 => ?_⟩)
          ·
            exact jX.sub jsb_n (ct_X12_askOn_r125_187 hD hQ  p0 h (jr_of rfl (by omega)) (jao_id zp0 (jmo w17 rfl (jmc S15 rfl (jmc S10 rfl (jmc S4 rfl zp0)))) (jeq_o w17 rfl (jeq_c S15 rfl (jeq_c S10 rfl (jeq_c S4 rfl jeq_0)))) (jeq_o w17 rfl (jeq_c S15 rfl (jeq_c S10 rfl (jeq_c S4 rfl jeq_0))))) (jmo w17 rfl (jmc S15 rfl (jmc S10 rfl (jmc S4 rfl zp0)))) J Sm)
          ·
            refine x_aloadn (x := 125) rfl rfl ?_
            refine z_getR (N := 92) (b := 159) 12 71 rfl f_12_135 rfl J rfl 16071 ⟨rfl, rfl⟩ rfl ?_
            refine x_iloadn (x := p0) rfl rfl ?_
            refine x_iconst (v := 3) rfl ki_3 ?_
            refine z_iast (N := 8) (l := 0) (u := 8) (w := 3) rfl hD J Sm rfl rfl rfl (by omega) jk_3 (wr_159 (fun q1 q2 q3 q4 => by omega)) rfl (fun h w20 J Sm => ?_)
            refine x_aloadn (x := 125) rfl rfl ?_
            refine x_iload (x := v16) rfl rfl ?_
            refine x_aloadn (x := 125) rfl rfl ?_
            refine x_iloadn (x := v5) rfl rfl ?_
            refine x_inv (N := m_X12_dayAt) (As := [.int v5]) (b := 125) (st := [.int v16, .ref 125]) (dx9 := 3) (mc := 0) (ms := 0) (host := "") 12 rfl t_X12_dayAt ⟨Or.inl q_12_347, i_X12_dayAt.1, i_X12_dayAt.2⟩ ⟨by decide, rfl⟩ (congrArg Prod.fst (J.1.1 125 (12, 92) rfl)) rfl (by decide) rfl rfl ⟨by decide, by decide⟩ (sf_X12_dayAt_r125 (jr_of rfl (by omega)) hD J  (fun v22 h ev22 J S21 => ?_))
            have Sm := jSm_tr rfl Sm S21
            show jX m_X12_askOn 6 0 0 184 [(5, .int v16), (4, .int v11), (3, .int v5), (2, .int p0), (0, .ref 125), (1, .int a1)] [.int v22, .int v16, .ref 125] _ 0 0 _
            refine x_inv (N := m_X12_ask) (As := [.int v16, .int v22]) (b := 125) (st := []) (dx9 := 5) (mc := 0) (ms := 0) (host := "") 12 rfl t_X12_ask ⟨Or.inl q_12_780, i_X12_ask.1, i_X12_ask.2⟩ ⟨by decide, rfl⟩ (congrArg Prod.fst (J.1.1 125 (12, 92) rfl)) rfl (by decide) rfl rfl ⟨by decide, by decide⟩ (jC.of rfl k_X12_ask rfl ?_)
            show jX m_X12_ask 5 0 0 0 [(0, .ref 125), (1, .int v16), (2, .int v22)] [] _ 0 0 _
            refine x_aloadn (x := 125) rfl rfl ?_
            refine x_dup rfl rfl ?_
            refine z_getM (N := 92) (v := p0) 12 74 rfl f_12_771 rfl J rfl (jmc S21 rfl (jmo w20 rfl (jmo w17 rfl (jmc S15 rfl (jmc S10 rfl (jmc S4 rfl zp0)))))) ?_
            refine x_iconst (v := 1) rfl ki_1 ?_
            refine z_iadd rfl rfl jk_1 (by omega) (fun v23 ev23 => ?_)
            refine z_putI (N := 92) (w := v23.toInt) 12 74 rfl f_12_771 rfl (jfin_no TX12 RX12 92 rfl rfl) hD J Sm rfl rfl rfl (pw_125_74 (by omega)) rfl (fun h w24 J Sm => ?_)
            refine x_aloadn (x := 125) rfl rfl ?_
            refine z_getR (N := 92) (b := 156) 12 68 rfl f_12_126 rfl J rfl 16068 ⟨rfl, rfl⟩ rfl ?_
            refine x_aloadn (x := 125) rfl rfl ?_
            refine z_getM (N := 92) (v := v23) 12 74 rfl f_12_771 rfl J rfl (jmw w24) ?_
            refine x_iloadn (x := v16) rfl rfl ?_
            refine z_iast (N := 8) (l := 0) (u := 8) (w := v16.toInt) rfl hD J Sm rfl rfl rfl (by omega) rfl (wr_156 (fun q1 q2 q3 q4 => by omega)) rfl (fun h w25 J Sm => ?_)
            refine x_aloadn (x := 125) rfl rfl ?_
            refine z_getR (N := 92) (b := 157) 12 69 rfl f_12_129 rfl J rfl 16069 ⟨rfl, rfl⟩ rfl ?_
            refine x_aloadn (x := 125) rfl rfl ?_
            refine z_getM (N := 92) (v := v23) 12 74 rfl f_12_771 rfl J rfl (jmo w25 rfl (jmw w24)) ?_
            refine x_iloadn (x := v22) rfl rfl ?_
            refine z_iast (N := 8) (l := 0) (u := 8) (w := v22.toInt) rfl hD J Sm rfl rfl rfl (by omega) rfl (wr_157 (fun q1 q2 q3 q4 => by omega)) rfl (fun h w26 J Sm => ?_)
            refine x_aloadn (x := 125) rfl rfl ?_
            refine z_getR (N := 92) (b := 158) 12 70 rfl f_12_132 rfl J rfl 16070 ⟨rfl, rfl⟩ rfl ?_
            refine x_aloadn (x := 125) rfl rfl ?_
            refine z_getM (N := 92) (v := v23) 12 74 rfl f_12_771 rfl J rfl (jmo w26 rfl (jmo w25 rfl (jmw w24))) ?_
            refine x_iconst (v := 0) rfl ki_0 ?_
            refine z_iast (N := 8) (l := 0) (u := 8) (w := 0) rfl hD J Sm rfl rfl rfl (by omega) jk_0 (wr_158 (fun q1 q2 q3 q4 => by omega)) rfl (fun h w27 J Sm => ?_)
            refine x_aloadn (x := 125) rfl rfl ?_
            refine z_getR (N := 92) (b := 159) 12 71 rfl f_12_135 rfl J rfl 16071 ⟨rfl, rfl⟩ rfl ?_
            refine x_aloadn (x := 125) rfl rfl ?_
            refine z_getM (N := 92) (v := v23) 12 74 rfl f_12_771 rfl J rfl (jmo w27 rfl (jmo w26 rfl (jmo w25 rfl (jmw w24)))) ?_
            refine x_iconst (v := 0) rfl ki_0 ?_
            refine z_iast (N := 8) (l := 0) (u := 8) (w := 0) rfl hD J Sm rfl rfl rfl (by omega) jk_0 (wr_159 (fun q1 q2 q3 q4 => by omega)) rfl (fun h w28 J Sm => ?_)
            refine x_aloadn (x := 125) rfl rfl ?_
            refine z_getR (N := 92) (b := 161) 12 73 rfl f_12_141 rfl J rfl 16073 ⟨rfl, rfl⟩ rfl ?_
            refine x_aloadn (x := 125) rfl rfl ?_
            refine z_getM (N := 92) (v := v23) 12 74 rfl f_12_771 rfl J rfl (jmo w28 rfl (jmo w27 rfl (jmo w26 rfl (jmo w25 rfl (jmw w24))))) ?_
            refine x_iconst (v := 0) rfl ki_0 ?_
            refine z_iast (N := 8) (l := 0) (u := 8) (w := 0) rfl hD J Sm rfl rfl rfl (by omega) jk_0 (wr_161) rfl (fun h w29 J Sm => ?_)
            refine x_vret rfl rfl ?_
            show jX m_X12_askOn 6 0 0 187 [(5, .int v16), (4, .int v11), (3, .int v5), (2, .int p0), (0, .ref 125), (1, .int a1)] [] _ 0 0 _
            exact jX.sub jsb_n (ct_X12_askOn_r125_187 hD hQ  v23 h (jr_of rfl (by omega)) (jao_of (d := p0) (u := v23) zp0 (jmo w29 rfl (jmo w28 rfl (jmo w27 rfl (jmo w26 rfl (jmo w25 rfl (jmw w24)))))) (by omega) (jeq_o w29 rfl (jeq_o w28 rfl (jeq_s w27 (jnne rfl rfl (by omega)) (jeq_o w26 rfl (jeq_o w25 rfl (jeq_o w24 rfl (jeq_c S21 rfl (jeq_o w20 rfl (jeq_o w17 rfl (jeq_c S15 rfl (jeq_c S10 rfl (jeq_c S4 rfl (jeq_w (P := fun _ => True) (fun _ _ => trivial) jeq_0))))))))))))) (jeq_o w29 rfl (jeq_s w28 (jnlt rfl rfl (by omega)) (jeq_o w27 rfl (jeq_o w26 rfl (jeq_o w25 rfl (jeq_o w24 rfl (jeq_c S21 rfl (jeq_s w20 (jnlt rfl rfl (by omega)) (jeq_o w17 rfl (jeq_c S15 rfl (jeq_c S10 rfl (jeq_c S4 rfl (jeq_w (P := fun _ => True) (fun _ _ => trivial) jeq_0))))))))))))) (jmo w29 rfl (jmo w28 rfl (jmw w27))) (jmo w29 rfl (jmw w28))) (jmo w29 rfl (jmo w28 rfl (jmo w27 rfl (jmo w26 rfl (jmo w25 rfl (jmw w24)))))) J Sm)
        ·
          refine x_aloadn (x := 125) rfl rfl ?_
          refine z_getR (N := 92) (b := 159) 12 71 rfl f_12_135 rfl J rfl 16071 ⟨rfl, rfl⟩ rfl ?_
          refine x_iloadn (x := p0) rfl rfl ?_
          refine x_iconst (v := 2) rfl ki_2 ?_
          refine z_iast (N := 8) (l := 0) (u := 8) (w := 2) rfl hD J Sm rfl rfl rfl (by omega) jk_2 (wr_159 (fun q1 q2 q3 q4 => by omega)) rfl (fun h w30 J Sm => ?_)
          refine x_aloadn (x := 125) rfl rfl ?_
          refine x_iload (x := v11) rfl rfl ?_
          refine x_aloadn (x := 125) rfl rfl ?_
          refine x_iloadn (x := v5) rfl rfl ?_
          refine x_inv (N := m_X12_dayAt) (As := [.int v5]) (b := 125) (st := [.int v11, .ref 125]) (dx9 := 3) (mc := 0) (ms := 0) (host := "") 12 rfl t_X12_dayAt ⟨Or.inl q_12_347, i_X12_dayAt.1, i_X12_dayAt.2⟩ ⟨by decide, rfl⟩ (congrArg Prod.fst (J.1.1 125 (12, 92) rfl)) rfl (by decide) rfl rfl ⟨by decide, by decide⟩ (sf_X12_dayAt_r125 (jr_of rfl (by omega)) hD J  (fun v32 h ev32 J S31 => ?_))
          have Sm := jSm_tr rfl Sm S31
          show jX m_X12_askOn 6 0 0 157 [(5, .int v16), (4, .int v11), (3, .int v5), (2, .int p0), (0, .ref 125), (1, .int a1)] [.int v32, .int v11, .ref 125] _ 0 0 _
          refine x_inv (N := m_X12_ask) (As := [.int v11, .int v32]) (b := 125) (st := []) (dx9 := 5) (mc := 0) (ms := 0) (host := "") 12 rfl t_X12_ask ⟨Or.inl q_12_780, i_X12_ask.1, i_X12_ask.2⟩ ⟨by decide, rfl⟩ (congrArg Prod.fst (J.1.1 125 (12, 92) rfl)) rfl (by decide) rfl rfl ⟨by decide, by decide⟩ (jC.of rfl k_X12_ask rfl ?_)
          show jX m_X12_ask 5 0 0 0 [(0, .ref 125), (1, .int v11), (2, .int v32)] [] _ 0 0 _
          refine x_aloadn (x := 125) rfl rfl ?_
          refine x_dup rfl rfl ?_
          refine z_getM (N := 92) (v := p0) 12 74 rfl f_12_771 rfl J rfl (jmc S31 rfl (jmo w30 rfl (jmo w17 rfl (jmc S15 rfl (jmc S10 rfl (jmc S4 rfl zp0)))))) ?_
          refine x_iconst (v := 1) rfl ki_1 ?_
          refine z_iadd rfl rfl jk_1 (by omega) (fun v33 ev33 => ?_)
          refine z_putI (N := 92) (w := v33.toInt) 12 74 rfl f_12_771 rfl (jfin_no TX12 RX12 92 rfl rfl) hD J Sm rfl rfl rfl (pw_125_74 (by omega)) rfl (fun h w34 J Sm => ?_)
          refine x_aloadn (x := 125) rfl rfl ?_
          refine z_getR (N := 92) (b := 156) 12 68 rfl f_12_126 rfl J rfl 16068 ⟨rfl, rfl⟩ rfl ?_
          refine x_aloadn (x := 125) rfl rfl ?_
          refine z_getM (N := 92) (v := v33) 12 74 rfl f_12_771 rfl J rfl (jmw w34) ?_
          refine x_iloadn (x := v11) rfl rfl ?_
          refine z_iast (N := 8) (l := 0) (u := 8) (w := v11.toInt) rfl hD J Sm rfl rfl rfl (by omega) rfl (wr_156 (fun q1 q2 q3 q4 => by omega)) rfl (fun h w35 J Sm => ?_)
          refine x_aloadn (x := 125) rfl rfl ?_
          refine z_getR (N := 92) (b := 157) 12 69 rfl f_12_129 rfl J rfl 16069 ⟨rfl, rfl⟩ rfl ?_
          refine x_aloadn (x := 125) rfl rfl ?_
          refine z_getM (N := 92) (v := v33) 12 74 rfl f_12_771 rfl J rfl (jmo w35 rfl (jmw w34)) ?_
          refine x_iloadn (x := v32) rfl rfl ?_
          refine z_iast (N := 8) (l := 0) (u := 8) (w := v32.toInt) rfl hD J Sm rfl rfl rfl (by omega) rfl (wr_157 (fun q1 q2 q3 q4 => by omega)) rfl (fun h w36 J Sm => ?_)
          refine x_aloadn (x := 125) rfl rfl ?_
          refine z_getR (N := 92) (b := 158) 12 70 rfl f_12_132 rfl J rfl 16070 ⟨rfl, rfl⟩ rfl ?_
          refine x_aloadn (x := 125) rfl rfl ?_
          refine z_getM (N := 92) (v := v33) 12 74 rfl f_12_771 rfl J rfl (jmo w36 rfl (jmo w35 rfl (jmw w34))) ?_
          refine x_iconst (v := 0) rfl ki_0 ?_
          refine z_iast (N := 8) (l := 0) (u := 8) (w := 0) rfl hD J Sm rfl rfl rfl (by omega) jk_0 (wr_158 (fun q1 q2 q3 q4 => by omega)) rfl (fun h w37 J Sm => ?_)
          refine x_aloadn (x := 125) rfl rfl ?_
          refine z_getR (N := 92) (b := 159) 12 71 rfl f_12_135 rfl J rfl 16071 ⟨rfl, rfl⟩ rfl ?_
          refine x_aloadn (x := 125) rfl rfl ?_
          refine z_getM (N := 92) (v := v33) 12 74 rfl f_12_771 rfl J rfl (jmo w37 rfl (jmo w36 rfl (jmo w35 rfl (jmw w34)))) ?_
          refine x_iconst (v := 0) rfl ki_0 ?_
          refine z_iast (N := 8) (l := 0) (u := 8) (w := 0) rfl hD J Sm rfl rfl rfl (by omega) jk_0 (wr_159 (fun q1 q2 q3 q4 => by omega)) rfl (fun h w38 J Sm => ?_)
          refine x_aloadn (x := 125) rfl rfl ?_
          refine z_getR (N := 92) (b := 161) 12 73 rfl f_12_141 rfl J rfl 16073 ⟨rfl, rfl⟩ rfl ?_
          refine x_aloadn (x := 125) rfl rfl ?_
          refine z_getM (N := 92) (v := v33) 12 74 rfl f_12_771 rfl J rfl (jmo w38 rfl (jmo w37 rfl (jmo w36 rfl (jmo w35 rfl (jmw w34))))) ?_
          refine x_iconst (v := 0) rfl ki_0 ?_
          refine z_iast (N := 8) (l := 0) (u := 8) (w := 0) rfl hD J Sm rfl rfl rfl (by omega) jk_0 (wr_161) rfl (fun h w39 J Sm => ?_)
          refine x_vret rfl rfl ?_
          show jX m_X12_askOn 6 0 0 160 [(5, .int v16), (4, .int v11), (3, .int v5), (2, .int p0), (0, .ref 125), (1, .int a1)] [] _ 0 0 _
          refine x_goto (tgt := 187) rfl rfl ?_
          exact jX.sub jsb_n (ct_X12_askOn_r125_187 hD hQ  v33 h (jr_of rfl (by omega)) (jao_of (d := p0) (u := v33) zp0 (jmo w39 rfl (jmo w38 rfl (jmo w37 rfl (jmo w36 rfl (jmo w35 rfl (jmw w34)))))) (by omega) (jeq_o w39 rfl (jeq_o w38 rfl (jeq_s w37 (jnne rfl rfl (by omega)) (jeq_o w36 rfl (jeq_o w35 rfl (jeq_o w34 rfl (jeq_c S31 rfl (jeq_o w30 rfl (jeq_o w17 rfl (jeq_c S15 rfl (jeq_c S10 rfl (jeq_c S4 rfl (jeq_w (P := fun _ => True) (fun _ _ => trivial) jeq_0))))))))))))) (jeq_o w39 rfl (jeq_s w38 (jnlt rfl rfl (by omega)) (jeq_o w37 rfl (jeq_o w36 rfl (jeq_o w35 rfl (jeq_o w34 rfl (jeq_c S31 rfl (jeq_s w30 (jnlt rfl rfl (by omega)) (jeq_o w17 rfl (jeq_c S15 rfl (jeq_c S10 rfl (jeq_c S4 rfl (jeq_w (P := fun _ => True) (fun _ _ => trivial) jeq_0))))))))))))) (jmo w39 rfl (jmo w38 rfl (jmw w37))) (jmo w39 rfl (jmw w38))) (jmo w39 rfl (jmo w38 rfl (jmo w37 rfl (jmo w36 rfl (jmo w35 rfl (jmw w34)))))) J Sm)
      ·
        refine x_vret rfl rfl ?_
        exact hQ _ J Sm _ (jmc S4 rfl zp0) (by omega) (jao_id zp0 (jmc S4 rfl zp0) (jeq_c S4 rfl jeq_0) (jeq_c S4 rfl jeq_0))
    ·
      refine x_aloadn (x := 125) rfl rfl ?_
      refine x_aloadn (x := 125) rfl rfl ?_
      refine z_getR (N := 92) (b := 156) 12 68 rfl f_12_126 rfl J rfl 16068 ⟨rfl, rfl⟩ rfl ?_
      refine x_iloadn (x := p0) rfl rfl ?_
      refine z_iald (N := 8) rfl J rfl sg_156_0_8_1_0_1 rfl (by omega) (fun v40 qv40 ev40 => ?_)
      refine x_iconst (v := 4) rfl ki_4 ?_
      refine x_aloadn (x := 125) rfl rfl ?_
      refine z_getR (N := 92) (b := 157) 12 69 rfl f_12_129 rfl J rfl 16069 ⟨rfl, rfl⟩ rfl ?_
      refine x_iloadn (x := p0) rfl rfl ?_
      refine z_iald (N := 8) rfl J rfl sg_157_0_8_1_0_1 rfl (by omega) (fun v41 qv41 ev41 => ?_)
      refine x_inv (N := m_X12_mentionOf) (As := [.int v40, .int 4, .int v41]) (b := 125) (st := []) (dx9 := 4) (mc := 0) (ms := 0) (host := "") 12 rfl t_X12_mentionOf ⟨Or.inl q_12_405, i_X12_mentionOf.1, i_X12_mentionOf.2⟩ ⟨by decide, rfl⟩ (congrArg Prod.fst (J.1.1 125 (12, 92) rfl)) rfl (by decide) rfl rfl ⟨by decide, by decide⟩ (sf_X12_mentionOf_r125 (jr_of rfl (by omega)) (jr_of jk_4 (by omega)) (jr_of rfl (by omega)) hD J  (fun v43 h ev43 J S42 => ?_))
      have Sm := jSm_tr rfl Sm S42
      show jX m_X12_askOn 6 0 0 34 [(2, .int p0), (0, .ref 125), (1, .int a1)] [.int v43] _ 0 0 _
      refine x_istoren (lsx9 := [(3, .int v43), (2, .int p0), (0, .ref 125), (1, .int a1)]) rfl rfl rfl ?_
      refine x_iloadn (x := v43) rfl rfl ?_
      refine x_iconst (v := (-1)) rfl ki_m1 ?_
      refine x_icne (tgt := 44) rfl rfl (ti_ne rfl jk_m1 ⟨fun c44 => ?_, fun c44 => ?_⟩)
      ·
        refine x_aloadn (x := 125) rfl rfl ?_
        refine x_iloadn (x := v43) rfl rfl ?_
        refine x_iconst (v := 3) rfl ki_3 ?_
        refine z_idiv rfl rfl jk_3 (by omega) (by omega) (fun v45 ev45 => ?_)
        refine x_iconst (v := 3) rfl ki_3 ?_
        refine z_imul rfl rfl jk_3 (by omega) (fun v46 ev46 => ?_)
        refine x_inv (N := m_X12_named) (As := [.int v46]) (b := 125) (st := []) (dx9 := 5) (mc := 0) (ms := 0) (host := "") 12 rfl t_X12_named ⟨Or.inl q_12_409, i_X12_named.1, i_X12_named.2⟩ ⟨by decide, rfl⟩ (congrArg Prod.fst (J.1.1 125 (12, 92) rfl)) rfl (by decide) rfl rfl ⟨by decide, by decide⟩ (sf_X12_named_r125 (jr_of rfl (by omega)) hD J  (fun v48 h ev48 J S47 => ?_))
        have Sm := jSm_tr rfl Sm S47
        show jX m_X12_askOn 6 0 0 53 [(3, .int v43), (2, .int p0), (0, .ref 125), (1, .int a1)] [.int v48] _ 0 0 _
        exact jX.sub (jsb_c rfl (jsb_c rfl jsb_n)) (ct_X12_askOn_r125_53 hD hQ  p0 v48 p0 h (jr_of rfl (by omega)) (jr_of rfl (by omega)) (jr_of rfl (by omega)) ⟨zp0, (jmc S47 rfl (jmc S42 rfl zp0)), (jeq_c S47 rfl (jeq_c S42 rfl jeq_0)), (jeq_c S47 rfl (jeq_c S42 rfl jeq_0))⟩ (by omega) (jmc S47 rfl (jmc S42 rfl zp0)) J Sm)
      ·
        refine x_iconst (v := (-1)) rfl ki_m1 ?_
        refine x_goto (tgt := 53) rfl rfl ?_
        exact jX.sub (jsb_c rfl (jsb_c rfl jsb_n)) (ct_X12_askOn_r125_100053 hD hQ  p0 p0 h (jr_of rfl (by omega)) (jr_of rfl (by omega)) ⟨zp0, (jmc S42 rfl zp0), (jeq_c S42 rfl jeq_0), (jeq_c S42 rfl jeq_0)⟩ (by omega) (jmc S42 rfl zp0) J Sm)
  ·
    refine x_vret rfl rfl ?_
    exact hQ _ J Sm _ zp0 (by omega) (jao_id zp0 zp0 jeq_0 jeq_0)
def fp_X12_back_r125 : jFp := [(125, 0, 1), (125, 1, 2), (125, 8, 9), (125, 36, 37), (126, 0, 50660), (129, 0, 1600)]
set_option maxRecDepth 100000 in
set_option maxHeartbeats 4000000 in
theorem ct_X12_back_r125_72 {Dy : jH → Prop} {h0 : jH} {Q : Option Value → jH → Prop} (hB : jDb Dy) (hD : jDk Dy) (hQ : ∀ (v : Int32) hx9, jJ jSgM Dy hx9 → jSm fp_X12_back_r125 h0 hx9 → ∀ u0 u1 u2 u3 u4 : Int32, jiv hx9 126 (16 : Int32).toNatClampNeg = u0 → jiv hx9 126 (0 : Int32).toNatClampNeg = u1 → jiv hx9 126 (4 : Int32).toNatClampNeg = u2 → jiv hx9 126 (5 : Int32).toNatClampNeg = u3 → jiv hx9 126 (7 : Int32).toNatClampNeg = u4 → u0.toInt = u1.toInt + u2.toInt + u3.toInt + u4.toInt → ∀ u5 u6 : Int32, jiv hx9 126 (9 : Int32).toNatClampNeg = u5 → jiv hx9 126 (7 : Int32).toNatClampNeg = u6 → u5.toInt ≤ u6.toInt → Q (some (.int v)) hx9) : ∀ r : Nat, ∀ (l1 : Int32) (l2 : Int32) (g0 : Int32) (g1 : Int32) (g2 : Int32) (g3 : Int32) (g4 : Int32) (g5 : Int32) (h : jH), 1600 - l2.toInt < (r : Int) → 0 ≤ l1.toInt ∧ l1.toInt ≤ 3 → 0 ≤ l2.toInt ∧ l2.toInt ≤ 1600 → 0 ≤ g0.toInt ∧ g0.toInt ≤ 200 → 0 ≤ g1.toInt ∧ g1.toInt ≤ 370 → 0 ≤ g2.toInt ∧ g2.toInt ≤ 30 → 0 ≤ g3.toInt ∧ g3.toInt ≤ 100 → 0 ≤ g4.toInt ∧ g4.toInt ≤ 40 → 0 ≤ g5.toInt ∧ g5.toInt ≤ 40 → g1.toInt = g0.toInt + g2.toInt + g3.toInt + g4.toInt → g5.toInt ≤ g4.toInt → jiv h 126 (0 : Int32).toNatClampNeg = g0 → jiv h 126 (16 : Int32).toNatClampNeg = g1 → jiv h 126 (4 : Int32).toNatClampNeg = g2 → jiv h 126 (5 : Int32).toNatClampNeg = g3 → jiv h 126 (7 : Int32).toNatClampNeg = g4 → jiv h 126 (9 : Int32).toNatClampNeg = g5 → jJ jSgM Dy h → jSm fp_X12_back_r125 h0 h → jX m_X12_back 2 0 0 72 [(0, .ref 125), (1, .int l1), (2, .int l2)] [] h 0 0 Q := by
  intro r
  induction r with
  | zero =>
    intro l1 l2 g0 g1 g2 g3 g4 g5 h hm y0 y1 y2 y3 y4 y5 y6 y7 y8 y9 z0 z1 z2 z3 z4 z5  J Sm
    exfalso
    omega
  | succ r ih =>
    intro l1 l2 g0 g1 g2 g3 g4 g5 h hm y0 y1 y2 y3 y4 y5 y6 y7 y8 y9 z0 z1 z2 z3 z4 z5  J Sm
    refine x_iloadn (x := l2) rfl rfl ?_
    refine x_sipush (v := 1600) rfl ks_1600 ?_
    refine x_icge (tgt := 103) rfl rfl (ti_ge rfl jk_1600 ⟨fun c1 => ?_, fun c1 => ?_⟩)
    ·
      refine x_aloadn (x := 125) rfl rfl ?_
      refine x_iconst (v := 0) rfl ki_0 ?_
      refine z_putI (N := 92) (w := 0) 12 8 rfl f_12_201 rfl (jfin_no TX12 RX12 92 rfl rfl) hD J Sm rfl rfl jk_0 (pw_125_8 (by omega)) rfl (fun h w2 J Sm => ?_)
      refine x_aloadn (x := 125) rfl rfl ?_
      refine x_iconst (v := 0) rfl ki_0 ?_
      refine z_putI (N := 92) (w := 0) 12 36 rfl f_12_204 rfl (jfin_no TX12 RX12 92 rfl rfl) hD J Sm rfl rfl jk_0 (pw_125_36 (by omega)) rfl (fun h w3 J Sm => ?_)
      refine x_aloadn (x := 125) rfl rfl ?_
      refine x_iconst (v := 0) rfl ki_0 ?_
      refine x_inv (N := m_X12_told) (As := [.int 0]) (b := 125) (st := []) (dx9 := 1) (mc := 0) (ms := 0) (host := "") 12 rfl t_X12_told ⟨Or.inl q_12_197, i_X12_told.1, i_X12_told.2⟩ ⟨by decide, rfl⟩ (congrArg Prod.fst (J.1.1 125 (12, 92) rfl)) rfl (by decide) rfl rfl ⟨by decide, by decide⟩ (sf_X12_told_r125  hD J  (fun v5 h J S4 => ?_))
      have ev5 := jfull v5
      have Sm := jSm_tr rfl Sm S4
      show jX m_X12_back 2 0 0 118 [(0, .ref 125), (1, .int l1), (2, .int l2)] [.int v5] _ 0 0 _
      refine x_iret rfl rfl ?_
      exact hQ _ _ J Sm _ _ _ _ _ (jmc S4 rfl (jmo w3 rfl (jmo w2 rfl z1))) (jmc S4 rfl (jmo w3 rfl (jmo w2 rfl z0))) (jmc S4 rfl (jmo w3 rfl (jmo w2 rfl z2))) (jmc S4 rfl (jmo w3 rfl (jmo w2 rfl z3))) (jmc S4 rfl (jmo w3 rfl (jmo w2 rfl z4))) (by omega) _ _ (jmc S4 rfl (jmo w3 rfl (jmo w2 rfl z5))) (jmc S4 rfl (jmo w3 rfl (jmo w2 rfl z4))) (by omega)
    ·
      refine x_aloadn (x := 125) rfl rfl ?_
      refine z_getR (N := 92) (b := 129) 12 5 rfl f_12_22 rfl J rfl 16005 ⟨rfl, rfl⟩ rfl ?_
      refine x_iloadn (x := l2) rfl rfl ?_
      refine x_aloadn (x := 125) rfl rfl ?_
      refine z_getR (N := 92) (b := 130) 12 6 rfl f_12_26 rfl J rfl 16006 ⟨rfl, rfl⟩ rfl ?_
      refine x_sipush (v := 1600) rfl ks_1600 ?_
      refine x_iloadn (x := l1) rfl rfl ?_
      refine z_imul rfl jk_1600 rfl (by omega) (fun v6 ev6 => ?_)
      refine x_iloadn (x := l2) rfl rfl ?_
      refine z_iadd rfl rfl rfl (by omega) (fun v7 ev7 => ?_)
      refine z_lald0 (N := 6400) rfl J rfl rfl (by omega) (fun v8 => ?_)
      have ev8 := jfullL v8
      refine z_last (N := 1600) (l := 0) (u := 1600) rfl hD J Sm rfl rfl rfl (by omega) rfl (fun h w9 J Sm => ?_)
      refine z_iinc (x := l2) (lsx9 := fun v10 => [(2, .int v10), (0, .ref 125), (1, .int l1)]) rfl rfl rfl jko_1 (by omega) rfl (fun _ => rfl) (fun v10 ev10 => ?_)
      refine x_goto (tgt := 72) rfl rfl ?_
      exact jX.sub (jsb_c rfl (jsb_c rfl (jsb_c rfl jsb_n))) (ih l1 v10 g0 g1 g2 g3 g4 g5 h (by omega) (jr_of rfl (by omega)) (jr_of rfl (by omega)) (jr_of rfl (by omega)) (jr_of rfl (by omega)) (jr_of rfl (by omega)) (jr_of rfl (by omega)) (jr_of rfl (by omega)) (jr_of rfl (by omega)) (by omega) (by omega) (jml w9 z0) (jml w9 z1) (jml w9 z2) (jml w9 z3) (jml w9 z4) (jml w9 z5) J Sm)
set_option maxRecDepth 100000 in
set_option maxHeartbeats 4000000 in
theorem ct_X12_back_r125_41 {Dy : jH → Prop} {h0 : jH} {Q : Option Value → jH → Prop} (hB : jDb Dy) (hD : jDk Dy) (hQ : ∀ (v : Int32) hx9, jJ jSgM Dy hx9 → jSm fp_X12_back_r125 h0 hx9 → ∀ u0 u1 u2 u3 u4 : Int32, jiv hx9 126 (16 : Int32).toNatClampNeg = u0 → jiv hx9 126 (0 : Int32).toNatClampNeg = u1 → jiv hx9 126 (4 : Int32).toNatClampNeg = u2 → jiv hx9 126 (5 : Int32).toNatClampNeg = u3 → jiv hx9 126 (7 : Int32).toNatClampNeg = u4 → u0.toInt = u1.toInt + u2.toInt + u3.toInt + u4.toInt → ∀ u5 u6 : Int32, jiv hx9 126 (9 : Int32).toNatClampNeg = u5 → jiv hx9 126 (7 : Int32).toNatClampNeg = u6 → u5.toInt ≤ u6.toInt → Q (some (.int v)) hx9) : ∀ r : Nat, ∀ (l1 : Int32) (l2 : Int32) (g0 : Int32) (g1 : Int32) (g2 : Int32) (g3 : Int32) (g4 : Int32) (g5 : Int32) (h : jH), 0 - l2.toInt < (r : Int) → 0 ≤ l1.toInt ∧ l1.toInt ≤ 3 → 0 ≤ l2.toInt ∧ l2.toInt ≤ 0 → 0 ≤ g0.toInt ∧ g0.toInt ≤ 200 → 0 ≤ g1.toInt ∧ g1.toInt ≤ 370 → 0 ≤ g2.toInt ∧ g2.toInt ≤ 30 → 0 ≤ g3.toInt ∧ g3.toInt ≤ 100 → 0 ≤ g4.toInt ∧ g4.toInt ≤ 40 → 0 ≤ g5.toInt ∧ g5.toInt ≤ 40 → g1.toInt = g0.toInt + g2.toInt + g3.toInt + g4.toInt → g5.toInt ≤ g4.toInt → jiv h 126 (0 : Int32).toNatClampNeg = g0 → jiv h 126 (16 : Int32).toNatClampNeg = g1 → jiv h 126 (4 : Int32).toNatClampNeg = g2 → jiv h 126 (5 : Int32).toNatClampNeg = g3 → jiv h 126 (7 : Int32).toNatClampNeg = g4 → jiv h 126 (9 : Int32).toNatClampNeg = g5 → jJ jSgM Dy h → jSm fp_X12_back_r125 h0 h → jX m_X12_back 2 0 0 41 [(0, .ref 125), (1, .int l1), (2, .int l2)] [] h 0 0 Q := by
  intro r
  induction r with
  | zero =>
    intro l1 l2 g0 g1 g2 g3 g4 g5 h hm y0 y1 y2 y3 y4 y5 y6 y7 y8 y9 z0 z1 z2 z3 z4 z5  J Sm
    exfalso
    omega
  | succ r ih =>
    intro l1 l2 g0 g1 g2 g3 g4 g5 h hm y0 y1 y2 y3 y4 y5 y6 y7 y8 y9 z0 z1 z2 z3 z4 z5  J Sm
    refine jX.sub (jsb_c rfl (jsb_c rfl (jsb_c rfl jsb_n))) (bk_loop hD hB  J Sm rfl (by omega) (by omega) (fun v2 h J Sm S1 R3 => ?_))
    have ev2 := jfull v2
    obtain ⟨u4, qu4⟩ : ∃ v : Int32, jiv h 126 (16 : Int32).toNatClampNeg = v := ⟨_, rfl⟩
    have eu4 := (show 0 ≤ u4.toInt ∧ u4.toInt ≤ 370 from qu4 ▸ jrg_c J sg_126_16_17_1_0_1 jk_16 (by omega))
    obtain ⟨u5, qu5⟩ : ∃ v : Int32, jiv h 126 (0 : Int32).toNatClampNeg = v := ⟨_, rfl⟩
    have eu5 := (show 0 ≤ u5.toInt ∧ u5.toInt ≤ 200 from qu5 ▸ jrg_c J sg_126_0_1_1_0_1 jk_0 (by omega))
    obtain ⟨u6, qu6⟩ : ∃ v : Int32, jiv h 126 (4 : Int32).toNatClampNeg = v := ⟨_, rfl⟩
    have eu6 := (show 0 ≤ u6.toInt ∧ u6.toInt ≤ 30 from qu6 ▸ jrg_c J sg_126_4_5_1_0_1 jk_4 (by omega))
    obtain ⟨u7, qu7⟩ : ∃ v : Int32, jiv h 126 (5 : Int32).toNatClampNeg = v := ⟨_, rfl⟩
    have eu7 := (show 0 ≤ u7.toInt ∧ u7.toInt ≤ 100 from qu7 ▸ jrg_c J sg_126_5_6_1_0_1 jk_5 (by omega))
    obtain ⟨u8, qu8⟩ : ∃ v : Int32, jiv h 126 (7 : Int32).toNatClampNeg = v := ⟨_, rfl⟩
    have eu8 := (show 0 ≤ u8.toInt ∧ u8.toInt ≤ 40 from qu8 ▸ jrg_c J sg_126_7_8_1_0_1 jk_7 (by omega))
    have rr2 : u4.toInt = u5.toInt + u6.toInt + u7.toInt + u8.toInt := by rw [← qu4, ← qu5, ← qu6, ← qu7, ← qu8]; exact R3.1
    obtain ⟨u9, qu9⟩ : ∃ v : Int32, jiv h 126 (9 : Int32).toNatClampNeg = v := ⟨_, rfl⟩
    have eu9 := (show 0 ≤ u9.toInt ∧ u9.toInt ≤ 40 from qu9 ▸ jrg_c J sg_126_9_10_1_0_1 jk_9 (by omega))
    have rr3 : u9.toInt ≤ u8.toInt := by rw [← qu9, ← qu8]; exact R3.2
    refine x_iconst (v := 0) rfl ki_0 ?_
    refine x_istoren (lsx9 := [(2, .int 0), (0, .ref 125), (1, .int l1)]) rfl rfl rfl ?_
    exact jX.sub (jsb_c rfl (jsb_c rfl (jsb_c rfl jsb_n))) (ct_X12_back_r125_72 hB hD hQ  1601 l1 0 u5 u4 u6 u7 u8 u9 h (by have := jk_0; omega) (jr_of rfl (by omega)) (jr_of jk_0 (by omega)) (jr_of rfl (by omega)) (jr_of rfl (by omega)) (jr_of rfl (by omega)) (jr_of rfl (by omega)) (jr_of rfl (by omega)) (jr_of rfl (by omega)) (by omega) (by omega) qu5 qu4 qu6 qu7 qu8 qu9 J Sm)
set_option maxRecDepth 100000 in
set_option maxHeartbeats 4000000 in
theorem sf_X12_back_r125 {Dy : jH → Prop} {h : jH} {Q : Option Value → jH → Prop} {a1 : Int32} (hB : jDb Dy) (hD : jDk Dy) (J : jJ jSgM Dy h) {p0 p1 p2 p3 p4 : Int32} {p5 p6 : Int32} (zp0 : jiv h 126 (16 : Int32).toNatClampNeg = p0) (zp1 : jiv h 126 (0 : Int32).toNatClampNeg = p1) (zp2 : jiv h 126 (4 : Int32).toNatClampNeg = p2) (zp3 : jiv h 126 (5 : Int32).toNatClampNeg = p3) (zp4 : jiv h 126 (7 : Int32).toNatClampNeg = p4) (rl_p0 : p0.toInt = p1.toInt + p2.toInt + p3.toInt + p4.toInt) (zp5 : jiv h 126 (9 : Int32).toNatClampNeg = p5) (zp6 : jiv h 126 (7 : Int32).toNatClampNeg = p6) (rl_p5 : p5.toInt ≤ p6.toInt) (hQ : ∀ (v : Int32) hx9, jJ jSgM Dy hx9 → jSm fp_X12_back_r125 h hx9 → ∀ u0 u1 u2 u3 u4 : Int32, jiv hx9 126 (16 : Int32).toNatClampNeg = u0 → jiv hx9 126 (0 : Int32).toNatClampNeg = u1 → jiv hx9 126 (4 : Int32).toNatClampNeg = u2 → jiv hx9 126 (5 : Int32).toNatClampNeg = u3 → jiv hx9 126 (7 : Int32).toNatClampNeg = u4 → u0.toInt = u1.toInt + u2.toInt + u3.toInt + u4.toInt → ∀ u5 u6 : Int32, jiv hx9 126 (9 : Int32).toNatClampNeg = u5 → jiv hx9 126 (7 : Int32).toNatClampNeg = u6 → u5.toInt ≤ u6.toInt → Q (some (.int v)) hx9) : jC m_X12_back 2 0 0 [.ref 125, .int a1] h Q := by
  refine jC.of rfl k_X12_back rfl ?_
  have Sm := jSm_rf fp_X12_back_r125 h
  have ep0 := (show 0 ≤ p0.toInt ∧ p0.toInt ≤ 370 from zp0 ▸ jrg_c J sg_126_16_17_1_0_1 jk_16 (by omega))
  have ep1 := (show 0 ≤ p1.toInt ∧ p1.toInt ≤ 200 from zp1 ▸ jrg_c J sg_126_0_1_1_0_1 jk_0 (by omega))
  have ep2 := (show 0 ≤ p2.toInt ∧ p2.toInt ≤ 30 from zp2 ▸ jrg_c J sg_126_4_5_1_0_1 jk_4 (by omega))
  have ep3 := (show 0 ≤ p3.toInt ∧ p3.toInt ≤ 100 from zp3 ▸ jrg_c J sg_126_5_6_1_0_1 jk_5 (by omega))
  have ep4 := (show 0 ≤ p4.toInt ∧ p4.toInt ≤ 40 from zp4 ▸ jrg_c J sg_126_7_8_1_0_1 jk_7 (by omega))
  have ep5 := (show 0 ≤ p5.toInt ∧ p5.toInt ≤ 40 from zp5 ▸ jrg_c J sg_126_9_10_1_0_1 jk_9 (by omega))
  have ep6 := (show 0 ≤ p6.toInt ∧ p6.toInt ≤ 40 from zp6 ▸ jrg_c J sg_126_7_8_1_0_1 jk_7 (by omega))
  obtain rfl : p4 = p6 := zp4.symm.trans zp6
  skip
  have ea1 := jfull a1
  show jX m_X12_back 2 0 0 0 [(0, .ref 125), (1, .int a1)] [] _ 0 0 _
  refine x_aloadn (x := 125) rfl rfl ?_
  refine x_iconst (v := 0) rfl ki_0 ?_
  refine z_putI (N := 92) (w := 0) 12 0 rfl f_12_180 rfl (jfin_no TX12 RX12 92 rfl rfl) hD J Sm rfl rfl jk_0 (pw_125_0 (by omega)) rfl (fun h w1 J Sm => ?_)
  refine x_iloadn (x := a1) rfl rfl ?_
  refine z_i2l rfl rfl (fun v2 ev2 => ?_)
  refine x_lconst (v := 0) rfl kl_0 ?_
  refine x_ldc2 (v := 3) rfl z_12_195 ?_
  refine x_inst (N := m_X12_in) (As := [.long v2, .long 0, .long 3]) (st := []) (dx9 := 1) (mc := 0) (ms := 0) (host := "") rfl t_X12_in ⟨Or.inl q_12_188, s_X12_in⟩ rfl (by decide) rfl rfl ⟨by decide, by decide⟩ (zc_X12_in rfl jkl_0 jkl_3 (fun v3 ev3 => ?_))
  show jX m_X12_back 2 0 0 14 [(0, .ref 125), (1, .int a1)] [.int v3] _ 0 0 _
  refine x_ifne (tgt := 23) rfl rfl (ti_ne rfl jk_0 ⟨fun c4 => ?_, fun c4 => ?_⟩)
  ·
    refine x_aloadn (x := 125) rfl rfl ?_
    refine z_getR (N := 92) (b := 128) 12 4 rfl f_12_18 rfl J rfl 16004 ⟨rfl, rfl⟩ rfl ?_
    refine x_iloadn (x := a1) rfl rfl ?_
    refine z_zald (N := 4) rfl J rfl sg_128_0_4_1_0_1 rfl (by omega) (fun v5 qv5 ev5 => ?_)
    refine x_ifne (tgt := 39) rfl rfl (ti_ne rfl jk_0 ⟨fun c6 => ?_, fun c6 => ?_⟩)
    ·
      refine x_iconst (v := 0) rfl ki_0 ?_
      refine x_istoren (lsx9 := [(2, .int 0), (0, .ref 125), (1, .int a1)]) rfl rfl rfl ?_
      exact jX.sub (jsb_c rfl (jsb_c rfl (jsb_c rfl jsb_n))) (ct_X12_back_r125_41 hB hD hQ  1 a1 0 p1 p0 p2 p3 p4 p5 h (by have := jk_0; omega) (jr_of rfl (by omega)) (jr_of jk_0 (by omega)) (jr_of rfl (by omega)) (jr_of rfl (by omega)) (jr_of rfl (by omega)) (jr_of rfl (by omega)) (jr_of rfl (by omega)) (jr_of rfl (by omega)) (by omega) (by omega) (jmo w1 rfl zp1) (jmo w1 rfl zp0) (jmo w1 rfl zp2) (jmo w1 rfl zp3) (jmo w1 rfl zp4) (jmo w1 rfl zp5) J Sm)
    ·
      refine x_aloadn (x := 125) rfl rfl ?_
      refine x_bipush (v := (-2)) rfl kb_m2 ?_
      refine x_inv (N := m_X12_told) (As := [.int (-2)]) (b := 125) (st := []) (dx9 := 1) (mc := 0) (ms := 0) (host := "") 12 rfl t_X12_told ⟨Or.inl q_12_197, i_X12_told.1, i_X12_told.2⟩ ⟨by decide, rfl⟩ (congrArg Prod.fst (J.1.1 125 (12, 92) rfl)) rfl (by decide) rfl rfl ⟨by decide, by decide⟩ (sf_X12_told_r125  hD J  (fun v8 h J S7 => ?_))
      have ev8 := jfull v8
      have Sm := jSm_tr rfl Sm S7
      show jX m_X12_back 2 0 0 38 [(0, .ref 125), (1, .int a1)] [.int v8] _ 0 0 _
      refine x_iret rfl rfl ?_
      exact hQ _ _ J Sm _ _ _ _ _ (jmc S7 rfl (jmo w1 rfl zp0)) (jmc S7 rfl (jmo w1 rfl zp1)) (jmc S7 rfl (jmo w1 rfl zp2)) (jmc S7 rfl (jmo w1 rfl zp3)) (jmc S7 rfl (jmo w1 rfl zp4)) (by omega) _ _ (jmc S7 rfl (jmo w1 rfl zp5)) (jmc S7 rfl (jmo w1 rfl zp4)) (by omega)
  ·
    refine x_aloadn (x := 125) rfl rfl ?_
    refine x_iconst (v := (-1)) rfl ki_m1 ?_
    refine x_inv (N := m_X12_told) (As := [.int (-1)]) (b := 125) (st := []) (dx9 := 1) (mc := 0) (ms := 0) (host := "") 12 rfl t_X12_told ⟨Or.inl q_12_197, i_X12_told.1, i_X12_told.2⟩ ⟨by decide, rfl⟩ (congrArg Prod.fst (J.1.1 125 (12, 92) rfl)) rfl (by decide) rfl rfl ⟨by decide, by decide⟩ (sf_X12_told_r125  hD J  (fun v10 h J S9 => ?_))
    have ev10 := jfull v10
    have Sm := jSm_tr rfl Sm S9
    show jX m_X12_back 2 0 0 22 [(0, .ref 125), (1, .int a1)] [.int v10] _ 0 0 _
    refine x_iret rfl rfl ?_
    exact hQ _ _ J Sm _ _ _ _ _ (jmc S9 rfl (jmo w1 rfl zp0)) (jmc S9 rfl (jmo w1 rfl zp1)) (jmc S9 rfl (jmo w1 rfl zp2)) (jmc S9 rfl (jmo w1 rfl zp3)) (jmc S9 rfl (jmo w1 rfl zp4)) (by omega) _ _ (jmc S9 rfl (jmo w1 rfl zp5)) (jmc S9 rfl (jmo w1 rfl zp4)) (by omega)
def fp_X12_badge_r125 : jFp := [(125, 0, 1), (125, 28, 29), (125, 31, 32), (125, 32, 33), (125, 33, 34), (125, 34, 35), (125, 35, 36), (125, 57, 58), (125, 61, 62), (125, 62, 63), (125, 63, 64), (125, 64, 65), (125, 65, 66), (125, 66, 67), (137, 0, 80), (138, 0, 2), (139, 0, 600), (140, 0, 200), (152, 0, 360), (153, 0, 30), (154, 0, 400), (155, 0, 360), (162, 0, 40), (163, 0, 40), (164, 0, 40)]
set_option maxRecDepth 100000 in
set_option maxHeartbeats 4000000 in
theorem ct_X12_badge_r125_26 {Dy : jH → Prop} {h0 : jH} {Q : Option Value → jH → Prop} (hD : jDk Dy) (hQ : ∀ (v : Int32) hx9, (-1) ≤ v.toInt ∧ v.toInt ≤ 1 → jJ jSgM Dy hx9 → jSm fp_X12_badge_r125 h0 hx9 → Q (some (.int v)) hx9) : ∀ (h : jH), jJ jSgM Dy h → jSm fp_X12_badge_r125 h0 h → jX m_X12_badge 12 0 0 26 [] [] h 0 0 Q := by
  intro  h    J Sm
  refine x_iconst (v := (-1)) rfl ki_m1 ?_
  refine x_iret rfl rfl ?_
  exact hQ _ _ (jr_of jk_m1 (by omega)) J Sm
set_option maxRecDepth 100000 in
set_option maxHeartbeats 4000000 in
theorem ct_X12_badge_r125_300060 {Dy : jH → Prop} {h0 : jH} {Q : Option Value → jH → Prop} (hD : jDk Dy) (hQ : ∀ (v : Int32) hx9, (-1) ≤ v.toInt ∧ v.toInt ≤ 1 → jJ jSgM Dy hx9 → jSm fp_X12_badge_r125 h0 hx9 → Q (some (.int v)) hx9) : ∀ (h : jH), jJ jSgM Dy h → jSm fp_X12_badge_r125 h0 h → jX m_X12_badge 12 0 0 60 [] [.int 1] h 0 0 Q := by
  intro  h    J Sm
  refine x_iret rfl rfl ?_
  exact hQ _ _ (jr_of jk_1 (by omega)) J Sm
set_option maxRecDepth 100000 in
set_option maxHeartbeats 4000000 in
theorem ct_X12_badge_r125_200060 {Dy : jH → Prop} {h0 : jH} {Q : Option Value → jH → Prop} (hD : jDk Dy) (hQ : ∀ (v : Int32) hx9, (-1) ≤ v.toInt ∧ v.toInt ≤ 1 → jJ jSgM Dy hx9 → jSm fp_X12_badge_r125 h0 hx9 → Q (some (.int v)) hx9) : ∀ (h : jH), jJ jSgM Dy h → jSm fp_X12_badge_r125 h0 h → jX m_X12_badge 12 0 0 60 [] [.int 0] h 0 0 Q := by
  intro  h    J Sm
  refine x_iret rfl rfl ?_
  exact hQ _ _ (jr_of jk_0 (by omega)) J Sm
set_option maxRecDepth 100000 in
set_option maxHeartbeats 4000000 in
theorem ct_X12_badge_r125_59 {Dy : jH → Prop} {h0 : jH} {Q : Option Value → jH → Prop} (hD : jDk Dy) (hQ : ∀ (v : Int32) hx9, (-1) ≤ v.toInt ∧ v.toInt ≤ 1 → jJ jSgM Dy hx9 → jSm fp_X12_badge_r125 h0 hx9 → Q (some (.int v)) hx9) : ∀ (h : jH), jJ jSgM Dy h → jSm fp_X12_badge_r125 h0 h → jX m_X12_badge 12 0 0 59 [] [] h 0 0 Q := by
  intro  h    J Sm
  refine x_iconst (v := 0) rfl ki_0 ?_
  exact jX.sub jsb_n (ct_X12_badge_r125_200060 hD hQ  h J Sm)
set_option maxRecDepth 100000 in
set_option maxHeartbeats 4000000 in
theorem sf_X12_badge_r125 {Dy : jH → Prop} {h : jH} {Q : Option Value → jH → Prop} {a1 : Int32} {a2 : Int32} {a3 : Int32} (hD : jDk Dy) (J : jJ jSgM Dy h) (hQ : ∀ (v : Int32) hx9, (-1) ≤ v.toInt ∧ v.toInt ≤ 1 → jJ jSgM Dy hx9 → jSm fp_X12_badge_r125 h hx9 → Q (some (.int v)) hx9) : jC m_X12_badge 12 0 0 [.ref 125, .int a1, .int a2, .int a3] h Q := by
  refine jC.of rfl k_X12_badge rfl ?_
  have Sm := jSm_rf fp_X12_badge_r125 h
  have ea1 := jfull a1
  have ea2 := jfull a2
  have ea3 := jfull a3
  show jX m_X12_badge 12 0 0 0 [(0, .ref 125), (1, .int a1), (2, .int a2), (3, .int a3)] [] _ 0 0 _
  refine x_aloadn (x := 125) rfl rfl ?_
  refine x_iconst (v := 0) rfl ki_0 ?_
  refine z_putI (N := 92) (w := 0) 12 0 rfl f_12_180 rfl (jfin_no TX12 RX12 92 rfl rfl) hD J Sm rfl rfl jk_0 (pw_125_0 (by omega)) rfl (fun h w1 J Sm => ?_)
  refine x_aloadn (x := 125) rfl rfl ?_
  refine x_iloadn (x := a1) rfl rfl ?_
  refine x_iloadn (x := a3) rfl rfl ?_
  refine x_inv (N := m_X12_soulAt) (As := [.int a1, .int a3]) (b := 125) (st := []) (dx9 := 11) (mc := 0) (ms := 0) (host := "") 12 rfl t_X12_soulAt ⟨Or.inl q_12_399, i_X12_soulAt.1, i_X12_soulAt.2⟩ ⟨by decide, rfl⟩ (congrArg Prod.fst (J.1.1 125 (12, 92) rfl)) rfl (by decide) rfl rfl ⟨by decide, by decide⟩ (jC.of rfl k_X12_soulAt rfl ?_)
  show jX m_X12_soulAt 11 0 0 0 [(0, .ref 125), (1, .int a1), (2, .int a3)] [] _ 0 0 _
  refine x_aloadn (x := 125) rfl rfl ?_
  refine x_iloadn (x := a1) rfl rfl ?_
  refine x_inv (N := m_X12_isMention) (As := [.int a1]) (b := 125) (st := []) (dx9 := 10) (mc := 0) (ms := 0) (host := "") 12 rfl t_X12_isMention ⟨Or.inl q_12_322, i_X12_isMention.1, i_X12_isMention.2⟩ ⟨by decide, rfl⟩ (congrArg Prod.fst (J.1.1 125 (12, 92) rfl)) rfl (by decide) rfl rfl ⟨by decide, by decide⟩ (jC.of rfl k_X12_isMention rfl ?_)
  show jX m_X12_isMention 10 0 0 0 [(0, .ref 125), (1, .int a1)] [] _ 0 0 _
  refine x_iloadn (x := a1) rfl rfl ?_
  refine x_iflt (tgt := 34) rfl rfl (ti_lt rfl jk_0 ⟨fun c2 => ?_, fun c2 => ?_⟩)
  ·
    refine x_iconst (v := 0) rfl ki_0 ?_
    refine x_zret rfl rfl (by decide) ?_
    show jX m_X12_soulAt 11 0 0 5 [(0, .ref 125), (1, .int a1), (2, .int a3)] [.int 0] _ 0 0 _
    refine x_ifeq (tgt := 15) rfl rfl (ti_eq jk_0 jk_0 (br_t (by omega) ?_))
    refine x_iconst (v := (-1)) rfl ki_m1 ?_
    refine x_iret rfl rfl ?_
    show jX m_X12_badge 12 0 0 11 [(0, .ref 125), (1, .int a1), (2, .int a2), (3, .int a3)] [.int (-1)] _ 0 0 _
    refine x_istore (lsx9 := [(4, .int (-1)), (0, .ref 125), (1, .int a1), (2, .int a2), (3, .int a3)]) rfl rfl rfl ?_
    refine x_iload (x := (-1)) rfl rfl ?_
    refine x_iconst (v := (-1)) rfl ki_m1 ?_
    refine x_iceq (tgt := 26) rfl rfl (ti_eq jk_m1 jk_m1 (br_t (by omega) ?_))
    exact jX.sub jsb_n (ct_X12_badge_r125_26 hD hQ  h J Sm)
  ·
    refine x_aloadn (x := 125) rfl rfl ?_
    refine x_iloadn (x := a1) rfl rfl ?_
    refine x_iconst (v := 3) rfl ki_3 ?_
    refine z_idiv rfl rfl jk_3 (by omega) (by omega) (fun v3 ev3 => ?_)
    refine x_inv (N := m_X12_isLine) (As := [.int v3]) (b := 125) (st := []) (dx9 := 9) (mc := 0) (ms := 0) (host := "") 12 rfl t_X12_isLine ⟨Or.inl q_12_293, i_X12_isLine.1, i_X12_isLine.2⟩ ⟨by decide, rfl⟩ (congrArg Prod.fst (J.1.1 125 (12, 92) rfl)) rfl (by decide) rfl rfl ⟨by decide, by decide⟩ (jC.of rfl k_X12_isLine rfl ?_)
    show jX m_X12_isLine 9 0 0 0 [(0, .ref 125), (1, .int v3)] [] _ 0 0 _
    refine x_iloadn (x := v3) rfl rfl ?_
    refine z_i2l rfl rfl (fun v4 ev4 => ?_)
    refine x_lconst (v := 0) rfl kl_0 ?_
    refine x_aloadn (x := 125) rfl rfl ?_
    refine z_getR (N := 92) (b := 126) 12 2 rfl f_12_8 rfl J rfl 16002 ⟨rfl, rfl⟩ rfl ?_
    refine x_iconst (v := 0) rfl ki_0 ?_
    refine z_iald (N := 50660) rfl J rfl sg_126_0_1_1_0_1 jk_0 (by omega) (fun v5 qv5 ev5 => ?_)
    refine z_i2l rfl rfl (fun v6 ev6 => ?_)
    refine x_lconst (v := 1) rfl kl_1 ?_
    refine z_lsub rfl rfl jkl_1 (by omega) (fun v7 ev7 => ?_)
    refine x_inst (N := m_X12_in) (As := [.long v4, .long 0, .long v7]) (st := []) (dx9 := 1) (mc := 0) (ms := 0) (host := "") rfl t_X12_in ⟨Or.inl q_12_188, s_X12_in⟩ rfl (by decide) rfl rfl ⟨by decide, by decide⟩ (zc_X12_in rfl jkl_0 rfl (fun v8 ev8 => ?_))
    show jX m_X12_isLine 9 0 0 15 [(0, .ref 125), (1, .int v3)] [.int v8] _ 0 0 _
    refine x_zret rfl rfl (jz01 (by omega)) ?_
    show jX m_X12_isMention 10 0 0 11 [(0, .ref 125), (1, .int a1)] [.int v8] _ 0 0 _
    refine x_ifeq (tgt := 34) rfl rfl (ti_eq rfl jk_0 ⟨fun c9 => ?_, fun c9 => ?_⟩)
    ·
      refine x_iconst (v := 0) rfl ki_0 ?_
      refine x_zret rfl rfl (by decide) ?_
      show jX m_X12_soulAt 11 0 0 5 [(0, .ref 125), (1, .int a1), (2, .int a3)] [.int 0] _ 0 0 _
      refine x_ifeq (tgt := 15) rfl rfl (ti_eq jk_0 jk_0 (br_t (by omega) ?_))
      refine x_iconst (v := (-1)) rfl ki_m1 ?_
      refine x_iret rfl rfl ?_
      show jX m_X12_badge 12 0 0 11 [(0, .ref 125), (1, .int a1), (2, .int a2), (3, .int a3)] [.int (-1)] _ 0 0 _
      refine x_istore (lsx9 := [(4, .int (-1)), (0, .ref 125), (1, .int a1), (2, .int a2), (3, .int a3)]) rfl rfl rfl ?_
      refine x_iload (x := (-1)) rfl rfl ?_
      refine x_iconst (v := (-1)) rfl ki_m1 ?_
      refine x_iceq (tgt := 26) rfl rfl (ti_eq jk_m1 jk_m1 (br_t (by omega) ?_))
      exact jX.sub jsb_n (ct_X12_badge_r125_26 hD hQ  h J Sm)
    ·
      refine x_iloadn (x := a1) rfl rfl ?_
      refine x_iconst (v := 3) rfl ki_3 ?_
      refine z_irem rfl rfl jk_3 (by omega) (by omega) (fun v10 ev10 => ?_)
      refine x_aloadn (x := 125) rfl rfl ?_
      refine x_iloadn (x := a1) rfl rfl ?_
      refine x_iconst (v := 3) rfl ki_3 ?_
      refine z_idiv rfl rfl jk_3 (by omega) (by omega) (fun v11 ev11 => ?_)
      refine x_inv (N := m_X12_bookOf) (As := [.int v11]) (b := 125) (st := [.int v10]) (dx9 := 9) (mc := 0) (ms := 0) (host := "") 12 rfl t_X12_bookOf ⟨Or.inl q_12_299, i_X12_bookOf.1, i_X12_bookOf.2⟩ ⟨by decide, rfl⟩ (congrArg Prod.fst (J.1.1 125 (12, 92) rfl)) rfl (by decide) rfl rfl ⟨by decide, by decide⟩ (jC.of rfl k_X12_bookOf rfl ?_)
      show jX m_X12_bookOf 9 0 0 0 [(0, .ref 125), (1, .int v11)] [] _ 0 0 _
      refine x_aloadn (x := 125) rfl rfl ?_
      refine z_getR (N := 92) (b := 126) 12 2 rfl f_12_8 rfl J rfl 16002 ⟨rfl, rfl⟩ rfl ?_
      refine x_aloadn (x := 125) rfl rfl ?_
      refine x_iloadn (x := v11) rfl rfl ?_
      refine x_inv (N := m_X12_at) (As := [.int v11]) (b := 125) (st := [.ref 126]) (dx9 := 8) (mc := 0) (ms := 0) (host := "") 12 rfl t_X12_at ⟨Or.inl q_12_254, i_X12_at.1, i_X12_at.2⟩ ⟨by decide, rfl⟩ (congrArg Prod.fst (J.1.1 125 (12, 92) rfl)) rfl (by decide) rfl rfl ⟨by decide, by decide⟩ (jC.of rfl k_X12_at rfl ?_)
      show jX m_X12_at 8 0 0 0 [(0, .ref 125), (1, .int v11)] [] _ 0 0 _
      refine x_bipush (v := 20) rfl kb_20 ?_
      refine x_bipush (v := 90) rfl kb_90 ?_
      refine x_iloadn (x := v11) rfl rfl ?_
      refine z_imul rfl jk_90 rfl (by omega) (fun v12 ev12 => ?_)
      refine z_iadd rfl jk_20 rfl (by omega) (fun v13 ev13 => ?_)
      refine x_iret rfl rfl ?_
      show jX m_X12_bookOf 9 0 0 9 [(0, .ref 125), (1, .int v11)] [.int v13, .ref 126] _ 0 0 _
      refine z_iald (N := 50660) rfl J rfl sg_126_20_18020_90_0_1 rfl (by omega) (fun v14 qv14 ev14 => ?_)
      refine x_iret rfl rfl ?_
      show jX m_X12_isMention 10 0 0 24 [(0, .ref 125), (1, .int a1)] [.int v14, .int v10] _ 0 0 _
      refine x_inst (N := m_X12_rolesOf) (As := [.int v14]) (st := [.int v10]) (dx9 := 9) (mc := 0) (ms := 0) (host := "") rfl t_X12_rolesOf ⟨Or.inl q_12_286, s_X12_rolesOf⟩ rfl (by decide) rfl rfl ⟨by decide, by decide⟩ (jC.of rfl k_X12_rolesOf rfl ?_)
      show jX m_X12_rolesOf 9 0 0 0 [(0, .int v14)] [] _ 0 0 _
      refine x_iloadn (x := v14) rfl rfl ?_
      refine x_ifne (tgt := 8) rfl rfl (ti_ne rfl jk_0 ⟨fun c15 => ?_, fun c15 => ?_⟩)
      ·
        refine x_iloadn (x := v14) rfl rfl ?_
        refine x_iconst (v := 1) rfl ki_1 ?_
        refine x_icne (tgt := 17) rfl rfl (ti_ne rfl jk_1 ⟨fun c16 => ?_, fun c16 => ?_⟩)
        ·
          refine x_iconst (v := 1) rfl ki_1 ?_
          refine x_iret rfl rfl ?_
          show jX m_X12_isMention 10 0 0 27 [(0, .ref 125), (1, .int a1)] [.int 1, .int v10] _ 0 0 _
          refine x_icge (tgt := 34) rfl rfl (ti_ge rfl jk_1 ⟨fun c17 => ?_, fun c17 => ?_⟩)
          ·
            refine x_iconst (v := 0) rfl ki_0 ?_
            refine x_zret rfl rfl (by decide) ?_
            show jX m_X12_soulAt 11 0 0 5 [(0, .ref 125), (1, .int a1), (2, .int a3)] [.int 0] _ 0 0 _
            refine x_ifeq (tgt := 15) rfl rfl (ti_eq jk_0 jk_0 (br_t (by omega) ?_))
            refine x_iconst (v := (-1)) rfl ki_m1 ?_
            refine x_iret rfl rfl ?_
            show jX m_X12_badge 12 0 0 11 [(0, .ref 125), (1, .int a1), (2, .int a2), (3, .int a3)] [.int (-1)] _ 0 0 _
            refine x_istore (lsx9 := [(4, .int (-1)), (0, .ref 125), (1, .int a1), (2, .int a2), (3, .int a3)]) rfl rfl rfl ?_
            refine x_iload (x := (-1)) rfl rfl ?_
            refine x_iconst (v := (-1)) rfl ki_m1 ?_
            refine x_iceq (tgt := 26) rfl rfl (ti_eq jk_m1 jk_m1 (br_t (by omega) ?_))
            exact jX.sub jsb_n (ct_X12_badge_r125_26 hD hQ  h J Sm)
          ·
            refine x_iconst (v := 1) rfl ki_1 ?_
            refine x_goto (tgt := 35) rfl rfl ?_
            refine x_zret rfl rfl (by decide) ?_
            show jX m_X12_soulAt 11 0 0 5 [(0, .ref 125), (1, .int a1), (2, .int a3)] [.int 1] _ 0 0 _
            refine x_ifeq (tgt := 15) rfl rfl (ti_eq jk_1 jk_0 (br_f (by omega) ?_))
            refine x_iloadn (x := a3) rfl rfl ?_
            refine x_inst (N := m_X12_isDay) (As := [.int a3]) (st := []) (dx9 := 2) (mc := 0) (ms := 0) (host := "") rfl t_X12_isDay ⟨Or.inl q_12_273, s_X12_isDay⟩ rfl (by decide) rfl rfl ⟨by decide, by decide⟩ (zc_X12_isDay (d := 1) rfl (fun v18 ev18 => ?_))
            show jX m_X12_soulAt 11 0 0 12 [(0, .ref 125), (1, .int a1), (2, .int a3)] [.int v18] _ 0 0 _
            refine x_ifne (tgt := 17) rfl rfl (ti_ne rfl jk_0 ⟨fun c19 => ?_, fun c19 => ?_⟩)
            ·
              refine x_aloadn (x := 125) rfl rfl ?_
              refine x_iloadn (x := a3) rfl rfl ?_
              refine x_inv (N := m_X12_find) (As := [.int a3]) (b := 125) (st := []) (dx9 := 8) (mc := 0) (ms := 0) (host := "") 12 rfl t_X12_find ⟨Or.inl q_12_393, i_X12_find.1, i_X12_find.2⟩ ⟨by decide, rfl⟩ (congrArg Prod.fst (J.1.1 125 (12, 92) rfl)) rfl (by decide) rfl rfl ⟨by decide, by decide⟩ (sf_X12_find_r125 (jr_of rfl (by omega)) hD J  (fun h J S20 => ?_))
              have Sm := jSm_tr rfl Sm S20
              show jX m_X12_soulAt 11 0 0 22 [(0, .ref 125), (1, .int a1), (2, .int a3)] [] _ 0 0 _
              refine x_aloadn (x := 125) rfl rfl ?_
              refine z_getR (N := 92) (b := 139) 12 29 rfl f_12_72 rfl J rfl 16029 ⟨rfl, rfl⟩ rfl ?_
              refine x_iloadn (x := a1) rfl rfl ?_
              refine z_iald (N := 600) rfl J rfl sg_139_0_600_1_0_1 rfl (by omega) (fun v21 qv21 ev21 => ?_)
              refine x_iret rfl rfl ?_
              show jX m_X12_badge 12 0 0 11 [(0, .ref 125), (1, .int a1), (2, .int a2), (3, .int a3)] [.int v21] _ 0 0 _
              refine x_istore (lsx9 := [(4, .int v21), (0, .ref 125), (1, .int a1), (2, .int a2), (3, .int a3)]) rfl rfl rfl ?_
              refine x_iload (x := v21) rfl rfl ?_
              refine x_iconst (v := (-1)) rfl ki_m1 ?_
              refine x_iceq (tgt := 26) rfl rfl (ti_eq rfl jk_m1 ⟨fun c22 => ?_, fun c22 => ?_⟩)
              ·
                exact jX.sub jsb_n (ct_X12_badge_r125_26 hD hQ  h J Sm)
              ·
                refine x_iloadn (x := a2) rfl rfl ?_
                refine x_inst (N := m_X12_isDay) (As := [.int a2]) (st := []) (dx9 := 2) (mc := 0) (ms := 0) (host := "") rfl t_X12_isDay ⟨Or.inl q_12_273, s_X12_isDay⟩ rfl (by decide) rfl rfl ⟨by decide, by decide⟩ (zc_X12_isDay (d := 1) rfl (fun v23 ev23 => ?_))
                show jX m_X12_badge 12 0 0 23 [(4, .int v21), (0, .ref 125), (1, .int a1), (2, .int a2), (3, .int a3)] [.int v23] _ 0 0 _
                refine x_ifne (tgt := 28) rfl rfl (ti_ne rfl jk_0 ⟨fun c24 => ?_, fun c24 => ?_⟩)
                ·
                  refine x_aloadn (x := 125) rfl rfl ?_
                  refine x_iconst (v := 5) rfl ki_5 ?_
                  refine x_iconst (v := 0) rfl ki_0 ?_
                  refine x_iload (x := v21) rfl rfl ?_
                  refine x_iloadn (x := a2) rfl rfl ?_
                  refine x_inv (N := m_X12_findCount) (As := [.int 5, .int 0, .int v21, .int a2]) (b := 125) (st := []) (dx9 := 11) (mc := 0) (ms := 0) (host := "") 12 rfl t_X12_findCount ⟨Or.inl q_12_765, i_X12_findCount.1, i_X12_findCount.2⟩ ⟨by decide, rfl⟩ (congrArg Prod.fst (J.1.1 125 (12, 92) rfl)) rfl (by decide) rfl rfl ⟨by decide, by decide⟩ (sf_X12_findCount_r125 (jr_of jk_5 (by omega)) (jr_of jk_0 (by omega)) (jr_of rfl (by omega)) (jr_of rfl (by omega)) hD J  (fun h J S25 => ?_))
                  have Sm := jSm_tr rfl Sm S25
                  show jX m_X12_badge 12 0 0 37 [(4, .int v21), (0, .ref 125), (1, .int a1), (2, .int a2), (3, .int a3)] [] _ 0 0 _
                  refine x_aloadn (x := 125) rfl rfl ?_
                  refine z_getI (N := 92) 12 65 rfl f_12_752 rfl J rfl sg_125_65_66_1_0_1 (fun v26 qv26 ev26 => ?_)
                  refine x_iconst (v := (-1)) rfl ki_m1 ?_
                  refine x_iceq (tgt := 59) rfl rfl (ti_eq rfl jk_m1 ⟨fun c27 => ?_, fun c27 => ?_⟩)
                  ·
                    exact jX.sub jsb_n (ct_X12_badge_r125_59 hD hQ  h J Sm)
                  ·
                    refine x_aloadn (x := 125) rfl rfl ?_
                    refine x_iload (x := v21) rfl rfl ?_
                    refine x_iloadn (x := a2) rfl rfl ?_
                    refine x_inv (N := m_X12_isPoor) (As := [.int v21, .int a2]) (b := 125) (st := []) (dx9 := 11) (mc := 0) (ms := 0) (host := "") 12 rfl t_X12_isPoor ⟨Or.inl q_12_716, i_X12_isPoor.1, i_X12_isPoor.2⟩ ⟨by decide, rfl⟩ (congrArg Prod.fst (J.1.1 125 (12, 92) rfl)) rfl (by decide) rfl rfl ⟨by decide, by decide⟩ (jC.of rfl k_X12_isPoor rfl ?_)
                    show jX m_X12_isPoor 11 0 0 0 [(0, .ref 125), (1, .int v21), (2, .int a2)] [] _ 0 0 _
                    refine x_aloadn (x := 125) rfl rfl ?_
                    refine x_iloadn (x := v21) rfl rfl ?_
                    refine x_iloadn (x := a2) rfl rfl ?_
                    refine x_sipush (v := 365) rfl ks_365 ?_
                    refine z_isub rfl rfl jk_365 (by omega) (fun v28 ev28 => ?_)
                    refine x_iloadn (x := a2) rfl rfl ?_
                    refine x_inv (N := m_X12_reliefOf) (As := [.int v21, .int v28, .int a2]) (b := 125) (st := []) (dx9 := 3) (mc := 0) (ms := 0) (host := "") 12 rfl t_X12_reliefOf ⟨Or.inl q_12_701, i_X12_reliefOf.1, i_X12_reliefOf.2⟩ ⟨by decide, rfl⟩ (congrArg Prod.fst (J.1.1 125 (12, 92) rfl)) rfl (by decide) rfl rfl ⟨by decide, by decide⟩ (sf_X12_reliefOf_r125 (jr_of rfl (by omega)) (jr_of rfl (by omega)) (jr_of rfl (by omega)) hD J  (fun v30 h J S29 => ?_))
                    have ev30 := jfull v30
                    have Sm := jSm_tr rfl Sm S29
                    show jX m_X12_isPoor 11 0 0 11 [(0, .ref 125), (1, .int v21), (2, .int a2)] [.int v30] _ 0 0 _
                    refine x_ifle (tgt := 18) rfl rfl (ti_le rfl jk_0 ⟨fun c31 => ?_, fun c31 => ?_⟩)
                    ·
                      refine x_iconst (v := 0) rfl ki_0 ?_
                      refine x_zret rfl rfl (by decide) ?_
                      show jX m_X12_badge 12 0 0 52 [(4, .int v21), (0, .ref 125), (1, .int a1), (2, .int a2), (3, .int a3)] [.int 0] _ 0 0 _
                      refine x_ifeq (tgt := 59) rfl rfl (ti_eq jk_0 jk_0 (br_t (by omega) ?_))
                      exact jX.sub jsb_n (ct_X12_badge_r125_59 hD hQ  h J Sm)
                    ·
                      refine x_iconst (v := 1) rfl ki_1 ?_
                      refine x_goto (tgt := 19) rfl rfl ?_
                      refine x_zret rfl rfl (by decide) ?_
                      show jX m_X12_badge 12 0 0 52 [(4, .int v21), (0, .ref 125), (1, .int a1), (2, .int a2), (3, .int a3)] [.int 1] _ 0 0 _
                      refine x_ifeq (tgt := 59) rfl rfl (ti_eq jk_1 jk_0 (br_f (by omega) ?_))
                      refine x_iconst (v := 1) rfl ki_1 ?_
                      refine x_goto (tgt := 60) rfl rfl ?_
                      exact jX.sub jsb_n (ct_X12_badge_r125_300060 hD hQ  h J Sm)
                ·
                  exact jX.sub jsb_n (ct_X12_badge_r125_26 hD hQ  h J Sm)
            ·
              refine x_iconst (v := (-1)) rfl ki_m1 ?_
              refine x_iret rfl rfl ?_
              show jX m_X12_badge 12 0 0 11 [(0, .ref 125), (1, .int a1), (2, .int a2), (3, .int a3)] [.int (-1)] _ 0 0 _
              refine x_istore (lsx9 := [(4, .int (-1)), (0, .ref 125), (1, .int a1), (2, .int a2), (3, .int a3)]) rfl rfl rfl ?_
              refine x_iload (x := (-1)) rfl rfl ?_
              refine x_iconst (v := (-1)) rfl ki_m1 ?_
              refine x_iceq (tgt := 26) rfl rfl (ti_eq jk_m1 jk_m1 (br_t (by omega) ?_))
              exact jX.sub jsb_n (ct_X12_badge_r125_26 hD hQ  h J Sm)
        ·
          refine x_iconst (v := 2) rfl ki_2 ?_
          refine x_goto (tgt := 18) rfl rfl ?_
          refine x_iret rfl rfl ?_
          show jX m_X12_isMention 10 0 0 27 [(0, .ref 125), (1, .int a1)] [.int 2, .int v10] _ 0 0 _
          refine x_icge (tgt := 34) rfl rfl (ti_ge rfl jk_2 ⟨fun c32 => ?_, fun c32 => ?_⟩)
          ·
            refine x_iconst (v := 0) rfl ki_0 ?_
            refine x_zret rfl rfl (by decide) ?_
            show jX m_X12_soulAt 11 0 0 5 [(0, .ref 125), (1, .int a1), (2, .int a3)] [.int 0] _ 0 0 _
            refine x_ifeq (tgt := 15) rfl rfl (ti_eq jk_0 jk_0 (br_t (by omega) ?_))
            refine x_iconst (v := (-1)) rfl ki_m1 ?_
            refine x_iret rfl rfl ?_
            show jX m_X12_badge 12 0 0 11 [(0, .ref 125), (1, .int a1), (2, .int a2), (3, .int a3)] [.int (-1)] _ 0 0 _
            refine x_istore (lsx9 := [(4, .int (-1)), (0, .ref 125), (1, .int a1), (2, .int a2), (3, .int a3)]) rfl rfl rfl ?_
            refine x_iload (x := (-1)) rfl rfl ?_
            refine x_iconst (v := (-1)) rfl ki_m1 ?_
            refine x_iceq (tgt := 26) rfl rfl (ti_eq jk_m1 jk_m1 (br_t (by omega) ?_))
            exact jX.sub jsb_n (ct_X12_badge_r125_26 hD hQ  h J Sm)
          ·
            refine x_iconst (v := 1) rfl ki_1 ?_
            refine x_goto (tgt := 35) rfl rfl ?_
            refine x_zret rfl rfl (by decide) ?_
            show jX m_X12_soulAt 11 0 0 5 [(0, .ref 125), (1, .int a1), (2, .int a3)] [.int 1] _ 0 0 _
            refine x_ifeq (tgt := 15) rfl rfl (ti_eq jk_1 jk_0 (br_f (by omega) ?_))
            refine x_iloadn (x := a3) rfl rfl ?_
            refine x_inst (N := m_X12_isDay) (As := [.int a3]) (st := []) (dx9 := 2) (mc := 0) (ms := 0) (host := "") rfl t_X12_isDay ⟨Or.inl q_12_273, s_X12_isDay⟩ rfl (by decide) rfl rfl ⟨by decide, by decide⟩ (zc_X12_isDay (d := 1) rfl (fun v33 ev33 => ?_))
            show jX m_X12_soulAt 11 0 0 12 [(0, .ref 125), (1, .int a1), (2, .int a3)] [.int v33] _ 0 0 _
            refine x_ifne (tgt := 17) rfl rfl (ti_ne rfl jk_0 ⟨fun c34 => ?_, fun c34 => ?_⟩)
            ·
              refine x_aloadn (x := 125) rfl rfl ?_
              refine x_iloadn (x := a3) rfl rfl ?_
              refine x_inv (N := m_X12_find) (As := [.int a3]) (b := 125) (st := []) (dx9 := 8) (mc := 0) (ms := 0) (host := "") 12 rfl t_X12_find ⟨Or.inl q_12_393, i_X12_find.1, i_X12_find.2⟩ ⟨by decide, rfl⟩ (congrArg Prod.fst (J.1.1 125 (12, 92) rfl)) rfl (by decide) rfl rfl ⟨by decide, by decide⟩ (sf_X12_find_r125 (jr_of rfl (by omega)) hD J  (fun h J S35 => ?_))
              have Sm := jSm_tr rfl Sm S35
              show jX m_X12_soulAt 11 0 0 22 [(0, .ref 125), (1, .int a1), (2, .int a3)] [] _ 0 0 _
              refine x_aloadn (x := 125) rfl rfl ?_
              refine z_getR (N := 92) (b := 139) 12 29 rfl f_12_72 rfl J rfl 16029 ⟨rfl, rfl⟩ rfl ?_
              refine x_iloadn (x := a1) rfl rfl ?_
              refine z_iald (N := 600) rfl J rfl sg_139_0_600_1_0_1 rfl (by omega) (fun v36 qv36 ev36 => ?_)
              refine x_iret rfl rfl ?_
              show jX m_X12_badge 12 0 0 11 [(0, .ref 125), (1, .int a1), (2, .int a2), (3, .int a3)] [.int v36] _ 0 0 _
              refine x_istore (lsx9 := [(4, .int v36), (0, .ref 125), (1, .int a1), (2, .int a2), (3, .int a3)]) rfl rfl rfl ?_
              refine x_iload (x := v36) rfl rfl ?_
              refine x_iconst (v := (-1)) rfl ki_m1 ?_
              refine x_iceq (tgt := 26) rfl rfl (ti_eq rfl jk_m1 ⟨fun c37 => ?_, fun c37 => ?_⟩)
              ·
                exact jX.sub jsb_n (ct_X12_badge_r125_26 hD hQ  h J Sm)
              ·
                refine x_iloadn (x := a2) rfl rfl ?_
                refine x_inst (N := m_X12_isDay) (As := [.int a2]) (st := []) (dx9 := 2) (mc := 0) (ms := 0) (host := "") rfl t_X12_isDay ⟨Or.inl q_12_273, s_X12_isDay⟩ rfl (by decide) rfl rfl ⟨by decide, by decide⟩ (zc_X12_isDay (d := 1) rfl (fun v38 ev38 => ?_))
                show jX m_X12_badge 12 0 0 23 [(4, .int v36), (0, .ref 125), (1, .int a1), (2, .int a2), (3, .int a3)] [.int v38] _ 0 0 _
                refine x_ifne (tgt := 28) rfl rfl (ti_ne rfl jk_0 ⟨fun c39 => ?_, fun c39 => ?_⟩)
                ·
                  refine x_aloadn (x := 125) rfl rfl ?_
                  refine x_iconst (v := 5) rfl ki_5 ?_
                  refine x_iconst (v := 0) rfl ki_0 ?_
                  refine x_iload (x := v36) rfl rfl ?_
                  refine x_iloadn (x := a2) rfl rfl ?_
                  refine x_inv (N := m_X12_findCount) (As := [.int 5, .int 0, .int v36, .int a2]) (b := 125) (st := []) (dx9 := 11) (mc := 0) (ms := 0) (host := "") 12 rfl t_X12_findCount ⟨Or.inl q_12_765, i_X12_findCount.1, i_X12_findCount.2⟩ ⟨by decide, rfl⟩ (congrArg Prod.fst (J.1.1 125 (12, 92) rfl)) rfl (by decide) rfl rfl ⟨by decide, by decide⟩ (sf_X12_findCount_r125 (jr_of jk_5 (by omega)) (jr_of jk_0 (by omega)) (jr_of rfl (by omega)) (jr_of rfl (by omega)) hD J  (fun h J S40 => ?_))
                  have Sm := jSm_tr rfl Sm S40
                  show jX m_X12_badge 12 0 0 37 [(4, .int v36), (0, .ref 125), (1, .int a1), (2, .int a2), (3, .int a3)] [] _ 0 0 _
                  refine x_aloadn (x := 125) rfl rfl ?_
                  refine z_getI (N := 92) 12 65 rfl f_12_752 rfl J rfl sg_125_65_66_1_0_1 (fun v41 qv41 ev41 => ?_)
                  refine x_iconst (v := (-1)) rfl ki_m1 ?_
                  refine x_iceq (tgt := 59) rfl rfl (ti_eq rfl jk_m1 ⟨fun c42 => ?_, fun c42 => ?_⟩)
                  ·
                    exact jX.sub jsb_n (ct_X12_badge_r125_59 hD hQ  h J Sm)
                  ·
                    refine x_aloadn (x := 125) rfl rfl ?_
                    refine x_iload (x := v36) rfl rfl ?_
                    refine x_iloadn (x := a2) rfl rfl ?_
                    refine x_inv (N := m_X12_isPoor) (As := [.int v36, .int a2]) (b := 125) (st := []) (dx9 := 11) (mc := 0) (ms := 0) (host := "") 12 rfl t_X12_isPoor ⟨Or.inl q_12_716, i_X12_isPoor.1, i_X12_isPoor.2⟩ ⟨by decide, rfl⟩ (congrArg Prod.fst (J.1.1 125 (12, 92) rfl)) rfl (by decide) rfl rfl ⟨by decide, by decide⟩ (jC.of rfl k_X12_isPoor rfl ?_)
                    show jX m_X12_isPoor 11 0 0 0 [(0, .ref 125), (1, .int v36), (2, .int a2)] [] _ 0 0 _
                    refine x_aloadn (x := 125) rfl rfl ?_
                    refine x_iloadn (x := v36) rfl rfl ?_
                    refine x_iloadn (x := a2) rfl rfl ?_
                    refine x_sipush (v := 365) rfl ks_365 ?_
                    refine z_isub rfl rfl jk_365 (by omega) (fun v43 ev43 => ?_)
                    refine x_iloadn (x := a2) rfl rfl ?_
                    refine x_inv (N := m_X12_reliefOf) (As := [.int v36, .int v43, .int a2]) (b := 125) (st := []) (dx9 := 3) (mc := 0) (ms := 0) (host := "") 12 rfl t_X12_reliefOf ⟨Or.inl q_12_701, i_X12_reliefOf.1, i_X12_reliefOf.2⟩ ⟨by decide, rfl⟩ (congrArg Prod.fst (J.1.1 125 (12, 92) rfl)) rfl (by decide) rfl rfl ⟨by decide, by decide⟩ (sf_X12_reliefOf_r125 (jr_of rfl (by omega)) (jr_of rfl (by omega)) (jr_of rfl (by omega)) hD J  (fun v45 h J S44 => ?_))
                    have ev45 := jfull v45
                    have Sm := jSm_tr rfl Sm S44
                    show jX m_X12_isPoor 11 0 0 11 [(0, .ref 125), (1, .int v36), (2, .int a2)] [.int v45] _ 0 0 _
                    refine x_ifle (tgt := 18) rfl rfl (ti_le rfl jk_0 ⟨fun c46 => ?_, fun c46 => ?_⟩)
                    ·
                      refine x_iconst (v := 0) rfl ki_0 ?_
                      refine x_zret rfl rfl (by decide) ?_
                      show jX m_X12_badge 12 0 0 52 [(4, .int v36), (0, .ref 125), (1, .int a1), (2, .int a2), (3, .int a3)] [.int 0] _ 0 0 _
                      refine x_ifeq (tgt := 59) rfl rfl (ti_eq jk_0 jk_0 (br_t (by omega) ?_))
                      exact jX.sub jsb_n (ct_X12_badge_r125_59 hD hQ  h J Sm)
                    ·
                      refine x_iconst (v := 1) rfl ki_1 ?_
                      refine x_goto (tgt := 19) rfl rfl ?_
                      refine x_zret rfl rfl (by decide) ?_
                      show jX m_X12_badge 12 0 0 52 [(4, .int v36), (0, .ref 125), (1, .int a1), (2, .int a2), (3, .int a3)] [.int 1] _ 0 0 _
                      refine x_ifeq (tgt := 59) rfl rfl (ti_eq jk_1 jk_0 (br_f (by omega) ?_))
                      refine x_iconst (v := 1) rfl ki_1 ?_
                      refine x_goto (tgt := 60) rfl rfl ?_
                      exact jX.sub jsb_n (ct_X12_badge_r125_300060 hD hQ  h J Sm)
                ·
                  exact jX.sub jsb_n (ct_X12_badge_r125_26 hD hQ  h J Sm)
            ·
              refine x_iconst (v := (-1)) rfl ki_m1 ?_
              refine x_iret rfl rfl ?_
              show jX m_X12_badge 12 0 0 11 [(0, .ref 125), (1, .int a1), (2, .int a2), (3, .int a3)] [.int (-1)] _ 0 0 _
              refine x_istore (lsx9 := [(4, .int (-1)), (0, .ref 125), (1, .int a1), (2, .int a2), (3, .int a3)]) rfl rfl rfl ?_
              refine x_iload (x := (-1)) rfl rfl ?_
              refine x_iconst (v := (-1)) rfl ki_m1 ?_
              refine x_iceq (tgt := 26) rfl rfl (ti_eq jk_m1 jk_m1 (br_t (by omega) ?_))
              exact jX.sub jsb_n (ct_X12_badge_r125_26 hD hQ  h J Sm)
      ·
        refine x_iconst (v := 3) rfl ki_3 ?_
        refine x_goto (tgt := 18) rfl rfl ?_
        refine x_iret rfl rfl ?_
        show jX m_X12_isMention 10 0 0 27 [(0, .ref 125), (1, .int a1)] [.int 3, .int v10] _ 0 0 _
        refine x_icge (tgt := 34) rfl rfl (ti_ge rfl jk_3 (br_f (by omega) ?_))
        refine x_iconst (v := 1) rfl ki_1 ?_
        refine x_goto (tgt := 35) rfl rfl ?_
        refine x_zret rfl rfl (by decide) ?_
        show jX m_X12_soulAt 11 0 0 5 [(0, .ref 125), (1, .int a1), (2, .int a3)] [.int 1] _ 0 0 _
        refine x_ifeq (tgt := 15) rfl rfl (ti_eq jk_1 jk_0 (br_f (by omega) ?_))
        refine x_iloadn (x := a3) rfl rfl ?_
        refine x_inst (N := m_X12_isDay) (As := [.int a3]) (st := []) (dx9 := 2) (mc := 0) (ms := 0) (host := "") rfl t_X12_isDay ⟨Or.inl q_12_273, s_X12_isDay⟩ rfl (by decide) rfl rfl ⟨by decide, by decide⟩ (zc_X12_isDay (d := 1) rfl (fun v47 ev47 => ?_))
        show jX m_X12_soulAt 11 0 0 12 [(0, .ref 125), (1, .int a1), (2, .int a3)] [.int v47] _ 0 0 _
        refine x_ifne (tgt := 17) rfl rfl (ti_ne rfl jk_0 ⟨fun c48 => ?_, fun c48 => ?_⟩)
        ·
          refine x_aloadn (x := 125) rfl rfl ?_
          refine x_iloadn (x := a3) rfl rfl ?_
          refine x_inv (N := m_X12_find) (As := [.int a3]) (b := 125) (st := []) (dx9 := 8) (mc := 0) (ms := 0) (host := "") 12 rfl t_X12_find ⟨Or.inl q_12_393, i_X12_find.1, i_X12_find.2⟩ ⟨by decide, rfl⟩ (congrArg Prod.fst (J.1.1 125 (12, 92) rfl)) rfl (by decide) rfl rfl ⟨by decide, by decide⟩ (sf_X12_find_r125 (jr_of rfl (by omega)) hD J  (fun h J S49 => ?_))
          have Sm := jSm_tr rfl Sm S49
          show jX m_X12_soulAt 11 0 0 22 [(0, .ref 125), (1, .int a1), (2, .int a3)] [] _ 0 0 _
          refine x_aloadn (x := 125) rfl rfl ?_
          refine z_getR (N := 92) (b := 139) 12 29 rfl f_12_72 rfl J rfl 16029 ⟨rfl, rfl⟩ rfl ?_
          refine x_iloadn (x := a1) rfl rfl ?_
          refine z_iald (N := 600) rfl J rfl sg_139_0_600_1_0_1 rfl (by omega) (fun v50 qv50 ev50 => ?_)
          refine x_iret rfl rfl ?_
          show jX m_X12_badge 12 0 0 11 [(0, .ref 125), (1, .int a1), (2, .int a2), (3, .int a3)] [.int v50] _ 0 0 _
          refine x_istore (lsx9 := [(4, .int v50), (0, .ref 125), (1, .int a1), (2, .int a2), (3, .int a3)]) rfl rfl rfl ?_
          refine x_iload (x := v50) rfl rfl ?_
          refine x_iconst (v := (-1)) rfl ki_m1 ?_
          refine x_iceq (tgt := 26) rfl rfl (ti_eq rfl jk_m1 ⟨fun c51 => ?_, fun c51 => ?_⟩)
          ·
            exact jX.sub jsb_n (ct_X12_badge_r125_26 hD hQ  h J Sm)
          ·
            refine x_iloadn (x := a2) rfl rfl ?_
            refine x_inst (N := m_X12_isDay) (As := [.int a2]) (st := []) (dx9 := 2) (mc := 0) (ms := 0) (host := "") rfl t_X12_isDay ⟨Or.inl q_12_273, s_X12_isDay⟩ rfl (by decide) rfl rfl ⟨by decide, by decide⟩ (zc_X12_isDay (d := 1) rfl (fun v52 ev52 => ?_))
            show jX m_X12_badge 12 0 0 23 [(4, .int v50), (0, .ref 125), (1, .int a1), (2, .int a2), (3, .int a3)] [.int v52] _ 0 0 _
            refine x_ifne (tgt := 28) rfl rfl (ti_ne rfl jk_0 ⟨fun c53 => ?_, fun c53 => ?_⟩)
            ·
              refine x_aloadn (x := 125) rfl rfl ?_
              refine x_iconst (v := 5) rfl ki_5 ?_
              refine x_iconst (v := 0) rfl ki_0 ?_
              refine x_iload (x := v50) rfl rfl ?_
              refine x_iloadn (x := a2) rfl rfl ?_
              refine x_inv (N := m_X12_findCount) (As := [.int 5, .int 0, .int v50, .int a2]) (b := 125) (st := []) (dx9 := 11) (mc := 0) (ms := 0) (host := "") 12 rfl t_X12_findCount ⟨Or.inl q_12_765, i_X12_findCount.1, i_X12_findCount.2⟩ ⟨by decide, rfl⟩ (congrArg Prod.fst (J.1.1 125 (12, 92) rfl)) rfl (by decide) rfl rfl ⟨by decide, by decide⟩ (sf_X12_findCount_r125 (jr_of jk_5 (by omega)) (jr_of jk_0 (by omega)) (jr_of rfl (by omega)) (jr_of rfl (by omega)) hD J  (fun h J S54 => ?_))
              have Sm := jSm_tr rfl Sm S54
              show jX m_X12_badge 12 0 0 37 [(4, .int v50), (0, .ref 125), (1, .int a1), (2, .int a2), (3, .int a3)] [] _ 0 0 _
              refine x_aloadn (x := 125) rfl rfl ?_
              refine z_getI (N := 92) 12 65 rfl f_12_752 rfl J rfl sg_125_65_66_1_0_1 (fun v55 qv55 ev55 => ?_)
              refine x_iconst (v := (-1)) rfl ki_m1 ?_
              refine x_iceq (tgt := 59) rfl rfl (ti_eq rfl jk_m1 ⟨fun c56 => ?_, fun c56 => ?_⟩)
              ·
                exact jX.sub jsb_n (ct_X12_badge_r125_59 hD hQ  h J Sm)
              ·
                refine x_aloadn (x := 125) rfl rfl ?_
                refine x_iload (x := v50) rfl rfl ?_
                refine x_iloadn (x := a2) rfl rfl ?_
                refine x_inv (N := m_X12_isPoor) (As := [.int v50, .int a2]) (b := 125) (st := []) (dx9 := 11) (mc := 0) (ms := 0) (host := "") 12 rfl t_X12_isPoor ⟨Or.inl q_12_716, i_X12_isPoor.1, i_X12_isPoor.2⟩ ⟨by decide, rfl⟩ (congrArg Prod.fst (J.1.1 125 (12, 92) rfl)) rfl (by decide) rfl rfl ⟨by decide, by decide⟩ (jC.of rfl k_X12_isPoor rfl ?_)
                show jX m_X12_isPoor 11 0 0 0 [(0, .ref 125), (1, .int v50), (2, .int a2)] [] _ 0 0 _
                refine x_aloadn (x := 125) rfl rfl ?_
                refine x_iloadn (x := v50) rfl rfl ?_
                refine x_iloadn (x := a2) rfl rfl ?_
                refine x_sipush (v := 365) rfl ks_365 ?_
                refine z_isub rfl rfl jk_365 (by omega) (fun v57 ev57 => ?_)
                refine x_iloadn (x := a2) rfl rfl ?_
                refine x_inv (N := m_X12_reliefOf) (As := [.int v50, .int v57, .int a2]) (b := 125) (st := []) (dx9 := 3) (mc := 0) (ms := 0) (host := "") 12 rfl t_X12_reliefOf ⟨Or.inl q_12_701, i_X12_reliefOf.1, i_X12_reliefOf.2⟩ ⟨by decide, rfl⟩ (congrArg Prod.fst (J.1.1 125 (12, 92) rfl)) rfl (by decide) rfl rfl ⟨by decide, by decide⟩ (sf_X12_reliefOf_r125 (jr_of rfl (by omega)) (jr_of rfl (by omega)) (jr_of rfl (by omega)) hD J  (fun v59 h J S58 => ?_))
                have ev59 := jfull v59
                have Sm := jSm_tr rfl Sm S58
                show jX m_X12_isPoor 11 0 0 11 [(0, .ref 125), (1, .int v50), (2, .int a2)] [.int v59] _ 0 0 _
                refine x_ifle (tgt := 18) rfl rfl (ti_le rfl jk_0 ⟨fun c60 => ?_, fun c60 => ?_⟩)
                ·
                  refine x_iconst (v := 0) rfl ki_0 ?_
                  refine x_zret rfl rfl (by decide) ?_
                  show jX m_X12_badge 12 0 0 52 [(4, .int v50), (0, .ref 125), (1, .int a1), (2, .int a2), (3, .int a3)] [.int 0] _ 0 0 _
                  refine x_ifeq (tgt := 59) rfl rfl (ti_eq jk_0 jk_0 (br_t (by omega) ?_))
                  exact jX.sub jsb_n (ct_X12_badge_r125_59 hD hQ  h J Sm)
                ·
                  refine x_iconst (v := 1) rfl ki_1 ?_
                  refine x_goto (tgt := 19) rfl rfl ?_
                  refine x_zret rfl rfl (by decide) ?_
                  show jX m_X12_badge 12 0 0 52 [(4, .int v50), (0, .ref 125), (1, .int a1), (2, .int a2), (3, .int a3)] [.int 1] _ 0 0 _
                  refine x_ifeq (tgt := 59) rfl rfl (ti_eq jk_1 jk_0 (br_f (by omega) ?_))
                  refine x_iconst (v := 1) rfl ki_1 ?_
                  refine x_goto (tgt := 60) rfl rfl ?_
                  exact jX.sub jsb_n (ct_X12_badge_r125_300060 hD hQ  h J Sm)
            ·
              exact jX.sub jsb_n (ct_X12_badge_r125_26 hD hQ  h J Sm)
        ·
          refine x_iconst (v := (-1)) rfl ki_m1 ?_
          refine x_iret rfl rfl ?_
          show jX m_X12_badge 12 0 0 11 [(0, .ref 125), (1, .int a1), (2, .int a2), (3, .int a3)] [.int (-1)] _ 0 0 _
          refine x_istore (lsx9 := [(4, .int (-1)), (0, .ref 125), (1, .int a1), (2, .int a2), (3, .int a3)]) rfl rfl rfl ?_
          refine x_iload (x := (-1)) rfl rfl ?_
          refine x_iconst (v := (-1)) rfl ki_m1 ?_
          refine x_iceq (tgt := 26) rfl rfl (ti_eq jk_m1 jk_m1 (br_t (by omega) ?_))
          exact jX.sub jsb_n (ct_X12_badge_r125_26 hD hQ  h J Sm)
def fp_X12_closedAt_r125 : jFp := []
set_option maxRecDepth 100000 in
set_option maxHeartbeats 4000000 in
theorem ct_X12_closedAt_r125_57 {Dy : jH → Prop} {h0 : jH} {Q : Option Value → jH → Prop} {R5 : Int} {a2 : Int32} (yy_a2 : (-1) ≤ a2.toInt ∧ a2.toInt ≤ 400) (hD : jDk Dy) (hQ : ∀ (v : Int32) hx9, (-1) ≤ v.toInt ∧ v.toInt ≤ 49999 → (v.toInt = -1 ∨ (0 ≤ a2.toInt ∧ a2.toInt ≤ 399)) → jJ jSgM Dy hx9 → jSm fp_X12_closedAt_r125 h0 hx9 → Q (some (.int v)) hx9) (k5 : ∀ (l1 : Int32) (l3 : Int32) (l4 : Int32) (h : jH), 40 - l4.toInt < R5 → 0 ≤ l1.toInt ∧ l1.toInt ≤ 3 → (-1) ≤ l3.toInt ∧ l3.toInt ≤ 49999 → 0 ≤ l4.toInt ∧ l4.toInt ≤ 40 → (l3.toInt = -1 ∨ (0 ≤ a2.toInt ∧ a2.toInt ≤ 399)) → jJ jSgM Dy h → jSm fp_X12_closedAt_r125 h0 h → jX m_X12_closedAt 1 0 0 5 [(0, .ref 125), (1, .int l1), (2, .int a2), (3, .int l3), (4, .int l4)] [] h 0 0 Q) : ∀ (l1 : Int32) (l4 : Int32) (s0 : Int32) (h : jH), 0 ≤ l1.toInt ∧ l1.toInt ≤ 3 → 0 ≤ l4.toInt ∧ l4.toInt ≤ 39 → (-1) ≤ s0.toInt ∧ s0.toInt ≤ 49999 → (s0.toInt = -1 ∨ (0 ≤ a2.toInt ∧ a2.toInt ≤ 399)) → 40 - l4.toInt ≤ R5 → jJ jSgM Dy h → jSm fp_X12_closedAt_r125 h0 h → jX m_X12_closedAt 1 0 0 57 [(0, .ref 125), (1, .int l1), (2, .int a2), (4, .int l4)] [.int s0] h 0 0 Q := by
  intro l1 l4 s0 h y0 y1 y2 y3  m5 J Sm
  refine x_istoren (lsx9 := [(3, .int s0), (0, .ref 125), (1, .int l1), (2, .int a2), (4, .int l4)]) rfl rfl rfl ?_
  refine z_iinc (x := l4) (lsx9 := fun v1 => [(4, .int v1), (3, .int s0), (0, .ref 125), (1, .int l1), (2, .int a2)]) rfl rfl rfl jko_1 (by omega) rfl (fun _ => rfl) (fun v1 ev1 => ?_)
  refine x_goto (tgt := 5) rfl rfl ?_
  exact jX.sub (jsb_c rfl (jsb_c rfl (jsb_c rfl (jsb_c rfl (jsb_c rfl jsb_n))))) (k5 l1 s0 v1 h (by omega) (jr_of rfl (by omega)) (jr_of rfl (by omega)) (jr_of rfl (by omega)) (by omega) J Sm)
set_option maxRecDepth 100000 in
set_option maxHeartbeats 4000000 in
theorem ct_X12_closedAt_r125_56 {Dy : jH → Prop} {h0 : jH} {Q : Option Value → jH → Prop} {R5 : Int} {a2 : Int32} (yy_a2 : (-1) ≤ a2.toInt ∧ a2.toInt ≤ 400) (hD : jDk Dy) (hQ : ∀ (v : Int32) hx9, (-1) ≤ v.toInt ∧ v.toInt ≤ 49999 → (v.toInt = -1 ∨ (0 ≤ a2.toInt ∧ a2.toInt ≤ 399)) → jJ jSgM Dy hx9 → jSm fp_X12_closedAt_r125 h0 hx9 → Q (some (.int v)) hx9) (k5 : ∀ (l1 : Int32) (l3 : Int32) (l4 : Int32) (h : jH), 40 - l4.toInt < R5 → 0 ≤ l1.toInt ∧ l1.toInt ≤ 3 → (-1) ≤ l3.toInt ∧ l3.toInt ≤ 49999 → 0 ≤ l4.toInt ∧ l4.toInt ≤ 40 → (l3.toInt = -1 ∨ (0 ≤ a2.toInt ∧ a2.toInt ≤ 399)) → jJ jSgM Dy h → jSm fp_X12_closedAt_r125 h0 h → jX m_X12_closedAt 1 0 0 5 [(0, .ref 125), (1, .int l1), (2, .int a2), (3, .int l3), (4, .int l4)] [] h 0 0 Q) : ∀ (l1 : Int32) (l3 : Int32) (l4 : Int32) (h : jH), 0 ≤ l1.toInt ∧ l1.toInt ≤ 3 → (-1) ≤ l3.toInt ∧ l3.toInt ≤ 49999 → 0 ≤ l4.toInt ∧ l4.toInt ≤ 39 → (l3.toInt = -1 ∨ (0 ≤ a2.toInt ∧ a2.toInt ≤ 399)) → 40 - l4.toInt ≤ R5 → jJ jSgM Dy h → jSm fp_X12_closedAt_r125 h0 h → jX m_X12_closedAt 1 0 0 56 [(0, .ref 125), (1, .int l1), (2, .int a2), (3, .int l3), (4, .int l4)] [] h 0 0 Q := by
  intro l1 l3 l4 h y0 y1 y2 y3  m5 J Sm
  refine x_iloadn (x := l3) rfl rfl ?_
  exact jX.sub (jsb_c rfl (jsb_c rfl (jsb_c rfl (jsb_c rfl jsb_n)))) (ct_X12_closedAt_r125_57 yy_a2 hD hQ k5 l1 l4 l3 h (jr_of rfl (by omega)) (jr_of rfl (by omega)) (jr_of rfl (by omega)) (by omega) (by omega) J Sm)
set_option maxRecDepth 100000 in
set_option maxHeartbeats 4000000 in
theorem ct_X12_closedAt_r125_5 {Dy : jH → Prop} {h0 : jH} {Q : Option Value → jH → Prop} {a2 : Int32} (yy_a2 : (-1) ≤ a2.toInt ∧ a2.toInt ≤ 400) (hD : jDk Dy) (hQ : ∀ (v : Int32) hx9, (-1) ≤ v.toInt ∧ v.toInt ≤ 49999 → (v.toInt = -1 ∨ (0 ≤ a2.toInt ∧ a2.toInt ≤ 399)) → jJ jSgM Dy hx9 → jSm fp_X12_closedAt_r125 h0 hx9 → Q (some (.int v)) hx9) : ∀ r : Nat, ∀ (l1 : Int32) (l3 : Int32) (l4 : Int32) (h : jH), 40 - l4.toInt < (r : Int) → 0 ≤ l1.toInt ∧ l1.toInt ≤ 3 → (-1) ≤ l3.toInt ∧ l3.toInt ≤ 49999 → 0 ≤ l4.toInt ∧ l4.toInt ≤ 40 → (l3.toInt = -1 ∨ (0 ≤ a2.toInt ∧ a2.toInt ≤ 399)) → jJ jSgM Dy h → jSm fp_X12_closedAt_r125 h0 h → jX m_X12_closedAt 1 0 0 5 [(0, .ref 125), (1, .int l1), (2, .int a2), (3, .int l3), (4, .int l4)] [] h 0 0 Q := by
  intro r
  induction r with
  | zero =>
    intro l1 l3 l4 h hm y0 y1 y2 y3   J Sm
    exfalso
    omega
  | succ r ih =>
    intro l1 l3 l4 h hm y0 y1 y2 y3   J Sm
    refine x_iload (x := l4) rfl rfl ?_
    refine x_aloadn (x := 125) rfl rfl ?_
    refine z_getR (N := 92) (b := 126) 12 2 rfl f_12_8 rfl J rfl 16002 ⟨rfl, rfl⟩ rfl ?_
    refine x_bipush (v := 14) rfl kb_14 ?_
    refine z_iald (N := 50660) rfl J rfl sg_126_14_15_1_0_1 jk_14 (by omega) (fun v1 qv1 ev1 => ?_)
    refine x_icge (tgt := 64) rfl rfl (ti_ge rfl rfl ⟨fun c2 => ?_, fun c2 => ?_⟩)
    ·
      refine x_iloadn (x := l3) rfl rfl ?_
      refine x_iret rfl rfl ?_
      exact hQ _ _ (jr_of rfl (by omega)) (by omega) J Sm
    ·
      refine x_ldcw (v := 49360) rfl z_12_844 ?_
      refine x_iconst (v := 4) rfl ki_4 ?_
      refine x_iload (x := l4) rfl rfl ?_
      refine z_imul rfl jk_4 rfl (by omega) (fun v3 ev3 => ?_)
      refine z_iadd rfl jk_49360 rfl (by omega) (fun v4 ev4 => ?_)
      refine x_istore (lsx9 := [(5, .int v4), (0, .ref 125), (1, .int l1), (2, .int a2), (3, .int l3), (4, .int l4)]) rfl rfl rfl ?_
      refine x_aloadn (x := 125) rfl rfl ?_
      refine z_getR (N := 92) (b := 126) 12 2 rfl f_12_8 rfl J rfl 16002 ⟨rfl, rfl⟩ rfl ?_
      refine x_iload (x := v4) rfl rfl ?_
      refine z_iald (N := 50660) rfl J rfl sg_126_49360_49520_4_0_1 rfl (by omega) (fun v5 qv5 ev5 => ?_)
      refine x_iloadn (x := l1) rfl rfl ?_
      refine x_icne (tgt := 56) rfl rfl (ti_ne rfl rfl ⟨fun c6 => ?_, fun c6 => ?_⟩)
      ·
        exact jX.sub (jsb_c rfl (jsb_c rfl (jsb_c rfl (jsb_c rfl (jsb_c rfl jsb_n))))) (ct_X12_closedAt_r125_56 yy_a2 hD hQ ih l1 l3 l4 h (jr_of rfl (by omega)) (jr_of rfl (by omega)) (jr_of rfl (by omega)) (by omega) (by omega) J Sm)
      ·
        refine x_aloadn (x := 125) rfl rfl ?_
        refine z_getR (N := 92) (b := 126) 12 2 rfl f_12_8 rfl J rfl 16002 ⟨rfl, rfl⟩ rfl ?_
        refine x_iload (x := v4) rfl rfl ?_
        refine x_iconst (v := 1) rfl ki_1 ?_
        refine z_iadd rfl rfl jk_1 (by omega) (fun v7 ev7 => ?_)
        refine z_iald (N := 50660) rfl J rfl sg_126_49360_49520_4_1_2 rfl (by omega) (fun v8 qv8 ev8 => ?_)
        refine x_iloadn (x := a2) rfl rfl ?_
        refine x_icne (tgt := 56) rfl rfl (ti_ne rfl rfl ⟨fun c9 => ?_, fun c9 => ?_⟩)
        ·
          exact jX.sub (jsb_c rfl (jsb_c rfl (jsb_c rfl (jsb_c rfl (jsb_c rfl jsb_n))))) (ct_X12_closedAt_r125_56 yy_a2 hD hQ ih l1 l3 l4 h (jr_of rfl (by omega)) (jr_of rfl (by omega)) (jr_of rfl (by omega)) (by omega) (by omega) J Sm)
        ·
          refine x_iload (x := v4) rfl rfl ?_
          refine x_goto (tgt := 57) rfl rfl ?_
          exact jX.sub (jsb_c rfl (jsb_c rfl (jsb_c rfl (jsb_c rfl jsb_n)))) (ct_X12_closedAt_r125_57 yy_a2 hD hQ ih l1 l4 v4 h (jr_of rfl (by omega)) (jr_of rfl (by omega)) (jr_of rfl (by omega)) (by omega) (by omega) J Sm)
set_option maxRecDepth 100000 in
set_option maxHeartbeats 4000000 in
theorem sf_X12_closedAt_r125 {Dy : jH → Prop} {h : jH} {Q : Option Value → jH → Prop} {a1 : Int32} {a2 : Int32} (y1 : 0 ≤ a1.toInt ∧ a1.toInt ≤ 3) (y2 : (-1) ≤ a2.toInt ∧ a2.toInt ≤ 400) (hD : jDk Dy) (J : jJ jSgM Dy h) (hQ : ∀ (v : Int32) hx9, (-1) ≤ v.toInt ∧ v.toInt ≤ 49999 → (v.toInt = -1 ∨ (0 ≤ a2.toInt ∧ a2.toInt ≤ 399)) → jJ jSgM Dy hx9 → jSm fp_X12_closedAt_r125 h hx9 → Q (some (.int v)) hx9) : jC m_X12_closedAt 1 0 0 [.ref 125, .int a1, .int a2] h Q := by
  refine jC.of rfl k_X12_closedAt rfl ?_
  have Sm := jSm_rf fp_X12_closedAt_r125 h
  have yy_a2 := y2
  show jX m_X12_closedAt 1 0 0 0 [(0, .ref 125), (1, .int a1), (2, .int a2)] [] _ 0 0 _
  refine x_iconst (v := (-1)) rfl ki_m1 ?_
  refine x_istoren (lsx9 := [(3, .int (-1)), (0, .ref 125), (1, .int a1), (2, .int a2)]) rfl rfl rfl ?_
  refine x_iconst (v := 0) rfl ki_0 ?_
  refine x_istore (lsx9 := [(4, .int 0), (3, .int (-1)), (0, .ref 125), (1, .int a1), (2, .int a2)]) rfl rfl rfl ?_
  exact jX.sub (jsb_c rfl (jsb_c rfl (jsb_c rfl (jsb_c rfl (jsb_c rfl jsb_n))))) (ct_X12_closedAt_r125_5 yy_a2 hD hQ  41 a1 (-1) 0 h (by have := jk_0; omega) (jr_of rfl (by omega)) (jr_of jk_m1 (by omega)) (jr_of jk_0 (by omega)) (by have := jk_m1; omega) J Sm)
def fp_X12_balanceOf_r125 : jFp := []
set_option maxRecDepth 100000 in
set_option maxHeartbeats 4000000 in
theorem ct_X12_balanceOf_r125_171 {Dy : jH → Prop} {h0 : jH} {Q : Option Value → jH → Prop} {R47 : Int} (hD : jDk Dy) (hQ : ∀ (v : Int32) hx9, jJ jSgM Dy hx9 → jSm fp_X12_balanceOf_r125 h0 hx9 → Q (some (.int v)) hx9) (k47 : ∀ (l1 : Int32) (l2 : Int32) (l3 : Int32) (l5 : Int32) (l6 : Int32) (h : jH), 100 - l6.toInt < R47 → 0 ≤ l1.toInt ∧ l1.toInt ≤ 3 → 0 ≤ l2.toInt ∧ l2.toInt ≤ 399 → 0 ≤ l3.toInt ∧ l3.toInt ≤ 146399 → 0 ≤ l6.toInt ∧ l6.toInt ≤ 100 → jJ jSgM Dy h → jSm fp_X12_balanceOf_r125 h0 h → jX m_X12_balanceOf 2 0 0 47 [(0, .ref 125), (1, .int l1), (2, .int l2), (3, .int l3), (5, .int l5), (6, .int l6)] [] h 0 0 Q) : ∀ (l1 : Int32) (l2 : Int32) (l3 : Int32) (l5 : Int32) (l6 : Int32) (h : jH), 0 ≤ l1.toInt ∧ l1.toInt ≤ 3 → 0 ≤ l2.toInt ∧ l2.toInt ≤ 399 → 0 ≤ l3.toInt ∧ l3.toInt ≤ 146399 → 0 ≤ l6.toInt ∧ l6.toInt ≤ 99 → 100 - l6.toInt ≤ R47 → jJ jSgM Dy h → jSm fp_X12_balanceOf_r125 h0 h → jX m_X12_balanceOf 2 0 0 171 [(0, .ref 125), (1, .int l1), (2, .int l2), (3, .int l3), (5, .int l5), (6, .int l6)] [] h 0 0 Q := by
  intro l1 l2 l3 l5 l6 h y0 y1 y2 y3  m47 J Sm
  have el5 := jfull l5
  refine z_iinc (x := l6) (lsx9 := fun v1 => [(6, .int v1), (0, .ref 125), (1, .int l1), (2, .int l2), (3, .int l3), (5, .int l5)]) rfl rfl rfl jko_1 (by omega) rfl (fun _ => rfl) (fun v1 ev1 => ?_)
  refine x_goto (tgt := 47) rfl rfl ?_
  exact jX.sub (jsb_c rfl (jsb_c rfl (jsb_c rfl (jsb_c rfl (jsb_c rfl (jsb_c rfl jsb_n)))))) (k47 l1 l2 l3 l5 v1 h (by omega) (jr_of rfl (by omega)) (jr_of rfl (by omega)) (jr_of rfl (by omega)) (jr_of rfl (by omega)) J Sm)
set_option maxRecDepth 100000 in
set_option maxHeartbeats 4000000 in
theorem ct_X12_balanceOf_r125_200168 {Dy : jH → Prop} {h0 : jH} {Q : Option Value → jH → Prop} {R47 : Int} (hD : jDk Dy) (hQ : ∀ (v : Int32) hx9, jJ jSgM Dy hx9 → jSm fp_X12_balanceOf_r125 h0 hx9 → Q (some (.int v)) hx9) (k47 : ∀ (l1 : Int32) (l2 : Int32) (l3 : Int32) (l5 : Int32) (l6 : Int32) (h : jH), 100 - l6.toInt < R47 → 0 ≤ l1.toInt ∧ l1.toInt ≤ 3 → 0 ≤ l2.toInt ∧ l2.toInt ≤ 399 → 0 ≤ l3.toInt ∧ l3.toInt ≤ 146399 → 0 ≤ l6.toInt ∧ l6.toInt ≤ 100 → jJ jSgM Dy h → jSm fp_X12_balanceOf_r125 h0 h → jX m_X12_balanceOf 2 0 0 47 [(0, .ref 125), (1, .int l1), (2, .int l2), (3, .int l3), (5, .int l5), (6, .int l6)] [] h 0 0 Q) : ∀ (l1 : Int32) (l2 : Int32) (l3 : Int32) (l6 : Int32) (s1 : Int32) (h : jH), 0 ≤ l1.toInt ∧ l1.toInt ≤ 3 → 0 ≤ l2.toInt ∧ l2.toInt ≤ 399 → 0 ≤ l3.toInt ∧ l3.toInt ≤ 146399 → 0 ≤ l6.toInt ∧ l6.toInt ≤ 99 → 100 - l6.toInt ≤ R47 → jJ jSgM Dy h → jSm fp_X12_balanceOf_r125 h0 h → jX m_X12_balanceOf 2 0 0 168 [(0, .ref 125), (1, .int l1), (2, .int l2), (3, .int l3), (6, .int l6)] [.int 0, .int s1] h 0 0 Q := by
  intro l1 l2 l3 l6 s1 h y0 y1 y2 y3  m47 J Sm
  have es1 := jfull s1
  refine z_iadd rfl rfl jk_0 (by omega) (fun v1 ev1 => ?_)
  refine x_istore (lsx9 := [(5, .int v1), (0, .ref 125), (1, .int l1), (2, .int l2), (3, .int l3), (6, .int l6)]) rfl rfl rfl ?_
  exact jX.sub (jsb_c rfl (jsb_c rfl (jsb_c rfl (jsb_c rfl (jsb_c rfl (jsb_c rfl jsb_n)))))) (ct_X12_balanceOf_r125_171 hD hQ k47 l1 l2 l3 v1 l6 h (jr_of rfl (by omega)) (jr_of rfl (by omega)) (jr_of rfl (by omega)) (jr_of rfl (by omega)) (by omega) J Sm)
set_option maxRecDepth 100000 in
set_option maxHeartbeats 4000000 in
theorem ct_X12_balanceOf_r125_168 {Dy : jH → Prop} {h0 : jH} {Q : Option Value → jH → Prop} {R47 : Int} (hD : jDk Dy) (hQ : ∀ (v : Int32) hx9, jJ jSgM Dy hx9 → jSm fp_X12_balanceOf_r125 h0 hx9 → Q (some (.int v)) hx9) (k47 : ∀ (l1 : Int32) (l2 : Int32) (l3 : Int32) (l5 : Int32) (l6 : Int32) (h : jH), 100 - l6.toInt < R47 → 0 ≤ l1.toInt ∧ l1.toInt ≤ 3 → 0 ≤ l2.toInt ∧ l2.toInt ≤ 399 → 0 ≤ l3.toInt ∧ l3.toInt ≤ 146399 → 0 ≤ l6.toInt ∧ l6.toInt ≤ 100 → jJ jSgM Dy h → jSm fp_X12_balanceOf_r125 h0 h → jX m_X12_balanceOf 2 0 0 47 [(0, .ref 125), (1, .int l1), (2, .int l2), (3, .int l3), (5, .int l5), (6, .int l6)] [] h 0 0 Q) : ∀ (l1 : Int32) (l2 : Int32) (l3 : Int32) (l6 : Int32) (s0 : Int32) (s1 : Int32) (h : jH), 0 ≤ l1.toInt ∧ l1.toInt ≤ 3 → 0 ≤ l2.toInt ∧ l2.toInt ≤ 399 → 0 ≤ l3.toInt ∧ l3.toInt ≤ 146399 → 0 ≤ l6.toInt ∧ l6.toInt ≤ 99 → (-1000000) ≤ s0.toInt ∧ s0.toInt ≤ 1000000 → 100 - l6.toInt ≤ R47 → jJ jSgM Dy h → jSm fp_X12_balanceOf_r125 h0 h → jX m_X12_balanceOf 2 0 0 168 [(0, .ref 125), (1, .int l1), (2, .int l2), (3, .int l3), (6, .int l6)] [.int s0, .int s1] h 0 0 Q := by
  intro l1 l2 l3 l6 s0 s1 h y0 y1 y2 y3 y4  m47 J Sm
  have es1 := jfull s1
  refine z_iadd0 rfl (fun v1 => ?_)
  have ev1 := jfull v1
  refine x_istore (lsx9 := [(5, .int v1), (0, .ref 125), (1, .int l1), (2, .int l2), (3, .int l3), (6, .int l6)]) rfl rfl rfl ?_
  exact jX.sub (jsb_c rfl (jsb_c rfl (jsb_c rfl (jsb_c rfl (jsb_c rfl (jsb_c rfl jsb_n)))))) (ct_X12_balanceOf_r125_171 hD hQ k47 l1 l2 l3 v1 l6 h (jr_of rfl (by omega)) (jr_of rfl (by omega)) (jr_of rfl (by omega)) (jr_of rfl (by omega)) (by omega) J Sm)
set_option maxRecDepth 100000 in
set_option maxHeartbeats 4000000 in
theorem ct_X12_balanceOf_r125_147 {Dy : jH → Prop} {h0 : jH} {Q : Option Value → jH → Prop} {R47 : Int} (hD : jDk Dy) (hQ : ∀ (v : Int32) hx9, jJ jSgM Dy hx9 → jSm fp_X12_balanceOf_r125 h0 hx9 → Q (some (.int v)) hx9) (k47 : ∀ (l1 : Int32) (l2 : Int32) (l3 : Int32) (l5 : Int32) (l6 : Int32) (h : jH), 100 - l6.toInt < R47 → 0 ≤ l1.toInt ∧ l1.toInt ≤ 3 → 0 ≤ l2.toInt ∧ l2.toInt ≤ 399 → 0 ≤ l3.toInt ∧ l3.toInt ≤ 146399 → 0 ≤ l6.toInt ∧ l6.toInt ≤ 100 → jJ jSgM Dy h → jSm fp_X12_balanceOf_r125 h0 h → jX m_X12_balanceOf 2 0 0 47 [(0, .ref 125), (1, .int l1), (2, .int l2), (3, .int l3), (5, .int l5), (6, .int l6)] [] h 0 0 Q) : ∀ (l1 : Int32) (l2 : Int32) (l3 : Int32) (l5 : Int32) (l6 : Int32) (l7 : Int32) (l8 : Int32) (h : jH), 0 ≤ l1.toInt ∧ l1.toInt ≤ 3 → 0 ≤ l2.toInt ∧ l2.toInt ≤ 399 → 0 ≤ l3.toInt ∧ l3.toInt ≤ 146399 → 0 ≤ l6.toInt ∧ l6.toInt ≤ 99 → 48960 ≤ l7.toInt ∧ l7.toInt ≤ 49356 → l7.toInt % 4 = 0 → 0 ≤ l8.toInt ∧ l8.toInt ≤ 400 → 100 - l6.toInt ≤ R47 → jJ jSgM Dy h → jSm fp_X12_balanceOf_r125 h0 h → jX m_X12_balanceOf 2 0 0 147 [(0, .ref 125), (1, .int l1), (2, .int l2), (3, .int l3), (5, .int l5), (6, .int l6), (7, .int l7), (8, .int l8)] [] h 0 0 Q := by
  intro l1 l2 l3 l5 l6 l7 l8 h y0 y1 y2 y3 y4 y5 y6  m47 J Sm
  have el5 := jfull l5
  refine x_iload (x := l5) rfl rfl ?_
  refine x_iload (x := l8) rfl rfl ?_
  refine x_iloadn (x := l2) rfl rfl ?_
  refine x_icne (tgt := 167) rfl rfl (ti_ne rfl rfl ⟨fun c1 => ?_, fun c1 => ?_⟩)
  ·
    refine x_iconst (v := 0) rfl ki_0 ?_
    exact jX.sub (jsb_c rfl (jsb_c rfl (jsb_c rfl (jsb_c rfl (jsb_c rfl jsb_n))))) (ct_X12_balanceOf_r125_200168 hD hQ k47 l1 l2 l3 l6 l5 h (jr_of rfl (by omega)) (jr_of rfl (by omega)) (jr_of rfl (by omega)) (jr_of rfl (by omega)) (by omega) J Sm)
  ·
    refine x_aloadn (x := 125) rfl rfl ?_
    refine z_getR (N := 92) (b := 126) 12 2 rfl f_12_8 rfl J rfl 16002 ⟨rfl, rfl⟩ rfl ?_
    refine x_iload (x := l7) rfl rfl ?_
    refine x_iconst (v := 2) rfl ki_2 ?_
    refine z_iadd rfl rfl jk_2 (by omega) (fun v2 ev2 => ?_)
    refine z_iald (N := 50660) rfl J rfl sg_126_48960_49360_4_2_3 rfl (by omega) (fun v3 qv3 ev3 => ?_)
    refine x_goto (tgt := 168) rfl rfl ?_
    exact jX.sub (jsb_c rfl (jsb_c rfl (jsb_c rfl (jsb_c rfl (jsb_c rfl jsb_n))))) (ct_X12_balanceOf_r125_168 hD hQ k47 l1 l2 l3 l6 v3 l5 h (jr_of rfl (by omega)) (jr_of rfl (by omega)) (jr_of rfl (by omega)) (jr_of rfl (by omega)) (jr_of rfl (by omega)) (by omega) J Sm)
set_option maxRecDepth 100000 in
set_option maxHeartbeats 4000000 in
theorem ct_X12_balanceOf_r125_104 {Dy : jH → Prop} {h0 : jH} {Q : Option Value → jH → Prop} {R47 : Int} (hD : jDk Dy) (hQ : ∀ (v : Int32) hx9, jJ jSgM Dy hx9 → jSm fp_X12_balanceOf_r125 h0 hx9 → Q (some (.int v)) hx9) (k47 : ∀ (l1 : Int32) (l2 : Int32) (l3 : Int32) (l5 : Int32) (l6 : Int32) (h : jH), 100 - l6.toInt < R47 → 0 ≤ l1.toInt ∧ l1.toInt ≤ 3 → 0 ≤ l2.toInt ∧ l2.toInt ≤ 399 → 0 ≤ l3.toInt ∧ l3.toInt ≤ 146399 → 0 ≤ l6.toInt ∧ l6.toInt ≤ 100 → jJ jSgM Dy h → jSm fp_X12_balanceOf_r125 h0 h → jX m_X12_balanceOf 2 0 0 47 [(0, .ref 125), (1, .int l1), (2, .int l2), (3, .int l3), (5, .int l5), (6, .int l6)] [] h 0 0 Q) : ∀ r : Nat, ∀ (l1 : Int32) (l2 : Int32) (l3 : Int32) (l5 : Int32) (l6 : Int32) (l7 : Int32) (l8 : Int32) (h : jH), 400 - l8.toInt < (r : Int) → 0 ≤ l1.toInt ∧ l1.toInt ≤ 3 → 0 ≤ l2.toInt ∧ l2.toInt ≤ 399 → 0 ≤ l3.toInt ∧ l3.toInt ≤ 146399 → 0 ≤ l6.toInt ∧ l6.toInt ≤ 99 → 48960 ≤ l7.toInt ∧ l7.toInt ≤ 49356 → l7.toInt % 4 = 0 → 0 ≤ l8.toInt ∧ l8.toInt ≤ 400 → 100 - l6.toInt ≤ R47 → jJ jSgM Dy h → jSm fp_X12_balanceOf_r125 h0 h → jX m_X12_balanceOf 2 0 0 104 [(0, .ref 125), (1, .int l1), (2, .int l2), (3, .int l3), (5, .int l5), (6, .int l6), (7, .int l7), (8, .int l8)] [] h 0 0 Q := by
  intro r
  induction r with
  | zero =>
    intro l1 l2 l3 l5 l6 l7 l8 h hm y0 y1 y2 y3 y4 y5 y6  m47 J Sm
    exfalso
    have el5 := jfull l5
    omega
  | succ r ih =>
    intro l1 l2 l3 l5 l6 l7 l8 h hm y0 y1 y2 y3 y4 y5 y6  m47 J Sm
    have el5 := jfull l5
    refine x_aloadn (x := 125) rfl rfl ?_
    refine x_iloadn (x := l1) rfl rfl ?_
    refine x_iload (x := l8) rfl rfl ?_
    refine x_inv (N := m_X12_closedAt) (As := [.int l1, .int l8]) (b := 125) (st := []) (dx9 := 1) (mc := 0) (ms := 0) (host := "") 12 rfl t_X12_closedAt ⟨Or.inl q_12_845, i_X12_closedAt.1, i_X12_closedAt.2⟩ ⟨by decide, rfl⟩ (congrArg Prod.fst (J.1.1 125 (12, 92) rfl)) rfl (by decide) rfl rfl ⟨by decide, by decide⟩ (sf_X12_closedAt_r125 (jr_of rfl (by omega)) (jr_of rfl (by omega)) hD J  (fun v2 h ev2 xv2 J S1 => ?_))
    have Sm := jSm_tr rfl Sm S1
    show jX m_X12_balanceOf 2 0 0 111 [(0, .ref 125), (1, .int l1), (2, .int l2), (3, .int l3), (5, .int l5), (6, .int l6), (7, .int l7), (8, .int l8)] [.int v2] _ 0 0 _
    refine x_iconst (v := (-1)) rfl ki_m1 ?_
    refine x_iceq (tgt := 147) rfl rfl (ti_eq rfl jk_m1 ⟨fun c3 => ?_, fun c3 => ?_⟩)
    ·
      exact jX.sub (jsb_c rfl (jsb_c rfl (jsb_c rfl (jsb_c rfl (jsb_c rfl (jsb_c rfl (jsb_c rfl (jsb_c rfl jsb_n)))))))) (ct_X12_balanceOf_r125_147 hD hQ k47 l1 l2 l3 l5 l6 l7 l8 h (jr_of rfl (by omega)) (jr_of rfl (by omega)) (jr_of rfl (by omega)) (jr_of rfl (by omega)) (jr_of rfl (by omega)) (jr_mod rfl (by omega)) (jr_of rfl (by omega)) (by omega) J Sm)
    ·
      refine x_aloadn (x := 125) rfl rfl ?_
      refine z_getR (N := 92) (b := 126) 12 2 rfl f_12_8 rfl J rfl 16002 ⟨rfl, rfl⟩ rfl ?_
      refine x_aloadn (x := 125) rfl rfl ?_
      refine x_iloadn (x := l1) rfl rfl ?_
      refine x_iload (x := l8) rfl rfl ?_
      refine x_inv (N := m_X12_closedAt) (As := [.int l1, .int l8]) (b := 125) (st := [.ref 126]) (dx9 := 1) (mc := 0) (ms := 0) (host := "") 12 rfl t_X12_closedAt ⟨Or.inl q_12_845, i_X12_closedAt.1, i_X12_closedAt.2⟩ ⟨by decide, rfl⟩ (congrArg Prod.fst (J.1.1 125 (12, 92) rfl)) rfl (by decide) rfl rfl ⟨by decide, by decide⟩ (sf_X12_closedAt_r125 (jr_of rfl (by omega)) (jr_of rfl (by omega)) hD J  (fun v5 h ev5 xv5 J S4 => ?_))
      have Sm := jSm_tr rfl Sm S4
      show jX m_X12_balanceOf 2 0 0 126 [(0, .ref 125), (1, .int l1), (2, .int l2), (3, .int l3), (5, .int l5), (6, .int l6), (7, .int l7), (8, .int l8)] [.int v5, .ref 126] _ 0 0 _
      refine x_iconst (v := 3) rfl ki_3 ?_
      refine z_iadd rfl rfl jk_3 (by omega) (fun v6 ev6 => ?_)
      refine z_iald0 (N := 50660) rfl J rfl rfl (by omega) (fun v7 qv7 => ?_)
      have ev7 := jfull v7
      refine x_aloadn (x := 125) rfl rfl ?_
      refine z_getR (N := 92) (b := 126) 12 2 rfl f_12_8 rfl J rfl 16002 ⟨rfl, rfl⟩ rfl ?_
      refine x_iload (x := l7) rfl rfl ?_
      refine x_iconst (v := 3) rfl ki_3 ?_
      refine z_iadd rfl rfl jk_3 (by omega) (fun v8 ev8 => ?_)
      refine z_iald (N := 50660) rfl J rfl sg_126_48960_49360_4_3_4 rfl (by omega) (fun v9 qv9 ev9 => ?_)
      refine x_icge (tgt := 147) rfl rfl (ti_ge rfl rfl ⟨fun c10 => ?_, fun c10 => ?_⟩)
      ·
        exact jX.sub (jsb_c rfl (jsb_c rfl (jsb_c rfl (jsb_c rfl (jsb_c rfl (jsb_c rfl (jsb_c rfl (jsb_c rfl jsb_n)))))))) (ct_X12_balanceOf_r125_147 hD hQ k47 l1 l2 l3 l5 l6 l7 l8 h (jr_of rfl (by omega)) (jr_of rfl (by omega)) (jr_of rfl (by omega)) (jr_of rfl (by omega)) (jr_of rfl (by omega)) (jr_mod rfl (by omega)) (jr_of rfl (by omega)) (by omega) J Sm)
      ·
        refine z_iinc (x := l8) (lsx9 := fun v11 => [(8, .int v11), (0, .ref 125), (1, .int l1), (2, .int l2), (3, .int l3), (5, .int l5), (6, .int l6), (7, .int l7)]) rfl rfl rfl jko_1 (by omega) rfl (fun _ => rfl) (fun v11 ev11 => ?_)
        refine x_goto (tgt := 104) rfl rfl ?_
        exact jX.sub (jsb_c rfl (jsb_c rfl (jsb_c rfl (jsb_c rfl (jsb_c rfl (jsb_c rfl (jsb_c rfl (jsb_c rfl jsb_n)))))))) (ih l1 l2 l3 l5 l6 l7 v11 h (by omega) (jr_of rfl (by omega)) (jr_of rfl (by omega)) (jr_of rfl (by omega)) (jr_of rfl (by omega)) (jr_of rfl (by omega)) (jr_mod rfl (by omega)) (jr_of rfl (by omega)) (by omega) J Sm)
set_option maxRecDepth 100000 in
set_option maxHeartbeats 4000000 in
theorem ct_X12_balanceOf_r125_47 {Dy : jH → Prop} {h0 : jH} {Q : Option Value → jH → Prop} (hD : jDk Dy) (hQ : ∀ (v : Int32) hx9, jJ jSgM Dy hx9 → jSm fp_X12_balanceOf_r125 h0 hx9 → Q (some (.int v)) hx9) : ∀ r : Nat, ∀ (l1 : Int32) (l2 : Int32) (l3 : Int32) (l5 : Int32) (l6 : Int32) (h : jH), 100 - l6.toInt < (r : Int) → 0 ≤ l1.toInt ∧ l1.toInt ≤ 3 → 0 ≤ l2.toInt ∧ l2.toInt ≤ 399 → 0 ≤ l3.toInt ∧ l3.toInt ≤ 146399 → 0 ≤ l6.toInt ∧ l6.toInt ≤ 100 → jJ jSgM Dy h → jSm fp_X12_balanceOf_r125 h0 h → jX m_X12_balanceOf 2 0 0 47 [(0, .ref 125), (1, .int l1), (2, .int l2), (3, .int l3), (5, .int l5), (6, .int l6)] [] h 0 0 Q := by
  intro r
  induction r with
  | zero =>
    intro l1 l2 l3 l5 l6 h hm y0 y1 y2 y3   J Sm
    exfalso
    have el5 := jfull l5
    omega
  | succ r ih =>
    intro l1 l2 l3 l5 l6 h hm y0 y1 y2 y3   J Sm
    have el5 := jfull l5
    refine x_iload (x := l6) rfl rfl ?_
    refine x_aloadn (x := 125) rfl rfl ?_
    refine z_getR (N := 92) (b := 126) 12 2 rfl f_12_8 rfl J rfl 16002 ⟨rfl, rfl⟩ rfl ?_
    refine x_bipush (v := 13) rfl kb_13 ?_
    refine z_iald (N := 50660) rfl J rfl sg_126_13_14_1_0_1 jk_13 (by omega) (fun v1 qv1 ev1 => ?_)
    refine x_icge (tgt := 177) rfl rfl (ti_ge rfl rfl ⟨fun c2 => ?_, fun c2 => ?_⟩)
    ·
      refine x_iload (x := l5) rfl rfl ?_
      refine x_iret rfl rfl ?_
      exact hQ _ _ J Sm
    ·
      refine x_ldcw (v := 48960) rfl z_12_843 ?_
      refine x_iconst (v := 4) rfl ki_4 ?_
      refine x_iload (x := l6) rfl rfl ?_
      refine z_imul rfl jk_4 rfl (by omega) (fun v3 ev3 => ?_)
      refine z_iadd rfl jk_48960 rfl (by omega) (fun v4 ev4 => ?_)
      refine x_istore (lsx9 := [(7, .int v4), (0, .ref 125), (1, .int l1), (2, .int l2), (3, .int l3), (5, .int l5), (6, .int l6)]) rfl rfl rfl ?_
      refine x_aloadn (x := 125) rfl rfl ?_
      refine z_getR (N := 92) (b := 126) 12 2 rfl f_12_8 rfl J rfl 16002 ⟨rfl, rfl⟩ rfl ?_
      refine x_iload (x := v4) rfl rfl ?_
      refine z_iald (N := 50660) rfl J rfl sg_126_48960_49360_4_0_1 rfl (by omega) (fun v5 qv5 ev5 => ?_)
      refine x_iloadn (x := l1) rfl rfl ?_
      refine x_icne (tgt := 171) rfl rfl (ti_ne rfl rfl ⟨fun c6 => ?_, fun c6 => ?_⟩)
      ·
        exact jX.sub (jsb_c rfl (jsb_c rfl (jsb_c rfl (jsb_c rfl (jsb_c rfl (jsb_c rfl jsb_n)))))) (ct_X12_balanceOf_r125_171 hD hQ ih l1 l2 l3 l5 l6 h (jr_of rfl (by omega)) (jr_of rfl (by omega)) (jr_of rfl (by omega)) (jr_of rfl (by omega)) (by omega) J Sm)
      ·
        refine x_aloadn (x := 125) rfl rfl ?_
        refine z_getR (N := 92) (b := 126) 12 2 rfl f_12_8 rfl J rfl 16002 ⟨rfl, rfl⟩ rfl ?_
        refine x_iload (x := v4) rfl rfl ?_
        refine x_iconst (v := 3) rfl ki_3 ?_
        refine z_iadd rfl rfl jk_3 (by omega) (fun v7 ev7 => ?_)
        refine z_iald (N := 50660) rfl J rfl sg_126_48960_49360_4_3_4 rfl (by omega) (fun v8 qv8 ev8 => ?_)
        refine x_iloadn (x := l3) rfl rfl ?_
        refine x_icgt (tgt := 171) rfl rfl (ti_gt rfl rfl ⟨fun c9 => ?_, fun c9 => ?_⟩)
        ·
          exact jX.sub (jsb_c rfl (jsb_c rfl (jsb_c rfl (jsb_c rfl (jsb_c rfl (jsb_c rfl jsb_n)))))) (ct_X12_balanceOf_r125_171 hD hQ ih l1 l2 l3 l5 l6 h (jr_of rfl (by omega)) (jr_of rfl (by omega)) (jr_of rfl (by omega)) (jr_of rfl (by omega)) (by omega) J Sm)
        ·
          refine x_aloadn (x := 125) rfl rfl ?_
          refine z_getR (N := 92) (b := 126) 12 2 rfl f_12_8 rfl J rfl 16002 ⟨rfl, rfl⟩ rfl ?_
          refine x_iload (x := v4) rfl rfl ?_
          refine x_iconst (v := 1) rfl ki_1 ?_
          refine z_iadd rfl rfl jk_1 (by omega) (fun v10 ev10 => ?_)
          refine z_iald (N := 50660) rfl J rfl sg_126_48960_49360_4_1_2 rfl (by omega) (fun v11 qv11 ev11 => ?_)
          refine x_istore (lsx9 := [(8, .int v11), (7, .int v4), (0, .ref 125), (1, .int l1), (2, .int l2), (3, .int l3), (5, .int l5), (6, .int l6)]) rfl rfl rfl ?_
          exact jX.sub (jsb_c rfl (jsb_c rfl (jsb_c rfl (jsb_c rfl (jsb_c rfl (jsb_c rfl (jsb_c rfl (jsb_c rfl jsb_n)))))))) (ct_X12_balanceOf_r125_104 hD hQ ih 401 l1 l2 l3 l5 l6 v4 v11 h (by omega) (jr_of rfl (by omega)) (jr_of rfl (by omega)) (jr_of rfl (by omega)) (jr_of rfl (by omega)) (jr_of rfl (by omega)) (jr_mod rfl (by omega)) (jr_of rfl (by omega)) (by omega) J Sm)
set_option maxRecDepth 100000 in
set_option maxHeartbeats 4000000 in
theorem ct_X12_balanceOf_r125_42 {Dy : jH → Prop} {h0 : jH} {Q : Option Value → jH → Prop} (hD : jDk Dy) (hQ : ∀ (v : Int32) hx9, jJ jSgM Dy hx9 → jSm fp_X12_balanceOf_r125 h0 hx9 → Q (some (.int v)) hx9) : ∀ (l1 : Int32) (l2 : Int32) (l3 : Int32) (s0 : Int32) (h : jH), 0 ≤ l1.toInt ∧ l1.toInt ≤ 3 → 1 ≤ l2.toInt ∧ l2.toInt ≤ 399 → 0 ≤ l3.toInt ∧ l3.toInt ≤ 146399 → jJ jSgM Dy h → jSm fp_X12_balanceOf_r125 h0 h → jX m_X12_balanceOf 2 0 0 42 [(0, .ref 125), (1, .int l1), (2, .int l2), (3, .int l3)] [.int s0] h 0 0 Q := by
  intro l1 l2 l3 s0 h y0 y1 y2   J Sm
  have es0 := jfull s0
  refine x_istore (lsx9 := [(5, .int s0), (0, .ref 125), (1, .int l1), (2, .int l2), (3, .int l3)]) rfl rfl rfl ?_
  refine x_iconst (v := 0) rfl ki_0 ?_
  refine x_istore (lsx9 := [(6, .int 0), (5, .int s0), (0, .ref 125), (1, .int l1), (2, .int l2), (3, .int l3)]) rfl rfl rfl ?_
  exact jX.sub (jsb_c rfl (jsb_c rfl (jsb_c rfl (jsb_c rfl (jsb_c rfl (jsb_c rfl jsb_n)))))) (ct_X12_balanceOf_r125_47 hD hQ  101 l1 l2 l3 s0 0 h (by have := jk_0; omega) (jr_of rfl (by omega)) (jr_of rfl (by omega)) (jr_of rfl (by omega)) (jr_of jk_0 (by omega)) J Sm)
set_option maxRecDepth 100000 in
set_option maxHeartbeats 4000000 in
theorem ct_X12_balanceOf_r125_200042 {Dy : jH → Prop} {h0 : jH} {Q : Option Value → jH → Prop} (hD : jDk Dy) (hQ : ∀ (v : Int32) hx9, jJ jSgM Dy hx9 → jSm fp_X12_balanceOf_r125 h0 hx9 → Q (some (.int v)) hx9) : ∀ (l1 : Int32) (l2 : Int32) (l3 : Int32) (h : jH), 0 ≤ l1.toInt ∧ l1.toInt ≤ 3 → 0 ≤ l2.toInt ∧ l2.toInt ≤ 399 → 0 ≤ l3.toInt ∧ l3.toInt ≤ 146399 → jJ jSgM Dy h → jSm fp_X12_balanceOf_r125 h0 h → jX m_X12_balanceOf 2 0 0 42 [(0, .ref 125), (1, .int l1), (2, .int l2), (3, .int l3)] [.int 0] h 0 0 Q := by
  intro l1 l2 l3 h y0 y1 y2   J Sm
  refine x_istore (lsx9 := [(5, .int 0), (0, .ref 125), (1, .int l1), (2, .int l2), (3, .int l3)]) rfl rfl rfl ?_
  refine x_iconst (v := 0) rfl ki_0 ?_
  refine x_istore (lsx9 := [(6, .int 0), (5, .int 0), (0, .ref 125), (1, .int l1), (2, .int l2), (3, .int l3)]) rfl rfl rfl ?_
  exact jX.sub (jsb_c rfl (jsb_c rfl (jsb_c rfl (jsb_c rfl (jsb_c rfl (jsb_c rfl jsb_n)))))) (ct_X12_balanceOf_r125_47 hD hQ  101 l1 l2 l3 0 0 h (by have := jk_0; omega) (jr_of rfl (by omega)) (jr_of rfl (by omega)) (jr_of rfl (by omega)) (jr_of jk_0 (by omega)) J Sm)
set_option maxRecDepth 100000 in
set_option maxHeartbeats 4000000 in
theorem ct_X12_balanceOf_r125_41 {Dy : jH → Prop} {h0 : jH} {Q : Option Value → jH → Prop} (hD : jDk Dy) (hQ : ∀ (v : Int32) hx9, jJ jSgM Dy hx9 → jSm fp_X12_balanceOf_r125 h0 hx9 → Q (some (.int v)) hx9) : ∀ (l1 : Int32) (l2 : Int32) (l3 : Int32) (h : jH), 0 ≤ l1.toInt ∧ l1.toInt ≤ 3 → 0 ≤ l2.toInt ∧ l2.toInt ≤ 399 → 0 ≤ l3.toInt ∧ l3.toInt ≤ 146399 → jJ jSgM Dy h → jSm fp_X12_balanceOf_r125 h0 h → jX m_X12_balanceOf 2 0 0 41 [(0, .ref 125), (1, .int l1), (2, .int l2), (3, .int l3)] [] h 0 0 Q := by
  intro l1 l2 l3 h y0 y1 y2   J Sm
  refine x_iconst (v := 0) rfl ki_0 ?_
  exact jX.sub (jsb_c rfl (jsb_c rfl (jsb_c rfl (jsb_c rfl jsb_n)))) (ct_X12_balanceOf_r125_200042 hD hQ  l1 l2 l3 h (jr_of rfl (by omega)) (jr_of rfl (by omega)) (jr_of rfl (by omega)) J Sm)
set_option maxRecDepth 100000 in
set_option maxHeartbeats 4000000 in
theorem sf_X12_balanceOf_r125 {Dy : jH → Prop} {h : jH} {Q : Option Value → jH → Prop} {a1 : Int32} {a2 : Int32} {a3 : Int32} (y1 : 0 ≤ a1.toInt ∧ a1.toInt ≤ 3) (y2 : 0 ≤ a2.toInt ∧ a2.toInt ≤ 399) (y3 : 0 ≤ a3.toInt ∧ a3.toInt ≤ 146399) (hD : jDk Dy) (J : jJ jSgM Dy h) (hQ : ∀ (v : Int32) hx9, jJ jSgM Dy hx9 → jSm fp_X12_balanceOf_r125 h hx9 → Q (some (.int v)) hx9) : jC m_X12_balanceOf 2 0 0 [.ref 125, .int a1, .int a2, .int a3] h Q := by
  refine jC.of rfl k_X12_balanceOf rfl ?_
  have Sm := jSm_rf fp_X12_balanceOf_r125 h
  show jX m_X12_balanceOf 2 0 0 0 [(0, .ref 125), (1, .int a1), (2, .int a2), (3, .int a3)] [] _ 0 0 _
  refine x_aloadn (x := 125) rfl rfl ?_
  refine x_iloadn (x := a1) rfl rfl ?_
  refine x_iloadn (x := a2) rfl rfl ?_
  refine x_iconst (v := 1) rfl ki_1 ?_
  refine z_isub rfl rfl jk_1 (by omega) (fun v1 ev1 => ?_)
  refine x_inv (N := m_X12_closedAt) (As := [.int a1, .int v1]) (b := 125) (st := []) (dx9 := 1) (mc := 0) (ms := 0) (host := "") 12 rfl t_X12_closedAt ⟨Or.inl q_12_845, i_X12_closedAt.1, i_X12_closedAt.2⟩ ⟨by decide, rfl⟩ (congrArg Prod.fst (J.1.1 125 (12, 92) rfl)) rfl (by decide) rfl rfl ⟨by decide, by decide⟩ (sf_X12_closedAt_r125 (jr_of rfl (by omega)) (jr_of rfl (by omega)) hD J  (fun v3 h ev3 xv3 J S2 => ?_))
  have Sm := jSm_tr rfl Sm S2
  show jX m_X12_balanceOf 2 0 0 8 [(0, .ref 125), (1, .int a1), (2, .int a2), (3, .int a3)] [.int v3] _ 0 0 _
  refine x_istore (lsx9 := [(4, .int v3), (0, .ref 125), (1, .int a1), (2, .int a2), (3, .int a3)]) rfl rfl rfl ?_
  refine x_iload (x := v3) rfl rfl ?_
  refine x_iconst (v := (-1)) rfl ki_m1 ?_
  refine x_iceq (tgt := 41) rfl rfl (ti_eq rfl jk_m1 ⟨fun c4 => ?_, fun c4 => ?_⟩)
  ·
    exact jX.sub (jsb_c rfl (jsb_c rfl (jsb_c rfl (jsb_c rfl jsb_n)))) (ct_X12_balanceOf_r125_41 hD hQ  a1 a2 a3 h (jr_of rfl (by omega)) (jr_of rfl (by omega)) (jr_of rfl (by omega)) J Sm)
  ·
    refine x_aloadn (x := 125) rfl rfl ?_
    refine z_getR (N := 92) (b := 126) 12 2 rfl f_12_8 rfl J rfl 16002 ⟨rfl, rfl⟩ rfl ?_
    refine x_iload (x := v3) rfl rfl ?_
    refine x_iconst (v := 3) rfl ki_3 ?_
    refine z_iadd rfl rfl jk_3 (by omega) (fun v5 ev5 => ?_)
    refine z_iald0 (N := 50660) rfl J rfl rfl (by omega) (fun v6 qv6 => ?_)
    have ev6 := jfull v6
    refine x_iloadn (x := a3) rfl rfl ?_
    refine x_icgt (tgt := 41) rfl rfl (ti_gt rfl rfl ⟨fun c7 => ?_, fun c7 => ?_⟩)
    ·
      exact jX.sub (jsb_c rfl (jsb_c rfl (jsb_c rfl (jsb_c rfl jsb_n)))) (ct_X12_balanceOf_r125_41 hD hQ  a1 a2 a3 h (jr_of rfl (by omega)) (jr_of rfl (by omega)) (jr_of rfl (by omega)) J Sm)
    ·
      refine x_aloadn (x := 125) rfl rfl ?_
      refine z_getR (N := 92) (b := 126) 12 2 rfl f_12_8 rfl J rfl 16002 ⟨rfl, rfl⟩ rfl ?_
      refine x_iload (x := v3) rfl rfl ?_
      refine x_iconst (v := 2) rfl ki_2 ?_
      refine z_iadd rfl rfl jk_2 (by omega) (fun v8 ev8 => ?_)
      refine z_iald0 (N := 50660) rfl J rfl rfl (by omega) (fun v9 qv9 => ?_)
      have ev9 := jfull v9
      refine x_goto (tgt := 42) rfl rfl ?_
      exact jX.sub (jsb_c rfl (jsb_c rfl (jsb_c rfl (jsb_c rfl jsb_n)))) (ct_X12_balanceOf_r125_42 hD hQ  a1 a2 a3 v9 h (jr_of rfl (by omega)) (jr_of rfl (by omega)) (jr_of rfl (by omega)) J Sm)
def fp_X12_balance_r125 : jFp := [(125, 0, 1)]
set_option maxRecDepth 100000 in
set_option maxHeartbeats 4000000 in
theorem ct_X12_balance_r125_44 {Dy : jH → Prop} {h0 : jH} {Q : Option Value → jH → Prop} (hD : jDk Dy) (hQ : ∀ (v : Int32) hx9, jJ jSgM Dy hx9 → jSm fp_X12_balance_r125 h0 hx9 → Q (some (.int v)) hx9) : ∀ (s0 : Int32) (h : jH), jJ jSgM Dy h → jSm fp_X12_balance_r125 h0 h → jX m_X12_balance 3 0 0 44 [] [.int s0] h 0 0 Q := by
  intro s0 h    J Sm
  have es0 := jfull s0
  refine x_iret rfl rfl ?_
  exact hQ _ _ J Sm
set_option maxRecDepth 100000 in
set_option maxHeartbeats 4000000 in
theorem ct_X12_balance_r125_41 {Dy : jH → Prop} {h0 : jH} {Q : Option Value → jH → Prop} (hD : jDk Dy) (hQ : ∀ (v : Int32) hx9, jJ jSgM Dy hx9 → jSm fp_X12_balance_r125 h0 hx9 → Q (some (.int v)) hx9) : ∀ (h : jH), jJ jSgM Dy h → jSm fp_X12_balance_r125 h0 h → jX m_X12_balance 3 0 0 41 [] [] h 0 0 Q := by
  intro  h    J Sm
  refine x_ldcw (v := (-2000000000)) rfl z_12_831 ?_
  exact jX.sub jsb_n (ct_X12_balance_r125_44 hD hQ  (-2000000000) h J Sm)
set_option maxRecDepth 100000 in
set_option maxHeartbeats 4000000 in
theorem sf_X12_balance_r125 {Dy : jH → Prop} {h : jH} {Q : Option Value → jH → Prop} {a1 : Int32} {a2 : Int32} {a3 : Int32} (hD : jDk Dy) (J : jJ jSgM Dy h) (hQ : ∀ (v : Int32) hx9, jJ jSgM Dy hx9 → jSm fp_X12_balance_r125 h hx9 → Q (some (.int v)) hx9) : jC m_X12_balance 3 0 0 [.ref 125, .int a1, .int a2, .int a3] h Q := by
  refine jC.of rfl k_X12_balance rfl ?_
  have Sm := jSm_rf fp_X12_balance_r125 h
  have ea1 := jfull a1
  have ea2 := jfull a2
  have ea3 := jfull a3
  show jX m_X12_balance 3 0 0 0 [(0, .ref 125), (1, .int a1), (2, .int a2), (3, .int a3)] [] _ 0 0 _
  refine x_aloadn (x := 125) rfl rfl ?_
  refine x_iconst (v := 0) rfl ki_0 ?_
  refine z_putI (N := 92) (w := 0) 12 0 rfl f_12_180 rfl (jfin_no TX12 RX12 92 rfl rfl) hD J Sm rfl rfl jk_0 (pw_125_0 (by omega)) rfl (fun h w1 J Sm => ?_)
  refine x_iloadn (x := a1) rfl rfl ?_
  refine z_i2l rfl rfl (fun v2 ev2 => ?_)
  refine x_lconst (v := 0) rfl kl_0 ?_
  refine x_ldc2 (v := 3) rfl z_12_195 ?_
  refine x_inst (N := m_X12_in) (As := [.long v2, .long 0, .long 3]) (st := []) (dx9 := 1) (mc := 0) (ms := 0) (host := "") rfl t_X12_in ⟨Or.inl q_12_188, s_X12_in⟩ rfl (by decide) rfl rfl ⟨by decide, by decide⟩ (zc_X12_in rfl jkl_0 jkl_3 (fun v3 ev3 => ?_))
  show jX m_X12_balance 3 0 0 14 [(0, .ref 125), (1, .int a1), (2, .int a2), (3, .int a3)] [.int v3] _ 0 0 _
  refine x_ifeq (tgt := 41) rfl rfl (ti_eq rfl jk_0 ⟨fun c4 => ?_, fun c4 => ?_⟩)
  ·
    exact jX.sub jsb_n (ct_X12_balance_r125_41 hD hQ  h J Sm)
  ·
    refine x_iloadn (x := a2) rfl rfl ?_
    refine x_inst (N := m_X12_isYear) (As := [.int a2]) (st := []) (dx9 := 2) (mc := 0) (ms := 0) (host := "") rfl t_X12_isYear ⟨Or.inl q_12_817, s_X12_isYear⟩ rfl (by decide) rfl rfl ⟨by decide, by decide⟩ (zc_X12_isYear (d := 1) rfl (fun v5 ev5 => ?_))
    show jX m_X12_balance 3 0 0 21 [(0, .ref 125), (1, .int a1), (2, .int a2), (3, .int a3)] [.int v5] _ 0 0 _
    refine x_ifeq (tgt := 41) rfl rfl (ti_eq rfl jk_0 ⟨fun c6 => ?_, fun c6 => ?_⟩)
    ·
      exact jX.sub jsb_n (ct_X12_balance_r125_41 hD hQ  h J Sm)
    ·
      refine x_iloadn (x := a3) rfl rfl ?_
      refine x_inst (N := m_X12_isDay) (As := [.int a3]) (st := []) (dx9 := 2) (mc := 0) (ms := 0) (host := "") rfl t_X12_isDay ⟨Or.inl q_12_273, s_X12_isDay⟩ rfl (by decide) rfl rfl ⟨by decide, by decide⟩ (zc_X12_isDay (d := 1) rfl (fun v7 ev7 => ?_))
      show jX m_X12_balance 3 0 0 28 [(0, .ref 125), (1, .int a1), (2, .int a2), (3, .int a3)] [.int v7] _ 0 0 _
      refine x_ifeq (tgt := 41) rfl rfl (ti_eq rfl jk_0 ⟨fun c8 => ?_, fun c8 => ?_⟩)
      ·
        exact jX.sub jsb_n (ct_X12_balance_r125_41 hD hQ  h J Sm)
      ·
        refine x_aloadn (x := 125) rfl rfl ?_
        refine x_iloadn (x := a1) rfl rfl ?_
        refine x_iloadn (x := a2) rfl rfl ?_
        refine x_iloadn (x := a3) rfl rfl ?_
        refine x_inv (N := m_X12_balanceOf) (As := [.int a1, .int a2, .int a3]) (b := 125) (st := []) (dx9 := 2) (mc := 0) (ms := 0) (host := "") 12 rfl t_X12_balanceOf ⟨Or.inl q_12_848, i_X12_balanceOf.1, i_X12_balanceOf.2⟩ ⟨by decide, rfl⟩ (congrArg Prod.fst (J.1.1 125 (12, 92) rfl)) rfl (by decide) rfl rfl ⟨by decide, by decide⟩ (sf_X12_balanceOf_r125 (jr_of rfl (by omega)) (jr_of rfl (by omega)) (jr_of rfl (by omega)) hD J  (fun v10 h J S9 => ?_))
        have ev10 := jfull v10
        have Sm := jSm_tr rfl Sm S9
        show jX m_X12_balance 3 0 0 38 [(0, .ref 125), (1, .int a1), (2, .int a2), (3, .int a3)] [.int v10] _ 0 0 _
        refine x_goto (tgt := 44) rfl rfl ?_
        exact jX.sub jsb_n (ct_X12_balance_r125_44 hD hQ  v10 h J Sm)
def fp_X12_inner_r125 : jFp := []
set_option maxRecDepth 100000 in
set_option maxHeartbeats 4000000 in
theorem ct_X12_inner_r125_33 {Dy : jH → Prop} {h0 : jH} {Q : Option Value → jH → Prop} {R4 : Int} (hD : jDk Dy) (hQ : ∀ (v : Int32) hx9, (-1) ≤ v.toInt ∧ v.toInt ≤ 2147483647 → jJ jSgM Dy hx9 → jSm fp_X12_inner_r125 h0 hx9 → jIr (jiv hx9 150) v (jnL hx9) → Q (some (.int v)) hx9) (k4 : ∀ (l1 : Int32) (l2 : Int32) (g0 : Int32) (h : jH), 400 - l2.toInt < R4 → (-1) ≤ l1.toInt ∧ l1.toInt ≤ 2147483647 → 0 ≤ l2.toInt ∧ l2.toInt ≤ 400 → 0 ≤ g0.toInt ∧ g0.toInt ≤ 400 → (jIr (jiv h 150) l1 l2.toNatClampNeg ∧ l2.toInt ≤ g0.toInt) → jiv h 125 55 = g0 → jJ jSgM Dy h → jSm fp_X12_inner_r125 h0 h → jX m_X12_inner 1 0 0 4 [(0, .ref 125), (1, .int l1), (2, .int l2)] [] h 0 0 Q) : ∀ (l2 : Int32) (s0 : Int32) (g0 : Int32) (h : jH), 0 ≤ l2.toInt ∧ l2.toInt ≤ 399 → (-1) ≤ s0.toInt ∧ s0.toInt ≤ 2147483647 → 1 ≤ g0.toInt ∧ g0.toInt ≤ 400 → (jIr (jiv h 150) s0 (l2.toNatClampNeg + 1) ∧ l2.toInt < g0.toInt) → jiv h 125 55 = g0 → 400 - l2.toInt ≤ R4 → jJ jSgM Dy h → jSm fp_X12_inner_r125 h0 h → jX m_X12_inner 1 0 0 33 [(0, .ref 125), (2, .int l2)] [.int s0] h 0 0 Q := by
  intro l2 s0 g0 h y0 y1 y2 C0 z0 m4 J Sm
  refine x_istoren (lsx9 := [(1, .int s0), (0, .ref 125), (2, .int l2)]) rfl rfl rfl ?_
  refine z_iinc (x := l2) (lsx9 := fun v1 => [(2, .int v1), (1, .int s0), (0, .ref 125)]) rfl rfl rfl jko_1 (by omega) rfl (fun _ => rfl) (fun v1 ev1 => ?_)
  refine x_goto (tgt := 4) rfl rfl ?_
  exact jX.sub (jsb_c rfl (jsb_c rfl (jsb_c rfl jsb_n))) (k4 s0 v1 g0 h (by omega) (jr_of rfl (by omega)) (jr_of rfl (by omega)) (jr_of rfl (by omega)) ⟨(jir_n C0.1 (by omega)), (by have := C0.2; omega)⟩ z0 J Sm)
set_option maxRecDepth 100000 in
set_option maxHeartbeats 4000000 in
theorem ct_X12_inner_r125_4 {Dy : jH → Prop} {h0 : jH} {Q : Option Value → jH → Prop} (hD : jDk Dy) (hQ : ∀ (v : Int32) hx9, (-1) ≤ v.toInt ∧ v.toInt ≤ 2147483647 → jJ jSgM Dy hx9 → jSm fp_X12_inner_r125 h0 hx9 → jIr (jiv hx9 150) v (jnL hx9) → Q (some (.int v)) hx9) : ∀ r : Nat, ∀ (l1 : Int32) (l2 : Int32) (g0 : Int32) (h : jH), 400 - l2.toInt < (r : Int) → (-1) ≤ l1.toInt ∧ l1.toInt ≤ 2147483647 → 0 ≤ l2.toInt ∧ l2.toInt ≤ 400 → 0 ≤ g0.toInt ∧ g0.toInt ≤ 400 → (jIr (jiv h 150) l1 l2.toNatClampNeg ∧ l2.toInt ≤ g0.toInt) → jiv h 125 55 = g0 → jJ jSgM Dy h → jSm fp_X12_inner_r125 h0 h → jX m_X12_inner 1 0 0 4 [(0, .ref 125), (1, .int l1), (2, .int l2)] [] h 0 0 Q := by
  intro r
  induction r with
  | zero =>
    intro l1 l2 g0 h hm y0 y1 y2 C0 z0  J Sm
    exfalso
    omega
  | succ r ih =>
    intro l1 l2 g0 h hm y0 y1 y2 C0 z0  J Sm
    refine x_iloadn (x := l2) rfl rfl ?_
    refine x_aloadn (x := 125) rfl rfl ?_
    refine z_getM (N := 92) (v := g0) 12 55 rfl f_12_496 rfl J rfl z0 ?_
    refine x_icge (tgt := 40) rfl rfl (ti_ge rfl rfl ⟨fun c1 => ?_, fun c1 => ?_⟩)
    ·
      refine x_iloadn (x := l1) rfl rfl ?_
      refine x_iret rfl rfl ?_
      exact hQ _ _ (jr_of rfl (by omega)) J Sm (jir_x C0.1 z0 (by have := C0.2; omega))
    ·
      refine x_aloadn (x := 125) rfl rfl ?_
      refine z_getR (N := 92) (b := 150) 12 53 rfl f_12_105 rfl J rfl 16053 ⟨rfl, rfl⟩ rfl ?_
      refine x_iloadn (x := l2) rfl rfl ?_
      refine z_iald0 (N := 400) rfl J rfl rfl (by omega) (fun v2 qv2 => ?_)
      have ev2 := jfull v2
      refine x_bipush (v := 30) rfl kb_30 ?_
      refine x_iclt (tgt := 32) rfl rfl (ti_lt rfl jk_30 ⟨fun c3 => ?_, fun c3 => ?_⟩)
      ·
        refine x_iloadn (x := l1) rfl rfl ?_
        exact jX.sub (jsb_c rfl (jsb_c rfl jsb_n)) (ct_X12_inner_r125_33 hD hQ ih l2 l1 g0 h (jr_of rfl (by omega)) (jr_of rfl (by omega)) (jr_of rfl (by omega)) ⟨(jir_f C0.1 qv2 (by omega)), (by omega)⟩ z0 (by omega) J Sm)
      ·
        refine x_aloadn (x := 125) rfl rfl ?_
        refine z_getR (N := 92) (b := 150) 12 53 rfl f_12_105 rfl J rfl 16053 ⟨rfl, rfl⟩ rfl ?_
        refine x_iloadn (x := l2) rfl rfl ?_
        refine z_ialdM (N := 400) (v := v2) rfl J rfl rfl (by omega) qv2 ?_
        refine x_goto (tgt := 33) rfl rfl ?_
        exact jX.sub (jsb_c rfl (jsb_c rfl jsb_n)) (ct_X12_inner_r125_33 hD hQ ih l2 v2 g0 h (jr_of rfl (by omega)) (jr_of rfl (by omega)) (jr_of rfl (by omega)) ⟨(jir_t qv2 (by omega)), (by omega)⟩ z0 (by omega) J Sm)
set_option maxRecDepth 100000 in
set_option maxHeartbeats 4000000 in
theorem sf_X12_inner_r125 {Dy : jH → Prop} {h : jH} {Q : Option Value → jH → Prop} (hD : jDk Dy) (J : jJ jSgM Dy h) (hQ : ∀ (v : Int32) hx9, (-1) ≤ v.toInt ∧ v.toInt ≤ 2147483647 → jJ jSgM Dy hx9 → jSm fp_X12_inner_r125 h hx9 → jIr (jiv hx9 150) v (jnL hx9) → Q (some (.int v)) hx9) : jC m_X12_inner 1 0 0 [.ref 125] h Q := by
  refine jC.of rfl k_X12_inner rfl ?_
  have Sm := jSm_rf fp_X12_inner_r125 h
  show jX m_X12_inner 1 0 0 0 [(0, .ref 125)] [] _ 0 0 _
  refine x_iconst (v := (-1)) rfl ki_m1 ?_
  refine x_istoren (lsx9 := [(1, .int (-1)), (0, .ref 125)]) rfl rfl rfl ?_
  refine x_iconst (v := 0) rfl ki_0 ?_
  refine x_istoren (lsx9 := [(2, .int 0), (1, .int (-1)), (0, .ref 125)]) rfl rfl rfl ?_
  have ex55 := jrg_f J sg_125_55_56_1_0_1
  exact jX.sub (jsb_c rfl (jsb_c rfl (jsb_c rfl jsb_n))) (ct_X12_inner_r125_4 hD hQ  401 (-1) 0 (jiv h 125 55) h (by have := jk_0; omega) (jr_of jk_m1 (by omega)) (jr_of jk_0 (by omega)) (jr_of rfl (by omega)) ⟨jir_0, (by have := jk_0; omega)⟩ rfl J Sm)
def fp_X12_isCompared_r125 : jFp := []
set_option maxRecDepth 100000 in
set_option maxHeartbeats 4000000 in
theorem ct_X12_isCompared_r125_300064 {Dy : jH → Prop} {h0 : jH} {Q : Option Value → jH → Prop} (hD : jDk Dy) (hQ : ∀ (v : Int32) hx9, 0 ≤ v.toInt ∧ v.toInt ≤ 1 → jJ jSgM Dy hx9 → jSm fp_X12_isCompared_r125 h0 hx9 → Q (some (.int v)) hx9) : ∀ (h : jH), jJ jSgM Dy h → jSm fp_X12_isCompared_r125 h0 h → jX m_X12_isCompared 2 0 0 64 [] [.int 1] h 0 0 Q := by
  intro  h    J Sm
  refine x_zret rfl rfl (by decide) ?_
  exact hQ _ _ (jr_of jk_1 (by omega)) J Sm
set_option maxRecDepth 100000 in
set_option maxHeartbeats 4000000 in
theorem ct_X12_isCompared_r125_200064 {Dy : jH → Prop} {h0 : jH} {Q : Option Value → jH → Prop} (hD : jDk Dy) (hQ : ∀ (v : Int32) hx9, 0 ≤ v.toInt ∧ v.toInt ≤ 1 → jJ jSgM Dy hx9 → jSm fp_X12_isCompared_r125 h0 hx9 → Q (some (.int v)) hx9) : ∀ (h : jH), jJ jSgM Dy h → jSm fp_X12_isCompared_r125 h0 h → jX m_X12_isCompared 2 0 0 64 [] [.int 0] h 0 0 Q := by
  intro  h    J Sm
  refine x_zret rfl rfl (by decide) ?_
  exact hQ _ _ (jr_of jk_0 (by omega)) J Sm
set_option maxRecDepth 100000 in
set_option maxHeartbeats 4000000 in
theorem ct_X12_isCompared_r125_63 {Dy : jH → Prop} {h0 : jH} {Q : Option Value → jH → Prop} (hD : jDk Dy) (hQ : ∀ (v : Int32) hx9, 0 ≤ v.toInt ∧ v.toInt ≤ 1 → jJ jSgM Dy hx9 → jSm fp_X12_isCompared_r125 h0 hx9 → Q (some (.int v)) hx9) : ∀ (h : jH), jJ jSgM Dy h → jSm fp_X12_isCompared_r125 h0 h → jX m_X12_isCompared 2 0 0 63 [] [] h 0 0 Q := by
  intro  h    J Sm
  refine x_iconst (v := 0) rfl ki_0 ?_
  exact jX.sub jsb_n (ct_X12_isCompared_r125_200064 hD hQ  h J Sm)
set_option maxRecDepth 100000 in
set_option maxHeartbeats 4000000 in
theorem ct_X12_isCompared_r125_36 {Dy : jH → Prop} {h0 : jH} {Q : Option Value → jH → Prop} (hD : jDk Dy) (hQ : ∀ (v : Int32) hx9, 0 ≤ v.toInt ∧ v.toInt ≤ 1 → jJ jSgM Dy hx9 → jSm fp_X12_isCompared_r125 h0 hx9 → Q (some (.int v)) hx9) : ∀ (l1 : Int32) (h : jH), (-1) ≤ l1.toInt ∧ l1.toInt ≤ 399 → jJ jSgM Dy h → jSm fp_X12_isCompared_r125 h0 h → jX m_X12_isCompared 2 0 0 36 [(0, .ref 125), (1, .int l1)] [] h 0 0 Q := by
  intro l1 h y0   J Sm
  refine x_iloadn (x := l1) rfl rfl ?_
  refine x_iflt (tgt := 63) rfl rfl (ti_lt rfl jk_0 ⟨fun c1 => ?_, fun c1 => ?_⟩)
  ·
    exact jX.sub jsb_n (ct_X12_isCompared_r125_63 hD hQ  h J Sm)
  ·
    refine x_aloadn (x := 125) rfl rfl ?_
    refine z_getR (N := 92) (b := 150) 12 53 rfl f_12_105 rfl J rfl 16053 ⟨rfl, rfl⟩ rfl ?_
    refine x_iloadn (x := l1) rfl rfl ?_
    refine z_iald0 (N := 400) rfl J rfl rfl (by omega) (fun v2 qv2 => ?_)
    have ev2 := jfull v2
    refine z_i2l rfl rfl (fun v3 ev3 => ?_)
    refine x_ldc2 (v := 10) rfl z_12_246 ?_
    refine x_ldc2 (v := 12) rfl z_12_507 ?_
    refine x_inst (N := m_X12_in) (As := [.long v3, .long 10, .long 12]) (st := []) (dx9 := 1) (mc := 0) (ms := 0) (host := "") rfl t_X12_in ⟨Or.inl q_12_188, s_X12_in⟩ rfl (by decide) rfl rfl ⟨by decide, by decide⟩ (zc_X12_in rfl jkl_10 jkl_12 (fun v4 ev4 => ?_))
    show jX m_X12_isCompared 2 0 0 56 [(0, .ref 125), (1, .int l1)] [.int v4] _ 0 0 _
    refine x_ifeq (tgt := 63) rfl rfl (ti_eq rfl jk_0 ⟨fun c5 => ?_, fun c5 => ?_⟩)
    ·
      exact jX.sub jsb_n (ct_X12_isCompared_r125_63 hD hQ  h J Sm)
    ·
      refine x_iconst (v := 1) rfl ki_1 ?_
      refine x_goto (tgt := 64) rfl rfl ?_
      exact jX.sub jsb_n (ct_X12_isCompared_r125_300064 hD hQ  h J Sm)
set_option maxRecDepth 100000 in
set_option maxHeartbeats 4000000 in
theorem ct_X12_isCompared_r125_7 {Dy : jH → Prop} {h0 : jH} {Q : Option Value → jH → Prop} (hD : jDk Dy) (hQ : ∀ (v : Int32) hx9, 0 ≤ v.toInt ∧ v.toInt ≤ 1 → jJ jSgM Dy hx9 → jSm fp_X12_isCompared_r125 h0 hx9 → Q (some (.int v)) hx9) : ∀ r : Nat, ∀ (l1 : Int32) (h : jH), l1.toInt - (-1) < (r : Int) → (-1) ≤ l1.toInt ∧ l1.toInt ≤ 399 → jJ jSgM Dy h → jSm fp_X12_isCompared_r125 h0 h → jX m_X12_isCompared 2 0 0 7 [(0, .ref 125), (1, .int l1)] [] h 0 0 Q := by
  intro r
  induction r with
  | zero =>
    intro l1 h hm y0   J Sm
    exfalso
    omega
  | succ r ih =>
    intro l1 h hm y0   J Sm
    refine x_iloadn (x := l1) rfl rfl ?_
    refine x_iflt (tgt := 36) rfl rfl (ti_lt rfl jk_0 ⟨fun c1 => ?_, fun c1 => ?_⟩)
    ·
      exact jX.sub (jsb_c rfl (jsb_c rfl jsb_n)) (ct_X12_isCompared_r125_36 hD hQ  l1 h (jr_of rfl (by omega)) J Sm)
    ·
      refine x_aloadn (x := 125) rfl rfl ?_
      refine z_getR (N := 92) (b := 150) 12 53 rfl f_12_105 rfl J rfl 16053 ⟨rfl, rfl⟩ rfl ?_
      refine x_iloadn (x := l1) rfl rfl ?_
      refine z_iald0 (N := 400) rfl J rfl rfl (by omega) (fun v2 qv2 => ?_)
      have ev2 := jfull v2
      refine z_i2l rfl rfl (fun v3 ev3 => ?_)
      refine x_ldc2 (v := 6) rfl z_12_329 ?_
      refine x_ldc2 (v := 9) rfl z_12_505 ?_
      refine x_inst (N := m_X12_in) (As := [.long v3, .long 6, .long 9]) (st := []) (dx9 := 1) (mc := 0) (ms := 0) (host := "") rfl t_X12_in ⟨Or.inl q_12_188, s_X12_in⟩ rfl (by decide) rfl rfl ⟨by decide, by decide⟩ (zc_X12_in rfl jkl_6 jkl_9 (fun v4 ev4 => ?_))
      show jX m_X12_isCompared 2 0 0 27 [(0, .ref 125), (1, .int l1)] [.int v4] _ 0 0 _
      refine x_ifeq (tgt := 36) rfl rfl (ti_eq rfl jk_0 ⟨fun c5 => ?_, fun c5 => ?_⟩)
      ·
        exact jX.sub (jsb_c rfl (jsb_c rfl jsb_n)) (ct_X12_isCompared_r125_36 hD hQ  l1 h (jr_of rfl (by omega)) J Sm)
      ·
        refine z_iinc (x := l1) (lsx9 := fun v6 => [(1, .int v6), (0, .ref 125)]) rfl rfl rfl jko_m1 (by omega) rfl (fun _ => rfl) (fun v6 ev6 => ?_)
        refine x_goto (tgt := 7) rfl rfl ?_
        exact jX.sub (jsb_c rfl (jsb_c rfl jsb_n)) (ih v6 h (by omega) (jr_of rfl (by omega)) J Sm)
set_option maxRecDepth 100000 in
set_option maxHeartbeats 4000000 in
theorem sf_X12_isCompared_r125 {Dy : jH → Prop} {h : jH} {Q : Option Value → jH → Prop} (hD : jDk Dy) (J : jJ jSgM Dy h) (hQ : ∀ (v : Int32) hx9, 0 ≤ v.toInt ∧ v.toInt ≤ 1 → jJ jSgM Dy hx9 → jSm fp_X12_isCompared_r125 h hx9 → Q (some (.int v)) hx9) : jC m_X12_isCompared 2 0 0 [.ref 125] h Q := by
  refine jC.of rfl k_X12_isCompared rfl ?_
  have Sm := jSm_rf fp_X12_isCompared_r125 h
  show jX m_X12_isCompared 2 0 0 0 [(0, .ref 125)] [] _ 0 0 _
  refine x_aloadn (x := 125) rfl rfl ?_
  refine z_getI (N := 92) 12 55 rfl f_12_496 rfl J rfl sg_125_55_56_1_0_1 (fun v1 qv1 ev1 => ?_)
  refine x_iconst (v := 1) rfl ki_1 ?_
  refine z_isub rfl rfl jk_1 (by omega) (fun v2 ev2 => ?_)
  refine x_istoren (lsx9 := [(1, .int v2), (0, .ref 125)]) rfl rfl rfl ?_
  exact jX.sub (jsb_c rfl (jsb_c rfl jsb_n)) (ct_X12_isCompared_r125_7 hD hQ  401 v2 h (by omega) (jr_of rfl (by omega)) J Sm)
