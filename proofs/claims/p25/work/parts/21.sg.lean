def fp_X12_weigh_r125 : jFp := [(125, 28, 29), (125, 31, 32), (125, 45, 46), (125, 57, 58), (137, 0, 80), (138, 0, 2), (139, 0, 600), (140, 0, 200), (142, 0, 81), (143, 0, 81), (144, 0, 81)]
set_option maxRecDepth 100000 in
set_option maxHeartbeats 4000000 in
theorem ct_X12_weigh_r125_200149 {Dy : jH → Prop} {h0 : jH} {Q : Option Value → jH → Prop} {R14 : Int} {R24 : Int} (hD : jDk Dy) (hQ : ∀ hx9, jJ jSgM Dy hx9 → jSm fp_X12_weigh_r125 h0 hx9 → Q none hx9) (k14 : ∀ (l1 : Int32) (g0 : Int32) (h : jH), 9 - l1.toInt < R14 → 0 ≤ l1.toInt ∧ l1.toInt ≤ 9 → jiv h 125 45 = g0 → jJ jSgM Dy h → jSm fp_X12_weigh_r125 h0 h → jX m_X12_weigh 9 0 0 14 [(0, .ref 125), (1, .int l1)] [] h 0 0 Q) (k24 : ∀ (l1 : Int32) (l2 : Int32) (g0 : Int32) (h : jH), 8 - l2.toInt < R24 → 0 ≤ l1.toInt ∧ l1.toInt ≤ 8 → 0 ≤ l2.toInt ∧ l2.toInt ≤ 8 → jiv h 125 45 = g0 → 9 - l1.toInt ≤ R14 → jJ jSgM Dy h → jSm fp_X12_weigh_r125 h0 h → jX m_X12_weigh 9 0 0 24 [(0, .ref 125), (1, .int l1), (2, .int l2)] [] h 0 0 Q) : ∀ (l1 : Int32) (l2 : Int32) (s1 : Int32) (g0 : Int32) (h : jH), 1 ≤ l1.toInt ∧ l1.toInt ≤ 8 → 0 ≤ l2.toInt ∧ l2.toInt ≤ 7 → 9 ≤ s1.toInt ∧ s1.toInt ≤ 79 → jiv h 125 45 = g0 → 9 - l1.toInt ≤ R14 → 8 - l2.toInt ≤ R24 → jJ jSgM Dy h → jSm fp_X12_weigh_r125 h0 h → jX m_X12_weigh 9 0 0 149 [(0, .ref 125), (1, .int l1), (2, .int l2)] [.int 0, .int s1, .ref 144] h 0 0 Q := by
  intro l1 l2 s1 g0 h y0 y1 y2 z0 m14 m24 J Sm
  have eg0 := jfull g0
  refine z_iast (N := 81) (l := 0) (u := 81) (w := 0) rfl hD J Sm rfl rfl rfl (by omega) jk_0 (wr_144 (fun q1 q2 q3 q4 => by omega)) rfl (fun h w1 J Sm => ?_)
  refine x_aloadn (x := 125) rfl rfl ?_
  refine x_dup rfl rfl ?_
  refine z_getM (N := 92) (v := g0) 12 45 rfl f_12_440 rfl J rfl (jmo w1 rfl z0) ?_
  refine x_aloadn (x := 125) rfl rfl ?_
  refine z_getR (N := 92) (b := 144) 12 40 rfl f_12_87 rfl J rfl 16040 ⟨rfl, rfl⟩ rfl ?_
  refine x_bipush (v := 9) rfl kb_9 ?_
  refine x_iloadn (x := l1) rfl rfl ?_
  refine z_imul rfl jk_9 rfl (by omega) (fun v2 ev2 => ?_)
  refine x_iloadn (x := l2) rfl rfl ?_
  refine z_iadd rfl rfl rfl (by omega) (fun v3 ev3 => ?_)
  refine z_iald (N := 81) rfl J rfl sg_144_0_81_1_0_1 rfl (by omega) (fun v4 qv4 ev4 => ?_)
  refine z_iadd0 rfl (fun v5 => ?_)
  have ev5 := jfull v5
  refine z_putI (N := 92) (w := v5.toInt) 12 45 rfl f_12_440 rfl (jfin_no TX12 RX12 92 rfl rfl) hD J Sm rfl rfl rfl (pw_125_45 trivial) rfl (fun h w6 J Sm => ?_)
  refine z_iinc (x := l2) (lsx9 := fun v7 => [(2, .int v7), (0, .ref 125), (1, .int l1)]) rfl rfl rfl jko_1 (by omega) rfl (fun _ => rfl) (fun v7 ev7 => ?_)
  refine x_goto (tgt := 24) rfl rfl ?_
  exact jX.sub (jsb_c rfl (jsb_c rfl (jsb_c rfl jsb_n))) (k24 l1 v7 v5 h (by omega) (jr_of rfl (by omega)) (jr_of rfl (by omega)) (jmw w6) (by omega) J Sm)
set_option maxRecDepth 100000 in
set_option maxHeartbeats 4000000 in
theorem ct_X12_weigh_r125_149 {Dy : jH → Prop} {h0 : jH} {Q : Option Value → jH → Prop} {R14 : Int} {R24 : Int} (hD : jDk Dy) (hQ : ∀ hx9, jJ jSgM Dy hx9 → jSm fp_X12_weigh_r125 h0 hx9 → Q none hx9) (k14 : ∀ (l1 : Int32) (g0 : Int32) (h : jH), 9 - l1.toInt < R14 → 0 ≤ l1.toInt ∧ l1.toInt ≤ 9 → jiv h 125 45 = g0 → jJ jSgM Dy h → jSm fp_X12_weigh_r125 h0 h → jX m_X12_weigh 9 0 0 14 [(0, .ref 125), (1, .int l1)] [] h 0 0 Q) (k24 : ∀ (l1 : Int32) (l2 : Int32) (g0 : Int32) (h : jH), 8 - l2.toInt < R24 → 0 ≤ l1.toInt ∧ l1.toInt ≤ 8 → 0 ≤ l2.toInt ∧ l2.toInt ≤ 8 → jiv h 125 45 = g0 → 9 - l1.toInt ≤ R14 → jJ jSgM Dy h → jSm fp_X12_weigh_r125 h0 h → jX m_X12_weigh 9 0 0 24 [(0, .ref 125), (1, .int l1), (2, .int l2)] [] h 0 0 Q) : ∀ (l1 : Int32) (l2 : Int32) (s0 : Int32) (s1 : Int32) (g0 : Int32) (h : jH), 1 ≤ l1.toInt ∧ l1.toInt ≤ 8 → 0 ≤ l2.toInt ∧ l2.toInt ≤ 7 → 0 ≤ s0.toInt ∧ s0.toInt ≤ 400 → 9 ≤ s1.toInt ∧ s1.toInt ≤ 79 → jiv h 125 45 = g0 → 9 - l1.toInt ≤ R14 → 8 - l2.toInt ≤ R24 → jJ jSgM Dy h → jSm fp_X12_weigh_r125 h0 h → jX m_X12_weigh 9 0 0 149 [(0, .ref 125), (1, .int l1), (2, .int l2)] [.int s0, .int s1, .ref 144] h 0 0 Q := by
  intro l1 l2 s0 s1 g0 h y0 y1 y2 y3 z0 m14 m24 J Sm
  have eg0 := jfull g0
  refine z_iast (N := 81) (l := 0) (u := 81) (w := s0.toInt) rfl hD J Sm rfl rfl rfl (by omega) rfl (wr_144 (fun q1 q2 q3 q4 => by omega)) rfl (fun h w1 J Sm => ?_)
  refine x_aloadn (x := 125) rfl rfl ?_
  refine x_dup rfl rfl ?_
  refine z_getM (N := 92) (v := g0) 12 45 rfl f_12_440 rfl J rfl (jmo w1 rfl z0) ?_
  refine x_aloadn (x := 125) rfl rfl ?_
  refine z_getR (N := 92) (b := 144) 12 40 rfl f_12_87 rfl J rfl 16040 ⟨rfl, rfl⟩ rfl ?_
  refine x_bipush (v := 9) rfl kb_9 ?_
  refine x_iloadn (x := l1) rfl rfl ?_
  refine z_imul rfl jk_9 rfl (by omega) (fun v2 ev2 => ?_)
  refine x_iloadn (x := l2) rfl rfl ?_
  refine z_iadd rfl rfl rfl (by omega) (fun v3 ev3 => ?_)
  refine z_iald (N := 81) rfl J rfl sg_144_0_81_1_0_1 rfl (by omega) (fun v4 qv4 ev4 => ?_)
  refine z_iadd0 rfl (fun v5 => ?_)
  have ev5 := jfull v5
  refine z_putI (N := 92) (w := v5.toInt) 12 45 rfl f_12_440 rfl (jfin_no TX12 RX12 92 rfl rfl) hD J Sm rfl rfl rfl (pw_125_45 trivial) rfl (fun h w6 J Sm => ?_)
  refine z_iinc (x := l2) (lsx9 := fun v7 => [(2, .int v7), (0, .ref 125), (1, .int l1)]) rfl rfl rfl jko_1 (by omega) rfl (fun _ => rfl) (fun v7 ev7 => ?_)
  refine x_goto (tgt := 24) rfl rfl ?_
  exact jX.sub (jsb_c rfl (jsb_c rfl (jsb_c rfl jsb_n))) (k24 l1 v7 v5 h (by omega) (jr_of rfl (by omega)) (jr_of rfl (by omega)) (jmw w6) (by omega) J Sm)
set_option maxRecDepth 100000 in
set_option maxHeartbeats 4000000 in
theorem ct_X12_weigh_r125_200104 {Dy : jH → Prop} {h0 : jH} {Q : Option Value → jH → Prop} {R14 : Int} {R24 : Int} (hD : jDk Dy) (hQ : ∀ hx9, jJ jSgM Dy hx9 → jSm fp_X12_weigh_r125 h0 hx9 → Q none hx9) (k14 : ∀ (l1 : Int32) (g0 : Int32) (h : jH), 9 - l1.toInt < R14 → 0 ≤ l1.toInt ∧ l1.toInt ≤ 9 → jiv h 125 45 = g0 → jJ jSgM Dy h → jSm fp_X12_weigh_r125 h0 h → jX m_X12_weigh 9 0 0 14 [(0, .ref 125), (1, .int l1)] [] h 0 0 Q) (k24 : ∀ (l1 : Int32) (l2 : Int32) (g0 : Int32) (h : jH), 8 - l2.toInt < R24 → 0 ≤ l1.toInt ∧ l1.toInt ≤ 8 → 0 ≤ l2.toInt ∧ l2.toInt ≤ 8 → jiv h 125 45 = g0 → 9 - l1.toInt ≤ R14 → jJ jSgM Dy h → jSm fp_X12_weigh_r125 h0 h → jX m_X12_weigh 9 0 0 24 [(0, .ref 125), (1, .int l1), (2, .int l2)] [] h 0 0 Q) : ∀ (l1 : Int32) (l2 : Int32) (s1 : Int32) (g0 : Int32) (h : jH), 1 ≤ l1.toInt ∧ l1.toInt ≤ 8 → 0 ≤ l2.toInt ∧ l2.toInt ≤ 7 → 9 ≤ s1.toInt ∧ s1.toInt ≤ 79 → jiv h 125 45 = g0 → 9 - l1.toInt ≤ R14 → 8 - l2.toInt ≤ R24 → jJ jSgM Dy h → jSm fp_X12_weigh_r125 h0 h → jX m_X12_weigh 9 0 0 104 [(0, .ref 125), (1, .int l1), (2, .int l2)] [.int 0, .int s1, .ref 143] h 0 0 Q := by
  intro l1 l2 s1 g0 h y0 y1 y2 z0 m14 m24 J Sm
  have eg0 := jfull g0
  refine z_zast (N := 81) (l := 0) (u := 81) (w := 0) rfl hD J Sm rfl rfl rfl (by omega) jk_0 (by omega) (wr_143 (fun q1 q2 q3 q4 => by omega)) rfl (fun h w1 J Sm => ?_)
  refine x_aloadn (x := 125) rfl rfl ?_
  refine z_getR (N := 92) (b := 144) 12 40 rfl f_12_87 rfl J rfl 16040 ⟨rfl, rfl⟩ rfl ?_
  refine x_bipush (v := 9) rfl kb_9 ?_
  refine x_iloadn (x := l1) rfl rfl ?_
  refine z_imul rfl jk_9 rfl (by omega) (fun v2 ev2 => ?_)
  refine x_iloadn (x := l2) rfl rfl ?_
  refine z_iadd rfl rfl rfl (by omega) (fun v3 ev3 => ?_)
  refine x_aloadn (x := 125) rfl rfl ?_
  refine z_getR (N := 92) (b := 142) 12 38 rfl f_12_81 rfl J rfl 16038 ⟨rfl, rfl⟩ rfl ?_
  refine x_bipush (v := 9) rfl kb_9 ?_
  refine x_iloadn (x := l1) rfl rfl ?_
  refine z_imul rfl jk_9 rfl (by omega) (fun v4 ev4 => ?_)
  refine x_iloadn (x := l2) rfl rfl ?_
  refine z_iadd rfl rfl rfl (by omega) (fun v5 ev5 => ?_)
  refine z_zald (N := 81) rfl J rfl sg_142_0_81_1_0_1 rfl (by omega) (fun v6 qv6 ev6 => ?_)
  refine x_ifeq (tgt := 148) rfl rfl (ti_eq rfl jk_0 ⟨fun c7 => ?_, fun c7 => ?_⟩)
  ·
    refine x_iconst (v := 0) rfl ki_0 ?_
    exact jX.sub (jsb_c rfl (jsb_c rfl (jsb_c rfl jsb_n))) (ct_X12_weigh_r125_200149 hD hQ k14 k24 l1 l2 v3 g0 h (jr_of rfl (by omega)) (jr_of rfl (by omega)) (jr_of rfl (by omega)) (jmo w1 rfl z0) (by omega) (by omega) J Sm)
  ·
    refine x_aloadn (x := 125) rfl rfl ?_
    refine x_aloadn (x := 125) rfl rfl ?_
    refine z_getR (N := 92) (b := 141) 12 37 rfl f_12_78 rfl J rfl 16037 ⟨rfl, rfl⟩ rfl ?_
    refine x_iloadn (x := l1) rfl rfl ?_
    refine z_iald (N := 9) rfl J rfl sg_141_0_9_1_0_1 rfl (by omega) (fun v8 qv8 ev8 => ?_)
    refine x_aloadn (x := 125) rfl rfl ?_
    refine z_getR (N := 92) (b := 141) 12 37 rfl f_12_78 rfl J rfl 16037 ⟨rfl, rfl⟩ rfl ?_
    refine x_iloadn (x := l2) rfl rfl ?_
    refine z_iald (N := 9) rfl J rfl sg_141_0_9_1_0_1 rfl (by omega) (fun v9 qv9 ev9 => ?_)
    refine x_inv (N := m_X12_worthOf) (As := [.int v8, .int v9]) (b := 125) (st := [.int v3, .ref 144]) (dx9 := 8) (mc := 0) (ms := 0) (host := "") 12 rfl t_X12_worthOf ⟨Or.inl q_12_374, i_X12_worthOf.1, i_X12_worthOf.2⟩ ⟨by decide, rfl⟩ (congrArg Prod.fst (J.1.1 125 (12, 92) rfl)) rfl (by decide) rfl rfl ⟨by decide, by decide⟩ (sf_X12_worthOf_r125 (jr_of rfl (by omega)) (jr_of rfl (by omega)) hD J  (fun v11 h ev11 J S10 => ?_))
    have Sm := jSm_tr rfl Sm S10
    show jX m_X12_weigh 9 0 0 145 [(0, .ref 125), (1, .int l1), (2, .int l2)] [.int v11, .int v3, .ref 144] _ 0 0 _
    refine x_goto (tgt := 149) rfl rfl ?_
    exact jX.sub (jsb_c rfl (jsb_c rfl (jsb_c rfl jsb_n))) (ct_X12_weigh_r125_149 hD hQ k14 k24 l1 l2 v11 v3 g0 h (jr_of rfl (by omega)) (jr_of rfl (by omega)) (jr_of rfl (by omega)) (jr_of rfl (by omega)) (jmc S10 rfl (jmo w1 rfl z0)) (by omega) (by omega) J Sm)
set_option maxRecDepth 100000 in
set_option maxHeartbeats 4000000 in
theorem ct_X12_weigh_r125_300104 {Dy : jH → Prop} {h0 : jH} {Q : Option Value → jH → Prop} {R14 : Int} {R24 : Int} (hD : jDk Dy) (hQ : ∀ hx9, jJ jSgM Dy hx9 → jSm fp_X12_weigh_r125 h0 hx9 → Q none hx9) (k14 : ∀ (l1 : Int32) (g0 : Int32) (h : jH), 9 - l1.toInt < R14 → 0 ≤ l1.toInt ∧ l1.toInt ≤ 9 → jiv h 125 45 = g0 → jJ jSgM Dy h → jSm fp_X12_weigh_r125 h0 h → jX m_X12_weigh 9 0 0 14 [(0, .ref 125), (1, .int l1)] [] h 0 0 Q) (k24 : ∀ (l1 : Int32) (l2 : Int32) (g0 : Int32) (h : jH), 8 - l2.toInt < R24 → 0 ≤ l1.toInt ∧ l1.toInt ≤ 8 → 0 ≤ l2.toInt ∧ l2.toInt ≤ 8 → jiv h 125 45 = g0 → 9 - l1.toInt ≤ R14 → jJ jSgM Dy h → jSm fp_X12_weigh_r125 h0 h → jX m_X12_weigh 9 0 0 24 [(0, .ref 125), (1, .int l1), (2, .int l2)] [] h 0 0 Q) : ∀ (l1 : Int32) (l2 : Int32) (s1 : Int32) (g0 : Int32) (h : jH), 1 ≤ l1.toInt ∧ l1.toInt ≤ 8 → 0 ≤ l2.toInt ∧ l2.toInt ≤ 7 → 9 ≤ s1.toInt ∧ s1.toInt ≤ 79 → jiv h 125 45 = g0 → 9 - l1.toInt ≤ R14 → 8 - l2.toInt ≤ R24 → jJ jSgM Dy h → jSm fp_X12_weigh_r125 h0 h → jX m_X12_weigh 9 0 0 104 [(0, .ref 125), (1, .int l1), (2, .int l2)] [.int 1, .int s1, .ref 143] h 0 0 Q := by
  intro l1 l2 s1 g0 h y0 y1 y2 z0 m14 m24 J Sm
  have eg0 := jfull g0
  refine z_zast (N := 81) (l := 0) (u := 81) (w := 1) rfl hD J Sm rfl rfl rfl (by omega) jk_1 (by omega) (wr_143 (fun q1 q2 q3 q4 => by omega)) rfl (fun h w1 J Sm => ?_)
  refine x_aloadn (x := 125) rfl rfl ?_
  refine z_getR (N := 92) (b := 144) 12 40 rfl f_12_87 rfl J rfl 16040 ⟨rfl, rfl⟩ rfl ?_
  refine x_bipush (v := 9) rfl kb_9 ?_
  refine x_iloadn (x := l1) rfl rfl ?_
  refine z_imul rfl jk_9 rfl (by omega) (fun v2 ev2 => ?_)
  refine x_iloadn (x := l2) rfl rfl ?_
  refine z_iadd rfl rfl rfl (by omega) (fun v3 ev3 => ?_)
  refine x_aloadn (x := 125) rfl rfl ?_
  refine z_getR (N := 92) (b := 142) 12 38 rfl f_12_81 rfl J rfl 16038 ⟨rfl, rfl⟩ rfl ?_
  refine x_bipush (v := 9) rfl kb_9 ?_
  refine x_iloadn (x := l1) rfl rfl ?_
  refine z_imul rfl jk_9 rfl (by omega) (fun v4 ev4 => ?_)
  refine x_iloadn (x := l2) rfl rfl ?_
  refine z_iadd rfl rfl rfl (by omega) (fun v5 ev5 => ?_)
  refine z_zald (N := 81) rfl J rfl sg_142_0_81_1_0_1 rfl (by omega) (fun v6 qv6 ev6 => ?_)
  refine x_ifeq (tgt := 148) rfl rfl (ti_eq rfl jk_0 ⟨fun c7 => ?_, fun c7 => ?_⟩)
  ·
    refine x_iconst (v := 0) rfl ki_0 ?_
    exact jX.sub (jsb_c rfl (jsb_c rfl (jsb_c rfl jsb_n))) (ct_X12_weigh_r125_200149 hD hQ k14 k24 l1 l2 v3 g0 h (jr_of rfl (by omega)) (jr_of rfl (by omega)) (jr_of rfl (by omega)) (jmo w1 rfl z0) (by omega) (by omega) J Sm)
  ·
    refine x_aloadn (x := 125) rfl rfl ?_
    refine x_aloadn (x := 125) rfl rfl ?_
    refine z_getR (N := 92) (b := 141) 12 37 rfl f_12_78 rfl J rfl 16037 ⟨rfl, rfl⟩ rfl ?_
    refine x_iloadn (x := l1) rfl rfl ?_
    refine z_iald (N := 9) rfl J rfl sg_141_0_9_1_0_1 rfl (by omega) (fun v8 qv8 ev8 => ?_)
    refine x_aloadn (x := 125) rfl rfl ?_
    refine z_getR (N := 92) (b := 141) 12 37 rfl f_12_78 rfl J rfl 16037 ⟨rfl, rfl⟩ rfl ?_
    refine x_iloadn (x := l2) rfl rfl ?_
    refine z_iald (N := 9) rfl J rfl sg_141_0_9_1_0_1 rfl (by omega) (fun v9 qv9 ev9 => ?_)
    refine x_inv (N := m_X12_worthOf) (As := [.int v8, .int v9]) (b := 125) (st := [.int v3, .ref 144]) (dx9 := 8) (mc := 0) (ms := 0) (host := "") 12 rfl t_X12_worthOf ⟨Or.inl q_12_374, i_X12_worthOf.1, i_X12_worthOf.2⟩ ⟨by decide, rfl⟩ (congrArg Prod.fst (J.1.1 125 (12, 92) rfl)) rfl (by decide) rfl rfl ⟨by decide, by decide⟩ (sf_X12_worthOf_r125 (jr_of rfl (by omega)) (jr_of rfl (by omega)) hD J  (fun v11 h ev11 J S10 => ?_))
    have Sm := jSm_tr rfl Sm S10
    show jX m_X12_weigh 9 0 0 145 [(0, .ref 125), (1, .int l1), (2, .int l2)] [.int v11, .int v3, .ref 144] _ 0 0 _
    refine x_goto (tgt := 149) rfl rfl ?_
    exact jX.sub (jsb_c rfl (jsb_c rfl (jsb_c rfl jsb_n))) (ct_X12_weigh_r125_149 hD hQ k14 k24 l1 l2 v11 v3 g0 h (jr_of rfl (by omega)) (jr_of rfl (by omega)) (jr_of rfl (by omega)) (jr_of rfl (by omega)) (jmc S10 rfl (jmo w1 rfl z0)) (by omega) (by omega) J Sm)
set_option maxRecDepth 100000 in
set_option maxHeartbeats 4000000 in
theorem ct_X12_weigh_r125_200063 {Dy : jH → Prop} {h0 : jH} {Q : Option Value → jH → Prop} {R14 : Int} {R24 : Int} (hD : jDk Dy) (hQ : ∀ hx9, jJ jSgM Dy hx9 → jSm fp_X12_weigh_r125 h0 hx9 → Q none hx9) (k14 : ∀ (l1 : Int32) (g0 : Int32) (h : jH), 9 - l1.toInt < R14 → 0 ≤ l1.toInt ∧ l1.toInt ≤ 9 → jiv h 125 45 = g0 → jJ jSgM Dy h → jSm fp_X12_weigh_r125 h0 h → jX m_X12_weigh 9 0 0 14 [(0, .ref 125), (1, .int l1)] [] h 0 0 Q) (k24 : ∀ (l1 : Int32) (l2 : Int32) (g0 : Int32) (h : jH), 8 - l2.toInt < R24 → 0 ≤ l1.toInt ∧ l1.toInt ≤ 8 → 0 ≤ l2.toInt ∧ l2.toInt ≤ 8 → jiv h 125 45 = g0 → 9 - l1.toInt ≤ R14 → jJ jSgM Dy h → jSm fp_X12_weigh_r125 h0 h → jX m_X12_weigh 9 0 0 24 [(0, .ref 125), (1, .int l1), (2, .int l2)] [] h 0 0 Q) : ∀ (l1 : Int32) (l2 : Int32) (s1 : Int32) (g0 : Int32) (h : jH), 1 ≤ l1.toInt ∧ l1.toInt ≤ 8 → 0 ≤ l2.toInt ∧ l2.toInt ≤ 7 → 9 ≤ s1.toInt ∧ s1.toInt ≤ 79 → jiv h 125 45 = g0 → 9 - l1.toInt ≤ R14 → 8 - l2.toInt ≤ R24 → jJ jSgM Dy h → jSm fp_X12_weigh_r125 h0 h → jX m_X12_weigh 9 0 0 63 [(0, .ref 125), (1, .int l1), (2, .int l2)] [.int 0, .int s1, .ref 142] h 0 0 Q := by
  intro l1 l2 s1 g0 h y0 y1 y2 z0 m14 m24 J Sm
  have eg0 := jfull g0
  refine z_zast (N := 81) (l := 0) (u := 81) (w := 0) rfl hD J Sm rfl rfl rfl (by omega) jk_0 (by omega) (wr_142 (fun q1 q2 q3 q4 => by omega)) rfl (fun h w1 J Sm => ?_)
  refine x_aloadn (x := 125) rfl rfl ?_
  refine z_getR (N := 92) (b := 143) 12 39 rfl f_12_84 rfl J rfl 16039 ⟨rfl, rfl⟩ rfl ?_
  refine x_bipush (v := 9) rfl kb_9 ?_
  refine x_iloadn (x := l1) rfl rfl ?_
  refine z_imul rfl jk_9 rfl (by omega) (fun v2 ev2 => ?_)
  refine x_iloadn (x := l2) rfl rfl ?_
  refine z_iadd rfl rfl rfl (by omega) (fun v3 ev3 => ?_)
  refine x_aloadn (x := 125) rfl rfl ?_
  refine z_getR (N := 92) (b := 139) 12 29 rfl f_12_72 rfl J rfl 16029 ⟨rfl, rfl⟩ rfl ?_
  refine x_aloadn (x := 125) rfl rfl ?_
  refine z_getR (N := 92) (b := 141) 12 37 rfl f_12_78 rfl J rfl 16037 ⟨rfl, rfl⟩ rfl ?_
  refine x_iloadn (x := l1) rfl rfl ?_
  refine z_iald (N := 9) rfl J rfl sg_141_0_9_1_0_1 rfl (by omega) (fun v4 qv4 ev4 => ?_)
  refine z_iald (N := 600) rfl J rfl sg_139_0_600_1_0_1 rfl (by omega) (fun v5 qv5 ev5 => ?_)
  refine x_aloadn (x := 125) rfl rfl ?_
  refine z_getR (N := 92) (b := 139) 12 29 rfl f_12_72 rfl J rfl 16029 ⟨rfl, rfl⟩ rfl ?_
  refine x_aloadn (x := 125) rfl rfl ?_
  refine z_getR (N := 92) (b := 141) 12 37 rfl f_12_78 rfl J rfl 16037 ⟨rfl, rfl⟩ rfl ?_
  refine x_iloadn (x := l2) rfl rfl ?_
  refine z_iald (N := 9) rfl J rfl sg_141_0_9_1_0_1 rfl (by omega) (fun v6 qv6 ev6 => ?_)
  refine z_iald (N := 600) rfl J rfl sg_139_0_600_1_0_1 rfl (by omega) (fun v7 qv7 ev7 => ?_)
  refine x_icne (tgt := 103) rfl rfl (ti_ne rfl rfl ⟨fun c8 => ?_, fun c8 => ?_⟩)
  ·
    refine x_iconst (v := 0) rfl ki_0 ?_
    exact jX.sub (jsb_c rfl (jsb_c rfl (jsb_c rfl jsb_n))) (ct_X12_weigh_r125_200104 hD hQ k14 k24 l1 l2 v3 g0 h (jr_of rfl (by omega)) (jr_of rfl (by omega)) (jr_of rfl (by omega)) (jmo w1 rfl z0) (by omega) (by omega) J Sm)
  ·
    refine x_iconst (v := 1) rfl ki_1 ?_
    refine x_goto (tgt := 104) rfl rfl ?_
    exact jX.sub (jsb_c rfl (jsb_c rfl (jsb_c rfl jsb_n))) (ct_X12_weigh_r125_300104 hD hQ k14 k24 l1 l2 v3 g0 h (jr_of rfl (by omega)) (jr_of rfl (by omega)) (jr_of rfl (by omega)) (jmo w1 rfl z0) (by omega) (by omega) J Sm)
set_option maxRecDepth 100000 in
set_option maxHeartbeats 4000000 in
theorem ct_X12_weigh_r125_300063 {Dy : jH → Prop} {h0 : jH} {Q : Option Value → jH → Prop} {R14 : Int} {R24 : Int} (hD : jDk Dy) (hQ : ∀ hx9, jJ jSgM Dy hx9 → jSm fp_X12_weigh_r125 h0 hx9 → Q none hx9) (k14 : ∀ (l1 : Int32) (g0 : Int32) (h : jH), 9 - l1.toInt < R14 → 0 ≤ l1.toInt ∧ l1.toInt ≤ 9 → jiv h 125 45 = g0 → jJ jSgM Dy h → jSm fp_X12_weigh_r125 h0 h → jX m_X12_weigh 9 0 0 14 [(0, .ref 125), (1, .int l1)] [] h 0 0 Q) (k24 : ∀ (l1 : Int32) (l2 : Int32) (g0 : Int32) (h : jH), 8 - l2.toInt < R24 → 0 ≤ l1.toInt ∧ l1.toInt ≤ 8 → 0 ≤ l2.toInt ∧ l2.toInt ≤ 8 → jiv h 125 45 = g0 → 9 - l1.toInt ≤ R14 → jJ jSgM Dy h → jSm fp_X12_weigh_r125 h0 h → jX m_X12_weigh 9 0 0 24 [(0, .ref 125), (1, .int l1), (2, .int l2)] [] h 0 0 Q) : ∀ (l1 : Int32) (l2 : Int32) (s1 : Int32) (g0 : Int32) (h : jH), 1 ≤ l1.toInt ∧ l1.toInt ≤ 8 → 0 ≤ l2.toInt ∧ l2.toInt ≤ 7 → 9 ≤ s1.toInt ∧ s1.toInt ≤ 79 → jiv h 125 45 = g0 → 9 - l1.toInt ≤ R14 → 8 - l2.toInt ≤ R24 → jJ jSgM Dy h → jSm fp_X12_weigh_r125 h0 h → jX m_X12_weigh 9 0 0 63 [(0, .ref 125), (1, .int l1), (2, .int l2)] [.int 1, .int s1, .ref 142] h 0 0 Q := by
  intro l1 l2 s1 g0 h y0 y1 y2 z0 m14 m24 J Sm
  have eg0 := jfull g0
  refine z_zast (N := 81) (l := 0) (u := 81) (w := 1) rfl hD J Sm rfl rfl rfl (by omega) jk_1 (by omega) (wr_142 (fun q1 q2 q3 q4 => by omega)) rfl (fun h w1 J Sm => ?_)
  refine x_aloadn (x := 125) rfl rfl ?_
  refine z_getR (N := 92) (b := 143) 12 39 rfl f_12_84 rfl J rfl 16039 ⟨rfl, rfl⟩ rfl ?_
  refine x_bipush (v := 9) rfl kb_9 ?_
  refine x_iloadn (x := l1) rfl rfl ?_
  refine z_imul rfl jk_9 rfl (by omega) (fun v2 ev2 => ?_)
  refine x_iloadn (x := l2) rfl rfl ?_
  refine z_iadd rfl rfl rfl (by omega) (fun v3 ev3 => ?_)
  refine x_aloadn (x := 125) rfl rfl ?_
  refine z_getR (N := 92) (b := 139) 12 29 rfl f_12_72 rfl J rfl 16029 ⟨rfl, rfl⟩ rfl ?_
  refine x_aloadn (x := 125) rfl rfl ?_
  refine z_getR (N := 92) (b := 141) 12 37 rfl f_12_78 rfl J rfl 16037 ⟨rfl, rfl⟩ rfl ?_
  refine x_iloadn (x := l1) rfl rfl ?_
  refine z_iald (N := 9) rfl J rfl sg_141_0_9_1_0_1 rfl (by omega) (fun v4 qv4 ev4 => ?_)
  refine z_iald (N := 600) rfl J rfl sg_139_0_600_1_0_1 rfl (by omega) (fun v5 qv5 ev5 => ?_)
  refine x_aloadn (x := 125) rfl rfl ?_
  refine z_getR (N := 92) (b := 139) 12 29 rfl f_12_72 rfl J rfl 16029 ⟨rfl, rfl⟩ rfl ?_
  refine x_aloadn (x := 125) rfl rfl ?_
  refine z_getR (N := 92) (b := 141) 12 37 rfl f_12_78 rfl J rfl 16037 ⟨rfl, rfl⟩ rfl ?_
  refine x_iloadn (x := l2) rfl rfl ?_
  refine z_iald (N := 9) rfl J rfl sg_141_0_9_1_0_1 rfl (by omega) (fun v6 qv6 ev6 => ?_)
  refine z_iald (N := 600) rfl J rfl sg_139_0_600_1_0_1 rfl (by omega) (fun v7 qv7 ev7 => ?_)
  refine x_icne (tgt := 103) rfl rfl (ti_ne rfl rfl ⟨fun c8 => ?_, fun c8 => ?_⟩)
  ·
    refine x_iconst (v := 0) rfl ki_0 ?_
    exact jX.sub (jsb_c rfl (jsb_c rfl (jsb_c rfl jsb_n))) (ct_X12_weigh_r125_200104 hD hQ k14 k24 l1 l2 v3 g0 h (jr_of rfl (by omega)) (jr_of rfl (by omega)) (jr_of rfl (by omega)) (jmo w1 rfl z0) (by omega) (by omega) J Sm)
  ·
    refine x_iconst (v := 1) rfl ki_1 ?_
    refine x_goto (tgt := 104) rfl rfl ?_
    exact jX.sub (jsb_c rfl (jsb_c rfl (jsb_c rfl jsb_n))) (ct_X12_weigh_r125_300104 hD hQ k14 k24 l1 l2 v3 g0 h (jr_of rfl (by omega)) (jr_of rfl (by omega)) (jr_of rfl (by omega)) (jmo w1 rfl z0) (by omega) (by omega) J Sm)
set_option maxRecDepth 100000 in
set_option maxHeartbeats 4000000 in
theorem ct_X12_weigh_r125_24 {Dy : jH → Prop} {h0 : jH} {Q : Option Value → jH → Prop} {R14 : Int} (hD : jDk Dy) (hQ : ∀ hx9, jJ jSgM Dy hx9 → jSm fp_X12_weigh_r125 h0 hx9 → Q none hx9) (k14 : ∀ (l1 : Int32) (g0 : Int32) (h : jH), 9 - l1.toInt < R14 → 0 ≤ l1.toInt ∧ l1.toInt ≤ 9 → jiv h 125 45 = g0 → jJ jSgM Dy h → jSm fp_X12_weigh_r125 h0 h → jX m_X12_weigh 9 0 0 14 [(0, .ref 125), (1, .int l1)] [] h 0 0 Q) : ∀ r : Nat, ∀ (l1 : Int32) (l2 : Int32) (g0 : Int32) (h : jH), 8 - l2.toInt < (r : Int) → 0 ≤ l1.toInt ∧ l1.toInt ≤ 8 → 0 ≤ l2.toInt ∧ l2.toInt ≤ 8 → jiv h 125 45 = g0 → 9 - l1.toInt ≤ R14 → jJ jSgM Dy h → jSm fp_X12_weigh_r125 h0 h → jX m_X12_weigh 9 0 0 24 [(0, .ref 125), (1, .int l1), (2, .int l2)] [] h 0 0 Q := by
  intro r
  induction r with
  | zero =>
    intro l1 l2 g0 h hm y0 y1 z0 m14 J Sm
    exfalso
    have eg0 := jfull g0
    omega
  | succ r ih =>
    intro l1 l2 g0 h hm y0 y1 z0 m14 J Sm
    have eg0 := jfull g0
    refine x_iloadn (x := l2) rfl rfl ?_
    refine x_iloadn (x := l1) rfl rfl ?_
    refine x_icge (tgt := 176) rfl rfl (ti_ge rfl rfl ⟨fun c1 => ?_, fun c1 => ?_⟩)
    ·
      refine z_iinc (x := l1) (lsx9 := fun v2 => [(1, .int v2), (0, .ref 125), (2, .int l2)]) rfl rfl rfl jko_1 (by omega) rfl (fun _ => rfl) (fun v2 ev2 => ?_)
      refine x_goto (tgt := 14) rfl rfl ?_
      exact jX.sub (jsb_c rfl (jsb_c rfl jsb_n)) (k14 v2 g0 h (by omega) (jr_of rfl (by omega)) z0 J Sm)
    ·
      refine x_aloadn (x := 125) rfl rfl ?_
      refine z_getR (N := 92) (b := 142) 12 38 rfl f_12_81 rfl J rfl 16038 ⟨rfl, rfl⟩ rfl ?_
      refine x_bipush (v := 9) rfl kb_9 ?_
      refine x_iloadn (x := l1) rfl rfl ?_
      refine z_imul rfl jk_9 rfl (by omega) (fun v3 ev3 => ?_)
      refine x_iloadn (x := l2) rfl rfl ?_
      refine z_iadd rfl rfl rfl (by omega) (fun v4 ev4 => ?_)
      refine x_aloadn (x := 125) rfl rfl ?_
      refine x_aloadn (x := 125) rfl rfl ?_
      refine z_getR (N := 92) (b := 141) 12 37 rfl f_12_78 rfl J rfl 16037 ⟨rfl, rfl⟩ rfl ?_
      refine x_iloadn (x := l1) rfl rfl ?_
      refine z_iald (N := 9) rfl J rfl sg_141_0_9_1_0_1 rfl (by omega) (fun v5 qv5 ev5 => ?_)
      refine x_aloadn (x := 125) rfl rfl ?_
      refine z_getR (N := 92) (b := 141) 12 37 rfl f_12_78 rfl J rfl 16037 ⟨rfl, rfl⟩ rfl ?_
      refine x_iloadn (x := l2) rfl rfl ?_
      refine z_iald (N := 9) rfl J rfl sg_141_0_9_1_0_1 rfl (by omega) (fun v6 qv6 ev6 => ?_)
      refine x_inv (N := m_X12_why) (As := [.int v5, .int v6]) (b := 125) (st := [.int v4, .ref 142]) (dx9 := 6) (mc := 0) (ms := 0) (host := "") 12 rfl t_X12_why ⟨Or.inl q_12_368, i_X12_why.1, i_X12_why.2⟩ ⟨by decide, rfl⟩ (congrArg Prod.fst (J.1.1 125 (12, 92) rfl)) rfl (by decide) rfl rfl ⟨by decide, by decide⟩ (sf_X12_why_r125 (jr_of rfl (by omega)) (jr_of rfl (by omega)) hD J  (fun v8 h ev8 J S7 => ?_))
      have Sm := jSm_tr rfl Sm S7
      show jX m_X12_weigh 9 0 0 55 [(0, .ref 125), (1, .int l1), (2, .int l2)] [.int v8, .int v4, .ref 142] _ 0 0 _
      refine x_ifne (tgt := 62) rfl rfl (ti_ne rfl jk_0 ⟨fun c9 => ?_, fun c9 => ?_⟩)
      ·
        refine x_iconst (v := 0) rfl ki_0 ?_
        exact jX.sub (jsb_c rfl (jsb_c rfl (jsb_c rfl jsb_n))) (ct_X12_weigh_r125_200063 hD hQ k14 ih l1 l2 v4 g0 h (jr_of rfl (by omega)) (jr_of rfl (by omega)) (jr_of rfl (by omega)) (jmc S7 rfl z0) (by omega) (by omega) J Sm)
      ·
        refine x_iconst (v := 1) rfl ki_1 ?_
        refine x_goto (tgt := 63) rfl rfl ?_
        exact jX.sub (jsb_c rfl (jsb_c rfl (jsb_c rfl jsb_n))) (ct_X12_weigh_r125_300063 hD hQ k14 ih l1 l2 v4 g0 h (jr_of rfl (by omega)) (jr_of rfl (by omega)) (jr_of rfl (by omega)) (jmc S7 rfl z0) (by omega) (by omega) J Sm)
set_option maxRecDepth 100000 in
set_option maxHeartbeats 4000000 in
theorem ct_X12_weigh_r125_14 {Dy : jH → Prop} {h0 : jH} {Q : Option Value → jH → Prop} (hD : jDk Dy) (hQ : ∀ hx9, jJ jSgM Dy hx9 → jSm fp_X12_weigh_r125 h0 hx9 → Q none hx9) : ∀ r : Nat, ∀ (l1 : Int32) (g0 : Int32) (h : jH), 9 - l1.toInt < (r : Int) → 0 ≤ l1.toInt ∧ l1.toInt ≤ 9 → jiv h 125 45 = g0 → jJ jSgM Dy h → jSm fp_X12_weigh_r125 h0 h → jX m_X12_weigh 9 0 0 14 [(0, .ref 125), (1, .int l1)] [] h 0 0 Q := by
  intro r
  induction r with
  | zero =>
    intro l1 g0 h hm y0 z0  J Sm
    exfalso
    have eg0 := jfull g0
    omega
  | succ r ih =>
    intro l1 g0 h hm y0 z0  J Sm
    have eg0 := jfull g0
    refine x_iloadn (x := l1) rfl rfl ?_
    refine x_aloadn (x := 125) rfl rfl ?_
    refine z_getI (N := 92) 12 36 rfl f_12_204 rfl J rfl sg_125_36_37_1_0_1 (fun v1 qv1 ev1 => ?_)
    refine x_icge (tgt := 182) rfl rfl (ti_ge rfl rfl ⟨fun c2 => ?_, fun c2 => ?_⟩)
    ·
      refine x_vret rfl rfl ?_
      exact hQ _ J Sm
    ·
      refine x_iconst (v := 0) rfl ki_0 ?_
      refine x_istoren (lsx9 := [(2, .int 0), (0, .ref 125), (1, .int l1)]) rfl rfl rfl ?_
      exact jX.sub (jsb_c rfl (jsb_c rfl (jsb_c rfl jsb_n))) (ct_X12_weigh_r125_24 hD hQ ih 9 l1 0 g0 h (by have := jk_0; omega) (jr_of rfl (by omega)) (jr_of jk_0 (by omega)) z0 (by omega) J Sm)
set_option maxRecDepth 100000 in
set_option maxHeartbeats 4000000 in
theorem sf_X12_weigh_r125 {Dy : jH → Prop} {h : jH} {Q : Option Value → jH → Prop} (hD : jDk Dy) (J : jJ jSgM Dy h) (hQ : ∀ hx9, jJ jSgM Dy hx9 → jSm fp_X12_weigh_r125 h hx9 → Q none hx9) : jC m_X12_weigh 9 0 0 [.ref 125] h Q := by
  refine jC.of rfl k_X12_weigh rfl ?_
  have Sm := jSm_rf fp_X12_weigh_r125 h
  show jX m_X12_weigh 9 0 0 0 [(0, .ref 125)] [] _ 0 0 _
  refine x_aloadn (x := 125) rfl rfl ?_
  refine x_ldcw (v := 146399) rfl z_12_392 ?_
  refine x_inv (N := m_X12_find) (As := [.int 146399]) (b := 125) (st := []) (dx9 := 8) (mc := 0) (ms := 0) (host := "") 12 rfl t_X12_find ⟨Or.inl q_12_393, i_X12_find.1, i_X12_find.2⟩ ⟨by decide, rfl⟩ (congrArg Prod.fst (J.1.1 125 (12, 92) rfl)) rfl (by decide) rfl rfl ⟨by decide, by decide⟩ (sf_X12_find_r125 (jr_of jk_146399 (by omega)) hD J  (fun h J S1 => ?_))
  have Sm := jSm_tr rfl Sm S1
  show jX m_X12_weigh 9 0 0 7 [(0, .ref 125)] [] _ 0 0 _
  refine x_aloadn (x := 125) rfl rfl ?_
  refine x_iconst (v := 0) rfl ki_0 ?_
  refine z_putI (N := 92) (w := 0) 12 45 rfl f_12_440 rfl (jfin_no TX12 RX12 92 rfl rfl) hD J Sm rfl rfl jk_0 (pw_125_45 trivial) rfl (fun h w2 J Sm => ?_)
  refine x_iconst (v := 0) rfl ki_0 ?_
  refine x_istoren (lsx9 := [(1, .int 0), (0, .ref 125)]) rfl rfl rfl ?_
  exact jX.sub (jsb_c rfl (jsb_c rfl jsb_n)) (ct_X12_weigh_r125_14 hD hQ  10 0 0 h (by have := jk_0; omega) (jr_of jk_0 (by omega)) (jmw w2) J Sm)
def fp_X12_findBest_r125 : jFp := [(125, 28, 29), (125, 31, 32), (125, 43, 44), (125, 44, 45), (125, 45, 46), (125, 46, 47), (125, 57, 58), (137, 0, 80), (138, 0, 2), (139, 0, 600), (140, 0, 200), (142, 0, 81), (143, 0, 81), (144, 0, 81), (145, 0, 9), (146, 0, 9)]
set_option maxRecDepth 100000 in
set_option maxHeartbeats 4000000 in
theorem ct_X12_findBest_r125_300204 {Dy : jH → Prop} {h0 : jH} {Q : Option Value → jH → Prop} {R171 : Int} (hD : jDk Dy) (hQ : ∀ hx9, jJ jSgM Dy hx9 → jSm fp_X12_findBest_r125 h0 hx9 → Q none hx9) (k171 : ∀ (l1 : Int32) (l2 : Int32) (g0 : Int32) (g1 : Int32) (h : jH), jdm h + l2.toInt < R171 → 0 ≤ l2.toInt ∧ l2.toInt ≤ 1 → (-1) ≤ g0.toInt ∧ g0.toInt ≤ 2147483647 → jGp h → jiv h 125 43 = g0 → jiv h 125 46 = g1 → jJ jSgM Dy h → jSm fp_X12_findBest_r125 h0 h → jX m_X12_findBest 10 0 0 171 [(0, .ref 125), (1, .int l1), (2, .int l2)] [] h 0 0 Q) : ∀ (l1 : Int32) (s1 : Int32) (g0 : Int32) (h : jH), (-1) ≤ g0.toInt ∧ g0.toInt ≤ 2147483647 → jGp h → jiv h 125 43 = g0 → jdm h + 1 ≤ R171 → jJ jSgM Dy h → jSm fp_X12_findBest_r125 h0 h → jX m_X12_findBest 10 0 0 204 [(0, .ref 125), (1, .int l1)] [.int 1, .int s1, .ref 125] h 0 0 Q := by
  intro l1 s1 g0 h y0 C0 z0 m171 J Sm
  have el1 := jfull l1
  have es1 := jfull s1
  refine z_iadd0 rfl (fun v1 => ?_)
  have ev1 := jfull v1
  refine z_putI (N := 92) (w := v1.toInt) 12 46 rfl f_12_463 rfl (jfin_no TX12 RX12 92 rfl rfl) hD J Sm rfl rfl rfl (pw_125_46 trivial) rfl (fun h w2 J Sm => ?_)
  refine x_aloadn (x := 125) rfl rfl ?_
  refine x_inv (N := m_X12_nextGroups) (As := []) (b := 125) (st := []) (dx9 := 1) (mc := 0) (ms := 0) (host := "") 12 rfl t_X12_nextGroups ⟨Or.inl q_12_459, i_X12_nextGroups.1, i_X12_nextGroups.2⟩ ⟨by decide, rfl⟩ (congrArg Prod.fst (J.1.1 125 (12, 92) rfl)) rfl (by decide) rfl rfl ⟨by decide, by decide⟩ (sf_X12_nextGroups_r125  (jgp_e (jeq_o w2 rfl jeq_0) C0) hD J  (fun v5 h ev5 J S3 P4 => ?_))
  have Sm := jSm_tr rfl Sm S3
  show jX m_X12_findBest 10 0 0 212 [(0, .ref 125), (1, .int l1)] [.int v5] _ 0 0 _
  refine x_istoren (lsx9 := [(2, .int v5), (0, .ref 125), (1, .int l1)]) rfl rfl rfl ?_
  refine x_goto (tgt := 171) rfl rfl ?_
  exact jX.sub (jsb_c rfl (jsb_c rfl (jsb_c rfl jsb_n))) (k171 l1 v5 g0 v1 h (by have q := jdm_e (jeq_o w2 rfl jeq_0); have := P4.2; omega) (jr_of rfl (by omega)) (jr_of rfl (by omega)) (jgp_e jeq_0 P4.1) (jmc S3 rfl (jmo w2 rfl z0)) (jmc S3 rfl (jmw w2)) J Sm)
set_option maxRecDepth 100000 in
set_option maxHeartbeats 4000000 in
theorem ct_X12_findBest_r125_200204 {Dy : jH → Prop} {h0 : jH} {Q : Option Value → jH → Prop} {R171 : Int} (hD : jDk Dy) (hQ : ∀ hx9, jJ jSgM Dy hx9 → jSm fp_X12_findBest_r125 h0 hx9 → Q none hx9) (k171 : ∀ (l1 : Int32) (l2 : Int32) (g0 : Int32) (g1 : Int32) (h : jH), jdm h + l2.toInt < R171 → 0 ≤ l2.toInt ∧ l2.toInt ≤ 1 → (-1) ≤ g0.toInt ∧ g0.toInt ≤ 2147483647 → jGp h → jiv h 125 43 = g0 → jiv h 125 46 = g1 → jJ jSgM Dy h → jSm fp_X12_findBest_r125 h0 h → jX m_X12_findBest 10 0 0 171 [(0, .ref 125), (1, .int l1), (2, .int l2)] [] h 0 0 Q) : ∀ (l1 : Int32) (s1 : Int32) (g0 : Int32) (h : jH), (-1) ≤ g0.toInt ∧ g0.toInt ≤ 2147483647 → jGp h → jiv h 125 43 = g0 → jdm h + 1 ≤ R171 → jJ jSgM Dy h → jSm fp_X12_findBest_r125 h0 h → jX m_X12_findBest 10 0 0 204 [(0, .ref 125), (1, .int l1)] [.int 0, .int s1, .ref 125] h 0 0 Q := by
  intro l1 s1 g0 h y0 C0 z0 m171 J Sm
  have el1 := jfull l1
  have es1 := jfull s1
  refine z_iadd rfl rfl jk_0 (by omega) (fun v1 ev1 => ?_)
  refine z_putI (N := 92) (w := v1.toInt) 12 46 rfl f_12_463 rfl (jfin_no TX12 RX12 92 rfl rfl) hD J Sm rfl rfl rfl (pw_125_46 trivial) rfl (fun h w2 J Sm => ?_)
  refine x_aloadn (x := 125) rfl rfl ?_
  refine x_inv (N := m_X12_nextGroups) (As := []) (b := 125) (st := []) (dx9 := 1) (mc := 0) (ms := 0) (host := "") 12 rfl t_X12_nextGroups ⟨Or.inl q_12_459, i_X12_nextGroups.1, i_X12_nextGroups.2⟩ ⟨by decide, rfl⟩ (congrArg Prod.fst (J.1.1 125 (12, 92) rfl)) rfl (by decide) rfl rfl ⟨by decide, by decide⟩ (sf_X12_nextGroups_r125  (jgp_e (jeq_o w2 rfl jeq_0) C0) hD J  (fun v5 h ev5 J S3 P4 => ?_))
  have Sm := jSm_tr rfl Sm S3
  show jX m_X12_findBest 10 0 0 212 [(0, .ref 125), (1, .int l1)] [.int v5] _ 0 0 _
  refine x_istoren (lsx9 := [(2, .int v5), (0, .ref 125), (1, .int l1)]) rfl rfl rfl ?_
  refine x_goto (tgt := 171) rfl rfl ?_
  exact jX.sub (jsb_c rfl (jsb_c rfl (jsb_c rfl jsb_n))) (k171 l1 v5 g0 v1 h (by have q := jdm_e (jeq_o w2 rfl jeq_0); have := P4.2; omega) (jr_of rfl (by omega)) (jr_of rfl (by omega)) (jgp_e jeq_0 P4.1) (jmc S3 rfl (jmo w2 rfl z0)) (jmc S3 rfl (jmw w2)) J Sm)
set_option maxRecDepth 100000 in
set_option maxHeartbeats 4000000 in
theorem ct_X12_findBest_r125_203 {Dy : jH → Prop} {h0 : jH} {Q : Option Value → jH → Prop} {R171 : Int} (hD : jDk Dy) (hQ : ∀ hx9, jJ jSgM Dy hx9 → jSm fp_X12_findBest_r125 h0 hx9 → Q none hx9) (k171 : ∀ (l1 : Int32) (l2 : Int32) (g0 : Int32) (g1 : Int32) (h : jH), jdm h + l2.toInt < R171 → 0 ≤ l2.toInt ∧ l2.toInt ≤ 1 → (-1) ≤ g0.toInt ∧ g0.toInt ≤ 2147483647 → jGp h → jiv h 125 43 = g0 → jiv h 125 46 = g1 → jJ jSgM Dy h → jSm fp_X12_findBest_r125 h0 h → jX m_X12_findBest 10 0 0 171 [(0, .ref 125), (1, .int l1), (2, .int l2)] [] h 0 0 Q) : ∀ (l1 : Int32) (s0 : Int32) (g0 : Int32) (h : jH), (-1) ≤ g0.toInt ∧ g0.toInt ≤ 2147483647 → jGp h → jiv h 125 43 = g0 → jdm h + 1 ≤ R171 → jJ jSgM Dy h → jSm fp_X12_findBest_r125 h0 h → jX m_X12_findBest 10 0 0 203 [(0, .ref 125), (1, .int l1)] [.int s0, .ref 125] h 0 0 Q := by
  intro l1 s0 g0 h y0 C0 z0 m171 J Sm
  have el1 := jfull l1
  have es0 := jfull s0
  refine x_iconst (v := 0) rfl ki_0 ?_
  exact jX.sub (jsb_c rfl (jsb_c rfl jsb_n)) (ct_X12_findBest_r125_200204 hD hQ k171 l1 s0 g0 h (jr_of rfl (by omega)) (jgp_e jeq_0 C0) z0 (by omega) J Sm)
set_option maxRecDepth 100000 in
set_option maxHeartbeats 4000000 in
theorem ct_X12_findBest_r125_171 {Dy : jH → Prop} {h0 : jH} {Q : Option Value → jH → Prop} (hD : jDk Dy) (hQ : ∀ hx9, jJ jSgM Dy hx9 → jSm fp_X12_findBest_r125 h0 hx9 → Q none hx9) : ∀ r : Nat, ∀ (l1 : Int32) (l2 : Int32) (g0 : Int32) (g1 : Int32) (h : jH), jdm h + l2.toInt < (r : Int) → 0 ≤ l2.toInt ∧ l2.toInt ≤ 1 → (-1) ≤ g0.toInt ∧ g0.toInt ≤ 2147483647 → jGp h → jiv h 125 43 = g0 → jiv h 125 46 = g1 → jJ jSgM Dy h → jSm fp_X12_findBest_r125 h0 h → jX m_X12_findBest 10 0 0 171 [(0, .ref 125), (1, .int l1), (2, .int l2)] [] h 0 0 Q := by
  intro r
  induction r with
  | zero =>
    intro l1 l2 g0 g1 h hm y0 y1 C0 z0 z1  J Sm
    exfalso
    have el1 := jfull l1
    have eg1 := jfull g1
    have := jdm_nn C0; omega
  | succ r ih =>
    intro l1 l2 g0 g1 h hm y0 y1 C0 z0 z1  J Sm
    have el1 := jfull l1
    have eg1 := jfull g1
    refine x_iloadn (x := l2) rfl rfl ?_
    refine x_ifeq (tgt := 216) rfl rfl (ti_eq rfl jk_0 ⟨fun c1 => ?_, fun c1 => ?_⟩)
    ·
      refine x_vret rfl rfl ?_
      exact hQ _ J Sm
    ·
      refine x_aloadn (x := 125) rfl rfl ?_
      refine x_inv (N := m_X12_groupsWorth) (As := []) (b := 125) (st := []) (dx9 := 1) (mc := 0) (ms := 0) (host := "") 12 rfl t_X12_groupsWorth ⟨Or.inl q_12_455, i_X12_groupsWorth.1, i_X12_groupsWorth.2⟩ ⟨by decide, rfl⟩ (congrArg Prod.fst (J.1.1 125 (12, 92) rfl)) rfl (by decide) rfl rfl ⟨by decide, by decide⟩ (sf_X12_groupsWorth_r125  hD J  (fun v3 h J S2 => ?_))
      have ev3 := jfull v3
      have Sm := jSm_tr rfl Sm S2
      show jX m_X12_findBest 10 0 0 179 [(0, .ref 125), (1, .int l1), (2, .int l2)] [.int v3] _ 0 0 _
      refine x_istoren (lsx9 := [(3, .int v3), (0, .ref 125), (1, .int l1), (2, .int l2)]) rfl rfl rfl ?_
      refine x_aloadn (x := 125) rfl rfl ?_
      refine x_dup rfl rfl ?_
      refine z_getM (N := 92) (v := g1) 12 46 rfl f_12_463 rfl J rfl (jmc S2 rfl z1) ?_
      refine x_iloadn (x := v3) rfl rfl ?_
      refine x_iflt (tgt := 203) rfl rfl (ti_lt rfl jk_0 ⟨fun c4 => ?_, fun c4 => ?_⟩)
      ·
        exact jX.sub (jsb_c rfl (jsb_c rfl jsb_n)) (ct_X12_findBest_r125_203 hD hQ ih l1 g1 g0 h (jr_of rfl (by omega)) (jgp_e (jeq_c S2 rfl jeq_0) C0) (jmc S2 rfl z0) (by have q := jdm_e (jeq_c S2 rfl jeq_0); omega) J Sm)
      ·
        refine x_iloadn (x := v3) rfl rfl ?_
        refine x_aloadn (x := 125) rfl rfl ?_
        refine z_getM (N := 92) (v := g0) 12 43 rfl f_12_446 rfl J rfl (jmc S2 rfl z0) ?_
        refine x_iloadn (x := l1) rfl rfl ?_
        refine z_isub0 rfl (fun v5 => ?_)
        have ev5 := jfull v5
        refine x_iclt (tgt := 203) rfl rfl (ti_lt rfl rfl ⟨fun c6 => ?_, fun c6 => ?_⟩)
        ·
          exact jX.sub (jsb_c rfl (jsb_c rfl jsb_n)) (ct_X12_findBest_r125_203 hD hQ ih l1 g1 g0 h (jr_of rfl (by omega)) (jgp_e (jeq_c S2 rfl jeq_0) C0) (jmc S2 rfl z0) (by have q := jdm_e (jeq_c S2 rfl jeq_0); omega) J Sm)
        ·
          refine x_iconst (v := 1) rfl ki_1 ?_
          refine x_goto (tgt := 204) rfl rfl ?_
          exact jX.sub (jsb_c rfl (jsb_c rfl jsb_n)) (ct_X12_findBest_r125_300204 hD hQ ih l1 g1 g0 h (jr_of rfl (by omega)) (jgp_e (jeq_c S2 rfl jeq_0) C0) (jmc S2 rfl z0) (by have q := jdm_e (jeq_c S2 rfl jeq_0); omega) J Sm)
set_option maxRecDepth 100000 in
set_option maxHeartbeats 4000000 in
theorem ct_X12_findBest_r125_152 {Dy : jH → Prop} {h0 : jH} {Q : Option Value → jH → Prop} {R20 : Int} (hD : jDk Dy) (hQ : ∀ hx9, jJ jSgM Dy hx9 → jSm fp_X12_findBest_r125 h0 hx9 → Q none hx9) (k20 : ∀ (l1 : Int32) (l2 : Int32) (g0 : Int32) (g1 : Int32) (h : jH), jdm h + l2.toInt < R20 → 0 ≤ l2.toInt ∧ l2.toInt ≤ 1 → (-1) ≤ g0.toInt ∧ g0.toInt ≤ 2147483647 → 0 ≤ g1.toInt ∧ g1.toInt ≤ 9 → jGp h → jiv h 125 43 = g0 → jiv h 125 44 = g1 → jJ jSgM Dy h → jSm fp_X12_findBest_r125 h0 h → jX m_X12_findBest 10 0 0 20 [(0, .ref 125), (1, .int l1), (2, .int l2)] [] h 0 0 Q) : ∀ (l1 : Int32) (g0 : Int32) (g1 : Int32) (h : jH), (-1) ≤ g0.toInt ∧ g0.toInt ≤ 2147483647 → 0 ≤ g1.toInt ∧ g1.toInt ≤ 9 → jGp h → jiv h 125 43 = g0 → jiv h 125 44 = g1 → jdm h + 1 ≤ R20 → jJ jSgM Dy h → jSm fp_X12_findBest_r125 h0 h → jX m_X12_findBest 10 0 0 152 [(0, .ref 125), (1, .int l1)] [] h 0 0 Q := by
  intro l1 g0 g1 h y0 y1 C0 z0 z1 m20 J Sm
  have el1 := jfull l1
  refine x_aloadn (x := 125) rfl rfl ?_
  refine x_inv (N := m_X12_nextGroups) (As := []) (b := 125) (st := []) (dx9 := 1) (mc := 0) (ms := 0) (host := "") 12 rfl t_X12_nextGroups ⟨Or.inl q_12_459, i_X12_nextGroups.1, i_X12_nextGroups.2⟩ ⟨by decide, rfl⟩ (congrArg Prod.fst (J.1.1 125 (12, 92) rfl)) rfl (by decide) rfl rfl ⟨by decide, by decide⟩ (sf_X12_nextGroups_r125  (jgp_e jeq_0 C0) hD J  (fun v3 h ev3 J S1 P2 => ?_))
  have Sm := jSm_tr rfl Sm S1
  show jX m_X12_findBest 10 0 0 156 [(0, .ref 125), (1, .int l1)] [.int v3] _ 0 0 _
  refine x_istoren (lsx9 := [(2, .int v3), (0, .ref 125), (1, .int l1)]) rfl rfl rfl ?_
  refine x_goto (tgt := 20) rfl rfl ?_
  exact jX.sub (jsb_c rfl (jsb_c rfl (jsb_c rfl jsb_n))) (k20 l1 v3 g0 g1 h (by have := P2.2; omega) (jr_of rfl (by omega)) (jr_of rfl (by omega)) (jr_of rfl (by omega)) (jgp_e jeq_0 P2.1) (jmc S1 rfl z0) (jmc S1 rfl z1) J Sm)
set_option maxRecDepth 100000 in
set_option maxHeartbeats 4000000 in
theorem ct_X12_findBest_r125_123 {Dy : jH → Prop} {h0 : jH} {Q : Option Value → jH → Prop} {R20 : Int} (hD : jDk Dy) (hQ : ∀ hx9, jJ jSgM Dy hx9 → jSm fp_X12_findBest_r125 h0 hx9 → Q none hx9) (k20 : ∀ (l1 : Int32) (l2 : Int32) (g0 : Int32) (g1 : Int32) (h : jH), jdm h + l2.toInt < R20 → 0 ≤ l2.toInt ∧ l2.toInt ≤ 1 → (-1) ≤ g0.toInt ∧ g0.toInt ≤ 2147483647 → 0 ≤ g1.toInt ∧ g1.toInt ≤ 9 → jGp h → jiv h 125 43 = g0 → jiv h 125 44 = g1 → jJ jSgM Dy h → jSm fp_X12_findBest_r125 h0 h → jX m_X12_findBest 10 0 0 20 [(0, .ref 125), (1, .int l1), (2, .int l2)] [] h 0 0 Q) : ∀ r : Nat, ∀ (l1 : Int32) (l5 : Int32) (g0 : Int32) (g1 : Int32) (g2 : Int32) (h : jH), 9 - l5.toInt < (r : Int) → 0 ≤ l5.toInt ∧ l5.toInt ≤ 9 → 0 ≤ g0.toInt ∧ g0.toInt ≤ 9 → 0 ≤ g1.toInt ∧ g1.toInt ≤ 2147483647 → 0 ≤ g2.toInt ∧ g2.toInt ≤ 9 → jGp h → jiv h 125 36 = g0 → jiv h 125 43 = g1 → jiv h 125 44 = g2 → jdm h + 1 ≤ R20 → jJ jSgM Dy h → jSm fp_X12_findBest_r125 h0 h → jX m_X12_findBest 10 0 0 123 [(0, .ref 125), (1, .int l1), (5, .int l5)] [] h 0 0 Q := by
  intro r
  induction r with
  | zero =>
    intro l1 l5 g0 g1 g2 h hm y0 y1 y2 y3 C0 z0 z1 z2 m20 J Sm
    exfalso
    have el1 := jfull l1
    omega
  | succ r ih =>
    intro l1 l5 g0 g1 g2 h hm y0 y1 y2 y3 C0 z0 z1 z2 m20 J Sm
    have el1 := jfull l1
    refine x_iload (x := l5) rfl rfl ?_
    refine x_aloadn (x := 125) rfl rfl ?_
    refine z_getM (N := 92) (v := g0) 12 36 rfl f_12_204 rfl J rfl z0 ?_
    refine x_icge (tgt := 152) rfl rfl (ti_ge rfl rfl ⟨fun c1 => ?_, fun c1 => ?_⟩)
    ·
      exact jX.sub (jsb_c rfl (jsb_c rfl jsb_n)) (ct_X12_findBest_r125_152 hD hQ k20 l1 g1 g2 h (jr_of rfl (by omega)) (jr_of rfl (by omega)) (jgp_e jeq_0 C0) z1 z2 (by omega) J Sm)
    ·
      refine x_aloadn (x := 125) rfl rfl ?_
      refine z_getR (N := 92) (b := 146) 12 42 rfl f_12_93 rfl J rfl 16042 ⟨rfl, rfl⟩ rfl ?_
      refine x_iload (x := l5) rfl rfl ?_
      refine x_aloadn (x := 125) rfl rfl ?_
      refine z_getR (N := 92) (b := 145) 12 41 rfl f_12_90 rfl J rfl 16041 ⟨rfl, rfl⟩ rfl ?_
      refine x_iload (x := l5) rfl rfl ?_
      refine z_iald (N := 9) rfl J rfl sg_145_0_9_1_0_1 rfl (by omega) (fun v2 qv2 ev2 => ?_)
      refine z_iast (N := 9) (l := 0) (u := 9) (w := v2.toInt) rfl hD J Sm rfl rfl rfl (by omega) rfl (wr_146 (fun q1 q2 q3 q4 => by omega)) rfl (fun h w3 J Sm => ?_)
      refine z_iinc (x := l5) (lsx9 := fun v4 => [(5, .int v4), (0, .ref 125), (1, .int l1)]) rfl rfl rfl jko_1 (by omega) rfl (fun _ => rfl) (fun v4 ev4 => ?_)
      refine x_goto (tgt := 123) rfl rfl ?_
      exact jX.sub (jsb_c rfl (jsb_c rfl (jsb_c rfl jsb_n))) (ih l1 v4 g0 g1 g2 h (by omega) (jr_of rfl (by omega)) (jr_of rfl (by omega)) (jr_of rfl (by omega)) (jr_of rfl (by omega)) (jgp_e (jeq_o w3 rfl jeq_0) C0) (jmo w3 rfl z0) (jmo w3 rfl z1) (jmo w3 rfl z2) (by have q := jdm_e (jeq_o w3 rfl jeq_0); omega) J Sm)
set_option maxRecDepth 100000 in
set_option maxHeartbeats 4000000 in
theorem ct_X12_findBest_r125_109 {Dy : jH → Prop} {h0 : jH} {Q : Option Value → jH → Prop} {R20 : Int} (hD : jDk Dy) (hQ : ∀ hx9, jJ jSgM Dy hx9 → jSm fp_X12_findBest_r125 h0 hx9 → Q none hx9) (k20 : ∀ (l1 : Int32) (l2 : Int32) (g0 : Int32) (g1 : Int32) (h : jH), jdm h + l2.toInt < R20 → 0 ≤ l2.toInt ∧ l2.toInt ≤ 1 → (-1) ≤ g0.toInt ∧ g0.toInt ≤ 2147483647 → 0 ≤ g1.toInt ∧ g1.toInt ≤ 9 → jGp h → jiv h 125 43 = g0 → jiv h 125 44 = g1 → jJ jSgM Dy h → jSm fp_X12_findBest_r125 h0 h → jX m_X12_findBest 10 0 0 20 [(0, .ref 125), (1, .int l1), (2, .int l2)] [] h 0 0 Q) : ∀ (l1 : Int32) (l3 : Int32) (l4 : Int32) (g0 : Int32) (h : jH), 0 ≤ l3.toInt ∧ l3.toInt ≤ 2147483647 → 0 ≤ l4.toInt ∧ l4.toInt ≤ 9 → 0 ≤ g0.toInt ∧ g0.toInt ≤ 9 → jGp h → jiv h 125 36 = g0 → jdm h + 1 ≤ R20 → jJ jSgM Dy h → jSm fp_X12_findBest_r125 h0 h → jX m_X12_findBest 10 0 0 109 [(0, .ref 125), (1, .int l1), (3, .int l3), (4, .int l4)] [] h 0 0 Q := by
  intro l1 l3 l4 g0 h y0 y1 y2 C0 z0 m20 J Sm
  have el1 := jfull l1
  refine x_aloadn (x := 125) rfl rfl ?_
  refine x_iloadn (x := l3) rfl rfl ?_
  refine z_putI (N := 92) (w := l3.toInt) 12 43 rfl f_12_446 rfl (jfin_no TX12 RX12 92 rfl rfl) hD J Sm rfl rfl rfl (pw_125_43 (by omega)) rfl (fun h w1 J Sm => ?_)
  refine x_aloadn (x := 125) rfl rfl ?_
  refine x_iload (x := l4) rfl rfl ?_
  refine z_putI (N := 92) (w := l4.toInt) 12 44 rfl f_12_449 rfl (jfin_no TX12 RX12 92 rfl rfl) hD J Sm rfl rfl rfl (pw_125_44 (by omega)) rfl (fun h w2 J Sm => ?_)
  refine x_iconst (v := 0) rfl ki_0 ?_
  refine x_istore (lsx9 := [(5, .int 0), (0, .ref 125), (1, .int l1), (3, .int l3), (4, .int l4)]) rfl rfl rfl ?_
  exact jX.sub (jsb_c rfl (jsb_c rfl (jsb_c rfl jsb_n))) (ct_X12_findBest_r125_123 hD hQ k20 10 l1 0 g0 l3 l4 h (by have := jk_0; omega) (jr_of jk_0 (by omega)) (jr_of rfl (by omega)) (jr_of rfl (by omega)) (jr_of rfl (by omega)) (jgp_e (jeq_o w2 rfl (jeq_o w1 rfl jeq_0)) C0) (jmo w2 rfl (jmo w1 rfl z0)) (jmo w2 rfl (jmw w1)) (jmw w2) (by have q := jdm_e (jeq_o w2 rfl (jeq_o w1 rfl jeq_0)); omega) J Sm)
set_option maxRecDepth 100000 in
set_option maxHeartbeats 4000000 in
theorem ct_X12_findBest_r125_72 {Dy : jH → Prop} {h0 : jH} {Q : Option Value → jH → Prop} {R20 : Int} {R35 : Int} (hD : jDk Dy) (hQ : ∀ hx9, jJ jSgM Dy hx9 → jSm fp_X12_findBest_r125 h0 hx9 → Q none hx9) (k20 : ∀ (l1 : Int32) (l2 : Int32) (g0 : Int32) (g1 : Int32) (h : jH), jdm h + l2.toInt < R20 → 0 ≤ l2.toInt ∧ l2.toInt ≤ 1 → (-1) ≤ g0.toInt ∧ g0.toInt ≤ 2147483647 → 0 ≤ g1.toInt ∧ g1.toInt ≤ 9 → jGp h → jiv h 125 43 = g0 → jiv h 125 44 = g1 → jJ jSgM Dy h → jSm fp_X12_findBest_r125 h0 h → jX m_X12_findBest 10 0 0 20 [(0, .ref 125), (1, .int l1), (2, .int l2)] [] h 0 0 Q) (k35 : ∀ (l1 : Int32) (l3 : Int32) (l4 : Int32) (l5 : Int32) (g0 : Int32) (g1 : Int32) (h : jH), 9 - l5.toInt < R35 → 0 ≤ l4.toInt ∧ l4.toInt ≤ 9 → 0 ≤ l5.toInt ∧ l5.toInt ≤ 9 → (-1) ≤ g0.toInt ∧ g0.toInt ≤ 2147483647 → 0 ≤ g1.toInt ∧ g1.toInt ≤ 9 → jGp h → jiv h 125 43 = g0 → jiv h 125 44 = g1 → jdm h + 1 ≤ R20 → jJ jSgM Dy h → jSm fp_X12_findBest_r125 h0 h → jX m_X12_findBest 10 0 0 35 [(0, .ref 125), (1, .int l1), (3, .int l3), (4, .int l4), (5, .int l5)] [] h 0 0 Q) : ∀ (l1 : Int32) (l3 : Int32) (l5 : Int32) (s0 : Int32) (g0 : Int32) (g1 : Int32) (h : jH), 0 ≤ l5.toInt ∧ l5.toInt ≤ 8 → 1 ≤ s0.toInt ∧ s0.toInt ≤ 9 → (-1) ≤ g0.toInt ∧ g0.toInt ≤ 2147483647 → 0 ≤ g1.toInt ∧ g1.toInt ≤ 9 → jGp h → jiv h 125 43 = g0 → jiv h 125 44 = g1 → jdm h + 1 ≤ R20 → 9 - l5.toInt ≤ R35 → jJ jSgM Dy h → jSm fp_X12_findBest_r125 h0 h → jX m_X12_findBest 10 0 0 72 [(0, .ref 125), (1, .int l1), (3, .int l3), (5, .int l5)] [.int s0] h 0 0 Q := by
  intro l1 l3 l5 s0 g0 g1 h y0 y1 y2 y3 C0 z0 z1 m20 m35 J Sm
  have el1 := jfull l1
  have el3 := jfull l3
  refine x_istore (lsx9 := [(4, .int s0), (0, .ref 125), (1, .int l1), (3, .int l3), (5, .int l5)]) rfl rfl rfl ?_
  refine z_iinc (x := l5) (lsx9 := fun v1 => [(5, .int v1), (4, .int s0), (0, .ref 125), (1, .int l1), (3, .int l3)]) rfl rfl rfl jko_1 (by omega) rfl (fun _ => rfl) (fun v1 ev1 => ?_)
  refine x_goto (tgt := 35) rfl rfl ?_
  exact jX.sub (jsb_c rfl (jsb_c rfl (jsb_c rfl (jsb_c rfl (jsb_c rfl jsb_n))))) (k35 l1 l3 s0 v1 g0 g1 h (by omega) (jr_of rfl (by omega)) (jr_of rfl (by omega)) (jr_of rfl (by omega)) (jr_of rfl (by omega)) (jgp_e jeq_0 C0) z0 z1 (by omega) J Sm)
set_option maxRecDepth 100000 in
set_option maxHeartbeats 4000000 in
theorem ct_X12_findBest_r125_35 {Dy : jH → Prop} {h0 : jH} {Q : Option Value → jH → Prop} {R20 : Int} (hD : jDk Dy) (hQ : ∀ hx9, jJ jSgM Dy hx9 → jSm fp_X12_findBest_r125 h0 hx9 → Q none hx9) (k20 : ∀ (l1 : Int32) (l2 : Int32) (g0 : Int32) (g1 : Int32) (h : jH), jdm h + l2.toInt < R20 → 0 ≤ l2.toInt ∧ l2.toInt ≤ 1 → (-1) ≤ g0.toInt ∧ g0.toInt ≤ 2147483647 → 0 ≤ g1.toInt ∧ g1.toInt ≤ 9 → jGp h → jiv h 125 43 = g0 → jiv h 125 44 = g1 → jJ jSgM Dy h → jSm fp_X12_findBest_r125 h0 h → jX m_X12_findBest 10 0 0 20 [(0, .ref 125), (1, .int l1), (2, .int l2)] [] h 0 0 Q) : ∀ r : Nat, ∀ (l1 : Int32) (l3 : Int32) (l4 : Int32) (l5 : Int32) (g0 : Int32) (g1 : Int32) (h : jH), 9 - l5.toInt < (r : Int) → 0 ≤ l4.toInt ∧ l4.toInt ≤ 9 → 0 ≤ l5.toInt ∧ l5.toInt ≤ 9 → (-1) ≤ g0.toInt ∧ g0.toInt ≤ 2147483647 → 0 ≤ g1.toInt ∧ g1.toInt ≤ 9 → jGp h → jiv h 125 43 = g0 → jiv h 125 44 = g1 → jdm h + 1 ≤ R20 → jJ jSgM Dy h → jSm fp_X12_findBest_r125 h0 h → jX m_X12_findBest 10 0 0 35 [(0, .ref 125), (1, .int l1), (3, .int l3), (4, .int l4), (5, .int l5)] [] h 0 0 Q := by
  intro r
  induction r with
  | zero =>
    intro l1 l3 l4 l5 g0 g1 h hm y0 y1 y2 y3 C0 z0 z1 m20 J Sm
    exfalso
    have el1 := jfull l1
    have el3 := jfull l3
    omega
  | succ r ih =>
    intro l1 l3 l4 l5 g0 g1 h hm y0 y1 y2 y3 C0 z0 z1 m20 J Sm
    have el1 := jfull l1
    have el3 := jfull l3
    refine x_iload (x := l5) rfl rfl ?_
    refine x_aloadn (x := 125) rfl rfl ?_
    refine z_getI (N := 92) 12 36 rfl f_12_204 rfl J rfl sg_125_36_37_1_0_1 (fun v1 qv1 ev1 => ?_)
    refine x_icge (tgt := 80) rfl rfl (ti_ge rfl rfl ⟨fun c2 => ?_, fun c2 => ?_⟩)
    ·
      refine x_iloadn (x := l3) rfl rfl ?_
      refine x_aloadn (x := 125) rfl rfl ?_
      refine z_getM (N := 92) (v := g0) 12 43 rfl f_12_446 rfl J rfl z0 ?_
      refine x_icgt (tgt := 109) rfl rfl (ti_gt rfl rfl ⟨fun c3 => ?_, fun c3 => ?_⟩)
      ·
        exact jX.sub (jsb_c rfl (jsb_c rfl (jsb_c rfl (jsb_c rfl jsb_n)))) (ct_X12_findBest_r125_109 hD hQ k20 l1 l3 l4 v1 h (jr_of rfl (by omega)) (jr_of rfl (by omega)) (jr_of rfl (by omega)) (jgp_e jeq_0 C0) qv1 (by omega) J Sm)
      ·
        refine x_iloadn (x := l3) rfl rfl ?_
        refine x_iflt (tgt := 152) rfl rfl (ti_lt rfl jk_0 ⟨fun c4 => ?_, fun c4 => ?_⟩)
        ·
          exact jX.sub (jsb_c rfl (jsb_c rfl jsb_n)) (ct_X12_findBest_r125_152 hD hQ k20 l1 g0 g1 h (jr_of rfl (by omega)) (jr_of rfl (by omega)) (jgp_e jeq_0 C0) z0 z1 (by omega) J Sm)
        ·
          refine x_iloadn (x := l3) rfl rfl ?_
          refine x_aloadn (x := 125) rfl rfl ?_
          refine z_getM (N := 92) (v := g0) 12 43 rfl f_12_446 rfl J rfl z0 ?_
          refine x_icne (tgt := 152) rfl rfl (ti_ne rfl rfl ⟨fun c5 => ?_, fun c5 => ?_⟩)
          ·
            exact jX.sub (jsb_c rfl (jsb_c rfl jsb_n)) (ct_X12_findBest_r125_152 hD hQ k20 l1 g0 g1 h (jr_of rfl (by omega)) (jr_of rfl (by omega)) (jgp_e jeq_0 C0) z0 z1 (by omega) J Sm)
          ·
            refine x_iload (x := l4) rfl rfl ?_
            refine x_aloadn (x := 125) rfl rfl ?_
            refine z_getM (N := 92) (v := g1) 12 44 rfl f_12_449 rfl J rfl z1 ?_
            refine x_icge (tgt := 152) rfl rfl (ti_ge rfl rfl ⟨fun c6 => ?_, fun c6 => ?_⟩)
            ·
              exact jX.sub (jsb_c rfl (jsb_c rfl jsb_n)) (ct_X12_findBest_r125_152 hD hQ k20 l1 g0 g1 h (jr_of rfl (by omega)) (jr_of rfl (by omega)) (jgp_e jeq_0 C0) z0 z1 (by omega) J Sm)
            ·
              exact jX.sub (jsb_c rfl (jsb_c rfl (jsb_c rfl (jsb_c rfl jsb_n)))) (ct_X12_findBest_r125_109 hD hQ k20 l1 l3 l4 v1 h (jr_of rfl (by omega)) (jr_of rfl (by omega)) (jr_of rfl (by omega)) (jgp_e jeq_0 C0) qv1 (by omega) J Sm)
    ·
      refine x_aloadn (x := 125) rfl rfl ?_
      refine z_getR (N := 92) (b := 145) 12 41 rfl f_12_90 rfl J rfl 16041 ⟨rfl, rfl⟩ rfl ?_
      refine x_iload (x := l5) rfl rfl ?_
      refine z_iald (N := 9) rfl J rfl sg_145_0_9_1_0_1 rfl (by omega) (fun v7 qv7 ev7 => ?_)
      refine x_iconst (v := 1) rfl ki_1 ?_
      refine z_iadd rfl rfl jk_1 (by omega) (fun v8 ev8 => ?_)
      refine x_iload (x := l4) rfl rfl ?_
      refine x_icle (tgt := 70) rfl rfl (ti_le rfl rfl ⟨fun c9 => ?_, fun c9 => ?_⟩)
      ·
        refine x_iload (x := l4) rfl rfl ?_
        exact jX.sub (jsb_c rfl (jsb_c rfl (jsb_c rfl (jsb_c rfl jsb_n)))) (ct_X12_findBest_r125_72 hD hQ k20 ih l1 l3 l5 l4 g0 g1 h (jr_of rfl (by omega)) (jr_of rfl (by omega)) (jr_of rfl (by omega)) (jr_of rfl (by omega)) (jgp_e jeq_0 C0) z0 z1 (by omega) (by omega) J Sm)
      ·
        refine x_aloadn (x := 125) rfl rfl ?_
        refine z_getR (N := 92) (b := 145) 12 41 rfl f_12_90 rfl J rfl 16041 ⟨rfl, rfl⟩ rfl ?_
        refine x_iload (x := l5) rfl rfl ?_
        refine z_ialdM (N := 9) (v := v7) rfl J rfl rfl (by omega) qv7 ?_
        refine x_iconst (v := 1) rfl ki_1 ?_
        refine z_iadd rfl rfl jk_1 (by omega) (fun v10 ev10 => ?_)
        refine x_goto (tgt := 72) rfl rfl ?_
        exact jX.sub (jsb_c rfl (jsb_c rfl (jsb_c rfl (jsb_c rfl jsb_n)))) (ct_X12_findBest_r125_72 hD hQ k20 ih l1 l3 l5 v10 g0 g1 h (jr_of rfl (by omega)) (jr_of rfl (by omega)) (jr_of rfl (by omega)) (jr_of rfl (by omega)) (jgp_e jeq_0 C0) z0 z1 (by omega) (by omega) J Sm)
set_option maxRecDepth 100000 in
set_option maxHeartbeats 4000000 in
theorem ct_X12_findBest_r125_20 {Dy : jH → Prop} {h0 : jH} {Q : Option Value → jH → Prop} (hD : jDk Dy) (hQ : ∀ hx9, jJ jSgM Dy hx9 → jSm fp_X12_findBest_r125 h0 hx9 → Q none hx9) : ∀ r : Nat, ∀ (l1 : Int32) (l2 : Int32) (g0 : Int32) (g1 : Int32) (h : jH), jdm h + l2.toInt < (r : Int) → 0 ≤ l2.toInt ∧ l2.toInt ≤ 1 → (-1) ≤ g0.toInt ∧ g0.toInt ≤ 2147483647 → 0 ≤ g1.toInt ∧ g1.toInt ≤ 9 → jGp h → jiv h 125 43 = g0 → jiv h 125 44 = g1 → jJ jSgM Dy h → jSm fp_X12_findBest_r125 h0 h → jX m_X12_findBest 10 0 0 20 [(0, .ref 125), (1, .int l1), (2, .int l2)] [] h 0 0 Q := by
  intro r
  induction r with
  | zero =>
    intro l1 l2 g0 g1 h hm y0 y1 y2 C0 z0 z1  J Sm
    exfalso
    have el1 := jfull l1
    have := jdm_nn C0; omega
  | succ r ih =>
    intro l1 l2 g0 g1 h hm y0 y1 y2 C0 z0 z1  J Sm
    have el1 := jfull l1
    refine x_iloadn (x := l2) rfl rfl ?_
    refine x_ifeq (tgt := 160) rfl rfl (ti_eq rfl jk_0 ⟨fun c1 => ?_, fun c1 => ?_⟩)
    ·
      refine x_aloadn (x := 125) rfl rfl ?_
      refine x_iconst (v := 0) rfl ki_0 ?_
      refine z_putI (N := 92) (w := 0) 12 46 rfl f_12_463 rfl (jfin_no TX12 RX12 92 rfl rfl) hD J Sm rfl rfl jk_0 (pw_125_46 trivial) rfl (fun h w2 J Sm => ?_)
      refine x_aloadn (x := 125) rfl rfl ?_
      refine x_inv (N := m_X12_firstGroups) (As := []) (b := 125) (st := []) (dx9 := 1) (mc := 0) (ms := 0) (host := "") 12 rfl t_X12_firstGroups ⟨Or.inl q_12_452, i_X12_firstGroups.1, i_X12_firstGroups.2⟩ ⟨by decide, rfl⟩ (congrArg Prod.fst (J.1.1 125 (12, 92) rfl)) rfl (by decide) rfl rfl ⟨by decide, by decide⟩ (sf_X12_firstGroups_r125  hD J  (fun h J S3 P4 => ?_))
      have Sm := jSm_tr rfl Sm S3
      show jX m_X12_findBest 10 0 0 169 [(0, .ref 125), (1, .int l1), (2, .int l2)] [] _ 0 0 _
      refine x_iconst (v := 1) rfl ki_1 ?_
      refine x_istoren (lsx9 := [(2, .int 1), (0, .ref 125), (1, .int l1)]) rfl rfl rfl ?_
      exact jX.sub (jsb_c rfl (jsb_c rfl (jsb_c rfl jsb_n))) (ct_X12_findBest_r125_171 hD hQ  387420491 l1 1 g0 0 h (by have := jdm_top ((jgp_e jeq_0 P4)); have := jk_1; omega) (jr_of jk_1 (by omega)) (jr_of rfl (by omega)) (jgp_e jeq_0 P4) (jmc S3 rfl (jmo w2 rfl z0)) (jmc S3 rfl (jmw w2)) J Sm)
    ·
      refine x_aloadn (x := 125) rfl rfl ?_
      refine x_inv (N := m_X12_groupsWorth) (As := []) (b := 125) (st := []) (dx9 := 1) (mc := 0) (ms := 0) (host := "") 12 rfl t_X12_groupsWorth ⟨Or.inl q_12_455, i_X12_groupsWorth.1, i_X12_groupsWorth.2⟩ ⟨by decide, rfl⟩ (congrArg Prod.fst (J.1.1 125 (12, 92) rfl)) rfl (by decide) rfl rfl ⟨by decide, by decide⟩ (sf_X12_groupsWorth_r125  hD J  (fun v6 h J S5 => ?_))
      have ev6 := jfull v6
      have Sm := jSm_tr rfl Sm S5
      show jX m_X12_findBest 10 0 0 28 [(0, .ref 125), (1, .int l1), (2, .int l2)] [.int v6] _ 0 0 _
      refine x_istoren (lsx9 := [(3, .int v6), (0, .ref 125), (1, .int l1), (2, .int l2)]) rfl rfl rfl ?_
      refine x_iconst (v := 0) rfl ki_0 ?_
      refine x_istore (lsx9 := [(4, .int 0), (3, .int v6), (0, .ref 125), (1, .int l1), (2, .int l2)]) rfl rfl rfl ?_
      refine x_iconst (v := 0) rfl ki_0 ?_
      refine x_istore (lsx9 := [(5, .int 0), (4, .int 0), (3, .int v6), (0, .ref 125), (1, .int l1), (2, .int l2)]) rfl rfl rfl ?_
      exact jX.sub (jsb_c rfl (jsb_c rfl (jsb_c rfl (jsb_c rfl (jsb_c rfl jsb_n))))) (ct_X12_findBest_r125_35 hD hQ ih 10 l1 v6 0 0 g0 g1 h (by have := jk_0; omega) (jr_of jk_0 (by omega)) (jr_of jk_0 (by omega)) (jr_of rfl (by omega)) (jr_of rfl (by omega)) (jgp_e (jeq_c S5 rfl jeq_0) C0) (jmc S5 rfl z0) (jmc S5 rfl z1) (by have q := jdm_e (jeq_c S5 rfl jeq_0); omega) J Sm)
set_option maxRecDepth 100000 in
set_option maxHeartbeats 4000000 in
theorem sf_X12_findBest_r125 {Dy : jH → Prop} {h : jH} {Q : Option Value → jH → Prop} {a1 : Int32} (hD : jDk Dy) (J : jJ jSgM Dy h) (hQ : ∀ hx9, jJ jSgM Dy hx9 → jSm fp_X12_findBest_r125 h hx9 → Q none hx9) : jC m_X12_findBest 10 0 0 [.ref 125, .int a1] h Q := by
  refine jC.of rfl k_X12_findBest rfl ?_
  have Sm := jSm_rf fp_X12_findBest_r125 h
  have ea1 := jfull a1
  show jX m_X12_findBest 10 0 0 0 [(0, .ref 125), (1, .int a1)] [] _ 0 0 _
  refine x_aloadn (x := 125) rfl rfl ?_
  refine x_inv (N := m_X12_weigh) (As := []) (b := 125) (st := []) (dx9 := 9) (mc := 0) (ms := 0) (host := "") 12 rfl t_X12_weigh ⟨Or.inl q_12_443, i_X12_weigh.1, i_X12_weigh.2⟩ ⟨by decide, rfl⟩ (congrArg Prod.fst (J.1.1 125 (12, 92) rfl)) rfl (by decide) rfl rfl ⟨by decide, by decide⟩ (sf_X12_weigh_r125  hD J  (fun h J S1 => ?_))
  have Sm := jSm_tr rfl Sm S1
  show jX m_X12_findBest 10 0 0 4 [(0, .ref 125), (1, .int a1)] [] _ 0 0 _
  refine x_aloadn (x := 125) rfl rfl ?_
  refine x_iconst (v := (-1)) rfl ki_m1 ?_
  refine z_putI (N := 92) (w := (-1)) 12 43 rfl f_12_446 rfl (jfin_no TX12 RX12 92 rfl rfl) hD J Sm rfl rfl jk_m1 (pw_125_43 (by omega)) rfl (fun h w2 J Sm => ?_)
  refine x_aloadn (x := 125) rfl rfl ?_
  refine x_iconst (v := 0) rfl ki_0 ?_
  refine z_putI (N := 92) (w := 0) 12 44 rfl f_12_449 rfl (jfin_no TX12 RX12 92 rfl rfl) hD J Sm rfl rfl jk_0 (pw_125_44 (by omega)) rfl (fun h w3 J Sm => ?_)
  refine x_aloadn (x := 125) rfl rfl ?_
  refine x_inv (N := m_X12_firstGroups) (As := []) (b := 125) (st := []) (dx9 := 1) (mc := 0) (ms := 0) (host := "") 12 rfl t_X12_firstGroups ⟨Or.inl q_12_452, i_X12_firstGroups.1, i_X12_firstGroups.2⟩ ⟨by decide, rfl⟩ (congrArg Prod.fst (J.1.1 125 (12, 92) rfl)) rfl (by decide) rfl rfl ⟨by decide, by decide⟩ (sf_X12_firstGroups_r125  hD J  (fun h J S4 P5 => ?_))
  have Sm := jSm_tr rfl Sm S4
  show jX m_X12_findBest 10 0 0 18 [(0, .ref 125), (1, .int a1)] [] _ 0 0 _
  refine x_iconst (v := 1) rfl ki_1 ?_
  refine x_istoren (lsx9 := [(2, .int 1), (0, .ref 125), (1, .int a1)]) rfl rfl rfl ?_
  exact jX.sub (jsb_c rfl (jsb_c rfl (jsb_c rfl jsb_n))) (ct_X12_findBest_r125_20 hD hQ  387420491 a1 1 (-1) 0 h (by have := jdm_top ((jgp_e jeq_0 P5)); have := jk_1; omega) (jr_of jk_1 (by omega)) (jr_of jk_m1 (by omega)) (jr_of jk_0 (by omega)) (jgp_e jeq_0 P5) (jmc S4 rfl (jmo w3 rfl (jmw w2))) (jmc S4 rfl (jmw w3)) J Sm)
def fp_X12_best_r125 : jFp := [(125, 0, 1), (125, 28, 29), (125, 31, 32), (125, 43, 44), (125, 44, 45), (125, 45, 46), (125, 46, 47), (125, 57, 58), (137, 0, 80), (138, 0, 2), (139, 0, 600), (140, 0, 200), (142, 0, 81), (143, 0, 81), (144, 0, 81), (145, 0, 9), (146, 0, 9)]
set_option maxRecDepth 100000 in
set_option maxHeartbeats 4000000 in
theorem ct_X12_best_r125_34 {Dy : jH → Prop} {h0 : jH} {Q : Option Value → jH → Prop} (hD : jDk Dy) (hQ : ∀ (v : Int32) hx9, jJ jSgM Dy hx9 → jSm fp_X12_best_r125 h0 hx9 → Q (some (.int v)) hx9) : ∀ (h : jH), jJ jSgM Dy h → jSm fp_X12_best_r125 h0 h → jX m_X12_best 11 0 0 34 [] [] h 0 0 Q := by
  intro  h    J Sm
  refine x_iconst (v := (-1)) rfl ki_m1 ?_
  refine x_iret rfl rfl ?_
  exact hQ _ _ J Sm
set_option maxRecDepth 100000 in
set_option maxHeartbeats 4000000 in
theorem ct_X12_best_r125_89 {Dy : jH → Prop} {h0 : jH} {Q : Option Value → jH → Prop} (hD : jDk Dy) (hQ : ∀ (v : Int32) hx9, jJ jSgM Dy hx9 → jSm fp_X12_best_r125 h0 hx9 → Q (some (.int v)) hx9) : ∀ (s0 : Int32) (h : jH), jJ jSgM Dy h → jSm fp_X12_best_r125 h0 h → jX m_X12_best 11 0 0 89 [] [.int s0] h 0 0 Q := by
  intro s0 h    J Sm
  have es0 := jfull s0
  refine x_iret rfl rfl ?_
  exact hQ _ _ J Sm
set_option maxRecDepth 100000 in
set_option maxHeartbeats 4000000 in
theorem ct_X12_best_r125_200047 {Dy : jH → Prop} {h0 : jH} {Q : Option Value → jH → Prop} (hD : jDk Dy) (hQ : ∀ (v : Int32) hx9, jJ jSgM Dy hx9 → jSm fp_X12_best_r125 h0 hx9 → Q (some (.int v)) hx9) : ∀ (l1 : Int32) (h : jH), 0 ≤ l1.toInt ∧ l1.toInt ≤ 2 → jJ jSgM Dy h → jSm fp_X12_best_r125 h0 h → jX m_X12_best 11 0 0 47 [(0, .ref 125), (1, .int l1)] [.int 0, .ref 125] h 0 0 Q := by
  intro l1 h y0   J Sm
  refine x_inv (N := m_X12_findBest) (As := [.int 0]) (b := 125) (st := []) (dx9 := 10) (mc := 0) (ms := 0) (host := "") 12 rfl t_X12_findBest ⟨Or.inl q_12_468, i_X12_findBest.1, i_X12_findBest.2⟩ ⟨by decide, rfl⟩ (congrArg Prod.fst (J.1.1 125 (12, 92) rfl)) rfl (by decide) rfl rfl ⟨by decide, by decide⟩ (sf_X12_findBest_r125  hD J  (fun h J S1 => ?_))
  have Sm := jSm_tr rfl Sm S1
  show jX m_X12_best 11 0 0 50 [(0, .ref 125), (1, .int l1)] [] _ 0 0 _
  refine x_iloadn (x := l1) rfl rfl ?_
  refine x_ifne (tgt := 61) rfl rfl (ti_ne rfl jk_0 ⟨fun c2 => ?_, fun c2 => ?_⟩)
  ·
    refine x_iloadn (x := l1) rfl rfl ?_
    refine x_iconst (v := 1) rfl ki_1 ?_
    refine x_icne (tgt := 73) rfl rfl (ti_ne rfl jk_1 ⟨fun c3 => ?_, fun c3 => ?_⟩)
    ·
      refine x_iloadn (x := l1) rfl rfl ?_
      refine x_iconst (v := 2) rfl ki_2 ?_
      refine x_icne (tgt := 85) rfl rfl (ti_ne rfl jk_2 (bn_f (by omega) ?_))
      refine x_aloadn (x := 125) rfl rfl ?_
      refine z_getI0 (N := 92) 12 45 rfl f_12_440 rfl J rfl (fun v4 qv4 => ?_)
      have ev4 := jfull v4
      refine x_goto (tgt := 89) rfl rfl ?_
      exact jX.sub jsb_n (ct_X12_best_r125_89 hD hQ  v4 h J Sm)
    ·
      refine x_aloadn (x := 125) rfl rfl ?_
      refine z_getI (N := 92) 12 44 rfl f_12_449 rfl J rfl sg_125_44_45_1_0_1 (fun v5 qv5 ev5 => ?_)
      refine x_goto (tgt := 89) rfl rfl ?_
      exact jX.sub jsb_n (ct_X12_best_r125_89 hD hQ  v5 h J Sm)
  ·
    refine x_aloadn (x := 125) rfl rfl ?_
    refine z_getI (N := 92) 12 43 rfl f_12_446 rfl J rfl sg_125_43_44_1_0_1 (fun v6 qv6 ev6 => ?_)
    refine x_goto (tgt := 89) rfl rfl ?_
    exact jX.sub jsb_n (ct_X12_best_r125_89 hD hQ  v6 h J Sm)
set_option maxRecDepth 100000 in
set_option maxHeartbeats 4000000 in
theorem ct_X12_best_r125_47 {Dy : jH → Prop} {h0 : jH} {Q : Option Value → jH → Prop} (hD : jDk Dy) (hQ : ∀ (v : Int32) hx9, jJ jSgM Dy hx9 → jSm fp_X12_best_r125 h0 hx9 → Q (some (.int v)) hx9) : ∀ (l1 : Int32) (s0 : Int32) (h : jH), 3 ≤ l1.toInt ∧ l1.toInt ≤ 3 → jJ jSgM Dy h → jSm fp_X12_best_r125 h0 h → jX m_X12_best 11 0 0 47 [(0, .ref 125), (1, .int l1)] [.int s0, .ref 125] h 0 0 Q := by
  intro l1 s0 h y0   J Sm
  have es0 := jfull s0
  refine x_inv (N := m_X12_findBest) (As := [.int s0]) (b := 125) (st := []) (dx9 := 10) (mc := 0) (ms := 0) (host := "") 12 rfl t_X12_findBest ⟨Or.inl q_12_468, i_X12_findBest.1, i_X12_findBest.2⟩ ⟨by decide, rfl⟩ (congrArg Prod.fst (J.1.1 125 (12, 92) rfl)) rfl (by decide) rfl rfl ⟨by decide, by decide⟩ (sf_X12_findBest_r125  hD J  (fun h J S1 => ?_))
  have Sm := jSm_tr rfl Sm S1
  show jX m_X12_best 11 0 0 50 [(0, .ref 125), (1, .int l1)] [] _ 0 0 _
  refine x_iloadn (x := l1) rfl rfl ?_
  refine x_ifne (tgt := 61) rfl rfl (ti_ne rfl jk_0 (bn_t (by omega) ?_))
  refine x_iloadn (x := l1) rfl rfl ?_
  refine x_iconst (v := 1) rfl ki_1 ?_
  refine x_icne (tgt := 73) rfl rfl (ti_ne rfl jk_1 (bn_t (by omega) ?_))
  refine x_iloadn (x := l1) rfl rfl ?_
  refine x_iconst (v := 2) rfl ki_2 ?_
  refine x_icne (tgt := 85) rfl rfl (ti_ne rfl jk_2 (bn_t (by omega) ?_))
  refine x_aloadn (x := 125) rfl rfl ?_
  refine z_getI0 (N := 92) 12 46 rfl f_12_463 rfl J rfl (fun v2 qv2 => ?_)
  have ev2 := jfull v2
  exact jX.sub jsb_n (ct_X12_best_r125_89 hD hQ  v2 h J Sm)
set_option maxRecDepth 100000 in
set_option maxHeartbeats 4000000 in
theorem ct_X12_best_r125_36 {Dy : jH → Prop} {h0 : jH} {Q : Option Value → jH → Prop} (hD : jDk Dy) (hQ : ∀ (v : Int32) hx9, jJ jSgM Dy hx9 → jSm fp_X12_best_r125 h0 hx9 → Q (some (.int v)) hx9) : ∀ (l1 : Int32) (l2 : Int32) (h : jH), 0 ≤ l1.toInt ∧ l1.toInt ≤ 3 → jJ jSgM Dy h → jSm fp_X12_best_r125 h0 h → jX m_X12_best 11 0 0 36 [(0, .ref 125), (1, .int l1), (2, .int l2)] [] h 0 0 Q := by
  intro l1 l2 h y0   J Sm
  have el2 := jfull l2
  refine x_aloadn (x := 125) rfl rfl ?_
  refine x_iloadn (x := l1) rfl rfl ?_
  refine x_iconst (v := 3) rfl ki_3 ?_
  refine x_icne (tgt := 46) rfl rfl (ti_ne rfl jk_3 ⟨fun c1 => ?_, fun c1 => ?_⟩)
  ·
    refine x_iconst (v := 0) rfl ki_0 ?_
    exact jX.sub (jsb_c rfl (jsb_c rfl jsb_n)) (ct_X12_best_r125_200047 hD hQ  l1 h (jr_of rfl (by omega)) J Sm)
  ·
    refine x_iloadn (x := l2) rfl rfl ?_
    refine x_goto (tgt := 47) rfl rfl ?_
    exact jX.sub (jsb_c rfl (jsb_c rfl jsb_n)) (ct_X12_best_r125_47 hD hQ  l1 l2 h (jr_of rfl (by omega)) J Sm)
set_option maxRecDepth 100000 in
set_option maxHeartbeats 4000000 in
theorem sf_X12_best_r125 {Dy : jH → Prop} {h : jH} {Q : Option Value → jH → Prop} {a1 : Int32} {a2 : Int32} (hD : jDk Dy) (J : jJ jSgM Dy h) (hQ : ∀ (v : Int32) hx9, jJ jSgM Dy hx9 → jSm fp_X12_best_r125 h hx9 → Q (some (.int v)) hx9) : jC m_X12_best 11 0 0 [.ref 125, .int a1, .int a2] h Q := by
  refine jC.of rfl k_X12_best rfl ?_
  have Sm := jSm_rf fp_X12_best_r125 h
  have ea1 := jfull a1
  have ea2 := jfull a2
  show jX m_X12_best 11 0 0 0 [(0, .ref 125), (1, .int a1), (2, .int a2)] [] _ 0 0 _
  refine x_aloadn (x := 125) rfl rfl ?_
  refine x_iconst (v := 0) rfl ki_0 ?_
  refine z_putI (N := 92) (w := 0) 12 0 rfl f_12_180 rfl (jfin_no TX12 RX12 92 rfl rfl) hD J Sm rfl rfl jk_0 (pw_125_0 (by omega)) rfl (fun h w1 J Sm => ?_)
  refine x_iloadn (x := a1) rfl rfl ?_
  refine z_i2l rfl rfl (fun v2 ev2 => ?_)
  refine x_lconst (v := 0) rfl kl_0 ?_
  refine x_ldc2 (v := 3) rfl z_12_195 ?_
  refine x_inst (N := m_X12_in) (As := [.long v2, .long 0, .long 3]) (st := []) (dx9 := 1) (mc := 0) (ms := 0) (host := "") rfl t_X12_in ⟨Or.inl q_12_188, s_X12_in⟩ rfl (by decide) rfl rfl ⟨by decide, by decide⟩ (zc_X12_in rfl jkl_0 jkl_3 (fun v3 ev3 => ?_))
  show jX m_X12_best 11 0 0 14 [(0, .ref 125), (1, .int a1), (2, .int a2)] [.int v3] _ 0 0 _
  refine x_ifeq (tgt := 34) rfl rfl (ti_eq rfl jk_0 ⟨fun c4 => ?_, fun c4 => ?_⟩)
  ·
    exact jX.sub jsb_n (ct_X12_best_r125_34 hD hQ  h J Sm)
  ·
    refine x_iloadn (x := a1) rfl rfl ?_
    refine x_iconst (v := 3) rfl ki_3 ?_
    refine x_icne (tgt := 36) rfl rfl (ti_ne rfl jk_3 ⟨fun c5 => ?_, fun c5 => ?_⟩)
    ·
      exact jX.sub (jsb_c rfl (jsb_c rfl (jsb_c rfl jsb_n))) (ct_X12_best_r125_36 hD hQ  a1 a2 h (jr_of rfl (by omega)) J Sm)
    ·
      refine x_iloadn (x := a2) rfl rfl ?_
      refine z_i2l rfl rfl (fun v6 ev6 => ?_)
      refine x_lconst (v := 0) rfl kl_0 ?_
      refine x_ldc2 (v := 1000) rfl z_12_466 ?_
      refine x_inst (N := m_X12_in) (As := [.long v6, .long 0, .long 1000]) (st := []) (dx9 := 1) (mc := 0) (ms := 0) (host := "") rfl t_X12_in ⟨Or.inl q_12_188, s_X12_in⟩ rfl (by decide) rfl rfl ⟨by decide, by decide⟩ (zc_X12_in rfl jkl_0 jkl_1000 (fun v7 ev7 => ?_))
      show jX m_X12_best 11 0 0 31 [(0, .ref 125), (1, .int a1), (2, .int a2)] [.int v7] _ 0 0 _
      refine x_ifne (tgt := 36) rfl rfl (ti_ne rfl jk_0 ⟨fun c8 => ?_, fun c8 => ?_⟩)
      ·
        exact jX.sub (jsb_c rfl (jsb_c rfl (jsb_c rfl jsb_n))) (ct_X12_best_r125_36 hD hQ  a1 a2 h (jr_of rfl (by omega)) J Sm)
      ·
        exact jX.sub jsb_n (ct_X12_best_r125_34 hD hQ  h J Sm)
def fp_X12_beyond_r125 : jFp := [(125, 0, 1), (125, 28, 29), (125, 31, 32), (125, 32, 33), (125, 33, 34), (125, 34, 35), (125, 35, 36), (125, 57, 58), (125, 61, 62), (125, 62, 63), (125, 63, 64), (125, 64, 65), (125, 65, 66), (125, 66, 67), (137, 0, 80), (138, 0, 2), (139, 0, 600), (140, 0, 200), (152, 0, 360), (153, 0, 30), (154, 0, 400), (155, 0, 360), (162, 0, 40), (163, 0, 40), (164, 0, 40)]
set_option maxRecDepth 100000 in
set_option maxHeartbeats 4000000 in
theorem ct_X12_beyond_r125_38 {Dy : jH → Prop} {h0 : jH} {Q : Option Value → jH → Prop} (hD : jDk Dy) (hQ : ∀ (v : Int32) hx9, jJ jSgM Dy hx9 → jSm fp_X12_beyond_r125 h0 hx9 → Q (some (.int v)) hx9) : ∀ (h : jH), jJ jSgM Dy h → jSm fp_X12_beyond_r125 h0 h → jX m_X12_beyond 12 0 0 38 [] [] h 0 0 Q := by
  intro  h    J Sm
  refine x_iconst (v := (-1)) rfl ki_m1 ?_
  refine x_iret rfl rfl ?_
  exact hQ _ _ J Sm
set_option maxRecDepth 100000 in
set_option maxHeartbeats 4000000 in
theorem ct_X12_beyond_r125_106 {Dy : jH → Prop} {h0 : jH} {Q : Option Value → jH → Prop} (hD : jDk Dy) (hQ : ∀ (v : Int32) hx9, jJ jSgM Dy hx9 → jSm fp_X12_beyond_r125 h0 hx9 → Q (some (.int v)) hx9) : ∀ (s0 : Int32) (h : jH), jJ jSgM Dy h → jSm fp_X12_beyond_r125 h0 h → jX m_X12_beyond 12 0 0 106 [] [.int s0] h 0 0 Q := by
  intro s0 h    J Sm
  have es0 := jfull s0
  refine x_iret rfl rfl ?_
  exact hQ _ _ J Sm
set_option maxRecDepth 100000 in
set_option maxHeartbeats 4000000 in
theorem ct_X12_beyond_r125_200106 {Dy : jH → Prop} {h0 : jH} {Q : Option Value → jH → Prop} (hD : jDk Dy) (hQ : ∀ (v : Int32) hx9, jJ jSgM Dy hx9 → jSm fp_X12_beyond_r125 h0 hx9 → Q (some (.int v)) hx9) : ∀ (h : jH), jJ jSgM Dy h → jSm fp_X12_beyond_r125 h0 h → jX m_X12_beyond 12 0 0 106 [] [.int 0] h 0 0 Q := by
  intro  h    J Sm
  refine x_iret rfl rfl ?_
  exact hQ _ _ J Sm
set_option maxRecDepth 100000 in
set_option maxHeartbeats 4000000 in
theorem ct_X12_beyond_r125_81 {Dy : jH → Prop} {h0 : jH} {Q : Option Value → jH → Prop} (hD : jDk Dy) (hQ : ∀ (v : Int32) hx9, jJ jSgM Dy hx9 → jSm fp_X12_beyond_r125 h0 hx9 → Q (some (.int v)) hx9) : ∀ (l1 : Int32) (s0 : Int64) (h : jH), 0 ≤ l1.toInt ∧ l1.toInt ≤ 199 → jJ jSgM Dy h → jSm fp_X12_beyond_r125 h0 h → jX m_X12_beyond 12 0 0 81 [(0, .ref 125), (1, .int l1)] [.long s0] h 0 0 Q := by
  intro l1 s0 h y0   J Sm
  have es0 := jfullL s0
  refine x_lstoren (lsx9 := [(3, .long s0), (0, .ref 125), (1, .int l1)]) rfl rfl rfl ?_
  refine x_aloadn (x := 125) rfl rfl ?_
  refine x_iloadn (x := l1) rfl rfl ?_
  refine x_inv (N := m_X12_numberOf) (As := [.int l1]) (b := 125) (st := []) (dx9 := 11) (mc := 0) (ms := 0) (host := "") 12 rfl t_X12_numberOf ⟨Or.inl q_12_296, i_X12_numberOf.1, i_X12_numberOf.2⟩ ⟨by decide, rfl⟩ (congrArg Prod.fst (J.1.1 125 (12, 92) rfl)) rfl (by decide) rfl rfl ⟨by decide, by decide⟩ (jC.of rfl k_X12_numberOf rfl ?_)
  show jX m_X12_numberOf 11 0 0 0 [(0, .ref 125), (1, .int l1)] [] _ 0 0 _
  refine x_aloadn (x := 125) rfl rfl ?_
  refine z_getR (N := 92) (b := 126) 12 2 rfl f_12_8 rfl J rfl 16002 ⟨rfl, rfl⟩ rfl ?_
  refine x_aloadn (x := 125) rfl rfl ?_
  refine x_iloadn (x := l1) rfl rfl ?_
  refine x_inv (N := m_X12_at) (As := [.int l1]) (b := 125) (st := [.ref 126]) (dx9 := 10) (mc := 0) (ms := 0) (host := "") 12 rfl t_X12_at ⟨Or.inl q_12_254, i_X12_at.1, i_X12_at.2⟩ ⟨by decide, rfl⟩ (congrArg Prod.fst (J.1.1 125 (12, 92) rfl)) rfl (by decide) rfl rfl ⟨by decide, by decide⟩ (jC.of rfl k_X12_at rfl ?_)
  show jX m_X12_at 10 0 0 0 [(0, .ref 125), (1, .int l1)] [] _ 0 0 _
  refine x_bipush (v := 20) rfl kb_20 ?_
  refine x_bipush (v := 90) rfl kb_90 ?_
  refine x_iloadn (x := l1) rfl rfl ?_
  refine z_imul rfl jk_90 rfl (by omega) (fun v1 ev1 => ?_)
  refine z_iadd rfl jk_20 rfl (by omega) (fun v2 ev2 => ?_)
  refine x_iret rfl rfl ?_
  show jX m_X12_numberOf 11 0 0 9 [(0, .ref 125), (1, .int l1)] [.int v2, .ref 126] _ 0 0 _
  refine x_iconst (v := 4) rfl ki_4 ?_
  refine z_iadd rfl rfl jk_4 (by omega) (fun v3 ev3 => ?_)
  refine z_iald0 (N := 50660) rfl J rfl rfl (by omega) (fun v4 qv4 => ?_)
  have ev4 := jfull v4
  refine x_iret rfl rfl ?_
  show jX m_X12_beyond 12 0 0 87 [(3, .long s0), (0, .ref 125), (1, .int l1)] [.int v4] _ 0 0 _
  refine z_i2l rfl rfl (fun v5 ev5 => ?_)
  refine x_lloadn (x := s0) rfl rfl ?_
  refine z_lsub0 rfl (fun v6 => ?_)
  have ev6 := jfullL v6
  refine x_lstore (lsx9 := [(5, .long v6), (3, .long s0), (0, .ref 125), (1, .int l1)]) rfl rfl rfl ?_
  refine x_lload (x := v6) rfl rfl ?_
  refine x_lconst (v := 0) rfl kl_0 ?_
  refine z_lcmp rfl rfl jkl_0 (fun v7 ev7 => ?_)
  refine x_ifge (tgt := 103) rfl rfl (ti_ge rfl jk_0 ⟨fun c8 => ?_, fun c8 => ?_⟩)
  ·
    refine x_lload (x := v6) rfl rfl ?_
    refine z_l2i0 rfl (fun v9 => ?_)
    exact jX.sub jsb_n (ct_X12_beyond_r125_106 hD hQ  v9 h J Sm)
  ·
    refine x_iconst (v := 0) rfl ki_0 ?_
    refine x_goto (tgt := 106) rfl rfl ?_
    exact jX.sub jsb_n (ct_X12_beyond_r125_200106 hD hQ  h J Sm)
set_option maxRecDepth 100000 in
set_option maxHeartbeats 4000000 in
theorem ct_X12_beyond_r125_5000081 {Dy : jH → Prop} {h0 : jH} {Q : Option Value → jH → Prop} (hD : jDk Dy) (hQ : ∀ (v : Int32) hx9, jJ jSgM Dy hx9 → jSm fp_X12_beyond_r125 h0 hx9 → Q (some (.int v)) hx9) : ∀ (l1 : Int32) (h : jH), 0 ≤ l1.toInt ∧ l1.toInt ≤ 199 → jJ jSgM Dy h → jSm fp_X12_beyond_r125 h0 h → jX m_X12_beyond 12 0 0 81 [(0, .ref 125), (1, .int l1)] [.long 0] h 0 0 Q := by
  intro l1 h y0   J Sm
  refine x_lstoren (lsx9 := [(3, .long 0), (0, .ref 125), (1, .int l1)]) rfl rfl rfl ?_
  refine x_aloadn (x := 125) rfl rfl ?_
  refine x_iloadn (x := l1) rfl rfl ?_
  refine x_inv (N := m_X12_numberOf) (As := [.int l1]) (b := 125) (st := []) (dx9 := 11) (mc := 0) (ms := 0) (host := "") 12 rfl t_X12_numberOf ⟨Or.inl q_12_296, i_X12_numberOf.1, i_X12_numberOf.2⟩ ⟨by decide, rfl⟩ (congrArg Prod.fst (J.1.1 125 (12, 92) rfl)) rfl (by decide) rfl rfl ⟨by decide, by decide⟩ (jC.of rfl k_X12_numberOf rfl ?_)
  show jX m_X12_numberOf 11 0 0 0 [(0, .ref 125), (1, .int l1)] [] _ 0 0 _
  refine x_aloadn (x := 125) rfl rfl ?_
  refine z_getR (N := 92) (b := 126) 12 2 rfl f_12_8 rfl J rfl 16002 ⟨rfl, rfl⟩ rfl ?_
  refine x_aloadn (x := 125) rfl rfl ?_
  refine x_iloadn (x := l1) rfl rfl ?_
  refine x_inv (N := m_X12_at) (As := [.int l1]) (b := 125) (st := [.ref 126]) (dx9 := 10) (mc := 0) (ms := 0) (host := "") 12 rfl t_X12_at ⟨Or.inl q_12_254, i_X12_at.1, i_X12_at.2⟩ ⟨by decide, rfl⟩ (congrArg Prod.fst (J.1.1 125 (12, 92) rfl)) rfl (by decide) rfl rfl ⟨by decide, by decide⟩ (jC.of rfl k_X12_at rfl ?_)
  show jX m_X12_at 10 0 0 0 [(0, .ref 125), (1, .int l1)] [] _ 0 0 _
  refine x_bipush (v := 20) rfl kb_20 ?_
  refine x_bipush (v := 90) rfl kb_90 ?_
  refine x_iloadn (x := l1) rfl rfl ?_
  refine z_imul rfl jk_90 rfl (by omega) (fun v1 ev1 => ?_)
  refine z_iadd rfl jk_20 rfl (by omega) (fun v2 ev2 => ?_)
  refine x_iret rfl rfl ?_
  show jX m_X12_numberOf 11 0 0 9 [(0, .ref 125), (1, .int l1)] [.int v2, .ref 126] _ 0 0 _
  refine x_iconst (v := 4) rfl ki_4 ?_
  refine z_iadd rfl rfl jk_4 (by omega) (fun v3 ev3 => ?_)
  refine z_iald0 (N := 50660) rfl J rfl rfl (by omega) (fun v4 qv4 => ?_)
  have ev4 := jfull v4
  refine x_iret rfl rfl ?_
  show jX m_X12_beyond 12 0 0 87 [(3, .long 0), (0, .ref 125), (1, .int l1)] [.int v4] _ 0 0 _
  refine z_i2l rfl rfl (fun v5 ev5 => ?_)
  refine x_lloadn (x := 0) rfl rfl ?_
  refine z_lsub rfl rfl jkl_0 (by omega) (fun v6 ev6 => ?_)
  refine x_lstore (lsx9 := [(5, .long v6), (3, .long 0), (0, .ref 125), (1, .int l1)]) rfl rfl rfl ?_
  refine x_lload (x := v6) rfl rfl ?_
  refine x_lconst (v := 0) rfl kl_0 ?_
  refine z_lcmp rfl rfl jkl_0 (fun v7 ev7 => ?_)
  refine x_ifge (tgt := 103) rfl rfl (ti_ge rfl jk_0 ⟨fun c8 => ?_, fun c8 => ?_⟩)
  ·
    refine x_lload (x := v6) rfl rfl ?_
    refine z_l2i rfl rfl (by omega) (fun v9 ev9 => ?_)
    exact jX.sub jsb_n (ct_X12_beyond_r125_106 hD hQ  v9 h J Sm)
  ·
    refine x_iconst (v := 0) rfl ki_0 ?_
    refine x_goto (tgt := 106) rfl rfl ?_
    exact jX.sub jsb_n (ct_X12_beyond_r125_200106 hD hQ  h J Sm)
set_option maxRecDepth 100000 in
set_option maxHeartbeats 4000000 in
theorem sf_X12_beyond_r125 {Dy : jH → Prop} {h : jH} {Q : Option Value → jH → Prop} {a1 : Int32} {a2 : Int32} (hD : jDk Dy) (J : jJ jSgM Dy h) (hQ : ∀ (v : Int32) hx9, jJ jSgM Dy hx9 → jSm fp_X12_beyond_r125 h hx9 → Q (some (.int v)) hx9) : jC m_X12_beyond 12 0 0 [.ref 125, .int a1, .int a2] h Q := by
  refine jC.of rfl k_X12_beyond rfl ?_
  have Sm := jSm_rf fp_X12_beyond_r125 h
  have ea1 := jfull a1
  have ea2 := jfull a2
  show jX m_X12_beyond 12 0 0 0 [(0, .ref 125), (1, .int a1), (2, .int a2)] [] _ 0 0 _
  refine x_aloadn (x := 125) rfl rfl ?_
  refine x_iconst (v := 0) rfl ki_0 ?_
  refine z_putI (N := 92) (w := 0) 12 0 rfl f_12_180 rfl (jfin_no TX12 RX12 92 rfl rfl) hD J Sm rfl rfl jk_0 (pw_125_0 (by omega)) rfl (fun h w1 J Sm => ?_)
  refine x_aloadn (x := 125) rfl rfl ?_
  refine x_iloadn (x := a1) rfl rfl ?_
  refine x_inv (N := m_X12_isLine) (As := [.int a1]) (b := 125) (st := []) (dx9 := 11) (mc := 0) (ms := 0) (host := "") 12 rfl t_X12_isLine ⟨Or.inl q_12_293, i_X12_isLine.1, i_X12_isLine.2⟩ ⟨by decide, rfl⟩ (congrArg Prod.fst (J.1.1 125 (12, 92) rfl)) rfl (by decide) rfl rfl ⟨by decide, by decide⟩ (jC.of rfl k_X12_isLine rfl ?_)
  show jX m_X12_isLine 11 0 0 0 [(0, .ref 125), (1, .int a1)] [] _ 0 0 _
  refine x_iloadn (x := a1) rfl rfl ?_
  refine z_i2l rfl rfl (fun v2 ev2 => ?_)
  refine x_lconst (v := 0) rfl kl_0 ?_
  refine x_aloadn (x := 125) rfl rfl ?_
  refine z_getR (N := 92) (b := 126) 12 2 rfl f_12_8 rfl J rfl 16002 ⟨rfl, rfl⟩ rfl ?_
  refine x_iconst (v := 0) rfl ki_0 ?_
  refine z_iald (N := 50660) rfl J rfl sg_126_0_1_1_0_1 jk_0 (by omega) (fun v3 qv3 ev3 => ?_)
  refine z_i2l rfl rfl (fun v4 ev4 => ?_)
  refine x_lconst (v := 1) rfl kl_1 ?_
  refine z_lsub rfl rfl jkl_1 (by omega) (fun v5 ev5 => ?_)
  refine x_inst (N := m_X12_in) (As := [.long v2, .long 0, .long v5]) (st := []) (dx9 := 1) (mc := 0) (ms := 0) (host := "") rfl t_X12_in ⟨Or.inl q_12_188, s_X12_in⟩ rfl (by decide) rfl rfl ⟨by decide, by decide⟩ (zc_X12_in rfl jkl_0 rfl (fun v6 ev6 => ?_))
  show jX m_X12_isLine 11 0 0 15 [(0, .ref 125), (1, .int a1)] [.int v6] _ 0 0 _
  refine x_zret rfl rfl (jz01 (by omega)) ?_
  show jX m_X12_beyond 12 0 0 10 [(0, .ref 125), (1, .int a1), (2, .int a2)] [.int v6] _ 0 0 _
  refine x_ifeq (tgt := 38) rfl rfl (ti_eq rfl jk_0 ⟨fun c7 => ?_, fun c7 => ?_⟩)
  ·
    exact jX.sub jsb_n (ct_X12_beyond_r125_38 hD hQ  h J Sm)
  ·
    refine x_aloadn (x := 125) rfl rfl ?_
    refine x_iloadn (x := a1) rfl rfl ?_
    refine x_inv (N := m_X12_bookOf) (As := [.int a1]) (b := 125) (st := []) (dx9 := 11) (mc := 0) (ms := 0) (host := "") 12 rfl t_X12_bookOf ⟨Or.inl q_12_299, i_X12_bookOf.1, i_X12_bookOf.2⟩ ⟨by decide, rfl⟩ (congrArg Prod.fst (J.1.1 125 (12, 92) rfl)) rfl (by decide) rfl rfl ⟨by decide, by decide⟩ (jC.of rfl k_X12_bookOf rfl ?_)
    show jX m_X12_bookOf 11 0 0 0 [(0, .ref 125), (1, .int a1)] [] _ 0 0 _
    refine x_aloadn (x := 125) rfl rfl ?_
    refine z_getR (N := 92) (b := 126) 12 2 rfl f_12_8 rfl J rfl 16002 ⟨rfl, rfl⟩ rfl ?_
    refine x_aloadn (x := 125) rfl rfl ?_
    refine x_iloadn (x := a1) rfl rfl ?_
    refine x_inv (N := m_X12_at) (As := [.int a1]) (b := 125) (st := [.ref 126]) (dx9 := 10) (mc := 0) (ms := 0) (host := "") 12 rfl t_X12_at ⟨Or.inl q_12_254, i_X12_at.1, i_X12_at.2⟩ ⟨by decide, rfl⟩ (congrArg Prod.fst (J.1.1 125 (12, 92) rfl)) rfl (by decide) rfl rfl ⟨by decide, by decide⟩ (jC.of rfl k_X12_at rfl ?_)
    show jX m_X12_at 10 0 0 0 [(0, .ref 125), (1, .int a1)] [] _ 0 0 _
    refine x_bipush (v := 20) rfl kb_20 ?_
    refine x_bipush (v := 90) rfl kb_90 ?_
    refine x_iloadn (x := a1) rfl rfl ?_
    refine z_imul rfl jk_90 rfl (by omega) (fun v8 ev8 => ?_)
    refine z_iadd rfl jk_20 rfl (by omega) (fun v9 ev9 => ?_)
    refine x_iret rfl rfl ?_
    show jX m_X12_bookOf 11 0 0 9 [(0, .ref 125), (1, .int a1)] [.int v9, .ref 126] _ 0 0 _
    refine z_iald (N := 50660) rfl J rfl sg_126_20_18020_90_0_1 rfl (by omega) (fun v10 qv10 ev10 => ?_)
    refine x_iret rfl rfl ?_
    show jX m_X12_beyond 12 0 0 18 [(0, .ref 125), (1, .int a1), (2, .int a2)] [.int v10] _ 0 0 _
    refine x_iconst (v := 4) rfl ki_4 ?_
    refine x_icne (tgt := 38) rfl rfl (ti_ne rfl jk_4 ⟨fun c11 => ?_, fun c11 => ?_⟩)
    ·
      exact jX.sub jsb_n (ct_X12_beyond_r125_38 hD hQ  h J Sm)
    ·
      refine x_iloadn (x := a2) rfl rfl ?_
      refine x_inst (N := m_X12_isDay) (As := [.int a2]) (st := []) (dx9 := 2) (mc := 0) (ms := 0) (host := "") rfl t_X12_isDay ⟨Or.inl q_12_273, s_X12_isDay⟩ rfl (by decide) rfl rfl ⟨by decide, by decide⟩ (zc_X12_isDay (d := 1) rfl (fun v12 ev12 => ?_))
      show jX m_X12_beyond 12 0 0 26 [(0, .ref 125), (1, .int a1), (2, .int a2)] [.int v12] _ 0 0 _
      refine x_ifeq (tgt := 38) rfl rfl (ti_eq rfl jk_0 ⟨fun c13 => ?_, fun c13 => ?_⟩)
      ·
        exact jX.sub jsb_n (ct_X12_beyond_r125_38 hD hQ  h J Sm)
      ·
        refine x_aloadn (x := 125) rfl rfl ?_
        refine x_iloadn (x := a1) rfl rfl ?_
        refine x_iloadn (x := a2) rfl rfl ?_
        refine x_inv (N := m_X12_isKnown) (As := [.int a1, .int a2]) (b := 125) (st := []) (dx9 := 11) (mc := 0) (ms := 0) (host := "") 12 rfl t_X12_isKnown ⟨Or.inl q_12_383, i_X12_isKnown.1, i_X12_isKnown.2⟩ ⟨by decide, rfl⟩ (congrArg Prod.fst (J.1.1 125 (12, 92) rfl)) rfl (by decide) rfl rfl ⟨by decide, by decide⟩ (jC.of rfl k_X12_isKnown rfl ?_)
        show jX m_X12_isKnown 11 0 0 0 [(0, .ref 125), (1, .int a1), (2, .int a2)] [] _ 0 0 _
        refine x_aloadn (x := 125) rfl rfl ?_
        refine z_getR (N := 92) (b := 126) 12 2 rfl f_12_8 rfl J rfl 16002 ⟨rfl, rfl⟩ rfl ?_
        refine x_aloadn (x := 125) rfl rfl ?_
        refine x_iloadn (x := a1) rfl rfl ?_
        refine x_inv (N := m_X12_at) (As := [.int a1]) (b := 125) (st := [.ref 126]) (dx9 := 10) (mc := 0) (ms := 0) (host := "") 12 rfl t_X12_at ⟨Or.inl q_12_254, i_X12_at.1, i_X12_at.2⟩ ⟨by decide, rfl⟩ (congrArg Prod.fst (J.1.1 125 (12, 92) rfl)) rfl (by decide) rfl rfl ⟨by decide, by decide⟩ (jC.of rfl k_X12_at rfl ?_)
        show jX m_X12_at 10 0 0 0 [(0, .ref 125), (1, .int a1)] [] _ 0 0 _
        refine x_bipush (v := 20) rfl kb_20 ?_
        refine x_bipush (v := 90) rfl kb_90 ?_
        refine x_iloadn (x := a1) rfl rfl ?_
        refine z_imul rfl jk_90 rfl (by omega) (fun v14 ev14 => ?_)
        refine z_iadd rfl jk_20 rfl (by omega) (fun v15 ev15 => ?_)
        refine x_iret rfl rfl ?_
        show jX m_X12_isKnown 11 0 0 9 [(0, .ref 125), (1, .int a1), (2, .int a2)] [.int v15, .ref 126] _ 0 0 _
        refine x_iconst (v := 3) rfl ki_3 ?_
        refine z_iadd rfl rfl jk_3 (by omega) (fun v16 ev16 => ?_)
        refine z_iald (N := 50660) rfl J rfl sg_126_20_18020_90_3_4 rfl (by omega) (fun v17 qv17 ev17 => ?_)
        refine x_iloadn (x := a2) rfl rfl ?_
        refine x_icgt (tgt := 20) rfl rfl (ti_gt rfl rfl ⟨fun c18 => ?_, fun c18 => ?_⟩)
        ·
          refine x_iconst (v := 0) rfl ki_0 ?_
          refine x_zret rfl rfl (by decide) ?_
          show jX m_X12_beyond 12 0 0 35 [(0, .ref 125), (1, .int a1), (2, .int a2)] [.int 0] _ 0 0 _
          refine x_ifne (tgt := 40) rfl rfl (ti_ne jk_0 jk_0 (bn_f (by omega) ?_))
          exact jX.sub jsb_n (ct_X12_beyond_r125_38 hD hQ  h J Sm)
        ·
          refine x_iconst (v := 1) rfl ki_1 ?_
          refine x_goto (tgt := 21) rfl rfl ?_
          refine x_zret rfl rfl (by decide) ?_
          show jX m_X12_beyond 12 0 0 35 [(0, .ref 125), (1, .int a1), (2, .int a2)] [.int 1] _ 0 0 _
          refine x_ifne (tgt := 40) rfl rfl (ti_ne jk_1 jk_0 (bn_t (by omega) ?_))
          refine x_aloadn (x := 125) rfl rfl ?_
          refine x_iloadn (x := a2) rfl rfl ?_
          refine x_inv (N := m_X12_find) (As := [.int a2]) (b := 125) (st := []) (dx9 := 8) (mc := 0) (ms := 0) (host := "") 12 rfl t_X12_find ⟨Or.inl q_12_393, i_X12_find.1, i_X12_find.2⟩ ⟨by decide, rfl⟩ (congrArg Prod.fst (J.1.1 125 (12, 92) rfl)) rfl (by decide) rfl rfl ⟨by decide, by decide⟩ (sf_X12_find_r125 (jr_of rfl (by omega)) hD J  (fun h J S19 => ?_))
          have Sm := jSm_tr rfl Sm S19
          show jX m_X12_beyond 12 0 0 45 [(0, .ref 125), (1, .int a1), (2, .int a2)] [] _ 0 0 _
          refine x_aloadn (x := 125) rfl rfl ?_
          refine x_iconst (v := 4) rfl ki_4 ?_
          refine x_iconst (v := 0) rfl ki_0 ?_
          refine x_aloadn (x := 125) rfl rfl ?_
          refine z_getR (N := 92) (b := 139) 12 29 rfl f_12_72 rfl J rfl 16029 ⟨rfl, rfl⟩ rfl ?_
          refine x_iconst (v := 3) rfl ki_3 ?_
          refine x_iloadn (x := a1) rfl rfl ?_
          refine z_imul rfl jk_3 rfl (by omega) (fun v20 ev20 => ?_)
          refine z_iald (N := 600) rfl J rfl sg_139_0_600_1_0_1 rfl (by omega) (fun v21 qv21 ev21 => ?_)
          refine x_aloadn (x := 125) rfl rfl ?_
          refine x_iloadn (x := a1) rfl rfl ?_
          refine x_inv (N := m_X12_dayOf) (As := [.int a1]) (b := 125) (st := [.int v21, .int 0, .int 4, .ref 125]) (dx9 := 11) (mc := 0) (ms := 0) (host := "") 12 rfl t_X12_dayOf ⟨Or.inl q_12_335, i_X12_dayOf.1, i_X12_dayOf.2⟩ ⟨by decide, rfl⟩ (congrArg Prod.fst (J.1.1 125 (12, 92) rfl)) rfl (by decide) rfl rfl ⟨by decide, by decide⟩ (jC.of rfl k_X12_dayOf rfl ?_)
          show jX m_X12_dayOf 11 0 0 0 [(0, .ref 125), (1, .int a1)] [] _ 0 0 _
          refine x_aloadn (x := 125) rfl rfl ?_
          refine z_getR (N := 92) (b := 126) 12 2 rfl f_12_8 rfl J rfl 16002 ⟨rfl, rfl⟩ rfl ?_
          refine x_aloadn (x := 125) rfl rfl ?_
          refine x_iloadn (x := a1) rfl rfl ?_
          refine x_inv (N := m_X12_at) (As := [.int a1]) (b := 125) (st := [.ref 126]) (dx9 := 10) (mc := 0) (ms := 0) (host := "") 12 rfl t_X12_at ⟨Or.inl q_12_254, i_X12_at.1, i_X12_at.2⟩ ⟨by decide, rfl⟩ (congrArg Prod.fst (J.1.1 125 (12, 92) rfl)) rfl (by decide) rfl rfl ⟨by decide, by decide⟩ (jC.of rfl k_X12_at rfl ?_)
          show jX m_X12_at 10 0 0 0 [(0, .ref 125), (1, .int a1)] [] _ 0 0 _
          refine x_bipush (v := 20) rfl kb_20 ?_
          refine x_bipush (v := 90) rfl kb_90 ?_
          refine x_iloadn (x := a1) rfl rfl ?_
          refine z_imul rfl jk_90 rfl (by omega) (fun v22 ev22 => ?_)
          refine z_iadd rfl jk_20 rfl (by omega) (fun v23 ev23 => ?_)
          refine x_iret rfl rfl ?_
          show jX m_X12_dayOf 11 0 0 9 [(0, .ref 125), (1, .int a1)] [.int v23, .ref 126] _ 0 0 _
          refine x_iconst (v := 2) rfl ki_2 ?_
          refine z_iadd rfl rfl jk_2 (by omega) (fun v24 ev24 => ?_)
          refine z_iald (N := 50660) rfl J rfl sg_126_20_18020_90_2_3 rfl (by omega) (fun v25 qv25 ev25 => ?_)
          refine x_iret rfl rfl ?_
          show jX m_X12_beyond 12 0 0 61 [(0, .ref 125), (1, .int a1), (2, .int a2)] [.int v25, .int v21, .int 0, .int 4, .ref 125] _ 0 0 _
          refine x_inv (N := m_X12_findCount) (As := [.int 4, .int 0, .int v21, .int v25]) (b := 125) (st := []) (dx9 := 11) (mc := 0) (ms := 0) (host := "") 12 rfl t_X12_findCount ⟨Or.inl q_12_765, i_X12_findCount.1, i_X12_findCount.2⟩ ⟨by decide, rfl⟩ (congrArg Prod.fst (J.1.1 125 (12, 92) rfl)) rfl (by decide) rfl rfl ⟨by decide, by decide⟩ (sf_X12_findCount_r125 (jr_of jk_4 (by omega)) (jr_of jk_0 (by omega)) (jr_of rfl (by omega)) (jr_of rfl (by omega)) hD J  (fun h J S26 => ?_))
          have Sm := jSm_tr rfl Sm S26
          show jX m_X12_beyond 12 0 0 64 [(0, .ref 125), (1, .int a1), (2, .int a2)] [] _ 0 0 _
          refine x_aloadn (x := 125) rfl rfl ?_
          refine z_getL0 (N := 92) 12 64 rfl f_12_755 rfl J rfl (fun v27 => ?_)
          have ev27 := jfullL v27
          refine x_lconst (v := 0) rfl kl_0 ?_
          refine z_lcmp rfl rfl jkl_0 (fun v28 ev28 => ?_)
          refine x_ifge (tgt := 77) rfl rfl (ti_ge rfl jk_0 ⟨fun c29 => ?_, fun c29 => ?_⟩)
          ·
            refine x_aloadn (x := 125) rfl rfl ?_
            refine z_getL0 (N := 92) 12 64 rfl f_12_755 rfl J rfl (fun v30 => ?_)
            have ev30 := jfullL v30
            exact jX.sub (jsb_c rfl (jsb_c rfl jsb_n)) (ct_X12_beyond_r125_81 hD hQ  a1 v30 h (jr_of rfl (by omega)) J Sm)
          ·
            refine x_lconst (v := 0) rfl kl_0 ?_
            refine x_goto (tgt := 81) rfl rfl ?_
            exact jX.sub (jsb_c rfl (jsb_c rfl jsb_n)) (ct_X12_beyond_r125_5000081 hD hQ  a1 h (jr_of rfl (by omega)) J Sm)
def fp_X12_clear_r125 : jFp := [(125, 0, 1), (125, 36, 37)]
set_option maxRecDepth 100000 in
set_option maxHeartbeats 4000000 in
theorem sf_X12_clear_r125 {Dy : jH → Prop} {h : jH} {Q : Option Value → jH → Prop} (hD : jDk Dy) (J : jJ jSgM Dy h) (hQ : ∀ (v : Int32) hx9, 0 ≤ v.toInt ∧ v.toInt ≤ 9 → jJ jSgM Dy hx9 → jSm fp_X12_clear_r125 h hx9 → Q (some (.int v)) hx9) : jC m_X12_clear 1 0 0 [.ref 125] h Q := by
  refine jC.of rfl k_X12_clear rfl ?_
  have Sm := jSm_rf fp_X12_clear_r125 h
  show jX m_X12_clear 1 0 0 0 [(0, .ref 125)] [] _ 0 0 _
  refine x_aloadn (x := 125) rfl rfl ?_
  refine x_iconst (v := 0) rfl ki_0 ?_
  refine z_putI (N := 92) (w := 0) 12 0 rfl f_12_180 rfl (jfin_no TX12 RX12 92 rfl rfl) hD J Sm rfl rfl jk_0 (pw_125_0 (by omega)) rfl (fun h w1 J Sm => ?_)
  refine x_aloadn (x := 125) rfl rfl ?_
  refine z_getI (N := 92) 12 36 rfl f_12_204 rfl J rfl sg_125_36_37_1_0_1 (fun v2 qv2 ev2 => ?_)
  refine x_istoren (lsx9 := [(1, .int v2), (0, .ref 125)]) rfl rfl rfl ?_
  refine x_aloadn (x := 125) rfl rfl ?_
  refine x_iconst (v := 0) rfl ki_0 ?_
  refine z_putI (N := 92) (w := 0) 12 36 rfl f_12_204 rfl (jfin_no TX12 RX12 92 rfl rfl) hD J Sm rfl rfl jk_0 (pw_125_36 (by omega)) rfl (fun h w3 J Sm => ?_)
  refine x_iloadn (x := v2) rfl rfl ?_
  refine x_iret rfl rfl ?_
  exact hQ _ _ (jr_of rfl (by omega)) J Sm
def fp_X12_close__r125 : jFp := [(125, 0, 1), (125, 1, 2), (126, 14, 15), (126, 49360, 49520)]
set_option maxRecDepth 100000 in
set_option maxHeartbeats 4000000 in
theorem ct_X12_close__r125_32 {Dy : jH → Prop} {h0 : jH} {Q : Option Value → jH → Prop} (hD : jDk Dy) (hQ : ∀ (v : Int32) hx9, jJ jSgM Dy hx9 → jSm fp_X12_close__r125 h0 hx9 → Q (some (.int v)) hx9) : ∀ (h : jH), jJ jSgM Dy h → jSm fp_X12_close__r125 h0 h → jX m_X12_close_ 3 0 0 32 [(0, .ref 125)] [] h 0 0 Q := by
  intro  h    J Sm
  refine x_aloadn (x := 125) rfl rfl ?_
  refine x_iconst (v := (-1)) rfl ki_m1 ?_
  refine x_inv (N := m_X12_told) (As := [.int (-1)]) (b := 125) (st := []) (dx9 := 1) (mc := 0) (ms := 0) (host := "") 12 rfl t_X12_told ⟨Or.inl q_12_197, i_X12_told.1, i_X12_told.2⟩ ⟨by decide, rfl⟩ (congrArg Prod.fst (J.1.1 125 (12, 92) rfl)) rfl (by decide) rfl rfl ⟨by decide, by decide⟩ (sf_X12_told_r125  hD J  (fun v2 h J S1 => ?_))
  have ev2 := jfull v2
  have Sm := jSm_tr rfl Sm S1
  show jX m_X12_close_ 3 0 0 37 [(0, .ref 125)] [.int v2] _ 0 0 _
  refine x_iret rfl rfl ?_
  exact hQ _ _ J Sm
set_option maxRecDepth 100000 in
set_option maxHeartbeats 4000000 in
theorem ct_X12_close__r125_127 {Dy : jH → Prop} {h0 : jH} {Q : Option Value → jH → Prop} (hD : jDk Dy) (hQ : ∀ (v : Int32) hx9, jJ jSgM Dy hx9 → jSm fp_X12_close__r125 h0 hx9 → Q (some (.int v)) hx9) : ∀ (h : jH), jJ jSgM Dy h → jSm fp_X12_close__r125 h0 h → jX m_X12_close_ 3 0 0 127 [(0, .ref 125)] [] h 0 0 Q := by
  intro  h    J Sm
  refine x_aloadn (x := 125) rfl rfl ?_
  refine x_bipush (v := (-3)) rfl kb_m3 ?_
  refine x_inv (N := m_X12_told) (As := [.int (-3)]) (b := 125) (st := []) (dx9 := 1) (mc := 0) (ms := 0) (host := "") 12 rfl t_X12_told ⟨Or.inl q_12_197, i_X12_told.1, i_X12_told.2⟩ ⟨by decide, rfl⟩ (congrArg Prod.fst (J.1.1 125 (12, 92) rfl)) rfl (by decide) rfl rfl ⟨by decide, by decide⟩ (sf_X12_told_r125  hD J  (fun v2 h J S1 => ?_))
  have ev2 := jfull v2
  have Sm := jSm_tr rfl Sm S1
  show jX m_X12_close_ 3 0 0 133 [(0, .ref 125)] [.int v2] _ 0 0 _
  refine x_iret rfl rfl ?_
  exact hQ _ _ J Sm
set_option maxRecDepth 100000 in
set_option maxHeartbeats 4000000 in
theorem ct_X12_close__r125_115 {Dy : jH → Prop} {h0 : jH} {Q : Option Value → jH → Prop} (hD : jDk Dy) (hQ : ∀ (v : Int32) hx9, jJ jSgM Dy hx9 → jSm fp_X12_close__r125 h0 hx9 → Q (some (.int v)) hx9) : ∀ (l1 : Int32) (l2 : Int32) (l3 : Int32) (l4 : Int32) (g0 : Int32) (h : jH), 0 ≤ l1.toInt ∧ l1.toInt ≤ 3 → 0 ≤ l2.toInt ∧ l2.toInt ≤ 399 → 0 ≤ l4.toInt ∧ l4.toInt ≤ 146399 → 0 ≤ g0.toInt ∧ g0.toInt ≤ 40 → jiv h 126 (14 : Int32).toNatClampNeg = g0 → jJ jSgM Dy h → jSm fp_X12_close__r125 h0 h → jX m_X12_close_ 3 0 0 115 [(0, .ref 125), (1, .int l1), (2, .int l2), (3, .int l3), (4, .int l4)] [] h 0 0 Q := by
  intro l1 l2 l3 l4 g0 h y0 y1 y2 y3 z0  J Sm
  have el3 := jfull l3
  refine x_iloadn (x := l3) rfl rfl ?_
  refine x_aloadn (x := 125) rfl rfl ?_
  refine x_iloadn (x := l1) rfl rfl ?_
  refine x_iloadn (x := l2) rfl rfl ?_
  refine x_iload (x := l4) rfl rfl ?_
  refine x_inv (N := m_X12_balanceOf) (As := [.int l1, .int l2, .int l4]) (b := 125) (st := [.int l3]) (dx9 := 2) (mc := 0) (ms := 0) (host := "") 12 rfl t_X12_balanceOf ⟨Or.inl q_12_848, i_X12_balanceOf.1, i_X12_balanceOf.2⟩ ⟨by decide, rfl⟩ (congrArg Prod.fst (J.1.1 125 (12, 92) rfl)) rfl (by decide) rfl rfl ⟨by decide, by decide⟩ (sf_X12_balanceOf_r125 (jr_of rfl (by omega)) (jr_of rfl (by omega)) (jr_of rfl (by omega)) hD J  (fun v2 h J S1 => ?_))
  have ev2 := jfull v2
  have Sm := jSm_tr rfl Sm S1
  show jX m_X12_close_ 3 0 0 124 [(0, .ref 125), (1, .int l1), (2, .int l2), (3, .int l3), (4, .int l4)] [.int v2, .int l3] _ 0 0 _
  refine x_iceq (tgt := 134) rfl rfl (ti_eq rfl rfl ⟨fun c3 => ?_, fun c3 => ?_⟩)
  ·
    refine x_aloadn (x := 125) rfl rfl ?_
    refine z_getR (N := 92) (b := 126) 12 2 rfl f_12_8 rfl J rfl 16002 ⟨rfl, rfl⟩ rfl ?_
    refine x_bipush (v := 14) rfl kb_14 ?_
    refine z_ialdM (N := 50660) (v := g0) rfl J rfl jk_14 (by omega) (jmc S1 rfl z0) ?_
    refine x_bipush (v := 40) rfl kb_40 ?_
    refine x_icne (tgt := 153) rfl rfl (ti_ne rfl jk_40 ⟨fun c4 => ?_, fun c4 => ?_⟩)
    ·
      refine x_aloadn (x := 125) rfl rfl ?_
      refine x_ldcw (v := 49360) rfl z_12_844 ?_
      refine x_iconst (v := 4) rfl ki_4 ?_
      refine x_aloadn (x := 125) rfl rfl ?_
      refine z_getR (N := 92) (b := 126) 12 2 rfl f_12_8 rfl J rfl 16002 ⟨rfl, rfl⟩ rfl ?_
      refine x_bipush (v := 14) rfl kb_14 ?_
      refine z_ialdM (N := 50660) (v := g0) rfl J rfl jk_14 (by omega) (jmc S1 rfl z0) ?_
      refine z_imul rfl jk_4 rfl (by omega) (fun v5 ev5 => ?_)
      refine z_iadd rfl jk_49360 rfl (by omega) (fun v6 ev6 => ?_)
      refine x_iloadn (x := l1) rfl rfl ?_
      refine x_iloadn (x := l2) rfl rfl ?_
      refine x_iloadn (x := l3) rfl rfl ?_
      refine x_iload (x := l4) rfl rfl ?_
      refine x_inv (N := m_X12_addFour) (As := [.int v6, .int l1, .int l2, .int l3, .int l4]) (b := 125) (st := []) (dx9 := 2) (mc := 0) (ms := 0) (host := "") 12 rfl t_X12_addFour ⟨Or.inl q_12_814, i_X12_addFour.1, i_X12_addFour.2⟩ ⟨by decide, rfl⟩ (congrArg Prod.fst (J.1.1 125 (12, 92) rfl)) rfl (by decide) rfl rfl ⟨by decide, by decide⟩ (jC.of rfl k_X12_addFour rfl ?_)
      show jX m_X12_addFour 2 0 0 0 [(0, .ref 125), (1, .int v6), (2, .int l1), (3, .int l2), (4, .int l3), (5, .int l4)] [] _ 0 0 _
      refine x_aloadn (x := 125) rfl rfl ?_
      refine z_getR (N := 92) (b := 126) 12 2 rfl f_12_8 rfl J rfl 16002 ⟨rfl, rfl⟩ rfl ?_
      refine x_iloadn (x := v6) rfl rfl ?_
      refine x_iloadn (x := l1) rfl rfl ?_
      refine z_iast (N := 50660) (l := 49360) (u := 49520) (w := l1.toInt) rfl hD J Sm rfl rfl rfl (by omega) rfl (wr_126_49360 (by omega) (fun q1 q2 q3 q4 => by omega) (fun q1 q2 q3 q4 => by omega) (fun q1 q2 q3 q4 => by omega)) rfl (fun h w7 J Sm => ?_)
      refine x_aloadn (x := 125) rfl rfl ?_
      refine z_getR (N := 92) (b := 126) 12 2 rfl f_12_8 rfl J rfl 16002 ⟨rfl, rfl⟩ rfl ?_
      refine x_iloadn (x := v6) rfl rfl ?_
      refine x_iconst (v := 1) rfl ki_1 ?_
      refine z_iadd rfl rfl jk_1 (by omega) (fun v8 ev8 => ?_)
      refine x_iloadn (x := l2) rfl rfl ?_
      refine z_iast (N := 50660) (l := 49360) (u := 49520) (w := l2.toInt) rfl hD J Sm rfl rfl rfl (by omega) rfl (wr_126_49360 (by omega) (fun q1 q2 q3 q4 => by omega) (fun q1 q2 q3 q4 => by omega) (fun q1 q2 q3 q4 => by omega)) rfl (fun h w9 J Sm => ?_)
      refine x_aloadn (x := 125) rfl rfl ?_
      refine z_getR (N := 92) (b := 126) 12 2 rfl f_12_8 rfl J rfl 16002 ⟨rfl, rfl⟩ rfl ?_
      refine x_iloadn (x := v6) rfl rfl ?_
      refine x_iconst (v := 2) rfl ki_2 ?_
      refine z_iadd rfl rfl jk_2 (by omega) (fun v10 ev10 => ?_)
      refine x_iload (x := l3) rfl rfl ?_
      refine z_iast (N := 50660) (l := 49360) (u := 49520) (w := l3.toInt) rfl hD J Sm rfl rfl rfl (by omega) rfl (wr_126_49360 (by omega) (fun q1 q2 q3 q4 => by omega) (fun q1 q2 q3 q4 => by omega) (fun q1 q2 q3 q4 => by omega)) rfl (fun h w11 J Sm => ?_)
      refine x_aloadn (x := 125) rfl rfl ?_
      refine z_getR (N := 92) (b := 126) 12 2 rfl f_12_8 rfl J rfl 16002 ⟨rfl, rfl⟩ rfl ?_
      refine x_iloadn (x := v6) rfl rfl ?_
      refine x_iconst (v := 3) rfl ki_3 ?_
      refine z_iadd rfl rfl jk_3 (by omega) (fun v12 ev12 => ?_)
      refine x_iload (x := l4) rfl rfl ?_
      refine z_iast (N := 50660) (l := 49360) (u := 49520) (w := l4.toInt) rfl hD J Sm rfl rfl rfl (by omega) rfl (wr_126_49360 (by omega) (fun q1 q2 q3 q4 => by omega) (fun q1 q2 q3 q4 => by omega) (fun q1 q2 q3 q4 => by omega)) rfl (fun h w13 J Sm => ?_)
      refine x_vret rfl rfl ?_
      show jX m_X12_close_ 3 0 0 175 [(0, .ref 125), (1, .int l1), (2, .int l2), (3, .int l3), (4, .int l4)] [] _ 0 0 _
      refine x_aloadn (x := 125) rfl rfl ?_
      refine z_getR (N := 92) (b := 126) 12 2 rfl f_12_8 rfl J rfl 16002 ⟨rfl, rfl⟩ rfl ?_
      refine x_bipush (v := 14) rfl kb_14 ?_
      refine x_dup2 rfl rfl rfl ?_
      refine z_ialdM (N := 50660) (v := g0) rfl J rfl jk_14 (by omega) (jmo2 w13 rfl jk_14 (by omega) (jmo2 w11 rfl jk_14 (by omega) (jmo2 w9 rfl jk_14 (by omega) (jmo2 w7 rfl jk_14 (by omega) (jmc S1 rfl z0))))) ?_
      refine x_iconst (v := 1) rfl ki_1 ?_
      refine z_iadd rfl rfl jk_1 (by omega) (fun v14 ev14 => ?_)
      refine z_iast (N := 50660) (l := 14) (u := 15) (w := v14.toInt) rfl hD J Sm rfl rfl jk_14 (by omega) rfl (wr_126_14 (by omega) (fun q1 q2 q3 q4 => by omega)) rfl (fun h w15 J Sm => ?_)
      refine x_aloadn (x := 125) rfl rfl ?_
      refine x_iconst (v := 0) rfl ki_0 ?_
      refine x_inv (N := m_X12_told) (As := [.int 0]) (b := 125) (st := []) (dx9 := 1) (mc := 0) (ms := 0) (host := "") 12 rfl t_X12_told ⟨Or.inl q_12_197, i_X12_told.1, i_X12_told.2⟩ ⟨by decide, rfl⟩ (congrArg Prod.fst (J.1.1 125 (12, 92) rfl)) rfl (by decide) rfl rfl ⟨by decide, by decide⟩ (sf_X12_told_r125  hD J  (fun v17 h J S16 => ?_))
      have ev17 := jfull v17
      have Sm := jSm_tr rfl Sm S16
      show jX m_X12_close_ 3 0 0 191 [(0, .ref 125), (1, .int l1), (2, .int l2), (3, .int l3), (4, .int l4)] [.int v17] _ 0 0 _
      refine x_iret rfl rfl ?_
      exact hQ _ _ J Sm
    ·
      refine x_aloadn (x := 125) rfl rfl ?_
      refine x_bipush (v := (-5)) rfl kb_m5 ?_
      refine x_inv (N := m_X12_told) (As := [.int (-5)]) (b := 125) (st := []) (dx9 := 1) (mc := 0) (ms := 0) (host := "") 12 rfl t_X12_told ⟨Or.inl q_12_197, i_X12_told.1, i_X12_told.2⟩ ⟨by decide, rfl⟩ (congrArg Prod.fst (J.1.1 125 (12, 92) rfl)) rfl (by decide) rfl rfl ⟨by decide, by decide⟩ (sf_X12_told_r125  hD J  (fun v19 h J S18 => ?_))
      have ev19 := jfull v19
      have Sm := jSm_tr rfl Sm S18
      show jX m_X12_close_ 3 0 0 152 [(0, .ref 125), (1, .int l1), (2, .int l2), (3, .int l3), (4, .int l4)] [.int v19] _ 0 0 _
      refine x_iret rfl rfl ?_
      exact hQ _ _ J Sm
  ·
    exact jX.sub (jsb_c rfl jsb_n) (ct_X12_close__r125_127 hD hQ  h J Sm)
set_option maxRecDepth 100000 in
set_option maxHeartbeats 4000000 in
theorem ct_X12_close__r125_93 {Dy : jH → Prop} {h0 : jH} {Q : Option Value → jH → Prop} {R44 : Int} (hD : jDk Dy) (hQ : ∀ (v : Int32) hx9, jJ jSgM Dy hx9 → jSm fp_X12_close__r125 h0 hx9 → Q (some (.int v)) hx9) (k44 : ∀ (l1 : Int32) (l2 : Int32) (l3 : Int32) (l4 : Int32) (l5 : Int32) (l6 : Int32) (h : jH), 40 - l6.toInt < R44 → 0 ≤ l1.toInt ∧ l1.toInt ≤ 3 → 0 ≤ l2.toInt ∧ l2.toInt ≤ 399 → 0 ≤ l4.toInt ∧ l4.toInt ≤ 146399 → (-1) ≤ l5.toInt ∧ l5.toInt ≤ 399 → 0 ≤ l6.toInt ∧ l6.toInt ≤ 40 → jJ jSgM Dy h → jSm fp_X12_close__r125 h0 h → jX m_X12_close_ 3 0 0 44 [(0, .ref 125), (1, .int l1), (2, .int l2), (3, .int l3), (4, .int l4), (5, .int l5), (6, .int l6)] [] h 0 0 Q) : ∀ (l1 : Int32) (l2 : Int32) (l3 : Int32) (l4 : Int32) (l6 : Int32) (s0 : Int32) (h : jH), 0 ≤ l1.toInt ∧ l1.toInt ≤ 3 → 0 ≤ l2.toInt ∧ l2.toInt ≤ 399 → 0 ≤ l4.toInt ∧ l4.toInt ≤ 146399 → 0 ≤ l6.toInt ∧ l6.toInt ≤ 39 → (-1) ≤ s0.toInt ∧ s0.toInt ≤ 399 → 40 - l6.toInt ≤ R44 → jJ jSgM Dy h → jSm fp_X12_close__r125 h0 h → jX m_X12_close_ 3 0 0 93 [(0, .ref 125), (1, .int l1), (2, .int l2), (3, .int l3), (4, .int l4), (6, .int l6)] [.int s0] h 0 0 Q := by
  intro l1 l2 l3 l4 l6 s0 h y0 y1 y2 y3 y4  m44 J Sm
  have el3 := jfull l3
  refine x_istore (lsx9 := [(5, .int s0), (0, .ref 125), (1, .int l1), (2, .int l2), (3, .int l3), (4, .int l4), (6, .int l6)]) rfl rfl rfl ?_
  refine z_iinc (x := l6) (lsx9 := fun v1 => [(6, .int v1), (5, .int s0), (0, .ref 125), (1, .int l1), (2, .int l2), (3, .int l3), (4, .int l4)]) rfl rfl rfl jko_1 (by omega) rfl (fun _ => rfl) (fun v1 ev1 => ?_)
  refine x_goto (tgt := 44) rfl rfl ?_
  exact jX.sub (jsb_c rfl (jsb_c rfl (jsb_c rfl (jsb_c rfl (jsb_c rfl (jsb_c rfl (jsb_c rfl jsb_n))))))) (k44 l1 l2 l3 l4 s0 v1 h (by omega) (jr_of rfl (by omega)) (jr_of rfl (by omega)) (jr_of rfl (by omega)) (jr_of rfl (by omega)) (jr_of rfl (by omega)) J Sm)
set_option maxRecDepth 100000 in
set_option maxHeartbeats 4000000 in
theorem ct_X12_close__r125_44 {Dy : jH → Prop} {h0 : jH} {Q : Option Value → jH → Prop} (hD : jDk Dy) (hQ : ∀ (v : Int32) hx9, jJ jSgM Dy hx9 → jSm fp_X12_close__r125 h0 hx9 → Q (some (.int v)) hx9) : ∀ r : Nat, ∀ (l1 : Int32) (l2 : Int32) (l3 : Int32) (l4 : Int32) (l5 : Int32) (l6 : Int32) (h : jH), 40 - l6.toInt < (r : Int) → 0 ≤ l1.toInt ∧ l1.toInt ≤ 3 → 0 ≤ l2.toInt ∧ l2.toInt ≤ 399 → 0 ≤ l4.toInt ∧ l4.toInt ≤ 146399 → (-1) ≤ l5.toInt ∧ l5.toInt ≤ 399 → 0 ≤ l6.toInt ∧ l6.toInt ≤ 40 → jJ jSgM Dy h → jSm fp_X12_close__r125 h0 h → jX m_X12_close_ 3 0 0 44 [(0, .ref 125), (1, .int l1), (2, .int l2), (3, .int l3), (4, .int l4), (5, .int l5), (6, .int l6)] [] h 0 0 Q := by
  intro r
  induction r with
  | zero =>
    intro l1 l2 l3 l4 l5 l6 h hm y0 y1 y2 y3 y4   J Sm
    exfalso
    have el3 := jfull l3
    omega
  | succ r ih =>
    intro l1 l2 l3 l4 l5 l6 h hm y0 y1 y2 y3 y4   J Sm
    have el3 := jfull l3
    refine x_iload (x := l6) rfl rfl ?_
    refine x_aloadn (x := 125) rfl rfl ?_
    refine z_getR (N := 92) (b := 126) 12 2 rfl f_12_8 rfl J rfl 16002 ⟨rfl, rfl⟩ rfl ?_
    refine x_bipush (v := 14) rfl kb_14 ?_
    refine z_iald (N := 50660) rfl J rfl sg_126_14_15_1_0_1 jk_14 (by omega) (fun v1 qv1 ev1 => ?_)
    refine x_icge (tgt := 101) rfl rfl (ti_ge rfl rfl ⟨fun c2 => ?_, fun c2 => ?_⟩)
    ·
      refine x_iload (x := l5) rfl rfl ?_
      refine x_iconst (v := (-1)) rfl ki_m1 ?_
      refine x_iceq (tgt := 115) rfl rfl (ti_eq rfl jk_m1 ⟨fun c3 => ?_, fun c3 => ?_⟩)
      ·
        exact jX.sub (jsb_c rfl (jsb_c rfl (jsb_c rfl (jsb_c rfl (jsb_c rfl jsb_n))))) (ct_X12_close__r125_115 hD hQ  l1 l2 l3 l4 v1 h (jr_of rfl (by omega)) (jr_of rfl (by omega)) (jr_of rfl (by omega)) (jr_of rfl (by omega)) qv1 J Sm)
      ·
        refine x_iloadn (x := l2) rfl rfl ?_
        refine x_iload (x := l5) rfl rfl ?_
        refine x_iconst (v := 1) rfl ki_1 ?_
        refine z_iadd rfl rfl jk_1 (by omega) (fun v4 ev4 => ?_)
        refine x_icne (tgt := 127) rfl rfl (ti_ne rfl rfl ⟨fun c5 => ?_, fun c5 => ?_⟩)
        ·
          exact jX.sub (jsb_c rfl jsb_n) (ct_X12_close__r125_127 hD hQ  h J Sm)
        ·
          exact jX.sub (jsb_c rfl (jsb_c rfl (jsb_c rfl (jsb_c rfl (jsb_c rfl jsb_n))))) (ct_X12_close__r125_115 hD hQ  l1 l2 l3 l4 v1 h (jr_of rfl (by omega)) (jr_of rfl (by omega)) (jr_of rfl (by omega)) (jr_of rfl (by omega)) qv1 J Sm)
    ·
      refine x_aloadn (x := 125) rfl rfl ?_
      refine z_getR (N := 92) (b := 126) 12 2 rfl f_12_8 rfl J rfl 16002 ⟨rfl, rfl⟩ rfl ?_
      refine x_ldcw (v := 49360) rfl z_12_844 ?_
      refine x_iconst (v := 4) rfl ki_4 ?_
      refine x_iload (x := l6) rfl rfl ?_
      refine z_imul rfl jk_4 rfl (by omega) (fun v6 ev6 => ?_)
      refine z_iadd rfl jk_49360 rfl (by omega) (fun v7 ev7 => ?_)
      refine z_iald (N := 50660) rfl J rfl sg_126_49360_49520_4_0_1 rfl (by omega) (fun v8 qv8 ev8 => ?_)
      refine x_iloadn (x := l1) rfl rfl ?_
      refine x_icne (tgt := 91) rfl rfl (ti_ne rfl rfl ⟨fun c9 => ?_, fun c9 => ?_⟩)
      ·
        refine x_iload (x := l5) rfl rfl ?_
        exact jX.sub (jsb_c rfl (jsb_c rfl (jsb_c rfl (jsb_c rfl (jsb_c rfl (jsb_c rfl jsb_n)))))) (ct_X12_close__r125_93 hD hQ ih l1 l2 l3 l4 l6 l5 h (jr_of rfl (by omega)) (jr_of rfl (by omega)) (jr_of rfl (by omega)) (jr_of rfl (by omega)) (jr_of rfl (by omega)) (by omega) J Sm)
      ·
        refine x_aloadn (x := 125) rfl rfl ?_
        refine z_getR (N := 92) (b := 126) 12 2 rfl f_12_8 rfl J rfl 16002 ⟨rfl, rfl⟩ rfl ?_
        refine x_ldcw (v := 49360) rfl z_12_844 ?_
        refine x_iconst (v := 4) rfl ki_4 ?_
        refine x_iload (x := l6) rfl rfl ?_
        refine z_imul rfl jk_4 rfl (by omega) (fun v10 ev10 => ?_)
        refine z_iadd rfl jk_49360 rfl (by omega) (fun v11 ev11 => ?_)
        refine x_iconst (v := 1) rfl ki_1 ?_
        refine z_iadd rfl rfl jk_1 (by omega) (fun v12 ev12 => ?_)
        refine z_iald (N := 50660) rfl J rfl sg_126_49360_49520_4_1_2 rfl (by omega) (fun v13 qv13 ev13 => ?_)
        refine x_goto (tgt := 93) rfl rfl ?_
        exact jX.sub (jsb_c rfl (jsb_c rfl (jsb_c rfl (jsb_c rfl (jsb_c rfl (jsb_c rfl jsb_n)))))) (ct_X12_close__r125_93 hD hQ ih l1 l2 l3 l4 l6 v13 h (jr_of rfl (by omega)) (jr_of rfl (by omega)) (jr_of rfl (by omega)) (jr_of rfl (by omega)) (jr_of rfl (by omega)) (by omega) J Sm)
set_option maxRecDepth 100000 in
set_option maxHeartbeats 4000000 in
theorem sf_X12_close__r125 {Dy : jH → Prop} {h : jH} {Q : Option Value → jH → Prop} {a1 : Int32} {a2 : Int32} {a3 : Int32} {a4 : Int32} (hD : jDk Dy) (J : jJ jSgM Dy h) (hQ : ∀ (v : Int32) hx9, jJ jSgM Dy hx9 → jSm fp_X12_close__r125 h hx9 → Q (some (.int v)) hx9) : jC m_X12_close_ 3 0 0 [.ref 125, .int a1, .int a2, .int a3, .int a4] h Q := by
  refine jC.of rfl k_X12_close_ rfl ?_
  have Sm := jSm_rf fp_X12_close__r125 h
  have ea1 := jfull a1
  have ea2 := jfull a2
  have ea3 := jfull a3
  have ea4 := jfull a4
  show jX m_X12_close_ 3 0 0 0 [(0, .ref 125), (1, .int a1), (2, .int a2), (3, .int a3), (4, .int a4)] [] _ 0 0 _
  refine x_aloadn (x := 125) rfl rfl ?_
  refine x_iconst (v := 0) rfl ki_0 ?_
  refine z_putI (N := 92) (w := 0) 12 0 rfl f_12_180 rfl (jfin_no TX12 RX12 92 rfl rfl) hD J Sm rfl rfl jk_0 (pw_125_0 (by omega)) rfl (fun h w1 J Sm => ?_)
  refine x_iloadn (x := a1) rfl rfl ?_
  refine z_i2l rfl rfl (fun v2 ev2 => ?_)
  refine x_lconst (v := 0) rfl kl_0 ?_
  refine x_ldc2 (v := 3) rfl z_12_195 ?_
  refine x_inst (N := m_X12_in) (As := [.long v2, .long 0, .long 3]) (st := []) (dx9 := 1) (mc := 0) (ms := 0) (host := "") rfl t_X12_in ⟨Or.inl q_12_188, s_X12_in⟩ rfl (by decide) rfl rfl ⟨by decide, by decide⟩ (zc_X12_in rfl jkl_0 jkl_3 (fun v3 ev3 => ?_))
  show jX m_X12_close_ 3 0 0 14 [(0, .ref 125), (1, .int a1), (2, .int a2), (3, .int a3), (4, .int a4)] [.int v3] _ 0 0 _
  refine x_ifeq (tgt := 32) rfl rfl (ti_eq rfl jk_0 ⟨fun c4 => ?_, fun c4 => ?_⟩)
  ·
    exact jX.sub (jsb_c rfl jsb_n) (ct_X12_close__r125_32 hD hQ  h J Sm)
  ·
    refine x_iloadn (x := a2) rfl rfl ?_
    refine x_inst (N := m_X12_isYear) (As := [.int a2]) (st := []) (dx9 := 2) (mc := 0) (ms := 0) (host := "") rfl t_X12_isYear ⟨Or.inl q_12_817, s_X12_isYear⟩ rfl (by decide) rfl rfl ⟨by decide, by decide⟩ (zc_X12_isYear (d := 1) rfl (fun v5 ev5 => ?_))
    show jX m_X12_close_ 3 0 0 21 [(0, .ref 125), (1, .int a1), (2, .int a2), (3, .int a3), (4, .int a4)] [.int v5] _ 0 0 _
    refine x_ifeq (tgt := 32) rfl rfl (ti_eq rfl jk_0 ⟨fun c6 => ?_, fun c6 => ?_⟩)
    ·
      exact jX.sub (jsb_c rfl jsb_n) (ct_X12_close__r125_32 hD hQ  h J Sm)
    ·
      refine x_iload (x := a4) rfl rfl ?_
      refine x_inst (N := m_X12_isDay) (As := [.int a4]) (st := []) (dx9 := 2) (mc := 0) (ms := 0) (host := "") rfl t_X12_isDay ⟨Or.inl q_12_273, s_X12_isDay⟩ rfl (by decide) rfl rfl ⟨by decide, by decide⟩ (zc_X12_isDay (d := 1) rfl (fun v7 ev7 => ?_))
      show jX m_X12_close_ 3 0 0 29 [(0, .ref 125), (1, .int a1), (2, .int a2), (3, .int a3), (4, .int a4)] [.int v7] _ 0 0 _
      refine x_ifne (tgt := 38) rfl rfl (ti_ne rfl jk_0 ⟨fun c8 => ?_, fun c8 => ?_⟩)
      ·
        refine x_iconst (v := (-1)) rfl ki_m1 ?_
        refine x_istore (lsx9 := [(5, .int (-1)), (0, .ref 125), (1, .int a1), (2, .int a2), (3, .int a3), (4, .int a4)]) rfl rfl rfl ?_
        refine x_iconst (v := 0) rfl ki_0 ?_
        refine x_istore (lsx9 := [(6, .int 0), (5, .int (-1)), (0, .ref 125), (1, .int a1), (2, .int a2), (3, .int a3), (4, .int a4)]) rfl rfl rfl ?_
        exact jX.sub (jsb_c rfl (jsb_c rfl (jsb_c rfl (jsb_c rfl (jsb_c rfl (jsb_c rfl (jsb_c rfl jsb_n))))))) (ct_X12_close__r125_44 hD hQ  41 a1 a2 a3 a4 (-1) 0 h (by have := jk_0; omega) (jr_of rfl (by omega)) (jr_of rfl (by omega)) (jr_of rfl (by omega)) (jr_of jk_m1 (by omega)) (jr_of jk_0 (by omega)) J Sm)
      ·
        exact jX.sub (jsb_c rfl jsb_n) (ct_X12_close__r125_32 hD hQ  h J Sm)
def fp_X12_priceOf_r125 : jFp := []
set_option maxRecDepth 100000 in
set_option maxHeartbeats 4000000 in
theorem ct_X12_priceOf_r125_79 {Dy : jH → Prop} {h0 : jH} {Q : Option Value → jH → Prop} {R6 : Int} (hD : jDk Dy) (hQ : ∀ (v : Int32) hx9, (-1) ≤ v.toInt ∧ v.toInt ≤ 10000 → jJ jSgM Dy hx9 → jSm fp_X12_priceOf_r125 h0 hx9 → Q (some (.int v)) hx9) (k6 : ∀ (l1 : Int32) (l2 : Int32) (l3 : Int32) (l4 : Int32) (l5 : Int32) (h : jH), 100 - l5.toInt < R6 → 0 ≤ l1.toInt ∧ l1.toInt ≤ 2 → (-7) ≤ l2.toInt ∧ l2.toInt ≤ 398 → 0 ≤ l3.toInt ∧ l3.toInt ≤ 146399 → (-1) ≤ l4.toInt ∧ l4.toInt ≤ 10000 → 0 ≤ l5.toInt ∧ l5.toInt ≤ 100 → jJ jSgM Dy h → jSm fp_X12_priceOf_r125 h0 h → jX m_X12_priceOf 1 0 0 6 [(0, .ref 125), (1, .int l1), (2, .int l2), (3, .int l3), (4, .int l4), (5, .int l5)] [] h 0 0 Q) : ∀ (l1 : Int32) (l2 : Int32) (l3 : Int32) (l5 : Int32) (s0 : Int32) (h : jH), 0 ≤ l1.toInt ∧ l1.toInt ≤ 2 → (-7) ≤ l2.toInt ∧ l2.toInt ≤ 398 → 0 ≤ l3.toInt ∧ l3.toInt ≤ 146399 → 0 ≤ l5.toInt ∧ l5.toInt ≤ 99 → (-1) ≤ s0.toInt ∧ s0.toInt ≤ 10000 → 100 - l5.toInt ≤ R6 → jJ jSgM Dy h → jSm fp_X12_priceOf_r125 h0 h → jX m_X12_priceOf 1 0 0 79 [(0, .ref 125), (1, .int l1), (2, .int l2), (3, .int l3), (5, .int l5)] [.int s0] h 0 0 Q := by
  intro l1 l2 l3 l5 s0 h y0 y1 y2 y3 y4  m6 J Sm
  refine x_istore (lsx9 := [(4, .int s0), (0, .ref 125), (1, .int l1), (2, .int l2), (3, .int l3), (5, .int l5)]) rfl rfl rfl ?_
  refine z_iinc (x := l5) (lsx9 := fun v1 => [(5, .int v1), (4, .int s0), (0, .ref 125), (1, .int l1), (2, .int l2), (3, .int l3)]) rfl rfl rfl jko_1 (by omega) rfl (fun _ => rfl) (fun v1 ev1 => ?_)
  refine x_goto (tgt := 6) rfl rfl ?_
  exact jX.sub (jsb_c rfl (jsb_c rfl (jsb_c rfl (jsb_c rfl (jsb_c rfl (jsb_c rfl jsb_n)))))) (k6 l1 l2 l3 s0 v1 h (by omega) (jr_of rfl (by omega)) (jr_of rfl (by omega)) (jr_of rfl (by omega)) (jr_of rfl (by omega)) (jr_of rfl (by omega)) J Sm)
set_option maxRecDepth 100000 in
set_option maxHeartbeats 4000000 in
theorem ct_X12_priceOf_r125_77 {Dy : jH → Prop} {h0 : jH} {Q : Option Value → jH → Prop} {R6 : Int} (hD : jDk Dy) (hQ : ∀ (v : Int32) hx9, (-1) ≤ v.toInt ∧ v.toInt ≤ 10000 → jJ jSgM Dy hx9 → jSm fp_X12_priceOf_r125 h0 hx9 → Q (some (.int v)) hx9) (k6 : ∀ (l1 : Int32) (l2 : Int32) (l3 : Int32) (l4 : Int32) (l5 : Int32) (h : jH), 100 - l5.toInt < R6 → 0 ≤ l1.toInt ∧ l1.toInt ≤ 2 → (-7) ≤ l2.toInt ∧ l2.toInt ≤ 398 → 0 ≤ l3.toInt ∧ l3.toInt ≤ 146399 → (-1) ≤ l4.toInt ∧ l4.toInt ≤ 10000 → 0 ≤ l5.toInt ∧ l5.toInt ≤ 100 → jJ jSgM Dy h → jSm fp_X12_priceOf_r125 h0 h → jX m_X12_priceOf 1 0 0 6 [(0, .ref 125), (1, .int l1), (2, .int l2), (3, .int l3), (4, .int l4), (5, .int l5)] [] h 0 0 Q) : ∀ (l1 : Int32) (l2 : Int32) (l3 : Int32) (l4 : Int32) (l5 : Int32) (h : jH), 0 ≤ l1.toInt ∧ l1.toInt ≤ 2 → (-7) ≤ l2.toInt ∧ l2.toInt ≤ 398 → 0 ≤ l3.toInt ∧ l3.toInt ≤ 146399 → (-1) ≤ l4.toInt ∧ l4.toInt ≤ 10000 → 0 ≤ l5.toInt ∧ l5.toInt ≤ 99 → 100 - l5.toInt ≤ R6 → jJ jSgM Dy h → jSm fp_X12_priceOf_r125 h0 h → jX m_X12_priceOf 1 0 0 77 [(0, .ref 125), (1, .int l1), (2, .int l2), (3, .int l3), (4, .int l4), (5, .int l5)] [] h 0 0 Q := by
  intro l1 l2 l3 l4 l5 h y0 y1 y2 y3 y4  m6 J Sm
  refine x_iload (x := l4) rfl rfl ?_
  exact jX.sub (jsb_c rfl (jsb_c rfl (jsb_c rfl (jsb_c rfl (jsb_c rfl jsb_n))))) (ct_X12_priceOf_r125_79 hD hQ k6 l1 l2 l3 l5 l4 h (jr_of rfl (by omega)) (jr_of rfl (by omega)) (jr_of rfl (by omega)) (jr_of rfl (by omega)) (jr_of rfl (by omega)) (by omega) J Sm)
set_option maxRecDepth 100000 in
set_option maxHeartbeats 4000000 in
theorem ct_X12_priceOf_r125_6 {Dy : jH → Prop} {h0 : jH} {Q : Option Value → jH → Prop} (hD : jDk Dy) (hQ : ∀ (v : Int32) hx9, (-1) ≤ v.toInt ∧ v.toInt ≤ 10000 → jJ jSgM Dy hx9 → jSm fp_X12_priceOf_r125 h0 hx9 → Q (some (.int v)) hx9) : ∀ r : Nat, ∀ (l1 : Int32) (l2 : Int32) (l3 : Int32) (l4 : Int32) (l5 : Int32) (h : jH), 100 - l5.toInt < (r : Int) → 0 ≤ l1.toInt ∧ l1.toInt ≤ 2 → (-7) ≤ l2.toInt ∧ l2.toInt ≤ 398 → 0 ≤ l3.toInt ∧ l3.toInt ≤ 146399 → (-1) ≤ l4.toInt ∧ l4.toInt ≤ 10000 → 0 ≤ l5.toInt ∧ l5.toInt ≤ 100 → jJ jSgM Dy h → jSm fp_X12_priceOf_r125 h0 h → jX m_X12_priceOf 1 0 0 6 [(0, .ref 125), (1, .int l1), (2, .int l2), (3, .int l3), (4, .int l4), (5, .int l5)] [] h 0 0 Q := by
  intro r
  induction r with
  | zero =>
    intro l1 l2 l3 l4 l5 h hm y0 y1 y2 y3 y4   J Sm
    exfalso
    omega
  | succ r ih =>
    intro l1 l2 l3 l4 l5 h hm y0 y1 y2 y3 y4   J Sm
    refine x_iload (x := l5) rfl rfl ?_
    refine x_aloadn (x := 125) rfl rfl ?_
    refine z_getR (N := 92) (b := 126) 12 2 rfl f_12_8 rfl J rfl 16002 ⟨rfl, rfl⟩ rfl ?_
    refine x_bipush (v := 15) rfl kb_15 ?_
    refine z_iald (N := 50660) rfl J rfl sg_126_15_16_1_0_1 jk_15 (by omega) (fun v1 qv1 ev1 => ?_)
    refine x_icge (tgt := 87) rfl rfl (ti_ge rfl rfl ⟨fun c2 => ?_, fun c2 => ?_⟩)
    ·
      refine x_iload (x := l4) rfl rfl ?_
      refine x_iret rfl rfl ?_
      exact hQ _ _ (jr_of rfl (by omega)) J Sm
    ·
      refine x_ldcw (v := 49520) rfl z_12_857 ?_
      refine x_iconst (v := 4) rfl ki_4 ?_
      refine x_iload (x := l5) rfl rfl ?_
      refine z_imul rfl jk_4 rfl (by omega) (fun v3 ev3 => ?_)
      refine z_iadd rfl jk_49520 rfl (by omega) (fun v4 ev4 => ?_)
      refine x_istore (lsx9 := [(6, .int v4), (0, .ref 125), (1, .int l1), (2, .int l2), (3, .int l3), (4, .int l4), (5, .int l5)]) rfl rfl rfl ?_
      refine x_aloadn (x := 125) rfl rfl ?_
      refine z_getR (N := 92) (b := 126) 12 2 rfl f_12_8 rfl J rfl 16002 ⟨rfl, rfl⟩ rfl ?_
      refine x_iload (x := v4) rfl rfl ?_
      refine z_iald (N := 50660) rfl J rfl sg_126_49520_49920_4_0_1 rfl (by omega) (fun v5 qv5 ev5 => ?_)
      refine x_iloadn (x := l1) rfl rfl ?_
      refine x_icne (tgt := 77) rfl rfl (ti_ne rfl rfl ⟨fun c6 => ?_, fun c6 => ?_⟩)
      ·
        exact jX.sub (jsb_c rfl (jsb_c rfl (jsb_c rfl (jsb_c rfl (jsb_c rfl (jsb_c rfl jsb_n)))))) (ct_X12_priceOf_r125_77 hD hQ ih l1 l2 l3 l4 l5 h (jr_of rfl (by omega)) (jr_of rfl (by omega)) (jr_of rfl (by omega)) (jr_of rfl (by omega)) (jr_of rfl (by omega)) (by omega) J Sm)
      ·
        refine x_aloadn (x := 125) rfl rfl ?_
        refine z_getR (N := 92) (b := 126) 12 2 rfl f_12_8 rfl J rfl 16002 ⟨rfl, rfl⟩ rfl ?_
        refine x_iload (x := v4) rfl rfl ?_
        refine x_iconst (v := 1) rfl ki_1 ?_
        refine z_iadd rfl rfl jk_1 (by omega) (fun v7 ev7 => ?_)
        refine z_iald (N := 50660) rfl J rfl sg_126_49520_49920_4_1_2 rfl (by omega) (fun v8 qv8 ev8 => ?_)
        refine x_iloadn (x := l2) rfl rfl ?_
        refine x_icne (tgt := 77) rfl rfl (ti_ne rfl rfl ⟨fun c9 => ?_, fun c9 => ?_⟩)
        ·
          exact jX.sub (jsb_c rfl (jsb_c rfl (jsb_c rfl (jsb_c rfl (jsb_c rfl (jsb_c rfl jsb_n)))))) (ct_X12_priceOf_r125_77 hD hQ ih l1 l2 l3 l4 l5 h (jr_of rfl (by omega)) (jr_of rfl (by omega)) (jr_of rfl (by omega)) (jr_of rfl (by omega)) (jr_of rfl (by omega)) (by omega) J Sm)
        ·
          refine x_aloadn (x := 125) rfl rfl ?_
          refine z_getR (N := 92) (b := 126) 12 2 rfl f_12_8 rfl J rfl 16002 ⟨rfl, rfl⟩ rfl ?_
          refine x_iload (x := v4) rfl rfl ?_
          refine x_iconst (v := 3) rfl ki_3 ?_
          refine z_iadd rfl rfl jk_3 (by omega) (fun v10 ev10 => ?_)
          refine z_iald (N := 50660) rfl J rfl sg_126_49520_49920_4_3_4 rfl (by omega) (fun v11 qv11 ev11 => ?_)
          refine x_iloadn (x := l3) rfl rfl ?_
          refine x_icgt (tgt := 77) rfl rfl (ti_gt rfl rfl ⟨fun c12 => ?_, fun c12 => ?_⟩)
          ·
            exact jX.sub (jsb_c rfl (jsb_c rfl (jsb_c rfl (jsb_c rfl (jsb_c rfl (jsb_c rfl jsb_n)))))) (ct_X12_priceOf_r125_77 hD hQ ih l1 l2 l3 l4 l5 h (jr_of rfl (by omega)) (jr_of rfl (by omega)) (jr_of rfl (by omega)) (jr_of rfl (by omega)) (jr_of rfl (by omega)) (by omega) J Sm)
          ·
            refine x_aloadn (x := 125) rfl rfl ?_
            refine z_getR (N := 92) (b := 126) 12 2 rfl f_12_8 rfl J rfl 16002 ⟨rfl, rfl⟩ rfl ?_
            refine x_iload (x := v4) rfl rfl ?_
            refine x_iconst (v := 2) rfl ki_2 ?_
            refine z_iadd rfl rfl jk_2 (by omega) (fun v13 ev13 => ?_)
            refine z_iald (N := 50660) rfl J rfl sg_126_49520_49920_4_2_3 rfl (by omega) (fun v14 qv14 ev14 => ?_)
            refine x_goto (tgt := 79) rfl rfl ?_
            exact jX.sub (jsb_c rfl (jsb_c rfl (jsb_c rfl (jsb_c rfl (jsb_c rfl jsb_n))))) (ct_X12_priceOf_r125_79 hD hQ ih l1 l2 l3 l5 v14 h (jr_of rfl (by omega)) (jr_of rfl (by omega)) (jr_of rfl (by omega)) (jr_of rfl (by omega)) (jr_of rfl (by omega)) (by omega) J Sm)
set_option maxRecDepth 100000 in
set_option maxHeartbeats 4000000 in
theorem sf_X12_priceOf_r125 {Dy : jH → Prop} {h : jH} {Q : Option Value → jH → Prop} {a1 : Int32} {a2 : Int32} {a3 : Int32} (y1 : 0 ≤ a1.toInt ∧ a1.toInt ≤ 2) (y2 : (-7) ≤ a2.toInt ∧ a2.toInt ≤ 398) (y3 : 0 ≤ a3.toInt ∧ a3.toInt ≤ 146399) (hD : jDk Dy) (J : jJ jSgM Dy h) (hQ : ∀ (v : Int32) hx9, (-1) ≤ v.toInt ∧ v.toInt ≤ 10000 → jJ jSgM Dy hx9 → jSm fp_X12_priceOf_r125 h hx9 → Q (some (.int v)) hx9) : jC m_X12_priceOf 1 0 0 [.ref 125, .int a1, .int a2, .int a3] h Q := by
  refine jC.of rfl k_X12_priceOf rfl ?_
  have Sm := jSm_rf fp_X12_priceOf_r125 h
  show jX m_X12_priceOf 1 0 0 0 [(0, .ref 125), (1, .int a1), (2, .int a2), (3, .int a3)] [] _ 0 0 _
  refine x_iconst (v := (-1)) rfl ki_m1 ?_
  refine x_istore (lsx9 := [(4, .int (-1)), (0, .ref 125), (1, .int a1), (2, .int a2), (3, .int a3)]) rfl rfl rfl ?_
  refine x_iconst (v := 0) rfl ki_0 ?_
  refine x_istore (lsx9 := [(5, .int 0), (4, .int (-1)), (0, .ref 125), (1, .int a1), (2, .int a2), (3, .int a3)]) rfl rfl rfl ?_
  exact jX.sub (jsb_c rfl (jsb_c rfl (jsb_c rfl (jsb_c rfl (jsb_c rfl (jsb_c rfl jsb_n)))))) (ct_X12_priceOf_r125_6 hD hQ  101 a1 a2 a3 (-1) 0 h (by have := jk_0; omega) (jr_of rfl (by omega)) (jr_of rfl (by omega)) (jr_of rfl (by omega)) (jr_of jk_m1 (by omega)) (jr_of jk_0 (by omega)) J Sm)
def fp_X12_coin_r125 : jFp := [(125, 0, 1)]
set_option maxRecDepth 100000 in
set_option maxHeartbeats 4000000 in
theorem ct_X12_coin_r125_27 {Dy : jH → Prop} {h0 : jH} {Q : Option Value → jH → Prop} (hD : jDk Dy) (hQ : ∀ (v : Int32) hx9, jJ jSgM Dy hx9 → jSm fp_X12_coin_r125 h0 hx9 → Q (some (.int v)) hx9) : ∀ (h : jH), jJ jSgM Dy h → jSm fp_X12_coin_r125 h0 h → jX m_X12_coin 3 0 0 27 [] [] h 0 0 Q := by
  intro  h    J Sm
  refine x_iconst (v := (-1)) rfl ki_m1 ?_
  refine x_iret rfl rfl ?_
  exact hQ _ _ J Sm
set_option maxRecDepth 100000 in
set_option maxHeartbeats 4000000 in
theorem ct_X12_coin_r125_5000144 {Dy : jH → Prop} {h0 : jH} {Q : Option Value → jH → Prop} {R35 : Int} (hD : jDk Dy) (hQ : ∀ (v : Int32) hx9, jJ jSgM Dy hx9 → jSm fp_X12_coin_r125 h0 hx9 → Q (some (.int v)) hx9) (k35 : ∀ (l1 : Int32) (l2 : Int32) (l3 : Int32) (l4 : Int64) (l6 : Int32) (h : jH), 3 - l6.toInt < R35 → 0 ≤ l1.toInt ∧ l1.toInt ≤ 39 → 0 ≤ l2.toInt ∧ l2.toInt ≤ 399 → 0 ≤ l3.toInt ∧ l3.toInt ≤ 146399 → 0 ≤ l6.toInt ∧ l6.toInt ≤ 3 → jJ jSgM Dy h → jSm fp_X12_coin_r125 h0 h → jX m_X12_coin 3 0 0 35 [(0, .ref 125), (1, .int l1), (2, .int l2), (3, .int l3), (4, .long l4), (6, .int l6)] [] h 0 0 Q) : ∀ (l1 : Int32) (l2 : Int32) (l3 : Int32) (l6 : Int32) (s1 : Int64) (h : jH), 0 ≤ l1.toInt ∧ l1.toInt ≤ 39 → 0 ≤ l2.toInt ∧ l2.toInt ≤ 399 → 0 ≤ l3.toInt ∧ l3.toInt ≤ 146399 → 0 ≤ l6.toInt ∧ l6.toInt ≤ 2 → 3 - l6.toInt ≤ R35 → jJ jSgM Dy h → jSm fp_X12_coin_r125 h0 h → jX m_X12_coin 3 0 0 144 [(0, .ref 125), (1, .int l1), (2, .int l2), (3, .int l3), (6, .int l6)] [.long 0, .long s1] h 0 0 Q := by
  intro l1 l2 l3 l6 s1 h y0 y1 y2 y3  m35 J Sm
  have es1 := jfullL s1
  refine z_ladd rfl rfl jkl_0 (by omega) (fun v1 ev1 => ?_)
  refine x_lstore (lsx9 := [(4, .long v1), (0, .ref 125), (1, .int l1), (2, .int l2), (3, .int l3), (6, .int l6)]) rfl rfl rfl ?_
  refine z_iinc (x := l6) (lsx9 := fun v2 => [(6, .int v2), (4, .long v1), (0, .ref 125), (1, .int l1), (2, .int l2), (3, .int l3)]) rfl rfl rfl jko_1 (by omega) rfl (fun _ => rfl) (fun v2 ev2 => ?_)
  refine x_goto (tgt := 35) rfl rfl ?_
  exact jX.sub (jsb_c rfl (jsb_c rfl (jsb_c rfl (jsb_c rfl (jsb_c rfl (jsb_c rfl jsb_n)))))) (k35 l1 l2 l3 v1 v2 h (by omega) (jr_of rfl (by omega)) (jr_of rfl (by omega)) (jr_of rfl (by omega)) (jr_of rfl (by omega)) J Sm)
set_option maxRecDepth 100000 in
set_option maxHeartbeats 4000000 in
theorem ct_X12_coin_r125_144 {Dy : jH → Prop} {h0 : jH} {Q : Option Value → jH → Prop} {R35 : Int} (hD : jDk Dy) (hQ : ∀ (v : Int32) hx9, jJ jSgM Dy hx9 → jSm fp_X12_coin_r125 h0 hx9 → Q (some (.int v)) hx9) (k35 : ∀ (l1 : Int32) (l2 : Int32) (l3 : Int32) (l4 : Int64) (l6 : Int32) (h : jH), 3 - l6.toInt < R35 → 0 ≤ l1.toInt ∧ l1.toInt ≤ 39 → 0 ≤ l2.toInt ∧ l2.toInt ≤ 399 → 0 ≤ l3.toInt ∧ l3.toInt ≤ 146399 → 0 ≤ l6.toInt ∧ l6.toInt ≤ 3 → jJ jSgM Dy h → jSm fp_X12_coin_r125 h0 h → jX m_X12_coin 3 0 0 35 [(0, .ref 125), (1, .int l1), (2, .int l2), (3, .int l3), (4, .long l4), (6, .int l6)] [] h 0 0 Q) : ∀ (l1 : Int32) (l2 : Int32) (l3 : Int32) (l6 : Int32) (s0 : Int64) (s1 : Int64) (h : jH), 0 ≤ l1.toInt ∧ l1.toInt ≤ 39 → 0 ≤ l2.toInt ∧ l2.toInt ≤ 399 → 0 ≤ l3.toInt ∧ l3.toInt ≤ 146399 → 0 ≤ l6.toInt ∧ l6.toInt ≤ 2 → 3 - l6.toInt ≤ R35 → jJ jSgM Dy h → jSm fp_X12_coin_r125 h0 h → jX m_X12_coin 3 0 0 144 [(0, .ref 125), (1, .int l1), (2, .int l2), (3, .int l3), (6, .int l6)] [.long s0, .long s1] h 0 0 Q := by
  intro l1 l2 l3 l6 s0 s1 h y0 y1 y2 y3  m35 J Sm
  have es0 := jfullL s0
  have es1 := jfullL s1
  refine z_ladd0 rfl (fun v1 => ?_)
  have ev1 := jfullL v1
  refine x_lstore (lsx9 := [(4, .long v1), (0, .ref 125), (1, .int l1), (2, .int l2), (3, .int l3), (6, .int l6)]) rfl rfl rfl ?_
  refine z_iinc (x := l6) (lsx9 := fun v2 => [(6, .int v2), (4, .long v1), (0, .ref 125), (1, .int l1), (2, .int l2), (3, .int l3)]) rfl rfl rfl jko_1 (by omega) rfl (fun _ => rfl) (fun v2 ev2 => ?_)
  refine x_goto (tgt := 35) rfl rfl ?_
  exact jX.sub (jsb_c rfl (jsb_c rfl (jsb_c rfl (jsb_c rfl (jsb_c rfl (jsb_c rfl jsb_n)))))) (k35 l1 l2 l3 v1 v2 h (by omega) (jr_of rfl (by omega)) (jr_of rfl (by omega)) (jr_of rfl (by omega)) (jr_of rfl (by omega)) J Sm)
set_option maxRecDepth 100000 in
set_option maxHeartbeats 4000000 in
theorem ct_X12_coin_r125_300101 {Dy : jH → Prop} {h0 : jH} {Q : Option Value → jH → Prop} {R35 : Int} {R53 : Int} (hD : jDk Dy) (hQ : ∀ (v : Int32) hx9, jJ jSgM Dy hx9 → jSm fp_X12_coin_r125 h0 hx9 → Q (some (.int v)) hx9) (k35 : ∀ (l1 : Int32) (l2 : Int32) (l3 : Int32) (l4 : Int64) (l6 : Int32) (h : jH), 3 - l6.toInt < R35 → 0 ≤ l1.toInt ∧ l1.toInt ≤ 39 → 0 ≤ l2.toInt ∧ l2.toInt ≤ 399 → 0 ≤ l3.toInt ∧ l3.toInt ≤ 146399 → 0 ≤ l6.toInt ∧ l6.toInt ≤ 3 → jJ jSgM Dy h → jSm fp_X12_coin_r125 h0 h → jX m_X12_coin 3 0 0 35 [(0, .ref 125), (1, .int l1), (2, .int l2), (3, .int l3), (4, .long l4), (6, .int l6)] [] h 0 0 Q) (k53 : ∀ (l1 : Int32) (l2 : Int32) (l3 : Int32) (l4 : Int64) (l6 : Int32) (l7 : Int64) (l9 : Int32) (l10 : Int32) (h : jH), 399 - l10.toInt < R53 → 0 ≤ l1.toInt ∧ l1.toInt ≤ 39 → 0 ≤ l2.toInt ∧ l2.toInt ≤ 399 → 0 ≤ l3.toInt ∧ l3.toInt ≤ 146399 → 0 ≤ l6.toInt ∧ l6.toInt ≤ 2 → (-7) ≤ l10.toInt ∧ l10.toInt ≤ 399 → 3 - l6.toInt ≤ R35 → jJ jSgM Dy h → jSm fp_X12_coin_r125 h0 h → jX m_X12_coin 3 0 0 53 [(0, .ref 125), (1, .int l1), (2, .int l2), (3, .int l3), (4, .long l4), (6, .int l6), (7, .long l7), (9, .int l9), (10, .int l10)] [] h 0 0 Q) : ∀ (l1 : Int32) (l2 : Int32) (l3 : Int32) (l4 : Int64) (l6 : Int32) (l7 : Int64) (l10 : Int32) (s1 : Int32) (h : jH), 0 ≤ l1.toInt ∧ l1.toInt ≤ 39 → 0 ≤ l2.toInt ∧ l2.toInt ≤ 399 → 0 ≤ l3.toInt ∧ l3.toInt ≤ 146399 → 0 ≤ l6.toInt ∧ l6.toInt ≤ 2 → (-7) ≤ l10.toInt ∧ l10.toInt ≤ 398 → 3 - l6.toInt ≤ R35 → 399 - l10.toInt ≤ R53 → jJ jSgM Dy h → jSm fp_X12_coin_r125 h0 h → jX m_X12_coin 3 0 0 101 [(0, .ref 125), (1, .int l1), (2, .int l2), (3, .int l3), (4, .long l4), (6, .int l6), (7, .long l7), (10, .int l10)] [.int 1, .int s1] h 0 0 Q := by
  intro l1 l2 l3 l4 l6 l7 l10 s1 h y0 y1 y2 y3 y4  m35 m53 J Sm
  have el4 := jfullL l4
  have el7 := jfullL l7
  have es1 := jfull s1
  refine z_iadd0 rfl (fun v1 => ?_)
  have ev1 := jfull v1
  refine x_istore (lsx9 := [(9, .int v1), (0, .ref 125), (1, .int l1), (2, .int l2), (3, .int l3), (4, .long l4), (6, .int l6), (7, .long l7), (10, .int l10)]) rfl rfl rfl ?_
  refine z_iinc (x := l10) (lsx9 := fun v2 => [(10, .int v2), (9, .int v1), (0, .ref 125), (1, .int l1), (2, .int l2), (3, .int l3), (4, .long l4), (6, .int l6), (7, .long l7)]) rfl rfl rfl jko_1 (by omega) rfl (fun _ => rfl) (fun v2 ev2 => ?_)
  refine x_goto (tgt := 53) rfl rfl ?_
  exact jX.sub (jsb_c rfl (jsb_c rfl (jsb_c rfl (jsb_c rfl (jsb_c rfl (jsb_c rfl (jsb_c rfl (jsb_c rfl (jsb_c rfl jsb_n))))))))) (k53 l1 l2 l3 l4 l6 l7 v1 v2 h (by omega) (jr_of rfl (by omega)) (jr_of rfl (by omega)) (jr_of rfl (by omega)) (jr_of rfl (by omega)) (jr_of rfl (by omega)) (by omega) J Sm)
set_option maxRecDepth 100000 in
set_option maxHeartbeats 4000000 in
theorem ct_X12_coin_r125_200101 {Dy : jH → Prop} {h0 : jH} {Q : Option Value → jH → Prop} {R35 : Int} {R53 : Int} (hD : jDk Dy) (hQ : ∀ (v : Int32) hx9, jJ jSgM Dy hx9 → jSm fp_X12_coin_r125 h0 hx9 → Q (some (.int v)) hx9) (k35 : ∀ (l1 : Int32) (l2 : Int32) (l3 : Int32) (l4 : Int64) (l6 : Int32) (h : jH), 3 - l6.toInt < R35 → 0 ≤ l1.toInt ∧ l1.toInt ≤ 39 → 0 ≤ l2.toInt ∧ l2.toInt ≤ 399 → 0 ≤ l3.toInt ∧ l3.toInt ≤ 146399 → 0 ≤ l6.toInt ∧ l6.toInt ≤ 3 → jJ jSgM Dy h → jSm fp_X12_coin_r125 h0 h → jX m_X12_coin 3 0 0 35 [(0, .ref 125), (1, .int l1), (2, .int l2), (3, .int l3), (4, .long l4), (6, .int l6)] [] h 0 0 Q) (k53 : ∀ (l1 : Int32) (l2 : Int32) (l3 : Int32) (l4 : Int64) (l6 : Int32) (l7 : Int64) (l9 : Int32) (l10 : Int32) (h : jH), 399 - l10.toInt < R53 → 0 ≤ l1.toInt ∧ l1.toInt ≤ 39 → 0 ≤ l2.toInt ∧ l2.toInt ≤ 399 → 0 ≤ l3.toInt ∧ l3.toInt ≤ 146399 → 0 ≤ l6.toInt ∧ l6.toInt ≤ 2 → (-7) ≤ l10.toInt ∧ l10.toInt ≤ 399 → 3 - l6.toInt ≤ R35 → jJ jSgM Dy h → jSm fp_X12_coin_r125 h0 h → jX m_X12_coin 3 0 0 53 [(0, .ref 125), (1, .int l1), (2, .int l2), (3, .int l3), (4, .long l4), (6, .int l6), (7, .long l7), (9, .int l9), (10, .int l10)] [] h 0 0 Q) : ∀ (l1 : Int32) (l2 : Int32) (l3 : Int32) (l4 : Int64) (l6 : Int32) (l7 : Int64) (l10 : Int32) (s1 : Int32) (h : jH), 0 ≤ l1.toInt ∧ l1.toInt ≤ 39 → 0 ≤ l2.toInt ∧ l2.toInt ≤ 399 → 0 ≤ l3.toInt ∧ l3.toInt ≤ 146399 → 0 ≤ l6.toInt ∧ l6.toInt ≤ 2 → (-7) ≤ l10.toInt ∧ l10.toInt ≤ 398 → 3 - l6.toInt ≤ R35 → 399 - l10.toInt ≤ R53 → jJ jSgM Dy h → jSm fp_X12_coin_r125 h0 h → jX m_X12_coin 3 0 0 101 [(0, .ref 125), (1, .int l1), (2, .int l2), (3, .int l3), (4, .long l4), (6, .int l6), (7, .long l7), (10, .int l10)] [.int 0, .int s1] h 0 0 Q := by
  intro l1 l2 l3 l4 l6 l7 l10 s1 h y0 y1 y2 y3 y4  m35 m53 J Sm
  have el4 := jfullL l4
  have el7 := jfullL l7
  have es1 := jfull s1
  refine z_iadd rfl rfl jk_0 (by omega) (fun v1 ev1 => ?_)
  refine x_istore (lsx9 := [(9, .int v1), (0, .ref 125), (1, .int l1), (2, .int l2), (3, .int l3), (4, .long l4), (6, .int l6), (7, .long l7), (10, .int l10)]) rfl rfl rfl ?_
  refine z_iinc (x := l10) (lsx9 := fun v2 => [(10, .int v2), (9, .int v1), (0, .ref 125), (1, .int l1), (2, .int l2), (3, .int l3), (4, .long l4), (6, .int l6), (7, .long l7)]) rfl rfl rfl jko_1 (by omega) rfl (fun _ => rfl) (fun v2 ev2 => ?_)
  refine x_goto (tgt := 53) rfl rfl ?_
  exact jX.sub (jsb_c rfl (jsb_c rfl (jsb_c rfl (jsb_c rfl (jsb_c rfl (jsb_c rfl (jsb_c rfl (jsb_c rfl (jsb_c rfl jsb_n))))))))) (k53 l1 l2 l3 l4 l6 l7 v1 v2 h (by omega) (jr_of rfl (by omega)) (jr_of rfl (by omega)) (jr_of rfl (by omega)) (jr_of rfl (by omega)) (jr_of rfl (by omega)) (by omega) J Sm)
set_option maxRecDepth 100000 in
set_option maxHeartbeats 4000000 in
theorem ct_X12_coin_r125_85 {Dy : jH → Prop} {h0 : jH} {Q : Option Value → jH → Prop} {R35 : Int} {R53 : Int} (hD : jDk Dy) (hQ : ∀ (v : Int32) hx9, jJ jSgM Dy hx9 → jSm fp_X12_coin_r125 h0 hx9 → Q (some (.int v)) hx9) (k35 : ∀ (l1 : Int32) (l2 : Int32) (l3 : Int32) (l4 : Int64) (l6 : Int32) (h : jH), 3 - l6.toInt < R35 → 0 ≤ l1.toInt ∧ l1.toInt ≤ 39 → 0 ≤ l2.toInt ∧ l2.toInt ≤ 399 → 0 ≤ l3.toInt ∧ l3.toInt ≤ 146399 → 0 ≤ l6.toInt ∧ l6.toInt ≤ 3 → jJ jSgM Dy h → jSm fp_X12_coin_r125 h0 h → jX m_X12_coin 3 0 0 35 [(0, .ref 125), (1, .int l1), (2, .int l2), (3, .int l3), (4, .long l4), (6, .int l6)] [] h 0 0 Q) (k53 : ∀ (l1 : Int32) (l2 : Int32) (l3 : Int32) (l4 : Int64) (l6 : Int32) (l7 : Int64) (l9 : Int32) (l10 : Int32) (h : jH), 399 - l10.toInt < R53 → 0 ≤ l1.toInt ∧ l1.toInt ≤ 39 → 0 ≤ l2.toInt ∧ l2.toInt ≤ 399 → 0 ≤ l3.toInt ∧ l3.toInt ≤ 146399 → 0 ≤ l6.toInt ∧ l6.toInt ≤ 2 → (-7) ≤ l10.toInt ∧ l10.toInt ≤ 399 → 3 - l6.toInt ≤ R35 → jJ jSgM Dy h → jSm fp_X12_coin_r125 h0 h → jX m_X12_coin 3 0 0 53 [(0, .ref 125), (1, .int l1), (2, .int l2), (3, .int l3), (4, .long l4), (6, .int l6), (7, .long l7), (9, .int l9), (10, .int l10)] [] h 0 0 Q) : ∀ (l1 : Int32) (l2 : Int32) (l3 : Int32) (l4 : Int64) (l6 : Int32) (l9 : Int32) (l10 : Int32) (l11 : Int32) (s0 : Int64) (s1 : Int64) (h : jH), 0 ≤ l1.toInt ∧ l1.toInt ≤ 39 → 0 ≤ l2.toInt ∧ l2.toInt ≤ 399 → 0 ≤ l3.toInt ∧ l3.toInt ≤ 146399 → 0 ≤ l6.toInt ∧ l6.toInt ≤ 2 → (-7) ≤ l10.toInt ∧ l10.toInt ≤ 398 → 0 ≤ l11.toInt ∧ l11.toInt ≤ 10000 → 0 ≤ s0.toInt ∧ s0.toInt ≤ 10000 → 3 - l6.toInt ≤ R35 → 399 - l10.toInt ≤ R53 → jJ jSgM Dy h → jSm fp_X12_coin_r125 h0 h → jX m_X12_coin 3 0 0 85 [(0, .ref 125), (1, .int l1), (2, .int l2), (3, .int l3), (4, .long l4), (6, .int l6), (9, .int l9), (10, .int l10), (11, .int l11)] [.long s0, .long s1] h 0 0 Q := by
  intro l1 l2 l3 l4 l6 l9 l10 l11 s0 s1 h y0 y1 y2 y3 y4 y5 y6  m35 m53 J Sm
  have el4 := jfullL l4
  have el9 := jfull l9
  have es1 := jfullL s1
  refine z_ladd0 rfl (fun v1 => ?_)
  have ev1 := jfullL v1
  refine x_lstore (lsx9 := [(7, .long v1), (0, .ref 125), (1, .int l1), (2, .int l2), (3, .int l3), (4, .long l4), (6, .int l6), (9, .int l9), (10, .int l10), (11, .int l11)]) rfl rfl rfl ?_
  refine x_iload (x := l9) rfl rfl ?_
  refine x_iload (x := l11) rfl rfl ?_
  refine x_iconst (v := (-1)) rfl ki_m1 ?_
  refine x_icne (tgt := 100) rfl rfl (ti_ne rfl jk_m1 (bn_t (by omega) ?_))
  refine x_iconst (v := 1) rfl ki_1 ?_
  exact jX.sub (jsb_c rfl (jsb_c rfl (jsb_c rfl (jsb_c rfl (jsb_c rfl (jsb_c rfl (jsb_c rfl (jsb_c rfl jsb_n)))))))) (ct_X12_coin_r125_300101 hD hQ k35 k53 l1 l2 l3 l4 l6 v1 l10 l9 h (jr_of rfl (by omega)) (jr_of rfl (by omega)) (jr_of rfl (by omega)) (jr_of rfl (by omega)) (jr_of rfl (by omega)) (by omega) (by omega) J Sm)
set_option maxRecDepth 100000 in
set_option maxHeartbeats 4000000 in
theorem ct_X12_coin_r125_5000085 {Dy : jH → Prop} {h0 : jH} {Q : Option Value → jH → Prop} {R35 : Int} {R53 : Int} (hD : jDk Dy) (hQ : ∀ (v : Int32) hx9, jJ jSgM Dy hx9 → jSm fp_X12_coin_r125 h0 hx9 → Q (some (.int v)) hx9) (k35 : ∀ (l1 : Int32) (l2 : Int32) (l3 : Int32) (l4 : Int64) (l6 : Int32) (h : jH), 3 - l6.toInt < R35 → 0 ≤ l1.toInt ∧ l1.toInt ≤ 39 → 0 ≤ l2.toInt ∧ l2.toInt ≤ 399 → 0 ≤ l3.toInt ∧ l3.toInt ≤ 146399 → 0 ≤ l6.toInt ∧ l6.toInt ≤ 3 → jJ jSgM Dy h → jSm fp_X12_coin_r125 h0 h → jX m_X12_coin 3 0 0 35 [(0, .ref 125), (1, .int l1), (2, .int l2), (3, .int l3), (4, .long l4), (6, .int l6)] [] h 0 0 Q) (k53 : ∀ (l1 : Int32) (l2 : Int32) (l3 : Int32) (l4 : Int64) (l6 : Int32) (l7 : Int64) (l9 : Int32) (l10 : Int32) (h : jH), 399 - l10.toInt < R53 → 0 ≤ l1.toInt ∧ l1.toInt ≤ 39 → 0 ≤ l2.toInt ∧ l2.toInt ≤ 399 → 0 ≤ l3.toInt ∧ l3.toInt ≤ 146399 → 0 ≤ l6.toInt ∧ l6.toInt ≤ 2 → (-7) ≤ l10.toInt ∧ l10.toInt ≤ 399 → 3 - l6.toInt ≤ R35 → jJ jSgM Dy h → jSm fp_X12_coin_r125 h0 h → jX m_X12_coin 3 0 0 53 [(0, .ref 125), (1, .int l1), (2, .int l2), (3, .int l3), (4, .long l4), (6, .int l6), (7, .long l7), (9, .int l9), (10, .int l10)] [] h 0 0 Q) : ∀ (l1 : Int32) (l2 : Int32) (l3 : Int32) (l4 : Int64) (l6 : Int32) (l9 : Int32) (l10 : Int32) (l11 : Int32) (s1 : Int64) (h : jH), 0 ≤ l1.toInt ∧ l1.toInt ≤ 39 → 0 ≤ l2.toInt ∧ l2.toInt ≤ 399 → 0 ≤ l3.toInt ∧ l3.toInt ≤ 146399 → 0 ≤ l6.toInt ∧ l6.toInt ≤ 2 → (-7) ≤ l10.toInt ∧ l10.toInt ≤ 398 → (-1) ≤ l11.toInt ∧ l11.toInt ≤ (-1) → 3 - l6.toInt ≤ R35 → 399 - l10.toInt ≤ R53 → jJ jSgM Dy h → jSm fp_X12_coin_r125 h0 h → jX m_X12_coin 3 0 0 85 [(0, .ref 125), (1, .int l1), (2, .int l2), (3, .int l3), (4, .long l4), (6, .int l6), (9, .int l9), (10, .int l10), (11, .int l11)] [.long 0, .long s1] h 0 0 Q := by
  intro l1 l2 l3 l4 l6 l9 l10 l11 s1 h y0 y1 y2 y3 y4 y5  m35 m53 J Sm
  have el4 := jfullL l4
  have el9 := jfull l9
  have es1 := jfullL s1
  refine z_ladd rfl rfl jkl_0 (by omega) (fun v1 ev1 => ?_)
  refine x_lstore (lsx9 := [(7, .long v1), (0, .ref 125), (1, .int l1), (2, .int l2), (3, .int l3), (4, .long l4), (6, .int l6), (9, .int l9), (10, .int l10), (11, .int l11)]) rfl rfl rfl ?_
  refine x_iload (x := l9) rfl rfl ?_
  refine x_iload (x := l11) rfl rfl ?_
  refine x_iconst (v := (-1)) rfl ki_m1 ?_
  refine x_icne (tgt := 100) rfl rfl (ti_ne rfl jk_m1 (bn_f (by omega) ?_))
  refine x_iconst (v := 0) rfl ki_0 ?_
  refine x_goto (tgt := 101) rfl rfl ?_
  exact jX.sub (jsb_c rfl (jsb_c rfl (jsb_c rfl (jsb_c rfl (jsb_c rfl (jsb_c rfl (jsb_c rfl (jsb_c rfl jsb_n)))))))) (ct_X12_coin_r125_200101 hD hQ k35 k53 l1 l2 l3 l4 l6 v1 l10 l9 h (jr_of rfl (by omega)) (jr_of rfl (by omega)) (jr_of rfl (by omega)) (jr_of rfl (by omega)) (jr_of rfl (by omega)) (by omega) (by omega) J Sm)
set_option maxRecDepth 100000 in
set_option maxHeartbeats 4000000 in
theorem ct_X12_coin_r125_53 {Dy : jH → Prop} {h0 : jH} {Q : Option Value → jH → Prop} {R35 : Int} (hD : jDk Dy) (hQ : ∀ (v : Int32) hx9, jJ jSgM Dy hx9 → jSm fp_X12_coin_r125 h0 hx9 → Q (some (.int v)) hx9) (k35 : ∀ (l1 : Int32) (l2 : Int32) (l3 : Int32) (l4 : Int64) (l6 : Int32) (h : jH), 3 - l6.toInt < R35 → 0 ≤ l1.toInt ∧ l1.toInt ≤ 39 → 0 ≤ l2.toInt ∧ l2.toInt ≤ 399 → 0 ≤ l3.toInt ∧ l3.toInt ≤ 146399 → 0 ≤ l6.toInt ∧ l6.toInt ≤ 3 → jJ jSgM Dy h → jSm fp_X12_coin_r125 h0 h → jX m_X12_coin 3 0 0 35 [(0, .ref 125), (1, .int l1), (2, .int l2), (3, .int l3), (4, .long l4), (6, .int l6)] [] h 0 0 Q) : ∀ r : Nat, ∀ (l1 : Int32) (l2 : Int32) (l3 : Int32) (l4 : Int64) (l6 : Int32) (l7 : Int64) (l9 : Int32) (l10 : Int32) (h : jH), 399 - l10.toInt < (r : Int) → 0 ≤ l1.toInt ∧ l1.toInt ≤ 39 → 0 ≤ l2.toInt ∧ l2.toInt ≤ 399 → 0 ≤ l3.toInt ∧ l3.toInt ≤ 146399 → 0 ≤ l6.toInt ∧ l6.toInt ≤ 2 → (-7) ≤ l10.toInt ∧ l10.toInt ≤ 399 → 3 - l6.toInt ≤ R35 → jJ jSgM Dy h → jSm fp_X12_coin_r125 h0 h → jX m_X12_coin 3 0 0 53 [(0, .ref 125), (1, .int l1), (2, .int l2), (3, .int l3), (4, .long l4), (6, .int l6), (7, .long l7), (9, .int l9), (10, .int l10)] [] h 0 0 Q := by
  intro r
  induction r with
  | zero =>
    intro l1 l2 l3 l4 l6 l7 l9 l10 h hm y0 y1 y2 y3 y4  m35 J Sm
    exfalso
    have el4 := jfullL l4
    have el7 := jfullL l7
    have el9 := jfull l9
    omega
  | succ r ih =>
    intro l1 l2 l3 l4 l6 l7 l9 l10 h hm y0 y1 y2 y3 y4  m35 J Sm
    have el4 := jfullL l4
    have el7 := jfullL l7
    have el9 := jfull l9
    refine x_iload (x := l10) rfl rfl ?_
    refine x_iloadn (x := l2) rfl rfl ?_
    refine x_icge (tgt := 110) rfl rfl (ti_ge rfl rfl ⟨fun c1 => ?_, fun c1 => ?_⟩)
    ·
      refine x_lload (x := l4) rfl rfl ?_
      refine x_iload (x := l9) rfl rfl ?_
      refine x_ifne (tgt := 121) rfl rfl (ti_ne rfl jk_0 ⟨fun c2 => ?_, fun c2 => ?_⟩)
      ·
        refine x_aloadn (x := 125) rfl rfl ?_
        refine z_getR (N := 92) (b := 173) 12 88 rfl f_12_177 rfl J rfl 16088 ⟨rfl, rfl⟩ rfl ?_
        refine x_iconst (v := 3) rfl ki_3 ?_
        refine x_iloadn (x := l1) rfl rfl ?_
        refine z_imul rfl jk_3 rfl (by omega) (fun v3 ev3 => ?_)
        refine x_iload (x := l6) rfl rfl ?_
        refine z_iadd rfl rfl rfl (by omega) (fun v4 ev4 => ?_)
        refine z_iald (N := 120) rfl J rfl sg_173_0_120_1_0_1 rfl (by omega) (fun v5 qv5 ev5 => ?_)
        refine z_i2l rfl rfl (fun v6 ev6 => ?_)
        refine x_lload (x := l7) rfl rfl ?_
        refine z_lmul0 rfl (fun v7 => ?_)
        have ev7 := jfullL v7
        refine x_sipush (v := 420) rfl ks_420 ?_
        refine x_iload (x := l9) rfl rfl ?_
        refine z_idiv0 rfl rfl (by omega) (fun v8 => ?_)
        have ev8 := jfull v8
        refine z_i2l rfl rfl (fun v9 ev9 => ?_)
        refine z_lmul0 rfl (fun v10 => ?_)
        have ev10 := jfullL v10
        exact jX.sub (jsb_c rfl (jsb_c rfl (jsb_c rfl (jsb_c rfl (jsb_c rfl jsb_n))))) (ct_X12_coin_r125_144 hD hQ k35 l1 l2 l3 l6 v10 l4 h (jr_of rfl (by omega)) (jr_of rfl (by omega)) (jr_of rfl (by omega)) (jr_of rfl (by omega)) (by omega) J Sm)
      ·
        refine x_lconst (v := 0) rfl kl_0 ?_
        refine x_goto (tgt := 144) rfl rfl ?_
        exact jX.sub (jsb_c rfl (jsb_c rfl (jsb_c rfl (jsb_c rfl (jsb_c rfl jsb_n))))) (ct_X12_coin_r125_5000144 hD hQ k35 l1 l2 l3 l6 l4 h (jr_of rfl (by omega)) (jr_of rfl (by omega)) (jr_of rfl (by omega)) (jr_of rfl (by omega)) (by omega) J Sm)
    ·
      refine x_aloadn (x := 125) rfl rfl ?_
      refine x_iload (x := l6) rfl rfl ?_
      refine x_iload (x := l10) rfl rfl ?_
      refine x_iloadn (x := l3) rfl rfl ?_
      refine x_inv (N := m_X12_priceOf) (As := [.int l6, .int l10, .int l3]) (b := 125) (st := []) (dx9 := 1) (mc := 0) (ms := 0) (host := "") 12 rfl t_X12_priceOf ⟨Or.inl q_12_858, i_X12_priceOf.1, i_X12_priceOf.2⟩ ⟨by decide, rfl⟩ (congrArg Prod.fst (J.1.1 125 (12, 92) rfl)) rfl (by decide) rfl rfl ⟨by decide, by decide⟩ (sf_X12_priceOf_r125 (jr_of rfl (by omega)) (jr_of rfl (by omega)) (jr_of rfl (by omega)) hD J  (fun v12 h ev12 J S11 => ?_))
      have Sm := jSm_tr rfl Sm S11
      show jX m_X12_coin 3 0 0 68 [(0, .ref 125), (1, .int l1), (2, .int l2), (3, .int l3), (4, .long l4), (6, .int l6), (7, .long l7), (9, .int l9), (10, .int l10)] [.int v12] _ 0 0 _
      refine x_istore (lsx9 := [(11, .int v12), (0, .ref 125), (1, .int l1), (2, .int l2), (3, .int l3), (4, .long l4), (6, .int l6), (7, .long l7), (9, .int l9), (10, .int l10)]) rfl rfl rfl ?_
      refine x_lload (x := l7) rfl rfl ?_
      refine x_iload (x := v12) rfl rfl ?_
      refine x_iconst (v := (-1)) rfl ki_m1 ?_
      refine x_icne (tgt := 82) rfl rfl (ti_ne rfl jk_m1 ⟨fun c13 => ?_, fun c13 => ?_⟩)
      ·
        refine x_iload (x := v12) rfl rfl ?_
        refine z_i2l rfl rfl (fun v14 ev14 => ?_)
        exact jX.sub (jsb_c rfl (jsb_c rfl (jsb_c rfl (jsb_c rfl (jsb_c rfl (jsb_c rfl (jsb_c rfl (jsb_c rfl (jsb_c rfl jsb_n))))))))) (ct_X12_coin_r125_85 hD hQ k35 ih l1 l2 l3 l4 l6 l9 l10 v12 v14 l7 h (jr_of rfl (by omega)) (jr_of rfl (by omega)) (jr_of rfl (by omega)) (jr_of rfl (by omega)) (jr_of rfl (by omega)) (jr_of rfl (by omega)) (jr_ofl rfl (by omega)) (by omega) (by omega) J Sm)
      ·
        refine x_lconst (v := 0) rfl kl_0 ?_
        refine x_goto (tgt := 85) rfl rfl ?_
        exact jX.sub (jsb_c rfl (jsb_c rfl (jsb_c rfl (jsb_c rfl (jsb_c rfl (jsb_c rfl (jsb_c rfl (jsb_c rfl (jsb_c rfl jsb_n))))))))) (ct_X12_coin_r125_5000085 hD hQ k35 ih l1 l2 l3 l4 l6 l9 l10 v12 l7 h (jr_of rfl (by omega)) (jr_of rfl (by omega)) (jr_of rfl (by omega)) (jr_of rfl (by omega)) (jr_of rfl (by omega)) (jr_of rfl (by omega)) (by omega) (by omega) J Sm)
set_option maxRecDepth 100000 in
set_option maxHeartbeats 4000000 in
theorem ct_X12_coin_r125_35 {Dy : jH → Prop} {h0 : jH} {Q : Option Value → jH → Prop} (hD : jDk Dy) (hQ : ∀ (v : Int32) hx9, jJ jSgM Dy hx9 → jSm fp_X12_coin_r125 h0 hx9 → Q (some (.int v)) hx9) : ∀ r : Nat, ∀ (l1 : Int32) (l2 : Int32) (l3 : Int32) (l4 : Int64) (l6 : Int32) (h : jH), 3 - l6.toInt < (r : Int) → 0 ≤ l1.toInt ∧ l1.toInt ≤ 39 → 0 ≤ l2.toInt ∧ l2.toInt ≤ 399 → 0 ≤ l3.toInt ∧ l3.toInt ≤ 146399 → 0 ≤ l6.toInt ∧ l6.toInt ≤ 3 → jJ jSgM Dy h → jSm fp_X12_coin_r125 h0 h → jX m_X12_coin 3 0 0 35 [(0, .ref 125), (1, .int l1), (2, .int l2), (3, .int l3), (4, .long l4), (6, .int l6)] [] h 0 0 Q := by
  intro r
  induction r with
  | zero =>
    intro l1 l2 l3 l4 l6 h hm y0 y1 y2 y3   J Sm
    exfalso
    have el4 := jfullL l4
    omega
  | succ r ih =>
    intro l1 l2 l3 l4 l6 h hm y0 y1 y2 y3   J Sm
    have el4 := jfullL l4
    refine x_iload (x := l6) rfl rfl ?_
    refine x_iconst (v := 3) rfl ki_3 ?_
    refine x_icge (tgt := 153) rfl rfl (ti_ge rfl jk_3 ⟨fun c1 => ?_, fun c1 => ?_⟩)
    ·
      refine x_lload (x := l4) rfl rfl ?_
      refine x_ldc2 (v := 4200) rfl z_12_861 ?_
      refine z_ldiv0 rfl jkl_4200 (by omega) (fun v2 => ?_)
      have ev2 := jfullL v2
      refine z_l2i0 rfl (fun v3 => ?_)
      refine x_iret rfl rfl ?_
      exact hQ _ _ J Sm
    ·
      refine x_lconst (v := 0) rfl kl_0 ?_
      refine x_lstore (lsx9 := [(7, .long 0), (0, .ref 125), (1, .int l1), (2, .int l2), (3, .int l3), (4, .long l4), (6, .int l6)]) rfl rfl rfl ?_
      refine x_iconst (v := 0) rfl ki_0 ?_
      refine x_istore (lsx9 := [(9, .int 0), (7, .long 0), (0, .ref 125), (1, .int l1), (2, .int l2), (3, .int l3), (4, .long l4), (6, .int l6)]) rfl rfl rfl ?_
      refine x_iloadn (x := l2) rfl rfl ?_
      refine x_bipush (v := 7) rfl kb_7 ?_
      refine z_isub rfl rfl jk_7 (by omega) (fun v4 ev4 => ?_)
      refine x_istore (lsx9 := [(10, .int v4), (9, .int 0), (7, .long 0), (0, .ref 125), (1, .int l1), (2, .int l2), (3, .int l3), (4, .long l4), (6, .int l6)]) rfl rfl rfl ?_
      exact jX.sub (jsb_c rfl (jsb_c rfl (jsb_c rfl (jsb_c rfl (jsb_c rfl (jsb_c rfl (jsb_c rfl (jsb_c rfl (jsb_c rfl jsb_n))))))))) (ct_X12_coin_r125_53 hD hQ ih 407 l1 l2 l3 l4 l6 0 0 v4 h (by omega) (jr_of rfl (by omega)) (jr_of rfl (by omega)) (jr_of rfl (by omega)) (jr_of rfl (by omega)) (jr_of rfl (by omega)) (by omega) J Sm)
set_option maxRecDepth 100000 in
set_option maxHeartbeats 4000000 in
theorem sf_X12_coin_r125 {Dy : jH → Prop} {h : jH} {Q : Option Value → jH → Prop} {a1 : Int32} {a2 : Int32} {a3 : Int32} (hD : jDk Dy) (J : jJ jSgM Dy h) (hQ : ∀ (v : Int32) hx9, jJ jSgM Dy hx9 → jSm fp_X12_coin_r125 h hx9 → Q (some (.int v)) hx9) : jC m_X12_coin 3 0 0 [.ref 125, .int a1, .int a2, .int a3] h Q := by
  refine jC.of rfl k_X12_coin rfl ?_
  have Sm := jSm_rf fp_X12_coin_r125 h
  have ea1 := jfull a1
  have ea2 := jfull a2
  have ea3 := jfull a3
  show jX m_X12_coin 3 0 0 0 [(0, .ref 125), (1, .int a1), (2, .int a2), (3, .int a3)] [] _ 0 0 _
  refine x_aloadn (x := 125) rfl rfl ?_
  refine x_iconst (v := 0) rfl ki_0 ?_
  refine z_putI (N := 92) (w := 0) 12 0 rfl f_12_180 rfl (jfin_no TX12 RX12 92 rfl rfl) hD J Sm rfl rfl jk_0 (pw_125_0 (by omega)) rfl (fun h w1 J Sm => ?_)
  refine x_aloadn (x := 125) rfl rfl ?_
  refine x_iloadn (x := a1) rfl rfl ?_
  refine x_inv (N := m_X12_isHolding) (As := [.int a1]) (b := 125) (st := []) (dx9 := 2) (mc := 0) (ms := 0) (host := "") 12 rfl t_X12_isHolding ⟨Or.inl q_12_811, i_X12_isHolding.1, i_X12_isHolding.2⟩ ⟨by decide, rfl⟩ (congrArg Prod.fst (J.1.1 125 (12, 92) rfl)) rfl (by decide) rfl rfl ⟨by decide, by decide⟩ (jC.of rfl k_X12_isHolding rfl ?_)
  show jX m_X12_isHolding 2 0 0 0 [(0, .ref 125), (1, .int a1)] [] _ 0 0 _
  refine x_iloadn (x := a1) rfl rfl ?_
  refine z_i2l rfl rfl (fun v2 ev2 => ?_)
  refine x_lconst (v := 0) rfl kl_0 ?_
  refine x_aloadn (x := 125) rfl rfl ?_
  refine z_getR (N := 92) (b := 126) 12 2 rfl f_12_8 rfl J rfl 16002 ⟨rfl, rfl⟩ rfl ?_
  refine x_bipush (v := 7) rfl kb_7 ?_
  refine z_iald (N := 50660) rfl J rfl sg_126_7_8_1_0_1 jk_7 (by omega) (fun v3 qv3 ev3 => ?_)
  refine z_i2l rfl rfl (fun v4 ev4 => ?_)
  refine x_lconst (v := 1) rfl kl_1 ?_
  refine z_lsub rfl rfl jkl_1 (by omega) (fun v5 ev5 => ?_)
  refine x_inst (N := m_X12_in) (As := [.long v2, .long 0, .long v5]) (st := []) (dx9 := 1) (mc := 0) (ms := 0) (host := "") rfl t_X12_in ⟨Or.inl q_12_188, s_X12_in⟩ rfl (by decide) rfl rfl ⟨by decide, by decide⟩ (zc_X12_in rfl jkl_0 rfl (fun v6 ev6 => ?_))
  show jX m_X12_isHolding 2 0 0 16 [(0, .ref 125), (1, .int a1)] [.int v6] _ 0 0 _
  refine x_zret rfl rfl (jz01 (by omega)) ?_
  show jX m_X12_coin 3 0 0 10 [(0, .ref 125), (1, .int a1), (2, .int a2), (3, .int a3)] [.int v6] _ 0 0 _
  refine x_ifeq (tgt := 27) rfl rfl (ti_eq rfl jk_0 ⟨fun c7 => ?_, fun c7 => ?_⟩)
  ·
    exact jX.sub jsb_n (ct_X12_coin_r125_27 hD hQ  h J Sm)
  ·
    refine x_iloadn (x := a2) rfl rfl ?_
    refine x_inst (N := m_X12_isYear) (As := [.int a2]) (st := []) (dx9 := 2) (mc := 0) (ms := 0) (host := "") rfl t_X12_isYear ⟨Or.inl q_12_817, s_X12_isYear⟩ rfl (by decide) rfl rfl ⟨by decide, by decide⟩ (zc_X12_isYear (d := 1) rfl (fun v8 ev8 => ?_))
    show jX m_X12_coin 3 0 0 17 [(0, .ref 125), (1, .int a1), (2, .int a2), (3, .int a3)] [.int v8] _ 0 0 _
    refine x_ifeq (tgt := 27) rfl rfl (ti_eq rfl jk_0 ⟨fun c9 => ?_, fun c9 => ?_⟩)
    ·
      exact jX.sub jsb_n (ct_X12_coin_r125_27 hD hQ  h J Sm)
    ·
      refine x_iloadn (x := a3) rfl rfl ?_
      refine x_inst (N := m_X12_isDay) (As := [.int a3]) (st := []) (dx9 := 2) (mc := 0) (ms := 0) (host := "") rfl t_X12_isDay ⟨Or.inl q_12_273, s_X12_isDay⟩ rfl (by decide) rfl rfl ⟨by decide, by decide⟩ (zc_X12_isDay (d := 1) rfl (fun v10 ev10 => ?_))
      show jX m_X12_coin 3 0 0 24 [(0, .ref 125), (1, .int a1), (2, .int a2), (3, .int a3)] [.int v10] _ 0 0 _
      refine x_ifne (tgt := 29) rfl rfl (ti_ne rfl jk_0 ⟨fun c11 => ?_, fun c11 => ?_⟩)
      ·
        refine x_lconst (v := 0) rfl kl_0 ?_
        refine x_lstore (lsx9 := [(4, .long 0), (0, .ref 125), (1, .int a1), (2, .int a2), (3, .int a3)]) rfl rfl rfl ?_
        refine x_iconst (v := 0) rfl ki_0 ?_
        refine x_istore (lsx9 := [(6, .int 0), (4, .long 0), (0, .ref 125), (1, .int a1), (2, .int a2), (3, .int a3)]) rfl rfl rfl ?_
        exact jX.sub (jsb_c rfl (jsb_c rfl (jsb_c rfl (jsb_c rfl (jsb_c rfl (jsb_c rfl jsb_n)))))) (ct_X12_coin_r125_35 hD hQ  4 a1 a2 a3 0 0 h (by have := jk_0; omega) (jr_of rfl (by omega)) (jr_of rfl (by omega)) (jr_of rfl (by omega)) (jr_of jk_0 (by omega)) J Sm)
      ·
        exact jX.sub jsb_n (ct_X12_coin_r125_27 hD hQ  h J Sm)
def fp_X12_count_r125 : jFp := [(125, 0, 1)]
set_option maxRecDepth 100000 in
set_option maxHeartbeats 4000000 in
theorem sf_X12_count_r125 {Dy : jH → Prop} {h : jH} {Q : Option Value → jH → Prop} {a1 : Int32} (hD : jDk Dy) (J : jJ jSgM Dy h) (hQ : ∀ (v : Int32) hx9, (-1) ≤ v.toInt ∧ v.toInt ≤ 400 → jJ jSgM Dy hx9 → jSm fp_X12_count_r125 h hx9 → Q (some (.int v)) hx9) : jC m_X12_count 1 0 0 [.ref 125, .int a1] h Q := by
  refine jC.of rfl k_X12_count rfl ?_
  have Sm := jSm_rf fp_X12_count_r125 h
  have ea1 := jfull a1
  show jX m_X12_count 1 0 0 0 [(0, .ref 125), (1, .int a1)] [] _ 0 0 _
  refine x_aloadn (x := 125) rfl rfl ?_
  refine x_iconst (v := 0) rfl ki_0 ?_
  refine z_putI (N := 92) (w := 0) 12 0 rfl f_12_180 rfl (jfin_no TX12 RX12 92 rfl rfl) hD J Sm rfl rfl jk_0 (pw_125_0 (by omega)) rfl (fun h w1 J Sm => ?_)
  refine x_iloadn (x := a1) rfl rfl ?_
  by_cases c2 : a1.toInt = 0
  ·
    refine x_tableIn (tgt := 68) 0 rfl c2 (by decide) (by decide) rfl rfl ?_
    refine x_aloadn (x := 125) rfl rfl ?_
    refine z_getR (N := 92) (b := 126) 12 2 rfl f_12_8 rfl J rfl 16002 ⟨rfl, rfl⟩ rfl ?_
    refine x_iconst (v := 0) rfl ki_0 ?_
    refine z_iald (N := 50660) rfl J rfl sg_126_0_1_1_0_1 jk_0 (by omega) (fun v3 qv3 ev3 => ?_)
    refine x_iret rfl rfl ?_
    exact hQ _ _ (jr_of rfl (by omega)) J Sm
  by_cases c4 : a1.toInt = 1
  ·
    refine x_tableIn (tgt := 75) 1 rfl c4 (by decide) (by decide) rfl rfl ?_
    refine x_aloadn (x := 125) rfl rfl ?_
    refine z_getR (N := 92) (b := 126) 12 2 rfl f_12_8 rfl J rfl 16002 ⟨rfl, rfl⟩ rfl ?_
    refine x_iconst (v := 4) rfl ki_4 ?_
    refine z_iald (N := 50660) rfl J rfl sg_126_4_5_1_0_1 jk_4 (by omega) (fun v5 qv5 ev5 => ?_)
    refine x_iret rfl rfl ?_
    exact hQ _ _ (jr_of rfl (by omega)) J Sm
  by_cases c6 : a1.toInt = 2
  ·
    refine x_tableIn (tgt := 82) 2 rfl c6 (by decide) (by decide) rfl rfl ?_
    refine x_aloadn (x := 125) rfl rfl ?_
    refine z_getR (N := 92) (b := 126) 12 2 rfl f_12_8 rfl J rfl 16002 ⟨rfl, rfl⟩ rfl ?_
    refine x_iconst (v := 5) rfl ki_5 ?_
    refine z_iald (N := 50660) rfl J rfl sg_126_5_6_1_0_1 jk_5 (by omega) (fun v7 qv7 ev7 => ?_)
    refine x_iret rfl rfl ?_
    exact hQ _ _ (jr_of rfl (by omega)) J Sm
  by_cases c8 : a1.toInt = 3
  ·
    refine x_tableIn (tgt := 89) 3 rfl c8 (by decide) (by decide) rfl rfl ?_
    refine x_aloadn (x := 125) rfl rfl ?_
    refine z_getR (N := 92) (b := 126) 12 2 rfl f_12_8 rfl J rfl 16002 ⟨rfl, rfl⟩ rfl ?_
    refine x_bipush (v := 7) rfl kb_7 ?_
    refine z_iald (N := 50660) rfl J rfl sg_126_7_8_1_0_1 jk_7 (by omega) (fun v9 qv9 ev9 => ?_)
    refine x_iret rfl rfl ?_
    exact hQ _ _ (jr_of rfl (by omega)) J Sm
  by_cases c10 : a1.toInt = 4
  ·
    refine x_tableIn (tgt := 97) 4 rfl c10 (by decide) (by decide) rfl rfl ?_
    refine x_aloadn (x := 125) rfl rfl ?_
    refine z_getR (N := 92) (b := 126) 12 2 rfl f_12_8 rfl J rfl 16002 ⟨rfl, rfl⟩ rfl ?_
    refine x_bipush (v := 16) rfl kb_16 ?_
    refine z_iald (N := 50660) rfl J rfl sg_126_16_17_1_0_1 jk_16 (by omega) (fun v11 qv11 ev11 => ?_)
    refine x_iret rfl rfl ?_
    exact hQ _ _ (jr_of rfl (by omega)) J Sm
  by_cases c12 : a1.toInt = 5
  ·
    refine x_tableIn (tgt := 105) 5 rfl c12 (by decide) (by decide) rfl rfl ?_
    refine x_aloadn (x := 125) rfl rfl ?_
    refine z_getR (N := 92) (b := 126) 12 2 rfl f_12_8 rfl J rfl 16002 ⟨rfl, rfl⟩ rfl ?_
    refine x_bipush (v := 11) rfl kb_11 ?_
    refine z_iald (N := 50660) rfl J rfl sg_126_11_12_1_0_1 jk_11 (by omega) (fun v13 qv13 ev13 => ?_)
    refine x_iret rfl rfl ?_
    exact hQ _ _ (jr_of rfl (by omega)) J Sm
  by_cases c14 : a1.toInt = 6
  ·
    refine x_tableIn (tgt := 113) 6 rfl c14 (by decide) (by decide) rfl rfl ?_
    refine x_aloadn (x := 125) rfl rfl ?_
    refine z_getR (N := 92) (b := 126) 12 2 rfl f_12_8 rfl J rfl 16002 ⟨rfl, rfl⟩ rfl ?_
    refine x_iconst (v := 2) rfl ki_2 ?_
    refine z_iald (N := 50660) rfl J rfl sg_126_2_3_1_0_1 jk_2 (by omega) (fun v15 qv15 ev15 => ?_)
    refine x_iret rfl rfl ?_
    exact hQ _ _ (jr_of rfl (by omega)) J Sm
  by_cases c16 : a1.toInt = 7
  ·
    refine x_tableIn (tgt := 120) 7 rfl c16 (by decide) (by decide) rfl rfl ?_
    refine x_aloadn (x := 125) rfl rfl ?_
    refine z_getI (N := 92) 12 36 rfl f_12_204 rfl J rfl sg_125_36_37_1_0_1 (fun v17 qv17 ev17 => ?_)
    refine x_iret rfl rfl ?_
    exact hQ _ _ (jr_of rfl (by omega)) J Sm
  by_cases c18 : a1.toInt = 8
  ·
    refine x_tableIn (tgt := 125) 8 rfl c18 (by decide) (by decide) rfl rfl ?_
    refine x_aloadn (x := 125) rfl rfl ?_
    refine z_getI (N := 92) 12 8 rfl f_12_201 rfl J rfl sg_125_8_9_1_0_1 (fun v19 qv19 ev19 => ?_)
    refine x_iret rfl rfl ?_
    exact hQ _ _ (jr_of rfl (by omega)) J Sm
  by_cases c20 : a1.toInt = 9
  ·
    refine x_tableIn (tgt := 130) 9 rfl c20 (by decide) (by decide) rfl rfl ?_
    refine x_aloadn (x := 125) rfl rfl ?_
    refine z_getR (N := 92) (b := 126) 12 2 rfl f_12_8 rfl J rfl 16002 ⟨rfl, rfl⟩ rfl ?_
    refine x_bipush (v := 6) rfl kb_6 ?_
    refine z_iald (N := 50660) rfl J rfl sg_126_6_7_1_0_1 jk_6 (by omega) (fun v21 qv21 ev21 => ?_)
    refine x_iret rfl rfl ?_
    exact hQ _ _ (jr_of rfl (by omega)) J Sm
  by_cases c22 : a1.toInt = 10
  ·
    refine x_tableIn (tgt := 138) 10 rfl c22 (by decide) (by decide) rfl rfl ?_
    refine x_aloadn (x := 125) rfl rfl ?_
    refine z_getR (N := 92) (b := 126) 12 2 rfl f_12_8 rfl J rfl 16002 ⟨rfl, rfl⟩ rfl ?_
    refine x_bipush (v := 12) rfl kb_12 ?_
    refine z_iald (N := 50660) rfl J rfl sg_126_12_13_1_0_1 jk_12 (by omega) (fun v23 qv23 ev23 => ?_)
    refine x_iret rfl rfl ?_
    exact hQ _ _ (jr_of rfl (by omega)) J Sm
  by_cases c24 : a1.toInt = 11
  ·
    refine x_tableIn (tgt := 146) 11 rfl c24 (by decide) (by decide) rfl rfl ?_
    refine x_aloadn (x := 125) rfl rfl ?_
    refine z_getR (N := 92) (b := 126) 12 2 rfl f_12_8 rfl J rfl 16002 ⟨rfl, rfl⟩ rfl ?_
    refine x_bipush (v := 13) rfl kb_13 ?_
    refine z_iald (N := 50660) rfl J rfl sg_126_13_14_1_0_1 jk_13 (by omega) (fun v25 qv25 ev25 => ?_)
    refine x_iret rfl rfl ?_
    exact hQ _ _ (jr_of rfl (by omega)) J Sm
  refine x_tableOut (tgt := 154) rfl (by omega) rfl ?_
  refine x_iconst (v := (-1)) rfl ki_m1 ?_
  refine x_iret rfl rfl ?_
  exact hQ _ _ (jr_of jk_m1 (by omega)) J Sm
def fp_X12_counts_r125 : jFp := [(125, 0, 1), (125, 28, 29), (125, 31, 32), (125, 32, 33), (125, 33, 34), (125, 34, 35), (125, 35, 36), (125, 57, 58), (125, 61, 62), (125, 62, 63), (125, 63, 64), (125, 64, 65), (125, 65, 66), (125, 66, 67), (137, 0, 80), (138, 0, 2), (139, 0, 600), (140, 0, 200), (152, 0, 360), (153, 0, 30), (154, 0, 400), (155, 0, 360), (162, 0, 40), (163, 0, 40), (164, 0, 40)]
set_option maxRecDepth 100000 in
set_option maxHeartbeats 4000000 in
theorem ct_X12_counts_r125_52 {Dy : jH → Prop} {h0 : jH} {Q : Option Value → jH → Prop} (hD : jDk Dy) (hQ : ∀ (v : Int64) hx9, jJ jSgM Dy hx9 → jSm fp_X12_counts_r125 h0 hx9 → Q (some (.long v)) hx9) : ∀ (h : jH), jJ jSgM Dy h → jSm fp_X12_counts_r125 h0 h → jX m_X12_counts 12 0 0 52 [] [] h 0 0 Q := by
  intro  h    J Sm
  refine x_ldc2 (v := (-2000000000000)) rfl z_12_763 ?_
  refine x_lret rfl rfl ?_
  exact hQ _ _ J Sm
set_option maxRecDepth 100000 in
set_option maxHeartbeats 4000000 in
theorem ct_X12_counts_r125_166 {Dy : jH → Prop} {h0 : jH} {Q : Option Value → jH → Prop} (hD : jDk Dy) (hQ : ∀ (v : Int64) hx9, jJ jSgM Dy hx9 → jSm fp_X12_counts_r125 h0 hx9 → Q (some (.long v)) hx9) : ∀ (s0 : Int64) (h : jH), jJ jSgM Dy h → jSm fp_X12_counts_r125 h0 h → jX m_X12_counts 12 0 0 166 [] [.long s0] h 0 0 Q := by
  intro s0 h    J Sm
  have es0 := jfullL s0
  refine x_lret rfl rfl ?_
  exact hQ _ _ J Sm
set_option maxRecDepth 100000 in
set_option maxHeartbeats 4000000 in
theorem ct_X12_counts_r125_5000166 {Dy : jH → Prop} {h0 : jH} {Q : Option Value → jH → Prop} (hD : jDk Dy) (hQ : ∀ (v : Int64) hx9, jJ jSgM Dy hx9 → jSm fp_X12_counts_r125 h0 hx9 → Q (some (.long v)) hx9) : ∀ (h : jH), jJ jSgM Dy h → jSm fp_X12_counts_r125 h0 h → jX m_X12_counts 12 0 0 166 [] [.long (-2000000000000)] h 0 0 Q := by
  intro  h    J Sm
  refine x_lret rfl rfl ?_
  exact hQ _ _ J Sm
set_option maxRecDepth 100000 in
set_option maxHeartbeats 4000000 in
theorem ct_X12_counts_r125_115 {Dy : jH → Prop} {h0 : jH} {Q : Option Value → jH → Prop} (hD : jDk Dy) (hQ : ∀ (v : Int64) hx9, jJ jSgM Dy hx9 → jSm fp_X12_counts_r125 h0 hx9 → Q (some (.long v)) hx9) : ∀ (l3 : Int32) (l5 : Int32) (l6 : Int32) (s0 : Int32) (s1 : Int32) (h : jH), 0 ≤ l3.toInt ∧ l3.toInt ≤ 146399 → 0 ≤ l5.toInt ∧ l5.toInt ≤ 2 → 0 ≤ l6.toInt ∧ l6.toInt ≤ 599 → 0 ≤ s0.toInt ∧ s0.toInt ≤ 2 → 3 ≤ s1.toInt ∧ s1.toInt ≤ 7 → s1.toInt % 4 = 3 → jJ jSgM Dy h → jSm fp_X12_counts_r125 h0 h → jX m_X12_counts 12 0 0 115 [(0, .ref 125), (3, .int l3), (5, .int l5), (6, .int l6)] [.int s0, .int s1, .ref 125] h 0 0 Q := by
  intro l3 l5 l6 s0 s1 h y0 y1 y2 y3 y4 y5   J Sm
  refine x_iload (x := l6) rfl rfl ?_
  refine x_iloadn (x := l3) rfl rfl ?_
  refine x_inv (N := m_X12_findCount) (As := [.int s1, .int s0, .int l6, .int l3]) (b := 125) (st := []) (dx9 := 11) (mc := 0) (ms := 0) (host := "") 12 rfl t_X12_findCount ⟨Or.inl q_12_765, i_X12_findCount.1, i_X12_findCount.2⟩ ⟨by decide, rfl⟩ (congrArg Prod.fst (J.1.1 125 (12, 92) rfl)) rfl (by decide) rfl rfl ⟨by decide, by decide⟩ (sf_X12_findCount_r125 (jr_of rfl (by omega)) (jr_of rfl (by omega)) (jr_of rfl (by omega)) (jr_of rfl (by omega)) hD J  (fun h J S1 => ?_))
  have Sm := jSm_tr rfl Sm S1
  show jX m_X12_counts 12 0 0 121 [(0, .ref 125), (3, .int l3), (5, .int l5), (6, .int l6)] [] _ 0 0 _
  refine x_aloadn (x := 125) rfl rfl ?_
  refine z_getI (N := 92) 12 65 rfl f_12_752 rfl J rfl sg_125_65_66_1_0_1 (fun v2 qv2 ev2 => ?_)
  refine x_iconst (v := (-1)) rfl ki_m1 ?_
  refine x_icne (tgt := 135) rfl rfl (ti_ne rfl jk_m1 ⟨fun c3 => ?_, fun c3 => ?_⟩)
  ·
    refine x_iload (x := l5) rfl rfl ?_
    refine x_ifne (tgt := 147) rfl rfl (ti_ne rfl jk_0 ⟨fun c4 => ?_, fun c4 => ?_⟩)
    ·
      refine x_iload (x := l5) rfl rfl ?_
      refine x_iconst (v := 1) rfl ki_1 ?_
      refine x_icne (tgt := 161) rfl rfl (ti_ne rfl jk_1 ⟨fun c5 => ?_, fun c5 => ?_⟩)
      ·
        refine x_aloadn (x := 125) rfl rfl ?_
        refine z_getI0 (N := 92) 12 66 rfl f_12_758 rfl J rfl (fun v6 qv6 => ?_)
        have ev6 := jfull v6
        refine z_i2l rfl rfl (fun v7 ev7 => ?_)
        exact jX.sub jsb_n (ct_X12_counts_r125_166 hD hQ  v7 h J Sm)
      ·
        refine x_aloadn (x := 125) rfl rfl ?_
        refine z_getM (N := 92) (v := v2) 12 65 rfl f_12_752 rfl J rfl qv2 ?_
        refine z_i2l rfl rfl (fun v8 ev8 => ?_)
        refine x_goto (tgt := 166) rfl rfl ?_
        exact jX.sub jsb_n (ct_X12_counts_r125_166 hD hQ  v8 h J Sm)
    ·
      refine x_aloadn (x := 125) rfl rfl ?_
      refine z_getL0 (N := 92) 12 64 rfl f_12_755 rfl J rfl (fun v9 => ?_)
      have ev9 := jfullL v9
      refine x_goto (tgt := 166) rfl rfl ?_
      exact jX.sub jsb_n (ct_X12_counts_r125_166 hD hQ  v9 h J Sm)
  ·
    refine x_ldc2 (v := (-2000000000000)) rfl z_12_763 ?_
    refine x_goto (tgt := 166) rfl rfl ?_
    exact jX.sub jsb_n (ct_X12_counts_r125_5000166 hD hQ  h J Sm)
set_option maxRecDepth 100000 in
set_option maxHeartbeats 4000000 in
theorem ct_X12_counts_r125_200115 {Dy : jH → Prop} {h0 : jH} {Q : Option Value → jH → Prop} (hD : jDk Dy) (hQ : ∀ (v : Int64) hx9, jJ jSgM Dy hx9 → jSm fp_X12_counts_r125 h0 hx9 → Q (some (.long v)) hx9) : ∀ (l3 : Int32) (l5 : Int32) (l6 : Int32) (s1 : Int32) (h : jH), 0 ≤ l3.toInt ∧ l3.toInt ≤ 146399 → 0 ≤ l5.toInt ∧ l5.toInt ≤ 2 → 0 ≤ l6.toInt ∧ l6.toInt ≤ 599 → 4 ≤ s1.toInt ∧ s1.toInt ≤ 8 → s1.toInt % 4 = 0 → jJ jSgM Dy h → jSm fp_X12_counts_r125 h0 h → jX m_X12_counts 12 0 0 115 [(0, .ref 125), (3, .int l3), (5, .int l5), (6, .int l6)] [.int 0, .int s1, .ref 125] h 0 0 Q := by
  intro l3 l5 l6 s1 h y0 y1 y2 y3 y4   J Sm
  refine x_iload (x := l6) rfl rfl ?_
  refine x_iloadn (x := l3) rfl rfl ?_
  refine x_inv (N := m_X12_findCount) (As := [.int s1, .int 0, .int l6, .int l3]) (b := 125) (st := []) (dx9 := 11) (mc := 0) (ms := 0) (host := "") 12 rfl t_X12_findCount ⟨Or.inl q_12_765, i_X12_findCount.1, i_X12_findCount.2⟩ ⟨by decide, rfl⟩ (congrArg Prod.fst (J.1.1 125 (12, 92) rfl)) rfl (by decide) rfl rfl ⟨by decide, by decide⟩ (sf_X12_findCount_r125 (jr_of rfl (by omega)) (jr_of jk_0 (by omega)) (jr_of rfl (by omega)) (jr_of rfl (by omega)) hD J  (fun h J S1 => ?_))
  have Sm := jSm_tr rfl Sm S1
  show jX m_X12_counts 12 0 0 121 [(0, .ref 125), (3, .int l3), (5, .int l5), (6, .int l6)] [] _ 0 0 _
  refine x_aloadn (x := 125) rfl rfl ?_
  refine z_getI (N := 92) 12 65 rfl f_12_752 rfl J rfl sg_125_65_66_1_0_1 (fun v2 qv2 ev2 => ?_)
  refine x_iconst (v := (-1)) rfl ki_m1 ?_
  refine x_icne (tgt := 135) rfl rfl (ti_ne rfl jk_m1 ⟨fun c3 => ?_, fun c3 => ?_⟩)
  ·
    refine x_iload (x := l5) rfl rfl ?_
    refine x_ifne (tgt := 147) rfl rfl (ti_ne rfl jk_0 ⟨fun c4 => ?_, fun c4 => ?_⟩)
    ·
      refine x_iload (x := l5) rfl rfl ?_
      refine x_iconst (v := 1) rfl ki_1 ?_
      refine x_icne (tgt := 161) rfl rfl (ti_ne rfl jk_1 ⟨fun c5 => ?_, fun c5 => ?_⟩)
      ·
        refine x_aloadn (x := 125) rfl rfl ?_
        refine z_getI0 (N := 92) 12 66 rfl f_12_758 rfl J rfl (fun v6 qv6 => ?_)
        have ev6 := jfull v6
        refine z_i2l rfl rfl (fun v7 ev7 => ?_)
        exact jX.sub jsb_n (ct_X12_counts_r125_166 hD hQ  v7 h J Sm)
      ·
        refine x_aloadn (x := 125) rfl rfl ?_
        refine z_getM (N := 92) (v := v2) 12 65 rfl f_12_752 rfl J rfl qv2 ?_
        refine z_i2l rfl rfl (fun v8 ev8 => ?_)
        refine x_goto (tgt := 166) rfl rfl ?_
        exact jX.sub jsb_n (ct_X12_counts_r125_166 hD hQ  v8 h J Sm)
    ·
      refine x_aloadn (x := 125) rfl rfl ?_
      refine z_getL0 (N := 92) 12 64 rfl f_12_755 rfl J rfl (fun v9 => ?_)
      have ev9 := jfullL v9
      refine x_goto (tgt := 166) rfl rfl ?_
      exact jX.sub jsb_n (ct_X12_counts_r125_166 hD hQ  v9 h J Sm)
  ·
    refine x_ldc2 (v := (-2000000000000)) rfl z_12_763 ?_
    refine x_goto (tgt := 166) rfl rfl ?_
    exact jX.sub jsb_n (ct_X12_counts_r125_5000166 hD hQ  h J Sm)
set_option maxRecDepth 100000 in
set_option maxHeartbeats 4000000 in
theorem ct_X12_counts_r125_1000114 {Dy : jH → Prop} {h0 : jH} {Q : Option Value → jH → Prop} (hD : jDk Dy) (hQ : ∀ (v : Int64) hx9, jJ jSgM Dy hx9 → jSm fp_X12_counts_r125 h0 hx9 → Q (some (.long v)) hx9) : ∀ (l3 : Int32) (l5 : Int32) (l6 : Int32) (h : jH), 0 ≤ l3.toInt ∧ l3.toInt ≤ 146399 → 0 ≤ l5.toInt ∧ l5.toInt ≤ 2 → 0 ≤ l6.toInt ∧ l6.toInt ≤ 599 → jJ jSgM Dy h → jSm fp_X12_counts_r125 h0 h → jX m_X12_counts 12 0 0 114 [(0, .ref 125), (3, .int l3), (5, .int l5), (6, .int l6)] [.int 8, .ref 125] h 0 0 Q := by
  intro l3 l5 l6 h y0 y1 y2   J Sm
  refine x_iconst (v := 0) rfl ki_0 ?_
  exact jX.sub (jsb_c rfl (jsb_c rfl (jsb_c rfl (jsb_c rfl jsb_n)))) (ct_X12_counts_r125_200115 hD hQ  l3 l5 l6 8 h (jr_of rfl (by omega)) (jr_of rfl (by omega)) (jr_of rfl (by omega)) (jr_of jk_8 (by omega)) (jr_mod jk_8 (by omega)) J Sm)
set_option maxRecDepth 100000 in
set_option maxHeartbeats 4000000 in
theorem ct_X12_counts_r125_600114 {Dy : jH → Prop} {h0 : jH} {Q : Option Value → jH → Prop} (hD : jDk Dy) (hQ : ∀ (v : Int64) hx9, jJ jSgM Dy hx9 → jSm fp_X12_counts_r125 h0 hx9 → Q (some (.long v)) hx9) : ∀ (l3 : Int32) (l5 : Int32) (l6 : Int32) (h : jH), 0 ≤ l3.toInt ∧ l3.toInt ≤ 146399 → 0 ≤ l5.toInt ∧ l5.toInt ≤ 2 → 0 ≤ l6.toInt ∧ l6.toInt ≤ 599 → jJ jSgM Dy h → jSm fp_X12_counts_r125 h0 h → jX m_X12_counts 12 0 0 114 [(0, .ref 125), (3, .int l3), (5, .int l5), (6, .int l6)] [.int 4, .ref 125] h 0 0 Q := by
  intro l3 l5 l6 h y0 y1 y2   J Sm
  refine x_iconst (v := 0) rfl ki_0 ?_
  exact jX.sub (jsb_c rfl (jsb_c rfl (jsb_c rfl (jsb_c rfl jsb_n)))) (ct_X12_counts_r125_200115 hD hQ  l3 l5 l6 4 h (jr_of rfl (by omega)) (jr_of rfl (by omega)) (jr_of rfl (by omega)) (jr_of jk_4 (by omega)) (jr_mod jk_4 (by omega)) J Sm)
set_option maxRecDepth 100000 in
set_option maxHeartbeats 4000000 in
theorem ct_X12_counts_r125_1000088 {Dy : jH → Prop} {h0 : jH} {Q : Option Value → jH → Prop} (hD : jDk Dy) (hQ : ∀ (v : Int64) hx9, jJ jSgM Dy hx9 → jSm fp_X12_counts_r125 h0 hx9 → Q (some (.long v)) hx9) : ∀ (l1 : Int32) (l3 : Int32) (l5 : Int32) (l6 : Int32) (h : jH), 7 ≤ l1.toInt ∧ l1.toInt ≤ 7 → 0 ≤ l3.toInt ∧ l3.toInt ≤ 146399 → 0 ≤ l5.toInt ∧ l5.toInt ≤ 2 → 0 ≤ l6.toInt ∧ l6.toInt ≤ 599 → jJ jSgM Dy h → jSm fp_X12_counts_r125 h0 h → jX m_X12_counts 12 0 0 88 [(0, .ref 125), (1, .int l1), (3, .int l3), (5, .int l5), (6, .int l6)] [.int 8, .ref 125] h 0 0 Q := by
  intro l1 l3 l5 l6 h y0 y1 y2 y3   J Sm
  refine x_iloadn (x := l1) rfl rfl ?_
  refine x_iconst (v := 3) rfl ki_3 ?_
  refine x_icge (tgt := 97) rfl rfl (ti_ge rfl jk_3 (br_t (by omega) ?_))
  refine x_iloadn (x := l1) rfl rfl ?_
  refine x_iconst (v := 3) rfl ki_3 ?_
  refine x_icle (tgt := 114) rfl rfl (ti_le rfl jk_3 (br_f (by omega) ?_))
  refine x_iloadn (x := l1) rfl rfl ?_
  refine x_bipush (v := 7) rfl kb_7 ?_
  refine x_icge (tgt := 114) rfl rfl (ti_ge rfl jk_7 (br_t (by omega) ?_))
  exact jX.sub (jsb_c rfl (jsb_c rfl (jsb_c rfl (jsb_c rfl jsb_n)))) (ct_X12_counts_r125_1000114 hD hQ  l3 l5 l6 h (jr_of rfl (by omega)) (jr_of rfl (by omega)) (jr_of rfl (by omega)) J Sm)
set_option maxRecDepth 100000 in
set_option maxHeartbeats 4000000 in
theorem ct_X12_counts_r125_900088 {Dy : jH → Prop} {h0 : jH} {Q : Option Value → jH → Prop} (hD : jDk Dy) (hQ : ∀ (v : Int64) hx9, jJ jSgM Dy hx9 → jSm fp_X12_counts_r125 h0 hx9 → Q (some (.long v)) hx9) : ∀ (l1 : Int32) (l3 : Int32) (l5 : Int32) (l6 : Int32) (h : jH), 4 ≤ l1.toInt ∧ l1.toInt ≤ 6 → 0 ≤ l3.toInt ∧ l3.toInt ≤ 146399 → 0 ≤ l5.toInt ∧ l5.toInt ≤ 2 → 0 ≤ l6.toInt ∧ l6.toInt ≤ 599 → jJ jSgM Dy h → jSm fp_X12_counts_r125 h0 h → jX m_X12_counts 12 0 0 88 [(0, .ref 125), (1, .int l1), (3, .int l3), (5, .int l5), (6, .int l6)] [.int 7, .ref 125] h 0 0 Q := by
  intro l1 l3 l5 l6 h y0 y1 y2 y3   J Sm
  refine x_iloadn (x := l1) rfl rfl ?_
  refine x_iconst (v := 3) rfl ki_3 ?_
  refine x_icge (tgt := 97) rfl rfl (ti_ge rfl jk_3 (br_t (by omega) ?_))
  refine x_iloadn (x := l1) rfl rfl ?_
  refine x_iconst (v := 3) rfl ki_3 ?_
  refine x_icle (tgt := 114) rfl rfl (ti_le rfl jk_3 (br_f (by omega) ?_))
  refine x_iloadn (x := l1) rfl rfl ?_
  refine x_bipush (v := 7) rfl kb_7 ?_
  refine x_icge (tgt := 114) rfl rfl (ti_ge rfl jk_7 (br_f (by omega) ?_))
  refine x_iloadn (x := l1) rfl rfl ?_
  refine x_iconst (v := 4) rfl ki_4 ?_
  refine z_isub rfl rfl jk_4 (by omega) (fun v1 ev1 => ?_)
  refine x_goto (tgt := 115) rfl rfl ?_
  exact jX.sub (jsb_c rfl (jsb_c rfl (jsb_c rfl (jsb_c rfl jsb_n)))) (ct_X12_counts_r125_115 hD hQ  l3 l5 l6 v1 7 h (jr_of rfl (by omega)) (jr_of rfl (by omega)) (jr_of rfl (by omega)) (jr_of rfl (by omega)) (jr_of jk_7 (by omega)) (jr_mod jk_7 (by omega)) J Sm)
set_option maxRecDepth 100000 in
set_option maxHeartbeats 4000000 in
theorem ct_X12_counts_r125_600088 {Dy : jH → Prop} {h0 : jH} {Q : Option Value → jH → Prop} (hD : jDk Dy) (hQ : ∀ (v : Int64) hx9, jJ jSgM Dy hx9 → jSm fp_X12_counts_r125 h0 hx9 → Q (some (.long v)) hx9) : ∀ (l1 : Int32) (l3 : Int32) (l5 : Int32) (l6 : Int32) (h : jH), 3 ≤ l1.toInt ∧ l1.toInt ≤ 3 → 0 ≤ l3.toInt ∧ l3.toInt ≤ 146399 → 0 ≤ l5.toInt ∧ l5.toInt ≤ 2 → 0 ≤ l6.toInt ∧ l6.toInt ≤ 599 → jJ jSgM Dy h → jSm fp_X12_counts_r125 h0 h → jX m_X12_counts 12 0 0 88 [(0, .ref 125), (1, .int l1), (3, .int l3), (5, .int l5), (6, .int l6)] [.int 4, .ref 125] h 0 0 Q := by
  intro l1 l3 l5 l6 h y0 y1 y2 y3   J Sm
  refine x_iloadn (x := l1) rfl rfl ?_
  refine x_iconst (v := 3) rfl ki_3 ?_
  refine x_icge (tgt := 97) rfl rfl (ti_ge rfl jk_3 (br_t (by omega) ?_))
  refine x_iloadn (x := l1) rfl rfl ?_
  refine x_iconst (v := 3) rfl ki_3 ?_
  refine x_icle (tgt := 114) rfl rfl (ti_le rfl jk_3 (br_t (by omega) ?_))
  exact jX.sub (jsb_c rfl (jsb_c rfl (jsb_c rfl (jsb_c rfl jsb_n)))) (ct_X12_counts_r125_600114 hD hQ  l3 l5 l6 h (jr_of rfl (by omega)) (jr_of rfl (by omega)) (jr_of rfl (by omega)) J Sm)
set_option maxRecDepth 100000 in
set_option maxHeartbeats 4000000 in
theorem ct_X12_counts_r125_500088 {Dy : jH → Prop} {h0 : jH} {Q : Option Value → jH → Prop} (hD : jDk Dy) (hQ : ∀ (v : Int64) hx9, jJ jSgM Dy hx9 → jSm fp_X12_counts_r125 h0 hx9 → Q (some (.long v)) hx9) : ∀ (l1 : Int32) (l3 : Int32) (l5 : Int32) (l6 : Int32) (h : jH), 0 ≤ l1.toInt ∧ l1.toInt ≤ 2 → 0 ≤ l3.toInt ∧ l3.toInt ≤ 146399 → 0 ≤ l5.toInt ∧ l5.toInt ≤ 2 → 0 ≤ l6.toInt ∧ l6.toInt ≤ 599 → jJ jSgM Dy h → jSm fp_X12_counts_r125 h0 h → jX m_X12_counts 12 0 0 88 [(0, .ref 125), (1, .int l1), (3, .int l3), (5, .int l5), (6, .int l6)] [.int 3, .ref 125] h 0 0 Q := by
  intro l1 l3 l5 l6 h y0 y1 y2 y3   J Sm
  refine x_iloadn (x := l1) rfl rfl ?_
  refine x_iconst (v := 3) rfl ki_3 ?_
  refine x_icge (tgt := 97) rfl rfl (ti_ge rfl jk_3 (br_f (by omega) ?_))
  refine x_iloadn (x := l1) rfl rfl ?_
  refine x_goto (tgt := 115) rfl rfl ?_
  exact jX.sub (jsb_c rfl (jsb_c rfl (jsb_c rfl (jsb_c rfl jsb_n)))) (ct_X12_counts_r125_115 hD hQ  l3 l5 l6 l1 3 h (jr_of rfl (by omega)) (jr_of rfl (by omega)) (jr_of rfl (by omega)) (jr_of rfl (by omega)) (jr_of jk_3 (by omega)) (jr_mod jk_3 (by omega)) J Sm)
set_option maxRecDepth 100000 in
set_option maxHeartbeats 4000000 in
theorem sf_X12_counts_r125 {Dy : jH → Prop} {h : jH} {Q : Option Value → jH → Prop} {a1 : Int32} {a2 : Int32} {a3 : Int32} {a4 : Int32} {a5 : Int32} (hD : jDk Dy) (J : jJ jSgM Dy h) (hQ : ∀ (v : Int64) hx9, jJ jSgM Dy hx9 → jSm fp_X12_counts_r125 h hx9 → Q (some (.long v)) hx9) : jC m_X12_counts 12 0 0 [.ref 125, .int a1, .int a2, .int a3, .int a4, .int a5] h Q := by
  refine jC.of rfl k_X12_counts rfl ?_
  have Sm := jSm_rf fp_X12_counts_r125 h
  have ea1 := jfull a1
  have ea2 := jfull a2
  have ea3 := jfull a3
  have ea4 := jfull a4
  have ea5 := jfull a5
  show jX m_X12_counts 12 0 0 0 [(0, .ref 125), (1, .int a1), (2, .int a2), (3, .int a3), (4, .int a4), (5, .int a5)] [] _ 0 0 _
  refine x_aloadn (x := 125) rfl rfl ?_
  refine x_iconst (v := 0) rfl ki_0 ?_
  refine z_putI (N := 92) (w := 0) 12 0 rfl f_12_180 rfl (jfin_no TX12 RX12 92 rfl rfl) hD J Sm rfl rfl jk_0 (pw_125_0 (by omega)) rfl (fun h w1 J Sm => ?_)
  refine x_aloadn (x := 125) rfl rfl ?_
  refine x_iloadn (x := a2) rfl rfl ?_
  refine x_iload (x := a4) rfl rfl ?_
  refine x_inv (N := m_X12_soulAt) (As := [.int a2, .int a4]) (b := 125) (st := []) (dx9 := 11) (mc := 0) (ms := 0) (host := "") 12 rfl t_X12_soulAt ⟨Or.inl q_12_399, i_X12_soulAt.1, i_X12_soulAt.2⟩ ⟨by decide, rfl⟩ (congrArg Prod.fst (J.1.1 125 (12, 92) rfl)) rfl (by decide) rfl rfl ⟨by decide, by decide⟩ (jC.of rfl k_X12_soulAt rfl ?_)
  show jX m_X12_soulAt 11 0 0 0 [(0, .ref 125), (1, .int a2), (2, .int a4)] [] _ 0 0 _
  refine x_aloadn (x := 125) rfl rfl ?_
  refine x_iloadn (x := a2) rfl rfl ?_
  refine x_inv (N := m_X12_isMention) (As := [.int a2]) (b := 125) (st := []) (dx9 := 10) (mc := 0) (ms := 0) (host := "") 12 rfl t_X12_isMention ⟨Or.inl q_12_322, i_X12_isMention.1, i_X12_isMention.2⟩ ⟨by decide, rfl⟩ (congrArg Prod.fst (J.1.1 125 (12, 92) rfl)) rfl (by decide) rfl rfl ⟨by decide, by decide⟩ (jC.of rfl k_X12_isMention rfl ?_)
  show jX m_X12_isMention 10 0 0 0 [(0, .ref 125), (1, .int a2)] [] _ 0 0 _
  refine x_iloadn (x := a2) rfl rfl ?_
  refine x_iflt (tgt := 34) rfl rfl (ti_lt rfl jk_0 ⟨fun c2 => ?_, fun c2 => ?_⟩)
  ·
    refine x_iconst (v := 0) rfl ki_0 ?_
    refine x_zret rfl rfl (by decide) ?_
    show jX m_X12_soulAt 11 0 0 5 [(0, .ref 125), (1, .int a2), (2, .int a4)] [.int 0] _ 0 0 _
    refine x_ifeq (tgt := 15) rfl rfl (ti_eq jk_0 jk_0 (br_t (by omega) ?_))
    refine x_iconst (v := (-1)) rfl ki_m1 ?_
    refine x_iret rfl rfl ?_
    show jX m_X12_counts 12 0 0 12 [(0, .ref 125), (1, .int a1), (2, .int a2), (3, .int a3), (4, .int a4), (5, .int a5)] [.int (-1)] _ 0 0 _
    refine x_istore (lsx9 := [(6, .int (-1)), (0, .ref 125), (1, .int a1), (2, .int a2), (3, .int a3), (4, .int a4), (5, .int a5)]) rfl rfl rfl ?_
    refine x_iload (x := (-1)) rfl rfl ?_
    refine x_iconst (v := (-1)) rfl ki_m1 ?_
    refine x_iceq (tgt := 52) rfl rfl (ti_eq jk_m1 jk_m1 (br_t (by omega) ?_))
    exact jX.sub jsb_n (ct_X12_counts_r125_52 hD hQ  h J Sm)
  ·
    refine x_aloadn (x := 125) rfl rfl ?_
    refine x_iloadn (x := a2) rfl rfl ?_
    refine x_iconst (v := 3) rfl ki_3 ?_
    refine z_idiv rfl rfl jk_3 (by omega) (by omega) (fun v3 ev3 => ?_)
    refine x_inv (N := m_X12_isLine) (As := [.int v3]) (b := 125) (st := []) (dx9 := 9) (mc := 0) (ms := 0) (host := "") 12 rfl t_X12_isLine ⟨Or.inl q_12_293, i_X12_isLine.1, i_X12_isLine.2⟩ ⟨by decide, rfl⟩ (congrArg Prod.fst (J.1.1 125 (12, 92) rfl)) rfl (by decide) rfl rfl ⟨by decide, by decide⟩ (jC.of rfl k_X12_isLine rfl ?_)
    show jX m_X12_isLine 9 0 0 0 [(0, .ref 125), (1, .int v3)] [] _ 0 0 _
    refine x_iloadn (x := v3) rfl rfl ?_
    refine z_i2l rfl rfl (fun v4 ev4 => ?_)
    refine x_lconst (v := 0) rfl kl_0 ?_
    refine x_aloadn (x := 125) rfl rfl ?_
    refine z_getR (N := 92) (b := 126) 12 2 rfl f_12_8 rfl J rfl 16002 ⟨rfl, rfl⟩ rfl ?_
    refine x_iconst (v := 0) rfl ki_0 ?_
    refine z_iald (N := 50660) rfl J rfl sg_126_0_1_1_0_1 jk_0 (by omega) (fun v5 qv5 ev5 => ?_)
    refine z_i2l rfl rfl (fun v6 ev6 => ?_)
    refine x_lconst (v := 1) rfl kl_1 ?_
    refine z_lsub rfl rfl jkl_1 (by omega) (fun v7 ev7 => ?_)
    refine x_inst (N := m_X12_in) (As := [.long v4, .long 0, .long v7]) (st := []) (dx9 := 1) (mc := 0) (ms := 0) (host := "") rfl t_X12_in ⟨Or.inl q_12_188, s_X12_in⟩ rfl (by decide) rfl rfl ⟨by decide, by decide⟩ (zc_X12_in rfl jkl_0 rfl (fun v8 ev8 => ?_))
    show jX m_X12_isLine 9 0 0 15 [(0, .ref 125), (1, .int v3)] [.int v8] _ 0 0 _
    refine x_zret rfl rfl (jz01 (by omega)) ?_
    show jX m_X12_isMention 10 0 0 11 [(0, .ref 125), (1, .int a2)] [.int v8] _ 0 0 _
    refine x_ifeq (tgt := 34) rfl rfl (ti_eq rfl jk_0 ⟨fun c9 => ?_, fun c9 => ?_⟩)
    ·
      refine x_iconst (v := 0) rfl ki_0 ?_
      refine x_zret rfl rfl (by decide) ?_
      show jX m_X12_soulAt 11 0 0 5 [(0, .ref 125), (1, .int a2), (2, .int a4)] [.int 0] _ 0 0 _
      refine x_ifeq (tgt := 15) rfl rfl (ti_eq jk_0 jk_0 (br_t (by omega) ?_))
      refine x_iconst (v := (-1)) rfl ki_m1 ?_
      refine x_iret rfl rfl ?_
      show jX m_X12_counts 12 0 0 12 [(0, .ref 125), (1, .int a1), (2, .int a2), (3, .int a3), (4, .int a4), (5, .int a5)] [.int (-1)] _ 0 0 _
      refine x_istore (lsx9 := [(6, .int (-1)), (0, .ref 125), (1, .int a1), (2, .int a2), (3, .int a3), (4, .int a4), (5, .int a5)]) rfl rfl rfl ?_
      refine x_iload (x := (-1)) rfl rfl ?_
      refine x_iconst (v := (-1)) rfl ki_m1 ?_
      refine x_iceq (tgt := 52) rfl rfl (ti_eq jk_m1 jk_m1 (br_t (by omega) ?_))
      exact jX.sub jsb_n (ct_X12_counts_r125_52 hD hQ  h J Sm)
    ·
      refine x_iloadn (x := a2) rfl rfl ?_
      refine x_iconst (v := 3) rfl ki_3 ?_
      refine z_irem rfl rfl jk_3 (by omega) (by omega) (fun v10 ev10 => ?_)
      refine x_aloadn (x := 125) rfl rfl ?_
      refine x_iloadn (x := a2) rfl rfl ?_
      refine x_iconst (v := 3) rfl ki_3 ?_
      refine z_idiv rfl rfl jk_3 (by omega) (by omega) (fun v11 ev11 => ?_)
      refine x_inv (N := m_X12_bookOf) (As := [.int v11]) (b := 125) (st := [.int v10]) (dx9 := 9) (mc := 0) (ms := 0) (host := "") 12 rfl t_X12_bookOf ⟨Or.inl q_12_299, i_X12_bookOf.1, i_X12_bookOf.2⟩ ⟨by decide, rfl⟩ (congrArg Prod.fst (J.1.1 125 (12, 92) rfl)) rfl (by decide) rfl rfl ⟨by decide, by decide⟩ (jC.of rfl k_X12_bookOf rfl ?_)
      show jX m_X12_bookOf 9 0 0 0 [(0, .ref 125), (1, .int v11)] [] _ 0 0 _
      refine x_aloadn (x := 125) rfl rfl ?_
      refine z_getR (N := 92) (b := 126) 12 2 rfl f_12_8 rfl J rfl 16002 ⟨rfl, rfl⟩ rfl ?_
      refine x_aloadn (x := 125) rfl rfl ?_
      refine x_iloadn (x := v11) rfl rfl ?_
      refine x_inv (N := m_X12_at) (As := [.int v11]) (b := 125) (st := [.ref 126]) (dx9 := 8) (mc := 0) (ms := 0) (host := "") 12 rfl t_X12_at ⟨Or.inl q_12_254, i_X12_at.1, i_X12_at.2⟩ ⟨by decide, rfl⟩ (congrArg Prod.fst (J.1.1 125 (12, 92) rfl)) rfl (by decide) rfl rfl ⟨by decide, by decide⟩ (jC.of rfl k_X12_at rfl ?_)
      show jX m_X12_at 8 0 0 0 [(0, .ref 125), (1, .int v11)] [] _ 0 0 _
      refine x_bipush (v := 20) rfl kb_20 ?_
      refine x_bipush (v := 90) rfl kb_90 ?_
      refine x_iloadn (x := v11) rfl rfl ?_
      refine z_imul rfl jk_90 rfl (by omega) (fun v12 ev12 => ?_)
      refine z_iadd rfl jk_20 rfl (by omega) (fun v13 ev13 => ?_)
      refine x_iret rfl rfl ?_
      show jX m_X12_bookOf 9 0 0 9 [(0, .ref 125), (1, .int v11)] [.int v13, .ref 126] _ 0 0 _
      refine z_iald (N := 50660) rfl J rfl sg_126_20_18020_90_0_1 rfl (by omega) (fun v14 qv14 ev14 => ?_)
      refine x_iret rfl rfl ?_
      show jX m_X12_isMention 10 0 0 24 [(0, .ref 125), (1, .int a2)] [.int v14, .int v10] _ 0 0 _
      refine x_inst (N := m_X12_rolesOf) (As := [.int v14]) (st := [.int v10]) (dx9 := 9) (mc := 0) (ms := 0) (host := "") rfl t_X12_rolesOf ⟨Or.inl q_12_286, s_X12_rolesOf⟩ rfl (by decide) rfl rfl ⟨by decide, by decide⟩ (jC.of rfl k_X12_rolesOf rfl ?_)
      show jX m_X12_rolesOf 9 0 0 0 [(0, .int v14)] [] _ 0 0 _
      refine x_iloadn (x := v14) rfl rfl ?_
      refine x_ifne (tgt := 8) rfl rfl (ti_ne rfl jk_0 ⟨fun c15 => ?_, fun c15 => ?_⟩)
      ·
        refine x_iloadn (x := v14) rfl rfl ?_
        refine x_iconst (v := 1) rfl ki_1 ?_
        refine x_icne (tgt := 17) rfl rfl (ti_ne rfl jk_1 ⟨fun c16 => ?_, fun c16 => ?_⟩)
        ·
          refine x_iconst (v := 1) rfl ki_1 ?_
          refine x_iret rfl rfl ?_
          show jX m_X12_isMention 10 0 0 27 [(0, .ref 125), (1, .int a2)] [.int 1, .int v10] _ 0 0 _
          refine x_icge (tgt := 34) rfl rfl (ti_ge rfl jk_1 ⟨fun c17 => ?_, fun c17 => ?_⟩)
          ·
            refine x_iconst (v := 0) rfl ki_0 ?_
            refine x_zret rfl rfl (by decide) ?_
            show jX m_X12_soulAt 11 0 0 5 [(0, .ref 125), (1, .int a2), (2, .int a4)] [.int 0] _ 0 0 _
            refine x_ifeq (tgt := 15) rfl rfl (ti_eq jk_0 jk_0 (br_t (by omega) ?_))
            refine x_iconst (v := (-1)) rfl ki_m1 ?_
            refine x_iret rfl rfl ?_
            show jX m_X12_counts 12 0 0 12 [(0, .ref 125), (1, .int a1), (2, .int a2), (3, .int a3), (4, .int a4), (5, .int a5)] [.int (-1)] _ 0 0 _
            refine x_istore (lsx9 := [(6, .int (-1)), (0, .ref 125), (1, .int a1), (2, .int a2), (3, .int a3), (4, .int a4), (5, .int a5)]) rfl rfl rfl ?_
            refine x_iload (x := (-1)) rfl rfl ?_
            refine x_iconst (v := (-1)) rfl ki_m1 ?_
            refine x_iceq (tgt := 52) rfl rfl (ti_eq jk_m1 jk_m1 (br_t (by omega) ?_))
            exact jX.sub jsb_n (ct_X12_counts_r125_52 hD hQ  h J Sm)
          ·
            refine x_iconst (v := 1) rfl ki_1 ?_
            refine x_goto (tgt := 35) rfl rfl ?_
            refine x_zret rfl rfl (by decide) ?_
            show jX m_X12_soulAt 11 0 0 5 [(0, .ref 125), (1, .int a2), (2, .int a4)] [.int 1] _ 0 0 _
            refine x_ifeq (tgt := 15) rfl rfl (ti_eq jk_1 jk_0 (br_f (by omega) ?_))
            refine x_iloadn (x := a4) rfl rfl ?_
            refine x_inst (N := m_X12_isDay) (As := [.int a4]) (st := []) (dx9 := 2) (mc := 0) (ms := 0) (host := "") rfl t_X12_isDay ⟨Or.inl q_12_273, s_X12_isDay⟩ rfl (by decide) rfl rfl ⟨by decide, by decide⟩ (zc_X12_isDay (d := 1) rfl (fun v18 ev18 => ?_))
            show jX m_X12_soulAt 11 0 0 12 [(0, .ref 125), (1, .int a2), (2, .int a4)] [.int v18] _ 0 0 _
            refine x_ifne (tgt := 17) rfl rfl (ti_ne rfl jk_0 ⟨fun c19 => ?_, fun c19 => ?_⟩)
            ·
              refine x_aloadn (x := 125) rfl rfl ?_
              refine x_iloadn (x := a4) rfl rfl ?_
              refine x_inv (N := m_X12_find) (As := [.int a4]) (b := 125) (st := []) (dx9 := 8) (mc := 0) (ms := 0) (host := "") 12 rfl t_X12_find ⟨Or.inl q_12_393, i_X12_find.1, i_X12_find.2⟩ ⟨by decide, rfl⟩ (congrArg Prod.fst (J.1.1 125 (12, 92) rfl)) rfl (by decide) rfl rfl ⟨by decide, by decide⟩ (sf_X12_find_r125 (jr_of rfl (by omega)) hD J  (fun h J S20 => ?_))
              have Sm := jSm_tr rfl Sm S20
              show jX m_X12_soulAt 11 0 0 22 [(0, .ref 125), (1, .int a2), (2, .int a4)] [] _ 0 0 _
              refine x_aloadn (x := 125) rfl rfl ?_
              refine z_getR (N := 92) (b := 139) 12 29 rfl f_12_72 rfl J rfl 16029 ⟨rfl, rfl⟩ rfl ?_
              refine x_iloadn (x := a2) rfl rfl ?_
              refine z_iald (N := 600) rfl J rfl sg_139_0_600_1_0_1 rfl (by omega) (fun v21 qv21 ev21 => ?_)
              refine x_iret rfl rfl ?_
              show jX m_X12_counts 12 0 0 12 [(0, .ref 125), (1, .int a1), (2, .int a2), (3, .int a3), (4, .int a4), (5, .int a5)] [.int v21] _ 0 0 _
              refine x_istore (lsx9 := [(6, .int v21), (0, .ref 125), (1, .int a1), (2, .int a2), (3, .int a3), (4, .int a4), (5, .int a5)]) rfl rfl rfl ?_
              refine x_iload (x := v21) rfl rfl ?_
              refine x_iconst (v := (-1)) rfl ki_m1 ?_
              refine x_iceq (tgt := 52) rfl rfl (ti_eq rfl jk_m1 ⟨fun c22 => ?_, fun c22 => ?_⟩)
              ·
                exact jX.sub jsb_n (ct_X12_counts_r125_52 hD hQ  h J Sm)
              ·
                refine x_iloadn (x := a1) rfl rfl ?_
                refine z_i2l rfl rfl (fun v23 ev23 => ?_)
                refine x_lconst (v := 0) rfl kl_0 ?_
                refine x_ldc2 (v := 7) rfl z_12_761 ?_
                refine x_inst (N := m_X12_in) (As := [.long v23, .long 0, .long 7]) (st := []) (dx9 := 1) (mc := 0) (ms := 0) (host := "") rfl t_X12_in ⟨Or.inl q_12_188, s_X12_in⟩ rfl (by decide) rfl rfl ⟨by decide, by decide⟩ (zc_X12_in rfl jkl_0 jkl_7 (fun v24 ev24 => ?_))
                show jX m_X12_counts 12 0 0 29 [(6, .int v21), (0, .ref 125), (1, .int a1), (2, .int a2), (3, .int a3), (4, .int a4), (5, .int a5)] [.int v24] _ 0 0 _
                refine x_ifeq (tgt := 52) rfl rfl (ti_eq rfl jk_0 ⟨fun c25 => ?_, fun c25 => ?_⟩)
                ·
                  exact jX.sub jsb_n (ct_X12_counts_r125_52 hD hQ  h J Sm)
                ·
                  refine x_iloadn (x := a3) rfl rfl ?_
                  refine x_inst (N := m_X12_isDay) (As := [.int a3]) (st := []) (dx9 := 2) (mc := 0) (ms := 0) (host := "") rfl t_X12_isDay ⟨Or.inl q_12_273, s_X12_isDay⟩ rfl (by decide) rfl rfl ⟨by decide, by decide⟩ (zc_X12_isDay (d := 1) rfl (fun v26 ev26 => ?_))
                  show jX m_X12_counts 12 0 0 36 [(6, .int v21), (0, .ref 125), (1, .int a1), (2, .int a2), (3, .int a3), (4, .int a4), (5, .int a5)] [.int v26] _ 0 0 _
                  refine x_ifeq (tgt := 52) rfl rfl (ti_eq rfl jk_0 ⟨fun c27 => ?_, fun c27 => ?_⟩)
                  ·
                    exact jX.sub jsb_n (ct_X12_counts_r125_52 hD hQ  h J Sm)
                  ·
                    refine x_iload (x := a5) rfl rfl ?_
                    refine z_i2l rfl rfl (fun v28 ev28 => ?_)
                    refine x_lconst (v := 0) rfl kl_0 ?_
                    refine x_ldc2 (v := 2) rfl z_12_482 ?_
                    refine x_inst (N := m_X12_in) (As := [.long v28, .long 0, .long 2]) (st := []) (dx9 := 1) (mc := 0) (ms := 0) (host := "") rfl t_X12_in ⟨Or.inl q_12_188, s_X12_in⟩ rfl (by decide) rfl rfl ⟨by decide, by decide⟩ (zc_X12_in rfl jkl_0 jkl_2 (fun v29 ev29 => ?_))
                    show jX m_X12_counts 12 0 0 49 [(6, .int v21), (0, .ref 125), (1, .int a1), (2, .int a2), (3, .int a3), (4, .int a4), (5, .int a5)] [.int v29] _ 0 0 _
                    refine x_ifne (tgt := 56) rfl rfl (ti_ne rfl jk_0 ⟨fun c30 => ?_, fun c30 => ?_⟩)
                    ·
                      refine x_aloadn (x := 125) rfl rfl ?_
                      refine x_iloadn (x := a1) rfl rfl ?_
                      refine x_iconst (v := 3) rfl ki_3 ?_
                      refine x_icge (tgt := 66) rfl rfl (ti_ge rfl jk_3 ⟨fun c31 => ?_, fun c31 => ?_⟩)
                      ·
                        refine x_iloadn (x := a1) rfl rfl ?_
                        refine x_iconst (v := 3) rfl ki_3 ?_
                        refine x_icne (tgt := 75) rfl rfl (ti_ne rfl jk_3 ⟨fun c32 => ?_, fun c32 => ?_⟩)
                        ·
                          refine x_iloadn (x := a1) rfl rfl ?_
                          refine x_bipush (v := 7) rfl kb_7 ?_
                          refine x_icge (tgt := 86) rfl rfl (ti_ge rfl jk_7 ⟨fun c33 => ?_, fun c33 => ?_⟩)
                          ·
                            refine x_bipush (v := 8) rfl kb_8 ?_
                            exact jX.sub (jsb_c rfl (jsb_c rfl (jsb_c rfl (jsb_c rfl (jsb_c rfl jsb_n))))) (ct_X12_counts_r125_1000088 hD hQ  a1 a3 a5 v21 h (jr_of rfl (by omega)) (jr_of rfl (by omega)) (jr_of rfl (by omega)) (jr_of rfl (by omega)) J Sm)
                          ·
                            refine x_bipush (v := 7) rfl kb_7 ?_
                            refine x_goto (tgt := 88) rfl rfl ?_
                            exact jX.sub (jsb_c rfl (jsb_c rfl (jsb_c rfl (jsb_c rfl (jsb_c rfl jsb_n))))) (ct_X12_counts_r125_900088 hD hQ  a1 a3 a5 v21 h (jr_of rfl (by omega)) (jr_of rfl (by omega)) (jr_of rfl (by omega)) (jr_of rfl (by omega)) J Sm)
                        ·
                          refine x_iconst (v := 4) rfl ki_4 ?_
                          refine x_goto (tgt := 88) rfl rfl ?_
                          exact jX.sub (jsb_c rfl (jsb_c rfl (jsb_c rfl (jsb_c rfl (jsb_c rfl jsb_n))))) (ct_X12_counts_r125_600088 hD hQ  a1 a3 a5 v21 h (jr_of rfl (by omega)) (jr_of rfl (by omega)) (jr_of rfl (by omega)) (jr_of rfl (by omega)) J Sm)
                      ·
                        refine x_iconst (v := 3) rfl ki_3 ?_
                        refine x_goto (tgt := 88) rfl rfl ?_
                        exact jX.sub (jsb_c rfl (jsb_c rfl (jsb_c rfl (jsb_c rfl (jsb_c rfl jsb_n))))) (ct_X12_counts_r125_500088 hD hQ  a1 a3 a5 v21 h (jr_of rfl (by omega)) (jr_of rfl (by omega)) (jr_of rfl (by omega)) (jr_of rfl (by omega)) J Sm)
                    ·
                      exact jX.sub jsb_n (ct_X12_counts_r125_52 hD hQ  h J Sm)
            ·
              refine x_iconst (v := (-1)) rfl ki_m1 ?_
              refine x_iret rfl rfl ?_
              show jX m_X12_counts 12 0 0 12 [(0, .ref 125), (1, .int a1), (2, .int a2), (3, .int a3), (4, .int a4), (5, .int a5)] [.int (-1)] _ 0 0 _
              refine x_istore (lsx9 := [(6, .int (-1)), (0, .ref 125), (1, .int a1), (2, .int a2), (3, .int a3), (4, .int a4), (5, .int a5)]) rfl rfl rfl ?_
              refine x_iload (x := (-1)) rfl rfl ?_
              refine x_iconst (v := (-1)) rfl ki_m1 ?_
              refine x_iceq (tgt := 52) rfl rfl (ti_eq jk_m1 jk_m1 (br_t (by omega) ?_))
              exact jX.sub jsb_n (ct_X12_counts_r125_52 hD hQ  h J Sm)
        ·
          refine x_iconst (v := 2) rfl ki_2 ?_
          refine x_goto (tgt := 18) rfl rfl ?_
          refine x_iret rfl rfl ?_
          show jX m_X12_isMention 10 0 0 27 [(0, .ref 125), (1, .int a2)] [.int 2, .int v10] _ 0 0 _
          refine x_icge (tgt := 34) rfl rfl (ti_ge rfl jk_2 ⟨fun c34 => ?_, fun c34 => ?_⟩)
          ·
            refine x_iconst (v := 0) rfl ki_0 ?_
            refine x_zret rfl rfl (by decide) ?_
            show jX m_X12_soulAt 11 0 0 5 [(0, .ref 125), (1, .int a2), (2, .int a4)] [.int 0] _ 0 0 _
            refine x_ifeq (tgt := 15) rfl rfl (ti_eq jk_0 jk_0 (br_t (by omega) ?_))
            refine x_iconst (v := (-1)) rfl ki_m1 ?_
            refine x_iret rfl rfl ?_
            show jX m_X12_counts 12 0 0 12 [(0, .ref 125), (1, .int a1), (2, .int a2), (3, .int a3), (4, .int a4), (5, .int a5)] [.int (-1)] _ 0 0 _
            refine x_istore (lsx9 := [(6, .int (-1)), (0, .ref 125), (1, .int a1), (2, .int a2), (3, .int a3), (4, .int a4), (5, .int a5)]) rfl rfl rfl ?_
            refine x_iload (x := (-1)) rfl rfl ?_
            refine x_iconst (v := (-1)) rfl ki_m1 ?_
            refine x_iceq (tgt := 52) rfl rfl (ti_eq jk_m1 jk_m1 (br_t (by omega) ?_))
            exact jX.sub jsb_n (ct_X12_counts_r125_52 hD hQ  h J Sm)
          ·
            refine x_iconst (v := 1) rfl ki_1 ?_
            refine x_goto (tgt := 35) rfl rfl ?_
            refine x_zret rfl rfl (by decide) ?_
            show jX m_X12_soulAt 11 0 0 5 [(0, .ref 125), (1, .int a2), (2, .int a4)] [.int 1] _ 0 0 _
            refine x_ifeq (tgt := 15) rfl rfl (ti_eq jk_1 jk_0 (br_f (by omega) ?_))
            refine x_iloadn (x := a4) rfl rfl ?_
            refine x_inst (N := m_X12_isDay) (As := [.int a4]) (st := []) (dx9 := 2) (mc := 0) (ms := 0) (host := "") rfl t_X12_isDay ⟨Or.inl q_12_273, s_X12_isDay⟩ rfl (by decide) rfl rfl ⟨by decide, by decide⟩ (zc_X12_isDay (d := 1) rfl (fun v35 ev35 => ?_))
            show jX m_X12_soulAt 11 0 0 12 [(0, .ref 125), (1, .int a2), (2, .int a4)] [.int v35] _ 0 0 _
            refine x_ifne (tgt := 17) rfl rfl (ti_ne rfl jk_0 ⟨fun c36 => ?_, fun c36 => ?_⟩)
            ·
              refine x_aloadn (x := 125) rfl rfl ?_
              refine x_iloadn (x := a4) rfl rfl ?_
              refine x_inv (N := m_X12_find) (As := [.int a4]) (b := 125) (st := []) (dx9 := 8) (mc := 0) (ms := 0) (host := "") 12 rfl t_X12_find ⟨Or.inl q_12_393, i_X12_find.1, i_X12_find.2⟩ ⟨by decide, rfl⟩ (congrArg Prod.fst (J.1.1 125 (12, 92) rfl)) rfl (by decide) rfl rfl ⟨by decide, by decide⟩ (sf_X12_find_r125 (jr_of rfl (by omega)) hD J  (fun h J S37 => ?_))
              have Sm := jSm_tr rfl Sm S37
              show jX m_X12_soulAt 11 0 0 22 [(0, .ref 125), (1, .int a2), (2, .int a4)] [] _ 0 0 _
              refine x_aloadn (x := 125) rfl rfl ?_
              refine z_getR (N := 92) (b := 139) 12 29 rfl f_12_72 rfl J rfl 16029 ⟨rfl, rfl⟩ rfl ?_
              refine x_iloadn (x := a2) rfl rfl ?_
              refine z_iald (N := 600) rfl J rfl sg_139_0_600_1_0_1 rfl (by omega) (fun v38 qv38 ev38 => ?_)
              refine x_iret rfl rfl ?_
              show jX m_X12_counts 12 0 0 12 [(0, .ref 125), (1, .int a1), (2, .int a2), (3, .int a3), (4, .int a4), (5, .int a5)] [.int v38] _ 0 0 _
              refine x_istore (lsx9 := [(6, .int v38), (0, .ref 125), (1, .int a1), (2, .int a2), (3, .int a3), (4, .int a4), (5, .int a5)]) rfl rfl rfl ?_
              refine x_iload (x := v38) rfl rfl ?_
              refine x_iconst (v := (-1)) rfl ki_m1 ?_
              refine x_iceq (tgt := 52) rfl rfl (ti_eq rfl jk_m1 ⟨fun c39 => ?_, fun c39 => ?_⟩)
              ·
                exact jX.sub jsb_n (ct_X12_counts_r125_52 hD hQ  h J Sm)
              ·
                refine x_iloadn (x := a1) rfl rfl ?_
                refine z_i2l rfl rfl (fun v40 ev40 => ?_)
                refine x_lconst (v := 0) rfl kl_0 ?_
                refine x_ldc2 (v := 7) rfl z_12_761 ?_
                refine x_inst (N := m_X12_in) (As := [.long v40, .long 0, .long 7]) (st := []) (dx9 := 1) (mc := 0) (ms := 0) (host := "") rfl t_X12_in ⟨Or.inl q_12_188, s_X12_in⟩ rfl (by decide) rfl rfl ⟨by decide, by decide⟩ (zc_X12_in rfl jkl_0 jkl_7 (fun v41 ev41 => ?_))
                show jX m_X12_counts 12 0 0 29 [(6, .int v38), (0, .ref 125), (1, .int a1), (2, .int a2), (3, .int a3), (4, .int a4), (5, .int a5)] [.int v41] _ 0 0 _
                refine x_ifeq (tgt := 52) rfl rfl (ti_eq rfl jk_0 ⟨fun c42 => ?_, fun c42 => ?_⟩)
                ·
                  exact jX.sub jsb_n (ct_X12_counts_r125_52 hD hQ  h J Sm)
                ·
                  refine x_iloadn (x := a3) rfl rfl ?_
                  refine x_inst (N := m_X12_isDay) (As := [.int a3]) (st := []) (dx9 := 2) (mc := 0) (ms := 0) (host := "") rfl t_X12_isDay ⟨Or.inl q_12_273, s_X12_isDay⟩ rfl (by decide) rfl rfl ⟨by decide, by decide⟩ (zc_X12_isDay (d := 1) rfl (fun v43 ev43 => ?_))
                  show jX m_X12_counts 12 0 0 36 [(6, .int v38), (0, .ref 125), (1, .int a1), (2, .int a2), (3, .int a3), (4, .int a4), (5, .int a5)] [.int v43] _ 0 0 _
                  refine x_ifeq (tgt := 52) rfl rfl (ti_eq rfl jk_0 ⟨fun c44 => ?_, fun c44 => ?_⟩)
                  ·
                    exact jX.sub jsb_n (ct_X12_counts_r125_52 hD hQ  h J Sm)
                  ·
                    refine x_iload (x := a5) rfl rfl ?_
                    refine z_i2l rfl rfl (fun v45 ev45 => ?_)
                    refine x_lconst (v := 0) rfl kl_0 ?_
                    refine x_ldc2 (v := 2) rfl z_12_482 ?_
                    refine x_inst (N := m_X12_in) (As := [.long v45, .long 0, .long 2]) (st := []) (dx9 := 1) (mc := 0) (ms := 0) (host := "") rfl t_X12_in ⟨Or.inl q_12_188, s_X12_in⟩ rfl (by decide) rfl rfl ⟨by decide, by decide⟩ (zc_X12_in rfl jkl_0 jkl_2 (fun v46 ev46 => ?_))
                    show jX m_X12_counts 12 0 0 49 [(6, .int v38), (0, .ref 125), (1, .int a1), (2, .int a2), (3, .int a3), (4, .int a4), (5, .int a5)] [.int v46] _ 0 0 _
                    refine x_ifne (tgt := 56) rfl rfl (ti_ne rfl jk_0 ⟨fun c47 => ?_, fun c47 => ?_⟩)
                    ·
                      refine x_aloadn (x := 125) rfl rfl ?_
                      refine x_iloadn (x := a1) rfl rfl ?_
                      refine x_iconst (v := 3) rfl ki_3 ?_
                      refine x_icge (tgt := 66) rfl rfl (ti_ge rfl jk_3 ⟨fun c48 => ?_, fun c48 => ?_⟩)
                      ·
                        refine x_iloadn (x := a1) rfl rfl ?_
                        refine x_iconst (v := 3) rfl ki_3 ?_
                        refine x_icne (tgt := 75) rfl rfl (ti_ne rfl jk_3 ⟨fun c49 => ?_, fun c49 => ?_⟩)
                        ·
                          refine x_iloadn (x := a1) rfl rfl ?_
                          refine x_bipush (v := 7) rfl kb_7 ?_
                          refine x_icge (tgt := 86) rfl rfl (ti_ge rfl jk_7 ⟨fun c50 => ?_, fun c50 => ?_⟩)
                          ·
                            refine x_bipush (v := 8) rfl kb_8 ?_
                            exact jX.sub (jsb_c rfl (jsb_c rfl (jsb_c rfl (jsb_c rfl (jsb_c rfl jsb_n))))) (ct_X12_counts_r125_1000088 hD hQ  a1 a3 a5 v38 h (jr_of rfl (by omega)) (jr_of rfl (by omega)) (jr_of rfl (by omega)) (jr_of rfl (by omega)) J Sm)
                          ·
                            refine x_bipush (v := 7) rfl kb_7 ?_
                            refine x_goto (tgt := 88) rfl rfl ?_
                            exact jX.sub (jsb_c rfl (jsb_c rfl (jsb_c rfl (jsb_c rfl (jsb_c rfl jsb_n))))) (ct_X12_counts_r125_900088 hD hQ  a1 a3 a5 v38 h (jr_of rfl (by omega)) (jr_of rfl (by omega)) (jr_of rfl (by omega)) (jr_of rfl (by omega)) J Sm)
                        ·
                          refine x_iconst (v := 4) rfl ki_4 ?_
                          refine x_goto (tgt := 88) rfl rfl ?_
                          exact jX.sub (jsb_c rfl (jsb_c rfl (jsb_c rfl (jsb_c rfl (jsb_c rfl jsb_n))))) (ct_X12_counts_r125_600088 hD hQ  a1 a3 a5 v38 h (jr_of rfl (by omega)) (jr_of rfl (by omega)) (jr_of rfl (by omega)) (jr_of rfl (by omega)) J Sm)
                      ·
                        refine x_iconst (v := 3) rfl ki_3 ?_
                        refine x_goto (tgt := 88) rfl rfl ?_
                        exact jX.sub (jsb_c rfl (jsb_c rfl (jsb_c rfl (jsb_c rfl (jsb_c rfl jsb_n))))) (ct_X12_counts_r125_500088 hD hQ  a1 a3 a5 v38 h (jr_of rfl (by omega)) (jr_of rfl (by omega)) (jr_of rfl (by omega)) (jr_of rfl (by omega)) J Sm)
                    ·
                      exact jX.sub jsb_n (ct_X12_counts_r125_52 hD hQ  h J Sm)
            ·
              refine x_iconst (v := (-1)) rfl ki_m1 ?_
              refine x_iret rfl rfl ?_
              show jX m_X12_counts 12 0 0 12 [(0, .ref 125), (1, .int a1), (2, .int a2), (3, .int a3), (4, .int a4), (5, .int a5)] [.int (-1)] _ 0 0 _
              refine x_istore (lsx9 := [(6, .int (-1)), (0, .ref 125), (1, .int a1), (2, .int a2), (3, .int a3), (4, .int a4), (5, .int a5)]) rfl rfl rfl ?_
              refine x_iload (x := (-1)) rfl rfl ?_
              refine x_iconst (v := (-1)) rfl ki_m1 ?_
              refine x_iceq (tgt := 52) rfl rfl (ti_eq jk_m1 jk_m1 (br_t (by omega) ?_))
              exact jX.sub jsb_n (ct_X12_counts_r125_52 hD hQ  h J Sm)
      ·
        refine x_iconst (v := 3) rfl ki_3 ?_
        refine x_goto (tgt := 18) rfl rfl ?_
        refine x_iret rfl rfl ?_
        show jX m_X12_isMention 10 0 0 27 [(0, .ref 125), (1, .int a2)] [.int 3, .int v10] _ 0 0 _
        refine x_icge (tgt := 34) rfl rfl (ti_ge rfl jk_3 (br_f (by omega) ?_))
        refine x_iconst (v := 1) rfl ki_1 ?_
        refine x_goto (tgt := 35) rfl rfl ?_
        refine x_zret rfl rfl (by decide) ?_
        show jX m_X12_soulAt 11 0 0 5 [(0, .ref 125), (1, .int a2), (2, .int a4)] [.int 1] _ 0 0 _
        refine x_ifeq (tgt := 15) rfl rfl (ti_eq jk_1 jk_0 (br_f (by omega) ?_))
        refine x_iloadn (x := a4) rfl rfl ?_
        refine x_inst (N := m_X12_isDay) (As := [.int a4]) (st := []) (dx9 := 2) (mc := 0) (ms := 0) (host := "") rfl t_X12_isDay ⟨Or.inl q_12_273, s_X12_isDay⟩ rfl (by decide) rfl rfl ⟨by decide, by decide⟩ (zc_X12_isDay (d := 1) rfl (fun v51 ev51 => ?_))
        show jX m_X12_soulAt 11 0 0 12 [(0, .ref 125), (1, .int a2), (2, .int a4)] [.int v51] _ 0 0 _
        refine x_ifne (tgt := 17) rfl rfl (ti_ne rfl jk_0 ⟨fun c52 => ?_, fun c52 => ?_⟩)
        ·
          refine x_aloadn (x := 125) rfl rfl ?_
          refine x_iloadn (x := a4) rfl rfl ?_
          refine x_inv (N := m_X12_find) (As := [.int a4]) (b := 125) (st := []) (dx9 := 8) (mc := 0) (ms := 0) (host := "") 12 rfl t_X12_find ⟨Or.inl q_12_393, i_X12_find.1, i_X12_find.2⟩ ⟨by decide, rfl⟩ (congrArg Prod.fst (J.1.1 125 (12, 92) rfl)) rfl (by decide) rfl rfl ⟨by decide, by decide⟩ (sf_X12_find_r125 (jr_of rfl (by omega)) hD J  (fun h J S53 => ?_))
          have Sm := jSm_tr rfl Sm S53
          show jX m_X12_soulAt 11 0 0 22 [(0, .ref 125), (1, .int a2), (2, .int a4)] [] _ 0 0 _
          refine x_aloadn (x := 125) rfl rfl ?_
          refine z_getR (N := 92) (b := 139) 12 29 rfl f_12_72 rfl J rfl 16029 ⟨rfl, rfl⟩ rfl ?_
          refine x_iloadn (x := a2) rfl rfl ?_
          refine z_iald (N := 600) rfl J rfl sg_139_0_600_1_0_1 rfl (by omega) (fun v54 qv54 ev54 => ?_)
          refine x_iret rfl rfl ?_
          show jX m_X12_counts 12 0 0 12 [(0, .ref 125), (1, .int a1), (2, .int a2), (3, .int a3), (4, .int a4), (5, .int a5)] [.int v54] _ 0 0 _
          refine x_istore (lsx9 := [(6, .int v54), (0, .ref 125), (1, .int a1), (2, .int a2), (3, .int a3), (4, .int a4), (5, .int a5)]) rfl rfl rfl ?_
          refine x_iload (x := v54) rfl rfl ?_
          refine x_iconst (v := (-1)) rfl ki_m1 ?_
          refine x_iceq (tgt := 52) rfl rfl (ti_eq rfl jk_m1 ⟨fun c55 => ?_, fun c55 => ?_⟩)
          ·
            exact jX.sub jsb_n (ct_X12_counts_r125_52 hD hQ  h J Sm)
          ·
            refine x_iloadn (x := a1) rfl rfl ?_
            refine z_i2l rfl rfl (fun v56 ev56 => ?_)
            refine x_lconst (v := 0) rfl kl_0 ?_
            refine x_ldc2 (v := 7) rfl z_12_761 ?_
            refine x_inst (N := m_X12_in) (As := [.long v56, .long 0, .long 7]) (st := []) (dx9 := 1) (mc := 0) (ms := 0) (host := "") rfl t_X12_in ⟨Or.inl q_12_188, s_X12_in⟩ rfl (by decide) rfl rfl ⟨by decide, by decide⟩ (zc_X12_in rfl jkl_0 jkl_7 (fun v57 ev57 => ?_))
            show jX m_X12_counts 12 0 0 29 [(6, .int v54), (0, .ref 125), (1, .int a1), (2, .int a2), (3, .int a3), (4, .int a4), (5, .int a5)] [.int v57] _ 0 0 _
            refine x_ifeq (tgt := 52) rfl rfl (ti_eq rfl jk_0 ⟨fun c58 => ?_, fun c58 => ?_⟩)
            ·
              exact jX.sub jsb_n (ct_X12_counts_r125_52 hD hQ  h J Sm)
            ·
              refine x_iloadn (x := a3) rfl rfl ?_
              refine x_inst (N := m_X12_isDay) (As := [.int a3]) (st := []) (dx9 := 2) (mc := 0) (ms := 0) (host := "") rfl t_X12_isDay ⟨Or.inl q_12_273, s_X12_isDay⟩ rfl (by decide) rfl rfl ⟨by decide, by decide⟩ (zc_X12_isDay (d := 1) rfl (fun v59 ev59 => ?_))
              show jX m_X12_counts 12 0 0 36 [(6, .int v54), (0, .ref 125), (1, .int a1), (2, .int a2), (3, .int a3), (4, .int a4), (5, .int a5)] [.int v59] _ 0 0 _
              refine x_ifeq (tgt := 52) rfl rfl (ti_eq rfl jk_0 ⟨fun c60 => ?_, fun c60 => ?_⟩)
              ·
                exact jX.sub jsb_n (ct_X12_counts_r125_52 hD hQ  h J Sm)
              ·
                refine x_iload (x := a5) rfl rfl ?_
                refine z_i2l rfl rfl (fun v61 ev61 => ?_)
                refine x_lconst (v := 0) rfl kl_0 ?_
                refine x_ldc2 (v := 2) rfl z_12_482 ?_
                refine x_inst (N := m_X12_in) (As := [.long v61, .long 0, .long 2]) (st := []) (dx9 := 1) (mc := 0) (ms := 0) (host := "") rfl t_X12_in ⟨Or.inl q_12_188, s_X12_in⟩ rfl (by decide) rfl rfl ⟨by decide, by decide⟩ (zc_X12_in rfl jkl_0 jkl_2 (fun v62 ev62 => ?_))
                show jX m_X12_counts 12 0 0 49 [(6, .int v54), (0, .ref 125), (1, .int a1), (2, .int a2), (3, .int a3), (4, .int a4), (5, .int a5)] [.int v62] _ 0 0 _
                refine x_ifne (tgt := 56) rfl rfl (ti_ne rfl jk_0 ⟨fun c63 => ?_, fun c63 => ?_⟩)
                ·
                  refine x_aloadn (x := 125) rfl rfl ?_
                  refine x_iloadn (x := a1) rfl rfl ?_
                  refine x_iconst (v := 3) rfl ki_3 ?_
                  refine x_icge (tgt := 66) rfl rfl (ti_ge rfl jk_3 ⟨fun c64 => ?_, fun c64 => ?_⟩)
                  ·
                    refine x_iloadn (x := a1) rfl rfl ?_
                    refine x_iconst (v := 3) rfl ki_3 ?_
                    refine x_icne (tgt := 75) rfl rfl (ti_ne rfl jk_3 ⟨fun c65 => ?_, fun c65 => ?_⟩)
                    ·
                      refine x_iloadn (x := a1) rfl rfl ?_
                      refine x_bipush (v := 7) rfl kb_7 ?_
                      refine x_icge (tgt := 86) rfl rfl (ti_ge rfl jk_7 ⟨fun c66 => ?_, fun c66 => ?_⟩)
                      ·
                        refine x_bipush (v := 8) rfl kb_8 ?_
                        exact jX.sub (jsb_c rfl (jsb_c rfl (jsb_c rfl (jsb_c rfl (jsb_c rfl jsb_n))))) (ct_X12_counts_r125_1000088 hD hQ  a1 a3 a5 v54 h (jr_of rfl (by omega)) (jr_of rfl (by omega)) (jr_of rfl (by omega)) (jr_of rfl (by omega)) J Sm)
                      ·
                        refine x_bipush (v := 7) rfl kb_7 ?_
                        refine x_goto (tgt := 88) rfl rfl ?_
                        exact jX.sub (jsb_c rfl (jsb_c rfl (jsb_c rfl (jsb_c rfl (jsb_c rfl jsb_n))))) (ct_X12_counts_r125_900088 hD hQ  a1 a3 a5 v54 h (jr_of rfl (by omega)) (jr_of rfl (by omega)) (jr_of rfl (by omega)) (jr_of rfl (by omega)) J Sm)
                    ·
                      refine x_iconst (v := 4) rfl ki_4 ?_
                      refine x_goto (tgt := 88) rfl rfl ?_
                      exact jX.sub (jsb_c rfl (jsb_c rfl (jsb_c rfl (jsb_c rfl (jsb_c rfl jsb_n))))) (ct_X12_counts_r125_600088 hD hQ  a1 a3 a5 v54 h (jr_of rfl (by omega)) (jr_of rfl (by omega)) (jr_of rfl (by omega)) (jr_of rfl (by omega)) J Sm)
                  ·
                    refine x_iconst (v := 3) rfl ki_3 ?_
                    refine x_goto (tgt := 88) rfl rfl ?_
                    exact jX.sub (jsb_c rfl (jsb_c rfl (jsb_c rfl (jsb_c rfl (jsb_c rfl jsb_n))))) (ct_X12_counts_r125_500088 hD hQ  a1 a3 a5 v54 h (jr_of rfl (by omega)) (jr_of rfl (by omega)) (jr_of rfl (by omega)) (jr_of rfl (by omega)) J Sm)
                ·
                  exact jX.sub jsb_n (ct_X12_counts_r125_52 hD hQ  h J Sm)
        ·
          refine x_iconst (v := (-1)) rfl ki_m1 ?_
          refine x_iret rfl rfl ?_
          show jX m_X12_counts 12 0 0 12 [(0, .ref 125), (1, .int a1), (2, .int a2), (3, .int a3), (4, .int a4), (5, .int a5)] [.int (-1)] _ 0 0 _
          refine x_istore (lsx9 := [(6, .int (-1)), (0, .ref 125), (1, .int a1), (2, .int a2), (3, .int a3), (4, .int a4), (5, .int a5)]) rfl rfl rfl ?_
          refine x_iload (x := (-1)) rfl rfl ?_
          refine x_iconst (v := (-1)) rfl ki_m1 ?_
          refine x_iceq (tgt := 52) rfl rfl (ti_eq jk_m1 jk_m1 (br_t (by omega) ?_))
          exact jX.sub jsb_n (ct_X12_counts_r125_52 hD hQ  h J Sm)
def fp_X12_end_r125 : jFp := [(125, 0, 1), (125, 8, 9)]
set_option maxRecDepth 100000 in
set_option maxHeartbeats 4000000 in
theorem ct_X12_end_r125_17 {Dy : jH → Prop} {h0 : jH} {Q : Option Value → jH → Prop} (hD : jDk Dy) (hQ : ∀ (v : Int32) hx9, (-1) ≤ v.toInt ∧ v.toInt ≤ 400 → jJ jSgM Dy hx9 → jSm fp_X12_end_r125 h0 hx9 → Q (some (.int v)) hx9) : ∀ (h : jH), jJ jSgM Dy h → jSm fp_X12_end_r125 h0 h → jX m_X12_end 1 0 0 17 [] [] h 0 0 Q := by
  intro  h    J Sm
  refine x_iconst (v := (-1)) rfl ki_m1 ?_
  refine x_iret rfl rfl ?_
  exact hQ _ _ (jr_of jk_m1 (by omega)) J Sm
set_option maxRecDepth 100000 in
set_option maxHeartbeats 4000000 in
theorem sf_X12_end_r125 {Dy : jH → Prop} {h : jH} {Q : Option Value → jH → Prop} {a1 : Int32} (hD : jDk Dy) (J : jJ jSgM Dy h) (hQ : ∀ (v : Int32) hx9, (-1) ≤ v.toInt ∧ v.toInt ≤ 400 → jJ jSgM Dy hx9 → jSm fp_X12_end_r125 h hx9 → Q (some (.int v)) hx9) : jC m_X12_end 1 0 0 [.ref 125, .int a1] h Q := by
  refine jC.of rfl k_X12_end rfl ?_
  have Sm := jSm_rf fp_X12_end_r125 h
  have ea1 := jfull a1
  show jX m_X12_end 1 0 0 0 [(0, .ref 125), (1, .int a1)] [] _ 0 0 _
  refine x_aloadn (x := 125) rfl rfl ?_
  refine x_iconst (v := 0) rfl ki_0 ?_
  refine z_putI (N := 92) (w := 0) 12 0 rfl f_12_180 rfl (jfin_no TX12 RX12 92 rfl rfl) hD J Sm rfl rfl jk_0 (pw_125_0 (by omega)) rfl (fun h w1 J Sm => ?_)
  refine x_iloadn (x := a1) rfl rfl ?_
  refine x_iflt (tgt := 17) rfl rfl (ti_lt rfl jk_0 ⟨fun c2 => ?_, fun c2 => ?_⟩)
  ·
    exact jX.sub jsb_n (ct_X12_end_r125_17 hD hQ  h J Sm)
  ·
    refine x_iloadn (x := a1) rfl rfl ?_
    refine x_aloadn (x := 125) rfl rfl ?_
    refine z_getI (N := 92) 12 8 rfl f_12_201 rfl J rfl sg_125_8_9_1_0_1 (fun v3 qv3 ev3 => ?_)
    refine x_icle (tgt := 19) rfl rfl (ti_le rfl rfl ⟨fun c4 => ?_, fun c4 => ?_⟩)
    ·
      refine x_aloadn (x := 125) rfl rfl ?_
      refine x_iloadn (x := a1) rfl rfl ?_
      refine z_putI (N := 92) (w := a1.toInt) 12 8 rfl f_12_201 rfl (jfin_no TX12 RX12 92 rfl rfl) hD J Sm rfl rfl rfl (pw_125_8 (by omega)) rfl (fun h w5 J Sm => ?_)
      refine x_iloadn (x := a1) rfl rfl ?_
      refine x_iret rfl rfl ?_
      exact hQ _ _ (jr_of rfl (by omega)) J Sm
    ·
      exact jX.sub jsb_n (ct_X12_end_r125_17 hD hQ  h J Sm)
def fp_X12_entry_r125 : jFp := [(125, 0, 1), (125, 1, 2), (126, 13, 14), (126, 48960, 49360)]
set_option maxRecDepth 100000 in
set_option maxHeartbeats 4000000 in
theorem ct_X12_entry_r125_46 {Dy : jH → Prop} {h0 : jH} {Q : Option Value → jH → Prop} (hD : jDk Dy) (hQ : ∀ (v : Int32) hx9, jJ jSgM Dy hx9 → jSm fp_X12_entry_r125 h0 hx9 → Q (some (.int v)) hx9) : ∀ (h : jH), jJ jSgM Dy h → jSm fp_X12_entry_r125 h0 h → jX m_X12_entry 3 0 0 46 [(0, .ref 125)] [] h 0 0 Q := by
  intro  h    J Sm
  refine x_aloadn (x := 125) rfl rfl ?_
  refine x_iconst (v := (-1)) rfl ki_m1 ?_
  refine x_inv (N := m_X12_told) (As := [.int (-1)]) (b := 125) (st := []) (dx9 := 1) (mc := 0) (ms := 0) (host := "") 12 rfl t_X12_told ⟨Or.inl q_12_197, i_X12_told.1, i_X12_told.2⟩ ⟨by decide, rfl⟩ (congrArg Prod.fst (J.1.1 125 (12, 92) rfl)) rfl (by decide) rfl rfl ⟨by decide, by decide⟩ (sf_X12_told_r125  hD J  (fun v2 h J S1 => ?_))
  have ev2 := jfull v2
  have Sm := jSm_tr rfl Sm S1
  show jX m_X12_entry 3 0 0 51 [(0, .ref 125)] [.int v2] _ 0 0 _
  refine x_iret rfl rfl ?_
  exact hQ _ _ J Sm
set_option maxRecDepth 100000 in
set_option maxHeartbeats 4000000 in
theorem sf_X12_entry_r125 {Dy : jH → Prop} {h : jH} {Q : Option Value → jH → Prop} {a1 : Int32} {a2 : Int32} {a3 : Int32} {a4 : Int32} (hD : jDk Dy) (J : jJ jSgM Dy h) (hQ : ∀ (v : Int32) hx9, jJ jSgM Dy hx9 → jSm fp_X12_entry_r125 h hx9 → Q (some (.int v)) hx9) : jC m_X12_entry 3 0 0 [.ref 125, .int a1, .int a2, .int a3, .int a4] h Q := by
  refine jC.of rfl k_X12_entry rfl ?_
  have Sm := jSm_rf fp_X12_entry_r125 h
  have ea1 := jfull a1
  have ea2 := jfull a2
  have ea3 := jfull a3
  have ea4 := jfull a4
  show jX m_X12_entry 3 0 0 0 [(0, .ref 125), (1, .int a1), (2, .int a2), (3, .int a3), (4, .int a4)] [] _ 0 0 _
  refine x_aloadn (x := 125) rfl rfl ?_
  refine x_iconst (v := 0) rfl ki_0 ?_
  refine z_putI (N := 92) (w := 0) 12 0 rfl f_12_180 rfl (jfin_no TX12 RX12 92 rfl rfl) hD J Sm rfl rfl jk_0 (pw_125_0 (by omega)) rfl (fun h w1 J Sm => ?_)
  refine x_iloadn (x := a1) rfl rfl ?_
  refine z_i2l rfl rfl (fun v2 ev2 => ?_)
  refine x_lconst (v := 0) rfl kl_0 ?_
  refine x_ldc2 (v := 3) rfl z_12_195 ?_
  refine x_inst (N := m_X12_in) (As := [.long v2, .long 0, .long 3]) (st := []) (dx9 := 1) (mc := 0) (ms := 0) (host := "") rfl t_X12_in ⟨Or.inl q_12_188, s_X12_in⟩ rfl (by decide) rfl rfl ⟨by decide, by decide⟩ (zc_X12_in rfl jkl_0 jkl_3 (fun v3 ev3 => ?_))
  show jX m_X12_entry 3 0 0 14 [(0, .ref 125), (1, .int a1), (2, .int a2), (3, .int a3), (4, .int a4)] [.int v3] _ 0 0 _
  refine x_ifeq (tgt := 46) rfl rfl (ti_eq rfl jk_0 ⟨fun c4 => ?_, fun c4 => ?_⟩)
  ·
    exact jX.sub (jsb_c rfl jsb_n) (ct_X12_entry_r125_46 hD hQ  h J Sm)
  ·
    refine x_iloadn (x := a2) rfl rfl ?_
    refine x_inst (N := m_X12_isYear) (As := [.int a2]) (st := []) (dx9 := 2) (mc := 0) (ms := 0) (host := "") rfl t_X12_isYear ⟨Or.inl q_12_817, s_X12_isYear⟩ rfl (by decide) rfl rfl ⟨by decide, by decide⟩ (zc_X12_isYear (d := 1) rfl (fun v5 ev5 => ?_))
    show jX m_X12_entry 3 0 0 21 [(0, .ref 125), (1, .int a1), (2, .int a2), (3, .int a3), (4, .int a4)] [.int v5] _ 0 0 _
    refine x_ifeq (tgt := 46) rfl rfl (ti_eq rfl jk_0 ⟨fun c6 => ?_, fun c6 => ?_⟩)
    ·
      exact jX.sub (jsb_c rfl jsb_n) (ct_X12_entry_r125_46 hD hQ  h J Sm)
    ·
      refine x_iloadn (x := a3) rfl rfl ?_
      refine z_i2l rfl rfl (fun v7 ev7 => ?_)
      refine x_ldc2 (v := (-1000000)) rfl z_12_841 ?_
      refine x_ldc2 (v := 1000000) rfl z_12_244 ?_
      refine x_inst (N := m_X12_in) (As := [.long v7, .long (-1000000), .long 1000000]) (st := []) (dx9 := 1) (mc := 0) (ms := 0) (host := "") rfl t_X12_in ⟨Or.inl q_12_188, s_X12_in⟩ rfl (by decide) rfl rfl ⟨by decide, by decide⟩ (zc_X12_in rfl jkl_m1000000 jkl_1000000 (fun v8 ev8 => ?_))
      show jX m_X12_entry 3 0 0 35 [(0, .ref 125), (1, .int a1), (2, .int a2), (3, .int a3), (4, .int a4)] [.int v8] _ 0 0 _
      refine x_ifeq (tgt := 46) rfl rfl (ti_eq rfl jk_0 ⟨fun c9 => ?_, fun c9 => ?_⟩)
      ·
        exact jX.sub (jsb_c rfl jsb_n) (ct_X12_entry_r125_46 hD hQ  h J Sm)
      ·
        refine x_iload (x := a4) rfl rfl ?_
        refine x_inst (N := m_X12_isDay) (As := [.int a4]) (st := []) (dx9 := 2) (mc := 0) (ms := 0) (host := "") rfl t_X12_isDay ⟨Or.inl q_12_273, s_X12_isDay⟩ rfl (by decide) rfl rfl ⟨by decide, by decide⟩ (zc_X12_isDay (d := 1) rfl (fun v10 ev10 => ?_))
        show jX m_X12_entry 3 0 0 43 [(0, .ref 125), (1, .int a1), (2, .int a2), (3, .int a3), (4, .int a4)] [.int v10] _ 0 0 _
        refine x_ifne (tgt := 52) rfl rfl (ti_ne rfl jk_0 ⟨fun c11 => ?_, fun c11 => ?_⟩)
        ·
          refine x_aloadn (x := 125) rfl rfl ?_
          refine z_getR (N := 92) (b := 126) 12 2 rfl f_12_8 rfl J rfl 16002 ⟨rfl, rfl⟩ rfl ?_
          refine x_bipush (v := 13) rfl kb_13 ?_
          refine z_iald (N := 50660) rfl J rfl sg_126_13_14_1_0_1 jk_13 (by omega) (fun v12 qv12 ev12 => ?_)
          refine x_bipush (v := 100) rfl kb_100 ?_
          refine x_icne (tgt := 71) rfl rfl (ti_ne rfl jk_100 ⟨fun c13 => ?_, fun c13 => ?_⟩)
          ·
            refine x_aloadn (x := 125) rfl rfl ?_
            refine x_ldcw (v := 48960) rfl z_12_843 ?_
            refine x_iconst (v := 4) rfl ki_4 ?_
            refine x_aloadn (x := 125) rfl rfl ?_
            refine z_getR (N := 92) (b := 126) 12 2 rfl f_12_8 rfl J rfl 16002 ⟨rfl, rfl⟩ rfl ?_
            refine x_bipush (v := 13) rfl kb_13 ?_
            refine z_ialdM (N := 50660) (v := v12) rfl J rfl jk_13 (by omega) qv12 ?_
            refine z_imul rfl jk_4 rfl (by omega) (fun v14 ev14 => ?_)
            refine z_iadd rfl jk_48960 rfl (by omega) (fun v15 ev15 => ?_)
            refine x_iloadn (x := a1) rfl rfl ?_
            refine x_iloadn (x := a2) rfl rfl ?_
            refine x_iloadn (x := a3) rfl rfl ?_
            refine x_iload (x := a4) rfl rfl ?_
            refine x_inv (N := m_X12_addFour) (As := [.int v15, .int a1, .int a2, .int a3, .int a4]) (b := 125) (st := []) (dx9 := 2) (mc := 0) (ms := 0) (host := "") 12 rfl t_X12_addFour ⟨Or.inl q_12_814, i_X12_addFour.1, i_X12_addFour.2⟩ ⟨by decide, rfl⟩ (congrArg Prod.fst (J.1.1 125 (12, 92) rfl)) rfl (by decide) rfl rfl ⟨by decide, by decide⟩ (jC.of rfl k_X12_addFour rfl ?_)
            show jX m_X12_addFour 2 0 0 0 [(0, .ref 125), (1, .int v15), (2, .int a1), (3, .int a2), (4, .int a3), (5, .int a4)] [] _ 0 0 _
            refine x_aloadn (x := 125) rfl rfl ?_
            refine z_getR (N := 92) (b := 126) 12 2 rfl f_12_8 rfl J rfl 16002 ⟨rfl, rfl⟩ rfl ?_
            refine x_iloadn (x := v15) rfl rfl ?_
            refine x_iloadn (x := a1) rfl rfl ?_
            refine z_iast (N := 50660) (l := 48960) (u := 49360) (w := a1.toInt) rfl hD J Sm rfl rfl rfl (by omega) rfl (wr_126_48960 (by omega) (fun q1 q2 q3 q4 => by omega) (fun q1 q2 q3 q4 => by omega) (fun q1 q2 q3 q4 => by omega) (fun q1 q2 q3 q4 => by omega)) rfl (fun h w16 J Sm => ?_)
            refine x_aloadn (x := 125) rfl rfl ?_
            refine z_getR (N := 92) (b := 126) 12 2 rfl f_12_8 rfl J rfl 16002 ⟨rfl, rfl⟩ rfl ?_
            refine x_iloadn (x := v15) rfl rfl ?_
            refine x_iconst (v := 1) rfl ki_1 ?_
            refine z_iadd rfl rfl jk_1 (by omega) (fun v17 ev17 => ?_)
            refine x_iloadn (x := a2) rfl rfl ?_
            refine z_iast (N := 50660) (l := 48960) (u := 49360) (w := a2.toInt) rfl hD J Sm rfl rfl rfl (by omega) rfl (wr_126_48960 (by omega) (fun q1 q2 q3 q4 => by omega) (fun q1 q2 q3 q4 => by omega) (fun q1 q2 q3 q4 => by omega) (fun q1 q2 q3 q4 => by omega)) rfl (fun h w18 J Sm => ?_)
            refine x_aloadn (x := 125) rfl rfl ?_
            refine z_getR (N := 92) (b := 126) 12 2 rfl f_12_8 rfl J rfl 16002 ⟨rfl, rfl⟩ rfl ?_
            refine x_iloadn (x := v15) rfl rfl ?_
            refine x_iconst (v := 2) rfl ki_2 ?_
            refine z_iadd rfl rfl jk_2 (by omega) (fun v19 ev19 => ?_)
            refine x_iload (x := a3) rfl rfl ?_
            refine z_iast (N := 50660) (l := 48960) (u := 49360) (w := a3.toInt) rfl hD J Sm rfl rfl rfl (by omega) rfl (wr_126_48960 (by omega) (fun q1 q2 q3 q4 => by omega) (fun q1 q2 q3 q4 => by omega) (fun q1 q2 q3 q4 => by omega) (fun q1 q2 q3 q4 => by omega)) rfl (fun h w20 J Sm => ?_)
            refine x_aloadn (x := 125) rfl rfl ?_
            refine z_getR (N := 92) (b := 126) 12 2 rfl f_12_8 rfl J rfl 16002 ⟨rfl, rfl⟩ rfl ?_
            refine x_iloadn (x := v15) rfl rfl ?_
            refine x_iconst (v := 3) rfl ki_3 ?_
            refine z_iadd rfl rfl jk_3 (by omega) (fun v21 ev21 => ?_)
            refine x_iload (x := a4) rfl rfl ?_
            refine z_iast (N := 50660) (l := 48960) (u := 49360) (w := a4.toInt) rfl hD J Sm rfl rfl rfl (by omega) rfl (wr_126_48960 (by omega) (fun q1 q2 q3 q4 => by omega) (fun q1 q2 q3 q4 => by omega) (fun q1 q2 q3 q4 => by omega) (fun q1 q2 q3 q4 => by omega)) rfl (fun h w22 J Sm => ?_)
            refine x_vret rfl rfl ?_
            show jX m_X12_entry 3 0 0 93 [(0, .ref 125), (1, .int a1), (2, .int a2), (3, .int a3), (4, .int a4)] [] _ 0 0 _
            refine x_aloadn (x := 125) rfl rfl ?_
            refine z_getR (N := 92) (b := 126) 12 2 rfl f_12_8 rfl J rfl 16002 ⟨rfl, rfl⟩ rfl ?_
            refine x_bipush (v := 13) rfl kb_13 ?_
            refine x_dup2 rfl rfl rfl ?_
            refine z_ialdM (N := 50660) (v := v12) rfl J rfl jk_13 (by omega) (jmo2 w22 rfl jk_13 (by omega) (jmo2 w20 rfl jk_13 (by omega) (jmo2 w18 rfl jk_13 (by omega) (jmo2 w16 rfl jk_13 (by omega) qv12)))) ?_
            refine x_iconst (v := 1) rfl ki_1 ?_
            refine z_iadd rfl rfl jk_1 (by omega) (fun v23 ev23 => ?_)
            refine z_iast (N := 50660) (l := 13) (u := 14) (w := v23.toInt) rfl hD J Sm rfl rfl jk_13 (by omega) rfl (wr_126_13 (by omega) (fun q1 q2 q3 q4 => by omega)) rfl (fun h w24 J Sm => ?_)
            refine x_aloadn (x := 125) rfl rfl ?_
            refine x_aloadn (x := 125) rfl rfl ?_
            refine z_getR (N := 92) (b := 126) 12 2 rfl f_12_8 rfl J rfl 16002 ⟨rfl, rfl⟩ rfl ?_
            refine x_bipush (v := 13) rfl kb_13 ?_
            refine z_ialdM (N := 50660) (v := v23) rfl J rfl jk_13 (by omega) (jmw w24) ?_
            refine x_inv (N := m_X12_told) (As := [.int v23]) (b := 125) (st := []) (dx9 := 1) (mc := 0) (ms := 0) (host := "") 12 rfl t_X12_told ⟨Or.inl q_12_197, i_X12_told.1, i_X12_told.2⟩ ⟨by decide, rfl⟩ (congrArg Prod.fst (J.1.1 125 (12, 92) rfl)) rfl (by decide) rfl rfl ⟨by decide, by decide⟩ (sf_X12_told_r125  hD J  (fun v26 h J S25 => ?_))
            have ev26 := jfull v26
            have Sm := jSm_tr rfl Sm S25
            show jX m_X12_entry 3 0 0 115 [(0, .ref 125), (1, .int a1), (2, .int a2), (3, .int a3), (4, .int a4)] [.int v26] _ 0 0 _
            refine x_iret rfl rfl ?_
            exact hQ _ _ J Sm
          ·
            refine x_aloadn (x := 125) rfl rfl ?_
            refine x_bipush (v := (-5)) rfl kb_m5 ?_
            refine x_inv (N := m_X12_told) (As := [.int (-5)]) (b := 125) (st := []) (dx9 := 1) (mc := 0) (ms := 0) (host := "") 12 rfl t_X12_told ⟨Or.inl q_12_197, i_X12_told.1, i_X12_told.2⟩ ⟨by decide, rfl⟩ (congrArg Prod.fst (J.1.1 125 (12, 92) rfl)) rfl (by decide) rfl rfl ⟨by decide, by decide⟩ (sf_X12_told_r125  hD J  (fun v28 h J S27 => ?_))
            have ev28 := jfull v28
            have Sm := jSm_tr rfl Sm S27
            show jX m_X12_entry 3 0 0 70 [(0, .ref 125), (1, .int a1), (2, .int a2), (3, .int a3), (4, .int a4)] [.int v28] _ 0 0 _
            refine x_iret rfl rfl ?_
            exact hQ _ _ J Sm
        ·
          exact jX.sub (jsb_c rfl jsb_n) (ct_X12_entry_r125_46 hD hQ  h J Sm)
def fp_X12_fact_r125 : jFp := [(125, 0, 1), (125, 1, 2), (126, 5, 6), (126, 16, 17), (126, 46540, 47140), (126, 49920, 50660)]
set_option maxRecDepth 100000 in
set_option maxHeartbeats 4000000 in
theorem ct_X12_fact_r125_58 {Dy : jH → Prop} {h0 : jH} {Q : Option Value → jH → Prop} (hD : jDk Dy) (hQ : ∀ (v : Int32) hx9, jJ jSgM Dy hx9 → jSm fp_X12_fact_r125 h0 hx9 → ∀ u0 u1 u2 u3 u4 : Int32, jiv hx9 126 (16 : Int32).toNatClampNeg = u0 → jiv hx9 126 (0 : Int32).toNatClampNeg = u1 → jiv hx9 126 (4 : Int32).toNatClampNeg = u2 → jiv hx9 126 (5 : Int32).toNatClampNeg = u3 → jiv hx9 126 (7 : Int32).toNatClampNeg = u4 → u0.toInt = u1.toInt + u2.toInt + u3.toInt + u4.toInt → Q (some (.int v)) hx9) : ∀ (g0 : Int32) (g1 : Int32) (g2 : Int32) (g3 : Int32) (g4 : Int32) (h : jH), 0 ≤ g0.toInt ∧ g0.toInt ≤ 200 → 0 ≤ g1.toInt ∧ g1.toInt ≤ 370 → 0 ≤ g2.toInt ∧ g2.toInt ≤ 30 → 0 ≤ g3.toInt ∧ g3.toInt ≤ 100 → 0 ≤ g4.toInt ∧ g4.toInt ≤ 40 → g1.toInt = g0.toInt + g2.toInt + g3.toInt + g4.toInt → jiv h 126 (0 : Int32).toNatClampNeg = g0 → jiv h 126 (16 : Int32).toNatClampNeg = g1 → jiv h 126 (4 : Int32).toNatClampNeg = g2 → jiv h 126 (5 : Int32).toNatClampNeg = g3 → jiv h 126 (7 : Int32).toNatClampNeg = g4 → jJ jSgM Dy h → jSm fp_X12_fact_r125 h0 h → jX m_X12_fact 4 0 0 58 [(0, .ref 125)] [] h 0 0 Q := by
  intro g0 g1 g2 g3 g4 h y0 y1 y2 y3 y4 y5 z0 z1 z2 z3 z4  J Sm
  refine x_aloadn (x := 125) rfl rfl ?_
  refine x_iconst (v := (-1)) rfl ki_m1 ?_
  refine x_inv (N := m_X12_told) (As := [.int (-1)]) (b := 125) (st := []) (dx9 := 1) (mc := 0) (ms := 0) (host := "") 12 rfl t_X12_told ⟨Or.inl q_12_197, i_X12_told.1, i_X12_told.2⟩ ⟨by decide, rfl⟩ (congrArg Prod.fst (J.1.1 125 (12, 92) rfl)) rfl (by decide) rfl rfl ⟨by decide, by decide⟩ (sf_X12_told_r125  hD J  (fun v2 h J S1 => ?_))
  have ev2 := jfull v2
  have Sm := jSm_tr rfl Sm S1
  show jX m_X12_fact 4 0 0 63 [(0, .ref 125)] [.int v2] _ 0 0 _
  refine x_iret rfl rfl ?_
  exact hQ _ _ J Sm _ _ _ _ _ (jmc S1 rfl z1) (jmc S1 rfl z0) (jmc S1 rfl z2) (jmc S1 rfl z3) (jmc S1 rfl z4) (by omega)
set_option maxRecDepth 100000 in
set_option maxHeartbeats 4000000 in
theorem sf_X12_fact_r125 {Dy : jH → Prop} {h : jH} {Q : Option Value → jH → Prop} {a1 : Int32} {a2 : Int32} {a3 : Int32} {a4 : Int32} {a5 : Int32} {a6 : Int32} (hD : jDk Dy) (J : jJ jSgM Dy h) {p0 p1 p2 p3 p4 : Int32} (zp0 : jiv h 126 (16 : Int32).toNatClampNeg = p0) (zp1 : jiv h 126 (0 : Int32).toNatClampNeg = p1) (zp2 : jiv h 126 (4 : Int32).toNatClampNeg = p2) (zp3 : jiv h 126 (5 : Int32).toNatClampNeg = p3) (zp4 : jiv h 126 (7 : Int32).toNatClampNeg = p4) (rl_p0 : p0.toInt = p1.toInt + p2.toInt + p3.toInt + p4.toInt) (hQ : ∀ (v : Int32) hx9, jJ jSgM Dy hx9 → jSm fp_X12_fact_r125 h hx9 → ∀ u0 u1 u2 u3 u4 : Int32, jiv hx9 126 (16 : Int32).toNatClampNeg = u0 → jiv hx9 126 (0 : Int32).toNatClampNeg = u1 → jiv hx9 126 (4 : Int32).toNatClampNeg = u2 → jiv hx9 126 (5 : Int32).toNatClampNeg = u3 → jiv hx9 126 (7 : Int32).toNatClampNeg = u4 → u0.toInt = u1.toInt + u2.toInt + u3.toInt + u4.toInt → Q (some (.int v)) hx9) : jC m_X12_fact 4 0 0 [.ref 125, .int a1, .int a2, .int a3, .int a4, .int a5, .int a6] h Q := by
  refine jC.of rfl k_X12_fact rfl ?_
  have Sm := jSm_rf fp_X12_fact_r125 h
  have ep0 := (show 0 ≤ p0.toInt ∧ p0.toInt ≤ 370 from zp0 ▸ jrg_c J sg_126_16_17_1_0_1 jk_16 (by omega))
  have ep1 := (show 0 ≤ p1.toInt ∧ p1.toInt ≤ 200 from zp1 ▸ jrg_c J sg_126_0_1_1_0_1 jk_0 (by omega))
  have ep2 := (show 0 ≤ p2.toInt ∧ p2.toInt ≤ 30 from zp2 ▸ jrg_c J sg_126_4_5_1_0_1 jk_4 (by omega))
  have ep3 := (show 0 ≤ p3.toInt ∧ p3.toInt ≤ 100 from zp3 ▸ jrg_c J sg_126_5_6_1_0_1 jk_5 (by omega))
  have ep4 := (show 0 ≤ p4.toInt ∧ p4.toInt ≤ 40 from zp4 ▸ jrg_c J sg_126_7_8_1_0_1 jk_7 (by omega))
  have ea1 := jfull a1
  have ea2 := jfull a2
  have ea3 := jfull a3
  have ea4 := jfull a4
  have ea5 := jfull a5
  have ea6 := jfull a6
  show jX m_X12_fact 4 0 0 0 [(0, .ref 125), (1, .int a1), (2, .int a2), (3, .int a3), (4, .int a4), (5, .int a5), (6, .int a6)] [] _ 0 0 _
  refine x_aloadn (x := 125) rfl rfl ?_
  refine x_iconst (v := 0) rfl ki_0 ?_
  refine z_putI (N := 92) (w := 0) 12 0 rfl f_12_180 rfl (jfin_no TX12 RX12 92 rfl rfl) hD J Sm rfl rfl jk_0 (pw_125_0 (by omega)) rfl (fun h w1 J Sm => ?_)
  refine x_iloadn (x := a2) rfl rfl ?_
  refine z_i2l rfl rfl (fun v2 ev2 => ?_)
  refine x_lconst (v := 0) rfl kl_0 ?_
  refine x_ldc2 (v := 4) rfl z_12_769 ?_
  refine x_inst (N := m_X12_in) (As := [.long v2, .long 0, .long 4]) (st := []) (dx9 := 1) (mc := 0) (ms := 0) (host := "") rfl t_X12_in ⟨Or.inl q_12_188, s_X12_in⟩ rfl (by decide) rfl rfl ⟨by decide, by decide⟩ (zc_X12_in rfl jkl_0 jkl_4 (fun v3 ev3 => ?_))
  show jX m_X12_fact 4 0 0 14 [(0, .ref 125), (1, .int a1), (2, .int a2), (3, .int a3), (4, .int a4), (5, .int a5), (6, .int a6)] [.int v3] _ 0 0 _
  refine x_ifeq (tgt := 58) rfl rfl (ti_eq rfl jk_0 ⟨fun c4 => ?_, fun c4 => ?_⟩)
  ·
    exact jX.sub (jsb_c rfl jsb_n) (ct_X12_fact_r125_58 hD hQ  p1 p0 p2 p3 p4 h (jr_of rfl (by omega)) (jr_of rfl (by omega)) (jr_of rfl (by omega)) (jr_of rfl (by omega)) (jr_of rfl (by omega)) (by omega) (jmo w1 rfl zp1) (jmo w1 rfl zp0) (jmo w1 rfl zp2) (jmo w1 rfl zp3) (jmo w1 rfl zp4) J Sm)
  ·
    refine x_iloadn (x := a3) rfl rfl ?_
    refine z_i2l rfl rfl (fun v5 ev5 => ?_)
    refine x_lconst (v := 0) rfl kl_0 ?_
    refine x_ldc2 (v := 11) rfl z_12_267 ?_
    refine x_inst (N := m_X12_in) (As := [.long v5, .long 0, .long 11]) (st := []) (dx9 := 1) (mc := 0) (ms := 0) (host := "") rfl t_X12_in ⟨Or.inl q_12_188, s_X12_in⟩ rfl (by decide) rfl rfl ⟨by decide, by decide⟩ (zc_X12_in rfl jkl_0 jkl_11 (fun v6 ev6 => ?_))
    show jX m_X12_fact 4 0 0 26 [(0, .ref 125), (1, .int a1), (2, .int a2), (3, .int a3), (4, .int a4), (5, .int a5), (6, .int a6)] [.int v6] _ 0 0 _
    refine x_ifeq (tgt := 58) rfl rfl (ti_eq rfl jk_0 ⟨fun c7 => ?_, fun c7 => ?_⟩)
    ·
      exact jX.sub (jsb_c rfl jsb_n) (ct_X12_fact_r125_58 hD hQ  p1 p0 p2 p3 p4 h (jr_of rfl (by omega)) (jr_of rfl (by omega)) (jr_of rfl (by omega)) (jr_of rfl (by omega)) (jr_of rfl (by omega)) (by omega) (jmo w1 rfl zp1) (jmo w1 rfl zp0) (jmo w1 rfl zp2) (jmo w1 rfl zp3) (jmo w1 rfl zp4) J Sm)
    ·
      refine x_iload (x := a5) rfl rfl ?_
      refine x_inst (N := m_X12_isDay) (As := [.int a5]) (st := []) (dx9 := 2) (mc := 0) (ms := 0) (host := "") rfl t_X12_isDay ⟨Or.inl q_12_273, s_X12_isDay⟩ rfl (by decide) rfl rfl ⟨by decide, by decide⟩ (zc_X12_isDay (d := 1) rfl (fun v8 ev8 => ?_))
      show jX m_X12_fact 4 0 0 34 [(0, .ref 125), (1, .int a1), (2, .int a2), (3, .int a3), (4, .int a4), (5, .int a5), (6, .int a6)] [.int v8] _ 0 0 _
      refine x_ifeq (tgt := 58) rfl rfl (ti_eq rfl jk_0 ⟨fun c9 => ?_, fun c9 => ?_⟩)
      ·
        exact jX.sub (jsb_c rfl jsb_n) (ct_X12_fact_r125_58 hD hQ  p1 p0 p2 p3 p4 h (jr_of rfl (by omega)) (jr_of rfl (by omega)) (jr_of rfl (by omega)) (jr_of rfl (by omega)) (jr_of rfl (by omega)) (by omega) (jmo w1 rfl zp1) (jmo w1 rfl zp0) (jmo w1 rfl zp2) (jmo w1 rfl zp3) (jmo w1 rfl zp4) J Sm)
      ·
        refine x_iload (x := a4) rfl rfl ?_
        refine z_i2l rfl rfl (fun v10 ev10 => ?_)
        refine x_lconst (v := 0) rfl kl_0 ?_
        refine x_iload (x := a5) rfl rfl ?_
        refine z_i2l rfl rfl (fun v11 ev11 => ?_)
        refine x_inst (N := m_X12_in) (As := [.long v10, .long 0, .long v11]) (st := []) (dx9 := 1) (mc := 0) (ms := 0) (host := "") rfl t_X12_in ⟨Or.inl q_12_188, s_X12_in⟩ rfl (by decide) rfl rfl ⟨by decide, by decide⟩ (zc_X12_in rfl jkl_0 rfl (fun v12 ev12 => ?_))
        show jX m_X12_fact 4 0 0 47 [(0, .ref 125), (1, .int a1), (2, .int a2), (3, .int a3), (4, .int a4), (5, .int a5), (6, .int a6)] [.int v12] _ 0 0 _
        refine x_ifeq (tgt := 58) rfl rfl (ti_eq rfl jk_0 ⟨fun c13 => ?_, fun c13 => ?_⟩)
        ·
          exact jX.sub (jsb_c rfl jsb_n) (ct_X12_fact_r125_58 hD hQ  p1 p0 p2 p3 p4 h (jr_of rfl (by omega)) (jr_of rfl (by omega)) (jr_of rfl (by omega)) (jr_of rfl (by omega)) (jr_of rfl (by omega)) (by omega) (jmo w1 rfl zp1) (jmo w1 rfl zp0) (jmo w1 rfl zp2) (jmo w1 rfl zp3) (jmo w1 rfl zp4) J Sm)
        ·
          refine x_iload (x := a6) rfl rfl ?_
          refine x_inst (N := m_X12_isDay) (As := [.int a6]) (st := []) (dx9 := 2) (mc := 0) (ms := 0) (host := "") rfl t_X12_isDay ⟨Or.inl q_12_273, s_X12_isDay⟩ rfl (by decide) rfl rfl ⟨by decide, by decide⟩ (zc_X12_isDay (d := 1) rfl (fun v14 ev14 => ?_))
          show jX m_X12_fact 4 0 0 55 [(0, .ref 125), (1, .int a1), (2, .int a2), (3, .int a3), (4, .int a4), (5, .int a5), (6, .int a6)] [.int v14] _ 0 0 _
          refine x_ifne (tgt := 64) rfl rfl (ti_ne rfl jk_0 ⟨fun c15 => ?_, fun c15 => ?_⟩)
          ·
            refine x_aloadn (x := 125) rfl rfl ?_
            refine x_iloadn (x := a1) rfl rfl ?_
            refine x_inv (N := m_X12_isMention) (As := [.int a1]) (b := 125) (st := []) (dx9 := 3) (mc := 0) (ms := 0) (host := "") 12 rfl t_X12_isMention ⟨Or.inl q_12_322, i_X12_isMention.1, i_X12_isMention.2⟩ ⟨by decide, rfl⟩ (congrArg Prod.fst (J.1.1 125 (12, 92) rfl)) rfl (by decide) rfl rfl ⟨by decide, by decide⟩ (jC.of rfl k_X12_isMention rfl ?_)
            show jX m_X12_isMention 3 0 0 0 [(0, .ref 125), (1, .int a1)] [] _ 0 0 _
            refine x_iloadn (x := a1) rfl rfl ?_
            refine x_iflt (tgt := 34) rfl rfl (ti_lt rfl jk_0 ⟨fun c16 => ?_, fun c16 => ?_⟩)
            ·
              refine x_iconst (v := 0) rfl ki_0 ?_
              refine x_zret rfl rfl (by decide) ?_
              show jX m_X12_fact 4 0 0 69 [(0, .ref 125), (1, .int a1), (2, .int a2), (3, .int a3), (4, .int a4), (5, .int a5), (6, .int a6)] [.int 0] _ 0 0 _
              refine x_ifne (tgt := 79) rfl rfl (ti_ne jk_0 jk_0 (bn_f (by omega) ?_))
              refine x_aloadn (x := 125) rfl rfl ?_
              refine x_bipush (v := (-2)) rfl kb_m2 ?_
              refine x_inv (N := m_X12_told) (As := [.int (-2)]) (b := 125) (st := []) (dx9 := 1) (mc := 0) (ms := 0) (host := "") 12 rfl t_X12_told ⟨Or.inl q_12_197, i_X12_told.1, i_X12_told.2⟩ ⟨by decide, rfl⟩ (congrArg Prod.fst (J.1.1 125 (12, 92) rfl)) rfl (by decide) rfl rfl ⟨by decide, by decide⟩ (sf_X12_told_r125  hD J  (fun v18 h J S17 => ?_))
              have ev18 := jfull v18
              have Sm := jSm_tr rfl Sm S17
              show jX m_X12_fact 4 0 0 78 [(0, .ref 125), (1, .int a1), (2, .int a2), (3, .int a3), (4, .int a4), (5, .int a5), (6, .int a6)] [.int v18] _ 0 0 _
              refine x_iret rfl rfl ?_
              exact hQ _ _ J Sm _ _ _ _ _ (jmc S17 rfl (jmo w1 rfl zp0)) (jmc S17 rfl (jmo w1 rfl zp1)) (jmc S17 rfl (jmo w1 rfl zp2)) (jmc S17 rfl (jmo w1 rfl zp3)) (jmc S17 rfl (jmo w1 rfl zp4)) (by omega)
            ·
              refine x_aloadn (x := 125) rfl rfl ?_
              refine x_iloadn (x := a1) rfl rfl ?_
              refine x_iconst (v := 3) rfl ki_3 ?_
              refine z_idiv rfl rfl jk_3 (by omega) (by omega) (fun v19 ev19 => ?_)
              refine x_inv (N := m_X12_isLine) (As := [.int v19]) (b := 125) (st := []) (dx9 := 2) (mc := 0) (ms := 0) (host := "") 12 rfl t_X12_isLine ⟨Or.inl q_12_293, i_X12_isLine.1, i_X12_isLine.2⟩ ⟨by decide, rfl⟩ (congrArg Prod.fst (J.1.1 125 (12, 92) rfl)) rfl (by decide) rfl rfl ⟨by decide, by decide⟩ (jC.of rfl k_X12_isLine rfl ?_)
              show jX m_X12_isLine 2 0 0 0 [(0, .ref 125), (1, .int v19)] [] _ 0 0 _
              refine x_iloadn (x := v19) rfl rfl ?_
              refine z_i2l rfl rfl (fun v20 ev20 => ?_)
              refine x_lconst (v := 0) rfl kl_0 ?_
              refine x_aloadn (x := 125) rfl rfl ?_
              refine z_getR (N := 92) (b := 126) 12 2 rfl f_12_8 rfl J rfl 16002 ⟨rfl, rfl⟩ rfl ?_
              refine x_iconst (v := 0) rfl ki_0 ?_
              refine z_ialdM (N := 50660) (v := p1) rfl J rfl jk_0 (by omega) (jmo w1 rfl zp1) ?_
              refine z_i2l rfl rfl (fun v21 ev21 => ?_)
              refine x_lconst (v := 1) rfl kl_1 ?_
              refine z_lsub rfl rfl jkl_1 (by omega) (fun v22 ev22 => ?_)
              refine x_inst (N := m_X12_in) (As := [.long v20, .long 0, .long v22]) (st := []) (dx9 := 1) (mc := 0) (ms := 0) (host := "") rfl t_X12_in ⟨Or.inl q_12_188, s_X12_in⟩ rfl (by decide) rfl rfl ⟨by decide, by decide⟩ (zc_X12_in rfl jkl_0 rfl (fun v23 ev23 => ?_))
              show jX m_X12_isLine 2 0 0 15 [(0, .ref 125), (1, .int v19)] [.int v23] _ 0 0 _
              refine x_zret rfl rfl (jz01 (by omega)) ?_
              show jX m_X12_isMention 3 0 0 11 [(0, .ref 125), (1, .int a1)] [.int v23] _ 0 0 _
              refine x_ifeq (tgt := 34) rfl rfl (ti_eq rfl jk_0 ⟨fun c24 => ?_, fun c24 => ?_⟩)
              ·
                refine x_iconst (v := 0) rfl ki_0 ?_
                refine x_zret rfl rfl (by decide) ?_
                show jX m_X12_fact 4 0 0 69 [(0, .ref 125), (1, .int a1), (2, .int a2), (3, .int a3), (4, .int a4), (5, .int a5), (6, .int a6)] [.int 0] _ 0 0 _
                refine x_ifne (tgt := 79) rfl rfl (ti_ne jk_0 jk_0 (bn_f (by omega) ?_))
                refine x_aloadn (x := 125) rfl rfl ?_
                refine x_bipush (v := (-2)) rfl kb_m2 ?_
                refine x_inv (N := m_X12_told) (As := [.int (-2)]) (b := 125) (st := []) (dx9 := 1) (mc := 0) (ms := 0) (host := "") 12 rfl t_X12_told ⟨Or.inl q_12_197, i_X12_told.1, i_X12_told.2⟩ ⟨by decide, rfl⟩ (congrArg Prod.fst (J.1.1 125 (12, 92) rfl)) rfl (by decide) rfl rfl ⟨by decide, by decide⟩ (sf_X12_told_r125  hD J  (fun v26 h J S25 => ?_))
                have ev26 := jfull v26
                have Sm := jSm_tr rfl Sm S25
                show jX m_X12_fact 4 0 0 78 [(0, .ref 125), (1, .int a1), (2, .int a2), (3, .int a3), (4, .int a4), (5, .int a5), (6, .int a6)] [.int v26] _ 0 0 _
                refine x_iret rfl rfl ?_
                exact hQ _ _ J Sm _ _ _ _ _ (jmc S25 rfl (jmo w1 rfl zp0)) (jmc S25 rfl (jmo w1 rfl zp1)) (jmc S25 rfl (jmo w1 rfl zp2)) (jmc S25 rfl (jmo w1 rfl zp3)) (jmc S25 rfl (jmo w1 rfl zp4)) (by omega)
              ·
                refine x_iloadn (x := a1) rfl rfl ?_
                refine x_iconst (v := 3) rfl ki_3 ?_
                refine z_irem rfl rfl jk_3 (by omega) (by omega) (fun v27 ev27 => ?_)
                refine x_aloadn (x := 125) rfl rfl ?_
                refine x_iloadn (x := a1) rfl rfl ?_
                refine x_iconst (v := 3) rfl ki_3 ?_
                refine z_idiv rfl rfl jk_3 (by omega) (by omega) (fun v28 ev28 => ?_)
                refine x_inv (N := m_X12_bookOf) (As := [.int v28]) (b := 125) (st := [.int v27]) (dx9 := 2) (mc := 0) (ms := 0) (host := "") 12 rfl t_X12_bookOf ⟨Or.inl q_12_299, i_X12_bookOf.1, i_X12_bookOf.2⟩ ⟨by decide, rfl⟩ (congrArg Prod.fst (J.1.1 125 (12, 92) rfl)) rfl (by decide) rfl rfl ⟨by decide, by decide⟩ (jC.of rfl k_X12_bookOf rfl ?_)
                show jX m_X12_bookOf 2 0 0 0 [(0, .ref 125), (1, .int v28)] [] _ 0 0 _
                refine x_aloadn (x := 125) rfl rfl ?_
                refine z_getR (N := 92) (b := 126) 12 2 rfl f_12_8 rfl J rfl 16002 ⟨rfl, rfl⟩ rfl ?_
                refine x_aloadn (x := 125) rfl rfl ?_
                refine x_iloadn (x := v28) rfl rfl ?_
                refine x_inv (N := m_X12_at) (As := [.int v28]) (b := 125) (st := [.ref 126]) (dx9 := 1) (mc := 0) (ms := 0) (host := "") 12 rfl t_X12_at ⟨Or.inl q_12_254, i_X12_at.1, i_X12_at.2⟩ ⟨by decide, rfl⟩ (congrArg Prod.fst (J.1.1 125 (12, 92) rfl)) rfl (by decide) rfl rfl ⟨by decide, by decide⟩ (jC.of rfl k_X12_at rfl ?_)
                show jX m_X12_at 1 0 0 0 [(0, .ref 125), (1, .int v28)] [] _ 0 0 _
                refine x_bipush (v := 20) rfl kb_20 ?_
                refine x_bipush (v := 90) rfl kb_90 ?_
                refine x_iloadn (x := v28) rfl rfl ?_
                refine z_imul rfl jk_90 rfl (by omega) (fun v29 ev29 => ?_)
                refine z_iadd rfl jk_20 rfl (by omega) (fun v30 ev30 => ?_)
                refine x_iret rfl rfl ?_
                show jX m_X12_bookOf 2 0 0 9 [(0, .ref 125), (1, .int v28)] [.int v30, .ref 126] _ 0 0 _
                refine z_iald (N := 50660) rfl J rfl sg_126_20_18020_90_0_1 rfl (by omega) (fun v31 qv31 ev31 => ?_)
                refine x_iret rfl rfl ?_
                show jX m_X12_isMention 3 0 0 24 [(0, .ref 125), (1, .int a1)] [.int v31, .int v27] _ 0 0 _
                refine x_inst (N := m_X12_rolesOf) (As := [.int v31]) (st := [.int v27]) (dx9 := 2) (mc := 0) (ms := 0) (host := "") rfl t_X12_rolesOf ⟨Or.inl q_12_286, s_X12_rolesOf⟩ rfl (by decide) rfl rfl ⟨by decide, by decide⟩ (jC.of rfl k_X12_rolesOf rfl ?_)
                show jX m_X12_rolesOf 2 0 0 0 [(0, .int v31)] [] _ 0 0 _
                refine x_iloadn (x := v31) rfl rfl ?_
                refine x_ifne (tgt := 8) rfl rfl (ti_ne rfl jk_0 ⟨fun c32 => ?_, fun c32 => ?_⟩)
                ·
                  refine x_iloadn (x := v31) rfl rfl ?_
                  refine x_iconst (v := 1) rfl ki_1 ?_
                  refine x_icne (tgt := 17) rfl rfl (ti_ne rfl jk_1 ⟨fun c33 => ?_, fun c33 => ?_⟩)
                  ·
                    refine x_iconst (v := 1) rfl ki_1 ?_
                    refine x_iret rfl rfl ?_
                    show jX m_X12_isMention 3 0 0 27 [(0, .ref 125), (1, .int a1)] [.int 1, .int v27] _ 0 0 _
                    refine x_icge (tgt := 34) rfl rfl (ti_ge rfl jk_1 ⟨fun c34 => ?_, fun c34 => ?_⟩)
                    ·
                      refine x_iconst (v := 0) rfl ki_0 ?_
                      refine x_zret rfl rfl (by decide) ?_
                      show jX m_X12_fact 4 0 0 69 [(0, .ref 125), (1, .int a1), (2, .int a2), (3, .int a3), (4, .int a4), (5, .int a5), (6, .int a6)] [.int 0] _ 0 0 _
                      refine x_ifne (tgt := 79) rfl rfl (ti_ne jk_0 jk_0 (bn_f (by omega) ?_))
                      refine x_aloadn (x := 125) rfl rfl ?_
                      refine x_bipush (v := (-2)) rfl kb_m2 ?_
                      refine x_inv (N := m_X12_told) (As := [.int (-2)]) (b := 125) (st := []) (dx9 := 1) (mc := 0) (ms := 0) (host := "") 12 rfl t_X12_told ⟨Or.inl q_12_197, i_X12_told.1, i_X12_told.2⟩ ⟨by decide, rfl⟩ (congrArg Prod.fst (J.1.1 125 (12, 92) rfl)) rfl (by decide) rfl rfl ⟨by decide, by decide⟩ (sf_X12_told_r125  hD J  (fun v36 h J S35 => ?_))
                      have ev36 := jfull v36
                      have Sm := jSm_tr rfl Sm S35
                      show jX m_X12_fact 4 0 0 78 [(0, .ref 125), (1, .int a1), (2, .int a2), (3, .int a3), (4, .int a4), (5, .int a5), (6, .int a6)] [.int v36] _ 0 0 _
                      refine x_iret rfl rfl ?_
                      exact hQ _ _ J Sm _ _ _ _ _ (jmc S35 rfl (jmo w1 rfl zp0)) (jmc S35 rfl (jmo w1 rfl zp1)) (jmc S35 rfl (jmo w1 rfl zp2)) (jmc S35 rfl (jmo w1 rfl zp3)) (jmc S35 rfl (jmo w1 rfl zp4)) (by omega)
                    ·
                      refine x_iconst (v := 1) rfl ki_1 ?_
                      refine x_goto (tgt := 35) rfl rfl ?_
                      refine x_zret rfl rfl (by decide) ?_
                      show jX m_X12_fact 4 0 0 69 [(0, .ref 125), (1, .int a1), (2, .int a2), (3, .int a3), (4, .int a4), (5, .int a5), (6, .int a6)] [.int 1] _ 0 0 _
                      refine x_ifne (tgt := 79) rfl rfl (ti_ne jk_1 jk_0 (bn_t (by omega) ?_))
                      refine x_aloadn (x := 125) rfl rfl ?_
                      refine z_getR (N := 92) (b := 126) 12 2 rfl f_12_8 rfl J rfl 16002 ⟨rfl, rfl⟩ rfl ?_
                      refine x_iconst (v := 5) rfl ki_5 ?_
                      refine z_ialdM (N := 50660) (v := p3) rfl J rfl jk_5 (by omega) (jmo w1 rfl zp3) ?_
                      refine x_bipush (v := 100) rfl kb_100 ?_
                      refine x_icne (tgt := 97) rfl rfl (ti_ne rfl jk_100 ⟨fun c37 => ?_, fun c37 => ?_⟩)
                      ·
                        refine x_ldcw (v := 46540) rfl z_12_700 ?_
                        refine x_bipush (v := 6) rfl kb_6 ?_
                        refine x_aloadn (x := 125) rfl rfl ?_
                        refine z_getR (N := 92) (b := 126) 12 2 rfl f_12_8 rfl J rfl 16002 ⟨rfl, rfl⟩ rfl ?_
                        refine x_iconst (v := 5) rfl ki_5 ?_
                        refine z_ialdM (N := 50660) (v := p3) rfl J rfl jk_5 (by omega) (jmo w1 rfl zp3) ?_
                        refine z_imul rfl jk_6 rfl (by omega) (fun v38 ev38 => ?_)
                        refine z_iadd rfl jk_46540 rfl (by omega) (fun v39 ev39 => ?_)
                        refine x_istore (lsx9 := [(7, .int v39), (0, .ref 125), (1, .int a1), (2, .int a2), (3, .int a3), (4, .int a4), (5, .int a5), (6, .int a6)]) rfl rfl rfl ?_
                        refine x_aloadn (x := 125) rfl rfl ?_
                        refine z_getR (N := 92) (b := 126) 12 2 rfl f_12_8 rfl J rfl 16002 ⟨rfl, rfl⟩ rfl ?_
                        refine x_iload (x := v39) rfl rfl ?_
                        refine x_iloadn (x := a1) rfl rfl ?_
                        refine z_iast (N := 50660) (l := 46540) (u := 47140) (w := a1.toInt) rfl hD J Sm rfl rfl rfl (by omega) rfl (wr_126_46540 (by omega) (fun q1 q2 q3 q4 => by omega) (fun q1 q2 q3 q4 => by omega) (fun q1 q2 q3 q4 => by omega) (fun q1 q2 q3 q4 => by omega) (fun q1 q2 q3 q4 => by omega) (fun q1 q2 q3 q4 => by omega)) rfl (fun h w40 J Sm => ?_)
                        refine x_aloadn (x := 125) rfl rfl ?_
                        refine z_getR (N := 92) (b := 126) 12 2 rfl f_12_8 rfl J rfl 16002 ⟨rfl, rfl⟩ rfl ?_
                        refine x_iload (x := v39) rfl rfl ?_
                        refine x_iconst (v := 1) rfl ki_1 ?_
                        refine z_iadd rfl rfl jk_1 (by omega) (fun v41 ev41 => ?_)
                        refine x_iloadn (x := a2) rfl rfl ?_
                        refine z_iast (N := 50660) (l := 46540) (u := 47140) (w := a2.toInt) rfl hD J Sm rfl rfl rfl (by omega) rfl (wr_126_46540 (by omega) (fun q1 q2 q3 q4 => by omega) (fun q1 q2 q3 q4 => by omega) (fun q1 q2 q3 q4 => by omega) (fun q1 q2 q3 q4 => by omega) (fun q1 q2 q3 q4 => by omega) (fun q1 q2 q3 q4 => by omega)) rfl (fun h w42 J Sm => ?_)
                        refine x_aloadn (x := 125) rfl rfl ?_
                        refine z_getR (N := 92) (b := 126) 12 2 rfl f_12_8 rfl J rfl 16002 ⟨rfl, rfl⟩ rfl ?_
                        refine x_iload (x := v39) rfl rfl ?_
                        refine x_iconst (v := 2) rfl ki_2 ?_
                        refine z_iadd rfl rfl jk_2 (by omega) (fun v43 ev43 => ?_)
                        refine x_iloadn (x := a3) rfl rfl ?_
                        refine z_iast (N := 50660) (l := 46540) (u := 47140) (w := a3.toInt) rfl hD J Sm rfl rfl rfl (by omega) rfl (wr_126_46540 (by omega) (fun q1 q2 q3 q4 => by omega) (fun q1 q2 q3 q4 => by omega) (fun q1 q2 q3 q4 => by omega) (fun q1 q2 q3 q4 => by omega) (fun q1 q2 q3 q4 => by omega) (fun q1 q2 q3 q4 => by omega)) rfl (fun h w44 J Sm => ?_)
                        refine x_aloadn (x := 125) rfl rfl ?_
                        refine z_getR (N := 92) (b := 126) 12 2 rfl f_12_8 rfl J rfl 16002 ⟨rfl, rfl⟩ rfl ?_
                        refine x_iload (x := v39) rfl rfl ?_
                        refine x_iconst (v := 3) rfl ki_3 ?_
                        refine z_iadd rfl rfl jk_3 (by omega) (fun v45 ev45 => ?_)
                        refine x_iload (x := a4) rfl rfl ?_
                        refine z_iast (N := 50660) (l := 46540) (u := 47140) (w := a4.toInt) rfl hD J Sm rfl rfl rfl (by omega) rfl (wr_126_46540 (by omega) (fun q1 q2 q3 q4 => by omega) (fun q1 q2 q3 q4 => by omega) (fun q1 q2 q3 q4 => by omega) (fun q1 q2 q3 q4 => by omega) (fun q1 q2 q3 q4 => by omega) (fun q1 q2 q3 q4 => by omega)) rfl (fun h w46 J Sm => ?_)
                        refine x_aloadn (x := 125) rfl rfl ?_
                        refine z_getR (N := 92) (b := 126) 12 2 rfl f_12_8 rfl J rfl 16002 ⟨rfl, rfl⟩ rfl ?_
                        refine x_iload (x := v39) rfl rfl ?_
                        refine x_iconst (v := 4) rfl ki_4 ?_
                        refine z_iadd rfl rfl jk_4 (by omega) (fun v47 ev47 => ?_)
                        refine x_iload (x := a5) rfl rfl ?_
                        refine z_iast (N := 50660) (l := 46540) (u := 47140) (w := a5.toInt) rfl hD J Sm rfl rfl rfl (by omega) rfl (wr_126_46540 (by omega) (fun q1 q2 q3 q4 => by omega) (fun q1 q2 q3 q4 => by omega) (fun q1 q2 q3 q4 => by omega) (fun q1 q2 q3 q4 => by omega) (fun q1 q2 q3 q4 => by omega) (fun q1 q2 q3 q4 => by omega)) rfl (fun h w48 J Sm => ?_)
                        refine x_aloadn (x := 125) rfl rfl ?_
                        refine z_getR (N := 92) (b := 126) 12 2 rfl f_12_8 rfl J rfl 16002 ⟨rfl, rfl⟩ rfl ?_
                        refine x_iload (x := v39) rfl rfl ?_
                        refine x_iconst (v := 5) rfl ki_5 ?_
                        refine z_iadd rfl rfl jk_5 (by omega) (fun v49 ev49 => ?_)
                        refine x_iload (x := a6) rfl rfl ?_
                        refine z_iast (N := 50660) (l := 46540) (u := 47140) (w := a6.toInt) rfl hD J Sm rfl rfl rfl (by omega) rfl (wr_126_46540 (by omega) (fun q1 q2 q3 q4 => by omega) (fun q1 q2 q3 q4 => by omega) (fun q1 q2 q3 q4 => by omega) (fun q1 q2 q3 q4 => by omega) (fun q1 q2 q3 q4 => by omega) (fun q1 q2 q3 q4 => by omega)) rfl (fun h w50 J Sm => ?_)
                        refine x_aloadn (x := 125) rfl rfl ?_
                        refine z_getR (N := 92) (b := 126) 12 2 rfl f_12_8 rfl J rfl 16002 ⟨rfl, rfl⟩ rfl ?_
                        refine x_iconst (v := 5) rfl ki_5 ?_
                        refine x_dup2 rfl rfl rfl ?_
                        refine z_ialdM (N := 50660) (v := p3) rfl J rfl jk_5 (by omega) (jmo2 w50 rfl jk_5 (by omega) (jmo2 w48 rfl jk_5 (by omega) (jmo2 w46 rfl jk_5 (by omega) (jmo2 w44 rfl jk_5 (by omega) (jmo2 w42 rfl jk_5 (by omega) (jmo2 w40 rfl jk_5 (by omega) (jmo w1 rfl zp3))))))) ?_
                        refine x_iconst (v := 1) rfl ki_1 ?_
                        refine z_iadd rfl rfl jk_1 (by omega) (fun v51 ev51 => ?_)
                        refine z_iast (N := 50660) (l := 5) (u := 6) (w := v51.toInt) rfl hD J Sm rfl rfl jk_5 (by omega) rfl (wr_126_5 (by omega) (fun q1 q2 q3 q4 => by omega)) rfl (fun h w52 J Sm => ?_)
                        refine x_aloadn (x := 125) rfl rfl ?_
                        refine x_iconst (v := 2) rfl ki_2 ?_
                        refine x_aloadn (x := 125) rfl rfl ?_
                        refine z_getR (N := 92) (b := 126) 12 2 rfl f_12_8 rfl J rfl 16002 ⟨rfl, rfl⟩ rfl ?_
                        refine x_iconst (v := 5) rfl ki_5 ?_
                        refine z_ialdM (N := 50660) (v := v51) rfl J rfl jk_5 (by omega) (jmw w52) ?_
                        refine x_iconst (v := 1) rfl ki_1 ?_
                        refine z_isub rfl rfl jk_1 (by omega) (fun v53 ev53 => ?_)
                        refine x_inv (N := m_X12_thing) (As := [.int 2, .int v53]) (b := 125) (st := []) (dx9 := 3) (mc := 0) (ms := 0) (host := "") 12 rfl t_X12_thing ⟨Or.inl q_12_289, i_X12_thing.1, i_X12_thing.2⟩ ⟨by decide, rfl⟩ (congrArg Prod.fst (J.1.1 125 (12, 92) rfl)) rfl (by decide) rfl rfl ⟨by decide, by decide⟩ (jC.of rfl k_X12_thing rfl ?_)
                        show jX m_X12_thing 3 0 0 0 [(0, .ref 125), (1, .int 2), (2, .int v53)] [] _ 0 0 _
                        refine x_ldc (v := 49920) rfl z_12_194 ?_
                        refine x_iconst (v := 2) rfl ki_2 ?_
                        refine x_aloadn (x := 125) rfl rfl ?_
                        refine z_getR (N := 92) (b := 126) 12 2 rfl f_12_8 rfl J rfl 16002 ⟨rfl, rfl⟩ rfl ?_
                        refine x_bipush (v := 16) rfl kb_16 ?_
                        refine z_ialdM (N := 50660) (v := p0) rfl J rfl jk_16 (by omega) (jmo2 w52 jk_5 jk_16 (by omega) (jmo2 w50 rfl jk_16 (by omega) (jmo2 w48 rfl jk_16 (by omega) (jmo2 w46 rfl jk_16 (by omega) (jmo2 w44 rfl jk_16 (by omega) (jmo2 w42 rfl jk_16 (by omega) (jmo2 w40 rfl jk_16 (by omega) (jmo w1 rfl zp0)))))))) ?_
                        refine z_imul rfl jk_2 rfl (by omega) (fun v54 ev54 => ?_)
                        refine z_iadd rfl jk_49920 rfl (by omega) (fun v55 ev55 => ?_)
                        refine x_istoren (lsx9 := [(3, .int v55), (0, .ref 125), (1, .int 2), (2, .int v53)]) rfl rfl rfl ?_
                        refine x_aloadn (x := 125) rfl rfl ?_
                        refine z_getR (N := 92) (b := 126) 12 2 rfl f_12_8 rfl J rfl 16002 ⟨rfl, rfl⟩ rfl ?_
                        refine x_iloadn (x := v55) rfl rfl ?_
                        refine x_iloadn (x := 2) rfl rfl ?_
                        refine z_iast (N := 50660) (l := 49920) (u := 50660) (w := 2) rfl hD J Sm rfl rfl rfl (by omega) jk_2 (wr_126_49920 (by omega) (fun q1 q2 q3 q4 => by omega) (fun q1 q2 q3 q4 => by omega)) rfl (fun h w56 J Sm => ?_)
                        refine x_aloadn (x := 125) rfl rfl ?_
                        refine z_getR (N := 92) (b := 126) 12 2 rfl f_12_8 rfl J rfl 16002 ⟨rfl, rfl⟩ rfl ?_
                        refine x_iloadn (x := v55) rfl rfl ?_
                        refine x_iconst (v := 1) rfl ki_1 ?_
                        refine z_iadd rfl rfl jk_1 (by omega) (fun v57 ev57 => ?_)
                        refine x_iloadn (x := v53) rfl rfl ?_
                        refine z_iast (N := 50660) (l := 49920) (u := 50660) (w := v53.toInt) rfl hD J Sm rfl rfl rfl (by omega) rfl (wr_126_49920 (by omega) (fun q1 q2 q3 q4 => by omega) (fun q1 q2 q3 q4 => by omega)) rfl (fun h w58 J Sm => ?_)
                        refine x_aloadn (x := 125) rfl rfl ?_
                        refine z_getR (N := 92) (b := 126) 12 2 rfl f_12_8 rfl J rfl 16002 ⟨rfl, rfl⟩ rfl ?_
                        refine x_bipush (v := 16) rfl kb_16 ?_
                        refine x_dup2 rfl rfl rfl ?_
                        refine z_ialdM (N := 50660) (v := p0) rfl J rfl jk_16 (by omega) (jmo2 w58 rfl jk_16 (by omega) (jmo2 w56 rfl jk_16 (by omega) (jmo2 w52 jk_5 jk_16 (by omega) (jmo2 w50 rfl jk_16 (by omega) (jmo2 w48 rfl jk_16 (by omega) (jmo2 w46 rfl jk_16 (by omega) (jmo2 w44 rfl jk_16 (by omega) (jmo2 w42 rfl jk_16 (by omega) (jmo2 w40 rfl jk_16 (by omega) (jmo w1 rfl zp0)))))))))) ?_
                        refine x_iconst (v := 1) rfl ki_1 ?_
                        refine z_iadd rfl rfl jk_1 (by omega) (fun v59 ev59 => ?_)
                        refine z_iast (N := 50660) (l := 16) (u := 17) (w := v59.toInt) rfl hD J Sm rfl rfl jk_16 (by omega) rfl (wr_126_16 (by omega) (fun q1 q2 q3 q4 => by omega)) rfl (fun h w60 J Sm => ?_)
                        refine x_vret rfl rfl ?_
                        show jX m_X12_fact 4 0 0 196 [(7, .int v39), (0, .ref 125), (1, .int a1), (2, .int a2), (3, .int a3), (4, .int a4), (5, .int a5), (6, .int a6)] [] _ 0 0 _
                        refine x_aloadn (x := 125) rfl rfl ?_
                        refine x_aloadn (x := 125) rfl rfl ?_
                        refine z_getR (N := 92) (b := 126) 12 2 rfl f_12_8 rfl J rfl 16002 ⟨rfl, rfl⟩ rfl ?_
                        refine x_iconst (v := 5) rfl ki_5 ?_
                        refine z_ialdM (N := 50660) (v := v51) rfl J rfl jk_5 (by omega) (jmo2 w60 jk_16 jk_5 (by omega) (jmo2 w58 rfl jk_5 (by omega) (jmo2 w56 rfl jk_5 (by omega) (jmw w52)))) ?_
                        refine x_inv (N := m_X12_told) (As := [.int v51]) (b := 125) (st := []) (dx9 := 1) (mc := 0) (ms := 0) (host := "") 12 rfl t_X12_told ⟨Or.inl q_12_197, i_X12_told.1, i_X12_told.2⟩ ⟨by decide, rfl⟩ (congrArg Prod.fst (J.1.1 125 (12, 92) rfl)) rfl (by decide) rfl rfl ⟨by decide, by decide⟩ (sf_X12_told_r125  hD J  (fun v62 h J S61 => ?_))
                        have ev62 := jfull v62
                        have Sm := jSm_tr rfl Sm S61
                        show jX m_X12_fact 4 0 0 206 [(7, .int v39), (0, .ref 125), (1, .int a1), (2, .int a2), (3, .int a3), (4, .int a4), (5, .int a5), (6, .int a6)] [.int v62] _ 0 0 _
                        refine x_iret rfl rfl ?_
                        exact hQ _ _ J Sm _ _ _ _ _ (jmc S61 rfl (jmw w60)) (jmc S61 rfl (jmo2 w60 jk_16 jk_0 (by omega) (jmo2 w58 rfl jk_0 (by omega) (jmo2 w56 rfl jk_0 (by omega) (jmo2 w52 jk_5 jk_0 (by omega) (jmo2 w50 rfl jk_0 (by omega) (jmo2 w48 rfl jk_0 (by omega) (jmo2 w46 rfl jk_0 (by omega) (jmo2 w44 rfl jk_0 (by omega) (jmo2 w42 rfl jk_0 (by omega) (jmo2 w40 rfl jk_0 (by omega) (jmo w1 rfl zp1)))))))))))) (jmc S61 rfl (jmo2 w60 jk_16 jk_4 (by omega) (jmo2 w58 rfl jk_4 (by omega) (jmo2 w56 rfl jk_4 (by omega) (jmo2 w52 jk_5 jk_4 (by omega) (jmo2 w50 rfl jk_4 (by omega) (jmo2 w48 rfl jk_4 (by omega) (jmo2 w46 rfl jk_4 (by omega) (jmo2 w44 rfl jk_4 (by omega) (jmo2 w42 rfl jk_4 (by omega) (jmo2 w40 rfl jk_4 (by omega) (jmo w1 rfl zp2)))))))))))) (jmc S61 rfl (jmo2 w60 jk_16 jk_5 (by omega) (jmo2 w58 rfl jk_5 (by omega) (jmo2 w56 rfl jk_5 (by omega) (jmw w52))))) (jmc S61 rfl (jmo2 w60 jk_16 jk_7 (by omega) (jmo2 w58 rfl jk_7 (by omega) (jmo2 w56 rfl jk_7 (by omega) (jmo2 w52 jk_5 jk_7 (by omega) (jmo2 w50 rfl jk_7 (by omega) (jmo2 w48 rfl jk_7 (by omega) (jmo2 w46 rfl jk_7 (by omega) (jmo2 w44 rfl jk_7 (by omega) (jmo2 w42 rfl jk_7 (by omega) (jmo2 w40 rfl jk_7 (by omega) (jmo w1 rfl zp4)))))))))))) (by omega)
                      ·
                        refine x_aloadn (x := 125) rfl rfl ?_
                        refine x_bipush (v := (-5)) rfl kb_m5 ?_
                        refine x_inv (N := m_X12_told) (As := [.int (-5)]) (b := 125) (st := []) (dx9 := 1) (mc := 0) (ms := 0) (host := "") 12 rfl t_X12_told ⟨Or.inl q_12_197, i_X12_told.1, i_X12_told.2⟩ ⟨by decide, rfl⟩ (congrArg Prod.fst (J.1.1 125 (12, 92) rfl)) rfl (by decide) rfl rfl ⟨by decide, by decide⟩ (sf_X12_told_r125  hD J  (fun v64 h J S63 => ?_))
                        have ev64 := jfull v64
                        have Sm := jSm_tr rfl Sm S63
                        show jX m_X12_fact 4 0 0 96 [(0, .ref 125), (1, .int a1), (2, .int a2), (3, .int a3), (4, .int a4), (5, .int a5), (6, .int a6)] [.int v64] _ 0 0 _
                        refine x_iret rfl rfl ?_
                        exact hQ _ _ J Sm _ _ _ _ _ (jmc S63 rfl (jmo w1 rfl zp0)) (jmc S63 rfl (jmo w1 rfl zp1)) (jmc S63 rfl (jmo w1 rfl zp2)) (jmc S63 rfl (jmo w1 rfl zp3)) (jmc S63 rfl (jmo w1 rfl zp4)) (by omega)
                  ·
                    refine x_iconst (v := 2) rfl ki_2 ?_
                    refine x_goto (tgt := 18) rfl rfl ?_
                    refine x_iret rfl rfl ?_
                    show jX m_X12_isMention 3 0 0 27 [(0, .ref 125), (1, .int a1)] [.int 2, .int v27] _ 0 0 _
                    refine x_icge (tgt := 34) rfl rfl (ti_ge rfl jk_2 ⟨fun c65 => ?_, fun c65 => ?_⟩)
                    ·
                      refine x_iconst (v := 0) rfl ki_0 ?_
                      refine x_zret rfl rfl (by decide) ?_
                      show jX m_X12_fact 4 0 0 69 [(0, .ref 125), (1, .int a1), (2, .int a2), (3, .int a3), (4, .int a4), (5, .int a5), (6, .int a6)] [.int 0] _ 0 0 _
                      refine x_ifne (tgt := 79) rfl rfl (ti_ne jk_0 jk_0 (bn_f (by omega) ?_))
                      refine x_aloadn (x := 125) rfl rfl ?_
                      refine x_bipush (v := (-2)) rfl kb_m2 ?_
                      refine x_inv (N := m_X12_told) (As := [.int (-2)]) (b := 125) (st := []) (dx9 := 1) (mc := 0) (ms := 0) (host := "") 12 rfl t_X12_told ⟨Or.inl q_12_197, i_X12_told.1, i_X12_told.2⟩ ⟨by decide, rfl⟩ (congrArg Prod.fst (J.1.1 125 (12, 92) rfl)) rfl (by decide) rfl rfl ⟨by decide, by decide⟩ (sf_X12_told_r125  hD J  (fun v67 h J S66 => ?_))
                      have ev67 := jfull v67
                      have Sm := jSm_tr rfl Sm S66
                      show jX m_X12_fact 4 0 0 78 [(0, .ref 125), (1, .int a1), (2, .int a2), (3, .int a3), (4, .int a4), (5, .int a5), (6, .int a6)] [.int v67] _ 0 0 _
                      refine x_iret rfl rfl ?_
                      exact hQ _ _ J Sm _ _ _ _ _ (jmc S66 rfl (jmo w1 rfl zp0)) (jmc S66 rfl (jmo w1 rfl zp1)) (jmc S66 rfl (jmo w1 rfl zp2)) (jmc S66 rfl (jmo w1 rfl zp3)) (jmc S66 rfl (jmo w1 rfl zp4)) (by omega)
                    ·
                      refine x_iconst (v := 1) rfl ki_1 ?_
                      refine x_goto (tgt := 35) rfl rfl ?_
                      refine x_zret rfl rfl (by decide) ?_
                      show jX m_X12_fact 4 0 0 69 [(0, .ref 125), (1, .int a1), (2, .int a2), (3, .int a3), (4, .int a4), (5, .int a5), (6, .int a6)] [.int 1] _ 0 0 _
                      refine x_ifne (tgt := 79) rfl rfl (ti_ne jk_1 jk_0 (bn_t (by omega) ?_))
                      refine x_aloadn (x := 125) rfl rfl ?_
                      refine z_getR (N := 92) (b := 126) 12 2 rfl f_12_8 rfl J rfl 16002 ⟨rfl, rfl⟩ rfl ?_
                      refine x_iconst (v := 5) rfl ki_5 ?_
                      refine z_ialdM (N := 50660) (v := p3) rfl J rfl jk_5 (by omega) (jmo w1 rfl zp3) ?_
                      refine x_bipush (v := 100) rfl kb_100 ?_
                      refine x_icne (tgt := 97) rfl rfl (ti_ne rfl jk_100 ⟨fun c68 => ?_, fun c68 => ?_⟩)
                      ·
                        refine x_ldcw (v := 46540) rfl z_12_700 ?_
                        refine x_bipush (v := 6) rfl kb_6 ?_
                        refine x_aloadn (x := 125) rfl rfl ?_
                        refine z_getR (N := 92) (b := 126) 12 2 rfl f_12_8 rfl J rfl 16002 ⟨rfl, rfl⟩ rfl ?_
                        refine x_iconst (v := 5) rfl ki_5 ?_
                        refine z_ialdM (N := 50660) (v := p3) rfl J rfl jk_5 (by omega) (jmo w1 rfl zp3) ?_
                        refine z_imul rfl jk_6 rfl (by omega) (fun v69 ev69 => ?_)
                        refine z_iadd rfl jk_46540 rfl (by omega) (fun v70 ev70 => ?_)
                        refine x_istore (lsx9 := [(7, .int v70), (0, .ref 125), (1, .int a1), (2, .int a2), (3, .int a3), (4, .int a4), (5, .int a5), (6, .int a6)]) rfl rfl rfl ?_
                        refine x_aloadn (x := 125) rfl rfl ?_
                        refine z_getR (N := 92) (b := 126) 12 2 rfl f_12_8 rfl J rfl 16002 ⟨rfl, rfl⟩ rfl ?_
                        refine x_iload (x := v70) rfl rfl ?_
                        refine x_iloadn (x := a1) rfl rfl ?_
                        refine z_iast (N := 50660) (l := 46540) (u := 47140) (w := a1.toInt) rfl hD J Sm rfl rfl rfl (by omega) rfl (wr_126_46540 (by omega) (fun q1 q2 q3 q4 => by omega) (fun q1 q2 q3 q4 => by omega) (fun q1 q2 q3 q4 => by omega) (fun q1 q2 q3 q4 => by omega) (fun q1 q2 q3 q4 => by omega) (fun q1 q2 q3 q4 => by omega)) rfl (fun h w71 J Sm => ?_)
                        refine x_aloadn (x := 125) rfl rfl ?_
                        refine z_getR (N := 92) (b := 126) 12 2 rfl f_12_8 rfl J rfl 16002 ⟨rfl, rfl⟩ rfl ?_
                        refine x_iload (x := v70) rfl rfl ?_
                        refine x_iconst (v := 1) rfl ki_1 ?_
                        refine z_iadd rfl rfl jk_1 (by omega) (fun v72 ev72 => ?_)
                        refine x_iloadn (x := a2) rfl rfl ?_
                        refine z_iast (N := 50660) (l := 46540) (u := 47140) (w := a2.toInt) rfl hD J Sm rfl rfl rfl (by omega) rfl (wr_126_46540 (by omega) (fun q1 q2 q3 q4 => by omega) (fun q1 q2 q3 q4 => by omega) (fun q1 q2 q3 q4 => by omega) (fun q1 q2 q3 q4 => by omega) (fun q1 q2 q3 q4 => by omega) (fun q1 q2 q3 q4 => by omega)) rfl (fun h w73 J Sm => ?_)
                        refine x_aloadn (x := 125) rfl rfl ?_
                        refine z_getR (N := 92) (b := 126) 12 2 rfl f_12_8 rfl J rfl 16002 ⟨rfl, rfl⟩ rfl ?_
                        refine x_iload (x := v70) rfl rfl ?_
                        refine x_iconst (v := 2) rfl ki_2 ?_
                        refine z_iadd rfl rfl jk_2 (by omega) (fun v74 ev74 => ?_)
                        refine x_iloadn (x := a3) rfl rfl ?_
                        refine z_iast (N := 50660) (l := 46540) (u := 47140) (w := a3.toInt) rfl hD J Sm rfl rfl rfl (by omega) rfl (wr_126_46540 (by omega) (fun q1 q2 q3 q4 => by omega) (fun q1 q2 q3 q4 => by omega) (fun q1 q2 q3 q4 => by omega) (fun q1 q2 q3 q4 => by omega) (fun q1 q2 q3 q4 => by omega) (fun q1 q2 q3 q4 => by omega)) rfl (fun h w75 J Sm => ?_)
                        refine x_aloadn (x := 125) rfl rfl ?_
                        refine z_getR (N := 92) (b := 126) 12 2 rfl f_12_8 rfl J rfl 16002 ⟨rfl, rfl⟩ rfl ?_
                        refine x_iload (x := v70) rfl rfl ?_
                        refine x_iconst (v := 3) rfl ki_3 ?_
                        refine z_iadd rfl rfl jk_3 (by omega) (fun v76 ev76 => ?_)
                        refine x_iload (x := a4) rfl rfl ?_
                        refine z_iast (N := 50660) (l := 46540) (u := 47140) (w := a4.toInt) rfl hD J Sm rfl rfl rfl (by omega) rfl (wr_126_46540 (by omega) (fun q1 q2 q3 q4 => by omega) (fun q1 q2 q3 q4 => by omega) (fun q1 q2 q3 q4 => by omega) (fun q1 q2 q3 q4 => by omega) (fun q1 q2 q3 q4 => by omega) (fun q1 q2 q3 q4 => by omega)) rfl (fun h w77 J Sm => ?_)
                        refine x_aloadn (x := 125) rfl rfl ?_
                        refine z_getR (N := 92) (b := 126) 12 2 rfl f_12_8 rfl J rfl 16002 ⟨rfl, rfl⟩ rfl ?_
                        refine x_iload (x := v70) rfl rfl ?_
                        refine x_iconst (v := 4) rfl ki_4 ?_
                        refine z_iadd rfl rfl jk_4 (by omega) (fun v78 ev78 => ?_)
                        refine x_iload (x := a5) rfl rfl ?_
                        refine z_iast (N := 50660) (l := 46540) (u := 47140) (w := a5.toInt) rfl hD J Sm rfl rfl rfl (by omega) rfl (wr_126_46540 (by omega) (fun q1 q2 q3 q4 => by omega) (fun q1 q2 q3 q4 => by omega) (fun q1 q2 q3 q4 => by omega) (fun q1 q2 q3 q4 => by omega) (fun q1 q2 q3 q4 => by omega) (fun q1 q2 q3 q4 => by omega)) rfl (fun h w79 J Sm => ?_)
                        refine x_aloadn (x := 125) rfl rfl ?_
                        refine z_getR (N := 92) (b := 126) 12 2 rfl f_12_8 rfl J rfl 16002 ⟨rfl, rfl⟩ rfl ?_
                        refine x_iload (x := v70) rfl rfl ?_
                        refine x_iconst (v := 5) rfl ki_5 ?_
                        refine z_iadd rfl rfl jk_5 (by omega) (fun v80 ev80 => ?_)
                        refine x_iload (x := a6) rfl rfl ?_
                        refine z_iast (N := 50660) (l := 46540) (u := 47140) (w := a6.toInt) rfl hD J Sm rfl rfl rfl (by omega) rfl (wr_126_46540 (by omega) (fun q1 q2 q3 q4 => by omega) (fun q1 q2 q3 q4 => by omega) (fun q1 q2 q3 q4 => by omega) (fun q1 q2 q3 q4 => by omega) (fun q1 q2 q3 q4 => by omega) (fun q1 q2 q3 q4 => by omega)) rfl (fun h w81 J Sm => ?_)
                        refine x_aloadn (x := 125) rfl rfl ?_
                        refine z_getR (N := 92) (b := 126) 12 2 rfl f_12_8 rfl J rfl 16002 ⟨rfl, rfl⟩ rfl ?_
                        refine x_iconst (v := 5) rfl ki_5 ?_
                        refine x_dup2 rfl rfl rfl ?_
                        refine z_ialdM (N := 50660) (v := p3) rfl J rfl jk_5 (by omega) (jmo2 w81 rfl jk_5 (by omega) (jmo2 w79 rfl jk_5 (by omega) (jmo2 w77 rfl jk_5 (by omega) (jmo2 w75 rfl jk_5 (by omega) (jmo2 w73 rfl jk_5 (by omega) (jmo2 w71 rfl jk_5 (by omega) (jmo w1 rfl zp3))))))) ?_
                        refine x_iconst (v := 1) rfl ki_1 ?_
                        refine z_iadd rfl rfl jk_1 (by omega) (fun v82 ev82 => ?_)
                        refine z_iast (N := 50660) (l := 5) (u := 6) (w := v82.toInt) rfl hD J Sm rfl rfl jk_5 (by omega) rfl (wr_126_5 (by omega) (fun q1 q2 q3 q4 => by omega)) rfl (fun h w83 J Sm => ?_)
                        refine x_aloadn (x := 125) rfl rfl ?_
                        refine x_iconst (v := 2) rfl ki_2 ?_
                        refine x_aloadn (x := 125) rfl rfl ?_
                        refine z_getR (N := 92) (b := 126) 12 2 rfl f_12_8 rfl J rfl 16002 ⟨rfl, rfl⟩ rfl ?_
                        refine x_iconst (v := 5) rfl ki_5 ?_
                        refine z_ialdM (N := 50660) (v := v82) rfl J rfl jk_5 (by omega) (jmw w83) ?_
                        refine x_iconst (v := 1) rfl ki_1 ?_
                        refine z_isub rfl rfl jk_1 (by omega) (fun v84 ev84 => ?_)
                        refine x_inv (N := m_X12_thing) (As := [.int 2, .int v84]) (b := 125) (st := []) (dx9 := 3) (mc := 0) (ms := 0) (host := "") 12 rfl t_X12_thing ⟨Or.inl q_12_289, i_X12_thing.1, i_X12_thing.2⟩ ⟨by decide, rfl⟩ (congrArg Prod.fst (J.1.1 125 (12, 92) rfl)) rfl (by decide) rfl rfl ⟨by decide, by decide⟩ (jC.of rfl k_X12_thing rfl ?_)
                        show jX m_X12_thing 3 0 0 0 [(0, .ref 125), (1, .int 2), (2, .int v84)] [] _ 0 0 _
                        refine x_ldc (v := 49920) rfl z_12_194 ?_
                        refine x_iconst (v := 2) rfl ki_2 ?_
                        refine x_aloadn (x := 125) rfl rfl ?_
                        refine z_getR (N := 92) (b := 126) 12 2 rfl f_12_8 rfl J rfl 16002 ⟨rfl, rfl⟩ rfl ?_
                        refine x_bipush (v := 16) rfl kb_16 ?_
                        refine z_ialdM (N := 50660) (v := p0) rfl J rfl jk_16 (by omega) (jmo2 w83 jk_5 jk_16 (by omega) (jmo2 w81 rfl jk_16 (by omega) (jmo2 w79 rfl jk_16 (by omega) (jmo2 w77 rfl jk_16 (by omega) (jmo2 w75 rfl jk_16 (by omega) (jmo2 w73 rfl jk_16 (by omega) (jmo2 w71 rfl jk_16 (by omega) (jmo w1 rfl zp0)))))))) ?_
                        refine z_imul rfl jk_2 rfl (by omega) (fun v85 ev85 => ?_)
                        refine z_iadd rfl jk_49920 rfl (by omega) (fun v86 ev86 => ?_)
                        refine x_istoren (lsx9 := [(3, .int v86), (0, .ref 125), (1, .int 2), (2, .int v84)]) rfl rfl rfl ?_
                        refine x_aloadn (x := 125) rfl rfl ?_
                        refine z_getR (N := 92) (b := 126) 12 2 rfl f_12_8 rfl J rfl 16002 ⟨rfl, rfl⟩ rfl ?_
                        refine x_iloadn (x := v86) rfl rfl ?_
                        refine x_iloadn (x := 2) rfl rfl ?_
                        refine z_iast (N := 50660) (l := 49920) (u := 50660) (w := 2) rfl hD J Sm rfl rfl rfl (by omega) jk_2 (wr_126_49920 (by omega) (fun q1 q2 q3 q4 => by omega) (fun q1 q2 q3 q4 => by omega)) rfl (fun h w87 J Sm => ?_)
                        refine x_aloadn (x := 125) rfl rfl ?_
                        refine z_getR (N := 92) (b := 126) 12 2 rfl f_12_8 rfl J rfl 16002 ⟨rfl, rfl⟩ rfl ?_
                        refine x_iloadn (x := v86) rfl rfl ?_
                        refine x_iconst (v := 1) rfl ki_1 ?_
                        refine z_iadd rfl rfl jk_1 (by omega) (fun v88 ev88 => ?_)
                        refine x_iloadn (x := v84) rfl rfl ?_
                        refine z_iast (N := 50660) (l := 49920) (u := 50660) (w := v84.toInt) rfl hD J Sm rfl rfl rfl (by omega) rfl (wr_126_49920 (by omega) (fun q1 q2 q3 q4 => by omega) (fun q1 q2 q3 q4 => by omega)) rfl (fun h w89 J Sm => ?_)
                        refine x_aloadn (x := 125) rfl rfl ?_
                        refine z_getR (N := 92) (b := 126) 12 2 rfl f_12_8 rfl J rfl 16002 ⟨rfl, rfl⟩ rfl ?_
                        refine x_bipush (v := 16) rfl kb_16 ?_
                        refine x_dup2 rfl rfl rfl ?_
                        refine z_ialdM (N := 50660) (v := p0) rfl J rfl jk_16 (by omega) (jmo2 w89 rfl jk_16 (by omega) (jmo2 w87 rfl jk_16 (by omega) (jmo2 w83 jk_5 jk_16 (by omega) (jmo2 w81 rfl jk_16 (by omega) (jmo2 w79 rfl jk_16 (by omega) (jmo2 w77 rfl jk_16 (by omega) (jmo2 w75 rfl jk_16 (by omega) (jmo2 w73 rfl jk_16 (by omega) (jmo2 w71 rfl jk_16 (by omega) (jmo w1 rfl zp0)))))))))) ?_
                        refine x_iconst (v := 1) rfl ki_1 ?_
                        refine z_iadd rfl rfl jk_1 (by omega) (fun v90 ev90 => ?_)
                        refine z_iast (N := 50660) (l := 16) (u := 17) (w := v90.toInt) rfl hD J Sm rfl rfl jk_16 (by omega) rfl (wr_126_16 (by omega) (fun q1 q2 q3 q4 => by omega)) rfl (fun h w91 J Sm => ?_)
                        refine x_vret rfl rfl ?_
                        show jX m_X12_fact 4 0 0 196 [(7, .int v70), (0, .ref 125), (1, .int a1), (2, .int a2), (3, .int a3), (4, .int a4), (5, .int a5), (6, .int a6)] [] _ 0 0 _
                        refine x_aloadn (x := 125) rfl rfl ?_
                        refine x_aloadn (x := 125) rfl rfl ?_
                        refine z_getR (N := 92) (b := 126) 12 2 rfl f_12_8 rfl J rfl 16002 ⟨rfl, rfl⟩ rfl ?_
                        refine x_iconst (v := 5) rfl ki_5 ?_
                        refine z_ialdM (N := 50660) (v := v82) rfl J rfl jk_5 (by omega) (jmo2 w91 jk_16 jk_5 (by omega) (jmo2 w89 rfl jk_5 (by omega) (jmo2 w87 rfl jk_5 (by omega) (jmw w83)))) ?_
                        refine x_inv (N := m_X12_told) (As := [.int v82]) (b := 125) (st := []) (dx9 := 1) (mc := 0) (ms := 0) (host := "") 12 rfl t_X12_told ⟨Or.inl q_12_197, i_X12_told.1, i_X12_told.2⟩ ⟨by decide, rfl⟩ (congrArg Prod.fst (J.1.1 125 (12, 92) rfl)) rfl (by decide) rfl rfl ⟨by decide, by decide⟩ (sf_X12_told_r125  hD J  (fun v93 h J S92 => ?_))
                        have ev93 := jfull v93
                        have Sm := jSm_tr rfl Sm S92
                        show jX m_X12_fact 4 0 0 206 [(7, .int v70), (0, .ref 125), (1, .int a1), (2, .int a2), (3, .int a3), (4, .int a4), (5, .int a5), (6, .int a6)] [.int v93] _ 0 0 _
                        refine x_iret rfl rfl ?_
                        exact hQ _ _ J Sm _ _ _ _ _ (jmc S92 rfl (jmw w91)) (jmc S92 rfl (jmo2 w91 jk_16 jk_0 (by omega) (jmo2 w89 rfl jk_0 (by omega) (jmo2 w87 rfl jk_0 (by omega) (jmo2 w83 jk_5 jk_0 (by omega) (jmo2 w81 rfl jk_0 (by omega) (jmo2 w79 rfl jk_0 (by omega) (jmo2 w77 rfl jk_0 (by omega) (jmo2 w75 rfl jk_0 (by omega) (jmo2 w73 rfl jk_0 (by omega) (jmo2 w71 rfl jk_0 (by omega) (jmo w1 rfl zp1)))))))))))) (jmc S92 rfl (jmo2 w91 jk_16 jk_4 (by omega) (jmo2 w89 rfl jk_4 (by omega) (jmo2 w87 rfl jk_4 (by omega) (jmo2 w83 jk_5 jk_4 (by omega) (jmo2 w81 rfl jk_4 (by omega) (jmo2 w79 rfl jk_4 (by omega) (jmo2 w77 rfl jk_4 (by omega) (jmo2 w75 rfl jk_4 (by omega) (jmo2 w73 rfl jk_4 (by omega) (jmo2 w71 rfl jk_4 (by omega) (jmo w1 rfl zp2)))))))))))) (jmc S92 rfl (jmo2 w91 jk_16 jk_5 (by omega) (jmo2 w89 rfl jk_5 (by omega) (jmo2 w87 rfl jk_5 (by omega) (jmw w83))))) (jmc S92 rfl (jmo2 w91 jk_16 jk_7 (by omega) (jmo2 w89 rfl jk_7 (by omega) (jmo2 w87 rfl jk_7 (by omega) (jmo2 w83 jk_5 jk_7 (by omega) (jmo2 w81 rfl jk_7 (by omega) (jmo2 w79 rfl jk_7 (by omega) (jmo2 w77 rfl jk_7 (by omega) (jmo2 w75 rfl jk_7 (by omega) (jmo2 w73 rfl jk_7 (by omega) (jmo2 w71 rfl jk_7 (by omega) (jmo w1 rfl zp4)))))))))))) (by omega)
                      ·
                        refine x_aloadn (x := 125) rfl rfl ?_
                        refine x_bipush (v := (-5)) rfl kb_m5 ?_
                        refine x_inv (N := m_X12_told) (As := [.int (-5)]) (b := 125) (st := []) (dx9 := 1) (mc := 0) (ms := 0) (host := "") 12 rfl t_X12_told ⟨Or.inl q_12_197, i_X12_told.1, i_X12_told.2⟩ ⟨by decide, rfl⟩ (congrArg Prod.fst (J.1.1 125 (12, 92) rfl)) rfl (by decide) rfl rfl ⟨by decide, by decide⟩ (sf_X12_told_r125  hD J  (fun v95 h J S94 => ?_))
                        have ev95 := jfull v95
                        have Sm := jSm_tr rfl Sm S94
                        show jX m_X12_fact 4 0 0 96 [(0, .ref 125), (1, .int a1), (2, .int a2), (3, .int a3), (4, .int a4), (5, .int a5), (6, .int a6)] [.int v95] _ 0 0 _
                        refine x_iret rfl rfl ?_
                        exact hQ _ _ J Sm _ _ _ _ _ (jmc S94 rfl (jmo w1 rfl zp0)) (jmc S94 rfl (jmo w1 rfl zp1)) (jmc S94 rfl (jmo w1 rfl zp2)) (jmc S94 rfl (jmo w1 rfl zp3)) (jmc S94 rfl (jmo w1 rfl zp4)) (by omega)
                ·
                  refine x_iconst (v := 3) rfl ki_3 ?_
                  refine x_goto (tgt := 18) rfl rfl ?_
                  refine x_iret rfl rfl ?_
                  show jX m_X12_isMention 3 0 0 27 [(0, .ref 125), (1, .int a1)] [.int 3, .int v27] _ 0 0 _
                  refine x_icge (tgt := 34) rfl rfl (ti_ge rfl jk_3 (br_f (by omega) ?_))
                  refine x_iconst (v := 1) rfl ki_1 ?_
                  refine x_goto (tgt := 35) rfl rfl ?_
                  refine x_zret rfl rfl (by decide) ?_
                  show jX m_X12_fact 4 0 0 69 [(0, .ref 125), (1, .int a1), (2, .int a2), (3, .int a3), (4, .int a4), (5, .int a5), (6, .int a6)] [.int 1] _ 0 0 _
                  refine x_ifne (tgt := 79) rfl rfl (ti_ne jk_1 jk_0 (bn_t (by omega) ?_))
                  refine x_aloadn (x := 125) rfl rfl ?_
                  refine z_getR (N := 92) (b := 126) 12 2 rfl f_12_8 rfl J rfl 16002 ⟨rfl, rfl⟩ rfl ?_
                  refine x_iconst (v := 5) rfl ki_5 ?_
                  refine z_ialdM (N := 50660) (v := p3) rfl J rfl jk_5 (by omega) (jmo w1 rfl zp3) ?_
                  refine x_bipush (v := 100) rfl kb_100 ?_
                  refine x_icne (tgt := 97) rfl rfl (ti_ne rfl jk_100 ⟨fun c96 => ?_, fun c96 => ?_⟩)
                  ·
                    refine x_ldcw (v := 46540) rfl z_12_700 ?_
                    refine x_bipush (v := 6) rfl kb_6 ?_
                    refine x_aloadn (x := 125) rfl rfl ?_
                    refine z_getR (N := 92) (b := 126) 12 2 rfl f_12_8 rfl J rfl 16002 ⟨rfl, rfl⟩ rfl ?_
                    refine x_iconst (v := 5) rfl ki_5 ?_
                    refine z_ialdM (N := 50660) (v := p3) rfl J rfl jk_5 (by omega) (jmo w1 rfl zp3) ?_
                    refine z_imul rfl jk_6 rfl (by omega) (fun v97 ev97 => ?_)
                    refine z_iadd rfl jk_46540 rfl (by omega) (fun v98 ev98 => ?_)
                    refine x_istore (lsx9 := [(7, .int v98), (0, .ref 125), (1, .int a1), (2, .int a2), (3, .int a3), (4, .int a4), (5, .int a5), (6, .int a6)]) rfl rfl rfl ?_
                    refine x_aloadn (x := 125) rfl rfl ?_
                    refine z_getR (N := 92) (b := 126) 12 2 rfl f_12_8 rfl J rfl 16002 ⟨rfl, rfl⟩ rfl ?_
                    refine x_iload (x := v98) rfl rfl ?_
                    refine x_iloadn (x := a1) rfl rfl ?_
                    refine z_iast (N := 50660) (l := 46540) (u := 47140) (w := a1.toInt) rfl hD J Sm rfl rfl rfl (by omega) rfl (wr_126_46540 (by omega) (fun q1 q2 q3 q4 => by omega) (fun q1 q2 q3 q4 => by omega) (fun q1 q2 q3 q4 => by omega) (fun q1 q2 q3 q4 => by omega) (fun q1 q2 q3 q4 => by omega) (fun q1 q2 q3 q4 => by omega)) rfl (fun h w99 J Sm => ?_)
                    refine x_aloadn (x := 125) rfl rfl ?_
                    refine z_getR (N := 92) (b := 126) 12 2 rfl f_12_8 rfl J rfl 16002 ⟨rfl, rfl⟩ rfl ?_
                    refine x_iload (x := v98) rfl rfl ?_
                    refine x_iconst (v := 1) rfl ki_1 ?_
                    refine z_iadd rfl rfl jk_1 (by omega) (fun v100 ev100 => ?_)
                    refine x_iloadn (x := a2) rfl rfl ?_
                    refine z_iast (N := 50660) (l := 46540) (u := 47140) (w := a2.toInt) rfl hD J Sm rfl rfl rfl (by omega) rfl (wr_126_46540 (by omega) (fun q1 q2 q3 q4 => by omega) (fun q1 q2 q3 q4 => by omega) (fun q1 q2 q3 q4 => by omega) (fun q1 q2 q3 q4 => by omega) (fun q1 q2 q3 q4 => by omega) (fun q1 q2 q3 q4 => by omega)) rfl (fun h w101 J Sm => ?_)
                    refine x_aloadn (x := 125) rfl rfl ?_
                    refine z_getR (N := 92) (b := 126) 12 2 rfl f_12_8 rfl J rfl 16002 ⟨rfl, rfl⟩ rfl ?_
                    refine x_iload (x := v98) rfl rfl ?_
                    refine x_iconst (v := 2) rfl ki_2 ?_
                    refine z_iadd rfl rfl jk_2 (by omega) (fun v102 ev102 => ?_)
                    refine x_iloadn (x := a3) rfl rfl ?_
                    refine z_iast (N := 50660) (l := 46540) (u := 47140) (w := a3.toInt) rfl hD J Sm rfl rfl rfl (by omega) rfl (wr_126_46540 (by omega) (fun q1 q2 q3 q4 => by omega) (fun q1 q2 q3 q4 => by omega) (fun q1 q2 q3 q4 => by omega) (fun q1 q2 q3 q4 => by omega) (fun q1 q2 q3 q4 => by omega) (fun q1 q2 q3 q4 => by omega)) rfl (fun h w103 J Sm => ?_)
                    refine x_aloadn (x := 125) rfl rfl ?_
                    refine z_getR (N := 92) (b := 126) 12 2 rfl f_12_8 rfl J rfl 16002 ⟨rfl, rfl⟩ rfl ?_
                    refine x_iload (x := v98) rfl rfl ?_
                    refine x_iconst (v := 3) rfl ki_3 ?_
                    refine z_iadd rfl rfl jk_3 (by omega) (fun v104 ev104 => ?_)
                    refine x_iload (x := a4) rfl rfl ?_
                    refine z_iast (N := 50660) (l := 46540) (u := 47140) (w := a4.toInt) rfl hD J Sm rfl rfl rfl (by omega) rfl (wr_126_46540 (by omega) (fun q1 q2 q3 q4 => by omega) (fun q1 q2 q3 q4 => by omega) (fun q1 q2 q3 q4 => by omega) (fun q1 q2 q3 q4 => by omega) (fun q1 q2 q3 q4 => by omega) (fun q1 q2 q3 q4 => by omega)) rfl (fun h w105 J Sm => ?_)
                    refine x_aloadn (x := 125) rfl rfl ?_
                    refine z_getR (N := 92) (b := 126) 12 2 rfl f_12_8 rfl J rfl 16002 ⟨rfl, rfl⟩ rfl ?_
                    refine x_iload (x := v98) rfl rfl ?_
                    refine x_iconst (v := 4) rfl ki_4 ?_
                    refine z_iadd rfl rfl jk_4 (by omega) (fun v106 ev106 => ?_)
                    refine x_iload (x := a5) rfl rfl ?_
                    refine z_iast (N := 50660) (l := 46540) (u := 47140) (w := a5.toInt) rfl hD J Sm rfl rfl rfl (by omega) rfl (wr_126_46540 (by omega) (fun q1 q2 q3 q4 => by omega) (fun q1 q2 q3 q4 => by omega) (fun q1 q2 q3 q4 => by omega) (fun q1 q2 q3 q4 => by omega) (fun q1 q2 q3 q4 => by omega) (fun q1 q2 q3 q4 => by omega)) rfl (fun h w107 J Sm => ?_)
                    refine x_aloadn (x := 125) rfl rfl ?_
                    refine z_getR (N := 92) (b := 126) 12 2 rfl f_12_8 rfl J rfl 16002 ⟨rfl, rfl⟩ rfl ?_
                    refine x_iload (x := v98) rfl rfl ?_
                    refine x_iconst (v := 5) rfl ki_5 ?_
                    refine z_iadd rfl rfl jk_5 (by omega) (fun v108 ev108 => ?_)
                    refine x_iload (x := a6) rfl rfl ?_
                    refine z_iast (N := 50660) (l := 46540) (u := 47140) (w := a6.toInt) rfl hD J Sm rfl rfl rfl (by omega) rfl (wr_126_46540 (by omega) (fun q1 q2 q3 q4 => by omega) (fun q1 q2 q3 q4 => by omega) (fun q1 q2 q3 q4 => by omega) (fun q1 q2 q3 q4 => by omega) (fun q1 q2 q3 q4 => by omega) (fun q1 q2 q3 q4 => by omega)) rfl (fun h w109 J Sm => ?_)
                    refine x_aloadn (x := 125) rfl rfl ?_
                    refine z_getR (N := 92) (b := 126) 12 2 rfl f_12_8 rfl J rfl 16002 ⟨rfl, rfl⟩ rfl ?_
                    refine x_iconst (v := 5) rfl ki_5 ?_
                    refine x_dup2 rfl rfl rfl ?_
                    refine z_ialdM (N := 50660) (v := p3) rfl J rfl jk_5 (by omega) (jmo2 w109 rfl jk_5 (by omega) (jmo2 w107 rfl jk_5 (by omega) (jmo2 w105 rfl jk_5 (by omega) (jmo2 w103 rfl jk_5 (by omega) (jmo2 w101 rfl jk_5 (by omega) (jmo2 w99 rfl jk_5 (by omega) (jmo w1 rfl zp3))))))) ?_
                    refine x_iconst (v := 1) rfl ki_1 ?_
                    refine z_iadd rfl rfl jk_1 (by omega) (fun v110 ev110 => ?_)
                    refine z_iast (N := 50660) (l := 5) (u := 6) (w := v110.toInt) rfl hD J Sm rfl rfl jk_5 (by omega) rfl (wr_126_5 (by omega) (fun q1 q2 q3 q4 => by omega)) rfl (fun h w111 J Sm => ?_)
                    refine x_aloadn (x := 125) rfl rfl ?_
                    refine x_iconst (v := 2) rfl ki_2 ?_
                    refine x_aloadn (x := 125) rfl rfl ?_
                    refine z_getR (N := 92) (b := 126) 12 2 rfl f_12_8 rfl J rfl 16002 ⟨rfl, rfl⟩ rfl ?_
                    refine x_iconst (v := 5) rfl ki_5 ?_
                    refine z_ialdM (N := 50660) (v := v110) rfl J rfl jk_5 (by omega) (jmw w111) ?_
                    refine x_iconst (v := 1) rfl ki_1 ?_
                    refine z_isub rfl rfl jk_1 (by omega) (fun v112 ev112 => ?_)
                    refine x_inv (N := m_X12_thing) (As := [.int 2, .int v112]) (b := 125) (st := []) (dx9 := 3) (mc := 0) (ms := 0) (host := "") 12 rfl t_X12_thing ⟨Or.inl q_12_289, i_X12_thing.1, i_X12_thing.2⟩ ⟨by decide, rfl⟩ (congrArg Prod.fst (J.1.1 125 (12, 92) rfl)) rfl (by decide) rfl rfl ⟨by decide, by decide⟩ (jC.of rfl k_X12_thing rfl ?_)
                    show jX m_X12_thing 3 0 0 0 [(0, .ref 125), (1, .int 2), (2, .int v112)] [] _ 0 0 _
                    refine x_ldc (v := 49920) rfl z_12_194 ?_
                    refine x_iconst (v := 2) rfl ki_2 ?_
                    refine x_aloadn (x := 125) rfl rfl ?_
                    refine z_getR (N := 92) (b := 126) 12 2 rfl f_12_8 rfl J rfl 16002 ⟨rfl, rfl⟩ rfl ?_
                    refine x_bipush (v := 16) rfl kb_16 ?_
                    refine z_ialdM (N := 50660) (v := p0) rfl J rfl jk_16 (by omega) (jmo2 w111 jk_5 jk_16 (by omega) (jmo2 w109 rfl jk_16 (by omega) (jmo2 w107 rfl jk_16 (by omega) (jmo2 w105 rfl jk_16 (by omega) (jmo2 w103 rfl jk_16 (by omega) (jmo2 w101 rfl jk_16 (by omega) (jmo2 w99 rfl jk_16 (by omega) (jmo w1 rfl zp0)))))))) ?_
                    refine z_imul rfl jk_2 rfl (by omega) (fun v113 ev113 => ?_)
                    refine z_iadd rfl jk_49920 rfl (by omega) (fun v114 ev114 => ?_)
                    refine x_istoren (lsx9 := [(3, .int v114), (0, .ref 125), (1, .int 2), (2, .int v112)]) rfl rfl rfl ?_
                    refine x_aloadn (x := 125) rfl rfl ?_
                    refine z_getR (N := 92) (b := 126) 12 2 rfl f_12_8 rfl J rfl 16002 ⟨rfl, rfl⟩ rfl ?_
                    refine x_iloadn (x := v114) rfl rfl ?_
                    refine x_iloadn (x := 2) rfl rfl ?_
                    refine z_iast (N := 50660) (l := 49920) (u := 50660) (w := 2) rfl hD J Sm rfl rfl rfl (by omega) jk_2 (wr_126_49920 (by omega) (fun q1 q2 q3 q4 => by omega) (fun q1 q2 q3 q4 => by omega)) rfl (fun h w115 J Sm => ?_)
                    refine x_aloadn (x := 125) rfl rfl ?_
                    refine z_getR (N := 92) (b := 126) 12 2 rfl f_12_8 rfl J rfl 16002 ⟨rfl, rfl⟩ rfl ?_
                    refine x_iloadn (x := v114) rfl rfl ?_
                    refine x_iconst (v := 1) rfl ki_1 ?_
                    refine z_iadd rfl rfl jk_1 (by omega) (fun v116 ev116 => ?_)
                    refine x_iloadn (x := v112) rfl rfl ?_
                    refine z_iast (N := 50660) (l := 49920) (u := 50660) (w := v112.toInt) rfl hD J Sm rfl rfl rfl (by omega) rfl (wr_126_49920 (by omega) (fun q1 q2 q3 q4 => by omega) (fun q1 q2 q3 q4 => by omega)) rfl (fun h w117 J Sm => ?_)
                    refine x_aloadn (x := 125) rfl rfl ?_
                    refine z_getR (N := 92) (b := 126) 12 2 rfl f_12_8 rfl J rfl 16002 ⟨rfl, rfl⟩ rfl ?_
                    refine x_bipush (v := 16) rfl kb_16 ?_
                    refine x_dup2 rfl rfl rfl ?_
                    refine z_ialdM (N := 50660) (v := p0) rfl J rfl jk_16 (by omega) (jmo2 w117 rfl jk_16 (by omega) (jmo2 w115 rfl jk_16 (by omega) (jmo2 w111 jk_5 jk_16 (by omega) (jmo2 w109 rfl jk_16 (by omega) (jmo2 w107 rfl jk_16 (by omega) (jmo2 w105 rfl jk_16 (by omega) (jmo2 w103 rfl jk_16 (by omega) (jmo2 w101 rfl jk_16 (by omega) (jmo2 w99 rfl jk_16 (by omega) (jmo w1 rfl zp0)))))))))) ?_
                    refine x_iconst (v := 1) rfl ki_1 ?_
                    refine z_iadd rfl rfl jk_1 (by omega) (fun v118 ev118 => ?_)
                    refine z_iast (N := 50660) (l := 16) (u := 17) (w := v118.toInt) rfl hD J Sm rfl rfl jk_16 (by omega) rfl (wr_126_16 (by omega) (fun q1 q2 q3 q4 => by omega)) rfl (fun h w119 J Sm => ?_)
                    refine x_vret rfl rfl ?_
                    show jX m_X12_fact 4 0 0 196 [(7, .int v98), (0, .ref 125), (1, .int a1), (2, .int a2), (3, .int a3), (4, .int a4), (5, .int a5), (6, .int a6)] [] _ 0 0 _
                    refine x_aloadn (x := 125) rfl rfl ?_
                    refine x_aloadn (x := 125) rfl rfl ?_
                    refine z_getR (N := 92) (b := 126) 12 2 rfl f_12_8 rfl J rfl 16002 ⟨rfl, rfl⟩ rfl ?_
                    refine x_iconst (v := 5) rfl ki_5 ?_
                    refine z_ialdM (N := 50660) (v := v110) rfl J rfl jk_5 (by omega) (jmo2 w119 jk_16 jk_5 (by omega) (jmo2 w117 rfl jk_5 (by omega) (jmo2 w115 rfl jk_5 (by omega) (jmw w111)))) ?_
                    refine x_inv (N := m_X12_told) (As := [.int v110]) (b := 125) (st := []) (dx9 := 1) (mc := 0) (ms := 0) (host := "") 12 rfl t_X12_told ⟨Or.inl q_12_197, i_X12_told.1, i_X12_told.2⟩ ⟨by decide, rfl⟩ (congrArg Prod.fst (J.1.1 125 (12, 92) rfl)) rfl (by decide) rfl rfl ⟨by decide, by decide⟩ (sf_X12_told_r125  hD J  (fun v121 h J S120 => ?_))
                    have ev121 := jfull v121
                    have Sm := jSm_tr rfl Sm S120
                    show jX m_X12_fact 4 0 0 206 [(7, .int v98), (0, .ref 125), (1, .int a1), (2, .int a2), (3, .int a3), (4, .int a4), (5, .int a5), (6, .int a6)] [.int v121] _ 0 0 _
                    refine x_iret rfl rfl ?_
                    exact hQ _ _ J Sm _ _ _ _ _ (jmc S120 rfl (jmw w119)) (jmc S120 rfl (jmo2 w119 jk_16 jk_0 (by omega) (jmo2 w117 rfl jk_0 (by omega) (jmo2 w115 rfl jk_0 (by omega) (jmo2 w111 jk_5 jk_0 (by omega) (jmo2 w109 rfl jk_0 (by omega) (jmo2 w107 rfl jk_0 (by omega) (jmo2 w105 rfl jk_0 (by omega) (jmo2 w103 rfl jk_0 (by omega) (jmo2 w101 rfl jk_0 (by omega) (jmo2 w99 rfl jk_0 (by omega) (jmo w1 rfl zp1)))))))))))) (jmc S120 rfl (jmo2 w119 jk_16 jk_4 (by omega) (jmo2 w117 rfl jk_4 (by omega) (jmo2 w115 rfl jk_4 (by omega) (jmo2 w111 jk_5 jk_4 (by omega) (jmo2 w109 rfl jk_4 (by omega) (jmo2 w107 rfl jk_4 (by omega) (jmo2 w105 rfl jk_4 (by omega) (jmo2 w103 rfl jk_4 (by omega) (jmo2 w101 rfl jk_4 (by omega) (jmo2 w99 rfl jk_4 (by omega) (jmo w1 rfl zp2)))))))))))) (jmc S120 rfl (jmo2 w119 jk_16 jk_5 (by omega) (jmo2 w117 rfl jk_5 (by omega) (jmo2 w115 rfl jk_5 (by omega) (jmw w111))))) (jmc S120 rfl (jmo2 w119 jk_16 jk_7 (by omega) (jmo2 w117 rfl jk_7 (by omega) (jmo2 w115 rfl jk_7 (by omega) (jmo2 w111 jk_5 jk_7 (by omega) (jmo2 w109 rfl jk_7 (by omega) (jmo2 w107 rfl jk_7 (by omega) (jmo2 w105 rfl jk_7 (by omega) (jmo2 w103 rfl jk_7 (by omega) (jmo2 w101 rfl jk_7 (by omega) (jmo2 w99 rfl jk_7 (by omega) (jmo w1 rfl zp4)))))))))))) (by omega)
                  ·
                    refine x_aloadn (x := 125) rfl rfl ?_
                    refine x_bipush (v := (-5)) rfl kb_m5 ?_
                    refine x_inv (N := m_X12_told) (As := [.int (-5)]) (b := 125) (st := []) (dx9 := 1) (mc := 0) (ms := 0) (host := "") 12 rfl t_X12_told ⟨Or.inl q_12_197, i_X12_told.1, i_X12_told.2⟩ ⟨by decide, rfl⟩ (congrArg Prod.fst (J.1.1 125 (12, 92) rfl)) rfl (by decide) rfl rfl ⟨by decide, by decide⟩ (sf_X12_told_r125  hD J  (fun v123 h J S122 => ?_))
                    have ev123 := jfull v123
                    have Sm := jSm_tr rfl Sm S122
                    show jX m_X12_fact 4 0 0 96 [(0, .ref 125), (1, .int a1), (2, .int a2), (3, .int a3), (4, .int a4), (5, .int a5), (6, .int a6)] [.int v123] _ 0 0 _
                    refine x_iret rfl rfl ?_
                    exact hQ _ _ J Sm _ _ _ _ _ (jmc S122 rfl (jmo w1 rfl zp0)) (jmc S122 rfl (jmo w1 rfl zp1)) (jmc S122 rfl (jmo w1 rfl zp2)) (jmc S122 rfl (jmo w1 rfl zp3)) (jmc S122 rfl (jmo w1 rfl zp4)) (by omega)
          ·
            exact jX.sub (jsb_c rfl jsb_n) (ct_X12_fact_r125_58 hD hQ  p1 p0 p2 p3 p4 h (jr_of rfl (by omega)) (jr_of rfl (by omega)) (jr_of rfl (by omega)) (jr_of rfl (by omega)) (jr_of rfl (by omega)) (by omega) (jmo w1 rfl zp1) (jmo w1 rfl zp0) (jmo w1 rfl zp2) (jmo w1 rfl zp3) (jmo w1 rfl zp4) J Sm)
def fp_X12_fault_r125 : jFp := [(125, 0, 1)]
set_option maxRecDepth 100000 in
set_option maxHeartbeats 4000000 in
theorem sf_X12_fault_r125 {Dy : jH → Prop} {h : jH} {Q : Option Value → jH → Prop} (hD : jDk Dy) (J : jJ jSgM Dy h) (hQ : ∀ (v : Int32) hx9, (-1) ≤ v.toInt ∧ v.toInt ≤ 400 → jJ jSgM Dy hx9 → jSm fp_X12_fault_r125 h hx9 → Q (some (.int v)) hx9) : jC m_X12_fault 1 0 0 [.ref 125] h Q := by
  refine jC.of rfl k_X12_fault rfl ?_
  have Sm := jSm_rf fp_X12_fault_r125 h
  show jX m_X12_fault 1 0 0 0 [(0, .ref 125)] [] _ 0 0 _
  refine x_aloadn (x := 125) rfl rfl ?_
  refine x_iconst (v := 0) rfl ki_0 ?_
  refine z_putI (N := 92) (w := 0) 12 0 rfl f_12_180 rfl (jfin_no TX12 RX12 92 rfl rfl) hD J Sm rfl rfl jk_0 (pw_125_0 (by omega)) rfl (fun h w1 J Sm => ?_)
  refine x_aloadn (x := 125) rfl rfl ?_
  refine z_getI (N := 92) 12 13 rfl f_12_32 rfl J rfl sg_125_13_14_1_0_1 (fun v2 qv2 ev2 => ?_)
  refine x_iret rfl rfl ?_
  exact hQ _ _ (jr_of rfl (by omega)) J Sm
def fp_X12_fee_r125 : jFp := [(125, 0, 1), (125, 28, 29), (125, 31, 32), (125, 32, 33), (125, 33, 34), (125, 34, 35), (125, 35, 36), (125, 57, 58), (125, 61, 62), (125, 62, 63), (125, 63, 64), (125, 64, 65), (125, 65, 66), (125, 66, 67), (137, 0, 80), (138, 0, 2), (139, 0, 600), (140, 0, 200), (152, 0, 360), (153, 0, 30), (154, 0, 400), (155, 0, 360), (162, 0, 40), (163, 0, 40), (164, 0, 40)]
set_option maxRecDepth 100000 in
set_option maxHeartbeats 4000000 in
theorem ct_X12_fee_r125_29 {Dy : jH → Prop} {h0 : jH} {Q : Option Value → jH → Prop} (hD : jDk Dy) (hQ : ∀ (v : Int64) hx9, jJ jSgM Dy hx9 → jSm fp_X12_fee_r125 h0 hx9 → Q (some (.long v)) hx9) : ∀ (h : jH), jJ jSgM Dy h → jSm fp_X12_fee_r125 h0 h → jX m_X12_fee 13 0 0 29 [] [] h 0 0 Q := by
  intro  h    J Sm
  refine x_ldc2 (v := (-1)) rfl z_12_242 ?_
  refine x_lret rfl rfl ?_
  exact hQ _ _ J Sm
set_option maxRecDepth 100000 in
set_option maxHeartbeats 4000000 in
theorem ct_X12_fee_r125_5000104 {Dy : jH → Prop} {h0 : jH} {Q : Option Value → jH → Prop} (hD : jDk Dy) (hQ : ∀ (v : Int64) hx9, jJ jSgM Dy hx9 → jSm fp_X12_fee_r125 h0 hx9 → Q (some (.long v)) hx9) : ∀ (h : jH), jJ jSgM Dy h → jSm fp_X12_fee_r125 h0 h → jX m_X12_fee 13 0 0 104 [] [.long 0] h 0 0 Q := by
  intro  h    J Sm
  refine x_lret rfl rfl ?_
  exact hQ _ _ J Sm
set_option maxRecDepth 100000 in
set_option maxHeartbeats 4000000 in
theorem ct_X12_fee_r125_104 {Dy : jH → Prop} {h0 : jH} {Q : Option Value → jH → Prop} (hD : jDk Dy) (hQ : ∀ (v : Int64) hx9, jJ jSgM Dy hx9 → jSm fp_X12_fee_r125 h0 hx9 → Q (some (.long v)) hx9) : ∀ (s0 : Int64) (h : jH), jJ jSgM Dy h → jSm fp_X12_fee_r125 h0 h → jX m_X12_fee 13 0 0 104 [] [.long s0] h 0 0 Q := by
  intro s0 h    J Sm
  have es0 := jfullL s0
  refine x_lret rfl rfl ?_
  exact hQ _ _ J Sm
set_option maxRecDepth 100000 in
set_option maxHeartbeats 4000000 in
theorem sf_X12_fee_r125 {Dy : jH → Prop} {h : jH} {Q : Option Value → jH → Prop} {a1 : Int32} {a2 : Int32} (hD : jDk Dy) (J : jJ jSgM Dy h) (hQ : ∀ (v : Int64) hx9, jJ jSgM Dy hx9 → jSm fp_X12_fee_r125 h hx9 → Q (some (.long v)) hx9) : jC m_X12_fee 13 0 0 [.ref 125, .int a1, .int a2] h Q := by
  refine jC.of rfl k_X12_fee rfl ?_
  have Sm := jSm_rf fp_X12_fee_r125 h
  have ea1 := jfull a1
  have ea2 := jfull a2
  show jX m_X12_fee 13 0 0 0 [(0, .ref 125), (1, .int a1), (2, .int a2)] [] _ 0 0 _
  refine x_aloadn (x := 125) rfl rfl ?_
  refine x_iconst (v := 0) rfl ki_0 ?_
  refine z_putI (N := 92) (w := 0) 12 0 rfl f_12_180 rfl (jfin_no TX12 RX12 92 rfl rfl) hD J Sm rfl rfl jk_0 (pw_125_0 (by omega)) rfl (fun h w1 J Sm => ?_)
  refine x_aloadn (x := 125) rfl rfl ?_
  refine x_iloadn (x := a1) rfl rfl ?_
  refine x_inv (N := m_X12_isLine) (As := [.int a1]) (b := 125) (st := []) (dx9 := 12) (mc := 0) (ms := 0) (host := "") 12 rfl t_X12_isLine ⟨Or.inl q_12_293, i_X12_isLine.1, i_X12_isLine.2⟩ ⟨by decide, rfl⟩ (congrArg Prod.fst (J.1.1 125 (12, 92) rfl)) rfl (by decide) rfl rfl ⟨by decide, by decide⟩ (jC.of rfl k_X12_isLine rfl ?_)
  show jX m_X12_isLine 12 0 0 0 [(0, .ref 125), (1, .int a1)] [] _ 0 0 _
  refine x_iloadn (x := a1) rfl rfl ?_
  refine z_i2l rfl rfl (fun v2 ev2 => ?_)
  refine x_lconst (v := 0) rfl kl_0 ?_
  refine x_aloadn (x := 125) rfl rfl ?_
  refine z_getR (N := 92) (b := 126) 12 2 rfl f_12_8 rfl J rfl 16002 ⟨rfl, rfl⟩ rfl ?_
  refine x_iconst (v := 0) rfl ki_0 ?_
  refine z_iald (N := 50660) rfl J rfl sg_126_0_1_1_0_1 jk_0 (by omega) (fun v3 qv3 ev3 => ?_)
  refine z_i2l rfl rfl (fun v4 ev4 => ?_)
  refine x_lconst (v := 1) rfl kl_1 ?_
  refine z_lsub rfl rfl jkl_1 (by omega) (fun v5 ev5 => ?_)
  refine x_inst (N := m_X12_in) (As := [.long v2, .long 0, .long v5]) (st := []) (dx9 := 1) (mc := 0) (ms := 0) (host := "") rfl t_X12_in ⟨Or.inl q_12_188, s_X12_in⟩ rfl (by decide) rfl rfl ⟨by decide, by decide⟩ (zc_X12_in rfl jkl_0 rfl (fun v6 ev6 => ?_))
  show jX m_X12_isLine 12 0 0 15 [(0, .ref 125), (1, .int a1)] [.int v6] _ 0 0 _
  refine x_zret rfl rfl (jz01 (by omega)) ?_
  show jX m_X12_fee 13 0 0 10 [(0, .ref 125), (1, .int a1), (2, .int a2)] [.int v6] _ 0 0 _
  refine x_ifeq (tgt := 29) rfl rfl (ti_eq rfl jk_0 ⟨fun c7 => ?_, fun c7 => ?_⟩)
  ·
    exact jX.sub jsb_n (ct_X12_fee_r125_29 hD hQ  h J Sm)
  ·
    refine x_iloadn (x := a2) rfl rfl ?_
    refine x_inst (N := m_X12_isDay) (As := [.int a2]) (st := []) (dx9 := 2) (mc := 0) (ms := 0) (host := "") rfl t_X12_isDay ⟨Or.inl q_12_273, s_X12_isDay⟩ rfl (by decide) rfl rfl ⟨by decide, by decide⟩ (zc_X12_isDay (d := 1) rfl (fun v8 ev8 => ?_))
    show jX m_X12_fee 13 0 0 17 [(0, .ref 125), (1, .int a1), (2, .int a2)] [.int v8] _ 0 0 _
    refine x_ifeq (tgt := 29) rfl rfl (ti_eq rfl jk_0 ⟨fun c9 => ?_, fun c9 => ?_⟩)
    ·
      exact jX.sub jsb_n (ct_X12_fee_r125_29 hD hQ  h J Sm)
    ·
      refine x_aloadn (x := 125) rfl rfl ?_
      refine x_iloadn (x := a1) rfl rfl ?_
      refine x_iloadn (x := a2) rfl rfl ?_
      refine x_inv (N := m_X12_isKnown) (As := [.int a1, .int a2]) (b := 125) (st := []) (dx9 := 12) (mc := 0) (ms := 0) (host := "") 12 rfl t_X12_isKnown ⟨Or.inl q_12_383, i_X12_isKnown.1, i_X12_isKnown.2⟩ ⟨by decide, rfl⟩ (congrArg Prod.fst (J.1.1 125 (12, 92) rfl)) rfl (by decide) rfl rfl ⟨by decide, by decide⟩ (jC.of rfl k_X12_isKnown rfl ?_)
      show jX m_X12_isKnown 12 0 0 0 [(0, .ref 125), (1, .int a1), (2, .int a2)] [] _ 0 0 _
      refine x_aloadn (x := 125) rfl rfl ?_
      refine z_getR (N := 92) (b := 126) 12 2 rfl f_12_8 rfl J rfl 16002 ⟨rfl, rfl⟩ rfl ?_
      refine x_aloadn (x := 125) rfl rfl ?_
      refine x_iloadn (x := a1) rfl rfl ?_
      refine x_inv (N := m_X12_at) (As := [.int a1]) (b := 125) (st := [.ref 126]) (dx9 := 11) (mc := 0) (ms := 0) (host := "") 12 rfl t_X12_at ⟨Or.inl q_12_254, i_X12_at.1, i_X12_at.2⟩ ⟨by decide, rfl⟩ (congrArg Prod.fst (J.1.1 125 (12, 92) rfl)) rfl (by decide) rfl rfl ⟨by decide, by decide⟩ (jC.of rfl k_X12_at rfl ?_)
      show jX m_X12_at 11 0 0 0 [(0, .ref 125), (1, .int a1)] [] _ 0 0 _
      refine x_bipush (v := 20) rfl kb_20 ?_
      refine x_bipush (v := 90) rfl kb_90 ?_
      refine x_iloadn (x := a1) rfl rfl ?_
      refine z_imul rfl jk_90 rfl (by omega) (fun v10 ev10 => ?_)
      refine z_iadd rfl jk_20 rfl (by omega) (fun v11 ev11 => ?_)
      refine x_iret rfl rfl ?_
      show jX m_X12_isKnown 12 0 0 9 [(0, .ref 125), (1, .int a1), (2, .int a2)] [.int v11, .ref 126] _ 0 0 _
      refine x_iconst (v := 3) rfl ki_3 ?_
      refine z_iadd rfl rfl jk_3 (by omega) (fun v12 ev12 => ?_)
      refine z_iald (N := 50660) rfl J rfl sg_126_20_18020_90_3_4 rfl (by omega) (fun v13 qv13 ev13 => ?_)
      refine x_iloadn (x := a2) rfl rfl ?_
      refine x_icgt (tgt := 20) rfl rfl (ti_gt rfl rfl ⟨fun c14 => ?_, fun c14 => ?_⟩)
      ·
        refine x_iconst (v := 0) rfl ki_0 ?_
        refine x_zret rfl rfl (by decide) ?_
        show jX m_X12_fee 13 0 0 26 [(0, .ref 125), (1, .int a1), (2, .int a2)] [.int 0] _ 0 0 _
        refine x_ifne (tgt := 33) rfl rfl (ti_ne jk_0 jk_0 (bn_f (by omega) ?_))
        exact jX.sub jsb_n (ct_X12_fee_r125_29 hD hQ  h J Sm)
      ·
        refine x_iconst (v := 1) rfl ki_1 ?_
        refine x_goto (tgt := 21) rfl rfl ?_
        refine x_zret rfl rfl (by decide) ?_
        show jX m_X12_fee 13 0 0 26 [(0, .ref 125), (1, .int a1), (2, .int a2)] [.int 1] _ 0 0 _
        refine x_ifne (tgt := 33) rfl rfl (ti_ne jk_1 jk_0 (bn_t (by omega) ?_))
        refine x_aloadn (x := 125) rfl rfl ?_
        refine x_iloadn (x := a2) rfl rfl ?_
        refine x_inv (N := m_X12_find) (As := [.int a2]) (b := 125) (st := []) (dx9 := 8) (mc := 0) (ms := 0) (host := "") 12 rfl t_X12_find ⟨Or.inl q_12_393, i_X12_find.1, i_X12_find.2⟩ ⟨by decide, rfl⟩ (congrArg Prod.fst (J.1.1 125 (12, 92) rfl)) rfl (by decide) rfl rfl ⟨by decide, by decide⟩ (sf_X12_find_r125 (jr_of rfl (by omega)) hD J  (fun h J S15 => ?_))
        have Sm := jSm_tr rfl Sm S15
        show jX m_X12_fee 13 0 0 38 [(0, .ref 125), (1, .int a1), (2, .int a2)] [] _ 0 0 _
        refine x_aloadn (x := 125) rfl rfl ?_
        refine z_getR (N := 92) (b := 139) 12 29 rfl f_12_72 rfl J rfl 16029 ⟨rfl, rfl⟩ rfl ?_
        refine x_iconst (v := 3) rfl ki_3 ?_
        refine x_iloadn (x := a1) rfl rfl ?_
        refine z_imul rfl jk_3 rfl (by omega) (fun v16 ev16 => ?_)
        refine z_iald (N := 600) rfl J rfl sg_139_0_600_1_0_1 rfl (by omega) (fun v17 qv17 ev17 => ?_)
        refine x_istoren (lsx9 := [(3, .int v17), (0, .ref 125), (1, .int a1), (2, .int a2)]) rfl rfl rfl ?_
        refine x_aloadn (x := 125) rfl rfl ?_
        refine x_iloadn (x := a1) rfl rfl ?_
        refine x_inv (N := m_X12_dayOf) (As := [.int a1]) (b := 125) (st := []) (dx9 := 12) (mc := 0) (ms := 0) (host := "") 12 rfl t_X12_dayOf ⟨Or.inl q_12_335, i_X12_dayOf.1, i_X12_dayOf.2⟩ ⟨by decide, rfl⟩ (congrArg Prod.fst (J.1.1 125 (12, 92) rfl)) rfl (by decide) rfl rfl ⟨by decide, by decide⟩ (jC.of rfl k_X12_dayOf rfl ?_)
        show jX m_X12_dayOf 12 0 0 0 [(0, .ref 125), (1, .int a1)] [] _ 0 0 _
        refine x_aloadn (x := 125) rfl rfl ?_
        refine z_getR (N := 92) (b := 126) 12 2 rfl f_12_8 rfl J rfl 16002 ⟨rfl, rfl⟩ rfl ?_
        refine x_aloadn (x := 125) rfl rfl ?_
        refine x_iloadn (x := a1) rfl rfl ?_
        refine x_inv (N := m_X12_at) (As := [.int a1]) (b := 125) (st := [.ref 126]) (dx9 := 11) (mc := 0) (ms := 0) (host := "") 12 rfl t_X12_at ⟨Or.inl q_12_254, i_X12_at.1, i_X12_at.2⟩ ⟨by decide, rfl⟩ (congrArg Prod.fst (J.1.1 125 (12, 92) rfl)) rfl (by decide) rfl rfl ⟨by decide, by decide⟩ (jC.of rfl k_X12_at rfl ?_)
        show jX m_X12_at 11 0 0 0 [(0, .ref 125), (1, .int a1)] [] _ 0 0 _
        refine x_bipush (v := 20) rfl kb_20 ?_
        refine x_bipush (v := 90) rfl kb_90 ?_
        refine x_iloadn (x := a1) rfl rfl ?_
        refine z_imul rfl jk_90 rfl (by omega) (fun v18 ev18 => ?_)
        refine z_iadd rfl jk_20 rfl (by omega) (fun v19 ev19 => ?_)
        refine x_iret rfl rfl ?_
        show jX m_X12_dayOf 12 0 0 9 [(0, .ref 125), (1, .int a1)] [.int v19, .ref 126] _ 0 0 _
        refine x_iconst (v := 2) rfl ki_2 ?_
        refine z_iadd rfl rfl jk_2 (by omega) (fun v20 ev20 => ?_)
        refine z_iald (N := 50660) rfl J rfl sg_126_20_18020_90_2_3 rfl (by omega) (fun v21 qv21 ev21 => ?_)
        refine x_iret rfl rfl ?_
        show jX m_X12_fee 13 0 0 52 [(3, .int v17), (0, .ref 125), (1, .int a1), (2, .int a2)] [.int v21] _ 0 0 _
        refine x_istore (lsx9 := [(4, .int v21), (3, .int v17), (0, .ref 125), (1, .int a1), (2, .int a2)]) rfl rfl rfl ?_
        refine x_aloadn (x := 125) rfl rfl ?_
        refine x_iloadn (x := a1) rfl rfl ?_
        refine x_inv (N := m_X12_bookOf) (As := [.int a1]) (b := 125) (st := []) (dx9 := 12) (mc := 0) (ms := 0) (host := "") 12 rfl t_X12_bookOf ⟨Or.inl q_12_299, i_X12_bookOf.1, i_X12_bookOf.2⟩ ⟨by decide, rfl⟩ (congrArg Prod.fst (J.1.1 125 (12, 92) rfl)) rfl (by decide) rfl rfl ⟨by decide, by decide⟩ (jC.of rfl k_X12_bookOf rfl ?_)
        show jX m_X12_bookOf 12 0 0 0 [(0, .ref 125), (1, .int a1)] [] _ 0 0 _
        refine x_aloadn (x := 125) rfl rfl ?_
        refine z_getR (N := 92) (b := 126) 12 2 rfl f_12_8 rfl J rfl 16002 ⟨rfl, rfl⟩ rfl ?_
        refine x_aloadn (x := 125) rfl rfl ?_
        refine x_iloadn (x := a1) rfl rfl ?_
        refine x_inv (N := m_X12_at) (As := [.int a1]) (b := 125) (st := [.ref 126]) (dx9 := 11) (mc := 0) (ms := 0) (host := "") 12 rfl t_X12_at ⟨Or.inl q_12_254, i_X12_at.1, i_X12_at.2⟩ ⟨by decide, rfl⟩ (congrArg Prod.fst (J.1.1 125 (12, 92) rfl)) rfl (by decide) rfl rfl ⟨by decide, by decide⟩ (jC.of rfl k_X12_at rfl ?_)
        show jX m_X12_at 11 0 0 0 [(0, .ref 125), (1, .int a1)] [] _ 0 0 _
        refine x_bipush (v := 20) rfl kb_20 ?_
        refine x_bipush (v := 90) rfl kb_90 ?_
        refine x_iloadn (x := a1) rfl rfl ?_
        refine z_imul rfl jk_90 rfl (by omega) (fun v22 ev22 => ?_)
        refine z_iadd rfl jk_20 rfl (by omega) (fun v23 ev23 => ?_)
        refine x_iret rfl rfl ?_
        show jX m_X12_bookOf 12 0 0 9 [(0, .ref 125), (1, .int a1)] [.int v23, .ref 126] _ 0 0 _
        refine z_iald (N := 50660) rfl J rfl sg_126_20_18020_90_0_1 rfl (by omega) (fun v24 qv24 ev24 => ?_)
        refine x_iret rfl rfl ?_
        show jX m_X12_fee 13 0 0 59 [(4, .int v21), (3, .int v17), (0, .ref 125), (1, .int a1), (2, .int a2)] [.int v24] _ 0 0 _
        refine x_iconst (v := 1) rfl ki_1 ?_
        refine x_icne (tgt := 74) rfl rfl (ti_ne rfl jk_1 ⟨fun c25 => ?_, fun c25 => ?_⟩)
        ·
          refine x_aloadn (x := 125) rfl rfl ?_
          refine x_iloadn (x := a1) rfl rfl ?_
          refine x_inv (N := m_X12_bookOf) (As := [.int a1]) (b := 125) (st := []) (dx9 := 12) (mc := 0) (ms := 0) (host := "") 12 rfl t_X12_bookOf ⟨Or.inl q_12_299, i_X12_bookOf.1, i_X12_bookOf.2⟩ ⟨by decide, rfl⟩ (congrArg Prod.fst (J.1.1 125 (12, 92) rfl)) rfl (by decide) rfl rfl ⟨by decide, by decide⟩ (jC.of rfl k_X12_bookOf rfl ?_)
          show jX m_X12_bookOf 12 0 0 0 [(0, .ref 125), (1, .int a1)] [] _ 0 0 _
          refine x_aloadn (x := 125) rfl rfl ?_
          refine z_getR (N := 92) (b := 126) 12 2 rfl f_12_8 rfl J rfl 16002 ⟨rfl, rfl⟩ rfl ?_
          refine x_aloadn (x := 125) rfl rfl ?_
          refine x_iloadn (x := a1) rfl rfl ?_
          refine x_inv (N := m_X12_at) (As := [.int a1]) (b := 125) (st := [.ref 126]) (dx9 := 11) (mc := 0) (ms := 0) (host := "") 12 rfl t_X12_at ⟨Or.inl q_12_254, i_X12_at.1, i_X12_at.2⟩ ⟨by decide, rfl⟩ (congrArg Prod.fst (J.1.1 125 (12, 92) rfl)) rfl (by decide) rfl rfl ⟨by decide, by decide⟩ (jC.of rfl k_X12_at rfl ?_)
          show jX m_X12_at 11 0 0 0 [(0, .ref 125), (1, .int a1)] [] _ 0 0 _
          refine x_bipush (v := 20) rfl kb_20 ?_
          refine x_bipush (v := 90) rfl kb_90 ?_
          refine x_iloadn (x := a1) rfl rfl ?_
          refine z_imul rfl jk_90 rfl (by omega) (fun v26 ev26 => ?_)
          refine z_iadd rfl jk_20 rfl (by omega) (fun v27 ev27 => ?_)
          refine x_iret rfl rfl ?_
          show jX m_X12_bookOf 12 0 0 9 [(0, .ref 125), (1, .int a1)] [.int v27, .ref 126] _ 0 0 _
          refine z_iald (N := 50660) rfl J rfl sg_126_20_18020_90_0_1 rfl (by omega) (fun v28 qv28 ev28 => ?_)
          refine x_iret rfl rfl ?_
          show jX m_X12_fee 13 0 0 79 [(4, .int v21), (3, .int v17), (0, .ref 125), (1, .int a1), (2, .int a2)] [.int v28] _ 0 0 _
          refine x_iconst (v := 2) rfl ki_2 ?_
          refine x_icne (tgt := 103) rfl rfl (ti_ne rfl jk_2 ⟨fun c29 => ?_, fun c29 => ?_⟩)
          ·
            refine x_lconst (v := 0) rfl kl_0 ?_
            exact jX.sub jsb_n (ct_X12_fee_r125_5000104 hD hQ  h J Sm)
          ·
            refine x_aloadn (x := 125) rfl rfl ?_
            refine x_iconst (v := 0) rfl ki_0 ?_
            refine x_iloadn (x := v17) rfl rfl ?_
            refine x_iload (x := v21) rfl rfl ?_
            refine x_inv (N := m_X12_feeFor) (As := [.int 0, .int v17, .int v21]) (b := 125) (st := []) (dx9 := 12) (mc := 0) (ms := 0) (host := "") 12 rfl t_X12_feeFor ⟨Or.inl q_12_854, i_X12_feeFor.1, i_X12_feeFor.2⟩ ⟨by decide, rfl⟩ (congrArg Prod.fst (J.1.1 125 (12, 92) rfl)) rfl (by decide) rfl rfl ⟨by decide, by decide⟩ (jC.of rfl k_X12_feeFor rfl ?_)
            show jX m_X12_feeFor 12 0 0 0 [(0, .ref 125), (1, .int 0), (2, .int v17), (3, .int v21)] [] _ 0 0 _
            refine x_aloadn (x := 125) rfl rfl ?_
            refine x_bipush (v := 7) rfl kb_7 ?_
            refine x_iloadn (x := 0) rfl rfl ?_
            refine x_iloadn (x := v17) rfl rfl ?_
            refine x_iloadn (x := v21) rfl rfl ?_
            refine x_inv (N := m_X12_findCount) (As := [.int 7, .int 0, .int v17, .int v21]) (b := 125) (st := []) (dx9 := 11) (mc := 0) (ms := 0) (host := "") 12 rfl t_X12_findCount ⟨Or.inl q_12_765, i_X12_findCount.1, i_X12_findCount.2⟩ ⟨by decide, rfl⟩ (congrArg Prod.fst (J.1.1 125 (12, 92) rfl)) rfl (by decide) rfl rfl ⟨by decide, by decide⟩ (sf_X12_findCount_r125 (jr_of jk_7 (by omega)) (jr_of jk_0 (by omega)) (jr_of rfl (by omega)) (jr_of rfl (by omega)) hD J  (fun h J S30 => ?_))
            have Sm := jSm_tr rfl Sm S30
            show jX m_X12_feeFor 12 0 0 9 [(0, .ref 125), (1, .int 0), (2, .int v17), (3, .int v21)] [] _ 0 0 _
            refine x_aloadn (x := 125) rfl rfl ?_
            refine z_getL0 (N := 92) 12 64 rfl f_12_755 rfl J rfl (fun v31 => ?_)
            have ev31 := jfullL v31
            refine x_lconst (v := 0) rfl kl_0 ?_
            refine z_lcmp rfl rfl jkl_0 (fun v32 ev32 => ?_)
            refine x_ifge (tgt := 22) rfl rfl (ti_ge rfl jk_0 ⟨fun c33 => ?_, fun c33 => ?_⟩)
            ·
              refine x_aloadn (x := 125) rfl rfl ?_
              refine z_getL0 (N := 92) 12 64 rfl f_12_755 rfl J rfl (fun v34 => ?_)
              have ev34 := jfullL v34
              refine x_lret rfl rfl ?_
              show jX m_X12_fee 13 0 0 91 [(4, .int v21), (3, .int v17), (0, .ref 125), (1, .int a1), (2, .int a2)] [.long v34] _ 0 0 _
              refine x_aloadn (x := 125) rfl rfl ?_
              refine x_iconst (v := 1) rfl ki_1 ?_
              refine x_iloadn (x := v17) rfl rfl ?_
              refine x_iload (x := v21) rfl rfl ?_
              refine x_inv (N := m_X12_feeFor) (As := [.int 1, .int v17, .int v21]) (b := 125) (st := [.long v34]) (dx9 := 12) (mc := 0) (ms := 0) (host := "") 12 rfl t_X12_feeFor ⟨Or.inl q_12_854, i_X12_feeFor.1, i_X12_feeFor.2⟩ ⟨by decide, rfl⟩ (congrArg Prod.fst (J.1.1 125 (12, 92) rfl)) rfl (by decide) rfl rfl ⟨by decide, by decide⟩ (jC.of rfl k_X12_feeFor rfl ?_)
              show jX m_X12_feeFor 12 0 0 0 [(0, .ref 125), (1, .int 1), (2, .int v17), (3, .int v21)] [] _ 0 0 _
              refine x_aloadn (x := 125) rfl rfl ?_
              refine x_bipush (v := 7) rfl kb_7 ?_
              refine x_iloadn (x := 1) rfl rfl ?_
              refine x_iloadn (x := v17) rfl rfl ?_
              refine x_iloadn (x := v21) rfl rfl ?_
              refine x_inv (N := m_X12_findCount) (As := [.int 7, .int 1, .int v17, .int v21]) (b := 125) (st := []) (dx9 := 11) (mc := 0) (ms := 0) (host := "") 12 rfl t_X12_findCount ⟨Or.inl q_12_765, i_X12_findCount.1, i_X12_findCount.2⟩ ⟨by decide, rfl⟩ (congrArg Prod.fst (J.1.1 125 (12, 92) rfl)) rfl (by decide) rfl rfl ⟨by decide, by decide⟩ (sf_X12_findCount_r125 (jr_of jk_7 (by omega)) (jr_of jk_1 (by omega)) (jr_of rfl (by omega)) (jr_of rfl (by omega)) hD J  (fun h J S35 => ?_))
              have Sm := jSm_tr rfl Sm S35
              show jX m_X12_feeFor 12 0 0 9 [(0, .ref 125), (1, .int 1), (2, .int v17), (3, .int v21)] [] _ 0 0 _
              refine x_aloadn (x := 125) rfl rfl ?_
              refine z_getL0 (N := 92) 12 64 rfl f_12_755 rfl J rfl (fun v36 => ?_)
              have ev36 := jfullL v36
              refine x_lconst (v := 0) rfl kl_0 ?_
              refine z_lcmp rfl rfl jkl_0 (fun v37 ev37 => ?_)
              refine x_ifge (tgt := 22) rfl rfl (ti_ge rfl jk_0 ⟨fun c38 => ?_, fun c38 => ?_⟩)
              ·
                refine x_aloadn (x := 125) rfl rfl ?_
                refine z_getL0 (N := 92) 12 64 rfl f_12_755 rfl J rfl (fun v39 => ?_)
                have ev39 := jfullL v39
                refine x_lret rfl rfl ?_
                show jX m_X12_fee 13 0 0 99 [(4, .int v21), (3, .int v17), (0, .ref 125), (1, .int a1), (2, .int a2)] [.long v39, .long v34] _ 0 0 _
                refine z_ladd0 rfl (fun v40 => ?_)
                have ev40 := jfullL v40
                refine x_goto (tgt := 104) rfl rfl ?_
                exact jX.sub jsb_n (ct_X12_fee_r125_104 hD hQ  v40 h J Sm)
              ·
                refine x_lconst (v := 0) rfl kl_0 ?_
                refine x_goto (tgt := 26) rfl rfl ?_
                refine x_lret rfl rfl ?_
                show jX m_X12_fee 13 0 0 99 [(4, .int v21), (3, .int v17), (0, .ref 125), (1, .int a1), (2, .int a2)] [.long 0, .long v34] _ 0 0 _
                refine z_ladd rfl rfl jkl_0 (by omega) (fun v41 ev41 => ?_)
                refine x_goto (tgt := 104) rfl rfl ?_
                exact jX.sub jsb_n (ct_X12_fee_r125_104 hD hQ  v41 h J Sm)
            ·
              refine x_lconst (v := 0) rfl kl_0 ?_
              refine x_goto (tgt := 26) rfl rfl ?_
              refine x_lret rfl rfl ?_
              show jX m_X12_fee 13 0 0 91 [(4, .int v21), (3, .int v17), (0, .ref 125), (1, .int a1), (2, .int a2)] [.long 0] _ 0 0 _
              refine x_aloadn (x := 125) rfl rfl ?_
              refine x_iconst (v := 1) rfl ki_1 ?_
              refine x_iloadn (x := v17) rfl rfl ?_
              refine x_iload (x := v21) rfl rfl ?_
              refine x_inv (N := m_X12_feeFor) (As := [.int 1, .int v17, .int v21]) (b := 125) (st := [.long 0]) (dx9 := 12) (mc := 0) (ms := 0) (host := "") 12 rfl t_X12_feeFor ⟨Or.inl q_12_854, i_X12_feeFor.1, i_X12_feeFor.2⟩ ⟨by decide, rfl⟩ (congrArg Prod.fst (J.1.1 125 (12, 92) rfl)) rfl (by decide) rfl rfl ⟨by decide, by decide⟩ (jC.of rfl k_X12_feeFor rfl ?_)
              show jX m_X12_feeFor 12 0 0 0 [(0, .ref 125), (1, .int 1), (2, .int v17), (3, .int v21)] [] _ 0 0 _
              refine x_aloadn (x := 125) rfl rfl ?_
              refine x_bipush (v := 7) rfl kb_7 ?_
              refine x_iloadn (x := 1) rfl rfl ?_
              refine x_iloadn (x := v17) rfl rfl ?_
              refine x_iloadn (x := v21) rfl rfl ?_
              refine x_inv (N := m_X12_findCount) (As := [.int 7, .int 1, .int v17, .int v21]) (b := 125) (st := []) (dx9 := 11) (mc := 0) (ms := 0) (host := "") 12 rfl t_X12_findCount ⟨Or.inl q_12_765, i_X12_findCount.1, i_X12_findCount.2⟩ ⟨by decide, rfl⟩ (congrArg Prod.fst (J.1.1 125 (12, 92) rfl)) rfl (by decide) rfl rfl ⟨by decide, by decide⟩ (sf_X12_findCount_r125 (jr_of jk_7 (by omega)) (jr_of jk_1 (by omega)) (jr_of rfl (by omega)) (jr_of rfl (by omega)) hD J  (fun h J S42 => ?_))
              have Sm := jSm_tr rfl Sm S42
              show jX m_X12_feeFor 12 0 0 9 [(0, .ref 125), (1, .int 1), (2, .int v17), (3, .int v21)] [] _ 0 0 _
              refine x_aloadn (x := 125) rfl rfl ?_
              refine z_getL0 (N := 92) 12 64 rfl f_12_755 rfl J rfl (fun v43 => ?_)
              have ev43 := jfullL v43
              refine x_lconst (v := 0) rfl kl_0 ?_
              refine z_lcmp rfl rfl jkl_0 (fun v44 ev44 => ?_)
              refine x_ifge (tgt := 22) rfl rfl (ti_ge rfl jk_0 ⟨fun c45 => ?_, fun c45 => ?_⟩)
              ·
                refine x_aloadn (x := 125) rfl rfl ?_
                refine z_getL0 (N := 92) 12 64 rfl f_12_755 rfl J rfl (fun v46 => ?_)
                have ev46 := jfullL v46
                refine x_lret rfl rfl ?_
                show jX m_X12_fee 13 0 0 99 [(4, .int v21), (3, .int v17), (0, .ref 125), (1, .int a1), (2, .int a2)] [.long v46, .long 0] _ 0 0 _
                refine z_ladd rfl jkl_0 rfl (by omega) (fun v47 ev47 => ?_)
                refine x_goto (tgt := 104) rfl rfl ?_
                exact jX.sub jsb_n (ct_X12_fee_r125_104 hD hQ  v47 h J Sm)
              ·
                refine x_lconst (v := 0) rfl kl_0 ?_
                refine x_goto (tgt := 26) rfl rfl ?_
                refine x_lret rfl rfl ?_
                show jX m_X12_fee 13 0 0 99 [(4, .int v21), (3, .int v17), (0, .ref 125), (1, .int a1), (2, .int a2)] [.long 0, .long 0] _ 0 0 _
                refine z_ladd rfl jkl_0 jkl_0 (by omega) (fun v48 ev48 => ?_)
                refine x_goto (tgt := 104) rfl rfl ?_
                exact jX.sub jsb_n (ct_X12_fee_r125_104 hD hQ  v48 h J Sm)
        ·
          refine x_aloadn (x := 125) rfl rfl ?_
          refine x_iconst (v := 2) rfl ki_2 ?_
          refine x_iloadn (x := v17) rfl rfl ?_
          refine x_iload (x := v21) rfl rfl ?_
          refine x_inv (N := m_X12_feeFor) (As := [.int 2, .int v17, .int v21]) (b := 125) (st := []) (dx9 := 12) (mc := 0) (ms := 0) (host := "") 12 rfl t_X12_feeFor ⟨Or.inl q_12_854, i_X12_feeFor.1, i_X12_feeFor.2⟩ ⟨by decide, rfl⟩ (congrArg Prod.fst (J.1.1 125 (12, 92) rfl)) rfl (by decide) rfl rfl ⟨by decide, by decide⟩ (jC.of rfl k_X12_feeFor rfl ?_)
          show jX m_X12_feeFor 12 0 0 0 [(0, .ref 125), (1, .int 2), (2, .int v17), (3, .int v21)] [] _ 0 0 _
          refine x_aloadn (x := 125) rfl rfl ?_
          refine x_bipush (v := 7) rfl kb_7 ?_
          refine x_iloadn (x := 2) rfl rfl ?_
          refine x_iloadn (x := v17) rfl rfl ?_
          refine x_iloadn (x := v21) rfl rfl ?_
          refine x_inv (N := m_X12_findCount) (As := [.int 7, .int 2, .int v17, .int v21]) (b := 125) (st := []) (dx9 := 11) (mc := 0) (ms := 0) (host := "") 12 rfl t_X12_findCount ⟨Or.inl q_12_765, i_X12_findCount.1, i_X12_findCount.2⟩ ⟨by decide, rfl⟩ (congrArg Prod.fst (J.1.1 125 (12, 92) rfl)) rfl (by decide) rfl rfl ⟨by decide, by decide⟩ (sf_X12_findCount_r125 (jr_of jk_7 (by omega)) (jr_of jk_2 (by omega)) (jr_of rfl (by omega)) (jr_of rfl (by omega)) hD J  (fun h J S49 => ?_))
          have Sm := jSm_tr rfl Sm S49
          show jX m_X12_feeFor 12 0 0 9 [(0, .ref 125), (1, .int 2), (2, .int v17), (3, .int v21)] [] _ 0 0 _
          refine x_aloadn (x := 125) rfl rfl ?_
          refine z_getL0 (N := 92) 12 64 rfl f_12_755 rfl J rfl (fun v50 => ?_)
          have ev50 := jfullL v50
          refine x_lconst (v := 0) rfl kl_0 ?_
          refine z_lcmp rfl rfl jkl_0 (fun v51 ev51 => ?_)
          refine x_ifge (tgt := 22) rfl rfl (ti_ge rfl jk_0 ⟨fun c52 => ?_, fun c52 => ?_⟩)
          ·
            refine x_aloadn (x := 125) rfl rfl ?_
            refine z_getL0 (N := 92) 12 64 rfl f_12_755 rfl J rfl (fun v53 => ?_)
            have ev53 := jfullL v53
            refine x_lret rfl rfl ?_
            show jX m_X12_fee 13 0 0 71 [(4, .int v21), (3, .int v17), (0, .ref 125), (1, .int a1), (2, .int a2)] [.long v53] _ 0 0 _
            refine x_goto (tgt := 104) rfl rfl ?_
            exact jX.sub jsb_n (ct_X12_fee_r125_104 hD hQ  v53 h J Sm)
          ·
            refine x_lconst (v := 0) rfl kl_0 ?_
            refine x_goto (tgt := 26) rfl rfl ?_
            refine x_lret rfl rfl ?_
            show jX m_X12_fee 13 0 0 71 [(4, .int v21), (3, .int v17), (0, .ref 125), (1, .int a1), (2, .int a2)] [.long 0] _ 0 0 _
            refine x_goto (tgt := 104) rfl rfl ?_
            exact jX.sub jsb_n (ct_X12_fee_r125_5000104 hD hQ  h J Sm)
