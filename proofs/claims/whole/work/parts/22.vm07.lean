def fp_X12_join_r125d : jFp := [(125, 0, 1), (125, 1, 2), (125, 28, 29), (125, 31, 32), (125, 43, 44), (125, 44, 45), (125, 45, 46), (125, 46, 47), (125, 57, 58), (126, 2, 3), (126, 18140, 18740), (137, 0, 80), (138, 0, 2), (139, 0, 600), (140, 0, 200), (142, 0, 81), (143, 0, 81), (144, 0, 81), (145, 0, 9), (146, 0, 9)]
set_option maxRecDepth 100000 in
set_option maxHeartbeats 4000000 in
theorem ct_X12_join_r125d_176 {Dy : jH → Prop} {h0 : jH} {Q : Option Value → jH → Prop} {dr : (Int × jW)} {K111 : Int → Int → Int → jW → (Int × jW)} {R111 : Int} (hD : jDk Dy) (hQ : ∀ (v : Int32) hx9, jJ jSgM Dy hx9 → jSm fp_X12_join_r125d h0 hx9 → dr.1 = v.toInt → dr.2 = vw hx9 → Q (some (.int v)) hx9) (k111 : ∀ (l1 : Int32) (l2 : Int32) (l3 : Int32) (g0 : Int32) (g1 : Int32) (h : jH), 9 - l3.toInt < R111 → 0 ≤ l1.toInt ∧ l1.toInt ≤ 146399 → 0 ≤ l2.toInt ∧ l2.toInt ≤ 10 → 0 ≤ l3.toInt ∧ l3.toInt ≤ 9 → 0 ≤ g0.toInt ∧ g0.toInt ≤ 200 → 0 ≤ g1.toInt ∧ g1.toInt ≤ 9 → jjF h l3 → jiv h 126 (2 : Int32).toNatClampNeg = g0 → jiv h 125 36 = g1 → jJ jSgM Dy h → jSm fp_X12_join_r125d h0 h → K111 l1.toInt l2.toInt l3.toInt (vw h) = dr → jX m_X12_join 11 0 0 111 [(0, .ref 125), (1, .int l1), (2, .int l2), (3, .int l3)] [] h 0 0 Q) : ∀ (l1 : Int32) (l2 : Int32) (l3 : Int32) (g0 : Int32) (g1 : Int32) (h : jH), 0 ≤ l1.toInt ∧ l1.toInt ≤ 146399 → 0 ≤ l2.toInt ∧ l2.toInt ≤ 10 → 0 ≤ l3.toInt ∧ l3.toInt ≤ 8 → 0 ≤ g0.toInt ∧ g0.toInt ≤ 200 → 1 ≤ g1.toInt ∧ g1.toInt ≤ 9 → jjG h l3 → jiv h 126 (2 : Int32).toNatClampNeg = g0 → jiv h 125 36 = g1 → 9 - l3.toInt ≤ R111 → jJ jSgM Dy h → jSm fp_X12_join_r125d h0 h → d_X12_join_r125d_176 K111  l1.toInt l2.toInt l3.toInt (vw h) = dr → jX m_X12_join 11 0 0 176 [(0, .ref 125), (1, .int l1), (2, .int l2), (3, .int l3)] [] h 0 0 Q := by
  intro l1 l2 l3 g0 g1 h y0 y1 y2 y3 y4 C0 z0 z1 m111 J Sm D
  unfold d_X12_join_r125d_176 at D
  try rw [vrn (n := 2) (by decide) z0] at D
  try rw [vrf z1] at D
  refine z_iinc (x := l3) (lsx9 := fun v1 => [(3, .int v1), (0, .ref 125), (1, .int l1), (2, .int l2)]) rfl rfl rfl jko_1 (by omega) rfl (fun _ => rfl) (fun v1 ev1 => ?_)
  refine x_goto (tgt := 111) rfl rfl ?_
  try rw [show (l3.toInt + 1) = v1.toInt from by omega] at D
  exact jX.sub (jsb_c rfl (jsb_c rfl (jsb_c rfl (jsb_c rfl jsb_n)))) (k111 l1 l2 v1 g0 g1 h (by omega) (jr_of rfl (by omega)) (jr_of rfl (by omega)) (jr_of rfl (by omega)) (jr_of rfl (by omega)) (jr_of rfl (by omega)) (jj_go C0 (by omega)) z0 z1 J Sm D)
set_option maxRecDepth 100000 in
set_option maxHeartbeats 4000000 in
theorem ct_X12_join_r125d_111 {Dy : jH → Prop} {h0 : jH} {Q : Option Value → jH → Prop} {dr : (Int × jW)} (hD : jDk Dy) (hQ : ∀ (v : Int32) hx9, jJ jSgM Dy hx9 → jSm fp_X12_join_r125d h0 hx9 → dr.1 = v.toInt → dr.2 = vw hx9 → Q (some (.int v)) hx9) : ∀ r : Nat, ∀ (l1 : Int32) (l2 : Int32) (l3 : Int32) (g0 : Int32) (g1 : Int32) (h : jH), 9 - l3.toInt < (r : Int) → 0 ≤ l1.toInt ∧ l1.toInt ≤ 146399 → 0 ≤ l2.toInt ∧ l2.toInt ≤ 10 → 0 ≤ l3.toInt ∧ l3.toInt ≤ 9 → 0 ≤ g0.toInt ∧ g0.toInt ≤ 200 → 0 ≤ g1.toInt ∧ g1.toInt ≤ 9 → jjF h l3 → jiv h 126 (2 : Int32).toNatClampNeg = g0 → jiv h 125 36 = g1 → jJ jSgM Dy h → jSm fp_X12_join_r125d h0 h → d_X12_join_r125d_111 r l1.toInt l2.toInt l3.toInt (vw h) = dr → jX m_X12_join 11 0 0 111 [(0, .ref 125), (1, .int l1), (2, .int l2), (3, .int l3)] [] h 0 0 Q := by
  intro r
  induction r with
  | zero =>
    intro l1 l2 l3 g0 g1 h hm y0 y1 y2 y3 y4 C0 z0 z1  J Sm D
    exfalso
    omega
  | succ r ih =>
    intro l1 l2 l3 g0 g1 h hm y0 y1 y2 y3 y4 C0 z0 z1  J Sm D
    rw [d_X12_join_r125d_111.eq_2] at D
    try rw [vrn (n := 2) (by decide) z0] at D
    try rw [vrf z1] at D
    refine x_iloadn (x := l3) rfl rfl ?_
    refine x_aloadn (x := 125) rfl rfl ?_
    refine z_getM (N := 92) (v := g1) 12 36 rfl f_12_204 rfl J rfl z1 ?_
    refine x_icge (tgt := 182) rfl rfl (ti_ge rfl rfl ⟨fun c1 => ?_, fun c1 => ?_⟩)
    ·
      rw [if_pos (by omega)] at D
      refine x_aloadn (x := 125) rfl rfl ?_
      refine x_iloadn (x := l2) rfl rfl ?_
      refine x_inv (N := m_X12_told) (As := [.int l2]) (b := 125) (st := []) (dx9 := 1) (mc := 0) (ms := 0) (host := "") 12 rfl t_X12_told ⟨Or.inl q_12_197, i_X12_told.1, i_X12_told.2⟩ ⟨by decide, rfl⟩ (congrArg Prod.fst (J.1.1 125 (12, 92) rfl)) rfl (by decide) rfl rfl ⟨by decide, by decide⟩ (sf_X12_told_r125d  hD J rfl  (fun v5 h J S2 X3 X4 => ?_))
      have ev5 := jfull v5
      have Sm := jSm_tr rfl Sm S2
      try rw [X3] at D
      try rw [X4] at D
      show jX m_X12_join 11 0 0 187 [(0, .ref 125), (1, .int l1), (2, .int l2), (3, .int l3)] [.int v5] _ 0 0 _
      refine x_iret rfl rfl ?_
      exact hQ _ _ J Sm ((congrArg Prod.fst D).symm.trans X3) ((congrArg Prod.snd D).symm.trans X4)
    ·
      rw [if_neg (by omega)] at D
      refine x_aloadn (x := 125) rfl rfl ?_
      refine x_iloadn (x := l3) rfl rfl ?_
      refine x_inv (N := m_X12_aheadOf) (As := [.int l3]) (b := 125) (st := []) (dx9 := 1) (mc := 0) (ms := 0) (host := "") 12 rfl t_X12_aheadOf ⟨Or.inl q_12_471, i_X12_aheadOf.1, i_X12_aheadOf.2⟩ ⟨by decide, rfl⟩ (congrArg Prod.fst (J.1.1 125 (12, 92) rfl)) rfl (by decide) rfl rfl ⟨by decide, by decide⟩ (sf_X12_aheadOf_r125d (jr_of rfl (by omega)) hD J rfl  (fun v10 h ev10 J S6 P7 X8 X9 => ?_))
      have Sm := jSm_tr rfl Sm S6
      try rw [X8] at D
      try rw [← X9] at D
      show jX m_X12_join 11 0 0 124 [(0, .ref 125), (1, .int l1), (2, .int l2), (3, .int l3)] [.int v10] _ 0 0 _
      refine x_istore (lsx9 := [(4, .int v10), (0, .ref 125), (1, .int l1), (2, .int l2), (3, .int l3)]) rfl rfl rfl ?_
      have F1 := jj_mv (jeq_c S6 rfl jeq_0) (jeq_c S6 rfl jeq_0) (jeq_c S6 rfl jeq_0) (jmc S6 rfl rfl) (jmc S6 rfl rfl) C0
      refine x_iload (x := v10) rfl rfl ?_
      refine x_iconst (v := (-1)) rfl ki_m1 ?_
      refine x_iceq (tgt := 176) rfl rfl (ti_eq rfl jk_m1 ⟨fun c11 => ?_, fun c11 => ?_⟩)
      ·
        rw [if_pos (by omega)] at D
        exact jX.sub (jsb_c rfl (jsb_c rfl (jsb_c rfl (jsb_c rfl jsb_n)))) (ct_X12_join_r125d_176 hD hQ ih l1 l2 l3 g0 g1 h (jr_of rfl (by omega)) (jr_of rfl (by omega)) (jr_of rfl (by omega)) (jr_of rfl (by omega)) (jr_of rfl (by omega)) (jj_g0 F1 (jj1_n P7 (by omega))) (jmc S6 rfl z0) (jmc S6 rfl z1) (by omega) J Sm D)
      ·
        rw [if_neg (by omega)] at D
        refine x_aloadn (x := 125) rfl rfl ?_
        refine z_getR (N := 92) (b := 139) 12 29 rfl f_12_72 rfl J rfl 16029 ⟨rfl, rfl⟩ rfl ?_
        refine x_aloadn (x := 125) rfl rfl ?_
        refine z_getR (N := 92) (b := 141) 12 37 rfl f_12_78 rfl J rfl 16037 ⟨rfl, rfl⟩ rfl ?_
        refine x_iload (x := v10) rfl rfl ?_
        refine z_iald (N := 9) rfl J rfl sg_141_0_9_1_0_1 rfl (by omega) (fun v12 qv12 ev12 => ?_)
        try rw [vrd qv12 (show v10.toInt = v10.toInt from by omega)] at D
        refine z_iald (N := 600) rfl J rfl sg_139_0_600_1_0_1 rfl (by omega) (fun v13 qv13 ev13 => ?_)
        try rw [vrd qv13 (show v12.toInt = v12.toInt from by omega)] at D
        refine x_aloadn (x := 125) rfl rfl ?_
        refine z_getR (N := 92) (b := 139) 12 29 rfl f_12_72 rfl J rfl 16029 ⟨rfl, rfl⟩ rfl ?_
        refine x_aloadn (x := 125) rfl rfl ?_
        refine z_getR (N := 92) (b := 141) 12 37 rfl f_12_78 rfl J rfl 16037 ⟨rfl, rfl⟩ rfl ?_
        refine x_iloadn (x := l3) rfl rfl ?_
        refine z_iald (N := 9) rfl J rfl sg_141_0_9_1_0_1 rfl (by omega) (fun v14 qv14 ev14 => ?_)
        try rw [vrd qv14 (show l3.toInt = l3.toInt from by omega)] at D
        refine z_iald (N := 600) rfl J rfl sg_139_0_600_1_0_1 rfl (by omega) (fun v15 qv15 ev15 => ?_)
        try rw [vrd qv15 (show v14.toInt = v14.toInt from by omega)] at D
        refine x_iceq (tgt := 176) rfl rfl (ti_eq rfl rfl ⟨fun c16 => ?_, fun c16 => ?_⟩)
        ·
          rw [if_pos (by omega)] at D
          exact jX.sub (jsb_c rfl (jsb_c rfl (jsb_c rfl (jsb_c rfl jsb_n)))) (ct_X12_join_r125d_176 hD hQ ih l1 l2 l3 g0 g1 h (jr_of rfl (by omega)) (jr_of rfl (by omega)) (jr_of rfl (by omega)) (jr_of rfl (by omega)) (jr_of rfl (by omega)) (jj_g0 F1 ((jj1_q P7 (by omega) qv12 qv13 qv14 qv15).1 (by omega))) (jmc S6 rfl z0) (jmc S6 rfl z1) (by omega) J Sm D)
        ·
          rw [if_neg (by omega)] at D
          have jo := (jj1_q P7 (by omega) qv12 qv13 qv14 qv15).2 (by omega)
          refine x_aloadn (x := 125) rfl rfl ?_
          refine x_aloadn (x := 125) rfl rfl ?_
          refine z_getR (N := 92) (b := 141) 12 37 rfl f_12_78 rfl J rfl 16037 ⟨rfl, rfl⟩ rfl ?_
          refine x_iloadn (x := l3) rfl rfl ?_
          refine z_ialdM (N := 9) (v := v14) rfl J rfl rfl (by omega) qv14 ?_
          refine x_aloadn (x := 125) rfl rfl ?_
          refine z_getR (N := 92) (b := 141) 12 37 rfl f_12_78 rfl J rfl 16037 ⟨rfl, rfl⟩ rfl ?_
          refine x_iload (x := v10) rfl rfl ?_
          refine z_ialdM (N := 9) (v := v12) rfl J rfl rfl (by omega) qv12 ?_
          refine x_iloadn (x := l1) rfl rfl ?_
          refine x_inv (N := m_X12_addJoined) (As := [.int v14, .int v12, .int l1]) (b := 125) (st := []) (dx9 := 10) (mc := 0) (ms := 0) (host := "") 12 rfl t_X12_addJoined ⟨Or.inl q_12_396, i_X12_addJoined.1, i_X12_addJoined.2⟩ ⟨by decide, rfl⟩ (congrArg Prod.fst (J.1.1 125 (12, 92) rfl)) rfl (by decide) rfl rfl ⟨by decide, by decide⟩ (jC.of rfl k_X12_addJoined rfl ?_)
          show jX m_X12_addJoined 10 0 0 0 [(0, .ref 125), (1, .int v14), (2, .int v12), (3, .int l1)] [] _ 0 0 _
          refine x_sipush (v := 18140) rfl ks_18140 ?_
          refine x_iconst (v := 3) rfl ki_3 ?_
          refine x_aloadn (x := 125) rfl rfl ?_
          refine z_getR (N := 92) (b := 126) 12 2 rfl f_12_8 rfl J rfl 16002 ⟨rfl, rfl⟩ rfl ?_
          refine x_iconst (v := 2) rfl ki_2 ?_
          refine z_ialdM (N := 50660) (v := g0) rfl J rfl jk_2 (by omega) (jmc S6 rfl z0) ?_
          have jx := jj_hit F1 jo (jmc S6 rfl z1) (by omega) (jmc S6 rfl z0)
          refine z_imul rfl jk_3 rfl (by omega) (fun v17 ev17 => ?_)
          refine z_iadd rfl jk_18140 rfl (by omega) (fun v18 ev18 => ?_)
          refine x_istore (lsx9 := [(4, .int v18), (0, .ref 125), (1, .int v14), (2, .int v12), (3, .int l1)]) rfl rfl rfl ?_
          refine x_aloadn (x := 125) rfl rfl ?_
          refine z_getR (N := 92) (b := 126) 12 2 rfl f_12_8 rfl J rfl 16002 ⟨rfl, rfl⟩ rfl ?_
          refine x_iload (x := v18) rfl rfl ?_
          refine x_iloadn (x := v14) rfl rfl ?_
          refine z_iast (N := 50660) (l := 18140) (u := 18740) (w := v14.toInt) rfl hD J Sm rfl rfl rfl (by omega) rfl (wr_126_18140 (by omega) (fun q1 q2 q3 q4 => by omega) (fun q1 q2 q3 q4 => by omega) (fun q1 q2 q3 q4 => by omega)) rfl (fun h w19 J Sm => ?_)
          rw [vww w19 (show (18140 + (3 * g0.toInt)) = v18.toInt from by omega) (show v14.toInt = v14.toInt from by omega)] at D
          refine x_aloadn (x := 125) rfl rfl ?_
          refine z_getR (N := 92) (b := 126) 12 2 rfl f_12_8 rfl J rfl 16002 ⟨rfl, rfl⟩ rfl ?_
          refine x_iload (x := v18) rfl rfl ?_
          refine x_iconst (v := 1) rfl ki_1 ?_
          refine z_iadd rfl rfl jk_1 (by omega) (fun v20 ev20 => ?_)
          refine x_iloadn (x := v12) rfl rfl ?_
          refine z_iast (N := 50660) (l := 18140) (u := 18740) (w := v12.toInt) rfl hD J Sm rfl rfl rfl (by omega) rfl (wr_126_18140 (by omega) (fun q1 q2 q3 q4 => by omega) (fun q1 q2 q3 q4 => by omega) (fun q1 q2 q3 q4 => by omega)) rfl (fun h w21 J Sm => ?_)
          rw [vww w21 (show ((18140 + (3 * g0.toInt)) + 1) = v20.toInt from by omega) (show v12.toInt = v12.toInt from by omega)] at D
          refine x_aloadn (x := 125) rfl rfl ?_
          refine z_getR (N := 92) (b := 126) 12 2 rfl f_12_8 rfl J rfl 16002 ⟨rfl, rfl⟩ rfl ?_
          refine x_iload (x := v18) rfl rfl ?_
          refine x_iconst (v := 2) rfl ki_2 ?_
          refine z_iadd rfl rfl jk_2 (by omega) (fun v22 ev22 => ?_)
          refine x_iloadn (x := l1) rfl rfl ?_
          refine z_iast (N := 50660) (l := 18140) (u := 18740) (w := l1.toInt) rfl hD J Sm rfl rfl rfl (by omega) rfl (wr_126_18140 (by omega) (fun q1 q2 q3 q4 => by omega) (fun q1 q2 q3 q4 => by omega) (fun q1 q2 q3 q4 => by omega)) rfl (fun h w23 J Sm => ?_)
          rw [vww w23 (show ((18140 + (3 * g0.toInt)) + 2) = v22.toInt from by omega) (show l1.toInt = l1.toInt from by omega)] at D
          refine x_aloadn (x := 125) rfl rfl ?_
          refine z_getR (N := 92) (b := 126) 12 2 rfl f_12_8 rfl J rfl 16002 ⟨rfl, rfl⟩ rfl ?_
          refine x_iconst (v := 2) rfl ki_2 ?_
          refine x_dup2 rfl rfl rfl ?_
          refine z_ialdM (N := 50660) (v := g0) rfl J rfl jk_2 (by omega) (jmo2 w23 rfl jk_2 (by omega) (jmo2 w21 rfl jk_2 (by omega) (jmo2 w19 rfl jk_2 (by omega) (jmc S6 rfl z0)))) ?_
          refine x_iconst (v := 1) rfl ki_1 ?_
          refine z_iadd rfl rfl jk_1 (by omega) (fun v24 ev24 => ?_)
          refine z_iast (N := 50660) (l := 2) (u := 3) (w := v24.toInt) rfl hD J Sm rfl rfl jk_2 (by omega) rfl (wr_126_2 (by omega) (fun q1 q2 q3 q4 => by omega)) rfl (fun h w25 J Sm => ?_)
          rw [vwn (n := 2) (by decide) w25 (show (g0.toInt + 1) = v24.toInt from by omega)] at D
          refine x_vret rfl rfl ?_
          show jX m_X12_join 11 0 0 176 [(4, .int v10), (0, .ref 125), (1, .int l1), (2, .int l2), (3, .int l3)] [] _ 0 0 _
          exact jX.sub (jsb_c rfl (jsb_c rfl (jsb_c rfl (jsb_c rfl jsb_n)))) (ct_X12_join_r125d_176 hD hQ ih l1 l2 l3 v24 g1 h (jr_of rfl (by omega)) (jr_of rfl (by omega)) (jr_of rfl (by omega)) (jr_of rfl (by omega)) (jr_of rfl (by omega)) (jj_g1 (jeq_o w25 rfl (jeq_o w23 rfl (jeq_o w21 rfl (jeq_o w19 rfl jeq_0)))) (jeq_o w25 rfl (jeq_o w23 rfl (jeq_o w21 rfl (jeq_o w19 rfl jeq_0)))) (jeq_o w25 rfl (jeq_o w23 rfl (jeq_o w21 rfl (jeq_o w19 rfl jeq_0)))) (jmo w25 rfl (jmo w23 rfl (jmo w21 rfl (jmo w19 rfl rfl)))) (jmc S6 rfl z0) (jmw w25) F1 jo (by omega)) (jmw w25) (jmo w25 rfl (jmo w23 rfl (jmo w21 rfl (jmo w19 rfl (jmc S6 rfl z1))))) (by omega) J Sm D)
set_option maxRecDepth 100000 in
set_option maxHeartbeats 4000000 in
theorem ct_X12_join_r125d_200080 {Dy : jH → Prop} {h0 : jH} {Q : Option Value → jH → Prop} {dr : (Int × jW)} {K27 : Int → Int → Int → jW → (Int × jW)} {R27 : Int} (hD : jDk Dy) (hQ : ∀ (v : Int32) hx9, jJ jSgM Dy hx9 → jSm fp_X12_join_r125d h0 hx9 → dr.1 = v.toInt → dr.2 = vw hx9 → Q (some (.int v)) hx9) (k27 : ∀ (l1 : Int32) (l2 : Int32) (l3 : Int32) (h : jH), 9 - l3.toInt < R27 → 0 ≤ l1.toInt ∧ l1.toInt ≤ 146399 → 0 ≤ l2.toInt ∧ l2.toInt ≤ 10 → 0 ≤ l3.toInt ∧ l3.toInt ≤ 9 → (l2.toInt = jjc h l3.toNatClampNeg ∧ l3.toInt ≤ (jiv h 125 36).toInt) → jJ jSgM Dy h → jSm fp_X12_join_r125d h0 h → K27 l1.toInt l2.toInt l3.toInt (vw h) = dr → jX m_X12_join 11 0 0 27 [(0, .ref 125), (1, .int l1), (2, .int l2), (3, .int l3)] [] h 0 0 Q) : ∀ (l1 : Int32) (l3 : Int32) (s1 : Int32) (h : jH), 0 ≤ l1.toInt ∧ l1.toInt ≤ 146399 → 0 ≤ l3.toInt ∧ l3.toInt ≤ 8 → 0 ≤ s1.toInt ∧ s1.toInt ≤ 10 → (s1.toInt = jjc h l3.toNatClampNeg ∧ jj1 h l3.toNatClampNeg = 0 ∧ l3.toInt < (jiv h 125 36).toInt) → 9 - l3.toInt ≤ R27 → jJ jSgM Dy h → jSm fp_X12_join_r125d h0 h → d_X12_join_r125d_200080 K27  l1.toInt l3.toInt s1.toInt (vw h) = dr → jX m_X12_join 11 0 0 80 [(0, .ref 125), (1, .int l1), (3, .int l3)] [.int 0, .int s1] h 0 0 Q := by
  intro l1 l3 s1 h y0 y1 y2 C0  m27 J Sm D
  unfold d_X12_join_r125d_200080 at D
  have jm := jjc_mx (h := h) l3.toNatClampNeg
  have jl := jcl_of (d := l3) (by omega)
  have jc := C0.1
  refine z_iadd rfl rfl jk_0 (by omega) (fun v1 ev1 => ?_)
  refine x_istoren (lsx9 := [(2, .int v1), (0, .ref 125), (1, .int l1), (3, .int l3)]) rfl rfl rfl ?_
  refine z_iinc (x := l3) (lsx9 := fun v2 => [(3, .int v2), (2, .int v1), (0, .ref 125), (1, .int l1)]) rfl rfl rfl jko_1 (by omega) rfl (fun _ => rfl) (fun v2 ev2 => ?_)
  refine x_goto (tgt := 27) rfl rfl ?_
  try rw [show (s1.toInt + 0) = v1.toInt from by omega] at D
  try rw [show (l3.toInt + 1) = v2.toInt from by omega] at D
  exact jX.sub (jsb_c rfl (jsb_c rfl (jsb_c rfl (jsb_c rfl jsb_n)))) (k27 l1 v1 v2 h (by omega) (jr_of rfl (by omega)) (jr_of rfl (by omega)) (jr_of rfl (by omega)) ⟨(by rw [jjc_s (l := l3) (v := v2) (by omega)]; have := C0.1; have := C0.2.1; omega), (by have := C0.2.2; omega)⟩ J Sm D)
set_option maxRecDepth 100000 in
set_option maxHeartbeats 4000000 in
theorem ct_X12_join_r125d_300080 {Dy : jH → Prop} {h0 : jH} {Q : Option Value → jH → Prop} {dr : (Int × jW)} {K27 : Int → Int → Int → jW → (Int × jW)} {R27 : Int} (hD : jDk Dy) (hQ : ∀ (v : Int32) hx9, jJ jSgM Dy hx9 → jSm fp_X12_join_r125d h0 hx9 → dr.1 = v.toInt → dr.2 = vw hx9 → Q (some (.int v)) hx9) (k27 : ∀ (l1 : Int32) (l2 : Int32) (l3 : Int32) (h : jH), 9 - l3.toInt < R27 → 0 ≤ l1.toInt ∧ l1.toInt ≤ 146399 → 0 ≤ l2.toInt ∧ l2.toInt ≤ 10 → 0 ≤ l3.toInt ∧ l3.toInt ≤ 9 → (l2.toInt = jjc h l3.toNatClampNeg ∧ l3.toInt ≤ (jiv h 125 36).toInt) → jJ jSgM Dy h → jSm fp_X12_join_r125d h0 h → K27 l1.toInt l2.toInt l3.toInt (vw h) = dr → jX m_X12_join 11 0 0 27 [(0, .ref 125), (1, .int l1), (2, .int l2), (3, .int l3)] [] h 0 0 Q) : ∀ (l1 : Int32) (l3 : Int32) (s1 : Int32) (h : jH), 0 ≤ l1.toInt ∧ l1.toInt ≤ 146399 → 0 ≤ l3.toInt ∧ l3.toInt ≤ 8 → 0 ≤ s1.toInt ∧ s1.toInt ≤ 10 → (s1.toInt = jjc h l3.toNatClampNeg ∧ jj1 h l3.toNatClampNeg = 1 ∧ l3.toInt < (jiv h 125 36).toInt) → 9 - l3.toInt ≤ R27 → jJ jSgM Dy h → jSm fp_X12_join_r125d h0 h → d_X12_join_r125d_300080 K27  l1.toInt l3.toInt s1.toInt (vw h) = dr → jX m_X12_join 11 0 0 80 [(0, .ref 125), (1, .int l1), (3, .int l3)] [.int 1, .int s1] h 0 0 Q := by
  intro l1 l3 s1 h y0 y1 y2 C0  m27 J Sm D
  unfold d_X12_join_r125d_300080 at D
  have jm := jjc_mx (h := h) l3.toNatClampNeg
  have jl := jcl_of (d := l3) (by omega)
  have jc := C0.1
  refine z_iadd rfl rfl jk_1 (by omega) (fun v1 ev1 => ?_)
  refine x_istoren (lsx9 := [(2, .int v1), (0, .ref 125), (1, .int l1), (3, .int l3)]) rfl rfl rfl ?_
  refine z_iinc (x := l3) (lsx9 := fun v2 => [(3, .int v2), (2, .int v1), (0, .ref 125), (1, .int l1)]) rfl rfl rfl jko_1 (by omega) rfl (fun _ => rfl) (fun v2 ev2 => ?_)
  refine x_goto (tgt := 27) rfl rfl ?_
  try rw [show (s1.toInt + 1) = v1.toInt from by omega] at D
  try rw [show (l3.toInt + 1) = v2.toInt from by omega] at D
  exact jX.sub (jsb_c rfl (jsb_c rfl (jsb_c rfl (jsb_c rfl jsb_n)))) (k27 l1 v1 v2 h (by omega) (jr_of rfl (by omega)) (jr_of rfl (by omega)) (jr_of rfl (by omega)) ⟨(by rw [jjc_s (l := l3) (v := v2) (by omega)]; have := C0.1; have := C0.2.1; omega), (by have := C0.2.2; omega)⟩ J Sm D)
set_option maxRecDepth 100000 in
set_option maxHeartbeats 4000000 in
theorem ct_X12_join_r125d_79 {Dy : jH → Prop} {h0 : jH} {Q : Option Value → jH → Prop} {dr : (Int × jW)} {K27 : Int → Int → Int → jW → (Int × jW)} {R27 : Int} (hD : jDk Dy) (hQ : ∀ (v : Int32) hx9, jJ jSgM Dy hx9 → jSm fp_X12_join_r125d h0 hx9 → dr.1 = v.toInt → dr.2 = vw hx9 → Q (some (.int v)) hx9) (k27 : ∀ (l1 : Int32) (l2 : Int32) (l3 : Int32) (h : jH), 9 - l3.toInt < R27 → 0 ≤ l1.toInt ∧ l1.toInt ≤ 146399 → 0 ≤ l2.toInt ∧ l2.toInt ≤ 10 → 0 ≤ l3.toInt ∧ l3.toInt ≤ 9 → (l2.toInt = jjc h l3.toNatClampNeg ∧ l3.toInt ≤ (jiv h 125 36).toInt) → jJ jSgM Dy h → jSm fp_X12_join_r125d h0 h → K27 l1.toInt l2.toInt l3.toInt (vw h) = dr → jX m_X12_join 11 0 0 27 [(0, .ref 125), (1, .int l1), (2, .int l2), (3, .int l3)] [] h 0 0 Q) : ∀ (l1 : Int32) (l3 : Int32) (s0 : Int32) (h : jH), 0 ≤ l1.toInt ∧ l1.toInt ≤ 146399 → 0 ≤ l3.toInt ∧ l3.toInt ≤ 8 → 0 ≤ s0.toInt ∧ s0.toInt ≤ 10 → (s0.toInt = jjc h l3.toNatClampNeg ∧ jj1 h l3.toNatClampNeg = 0 ∧ l3.toInt < (jiv h 125 36).toInt) → 9 - l3.toInt ≤ R27 → jJ jSgM Dy h → jSm fp_X12_join_r125d h0 h → d_X12_join_r125d_79 K27  l1.toInt l3.toInt s0.toInt (vw h) = dr → jX m_X12_join 11 0 0 79 [(0, .ref 125), (1, .int l1), (3, .int l3)] [.int s0] h 0 0 Q := by
  intro l1 l3 s0 h y0 y1 y2 C0  m27 J Sm D
  unfold d_X12_join_r125d_79 at D
  refine x_iconst (v := 0) rfl ki_0 ?_
  exact jX.sub (jsb_c rfl (jsb_c rfl (jsb_c rfl jsb_n))) (ct_X12_join_r125d_200080 hD hQ k27 l1 l3 s0 h (jr_of rfl (by omega)) (jr_of rfl (by omega)) (jr_of rfl (by omega)) C0 (by omega) J Sm D)
set_option maxRecDepth 100000 in
set_option maxHeartbeats 4000000 in
theorem ct_X12_join_r125d_27 {Dy : jH → Prop} {h0 : jH} {Q : Option Value → jH → Prop} {dr : (Int × jW)} (hD : jDk Dy) (hQ : ∀ (v : Int32) hx9, jJ jSgM Dy hx9 → jSm fp_X12_join_r125d h0 hx9 → dr.1 = v.toInt → dr.2 = vw hx9 → Q (some (.int v)) hx9) : ∀ r : Nat, ∀ (l1 : Int32) (l2 : Int32) (l3 : Int32) (h : jH), 9 - l3.toInt < (r : Int) → 0 ≤ l1.toInt ∧ l1.toInt ≤ 146399 → 0 ≤ l2.toInt ∧ l2.toInt ≤ 10 → 0 ≤ l3.toInt ∧ l3.toInt ≤ 9 → (l2.toInt = jjc h l3.toNatClampNeg ∧ l3.toInt ≤ (jiv h 125 36).toInt) → jJ jSgM Dy h → jSm fp_X12_join_r125d h0 h → d_X12_join_r125d_27 r l1.toInt l2.toInt l3.toInt (vw h) = dr → jX m_X12_join 11 0 0 27 [(0, .ref 125), (1, .int l1), (2, .int l2), (3, .int l3)] [] h 0 0 Q := by
  intro r
  induction r with
  | zero =>
    intro l1 l2 l3 h hm y0 y1 y2 C0   J Sm D
    exfalso
    omega
  | succ r ih =>
    intro l1 l2 l3 h hm y0 y1 y2 C0   J Sm D
    rw [d_X12_join_r125d_27.eq_2] at D
    refine x_iloadn (x := l3) rfl rfl ?_
    refine x_aloadn (x := 125) rfl rfl ?_
    refine z_getI (N := 92) 12 36 rfl f_12_204 rfl J rfl sg_125_36_37_1_0_1 (fun v1 qv1 ev1 => ?_)
    try rw [vrf qv1] at D
    refine x_icge (tgt := 88) rfl rfl (ti_ge rfl rfl ⟨fun c2 => ?_, fun c2 => ?_⟩)
    ·
      rw [if_pos (by omega)] at D
      refine x_aloadn (x := 125) rfl rfl ?_
      refine z_getR (N := 92) (b := 126) 12 2 rfl f_12_8 rfl J rfl 16002 ⟨rfl, rfl⟩ rfl ?_
      refine x_iconst (v := 2) rfl ki_2 ?_
      refine z_iald (N := 50660) rfl J rfl sg_126_2_3_1_0_1 jk_2 (by omega) (fun v3 qv3 ev3 => ?_)
      try rw [vrn (n := 2) (by decide) qv3] at D
      refine x_iloadn (x := l2) rfl rfl ?_
      refine z_iadd rfl rfl rfl (by omega) (fun v4 ev4 => ?_)
      refine x_sipush (v := 200) rfl ks_200 ?_
      refine x_icle (tgt := 109) rfl rfl (ti_le rfl jk_200 ⟨fun c5 => ?_, fun c5 => ?_⟩)
      ·
        rw [if_pos (by omega)] at D
        refine x_iconst (v := 0) rfl ki_0 ?_
        refine x_istoren (lsx9 := [(3, .int 0), (0, .ref 125), (1, .int l1), (2, .int l2)]) rfl rfl rfl ?_
        exact jX.sub (jsb_c rfl (jsb_c rfl (jsb_c rfl (jsb_c rfl jsb_n)))) (ct_X12_join_r125d_111 hD hQ  10 l1 l2 0 v3 v1 h (by have := jk_0; omega) (jr_of rfl (by omega)) (jr_of rfl (by omega)) (jr_of jk_0 (by omega)) (jr_of rfl (by omega)) (jr_of rfl (by omega)) (jj_in C0.1 qv1 (by have := C0.2; rw [qv1] at this; omega) qv3 (by omega)) qv3 qv1 J Sm (by rw [jk_0]; exact D))
      ·
        rw [if_neg (by omega)] at D
        refine x_aloadn (x := 125) rfl rfl ?_
        refine x_bipush (v := (-5)) rfl kb_m5 ?_
        refine x_inv (N := m_X12_told) (As := [.int (-5)]) (b := 125) (st := []) (dx9 := 1) (mc := 0) (ms := 0) (host := "") 12 rfl t_X12_told ⟨Or.inl q_12_197, i_X12_told.1, i_X12_told.2⟩ ⟨by decide, rfl⟩ (congrArg Prod.fst (J.1.1 125 (12, 92) rfl)) rfl (by decide) rfl rfl ⟨by decide, by decide⟩ (sf_X12_told_r125d  hD J rfl  (fun v9 h J S6 X7 X8 => ?_))
        have ev9 := jfull v9
        have Sm := jSm_tr rfl Sm S6
        try rw [jk_m5] at X7
        try rw [jk_m5] at X8
        try rw [X7] at D
        try rw [X8] at D
        show jX m_X12_join 11 0 0 108 [(0, .ref 125), (1, .int l1), (2, .int l2), (3, .int l3)] [.int v9] _ 0 0 _
        refine x_iret rfl rfl ?_
        exact hQ _ _ J Sm ((congrArg Prod.fst D).symm.trans X7) ((congrArg Prod.snd D).symm.trans X8)
    ·
      rw [if_neg (by omega)] at D
      refine x_aloadn (x := 125) rfl rfl ?_
      refine x_iloadn (x := l3) rfl rfl ?_
      refine x_inv (N := m_X12_aheadOf) (As := [.int l3]) (b := 125) (st := []) (dx9 := 1) (mc := 0) (ms := 0) (host := "") 12 rfl t_X12_aheadOf ⟨Or.inl q_12_471, i_X12_aheadOf.1, i_X12_aheadOf.2⟩ ⟨by decide, rfl⟩ (congrArg Prod.fst (J.1.1 125 (12, 92) rfl)) rfl (by decide) rfl rfl ⟨by decide, by decide⟩ (sf_X12_aheadOf_r125d (jr_of rfl (by omega)) hD J rfl  (fun v14 h ev14 J S10 P11 X12 X13 => ?_))
      have Sm := jSm_tr rfl Sm S10
      try rw [X12] at D
      try rw [← X13] at D
      show jX m_X12_join 11 0 0 40 [(0, .ref 125), (1, .int l1), (2, .int l2), (3, .int l3)] [.int v14] _ 0 0 _
      refine x_istore (lsx9 := [(4, .int v14), (0, .ref 125), (1, .int l1), (2, .int l2), (3, .int l3)]) rfl rfl rfl ?_
      refine x_iloadn (x := l2) rfl rfl ?_
      refine x_iload (x := v14) rfl rfl ?_
      refine x_iconst (v := (-1)) rfl ki_m1 ?_
      refine x_iceq (tgt := 79) rfl rfl (ti_eq rfl jk_m1 ⟨fun c15 => ?_, fun c15 => ?_⟩)
      ·
        rw [if_pos (by omega)] at D
        exact jX.sub (jsb_c rfl (jsb_c rfl (jsb_c rfl jsb_n))) (ct_X12_join_r125d_79 hD hQ ih l1 l3 l2 h (jr_of rfl (by omega)) (jr_of rfl (by omega)) (jr_of rfl (by omega)) ⟨(by rw [jjc_e (jeq_c S10 rfl jeq_0) (jeq_c S10 rfl jeq_0) (jeq_c S10 rfl jeq_0)]; exact C0.1), (jj1_n P11 (by omega)), (by rw [(jmc S10 rfl qv1)]; omega)⟩ (by omega) J Sm D)
      ·
        rw [if_neg (by omega)] at D
        refine x_aloadn (x := 125) rfl rfl ?_
        refine z_getR (N := 92) (b := 139) 12 29 rfl f_12_72 rfl J rfl 16029 ⟨rfl, rfl⟩ rfl ?_
        refine x_aloadn (x := 125) rfl rfl ?_
        refine z_getR (N := 92) (b := 141) 12 37 rfl f_12_78 rfl J rfl 16037 ⟨rfl, rfl⟩ rfl ?_
        refine x_iload (x := v14) rfl rfl ?_
        refine z_iald (N := 9) rfl J rfl sg_141_0_9_1_0_1 rfl (by omega) (fun v16 qv16 ev16 => ?_)
        try rw [vrd qv16 (show v14.toInt = v14.toInt from by omega)] at D
        refine z_iald (N := 600) rfl J rfl sg_139_0_600_1_0_1 rfl (by omega) (fun v17 qv17 ev17 => ?_)
        try rw [vrd qv17 (show v16.toInt = v16.toInt from by omega)] at D
        refine x_aloadn (x := 125) rfl rfl ?_
        refine z_getR (N := 92) (b := 139) 12 29 rfl f_12_72 rfl J rfl 16029 ⟨rfl, rfl⟩ rfl ?_
        refine x_aloadn (x := 125) rfl rfl ?_
        refine z_getR (N := 92) (b := 141) 12 37 rfl f_12_78 rfl J rfl 16037 ⟨rfl, rfl⟩ rfl ?_
        refine x_iloadn (x := l3) rfl rfl ?_
        refine z_iald (N := 9) rfl J rfl sg_141_0_9_1_0_1 rfl (by omega) (fun v18 qv18 ev18 => ?_)
        try rw [vrd qv18 (show l3.toInt = l3.toInt from by omega)] at D
        refine z_iald (N := 600) rfl J rfl sg_139_0_600_1_0_1 rfl (by omega) (fun v19 qv19 ev19 => ?_)
        try rw [vrd qv19 (show v18.toInt = v18.toInt from by omega)] at D
        refine x_iceq (tgt := 79) rfl rfl (ti_eq rfl rfl ⟨fun c20 => ?_, fun c20 => ?_⟩)
        ·
          rw [if_pos (by omega)] at D
          exact jX.sub (jsb_c rfl (jsb_c rfl (jsb_c rfl jsb_n))) (ct_X12_join_r125d_79 hD hQ ih l1 l3 l2 h (jr_of rfl (by omega)) (jr_of rfl (by omega)) (jr_of rfl (by omega)) ⟨(by rw [jjc_e (jeq_c S10 rfl jeq_0) (jeq_c S10 rfl jeq_0) (jeq_c S10 rfl jeq_0)]; exact C0.1), ((jj1_q P11 (by omega) qv16 qv17 qv18 qv19).1 (by omega)), (by rw [(jmc S10 rfl qv1)]; omega)⟩ (by omega) J Sm D)
        ·
          rw [if_neg (by omega)] at D
          refine x_iconst (v := 1) rfl ki_1 ?_
          refine x_goto (tgt := 80) rfl rfl ?_
          exact jX.sub (jsb_c rfl (jsb_c rfl (jsb_c rfl jsb_n))) (ct_X12_join_r125d_300080 hD hQ ih l1 l3 l2 h (jr_of rfl (by omega)) (jr_of rfl (by omega)) (jr_of rfl (by omega)) ⟨(by rw [jjc_e (jeq_c S10 rfl jeq_0) (jeq_c S10 rfl jeq_0) (jeq_c S10 rfl jeq_0)]; exact C0.1), ((jj1_q P11 (by omega) qv16 qv17 qv18 qv19).2 (by omega)), (by rw [(jmc S10 rfl qv1)]; omega)⟩ (by omega) J Sm D)
set_option maxRecDepth 100000 in
set_option maxHeartbeats 4000000 in
theorem sf_X12_join_r125d {Dy : jH → Prop} {h : jH} {Q : Option Value → jH → Prop} {dr : (Int × jW)} {a1 : Int32} (hD : jDk Dy) (J : jJ jSgM Dy h) (D : d_X12_join_r125d a1.toInt (vw h) = dr) (hQ : ∀ (v : Int32) hx9, jJ jSgM Dy hx9 → jSm fp_X12_join_r125d h hx9 → dr.1 = v.toInt → dr.2 = vw hx9 → Q (some (.int v)) hx9) : jC m_X12_join 11 0 0 [.ref 125, .int a1] h Q := by
  refine jC.of rfl k_X12_join rfl ?_
  have Sm := jSm_rf fp_X12_join_r125d h
  have ea1 := jfull a1
  show jX m_X12_join 11 0 0 0 [(0, .ref 125), (1, .int a1)] [] _ 0 0 _
  unfold d_X12_join_r125d at D
  refine x_aloadn (x := 125) rfl rfl ?_
  refine x_iconst (v := 0) rfl ki_0 ?_
  refine z_putI (N := 92) (w := 0) 12 0 rfl f_12_180 rfl (jfin_no TX12 RX12 92 rfl rfl) hD J Sm rfl rfl jk_0 (pw_125_0 (by omega)) rfl (fun h w1 J Sm => ?_)
  rw [vwf w1 (show 0 = (0 : Int32).toInt from by have := jk_0; omega)] at D
  refine x_iloadn (x := a1) rfl rfl ?_
  refine x_inst (N := m_X12_isDay) (As := [.int a1]) (st := []) (dx9 := 2) (mc := 0) (ms := 0) (host := "") rfl t_X12_isDay ⟨Or.inl q_12_273, s_X12_isDay⟩ rfl (by decide) rfl rfl ⟨by decide, by decide⟩ (zc_X12_isDay (d := 1) rfl (fun v2 ev2 => ?_))
  show jX m_X12_join 11 0 0 9 [(0, .ref 125), (1, .int a1)] [.int v2] _ 0 0 _
  refine x_ifne (tgt := 18) rfl rfl (ti_ne rfl jk_0 ⟨fun c3 => ?_, fun c3 => ?_⟩)
  ·
    rw [if_pos (by omega)] at D
    refine x_aloadn (x := 125) rfl rfl ?_
    refine x_iconst (v := 0) rfl ki_0 ?_
    refine x_inv (N := m_X12_findBest) (As := [.int 0]) (b := 125) (st := []) (dx9 := 10) (mc := 0) (ms := 0) (host := "") 12 rfl t_X12_findBest ⟨Or.inl q_12_468, i_X12_findBest.1, i_X12_findBest.2⟩ ⟨by decide, rfl⟩ (congrArg Prod.fst (J.1.1 125 (12, 92) rfl)) rfl (by decide) rfl rfl ⟨by decide, by decide⟩ (sf_X12_findBest_r125d  hD J rfl  (fun h J S4 X5 => ?_))
    have Sm := jSm_tr rfl Sm S4
    try rw [jk_0] at X5
    rw [X5] at D
    show jX m_X12_join 11 0 0 23 [(0, .ref 125), (1, .int a1)] [] _ 0 0 _
    refine x_iconst (v := 0) rfl ki_0 ?_
    refine x_istoren (lsx9 := [(2, .int 0), (0, .ref 125), (1, .int a1)]) rfl rfl rfl ?_
    refine x_iconst (v := 0) rfl ki_0 ?_
    refine x_istoren (lsx9 := [(3, .int 0), (2, .int 0), (0, .ref 125), (1, .int a1)]) rfl rfl rfl ?_
    exact jX.sub (jsb_c rfl (jsb_c rfl (jsb_c rfl (jsb_c rfl jsb_n)))) (ct_X12_join_r125d_27 hD hQ  10 a1 0 0 h (by have := jk_0; omega) (jr_of rfl (by omega)) (jr_of jk_0 (by omega)) (jr_of jk_0 (by omega)) ⟨(by rw [jjc_z]; decide), (by have := jrg_f J sg_125_36_37_1_0_1; have := jk_0; omega)⟩ J Sm (by rw [jk_0]; exact D))
  ·
    rw [if_neg (by omega)] at D
    refine x_aloadn (x := 125) rfl rfl ?_
    refine x_iconst (v := (-1)) rfl ki_m1 ?_
    refine x_inv (N := m_X12_told) (As := [.int (-1)]) (b := 125) (st := []) (dx9 := 1) (mc := 0) (ms := 0) (host := "") 12 rfl t_X12_told ⟨Or.inl q_12_197, i_X12_told.1, i_X12_told.2⟩ ⟨by decide, rfl⟩ (congrArg Prod.fst (J.1.1 125 (12, 92) rfl)) rfl (by decide) rfl rfl ⟨by decide, by decide⟩ (sf_X12_told_r125d  hD J rfl  (fun v9 h J S6 X7 X8 => ?_))
    have ev9 := jfull v9
    have Sm := jSm_tr rfl Sm S6
    try rw [jk_m1] at X7
    try rw [jk_m1] at X8
    try rw [X7] at D
    try rw [X8] at D
    show jX m_X12_join 11 0 0 17 [(0, .ref 125), (1, .int a1)] [.int v9] _ 0 0 _
    refine x_iret rfl rfl ?_
    exact hQ _ _ J Sm ((congrArg Prod.fst D).symm.trans X7) ((congrArg Prod.snd D).symm.trans X8)
def fp_X12_kin_r125d : jFp := [(125, 0, 1), (125, 28, 29), (125, 31, 32), (125, 57, 58), (137, 0, 80), (138, 0, 2), (139, 0, 600), (140, 0, 200)]
set_option maxRecDepth 100000 in
set_option maxHeartbeats 4000000 in
theorem ct_X12_kin_r125d_31 {Dy : jH → Prop} {h0 : jH} {Q : Option Value → jH → Prop} {dr : (Int × jW)} (hD : jDk Dy) (hQ : ∀ (v : Int32) hx9, (-1) ≤ v.toInt ∧ v.toInt ≤ 599 → jJ jSgM Dy hx9 → jSm fp_X12_kin_r125d h0 hx9 → dr.1 = v.toInt → dr.2 = vw hx9 → Q (some (.int v)) hx9) : ∀ (h : jH), jJ jSgM Dy h → jSm fp_X12_kin_r125d h0 h → d_X12_kin_r125d_31  (vw h) = dr → jX m_X12_kin 10 0 0 31 [] [] h 0 0 Q := by
  intro  h    J Sm D
  unfold d_X12_kin_r125d_31 at D
  refine x_iconst (v := (-1)) rfl ki_m1 ?_
  refine x_iret rfl rfl ?_
  exact hQ _ _ (jr_of jk_m1 (by omega)) J Sm ((congrArg Prod.fst D).symm.trans (show (-1) = ((-1) : Int32).toInt from by have := jk_m1; omega)) (congrArg Prod.snd D).symm
set_option maxRecDepth 100000 in
set_option maxHeartbeats 4000000 in
theorem ct_X12_kin_r125d_256 {Dy : jH → Prop} {h0 : jH} {Q : Option Value → jH → Prop} {dr : (Int × jW)} {K81 : Int → Int → Int → Int → Int → jW → (Int × jW)} {R81 : Int} (hD : jDk Dy) (hQ : ∀ (v : Int32) hx9, (-1) ≤ v.toInt ∧ v.toInt ≤ 599 → jJ jSgM Dy hx9 → jSm fp_X12_kin_r125d h0 hx9 → dr.1 = v.toInt → dr.2 = vw hx9 → Q (some (.int v)) hx9) (k81 : ∀ (l3 : Int32) (l4 : Int32) (l5 : Int32) (l6 : Int32) (l7 : Int32) (g0 : Int32) (h : jH), 200 - l7.toInt < R81 → 2 ≤ l3.toInt ∧ l3.toInt ≤ 3 → 0 ≤ l5.toInt ∧ l5.toInt ≤ 599 → 0 ≤ l7.toInt ∧ l7.toInt ≤ 200 → 0 ≤ g0.toInt ∧ g0.toInt ≤ 200 → jiv h 126 (0 : Int32).toNatClampNeg = g0 → jJ jSgM Dy h → jSm fp_X12_kin_r125d h0 h → K81 l3.toInt l4.toInt l5.toInt l6.toInt l7.toInt (vw h) = dr → jX m_X12_kin 10 0 0 81 [(0, .ref 125), (3, .int l3), (4, .int l4), (5, .int l5), (6, .int l6), (7, .int l7)] [] h 0 0 Q) : ∀ (l3 : Int32) (l4 : Int32) (l5 : Int32) (l6 : Int32) (l7 : Int32) (g0 : Int32) (h : jH), 2 ≤ l3.toInt ∧ l3.toInt ≤ 3 → 0 ≤ l5.toInt ∧ l5.toInt ≤ 599 → 0 ≤ l7.toInt ∧ l7.toInt ≤ 199 → 1 ≤ g0.toInt ∧ g0.toInt ≤ 200 → jiv h 126 (0 : Int32).toNatClampNeg = g0 → 200 - l7.toInt ≤ R81 → jJ jSgM Dy h → jSm fp_X12_kin_r125d h0 h → d_X12_kin_r125d_256 K81  l3.toInt l4.toInt l5.toInt l6.toInt l7.toInt (vw h) = dr → jX m_X12_kin 10 0 0 256 [(0, .ref 125), (3, .int l3), (4, .int l4), (5, .int l5), (6, .int l6), (7, .int l7)] [] h 0 0 Q := by
  intro l3 l4 l5 l6 l7 g0 h y0 y1 y2 y3 z0 m81 J Sm D
  have el4 := jfull l4
  have el6 := jfull l6
  unfold d_X12_kin_r125d_256 at D
  try rw [vrn (n := 0) (by decide) z0] at D
  refine z_iinc (x := l7) (lsx9 := fun v1 => [(7, .int v1), (0, .ref 125), (3, .int l3), (4, .int l4), (5, .int l5), (6, .int l6)]) rfl rfl rfl jko_1 (by omega) rfl (fun _ => rfl) (fun v1 ev1 => ?_)
  refine x_goto (tgt := 81) rfl rfl ?_
  try rw [show (l7.toInt + 1) = v1.toInt from by omega] at D
  exact jX.sub (jsb_c rfl (jsb_c rfl (jsb_c rfl (jsb_c rfl (jsb_c rfl (jsb_c rfl jsb_n)))))) (k81 l3 l4 l5 l6 v1 g0 h (by omega) (jr_of rfl (by omega)) (jr_of rfl (by omega)) (jr_of rfl (by omega)) (jr_of rfl (by omega)) z0 J Sm D)
set_option maxRecDepth 100000 in
set_option maxHeartbeats 4000000 in
theorem ct_X12_kin_r125d_237 {Dy : jH → Prop} {h0 : jH} {Q : Option Value → jH → Prop} {dr : (Int × jW)} {K81 : Int → Int → Int → Int → Int → jW → (Int × jW)} {R81 : Int} (hD : jDk Dy) (hQ : ∀ (v : Int32) hx9, (-1) ≤ v.toInt ∧ v.toInt ≤ 599 → jJ jSgM Dy hx9 → jSm fp_X12_kin_r125d h0 hx9 → dr.1 = v.toInt → dr.2 = vw hx9 → Q (some (.int v)) hx9) (k81 : ∀ (l3 : Int32) (l4 : Int32) (l5 : Int32) (l6 : Int32) (l7 : Int32) (g0 : Int32) (h : jH), 200 - l7.toInt < R81 → 2 ≤ l3.toInt ∧ l3.toInt ≤ 3 → 0 ≤ l5.toInt ∧ l5.toInt ≤ 599 → 0 ≤ l7.toInt ∧ l7.toInt ≤ 200 → 0 ≤ g0.toInt ∧ g0.toInt ≤ 200 → jiv h 126 (0 : Int32).toNatClampNeg = g0 → jJ jSgM Dy h → jSm fp_X12_kin_r125d h0 h → K81 l3.toInt l4.toInt l5.toInt l6.toInt l7.toInt (vw h) = dr → jX m_X12_kin 10 0 0 81 [(0, .ref 125), (3, .int l3), (4, .int l4), (5, .int l5), (6, .int l6), (7, .int l7)] [] h 0 0 Q) : ∀ (l3 : Int32) (l4 : Int32) (l5 : Int32) (l6 : Int32) (l7 : Int32) (l9 : Int32) (g0 : Int32) (h : jH), 2 ≤ l3.toInt ∧ l3.toInt ≤ 3 → 0 ≤ l5.toInt ∧ l5.toInt ≤ 599 → 0 ≤ l7.toInt ∧ l7.toInt ≤ 199 → (-1) ≤ l9.toInt ∧ l9.toInt ≤ 599 → 1 ≤ g0.toInt ∧ g0.toInt ≤ 200 → jiv h 126 (0 : Int32).toNatClampNeg = g0 → 200 - l7.toInt ≤ R81 → jJ jSgM Dy h → jSm fp_X12_kin_r125d h0 h → d_X12_kin_r125d_237 K81  l3.toInt l4.toInt l5.toInt l6.toInt l7.toInt l9.toInt (vw h) = dr → jX m_X12_kin 10 0 0 237 [(0, .ref 125), (3, .int l3), (4, .int l4), (5, .int l5), (6, .int l6), (7, .int l7), (9, .int l9)] [] h 0 0 Q := by
  intro l3 l4 l5 l6 l7 l9 g0 h y0 y1 y2 y3 y4 z0 m81 J Sm D
  have el4 := jfull l4
  have el6 := jfull l6
  unfold d_X12_kin_r125d_237 at D
  try rw [vrn (n := 0) (by decide) z0] at D
  refine x_iload (x := l9) rfl rfl ?_
  refine x_iconst (v := (-1)) rfl ki_m1 ?_
  refine x_iceq (tgt := 256) rfl rfl (ti_eq rfl jk_m1 ⟨fun c1 => ?_, fun c1 => ?_⟩)
  ·
    rw [if_pos (by omega)] at D
    exact jX.sub (jsb_c rfl (jsb_c rfl (jsb_c rfl (jsb_c rfl (jsb_c rfl (jsb_c rfl jsb_n)))))) (ct_X12_kin_r125d_256 hD hQ k81 l3 l4 l5 l6 l7 g0 h (jr_of rfl (by omega)) (jr_of rfl (by omega)) (jr_of rfl (by omega)) (jr_of rfl (by omega)) z0 (by omega) J Sm D)
  ·
    rw [if_neg (by omega)] at D
    refine x_iload (x := l6) rfl rfl ?_
    refine x_iload (x := l4) rfl rfl ?_
    refine x_icne (tgt := 253) rfl rfl (ti_ne rfl rfl ⟨fun c2 => ?_, fun c2 => ?_⟩)
    ·
      rw [if_neg (by omega)] at D
      refine z_iincW (x := l6) (lsx9 := fun v3 => [(6, .int v3), (0, .ref 125), (3, .int l3), (4, .int l4), (5, .int l5), (7, .int l7), (9, .int l9)]) rfl rfl rfl jko_1 rfl (fun _ => rfl) (fun v3 ev3 => ?_)
      have fv3 := jfull v3
      try rw [← ev3] at D
      exact jX.sub (jsb_c rfl (jsb_c rfl (jsb_c rfl (jsb_c rfl (jsb_c rfl (jsb_c rfl jsb_n)))))) (ct_X12_kin_r125d_256 hD hQ k81 l3 l4 l5 v3 l7 g0 h (jr_of rfl (by omega)) (jr_of rfl (by omega)) (jr_of rfl (by omega)) (jr_of rfl (by omega)) z0 (by omega) J Sm D)
    ·
      rw [if_pos (by omega)] at D
      refine x_iload (x := l9) rfl rfl ?_
      refine x_iret rfl rfl ?_
      exact hQ _ _ (jr_of rfl (by omega)) J Sm ((congrArg Prod.fst D).symm.trans (show l9.toInt = l9.toInt from by omega)) (congrArg Prod.snd D).symm
set_option maxRecDepth 100000 in
set_option maxHeartbeats 4000000 in
theorem ct_X12_kin_r125d_100235 {Dy : jH → Prop} {h0 : jH} {Q : Option Value → jH → Prop} {dr : (Int × jW)} {K81 : Int → Int → Int → Int → Int → jW → (Int × jW)} {R81 : Int} (hD : jDk Dy) (hQ : ∀ (v : Int32) hx9, (-1) ≤ v.toInt ∧ v.toInt ≤ 599 → jJ jSgM Dy hx9 → jSm fp_X12_kin_r125d h0 hx9 → dr.1 = v.toInt → dr.2 = vw hx9 → Q (some (.int v)) hx9) (k81 : ∀ (l3 : Int32) (l4 : Int32) (l5 : Int32) (l6 : Int32) (l7 : Int32) (g0 : Int32) (h : jH), 200 - l7.toInt < R81 → 2 ≤ l3.toInt ∧ l3.toInt ≤ 3 → 0 ≤ l5.toInt ∧ l5.toInt ≤ 599 → 0 ≤ l7.toInt ∧ l7.toInt ≤ 200 → 0 ≤ g0.toInt ∧ g0.toInt ≤ 200 → jiv h 126 (0 : Int32).toNatClampNeg = g0 → jJ jSgM Dy h → jSm fp_X12_kin_r125d h0 h → K81 l3.toInt l4.toInt l5.toInt l6.toInt l7.toInt (vw h) = dr → jX m_X12_kin 10 0 0 81 [(0, .ref 125), (3, .int l3), (4, .int l4), (5, .int l5), (6, .int l6), (7, .int l7)] [] h 0 0 Q) : ∀ (l3 : Int32) (l4 : Int32) (l5 : Int32) (l6 : Int32) (l7 : Int32) (g0 : Int32) (h : jH), 3 ≤ l3.toInt ∧ l3.toInt ≤ 3 → 0 ≤ l5.toInt ∧ l5.toInt ≤ 599 → 0 ≤ l7.toInt ∧ l7.toInt ≤ 199 → 1 ≤ g0.toInt ∧ g0.toInt ≤ 200 → jiv h 126 (0 : Int32).toNatClampNeg = g0 → 200 - l7.toInt ≤ R81 → jJ jSgM Dy h → jSm fp_X12_kin_r125d h0 h → d_X12_kin_r125d_100235 K81  l3.toInt l4.toInt l5.toInt l6.toInt l7.toInt (vw h) = dr → jX m_X12_kin 10 0 0 235 [(0, .ref 125), (3, .int l3), (4, .int l4), (5, .int l5), (6, .int l6), (7, .int l7)] [.int (-1)] h 0 0 Q := by
  intro l3 l4 l5 l6 l7 g0 h y0 y1 y2 y3 z0 m81 J Sm D
  have el4 := jfull l4
  have el6 := jfull l6
  unfold d_X12_kin_r125d_100235 at D
  try rw [vrn (n := 0) (by decide) z0] at D
  refine x_istore (lsx9 := [(9, .int (-1)), (0, .ref 125), (3, .int l3), (4, .int l4), (5, .int l5), (6, .int l6), (7, .int l7)]) rfl rfl rfl ?_
  exact jX.sub (jsb_c rfl (jsb_c rfl (jsb_c rfl (jsb_c rfl (jsb_c rfl (jsb_c rfl (jsb_c rfl jsb_n))))))) (ct_X12_kin_r125d_237 hD hQ k81 l3 l4 l5 l6 l7 (-1) g0 h (jr_of rfl (by omega)) (jr_of rfl (by omega)) (jr_of rfl (by omega)) (jr_of jk_m1 (by omega)) (jr_of rfl (by omega)) z0 (by omega) J Sm (by rw [jk_m1]; exact D))
set_option maxRecDepth 100000 in
set_option maxHeartbeats 4000000 in
theorem ct_X12_kin_r125d_235 {Dy : jH → Prop} {h0 : jH} {Q : Option Value → jH → Prop} {dr : (Int × jW)} {K81 : Int → Int → Int → Int → Int → jW → (Int × jW)} {R81 : Int} (hD : jDk Dy) (hQ : ∀ (v : Int32) hx9, (-1) ≤ v.toInt ∧ v.toInt ≤ 599 → jJ jSgM Dy hx9 → jSm fp_X12_kin_r125d h0 hx9 → dr.1 = v.toInt → dr.2 = vw hx9 → Q (some (.int v)) hx9) (k81 : ∀ (l3 : Int32) (l4 : Int32) (l5 : Int32) (l6 : Int32) (l7 : Int32) (g0 : Int32) (h : jH), 200 - l7.toInt < R81 → 2 ≤ l3.toInt ∧ l3.toInt ≤ 3 → 0 ≤ l5.toInt ∧ l5.toInt ≤ 599 → 0 ≤ l7.toInt ∧ l7.toInt ≤ 200 → 0 ≤ g0.toInt ∧ g0.toInt ≤ 200 → jiv h 126 (0 : Int32).toNatClampNeg = g0 → jJ jSgM Dy h → jSm fp_X12_kin_r125d h0 h → K81 l3.toInt l4.toInt l5.toInt l6.toInt l7.toInt (vw h) = dr → jX m_X12_kin 10 0 0 81 [(0, .ref 125), (3, .int l3), (4, .int l4), (5, .int l5), (6, .int l6), (7, .int l7)] [] h 0 0 Q) : ∀ (l3 : Int32) (l4 : Int32) (l5 : Int32) (l6 : Int32) (l7 : Int32) (s0 : Int32) (g0 : Int32) (h : jH), 3 ≤ l3.toInt ∧ l3.toInt ≤ 3 → 0 ≤ l5.toInt ∧ l5.toInt ≤ 599 → 0 ≤ l7.toInt ∧ l7.toInt ≤ 199 → (-1) ≤ s0.toInt ∧ s0.toInt ≤ 599 → 1 ≤ g0.toInt ∧ g0.toInt ≤ 200 → jiv h 126 (0 : Int32).toNatClampNeg = g0 → 200 - l7.toInt ≤ R81 → jJ jSgM Dy h → jSm fp_X12_kin_r125d h0 h → d_X12_kin_r125d_235 K81  l3.toInt l4.toInt l5.toInt l6.toInt l7.toInt s0.toInt (vw h) = dr → jX m_X12_kin 10 0 0 235 [(0, .ref 125), (3, .int l3), (4, .int l4), (5, .int l5), (6, .int l6), (7, .int l7)] [.int s0] h 0 0 Q := by
  intro l3 l4 l5 l6 l7 s0 g0 h y0 y1 y2 y3 y4 z0 m81 J Sm D
  have el4 := jfull l4
  have el6 := jfull l6
  unfold d_X12_kin_r125d_235 at D
  try rw [vrn (n := 0) (by decide) z0] at D
  refine x_istore (lsx9 := [(9, .int s0), (0, .ref 125), (3, .int l3), (4, .int l4), (5, .int l5), (6, .int l6), (7, .int l7)]) rfl rfl rfl ?_
  exact jX.sub (jsb_c rfl (jsb_c rfl (jsb_c rfl (jsb_c rfl (jsb_c rfl (jsb_c rfl (jsb_c rfl jsb_n))))))) (ct_X12_kin_r125d_237 hD hQ k81 l3 l4 l5 l6 l7 s0 g0 h (jr_of rfl (by omega)) (jr_of rfl (by omega)) (jr_of rfl (by omega)) (jr_of rfl (by omega)) (jr_of rfl (by omega)) z0 (by omega) J Sm D)
set_option maxRecDepth 100000 in
set_option maxHeartbeats 4000000 in
theorem ct_X12_kin_r125d_162 {Dy : jH → Prop} {h0 : jH} {Q : Option Value → jH → Prop} {dr : (Int × jW)} {K81 : Int → Int → Int → Int → Int → jW → (Int × jW)} {R81 : Int} (hD : jDk Dy) (hQ : ∀ (v : Int32) hx9, (-1) ≤ v.toInt ∧ v.toInt ≤ 599 → jJ jSgM Dy hx9 → jSm fp_X12_kin_r125d h0 hx9 → dr.1 = v.toInt → dr.2 = vw hx9 → Q (some (.int v)) hx9) (k81 : ∀ (l3 : Int32) (l4 : Int32) (l5 : Int32) (l6 : Int32) (l7 : Int32) (g0 : Int32) (h : jH), 200 - l7.toInt < R81 → 2 ≤ l3.toInt ∧ l3.toInt ≤ 3 → 0 ≤ l5.toInt ∧ l5.toInt ≤ 599 → 0 ≤ l7.toInt ∧ l7.toInt ≤ 200 → 0 ≤ g0.toInt ∧ g0.toInt ≤ 200 → jiv h 126 (0 : Int32).toNatClampNeg = g0 → jJ jSgM Dy h → jSm fp_X12_kin_r125d h0 h → K81 l3.toInt l4.toInt l5.toInt l6.toInt l7.toInt (vw h) = dr → jX m_X12_kin 10 0 0 81 [(0, .ref 125), (3, .int l3), (4, .int l4), (5, .int l5), (6, .int l6), (7, .int l7)] [] h 0 0 Q) : ∀ (l3 : Int32) (l4 : Int32) (l5 : Int32) (l6 : Int32) (l7 : Int32) (l8 : Int32) (l9 : Int32) (g0 : Int32) (h : jH), 2 ≤ l3.toInt ∧ l3.toInt ≤ 3 → 0 ≤ l5.toInt ∧ l5.toInt ≤ 599 → 0 ≤ l7.toInt ∧ l7.toInt ≤ 199 → 0 ≤ l8.toInt ∧ l8.toInt ≤ 597 → l8.toInt % 3 = 0 → (-1) ≤ l9.toInt ∧ l9.toInt ≤ 599 → 1 ≤ g0.toInt ∧ g0.toInt ≤ 200 → jiv h 126 (0 : Int32).toNatClampNeg = g0 → 200 - l7.toInt ≤ R81 → jJ jSgM Dy h → jSm fp_X12_kin_r125d h0 h → d_X12_kin_r125d_162 K81  l3.toInt l4.toInt l5.toInt l6.toInt l7.toInt l8.toInt l9.toInt (vw h) = dr → jX m_X12_kin 10 0 0 162 [(0, .ref 125), (3, .int l3), (4, .int l4), (5, .int l5), (6, .int l6), (7, .int l7), (8, .int l8), (9, .int l9)] [] h 0 0 Q := by
  intro l3 l4 l5 l6 l7 l8 l9 g0 h y0 y1 y2 y3 y4 y5 y6 z0 m81 J Sm D
  have el4 := jfull l4
  have el6 := jfull l6
  unfold d_X12_kin_r125d_162 at D
  try rw [vrn (n := 0) (by decide) z0] at D
  refine x_iloadn (x := l3) rfl rfl ?_
  refine x_iconst (v := 3) rfl ki_3 ?_
  refine x_icne (tgt := 237) rfl rfl (ti_ne rfl jk_3 ⟨fun c1 => ?_, fun c1 => ?_⟩)
  ·
    rw [if_neg (by omega)] at D
    exact jX.sub (jsb_c rfl (jsb_c rfl (jsb_c rfl (jsb_c rfl (jsb_c rfl (jsb_c rfl (jsb_c rfl jsb_n))))))) (ct_X12_kin_r125d_237 hD hQ k81 l3 l4 l5 l6 l7 l9 g0 h (jr_of rfl (by omega)) (jr_of rfl (by omega)) (jr_of rfl (by omega)) (jr_of rfl (by omega)) (jr_of rfl (by omega)) z0 (by omega) J Sm D)
  ·
    rw [if_pos (by omega)] at D
    refine x_aloadn (x := 125) rfl rfl ?_
    refine x_iload (x := l7) rfl rfl ?_
    refine x_inv (N := m_X12_bookOf) (As := [.int l7]) (b := 125) (st := []) (dx9 := 9) (mc := 0) (ms := 0) (host := "") 12 rfl t_X12_bookOf ⟨Or.inl q_12_299, i_X12_bookOf.1, i_X12_bookOf.2⟩ ⟨by decide, rfl⟩ (congrArg Prod.fst (J.1.1 125 (12, 92) rfl)) rfl (by decide) rfl rfl ⟨by decide, by decide⟩ (jC.of rfl k_X12_bookOf rfl ?_)
    show jX m_X12_bookOf 9 0 0 0 [(0, .ref 125), (1, .int l7)] [] _ 0 0 _
    refine x_aloadn (x := 125) rfl rfl ?_
    refine z_getR (N := 92) (b := 126) 12 2 rfl f_12_8 rfl J rfl 16002 ⟨rfl, rfl⟩ rfl ?_
    refine x_aloadn (x := 125) rfl rfl ?_
    refine x_iloadn (x := l7) rfl rfl ?_
    refine x_inv (N := m_X12_at) (As := [.int l7]) (b := 125) (st := [.ref 126]) (dx9 := 8) (mc := 0) (ms := 0) (host := "") 12 rfl t_X12_at ⟨Or.inl q_12_254, i_X12_at.1, i_X12_at.2⟩ ⟨by decide, rfl⟩ (congrArg Prod.fst (J.1.1 125 (12, 92) rfl)) rfl (by decide) rfl rfl ⟨by decide, by decide⟩ (jC.of rfl k_X12_at rfl ?_)
    show jX m_X12_at 8 0 0 0 [(0, .ref 125), (1, .int l7)] [] _ 0 0 _
    refine x_bipush (v := 20) rfl kb_20 ?_
    refine x_bipush (v := 90) rfl kb_90 ?_
    refine x_iloadn (x := l7) rfl rfl ?_
    refine z_imul rfl jk_90 rfl (by omega) (fun v2 ev2 => ?_)
    refine z_iadd rfl jk_20 rfl (by omega) (fun v3 ev3 => ?_)
    refine x_iret rfl rfl ?_
    show jX m_X12_bookOf 9 0 0 9 [(0, .ref 125), (1, .int l7)] [.int v3, .ref 126] _ 0 0 _
    refine z_iald (N := 50660) rfl J rfl sg_126_20_18020_90_0_1 rfl (by omega) (fun v4 qv4 ev4 => ?_)
    try rw [vrd qv4 (show (20 + (90 * l7.toInt)) = v3.toInt from by omega)] at D
    refine x_iret rfl rfl ?_
    show jX m_X12_kin 10 0 0 173 [(0, .ref 125), (3, .int l3), (4, .int l4), (5, .int l5), (6, .int l6), (7, .int l7), (8, .int l8), (9, .int l9)] [.int v4] _ 0 0 _
    refine x_iconst (v := 1) rfl ki_1 ?_
    refine x_icne (tgt := 237) rfl rfl (ti_ne rfl jk_1 ⟨fun c5 => ?_, fun c5 => ?_⟩)
    ·
      rw [if_neg (by omega)] at D
      exact jX.sub (jsb_c rfl (jsb_c rfl (jsb_c rfl (jsb_c rfl (jsb_c rfl (jsb_c rfl (jsb_c rfl jsb_n))))))) (ct_X12_kin_r125d_237 hD hQ k81 l3 l4 l5 l6 l7 l9 g0 h (jr_of rfl (by omega)) (jr_of rfl (by omega)) (jr_of rfl (by omega)) (jr_of rfl (by omega)) (jr_of rfl (by omega)) z0 (by omega) J Sm D)
    ·
      rw [if_pos (by omega)] at D
      refine x_aloadn (x := 125) rfl rfl ?_
      refine z_getR (N := 92) (b := 139) 12 29 rfl f_12_72 rfl J rfl 16029 ⟨rfl, rfl⟩ rfl ?_
      refine x_iload (x := l8) rfl rfl ?_
      refine z_iald (N := 600) rfl J rfl sg_139_0_600_1_0_1 rfl (by omega) (fun v6 qv6 ev6 => ?_)
      try rw [vrd qv6 (show l8.toInt = l8.toInt from by omega)] at D
      refine x_iconst (v := (-1)) rfl ki_m1 ?_
      refine x_iceq (tgt := 237) rfl rfl (ti_eq rfl jk_m1 ⟨fun c7 => ?_, fun c7 => ?_⟩)
      ·
        rw [if_pos (by omega)] at D
        exact jX.sub (jsb_c rfl (jsb_c rfl (jsb_c rfl (jsb_c rfl (jsb_c rfl (jsb_c rfl (jsb_c rfl jsb_n))))))) (ct_X12_kin_r125d_237 hD hQ k81 l3 l4 l5 l6 l7 l9 g0 h (jr_of rfl (by omega)) (jr_of rfl (by omega)) (jr_of rfl (by omega)) (jr_of rfl (by omega)) (jr_of rfl (by omega)) z0 (by omega) J Sm D)
      ·
        rw [if_neg (by omega)] at D
        refine x_aloadn (x := 125) rfl rfl ?_
        refine z_getR (N := 92) (b := 139) 12 29 rfl f_12_72 rfl J rfl 16029 ⟨rfl, rfl⟩ rfl ?_
        refine x_iload (x := l8) rfl rfl ?_
        refine z_ialdM (N := 600) (v := v6) rfl J rfl rfl (by omega) qv6 ?_
        refine x_iload (x := l5) rfl rfl ?_
        refine x_icne (tgt := 211) rfl rfl (ti_ne rfl rfl ⟨fun c8 => ?_, fun c8 => ?_⟩)
        ·
          rw [if_neg (by omega)] at D
          refine x_aloadn (x := 125) rfl rfl ?_
          refine z_getR (N := 92) (b := 139) 12 29 rfl f_12_72 rfl J rfl 16029 ⟨rfl, rfl⟩ rfl ?_
          refine x_iload (x := l8) rfl rfl ?_
          refine x_iconst (v := 1) rfl ki_1 ?_
          refine z_iadd rfl rfl jk_1 (by omega) (fun v9 ev9 => ?_)
          refine z_iald (N := 600) rfl J rfl sg_139_0_600_1_0_1 rfl (by omega) (fun v10 qv10 ev10 => ?_)
          try rw [vrd qv10 (show (l8.toInt + 1) = v9.toInt from by omega)] at D
          refine x_iload (x := l5) rfl rfl ?_
          refine x_icne (tgt := 234) rfl rfl (ti_ne rfl rfl ⟨fun c11 => ?_, fun c11 => ?_⟩)
          ·
            rw [if_neg (by omega)] at D
            refine x_iconst (v := (-1)) rfl ki_m1 ?_
            exact jX.sub (jsb_c rfl (jsb_c rfl (jsb_c rfl (jsb_c rfl (jsb_c rfl (jsb_c rfl jsb_n)))))) (ct_X12_kin_r125d_100235 hD hQ k81 l3 l4 l5 l6 l7 g0 h (jr_of rfl (by omega)) (jr_of rfl (by omega)) (jr_of rfl (by omega)) (jr_of rfl (by omega)) z0 (by omega) J Sm D)
          ·
            rw [if_pos (by omega)] at D
            refine x_aloadn (x := 125) rfl rfl ?_
            refine x_iload (x := l8) rfl rfl ?_
            refine x_inv (N := m_X12_named) (As := [.int l8]) (b := 125) (st := []) (dx9 := 5) (mc := 0) (ms := 0) (host := "") 12 rfl t_X12_named ⟨Or.inl q_12_409, i_X12_named.1, i_X12_named.2⟩ ⟨by decide, rfl⟩ (congrArg Prod.fst (J.1.1 125 (12, 92) rfl)) rfl (by decide) rfl rfl ⟨by decide, by decide⟩ (sf_X12_named_r125d (jr_of rfl (by omega)) hD J rfl  (fun v15 h ev15 J S12 X13 X14 => ?_))
            have Sm := jSm_tr rfl Sm S12
            try rw [X13] at D
            try rw [← X14] at D
            show jX m_X12_kin 10 0 0 231 [(0, .ref 125), (3, .int l3), (4, .int l4), (5, .int l5), (6, .int l6), (7, .int l7), (8, .int l8), (9, .int l9)] [.int v15] _ 0 0 _
            refine x_goto (tgt := 235) rfl rfl ?_
            exact jX.sub (jsb_c rfl (jsb_c rfl (jsb_c rfl (jsb_c rfl (jsb_c rfl (jsb_c rfl jsb_n)))))) (ct_X12_kin_r125d_235 hD hQ k81 l3 l4 l5 l6 l7 v15 g0 h (jr_of rfl (by omega)) (jr_of rfl (by omega)) (jr_of rfl (by omega)) (jr_of rfl (by omega)) (jr_of rfl (by omega)) (jmc S12 rfl z0) (by omega) J Sm D)
        ·
          rw [if_pos (by omega)] at D
          refine x_aloadn (x := 125) rfl rfl ?_
          refine x_iload (x := l8) rfl rfl ?_
          refine x_iconst (v := 1) rfl ki_1 ?_
          refine z_iadd rfl rfl jk_1 (by omega) (fun v16 ev16 => ?_)
          try rw [show (l8.toInt + 1) = v16.toInt from by omega] at D
          refine x_inv (N := m_X12_named) (As := [.int v16]) (b := 125) (st := []) (dx9 := 5) (mc := 0) (ms := 0) (host := "") 12 rfl t_X12_named ⟨Or.inl q_12_409, i_X12_named.1, i_X12_named.2⟩ ⟨by decide, rfl⟩ (congrArg Prod.fst (J.1.1 125 (12, 92) rfl)) rfl (by decide) rfl rfl ⟨by decide, by decide⟩ (sf_X12_named_r125d (jr_of rfl (by omega)) hD J rfl  (fun v20 h ev20 J S17 X18 X19 => ?_))
          have Sm := jSm_tr rfl Sm S17
          try rw [X18] at D
          try rw [← X19] at D
          show jX m_X12_kin 10 0 0 208 [(0, .ref 125), (3, .int l3), (4, .int l4), (5, .int l5), (6, .int l6), (7, .int l7), (8, .int l8), (9, .int l9)] [.int v20] _ 0 0 _
          refine x_goto (tgt := 235) rfl rfl ?_
          exact jX.sub (jsb_c rfl (jsb_c rfl (jsb_c rfl (jsb_c rfl (jsb_c rfl (jsb_c rfl jsb_n)))))) (ct_X12_kin_r125d_235 hD hQ k81 l3 l4 l5 l6 l7 v20 g0 h (jr_of rfl (by omega)) (jr_of rfl (by omega)) (jr_of rfl (by omega)) (jr_of rfl (by omega)) (jr_of rfl (by omega)) (jmc S17 rfl z0) (by omega) J Sm D)
set_option maxRecDepth 100000 in
set_option maxHeartbeats 4000000 in
theorem ct_X12_kin_r125d_154 {Dy : jH → Prop} {h0 : jH} {Q : Option Value → jH → Prop} {dr : (Int × jW)} {K81 : Int → Int → Int → Int → Int → jW → (Int × jW)} {R81 : Int} (hD : jDk Dy) (hQ : ∀ (v : Int32) hx9, (-1) ≤ v.toInt ∧ v.toInt ≤ 599 → jJ jSgM Dy hx9 → jSm fp_X12_kin_r125d h0 hx9 → dr.1 = v.toInt → dr.2 = vw hx9 → Q (some (.int v)) hx9) (k81 : ∀ (l3 : Int32) (l4 : Int32) (l5 : Int32) (l6 : Int32) (l7 : Int32) (g0 : Int32) (h : jH), 200 - l7.toInt < R81 → 2 ≤ l3.toInt ∧ l3.toInt ≤ 3 → 0 ≤ l5.toInt ∧ l5.toInt ≤ 599 → 0 ≤ l7.toInt ∧ l7.toInt ≤ 200 → 0 ≤ g0.toInt ∧ g0.toInt ≤ 200 → jiv h 126 (0 : Int32).toNatClampNeg = g0 → jJ jSgM Dy h → jSm fp_X12_kin_r125d h0 h → K81 l3.toInt l4.toInt l5.toInt l6.toInt l7.toInt (vw h) = dr → jX m_X12_kin 10 0 0 81 [(0, .ref 125), (3, .int l3), (4, .int l4), (5, .int l5), (6, .int l6), (7, .int l7)] [] h 0 0 Q) : ∀ (l3 : Int32) (l4 : Int32) (l5 : Int32) (l6 : Int32) (l7 : Int32) (l8 : Int32) (g0 : Int32) (h : jH), 2 ≤ l3.toInt ∧ l3.toInt ≤ 2 → 0 ≤ l5.toInt ∧ l5.toInt ≤ 599 → 0 ≤ l7.toInt ∧ l7.toInt ≤ 199 → 0 ≤ l8.toInt ∧ l8.toInt ≤ 597 → l8.toInt % 3 = 0 → 1 ≤ g0.toInt ∧ g0.toInt ≤ 200 → jiv h 126 (0 : Int32).toNatClampNeg = g0 → 200 - l7.toInt ≤ R81 → jJ jSgM Dy h → jSm fp_X12_kin_r125d h0 h → d_X12_kin_r125d_154 K81  l3.toInt l4.toInt l5.toInt l6.toInt l7.toInt l8.toInt (vw h) = dr → jX m_X12_kin 10 0 0 154 [(0, .ref 125), (3, .int l3), (4, .int l4), (5, .int l5), (6, .int l6), (7, .int l7), (8, .int l8)] [] h 0 0 Q := by
  intro l3 l4 l5 l6 l7 l8 g0 h y0 y1 y2 y3 y4 y5 z0 m81 J Sm D
  have el4 := jfull l4
  have el6 := jfull l6
  unfold d_X12_kin_r125d_154 at D
  try rw [vrn (n := 0) (by decide) z0] at D
  refine x_aloadn (x := 125) rfl rfl ?_
  refine x_iload (x := l8) rfl rfl ?_
  refine x_inv (N := m_X12_named) (As := [.int l8]) (b := 125) (st := []) (dx9 := 5) (mc := 0) (ms := 0) (host := "") 12 rfl t_X12_named ⟨Or.inl q_12_409, i_X12_named.1, i_X12_named.2⟩ ⟨by decide, rfl⟩ (congrArg Prod.fst (J.1.1 125 (12, 92) rfl)) rfl (by decide) rfl rfl ⟨by decide, by decide⟩ (sf_X12_named_r125d (jr_of rfl (by omega)) hD J rfl  (fun v4 h ev4 J S1 X2 X3 => ?_))
  have Sm := jSm_tr rfl Sm S1
  try rw [X2] at D
  try rw [← X3] at D
  show jX m_X12_kin 10 0 0 160 [(0, .ref 125), (3, .int l3), (4, .int l4), (5, .int l5), (6, .int l6), (7, .int l7), (8, .int l8)] [.int v4] _ 0 0 _
  refine x_istore (lsx9 := [(9, .int v4), (0, .ref 125), (3, .int l3), (4, .int l4), (5, .int l5), (6, .int l6), (7, .int l7), (8, .int l8)]) rfl rfl rfl ?_
  exact jX.sub (jsb_c rfl (jsb_c rfl (jsb_c rfl (jsb_c rfl (jsb_c rfl (jsb_c rfl (jsb_c rfl (jsb_c rfl jsb_n)))))))) (ct_X12_kin_r125d_162 hD hQ k81 l3 l4 l5 l6 l7 l8 v4 g0 h (jr_of rfl (by omega)) (jr_of rfl (by omega)) (jr_of rfl (by omega)) (jr_of rfl (by omega)) (jr_mod rfl (by omega)) (jr_of rfl (by omega)) (jr_of rfl (by omega)) (jmc S1 rfl z0) (by omega) J Sm D)
set_option maxRecDepth 100000 in
set_option maxHeartbeats 4000000 in
theorem ct_X12_kin_r125d_81 {Dy : jH → Prop} {h0 : jH} {Q : Option Value → jH → Prop} {dr : (Int × jW)} (hD : jDk Dy) (hQ : ∀ (v : Int32) hx9, (-1) ≤ v.toInt ∧ v.toInt ≤ 599 → jJ jSgM Dy hx9 → jSm fp_X12_kin_r125d h0 hx9 → dr.1 = v.toInt → dr.2 = vw hx9 → Q (some (.int v)) hx9) : ∀ r : Nat, ∀ (l3 : Int32) (l4 : Int32) (l5 : Int32) (l6 : Int32) (l7 : Int32) (g0 : Int32) (h : jH), 200 - l7.toInt < (r : Int) → 2 ≤ l3.toInt ∧ l3.toInt ≤ 3 → 0 ≤ l5.toInt ∧ l5.toInt ≤ 599 → 0 ≤ l7.toInt ∧ l7.toInt ≤ 200 → 0 ≤ g0.toInt ∧ g0.toInt ≤ 200 → jiv h 126 (0 : Int32).toNatClampNeg = g0 → jJ jSgM Dy h → jSm fp_X12_kin_r125d h0 h → d_X12_kin_r125d_81 r l3.toInt l4.toInt l5.toInt l6.toInt l7.toInt (vw h) = dr → jX m_X12_kin 10 0 0 81 [(0, .ref 125), (3, .int l3), (4, .int l4), (5, .int l5), (6, .int l6), (7, .int l7)] [] h 0 0 Q := by
  intro r
  induction r with
  | zero =>
    intro l3 l4 l5 l6 l7 g0 h hm y0 y1 y2 y3 z0  J Sm D
    exfalso
    have el4 := jfull l4
    have el6 := jfull l6
    omega
  | succ r ih =>
    intro l3 l4 l5 l6 l7 g0 h hm y0 y1 y2 y3 z0  J Sm D
    have el4 := jfull l4
    have el6 := jfull l6
    rw [d_X12_kin_r125d_81.eq_2] at D
    try rw [vrn (n := 0) (by decide) z0] at D
    refine x_iload (x := l7) rfl rfl ?_
    refine x_aloadn (x := 125) rfl rfl ?_
    refine z_getR (N := 92) (b := 126) 12 2 rfl f_12_8 rfl J rfl 16002 ⟨rfl, rfl⟩ rfl ?_
    refine x_iconst (v := 0) rfl ki_0 ?_
    refine z_ialdM (N := 50660) (v := g0) rfl J rfl jk_0 (by omega) z0 ?_
    refine x_icge (tgt := 262) rfl rfl (ti_ge rfl rfl ⟨fun c1 => ?_, fun c1 => ?_⟩)
    ·
      rw [if_pos (by omega)] at D
      refine x_iconst (v := (-1)) rfl ki_m1 ?_
      refine x_iret rfl rfl ?_
      exact hQ _ _ (jr_of jk_m1 (by omega)) J Sm ((congrArg Prod.fst D).symm.trans (show (-1) = ((-1) : Int32).toInt from by have := jk_m1; omega)) (congrArg Prod.snd D).symm
    ·
      rw [if_neg (by omega)] at D
      refine x_iconst (v := 3) rfl ki_3 ?_
      refine x_iload (x := l7) rfl rfl ?_
      refine z_imul rfl jk_3 rfl (by omega) (fun v2 ev2 => ?_)
      refine x_istore (lsx9 := [(8, .int v2), (0, .ref 125), (3, .int l3), (4, .int l4), (5, .int l5), (6, .int l6), (7, .int l7)]) rfl rfl rfl ?_
      refine x_iconst (v := (-1)) rfl ki_m1 ?_
      refine x_istore (lsx9 := [(9, .int (-1)), (8, .int v2), (0, .ref 125), (3, .int l3), (4, .int l4), (5, .int l5), (6, .int l6), (7, .int l7)]) rfl rfl rfl ?_
      refine x_iloadn (x := l3) rfl rfl ?_
      refine x_iconst (v := 2) rfl ki_2 ?_
      refine x_icne (tgt := 162) rfl rfl (ti_ne rfl jk_2 ⟨fun c3 => ?_, fun c3 => ?_⟩)
      ·
        rw [if_neg (by omega)] at D
        try rw [show (3 * l7.toInt) = v2.toInt from by omega] at D
        exact jX.sub (jsb_c rfl (jsb_c rfl (jsb_c rfl (jsb_c rfl (jsb_c rfl (jsb_c rfl (jsb_c rfl (jsb_c rfl jsb_n)))))))) (ct_X12_kin_r125d_162 hD hQ ih l3 l4 l5 l6 l7 v2 (-1) g0 h (jr_of rfl (by omega)) (jr_of rfl (by omega)) (jr_of rfl (by omega)) (jr_of rfl (by omega)) (jr_mod rfl (by omega)) (jr_of jk_m1 (by omega)) (jr_of rfl (by omega)) z0 (by omega) J Sm (by rw [jk_m1]; exact D))
      ·
        rw [if_pos (by omega)] at D
        refine x_aloadn (x := 125) rfl rfl ?_
        refine x_iload (x := l7) rfl rfl ?_
        refine x_inv (N := m_X12_bookOf) (As := [.int l7]) (b := 125) (st := []) (dx9 := 9) (mc := 0) (ms := 0) (host := "") 12 rfl t_X12_bookOf ⟨Or.inl q_12_299, i_X12_bookOf.1, i_X12_bookOf.2⟩ ⟨by decide, rfl⟩ (congrArg Prod.fst (J.1.1 125 (12, 92) rfl)) rfl (by decide) rfl rfl ⟨by decide, by decide⟩ (jC.of rfl k_X12_bookOf rfl ?_)
        show jX m_X12_bookOf 9 0 0 0 [(0, .ref 125), (1, .int l7)] [] _ 0 0 _
        refine x_aloadn (x := 125) rfl rfl ?_
        refine z_getR (N := 92) (b := 126) 12 2 rfl f_12_8 rfl J rfl 16002 ⟨rfl, rfl⟩ rfl ?_
        refine x_aloadn (x := 125) rfl rfl ?_
        refine x_iloadn (x := l7) rfl rfl ?_
        refine x_inv (N := m_X12_at) (As := [.int l7]) (b := 125) (st := [.ref 126]) (dx9 := 8) (mc := 0) (ms := 0) (host := "") 12 rfl t_X12_at ⟨Or.inl q_12_254, i_X12_at.1, i_X12_at.2⟩ ⟨by decide, rfl⟩ (congrArg Prod.fst (J.1.1 125 (12, 92) rfl)) rfl (by decide) rfl rfl ⟨by decide, by decide⟩ (jC.of rfl k_X12_at rfl ?_)
        show jX m_X12_at 8 0 0 0 [(0, .ref 125), (1, .int l7)] [] _ 0 0 _
        refine x_bipush (v := 20) rfl kb_20 ?_
        refine x_bipush (v := 90) rfl kb_90 ?_
        refine x_iloadn (x := l7) rfl rfl ?_
        refine z_imul rfl jk_90 rfl (by omega) (fun v4 ev4 => ?_)
        refine z_iadd rfl jk_20 rfl (by omega) (fun v5 ev5 => ?_)
        refine x_iret rfl rfl ?_
        show jX m_X12_bookOf 9 0 0 9 [(0, .ref 125), (1, .int l7)] [.int v5, .ref 126] _ 0 0 _
        refine z_iald (N := 50660) rfl J rfl sg_126_20_18020_90_0_1 rfl (by omega) (fun v6 qv6 ev6 => ?_)
        try rw [vrd qv6 (show (20 + (90 * l7.toInt)) = v5.toInt from by omega)] at D
        refine x_iret rfl rfl ?_
        show jX m_X12_kin 10 0 0 112 [(9, .int (-1)), (8, .int v2), (0, .ref 125), (3, .int l3), (4, .int l4), (5, .int l5), (6, .int l6), (7, .int l7)] [.int v6] _ 0 0 _
        refine x_ifne (tgt := 162) rfl rfl (ti_ne rfl jk_0 ⟨fun c7 => ?_, fun c7 => ?_⟩)
        ·
          rw [if_neg (by omega)] at D
          try rw [show (3 * l7.toInt) = v2.toInt from by omega] at D
          exact jX.sub (jsb_c rfl (jsb_c rfl (jsb_c rfl (jsb_c rfl (jsb_c rfl (jsb_c rfl (jsb_c rfl (jsb_c rfl jsb_n)))))))) (ct_X12_kin_r125d_162 hD hQ ih l3 l4 l5 l6 l7 v2 (-1) g0 h (jr_of rfl (by omega)) (jr_of rfl (by omega)) (jr_of rfl (by omega)) (jr_of rfl (by omega)) (jr_mod rfl (by omega)) (jr_of jk_m1 (by omega)) (jr_of rfl (by omega)) z0 (by omega) J Sm (by rw [jk_m1]; exact D))
        ·
          rw [if_pos (by omega)] at D
          refine x_aloadn (x := 125) rfl rfl ?_
          refine z_getR (N := 92) (b := 139) 12 29 rfl f_12_72 rfl J rfl 16029 ⟨rfl, rfl⟩ rfl ?_
          refine x_iload (x := v2) rfl rfl ?_
          refine z_iald (N := 600) rfl J rfl sg_139_0_600_1_0_1 rfl (by omega) (fun v8 qv8 ev8 => ?_)
          try rw [vrd qv8 (show (3 * l7.toInt) = v2.toInt from by omega)] at D
          refine x_iconst (v := (-1)) rfl ki_m1 ?_
          refine x_iceq (tgt := 162) rfl rfl (ti_eq rfl jk_m1 ⟨fun c9 => ?_, fun c9 => ?_⟩)
          ·
            rw [if_pos (by omega)] at D
            try rw [show (3 * l7.toInt) = v2.toInt from by omega] at D
            exact jX.sub (jsb_c rfl (jsb_c rfl (jsb_c rfl (jsb_c rfl (jsb_c rfl (jsb_c rfl (jsb_c rfl (jsb_c rfl jsb_n)))))))) (ct_X12_kin_r125d_162 hD hQ ih l3 l4 l5 l6 l7 v2 (-1) g0 h (jr_of rfl (by omega)) (jr_of rfl (by omega)) (jr_of rfl (by omega)) (jr_of rfl (by omega)) (jr_mod rfl (by omega)) (jr_of jk_m1 (by omega)) (jr_of rfl (by omega)) z0 (by omega) J Sm (by rw [jk_m1]; exact D))
          ·
            rw [if_neg (by omega)] at D
            refine x_aloadn (x := 125) rfl rfl ?_
            refine z_getR (N := 92) (b := 139) 12 29 rfl f_12_72 rfl J rfl 16029 ⟨rfl, rfl⟩ rfl ?_
            refine x_iload (x := v2) rfl rfl ?_
            refine x_iconst (v := 1) rfl ki_1 ?_
            refine z_iadd rfl rfl jk_1 (by omega) (fun v10 ev10 => ?_)
            refine z_iald (N := 600) rfl J rfl sg_139_0_600_1_0_1 rfl (by omega) (fun v11 qv11 ev11 => ?_)
            try rw [vrd qv11 (show ((3 * l7.toInt) + 1) = v10.toInt from by omega)] at D
            refine x_iload (x := l5) rfl rfl ?_
            refine x_iceq (tgt := 154) rfl rfl (ti_eq rfl rfl ⟨fun c12 => ?_, fun c12 => ?_⟩)
            ·
              rw [if_pos (by omega)] at D
              try rw [show (3 * l7.toInt) = v2.toInt from by omega] at D
              exact jX.sub (jsb_c rfl (jsb_c rfl (jsb_c rfl (jsb_c rfl (jsb_c rfl (jsb_c rfl (jsb_c rfl jsb_n))))))) (ct_X12_kin_r125d_154 hD hQ ih l3 l4 l5 l6 l7 v2 g0 h (jr_of rfl (by omega)) (jr_of rfl (by omega)) (jr_of rfl (by omega)) (jr_of rfl (by omega)) (jr_mod rfl (by omega)) (jr_of rfl (by omega)) z0 (by omega) J Sm D)
            ·
              rw [if_neg (by omega)] at D
              refine x_aloadn (x := 125) rfl rfl ?_
              refine z_getR (N := 92) (b := 139) 12 29 rfl f_12_72 rfl J rfl 16029 ⟨rfl, rfl⟩ rfl ?_
              refine x_iload (x := v2) rfl rfl ?_
              refine x_iconst (v := 2) rfl ki_2 ?_
              refine z_iadd rfl rfl jk_2 (by omega) (fun v13 ev13 => ?_)
              refine z_iald (N := 600) rfl J rfl sg_139_0_600_1_0_1 rfl (by omega) (fun v14 qv14 ev14 => ?_)
              try rw [vrd qv14 (show ((3 * l7.toInt) + 2) = v13.toInt from by omega)] at D
              refine x_iload (x := l5) rfl rfl ?_
              refine x_icne (tgt := 162) rfl rfl (ti_ne rfl rfl ⟨fun c15 => ?_, fun c15 => ?_⟩)
              ·
                rw [if_neg (by omega)] at D
                try rw [show (3 * l7.toInt) = v2.toInt from by omega] at D
                exact jX.sub (jsb_c rfl (jsb_c rfl (jsb_c rfl (jsb_c rfl (jsb_c rfl (jsb_c rfl (jsb_c rfl (jsb_c rfl jsb_n)))))))) (ct_X12_kin_r125d_162 hD hQ ih l3 l4 l5 l6 l7 v2 (-1) g0 h (jr_of rfl (by omega)) (jr_of rfl (by omega)) (jr_of rfl (by omega)) (jr_of rfl (by omega)) (jr_mod rfl (by omega)) (jr_of jk_m1 (by omega)) (jr_of rfl (by omega)) z0 (by omega) J Sm (by rw [jk_m1]; exact D))
              ·
                rw [if_pos (by omega)] at D
                try rw [show (3 * l7.toInt) = v2.toInt from by omega] at D
                exact jX.sub (jsb_c rfl (jsb_c rfl (jsb_c rfl (jsb_c rfl (jsb_c rfl (jsb_c rfl (jsb_c rfl jsb_n))))))) (ct_X12_kin_r125d_154 hD hQ ih l3 l4 l5 l6 l7 v2 g0 h (jr_of rfl (by omega)) (jr_of rfl (by omega)) (jr_of rfl (by omega)) (jr_of rfl (by omega)) (jr_mod rfl (by omega)) (jr_of rfl (by omega)) z0 (by omega) J Sm D)
set_option maxRecDepth 100000 in
set_option maxHeartbeats 4000000 in
theorem ct_X12_kin_r125d_74 {Dy : jH → Prop} {h0 : jH} {Q : Option Value → jH → Prop} {dr : (Int × jW)} (hD : jDk Dy) (hQ : ∀ (v : Int32) hx9, (-1) ≤ v.toInt ∧ v.toInt ≤ 599 → jJ jSgM Dy hx9 → jSm fp_X12_kin_r125d h0 hx9 → dr.1 = v.toInt → dr.2 = vw hx9 → Q (some (.int v)) hx9) : ∀ (s0 : Int32) (h : jH), (-1) ≤ s0.toInt ∧ s0.toInt ≤ 599 → jJ jSgM Dy h → jSm fp_X12_kin_r125d h0 h → d_X12_kin_r125d_74  s0.toInt (vw h) = dr → jX m_X12_kin 10 0 0 74 [] [.int s0] h 0 0 Q := by
  intro s0 h y0   J Sm D
  unfold d_X12_kin_r125d_74 at D
  refine x_iret rfl rfl ?_
  exact hQ _ _ (jr_of rfl (by omega)) J Sm ((congrArg Prod.fst D).symm.trans (show s0.toInt = s0.toInt from by omega)) (congrArg Prod.snd D).symm
set_option maxRecDepth 100000 in
set_option maxHeartbeats 4000000 in
theorem ct_X12_kin_r125d_100074 {Dy : jH → Prop} {h0 : jH} {Q : Option Value → jH → Prop} {dr : (Int × jW)} (hD : jDk Dy) (hQ : ∀ (v : Int32) hx9, (-1) ≤ v.toInt ∧ v.toInt ≤ 599 → jJ jSgM Dy hx9 → jSm fp_X12_kin_r125d h0 hx9 → dr.1 = v.toInt → dr.2 = vw hx9 → Q (some (.int v)) hx9) : ∀ (h : jH), jJ jSgM Dy h → jSm fp_X12_kin_r125d h0 h → d_X12_kin_r125d_100074  (vw h) = dr → jX m_X12_kin 10 0 0 74 [] [.int (-1)] h 0 0 Q := by
  intro  h    J Sm D
  unfold d_X12_kin_r125d_100074 at D
  refine x_iret rfl rfl ?_
  exact hQ _ _ (jr_of jk_m1 (by omega)) J Sm ((congrArg Prod.fst D).symm.trans (show (-1) = ((-1) : Int32).toInt from by have := jk_m1; omega)) (congrArg Prod.snd D).symm
set_option maxRecDepth 100000 in
set_option maxHeartbeats 4000000 in
theorem sf_X12_kin_r125d {Dy : jH → Prop} {h : jH} {Q : Option Value → jH → Prop} {dr : (Int × jW)} {a1 : Int32} {a2 : Int32} {a3 : Int32} {a4 : Int32} (hD : jDk Dy) (J : jJ jSgM Dy h) (D : d_X12_kin_r125d a1.toInt a2.toInt a3.toInt a4.toInt (vw h) = dr) (hQ : ∀ (v : Int32) hx9, (-1) ≤ v.toInt ∧ v.toInt ≤ 599 → jJ jSgM Dy hx9 → jSm fp_X12_kin_r125d h hx9 → dr.1 = v.toInt → dr.2 = vw hx9 → Q (some (.int v)) hx9) : jC m_X12_kin 10 0 0 [.ref 125, .int a1, .int a2, .int a3, .int a4] h Q := by
  refine jC.of rfl k_X12_kin rfl ?_
  have Sm := jSm_rf fp_X12_kin_r125d h
  have ea1 := jfull a1
  have ea2 := jfull a2
  have ea3 := jfull a3
  have ea4 := jfull a4
  show jX m_X12_kin 10 0 0 0 [(0, .ref 125), (1, .int a1), (2, .int a2), (3, .int a3), (4, .int a4)] [] _ 0 0 _
  unfold d_X12_kin_r125d at D
  refine x_aloadn (x := 125) rfl rfl ?_
  refine x_iconst (v := 0) rfl ki_0 ?_
  refine z_putI (N := 92) (w := 0) 12 0 rfl f_12_180 rfl (jfin_no TX12 RX12 92 rfl rfl) hD J Sm rfl rfl jk_0 (pw_125_0 (by omega)) rfl (fun h w1 J Sm => ?_)
  rw [vwf w1 (show 0 = (0 : Int32).toInt from by have := jk_0; omega)] at D
  refine x_aloadn (x := 125) rfl rfl ?_
  refine x_iloadn (x := a1) rfl rfl ?_
  refine x_iloadn (x := a2) rfl rfl ?_
  refine x_inv (N := m_X12_soulAt) (As := [.int a1, .int a2]) (b := 125) (st := []) (dx9 := 9) (mc := 0) (ms := 0) (host := "") 12 rfl t_X12_soulAt ⟨Or.inl q_12_399, i_X12_soulAt.1, i_X12_soulAt.2⟩ ⟨by decide, rfl⟩ (congrArg Prod.fst (J.1.1 125 (12, 92) rfl)) rfl (by decide) rfl rfl ⟨by decide, by decide⟩ (jC.of rfl k_X12_soulAt rfl ?_)
  show jX m_X12_soulAt 9 0 0 0 [(0, .ref 125), (1, .int a1), (2, .int a2)] [] _ 0 0 _
  refine x_aloadn (x := 125) rfl rfl ?_
  refine x_iloadn (x := a1) rfl rfl ?_
  refine x_inv (N := m_X12_isMention) (As := [.int a1]) (b := 125) (st := []) (dx9 := 8) (mc := 0) (ms := 0) (host := "") 12 rfl t_X12_isMention ⟨Or.inl q_12_322, i_X12_isMention.1, i_X12_isMention.2⟩ ⟨by decide, rfl⟩ (congrArg Prod.fst (J.1.1 125 (12, 92) rfl)) rfl (by decide) rfl rfl ⟨by decide, by decide⟩ (jC.of rfl k_X12_isMention rfl ?_)
  show jX m_X12_isMention 8 0 0 0 [(0, .ref 125), (1, .int a1)] [] _ 0 0 _
  refine x_iloadn (x := a1) rfl rfl ?_
  refine x_iflt (tgt := 34) rfl rfl (ti_lt rfl jk_0 ⟨fun c2 => ?_, fun c2 => ?_⟩)
  ·
    rw [if_pos (by omega)] at D
    refine x_iconst (v := 0) rfl ki_0 ?_
    refine x_zret rfl rfl (by decide) ?_
    show jX m_X12_soulAt 9 0 0 5 [(0, .ref 125), (1, .int a1), (2, .int a2)] [.int 0] _ 0 0 _
    refine x_ifeq (tgt := 15) rfl rfl (ti_eq jk_0 jk_0 (br_t (by omega) ?_))
    refine x_iconst (v := (-1)) rfl ki_m1 ?_
    refine x_iret rfl rfl ?_
    show jX m_X12_kin 10 0 0 11 [(0, .ref 125), (1, .int a1), (2, .int a2), (3, .int a3), (4, .int a4)] [.int (-1)] _ 0 0 _
    refine x_istore (lsx9 := [(5, .int (-1)), (0, .ref 125), (1, .int a1), (2, .int a2), (3, .int a3), (4, .int a4)]) rfl rfl rfl ?_
    refine x_iload (x := (-1)) rfl rfl ?_
    refine x_iconst (v := (-1)) rfl ki_m1 ?_
    refine x_iceq (tgt := 31) rfl rfl (ti_eq jk_m1 jk_m1 (br_t (by omega) ?_))
    exact jX.sub jsb_n (ct_X12_kin_r125d_31 hD hQ  h J Sm D)
  ·
    rw [if_neg (by omega)] at D
    refine x_aloadn (x := 125) rfl rfl ?_
    refine x_iloadn (x := a1) rfl rfl ?_
    refine x_iconst (v := 3) rfl ki_3 ?_
    refine z_idiv rfl rfl jk_3 (by omega) (by omega) (fun v3 ev3 => ?_)
    refine x_inv (N := m_X12_isLine) (As := [.int v3]) (b := 125) (st := []) (dx9 := 7) (mc := 0) (ms := 0) (host := "") 12 rfl t_X12_isLine ⟨Or.inl q_12_293, i_X12_isLine.1, i_X12_isLine.2⟩ ⟨by decide, rfl⟩ (congrArg Prod.fst (J.1.1 125 (12, 92) rfl)) rfl (by decide) rfl rfl ⟨by decide, by decide⟩ (jC.of rfl k_X12_isLine rfl ?_)
    show jX m_X12_isLine 7 0 0 0 [(0, .ref 125), (1, .int v3)] [] _ 0 0 _
    refine x_iloadn (x := v3) rfl rfl ?_
    refine z_i2l rfl rfl (fun v4 ev4 => ?_)
    refine x_lconst (v := 0) rfl kl_0 ?_
    refine x_aloadn (x := 125) rfl rfl ?_
    refine z_getR (N := 92) (b := 126) 12 2 rfl f_12_8 rfl J rfl 16002 ⟨rfl, rfl⟩ rfl ?_
    refine x_iconst (v := 0) rfl ki_0 ?_
    refine z_iald (N := 50660) rfl J rfl sg_126_0_1_1_0_1 jk_0 (by omega) (fun v5 qv5 ev5 => ?_)
    try rw [vrn (n := 0) (by decide) (jmb_w w1 qv5 rfl)] at D
    refine z_i2l rfl rfl (fun v6 ev6 => ?_)
    refine x_lconst (v := 1) rfl kl_1 ?_
    refine z_lsub rfl rfl jkl_1 (by omega) (fun v7 ev7 => ?_)
    refine x_inst (N := m_X12_in) (As := [.long v4, .long 0, .long v7]) (st := []) (dx9 := 1) (mc := 0) (ms := 0) (host := "") rfl t_X12_in ⟨Or.inl q_12_188, s_X12_in⟩ rfl (by decide) rfl rfl ⟨by decide, by decide⟩ (zc_X12_in rfl jkl_0 rfl (fun v8 ev8 => ?_))
    show jX m_X12_isLine 7 0 0 15 [(0, .ref 125), (1, .int v3)] [.int v8] _ 0 0 _
    refine x_zret rfl rfl (jz01 (by omega)) ?_
    show jX m_X12_isMention 8 0 0 11 [(0, .ref 125), (1, .int a1)] [.int v8] _ 0 0 _
    refine x_ifeq (tgt := 34) rfl rfl (ti_eq rfl jk_0 ⟨fun c9 => ?_, fun c9 => ?_⟩)
    ·
      rw [if_neg (by omega)] at D
      refine x_iconst (v := 0) rfl ki_0 ?_
      refine x_zret rfl rfl (by decide) ?_
      show jX m_X12_soulAt 9 0 0 5 [(0, .ref 125), (1, .int a1), (2, .int a2)] [.int 0] _ 0 0 _
      refine x_ifeq (tgt := 15) rfl rfl (ti_eq jk_0 jk_0 (br_t (by omega) ?_))
      refine x_iconst (v := (-1)) rfl ki_m1 ?_
      refine x_iret rfl rfl ?_
      show jX m_X12_kin 10 0 0 11 [(0, .ref 125), (1, .int a1), (2, .int a2), (3, .int a3), (4, .int a4)] [.int (-1)] _ 0 0 _
      refine x_istore (lsx9 := [(5, .int (-1)), (0, .ref 125), (1, .int a1), (2, .int a2), (3, .int a3), (4, .int a4)]) rfl rfl rfl ?_
      refine x_iload (x := (-1)) rfl rfl ?_
      refine x_iconst (v := (-1)) rfl ki_m1 ?_
      refine x_iceq (tgt := 31) rfl rfl (ti_eq jk_m1 jk_m1 (br_t (by omega) ?_))
      exact jX.sub jsb_n (ct_X12_kin_r125d_31 hD hQ  h J Sm D)
    ·
      rw [if_pos (by omega)] at D
      refine x_iloadn (x := a1) rfl rfl ?_
      refine x_iconst (v := 3) rfl ki_3 ?_
      refine z_irem rfl rfl jk_3 (by omega) (by omega) (fun v10 ev10 => ?_)
      refine x_aloadn (x := 125) rfl rfl ?_
      refine x_iloadn (x := a1) rfl rfl ?_
      refine x_iconst (v := 3) rfl ki_3 ?_
      refine z_idiv rfl rfl jk_3 (by omega) (by omega) (fun v11 ev11 => ?_)
      refine x_inv (N := m_X12_bookOf) (As := [.int v11]) (b := 125) (st := [.int v10]) (dx9 := 7) (mc := 0) (ms := 0) (host := "") 12 rfl t_X12_bookOf ⟨Or.inl q_12_299, i_X12_bookOf.1, i_X12_bookOf.2⟩ ⟨by decide, rfl⟩ (congrArg Prod.fst (J.1.1 125 (12, 92) rfl)) rfl (by decide) rfl rfl ⟨by decide, by decide⟩ (jC.of rfl k_X12_bookOf rfl ?_)
      show jX m_X12_bookOf 7 0 0 0 [(0, .ref 125), (1, .int v11)] [] _ 0 0 _
      refine x_aloadn (x := 125) rfl rfl ?_
      refine z_getR (N := 92) (b := 126) 12 2 rfl f_12_8 rfl J rfl 16002 ⟨rfl, rfl⟩ rfl ?_
      refine x_aloadn (x := 125) rfl rfl ?_
      refine x_iloadn (x := v11) rfl rfl ?_
      refine x_inv (N := m_X12_at) (As := [.int v11]) (b := 125) (st := [.ref 126]) (dx9 := 6) (mc := 0) (ms := 0) (host := "") 12 rfl t_X12_at ⟨Or.inl q_12_254, i_X12_at.1, i_X12_at.2⟩ ⟨by decide, rfl⟩ (congrArg Prod.fst (J.1.1 125 (12, 92) rfl)) rfl (by decide) rfl rfl ⟨by decide, by decide⟩ (jC.of rfl k_X12_at rfl ?_)
      show jX m_X12_at 6 0 0 0 [(0, .ref 125), (1, .int v11)] [] _ 0 0 _
      refine x_bipush (v := 20) rfl kb_20 ?_
      refine x_bipush (v := 90) rfl kb_90 ?_
      refine x_iloadn (x := v11) rfl rfl ?_
      refine z_imul rfl jk_90 rfl (by omega) (fun v12 ev12 => ?_)
      refine z_iadd rfl jk_20 rfl (by omega) (fun v13 ev13 => ?_)
      refine x_iret rfl rfl ?_
      show jX m_X12_bookOf 7 0 0 9 [(0, .ref 125), (1, .int v11)] [.int v13, .ref 126] _ 0 0 _
      refine z_iald (N := 50660) rfl J rfl sg_126_20_18020_90_0_1 rfl (by omega) (fun v14 qv14 ev14 => ?_)
      try rw [vrd (jmb_w w1 qv14 rfl) (show (20 + (90 * (a1.toInt / 3))) = v13.toInt from by omega)] at D
      refine x_iret rfl rfl ?_
      show jX m_X12_isMention 8 0 0 24 [(0, .ref 125), (1, .int a1)] [.int v14, .int v10] _ 0 0 _
      refine x_inst (N := m_X12_rolesOf) (As := [.int v14]) (st := [.int v10]) (dx9 := 7) (mc := 0) (ms := 0) (host := "") rfl t_X12_rolesOf ⟨Or.inl q_12_286, s_X12_rolesOf⟩ rfl (by decide) rfl rfl ⟨by decide, by decide⟩ (jC.of rfl k_X12_rolesOf rfl ?_)
      show jX m_X12_rolesOf 7 0 0 0 [(0, .int v14)] [] _ 0 0 _
      refine x_iloadn (x := v14) rfl rfl ?_
      refine x_ifne (tgt := 8) rfl rfl (ti_ne rfl jk_0 ⟨fun c15 => ?_, fun c15 => ?_⟩)
      ·
        rw [if_neg (by omega)] at D
        refine x_iloadn (x := v14) rfl rfl ?_
        refine x_iconst (v := 1) rfl ki_1 ?_
        refine x_icne (tgt := 17) rfl rfl (ti_ne rfl jk_1 ⟨fun c16 => ?_, fun c16 => ?_⟩)
        ·
          rw [if_neg (by omega)] at D
          refine x_iconst (v := 1) rfl ki_1 ?_
          refine x_iret rfl rfl ?_
          show jX m_X12_isMention 8 0 0 27 [(0, .ref 125), (1, .int a1)] [.int 1, .int v10] _ 0 0 _
          refine x_icge (tgt := 34) rfl rfl (ti_ge rfl jk_1 ⟨fun c17 => ?_, fun c17 => ?_⟩)
          ·
            rw [if_pos (by omega)] at D
            refine x_iconst (v := 0) rfl ki_0 ?_
            refine x_zret rfl rfl (by decide) ?_
            show jX m_X12_soulAt 9 0 0 5 [(0, .ref 125), (1, .int a1), (2, .int a2)] [.int 0] _ 0 0 _
            refine x_ifeq (tgt := 15) rfl rfl (ti_eq jk_0 jk_0 (br_t (by omega) ?_))
            refine x_iconst (v := (-1)) rfl ki_m1 ?_
            refine x_iret rfl rfl ?_
            show jX m_X12_kin 10 0 0 11 [(0, .ref 125), (1, .int a1), (2, .int a2), (3, .int a3), (4, .int a4)] [.int (-1)] _ 0 0 _
            refine x_istore (lsx9 := [(5, .int (-1)), (0, .ref 125), (1, .int a1), (2, .int a2), (3, .int a3), (4, .int a4)]) rfl rfl rfl ?_
            refine x_iload (x := (-1)) rfl rfl ?_
            refine x_iconst (v := (-1)) rfl ki_m1 ?_
            refine x_iceq (tgt := 31) rfl rfl (ti_eq jk_m1 jk_m1 (br_t (by omega) ?_))
            exact jX.sub jsb_n (ct_X12_kin_r125d_31 hD hQ  h J Sm D)
          ·
            rw [if_neg (by omega)] at D
            refine x_iconst (v := 1) rfl ki_1 ?_
            refine x_goto (tgt := 35) rfl rfl ?_
            refine x_zret rfl rfl (by decide) ?_
            show jX m_X12_soulAt 9 0 0 5 [(0, .ref 125), (1, .int a1), (2, .int a2)] [.int 1] _ 0 0 _
            refine x_ifeq (tgt := 15) rfl rfl (ti_eq jk_1 jk_0 (br_f (by omega) ?_))
            refine x_iloadn (x := a2) rfl rfl ?_
            refine x_inst (N := m_X12_isDay) (As := [.int a2]) (st := []) (dx9 := 2) (mc := 0) (ms := 0) (host := "") rfl t_X12_isDay ⟨Or.inl q_12_273, s_X12_isDay⟩ rfl (by decide) rfl rfl ⟨by decide, by decide⟩ (zc_X12_isDay (d := 1) rfl (fun v18 ev18 => ?_))
            show jX m_X12_soulAt 9 0 0 12 [(0, .ref 125), (1, .int a1), (2, .int a2)] [.int v18] _ 0 0 _
            refine x_ifne (tgt := 17) rfl rfl (ti_ne rfl jk_0 ⟨fun c19 => ?_, fun c19 => ?_⟩)
            ·
              rw [if_pos (by omega)] at D
              refine x_aloadn (x := 125) rfl rfl ?_
              refine x_iloadn (x := a2) rfl rfl ?_
              refine x_inv (N := m_X12_find) (As := [.int a2]) (b := 125) (st := []) (dx9 := 8) (mc := 0) (ms := 0) (host := "") 12 rfl t_X12_find ⟨Or.inl q_12_393, i_X12_find.1, i_X12_find.2⟩ ⟨by decide, rfl⟩ (congrArg Prod.fst (J.1.1 125 (12, 92) rfl)) rfl (by decide) rfl rfl ⟨by decide, by decide⟩ (sf_X12_find_r125d (jr_of rfl (by omega)) hD J rfl  (fun h J S20 X21 => ?_))
              have Sm := jSm_tr rfl Sm S20
              rw [X21] at D
              show jX m_X12_soulAt 9 0 0 22 [(0, .ref 125), (1, .int a1), (2, .int a2)] [] _ 0 0 _
              refine x_aloadn (x := 125) rfl rfl ?_
              refine z_getR (N := 92) (b := 139) 12 29 rfl f_12_72 rfl J rfl 16029 ⟨rfl, rfl⟩ rfl ?_
              refine x_iloadn (x := a1) rfl rfl ?_
              refine z_iald (N := 600) rfl J rfl sg_139_0_600_1_0_1 rfl (by omega) (fun v22 qv22 ev22 => ?_)
              try rw [vrd qv22 (show a1.toInt = a1.toInt from by omega)] at D
              refine x_iret rfl rfl ?_
              show jX m_X12_kin 10 0 0 11 [(0, .ref 125), (1, .int a1), (2, .int a2), (3, .int a3), (4, .int a4)] [.int v22] _ 0 0 _
              refine x_istore (lsx9 := [(5, .int v22), (0, .ref 125), (1, .int a1), (2, .int a2), (3, .int a3), (4, .int a4)]) rfl rfl rfl ?_
              refine x_iload (x := v22) rfl rfl ?_
              refine x_iconst (v := (-1)) rfl ki_m1 ?_
              refine x_iceq (tgt := 31) rfl rfl (ti_eq rfl jk_m1 ⟨fun c23 => ?_, fun c23 => ?_⟩)
              ·
                rw [if_pos (by omega)] at D
                exact jX.sub jsb_n (ct_X12_kin_r125d_31 hD hQ  h J Sm D)
              ·
                rw [if_neg (by omega)] at D
                refine x_iloadn (x := a3) rfl rfl ?_
                refine z_i2l rfl rfl (fun v24 ev24 => ?_)
                refine x_lconst (v := 0) rfl kl_0 ?_
                refine x_ldc2 (v := 3) rfl z_12_195 ?_
                refine x_inst (N := m_X12_in) (As := [.long v24, .long 0, .long 3]) (st := []) (dx9 := 1) (mc := 0) (ms := 0) (host := "") rfl t_X12_in ⟨Or.inl q_12_188, s_X12_in⟩ rfl (by decide) rfl rfl ⟨by decide, by decide⟩ (zc_X12_in rfl jkl_0 jkl_3 (fun v25 ev25 => ?_))
                show jX m_X12_kin 10 0 0 28 [(5, .int v22), (0, .ref 125), (1, .int a1), (2, .int a2), (3, .int a3), (4, .int a4)] [.int v25] _ 0 0 _
                refine x_ifne (tgt := 33) rfl rfl (ti_ne rfl jk_0 ⟨fun c26 => ?_, fun c26 => ?_⟩)
                ·
                  rw [if_pos (by omega)] at D
                  refine x_iloadn (x := a3) rfl rfl ?_
                  refine x_iconst (v := 2) rfl ki_2 ?_
                  refine x_icge (tgt := 75) rfl rfl (ti_ge rfl jk_2 ⟨fun c27 => ?_, fun c27 => ?_⟩)
                  ·
                    rw [if_pos (by omega)] at D
                    refine x_iconst (v := 0) rfl ki_0 ?_
                    refine x_istore (lsx9 := [(6, .int 0), (5, .int v22), (0, .ref 125), (1, .int a1), (2, .int a2), (3, .int a3), (4, .int a4)]) rfl rfl rfl ?_
                    refine x_iconst (v := 0) rfl ki_0 ?_
                    refine x_istore (lsx9 := [(7, .int 0), (6, .int 0), (5, .int v22), (0, .ref 125), (1, .int a1), (2, .int a2), (3, .int a3), (4, .int a4)]) rfl rfl rfl ?_
                    exact jX.sub (jsb_c rfl (jsb_c rfl (jsb_c rfl (jsb_c rfl (jsb_c rfl (jsb_c rfl jsb_n)))))) (ct_X12_kin_r125d_81 hD hQ  201 a3 a4 v22 0 0 v5 h (by have := jk_0; omega) (jr_of rfl (by omega)) (jr_of rfl (by omega)) (jr_of jk_0 (by omega)) (jr_of rfl (by omega)) (jmc S20 rfl qv5) J Sm (by rw [jk_0]; exact D))
                  ·
                    rw [if_neg (by omega)] at D
                    refine x_aloadn (x := 125) rfl rfl ?_
                    refine x_iload (x := v22) rfl rfl ?_
                    refine x_iconst (v := 0) rfl ki_0 ?_
                    refine x_ldcw (v := 146399) rfl z_12_392 ?_
                    refine x_inv (N := m_X12_mentionOf) (As := [.int v22, .int 0, .int 146399]) (b := 125) (st := []) (dx9 := 4) (mc := 0) (ms := 0) (host := "") 12 rfl t_X12_mentionOf ⟨Or.inl q_12_405, i_X12_mentionOf.1, i_X12_mentionOf.2⟩ ⟨by decide, rfl⟩ (congrArg Prod.fst (J.1.1 125 (12, 92) rfl)) rfl (by decide) rfl rfl ⟨by decide, by decide⟩ (sf_X12_mentionOf_r125d (jr_of rfl (by omega)) (jr_of jk_0 (by omega)) (jr_of jk_146399 (by omega)) hD J rfl  (fun v31 h ev31 J S28 X29 X30 => ?_))
                    have Sm := jSm_tr rfl Sm S28
                    try rw [jk_0] at X29
                    try rw [jk_146399] at X29
                    try rw [X29] at D
                    try rw [← X30] at D
                    show jX m_X12_kin 10 0 0 48 [(5, .int v22), (0, .ref 125), (1, .int a1), (2, .int a2), (3, .int a3), (4, .int a4)] [.int v31] _ 0 0 _
                    refine x_istore (lsx9 := [(6, .int v31), (5, .int v22), (0, .ref 125), (1, .int a1), (2, .int a2), (3, .int a3), (4, .int a4)]) rfl rfl rfl ?_
                    refine x_iload (x := v31) rfl rfl ?_
                    refine x_iconst (v := (-1)) rfl ki_m1 ?_
                    refine x_icne (tgt := 60) rfl rfl (ti_ne rfl jk_m1 ⟨fun c32 => ?_, fun c32 => ?_⟩)
                    ·
                      rw [if_neg (by omega)] at D
                      refine x_aloadn (x := 125) rfl rfl ?_
                      refine x_iload (x := v31) rfl rfl ?_
                      refine x_iconst (v := 3) rfl ki_3 ?_
                      refine z_idiv rfl rfl jk_3 (by omega) (by omega) (fun v33 ev33 => ?_)
                      refine x_iconst (v := 3) rfl ki_3 ?_
                      refine z_imul rfl rfl jk_3 (by omega) (fun v34 ev34 => ?_)
                      refine x_iconst (v := 1) rfl ki_1 ?_
                      refine z_iadd rfl rfl jk_1 (by omega) (fun v35 ev35 => ?_)
                      refine x_iloadn (x := a3) rfl rfl ?_
                      refine z_iadd rfl rfl rfl (by omega) (fun v36 ev36 => ?_)
                      try rw [show ((((v31.toInt / 3) * 3) + 1) + a3.toInt) = v36.toInt from by omega] at D
                      refine x_inv (N := m_X12_named) (As := [.int v36]) (b := 125) (st := []) (dx9 := 5) (mc := 0) (ms := 0) (host := "") 12 rfl t_X12_named ⟨Or.inl q_12_409, i_X12_named.1, i_X12_named.2⟩ ⟨by decide, rfl⟩ (congrArg Prod.fst (J.1.1 125 (12, 92) rfl)) rfl (by decide) rfl rfl ⟨by decide, by decide⟩ (sf_X12_named_r125d (jr_of rfl (by omega)) hD J rfl  (fun v40 h ev40 J S37 X38 X39 => ?_))
                      have Sm := jSm_tr rfl Sm S37
                      try rw [X38] at D
                      try rw [← X39] at D
                      show jX m_X12_kin 10 0 0 74 [(6, .int v31), (5, .int v22), (0, .ref 125), (1, .int a1), (2, .int a2), (3, .int a3), (4, .int a4)] [.int v40] _ 0 0 _
                      exact jX.sub jsb_n (ct_X12_kin_r125d_74 hD hQ  v40 h (jr_of rfl (by omega)) J Sm D)
                    ·
                      rw [if_pos (by omega)] at D
                      refine x_iconst (v := (-1)) rfl ki_m1 ?_
                      refine x_goto (tgt := 74) rfl rfl ?_
                      exact jX.sub jsb_n (ct_X12_kin_r125d_100074 hD hQ  h J Sm D)
                ·
                  rw [if_neg (by omega)] at D
                  exact jX.sub jsb_n (ct_X12_kin_r125d_31 hD hQ  h J Sm D)
            ·
              rw [if_neg (by omega)] at D
              refine x_iconst (v := (-1)) rfl ki_m1 ?_
              refine x_iret rfl rfl ?_
              show jX m_X12_kin 10 0 0 11 [(0, .ref 125), (1, .int a1), (2, .int a2), (3, .int a3), (4, .int a4)] [.int (-1)] _ 0 0 _
              refine x_istore (lsx9 := [(5, .int (-1)), (0, .ref 125), (1, .int a1), (2, .int a2), (3, .int a3), (4, .int a4)]) rfl rfl rfl ?_
              refine x_iload (x := (-1)) rfl rfl ?_
              refine x_iconst (v := (-1)) rfl ki_m1 ?_
              refine x_iceq (tgt := 31) rfl rfl (ti_eq jk_m1 jk_m1 (br_t (by omega) ?_))
              exact jX.sub jsb_n (ct_X12_kin_r125d_31 hD hQ  h J Sm D)
        ·
          rw [if_pos (by omega)] at D
          refine x_iconst (v := 2) rfl ki_2 ?_
          refine x_goto (tgt := 18) rfl rfl ?_
          refine x_iret rfl rfl ?_
          show jX m_X12_isMention 8 0 0 27 [(0, .ref 125), (1, .int a1)] [.int 2, .int v10] _ 0 0 _
          refine x_icge (tgt := 34) rfl rfl (ti_ge rfl jk_2 ⟨fun c41 => ?_, fun c41 => ?_⟩)
          ·
            rw [if_pos (by omega)] at D
            refine x_iconst (v := 0) rfl ki_0 ?_
            refine x_zret rfl rfl (by decide) ?_
            show jX m_X12_soulAt 9 0 0 5 [(0, .ref 125), (1, .int a1), (2, .int a2)] [.int 0] _ 0 0 _
            refine x_ifeq (tgt := 15) rfl rfl (ti_eq jk_0 jk_0 (br_t (by omega) ?_))
            refine x_iconst (v := (-1)) rfl ki_m1 ?_
            refine x_iret rfl rfl ?_
            show jX m_X12_kin 10 0 0 11 [(0, .ref 125), (1, .int a1), (2, .int a2), (3, .int a3), (4, .int a4)] [.int (-1)] _ 0 0 _
            refine x_istore (lsx9 := [(5, .int (-1)), (0, .ref 125), (1, .int a1), (2, .int a2), (3, .int a3), (4, .int a4)]) rfl rfl rfl ?_
            refine x_iload (x := (-1)) rfl rfl ?_
            refine x_iconst (v := (-1)) rfl ki_m1 ?_
            refine x_iceq (tgt := 31) rfl rfl (ti_eq jk_m1 jk_m1 (br_t (by omega) ?_))
            exact jX.sub jsb_n (ct_X12_kin_r125d_31 hD hQ  h J Sm D)
          ·
            rw [if_neg (by omega)] at D
            refine x_iconst (v := 1) rfl ki_1 ?_
            refine x_goto (tgt := 35) rfl rfl ?_
            refine x_zret rfl rfl (by decide) ?_
            show jX m_X12_soulAt 9 0 0 5 [(0, .ref 125), (1, .int a1), (2, .int a2)] [.int 1] _ 0 0 _
            refine x_ifeq (tgt := 15) rfl rfl (ti_eq jk_1 jk_0 (br_f (by omega) ?_))
            refine x_iloadn (x := a2) rfl rfl ?_
            refine x_inst (N := m_X12_isDay) (As := [.int a2]) (st := []) (dx9 := 2) (mc := 0) (ms := 0) (host := "") rfl t_X12_isDay ⟨Or.inl q_12_273, s_X12_isDay⟩ rfl (by decide) rfl rfl ⟨by decide, by decide⟩ (zc_X12_isDay (d := 1) rfl (fun v42 ev42 => ?_))
            show jX m_X12_soulAt 9 0 0 12 [(0, .ref 125), (1, .int a1), (2, .int a2)] [.int v42] _ 0 0 _
            refine x_ifne (tgt := 17) rfl rfl (ti_ne rfl jk_0 ⟨fun c43 => ?_, fun c43 => ?_⟩)
            ·
              rw [if_pos (by omega)] at D
              refine x_aloadn (x := 125) rfl rfl ?_
              refine x_iloadn (x := a2) rfl rfl ?_
              refine x_inv (N := m_X12_find) (As := [.int a2]) (b := 125) (st := []) (dx9 := 8) (mc := 0) (ms := 0) (host := "") 12 rfl t_X12_find ⟨Or.inl q_12_393, i_X12_find.1, i_X12_find.2⟩ ⟨by decide, rfl⟩ (congrArg Prod.fst (J.1.1 125 (12, 92) rfl)) rfl (by decide) rfl rfl ⟨by decide, by decide⟩ (sf_X12_find_r125d (jr_of rfl (by omega)) hD J rfl  (fun h J S44 X45 => ?_))
              have Sm := jSm_tr rfl Sm S44
              rw [X45] at D
              show jX m_X12_soulAt 9 0 0 22 [(0, .ref 125), (1, .int a1), (2, .int a2)] [] _ 0 0 _
              refine x_aloadn (x := 125) rfl rfl ?_
              refine z_getR (N := 92) (b := 139) 12 29 rfl f_12_72 rfl J rfl 16029 ⟨rfl, rfl⟩ rfl ?_
              refine x_iloadn (x := a1) rfl rfl ?_
              refine z_iald (N := 600) rfl J rfl sg_139_0_600_1_0_1 rfl (by omega) (fun v46 qv46 ev46 => ?_)
              try rw [vrd qv46 (show a1.toInt = a1.toInt from by omega)] at D
              refine x_iret rfl rfl ?_
              show jX m_X12_kin 10 0 0 11 [(0, .ref 125), (1, .int a1), (2, .int a2), (3, .int a3), (4, .int a4)] [.int v46] _ 0 0 _
              refine x_istore (lsx9 := [(5, .int v46), (0, .ref 125), (1, .int a1), (2, .int a2), (3, .int a3), (4, .int a4)]) rfl rfl rfl ?_
              refine x_iload (x := v46) rfl rfl ?_
              refine x_iconst (v := (-1)) rfl ki_m1 ?_
              refine x_iceq (tgt := 31) rfl rfl (ti_eq rfl jk_m1 ⟨fun c47 => ?_, fun c47 => ?_⟩)
              ·
                rw [if_pos (by omega)] at D
                exact jX.sub jsb_n (ct_X12_kin_r125d_31 hD hQ  h J Sm D)
              ·
                rw [if_neg (by omega)] at D
                refine x_iloadn (x := a3) rfl rfl ?_
                refine z_i2l rfl rfl (fun v48 ev48 => ?_)
                refine x_lconst (v := 0) rfl kl_0 ?_
                refine x_ldc2 (v := 3) rfl z_12_195 ?_
                refine x_inst (N := m_X12_in) (As := [.long v48, .long 0, .long 3]) (st := []) (dx9 := 1) (mc := 0) (ms := 0) (host := "") rfl t_X12_in ⟨Or.inl q_12_188, s_X12_in⟩ rfl (by decide) rfl rfl ⟨by decide, by decide⟩ (zc_X12_in rfl jkl_0 jkl_3 (fun v49 ev49 => ?_))
                show jX m_X12_kin 10 0 0 28 [(5, .int v46), (0, .ref 125), (1, .int a1), (2, .int a2), (3, .int a3), (4, .int a4)] [.int v49] _ 0 0 _
                refine x_ifne (tgt := 33) rfl rfl (ti_ne rfl jk_0 ⟨fun c50 => ?_, fun c50 => ?_⟩)
                ·
                  rw [if_pos (by omega)] at D
                  refine x_iloadn (x := a3) rfl rfl ?_
                  refine x_iconst (v := 2) rfl ki_2 ?_
                  refine x_icge (tgt := 75) rfl rfl (ti_ge rfl jk_2 ⟨fun c51 => ?_, fun c51 => ?_⟩)
                  ·
                    rw [if_pos (by omega)] at D
                    refine x_iconst (v := 0) rfl ki_0 ?_
                    refine x_istore (lsx9 := [(6, .int 0), (5, .int v46), (0, .ref 125), (1, .int a1), (2, .int a2), (3, .int a3), (4, .int a4)]) rfl rfl rfl ?_
                    refine x_iconst (v := 0) rfl ki_0 ?_
                    refine x_istore (lsx9 := [(7, .int 0), (6, .int 0), (5, .int v46), (0, .ref 125), (1, .int a1), (2, .int a2), (3, .int a3), (4, .int a4)]) rfl rfl rfl ?_
                    exact jX.sub (jsb_c rfl (jsb_c rfl (jsb_c rfl (jsb_c rfl (jsb_c rfl (jsb_c rfl jsb_n)))))) (ct_X12_kin_r125d_81 hD hQ  201 a3 a4 v46 0 0 v5 h (by have := jk_0; omega) (jr_of rfl (by omega)) (jr_of rfl (by omega)) (jr_of jk_0 (by omega)) (jr_of rfl (by omega)) (jmc S44 rfl qv5) J Sm (by rw [jk_0]; exact D))
                  ·
                    rw [if_neg (by omega)] at D
                    refine x_aloadn (x := 125) rfl rfl ?_
                    refine x_iload (x := v46) rfl rfl ?_
                    refine x_iconst (v := 0) rfl ki_0 ?_
                    refine x_ldcw (v := 146399) rfl z_12_392 ?_
                    refine x_inv (N := m_X12_mentionOf) (As := [.int v46, .int 0, .int 146399]) (b := 125) (st := []) (dx9 := 4) (mc := 0) (ms := 0) (host := "") 12 rfl t_X12_mentionOf ⟨Or.inl q_12_405, i_X12_mentionOf.1, i_X12_mentionOf.2⟩ ⟨by decide, rfl⟩ (congrArg Prod.fst (J.1.1 125 (12, 92) rfl)) rfl (by decide) rfl rfl ⟨by decide, by decide⟩ (sf_X12_mentionOf_r125d (jr_of rfl (by omega)) (jr_of jk_0 (by omega)) (jr_of jk_146399 (by omega)) hD J rfl  (fun v55 h ev55 J S52 X53 X54 => ?_))
                    have Sm := jSm_tr rfl Sm S52
                    try rw [jk_0] at X53
                    try rw [jk_146399] at X53
                    try rw [X53] at D
                    try rw [← X54] at D
                    show jX m_X12_kin 10 0 0 48 [(5, .int v46), (0, .ref 125), (1, .int a1), (2, .int a2), (3, .int a3), (4, .int a4)] [.int v55] _ 0 0 _
                    refine x_istore (lsx9 := [(6, .int v55), (5, .int v46), (0, .ref 125), (1, .int a1), (2, .int a2), (3, .int a3), (4, .int a4)]) rfl rfl rfl ?_
                    refine x_iload (x := v55) rfl rfl ?_
                    refine x_iconst (v := (-1)) rfl ki_m1 ?_
                    refine x_icne (tgt := 60) rfl rfl (ti_ne rfl jk_m1 ⟨fun c56 => ?_, fun c56 => ?_⟩)
                    ·
                      rw [if_neg (by omega)] at D
                      refine x_aloadn (x := 125) rfl rfl ?_
                      refine x_iload (x := v55) rfl rfl ?_
                      refine x_iconst (v := 3) rfl ki_3 ?_
                      refine z_idiv rfl rfl jk_3 (by omega) (by omega) (fun v57 ev57 => ?_)
                      refine x_iconst (v := 3) rfl ki_3 ?_
                      refine z_imul rfl rfl jk_3 (by omega) (fun v58 ev58 => ?_)
                      refine x_iconst (v := 1) rfl ki_1 ?_
                      refine z_iadd rfl rfl jk_1 (by omega) (fun v59 ev59 => ?_)
                      refine x_iloadn (x := a3) rfl rfl ?_
                      refine z_iadd rfl rfl rfl (by omega) (fun v60 ev60 => ?_)
                      try rw [show ((((v55.toInt / 3) * 3) + 1) + a3.toInt) = v60.toInt from by omega] at D
                      refine x_inv (N := m_X12_named) (As := [.int v60]) (b := 125) (st := []) (dx9 := 5) (mc := 0) (ms := 0) (host := "") 12 rfl t_X12_named ⟨Or.inl q_12_409, i_X12_named.1, i_X12_named.2⟩ ⟨by decide, rfl⟩ (congrArg Prod.fst (J.1.1 125 (12, 92) rfl)) rfl (by decide) rfl rfl ⟨by decide, by decide⟩ (sf_X12_named_r125d (jr_of rfl (by omega)) hD J rfl  (fun v64 h ev64 J S61 X62 X63 => ?_))
                      have Sm := jSm_tr rfl Sm S61
                      try rw [X62] at D
                      try rw [← X63] at D
                      show jX m_X12_kin 10 0 0 74 [(6, .int v55), (5, .int v46), (0, .ref 125), (1, .int a1), (2, .int a2), (3, .int a3), (4, .int a4)] [.int v64] _ 0 0 _
                      exact jX.sub jsb_n (ct_X12_kin_r125d_74 hD hQ  v64 h (jr_of rfl (by omega)) J Sm D)
                    ·
                      rw [if_pos (by omega)] at D
                      refine x_iconst (v := (-1)) rfl ki_m1 ?_
                      refine x_goto (tgt := 74) rfl rfl ?_
                      exact jX.sub jsb_n (ct_X12_kin_r125d_100074 hD hQ  h J Sm D)
                ·
                  rw [if_neg (by omega)] at D
                  exact jX.sub jsb_n (ct_X12_kin_r125d_31 hD hQ  h J Sm D)
            ·
              rw [if_neg (by omega)] at D
              refine x_iconst (v := (-1)) rfl ki_m1 ?_
              refine x_iret rfl rfl ?_
              show jX m_X12_kin 10 0 0 11 [(0, .ref 125), (1, .int a1), (2, .int a2), (3, .int a3), (4, .int a4)] [.int (-1)] _ 0 0 _
              refine x_istore (lsx9 := [(5, .int (-1)), (0, .ref 125), (1, .int a1), (2, .int a2), (3, .int a3), (4, .int a4)]) rfl rfl rfl ?_
              refine x_iload (x := (-1)) rfl rfl ?_
              refine x_iconst (v := (-1)) rfl ki_m1 ?_
              refine x_iceq (tgt := 31) rfl rfl (ti_eq jk_m1 jk_m1 (br_t (by omega) ?_))
              exact jX.sub jsb_n (ct_X12_kin_r125d_31 hD hQ  h J Sm D)
      ·
        rw [if_pos (by omega)] at D
        refine x_iconst (v := 3) rfl ki_3 ?_
        refine x_goto (tgt := 18) rfl rfl ?_
        refine x_iret rfl rfl ?_
        show jX m_X12_isMention 8 0 0 27 [(0, .ref 125), (1, .int a1)] [.int 3, .int v10] _ 0 0 _
        refine x_icge (tgt := 34) rfl rfl (ti_ge rfl jk_3 (br_f (by omega) ?_))
        refine x_iconst (v := 1) rfl ki_1 ?_
        refine x_goto (tgt := 35) rfl rfl ?_
        refine x_zret rfl rfl (by decide) ?_
        show jX m_X12_soulAt 9 0 0 5 [(0, .ref 125), (1, .int a1), (2, .int a2)] [.int 1] _ 0 0 _
        refine x_ifeq (tgt := 15) rfl rfl (ti_eq jk_1 jk_0 (br_f (by omega) ?_))
        refine x_iloadn (x := a2) rfl rfl ?_
        refine x_inst (N := m_X12_isDay) (As := [.int a2]) (st := []) (dx9 := 2) (mc := 0) (ms := 0) (host := "") rfl t_X12_isDay ⟨Or.inl q_12_273, s_X12_isDay⟩ rfl (by decide) rfl rfl ⟨by decide, by decide⟩ (zc_X12_isDay (d := 1) rfl (fun v65 ev65 => ?_))
        show jX m_X12_soulAt 9 0 0 12 [(0, .ref 125), (1, .int a1), (2, .int a2)] [.int v65] _ 0 0 _
        refine x_ifne (tgt := 17) rfl rfl (ti_ne rfl jk_0 ⟨fun c66 => ?_, fun c66 => ?_⟩)
        ·
          rw [if_pos (by omega)] at D
          refine x_aloadn (x := 125) rfl rfl ?_
          refine x_iloadn (x := a2) rfl rfl ?_
          refine x_inv (N := m_X12_find) (As := [.int a2]) (b := 125) (st := []) (dx9 := 8) (mc := 0) (ms := 0) (host := "") 12 rfl t_X12_find ⟨Or.inl q_12_393, i_X12_find.1, i_X12_find.2⟩ ⟨by decide, rfl⟩ (congrArg Prod.fst (J.1.1 125 (12, 92) rfl)) rfl (by decide) rfl rfl ⟨by decide, by decide⟩ (sf_X12_find_r125d (jr_of rfl (by omega)) hD J rfl  (fun h J S67 X68 => ?_))
          have Sm := jSm_tr rfl Sm S67
          rw [X68] at D
          show jX m_X12_soulAt 9 0 0 22 [(0, .ref 125), (1, .int a1), (2, .int a2)] [] _ 0 0 _
          refine x_aloadn (x := 125) rfl rfl ?_
          refine z_getR (N := 92) (b := 139) 12 29 rfl f_12_72 rfl J rfl 16029 ⟨rfl, rfl⟩ rfl ?_
          refine x_iloadn (x := a1) rfl rfl ?_
          refine z_iald (N := 600) rfl J rfl sg_139_0_600_1_0_1 rfl (by omega) (fun v69 qv69 ev69 => ?_)
          try rw [vrd qv69 (show a1.toInt = a1.toInt from by omega)] at D
          refine x_iret rfl rfl ?_
          show jX m_X12_kin 10 0 0 11 [(0, .ref 125), (1, .int a1), (2, .int a2), (3, .int a3), (4, .int a4)] [.int v69] _ 0 0 _
          refine x_istore (lsx9 := [(5, .int v69), (0, .ref 125), (1, .int a1), (2, .int a2), (3, .int a3), (4, .int a4)]) rfl rfl rfl ?_
          refine x_iload (x := v69) rfl rfl ?_
          refine x_iconst (v := (-1)) rfl ki_m1 ?_
          refine x_iceq (tgt := 31) rfl rfl (ti_eq rfl jk_m1 ⟨fun c70 => ?_, fun c70 => ?_⟩)
          ·
            rw [if_pos (by omega)] at D
            exact jX.sub jsb_n (ct_X12_kin_r125d_31 hD hQ  h J Sm D)
          ·
            rw [if_neg (by omega)] at D
            refine x_iloadn (x := a3) rfl rfl ?_
            refine z_i2l rfl rfl (fun v71 ev71 => ?_)
            refine x_lconst (v := 0) rfl kl_0 ?_
            refine x_ldc2 (v := 3) rfl z_12_195 ?_
            refine x_inst (N := m_X12_in) (As := [.long v71, .long 0, .long 3]) (st := []) (dx9 := 1) (mc := 0) (ms := 0) (host := "") rfl t_X12_in ⟨Or.inl q_12_188, s_X12_in⟩ rfl (by decide) rfl rfl ⟨by decide, by decide⟩ (zc_X12_in rfl jkl_0 jkl_3 (fun v72 ev72 => ?_))
            show jX m_X12_kin 10 0 0 28 [(5, .int v69), (0, .ref 125), (1, .int a1), (2, .int a2), (3, .int a3), (4, .int a4)] [.int v72] _ 0 0 _
            refine x_ifne (tgt := 33) rfl rfl (ti_ne rfl jk_0 ⟨fun c73 => ?_, fun c73 => ?_⟩)
            ·
              rw [if_pos (by omega)] at D
              refine x_iloadn (x := a3) rfl rfl ?_
              refine x_iconst (v := 2) rfl ki_2 ?_
              refine x_icge (tgt := 75) rfl rfl (ti_ge rfl jk_2 ⟨fun c74 => ?_, fun c74 => ?_⟩)
              ·
                rw [if_pos (by omega)] at D
                refine x_iconst (v := 0) rfl ki_0 ?_
                refine x_istore (lsx9 := [(6, .int 0), (5, .int v69), (0, .ref 125), (1, .int a1), (2, .int a2), (3, .int a3), (4, .int a4)]) rfl rfl rfl ?_
                refine x_iconst (v := 0) rfl ki_0 ?_
                refine x_istore (lsx9 := [(7, .int 0), (6, .int 0), (5, .int v69), (0, .ref 125), (1, .int a1), (2, .int a2), (3, .int a3), (4, .int a4)]) rfl rfl rfl ?_
                exact jX.sub (jsb_c rfl (jsb_c rfl (jsb_c rfl (jsb_c rfl (jsb_c rfl (jsb_c rfl jsb_n)))))) (ct_X12_kin_r125d_81 hD hQ  201 a3 a4 v69 0 0 v5 h (by have := jk_0; omega) (jr_of rfl (by omega)) (jr_of rfl (by omega)) (jr_of jk_0 (by omega)) (jr_of rfl (by omega)) (jmc S67 rfl qv5) J Sm (by rw [jk_0]; exact D))
              ·
                rw [if_neg (by omega)] at D
                refine x_aloadn (x := 125) rfl rfl ?_
                refine x_iload (x := v69) rfl rfl ?_
                refine x_iconst (v := 0) rfl ki_0 ?_
                refine x_ldcw (v := 146399) rfl z_12_392 ?_
                refine x_inv (N := m_X12_mentionOf) (As := [.int v69, .int 0, .int 146399]) (b := 125) (st := []) (dx9 := 4) (mc := 0) (ms := 0) (host := "") 12 rfl t_X12_mentionOf ⟨Or.inl q_12_405, i_X12_mentionOf.1, i_X12_mentionOf.2⟩ ⟨by decide, rfl⟩ (congrArg Prod.fst (J.1.1 125 (12, 92) rfl)) rfl (by decide) rfl rfl ⟨by decide, by decide⟩ (sf_X12_mentionOf_r125d (jr_of rfl (by omega)) (jr_of jk_0 (by omega)) (jr_of jk_146399 (by omega)) hD J rfl  (fun v78 h ev78 J S75 X76 X77 => ?_))
                have Sm := jSm_tr rfl Sm S75
                try rw [jk_0] at X76
                try rw [jk_146399] at X76
                try rw [X76] at D
                try rw [← X77] at D
                show jX m_X12_kin 10 0 0 48 [(5, .int v69), (0, .ref 125), (1, .int a1), (2, .int a2), (3, .int a3), (4, .int a4)] [.int v78] _ 0 0 _
                refine x_istore (lsx9 := [(6, .int v78), (5, .int v69), (0, .ref 125), (1, .int a1), (2, .int a2), (3, .int a3), (4, .int a4)]) rfl rfl rfl ?_
                refine x_iload (x := v78) rfl rfl ?_
                refine x_iconst (v := (-1)) rfl ki_m1 ?_
                refine x_icne (tgt := 60) rfl rfl (ti_ne rfl jk_m1 ⟨fun c79 => ?_, fun c79 => ?_⟩)
                ·
                  rw [if_neg (by omega)] at D
                  refine x_aloadn (x := 125) rfl rfl ?_
                  refine x_iload (x := v78) rfl rfl ?_
                  refine x_iconst (v := 3) rfl ki_3 ?_
                  refine z_idiv rfl rfl jk_3 (by omega) (by omega) (fun v80 ev80 => ?_)
                  refine x_iconst (v := 3) rfl ki_3 ?_
                  refine z_imul rfl rfl jk_3 (by omega) (fun v81 ev81 => ?_)
                  refine x_iconst (v := 1) rfl ki_1 ?_
                  refine z_iadd rfl rfl jk_1 (by omega) (fun v82 ev82 => ?_)
                  refine x_iloadn (x := a3) rfl rfl ?_
                  refine z_iadd rfl rfl rfl (by omega) (fun v83 ev83 => ?_)
                  try rw [show ((((v78.toInt / 3) * 3) + 1) + a3.toInt) = v83.toInt from by omega] at D
                  refine x_inv (N := m_X12_named) (As := [.int v83]) (b := 125) (st := []) (dx9 := 5) (mc := 0) (ms := 0) (host := "") 12 rfl t_X12_named ⟨Or.inl q_12_409, i_X12_named.1, i_X12_named.2⟩ ⟨by decide, rfl⟩ (congrArg Prod.fst (J.1.1 125 (12, 92) rfl)) rfl (by decide) rfl rfl ⟨by decide, by decide⟩ (sf_X12_named_r125d (jr_of rfl (by omega)) hD J rfl  (fun v87 h ev87 J S84 X85 X86 => ?_))
                  have Sm := jSm_tr rfl Sm S84
                  try rw [X85] at D
                  try rw [← X86] at D
                  show jX m_X12_kin 10 0 0 74 [(6, .int v78), (5, .int v69), (0, .ref 125), (1, .int a1), (2, .int a2), (3, .int a3), (4, .int a4)] [.int v87] _ 0 0 _
                  exact jX.sub jsb_n (ct_X12_kin_r125d_74 hD hQ  v87 h (jr_of rfl (by omega)) J Sm D)
                ·
                  rw [if_pos (by omega)] at D
                  refine x_iconst (v := (-1)) rfl ki_m1 ?_
                  refine x_goto (tgt := 74) rfl rfl ?_
                  exact jX.sub jsb_n (ct_X12_kin_r125d_100074 hD hQ  h J Sm D)
            ·
              rw [if_neg (by omega)] at D
              exact jX.sub jsb_n (ct_X12_kin_r125d_31 hD hQ  h J Sm D)
        ·
          rw [if_neg (by omega)] at D
          refine x_iconst (v := (-1)) rfl ki_m1 ?_
          refine x_iret rfl rfl ?_
          show jX m_X12_kin 10 0 0 11 [(0, .ref 125), (1, .int a1), (2, .int a2), (3, .int a3), (4, .int a4)] [.int (-1)] _ 0 0 _
          refine x_istore (lsx9 := [(5, .int (-1)), (0, .ref 125), (1, .int a1), (2, .int a2), (3, .int a3), (4, .int a4)]) rfl rfl rfl ?_
          refine x_iload (x := (-1)) rfl rfl ?_
          refine x_iconst (v := (-1)) rfl ki_m1 ?_
          refine x_iceq (tgt := 31) rfl rfl (ti_eq jk_m1 jk_m1 (br_t (by omega) ?_))
          exact jX.sub jsb_n (ct_X12_kin_r125d_31 hD hQ  h J Sm D)
def fp_X12_levy_r125d : jFp := [(125, 0, 1), (125, 1, 2), (126, 11, 12), (126, 48300, 48460)]
set_option maxRecDepth 100000 in
set_option maxHeartbeats 4000000 in
theorem ct_X12_levy_r125d_44 {Dy : jH → Prop} {h0 : jH} {Q : Option Value → jH → Prop} {dr : (Int × jW)} (hD : jDk Dy) (hQ : ∀ (v : Int32) hx9, jJ jSgM Dy hx9 → jSm fp_X12_levy_r125d h0 hx9 → dr.1 = v.toInt → dr.2 = vw hx9 → Q (some (.int v)) hx9) : ∀ (h : jH), jJ jSgM Dy h → jSm fp_X12_levy_r125d h0 h → d_X12_levy_r125d_44  (vw h) = dr → jX m_X12_levy 3 0 0 44 [(0, .ref 125)] [] h 0 0 Q := by
  intro  h    J Sm D
  unfold d_X12_levy_r125d_44 at D
  refine x_aloadn (x := 125) rfl rfl ?_
  refine x_iconst (v := (-1)) rfl ki_m1 ?_
  refine x_inv (N := m_X12_told) (As := [.int (-1)]) (b := 125) (st := []) (dx9 := 1) (mc := 0) (ms := 0) (host := "") 12 rfl t_X12_told ⟨Or.inl q_12_197, i_X12_told.1, i_X12_told.2⟩ ⟨by decide, rfl⟩ (congrArg Prod.fst (J.1.1 125 (12, 92) rfl)) rfl (by decide) rfl rfl ⟨by decide, by decide⟩ (sf_X12_told_r125d  hD J rfl  (fun v4 h J S1 X2 X3 => ?_))
  have ev4 := jfull v4
  have Sm := jSm_tr rfl Sm S1
  try rw [jk_m1] at X2
  try rw [jk_m1] at X3
  try rw [X2] at D
  try rw [X3] at D
  show jX m_X12_levy 3 0 0 49 [(0, .ref 125)] [.int v4] _ 0 0 _
  refine x_iret rfl rfl ?_
  exact hQ _ _ J Sm ((congrArg Prod.fst D).symm.trans X2) ((congrArg Prod.snd D).symm.trans X3)
set_option maxRecDepth 100000 in
set_option maxHeartbeats 4000000 in
theorem sf_X12_levy_r125d {Dy : jH → Prop} {h : jH} {Q : Option Value → jH → Prop} {dr : (Int × jW)} {a1 : Int32} {a2 : Int32} {a3 : Int32} {a4 : Int32} (hD : jDk Dy) (J : jJ jSgM Dy h) (D : d_X12_levy_r125d a1.toInt a2.toInt a3.toInt a4.toInt (vw h) = dr) (hQ : ∀ (v : Int32) hx9, jJ jSgM Dy hx9 → jSm fp_X12_levy_r125d h hx9 → dr.1 = v.toInt → dr.2 = vw hx9 → Q (some (.int v)) hx9) : jC m_X12_levy 3 0 0 [.ref 125, .int a1, .int a2, .int a3, .int a4] h Q := by
  refine jC.of rfl k_X12_levy rfl ?_
  have Sm := jSm_rf fp_X12_levy_r125d h
  have ea1 := jfull a1
  have ea2 := jfull a2
  have ea3 := jfull a3
  have ea4 := jfull a4
  show jX m_X12_levy 3 0 0 0 [(0, .ref 125), (1, .int a1), (2, .int a2), (3, .int a3), (4, .int a4)] [] _ 0 0 _
  unfold d_X12_levy_r125d at D
  refine x_aloadn (x := 125) rfl rfl ?_
  refine x_iconst (v := 0) rfl ki_0 ?_
  refine z_putI (N := 92) (w := 0) 12 0 rfl f_12_180 rfl (jfin_no TX12 RX12 92 rfl rfl) hD J Sm rfl rfl jk_0 (pw_125_0 (by omega)) rfl (fun h w1 J Sm => ?_)
  rw [vwf w1 (show 0 = (0 : Int32).toInt from by have := jk_0; omega)] at D
  refine x_iloadn (x := a1) rfl rfl ?_
  refine z_i2l rfl rfl (fun v2 ev2 => ?_)
  refine x_lconst (v := 0) rfl kl_0 ?_
  refine x_ldc2 (v := 2) rfl z_12_482 ?_
  refine x_inst (N := m_X12_in) (As := [.long v2, .long 0, .long 2]) (st := []) (dx9 := 1) (mc := 0) (ms := 0) (host := "") rfl t_X12_in ⟨Or.inl q_12_188, s_X12_in⟩ rfl (by decide) rfl rfl ⟨by decide, by decide⟩ (zc_X12_in rfl jkl_0 jkl_2 (fun v3 ev3 => ?_))
  show jX m_X12_levy 3 0 0 14 [(0, .ref 125), (1, .int a1), (2, .int a2), (3, .int a3), (4, .int a4)] [.int v3] _ 0 0 _
  refine x_ifeq (tgt := 44) rfl rfl (ti_eq rfl jk_0 ⟨fun c4 => ?_, fun c4 => ?_⟩)
  ·
    rw [if_neg (by omega)] at D
    exact jX.sub (jsb_c rfl jsb_n) (ct_X12_levy_r125d_44 hD hQ  h J Sm D)
  ·
    rw [if_pos (by omega)] at D
    refine x_iloadn (x := a2) rfl rfl ?_
    refine x_inst (N := m_X12_isYear) (As := [.int a2]) (st := []) (dx9 := 2) (mc := 0) (ms := 0) (host := "") rfl t_X12_isYear ⟨Or.inl q_12_817, s_X12_isYear⟩ rfl (by decide) rfl rfl ⟨by decide, by decide⟩ (zc_X12_isYear (d := 1) rfl (fun v5 ev5 => ?_))
    show jX m_X12_levy 3 0 0 21 [(0, .ref 125), (1, .int a1), (2, .int a2), (3, .int a3), (4, .int a4)] [.int v5] _ 0 0 _
    refine x_ifeq (tgt := 44) rfl rfl (ti_eq rfl jk_0 ⟨fun c6 => ?_, fun c6 => ?_⟩)
    ·
      rw [if_neg (by omega)] at D
      exact jX.sub (jsb_c rfl jsb_n) (ct_X12_levy_r125d_44 hD hQ  h J Sm D)
    ·
      rw [if_pos (by omega)] at D
      refine x_iloadn (x := a3) rfl rfl ?_
      refine z_i2l rfl rfl (fun v7 ev7 => ?_)
      refine x_lconst (v := 0) rfl kl_0 ?_
      refine x_ldc2 (v := 1000000) rfl z_12_244 ?_
      refine x_inst (N := m_X12_in) (As := [.long v7, .long 0, .long 1000000]) (st := []) (dx9 := 1) (mc := 0) (ms := 0) (host := "") rfl t_X12_in ⟨Or.inl q_12_188, s_X12_in⟩ rfl (by decide) rfl rfl ⟨by decide, by decide⟩ (zc_X12_in rfl jkl_0 jkl_1000000 (fun v8 ev8 => ?_))
      show jX m_X12_levy 3 0 0 33 [(0, .ref 125), (1, .int a1), (2, .int a2), (3, .int a3), (4, .int a4)] [.int v8] _ 0 0 _
      refine x_ifeq (tgt := 44) rfl rfl (ti_eq rfl jk_0 ⟨fun c9 => ?_, fun c9 => ?_⟩)
      ·
        rw [if_neg (by omega)] at D
        exact jX.sub (jsb_c rfl jsb_n) (ct_X12_levy_r125d_44 hD hQ  h J Sm D)
      ·
        rw [if_pos (by omega)] at D
        refine x_iload (x := a4) rfl rfl ?_
        refine x_inst (N := m_X12_isDay) (As := [.int a4]) (st := []) (dx9 := 2) (mc := 0) (ms := 0) (host := "") rfl t_X12_isDay ⟨Or.inl q_12_273, s_X12_isDay⟩ rfl (by decide) rfl rfl ⟨by decide, by decide⟩ (zc_X12_isDay (d := 1) rfl (fun v10 ev10 => ?_))
        show jX m_X12_levy 3 0 0 41 [(0, .ref 125), (1, .int a1), (2, .int a2), (3, .int a3), (4, .int a4)] [.int v10] _ 0 0 _
        refine x_ifne (tgt := 50) rfl rfl (ti_ne rfl jk_0 ⟨fun c11 => ?_, fun c11 => ?_⟩)
        ·
          rw [if_pos (by omega)] at D
          refine x_aloadn (x := 125) rfl rfl ?_
          refine z_getR (N := 92) (b := 126) 12 2 rfl f_12_8 rfl J rfl 16002 ⟨rfl, rfl⟩ rfl ?_
          refine x_bipush (v := 11) rfl kb_11 ?_
          refine z_iald (N := 50660) rfl J rfl sg_126_11_12_1_0_1 jk_11 (by omega) (fun v12 qv12 ev12 => ?_)
          try rw [vrn (n := 11) (by decide) (jmb_w w1 qv12 rfl)] at D
          refine x_bipush (v := 40) rfl kb_40 ?_
          refine x_icne (tgt := 69) rfl rfl (ti_ne rfl jk_40 ⟨fun c13 => ?_, fun c13 => ?_⟩)
          ·
            rw [if_neg (by omega)] at D
            refine x_aloadn (x := 125) rfl rfl ?_
            refine x_ldcw (v := 48300) rfl z_12_820 ?_
            refine x_iconst (v := 4) rfl ki_4 ?_
            refine x_aloadn (x := 125) rfl rfl ?_
            refine z_getR (N := 92) (b := 126) 12 2 rfl f_12_8 rfl J rfl 16002 ⟨rfl, rfl⟩ rfl ?_
            refine x_bipush (v := 11) rfl kb_11 ?_
            refine z_ialdM (N := 50660) (v := v12) rfl J rfl jk_11 (by omega) qv12 ?_
            refine z_imul rfl jk_4 rfl (by omega) (fun v14 ev14 => ?_)
            refine z_iadd rfl jk_48300 rfl (by omega) (fun v15 ev15 => ?_)
            refine x_iloadn (x := a1) rfl rfl ?_
            refine x_iloadn (x := a2) rfl rfl ?_
            refine x_iloadn (x := a3) rfl rfl ?_
            refine x_iload (x := a4) rfl rfl ?_
            refine x_inv (N := m_X12_addFour) (As := [.int v15, .int a1, .int a2, .int a3, .int a4]) (b := 125) (st := []) (dx9 := 2) (mc := 0) (ms := 0) (host := "") 12 rfl t_X12_addFour ⟨Or.inl q_12_814, i_X12_addFour.1, i_X12_addFour.2⟩ ⟨by decide, rfl⟩ (congrArg Prod.fst (J.1.1 125 (12, 92) rfl)) rfl (by decide) rfl rfl ⟨by decide, by decide⟩ (jC.of rfl k_X12_addFour rfl ?_)
            show jX m_X12_addFour 2 0 0 0 [(0, .ref 125), (1, .int v15), (2, .int a1), (3, .int a2), (4, .int a3), (5, .int a4)] [] _ 0 0 _
            refine x_aloadn (x := 125) rfl rfl ?_
            refine z_getR (N := 92) (b := 126) 12 2 rfl f_12_8 rfl J rfl 16002 ⟨rfl, rfl⟩ rfl ?_
            refine x_iloadn (x := v15) rfl rfl ?_
            refine x_iloadn (x := a1) rfl rfl ?_
            refine z_iast (N := 50660) (l := 48300) (u := 48460) (w := a1.toInt) rfl hD J Sm rfl rfl rfl (by omega) rfl (wr_126_48300 (by omega) (fun q1 q2 q3 q4 => by omega) (fun q1 q2 q3 q4 => by omega) (fun q1 q2 q3 q4 => by omega) (fun q1 q2 q3 q4 => by omega)) rfl (fun h w16 J Sm => ?_)
            rw [vww w16 (show (48300 + (4 * v12.toInt)) = v15.toInt from by omega) (show a1.toInt = a1.toInt from by omega)] at D
            refine x_aloadn (x := 125) rfl rfl ?_
            refine z_getR (N := 92) (b := 126) 12 2 rfl f_12_8 rfl J rfl 16002 ⟨rfl, rfl⟩ rfl ?_
            refine x_iloadn (x := v15) rfl rfl ?_
            refine x_iconst (v := 1) rfl ki_1 ?_
            refine z_iadd rfl rfl jk_1 (by omega) (fun v17 ev17 => ?_)
            refine x_iloadn (x := a2) rfl rfl ?_
            refine z_iast (N := 50660) (l := 48300) (u := 48460) (w := a2.toInt) rfl hD J Sm rfl rfl rfl (by omega) rfl (wr_126_48300 (by omega) (fun q1 q2 q3 q4 => by omega) (fun q1 q2 q3 q4 => by omega) (fun q1 q2 q3 q4 => by omega) (fun q1 q2 q3 q4 => by omega)) rfl (fun h w18 J Sm => ?_)
            rw [vww w18 (show ((48300 + (4 * v12.toInt)) + 1) = v17.toInt from by omega) (show a2.toInt = a2.toInt from by omega)] at D
            refine x_aloadn (x := 125) rfl rfl ?_
            refine z_getR (N := 92) (b := 126) 12 2 rfl f_12_8 rfl J rfl 16002 ⟨rfl, rfl⟩ rfl ?_
            refine x_iloadn (x := v15) rfl rfl ?_
            refine x_iconst (v := 2) rfl ki_2 ?_
            refine z_iadd rfl rfl jk_2 (by omega) (fun v19 ev19 => ?_)
            refine x_iload (x := a3) rfl rfl ?_
            refine z_iast (N := 50660) (l := 48300) (u := 48460) (w := a3.toInt) rfl hD J Sm rfl rfl rfl (by omega) rfl (wr_126_48300 (by omega) (fun q1 q2 q3 q4 => by omega) (fun q1 q2 q3 q4 => by omega) (fun q1 q2 q3 q4 => by omega) (fun q1 q2 q3 q4 => by omega)) rfl (fun h w20 J Sm => ?_)
            rw [vww w20 (show ((48300 + (4 * v12.toInt)) + 2) = v19.toInt from by omega) (show a3.toInt = a3.toInt from by omega)] at D
            refine x_aloadn (x := 125) rfl rfl ?_
            refine z_getR (N := 92) (b := 126) 12 2 rfl f_12_8 rfl J rfl 16002 ⟨rfl, rfl⟩ rfl ?_
            refine x_iloadn (x := v15) rfl rfl ?_
            refine x_iconst (v := 3) rfl ki_3 ?_
            refine z_iadd rfl rfl jk_3 (by omega) (fun v21 ev21 => ?_)
            refine x_iload (x := a4) rfl rfl ?_
            refine z_iast (N := 50660) (l := 48300) (u := 48460) (w := a4.toInt) rfl hD J Sm rfl rfl rfl (by omega) rfl (wr_126_48300 (by omega) (fun q1 q2 q3 q4 => by omega) (fun q1 q2 q3 q4 => by omega) (fun q1 q2 q3 q4 => by omega) (fun q1 q2 q3 q4 => by omega)) rfl (fun h w22 J Sm => ?_)
            rw [vww w22 (show ((48300 + (4 * v12.toInt)) + 3) = v21.toInt from by omega) (show a4.toInt = a4.toInt from by omega)] at D
            refine x_vret rfl rfl ?_
            show jX m_X12_levy 3 0 0 91 [(0, .ref 125), (1, .int a1), (2, .int a2), (3, .int a3), (4, .int a4)] [] _ 0 0 _
            refine x_aloadn (x := 125) rfl rfl ?_
            refine z_getR (N := 92) (b := 126) 12 2 rfl f_12_8 rfl J rfl 16002 ⟨rfl, rfl⟩ rfl ?_
            refine x_bipush (v := 11) rfl kb_11 ?_
            refine x_dup2 rfl rfl rfl ?_
            refine z_ialdM (N := 50660) (v := v12) rfl J rfl jk_11 (by omega) (jmo2 w22 rfl jk_11 (by omega) (jmo2 w20 rfl jk_11 (by omega) (jmo2 w18 rfl jk_11 (by omega) (jmo2 w16 rfl jk_11 (by omega) qv12)))) ?_
            refine x_iconst (v := 1) rfl ki_1 ?_
            refine z_iadd rfl rfl jk_1 (by omega) (fun v23 ev23 => ?_)
            refine z_iast (N := 50660) (l := 11) (u := 12) (w := v23.toInt) rfl hD J Sm rfl rfl jk_11 (by omega) rfl (wr_126_11 (by omega) (fun q1 q2 q3 q4 => by omega)) rfl (fun h w24 J Sm => ?_)
            rw [vwn (n := 11) (by decide) w24 (show (v12.toInt + 1) = v23.toInt from by omega)] at D
            refine x_aloadn (x := 125) rfl rfl ?_
            refine x_aloadn (x := 125) rfl rfl ?_
            refine z_getR (N := 92) (b := 126) 12 2 rfl f_12_8 rfl J rfl 16002 ⟨rfl, rfl⟩ rfl ?_
            refine x_bipush (v := 11) rfl kb_11 ?_
            refine z_ialdM (N := 50660) (v := v23) rfl J rfl jk_11 (by omega) (jmw w24) ?_
            refine x_iconst (v := 1) rfl ki_1 ?_
            refine z_isub rfl rfl jk_1 (by omega) (fun v25 ev25 => ?_)
            try rw [show ((v12.toInt + 1) - 1) = v25.toInt from by omega] at D
            refine x_inv (N := m_X12_told) (As := [.int v25]) (b := 125) (st := []) (dx9 := 1) (mc := 0) (ms := 0) (host := "") 12 rfl t_X12_told ⟨Or.inl q_12_197, i_X12_told.1, i_X12_told.2⟩ ⟨by decide, rfl⟩ (congrArg Prod.fst (J.1.1 125 (12, 92) rfl)) rfl (by decide) rfl rfl ⟨by decide, by decide⟩ (sf_X12_told_r125d  hD J rfl  (fun v29 h J S26 X27 X28 => ?_))
            have ev29 := jfull v29
            have Sm := jSm_tr rfl Sm S26
            try rw [X27] at D
            try rw [X28] at D
            show jX m_X12_levy 3 0 0 115 [(0, .ref 125), (1, .int a1), (2, .int a2), (3, .int a3), (4, .int a4)] [.int v29] _ 0 0 _
            refine x_iret rfl rfl ?_
            exact hQ _ _ J Sm ((congrArg Prod.fst D).symm.trans X27) ((congrArg Prod.snd D).symm.trans X28)
          ·
            rw [if_pos (by omega)] at D
            refine x_aloadn (x := 125) rfl rfl ?_
            refine x_bipush (v := (-5)) rfl kb_m5 ?_
            refine x_inv (N := m_X12_told) (As := [.int (-5)]) (b := 125) (st := []) (dx9 := 1) (mc := 0) (ms := 0) (host := "") 12 rfl t_X12_told ⟨Or.inl q_12_197, i_X12_told.1, i_X12_told.2⟩ ⟨by decide, rfl⟩ (congrArg Prod.fst (J.1.1 125 (12, 92) rfl)) rfl (by decide) rfl rfl ⟨by decide, by decide⟩ (sf_X12_told_r125d  hD J rfl  (fun v33 h J S30 X31 X32 => ?_))
            have ev33 := jfull v33
            have Sm := jSm_tr rfl Sm S30
            try rw [jk_m5] at X31
            try rw [jk_m5] at X32
            try rw [X31] at D
            try rw [X32] at D
            show jX m_X12_levy 3 0 0 68 [(0, .ref 125), (1, .int a1), (2, .int a2), (3, .int a3), (4, .int a4)] [.int v33] _ 0 0 _
            refine x_iret rfl rfl ?_
            exact hQ _ _ J Sm ((congrArg Prod.fst D).symm.trans X31) ((congrArg Prod.snd D).symm.trans X32)
        ·
          rw [if_neg (by omega)] at D
          exact jX.sub (jsb_c rfl jsb_n) (ct_X12_levy_r125d_44 hD hQ  h J Sm D)
def fp_X12_readName_r125d : jFp := [(125, 9, 10), (125, 10, 11), (125, 11, 12), (125, 12, 13), (125, 13, 14), (125, 14, 15), (126, 20, 18020)]
set_option maxRecDepth 100000 in
set_option maxHeartbeats 4000000 in
theorem ct_X12_readName_r125d_32 {Dy : jH → Prop} {h0 : jH} {Q : Option Value → jH → Prop} {dr : jW} (hD : jDk Dy) (hQ : ∀ hx9, jJ jSgM Dy hx9 → jSm fp_X12_readName_r125d h0 hx9 → ∀ u0 u1 u2 : Int32, jiv hx9 125 10 = u0 → jiv hx9 125 8 = u1 → jiv hx9 125 9 = u2 → (u0.toInt ≤ u1.toInt ∧ u2.toInt ≤ u0.toInt) → ∀ u3 u4 u5 : Int32, jiv hx9 125 11 = u3 → jiv hx9 125 9 = u4 → jiv hx9 125 10 = u5 → (u3.toInt = 0 ∨ u4.toInt + 1 ≤ u5.toInt) → dr = vw hx9 → Q none hx9) : ∀ (g0 : Int32) (g1 : Int32) (g2 : Int32) (g3 : Int32) (h : jH), 0 ≤ g0.toInt ∧ g0.toInt ≤ 400 → 0 ≤ g1.toInt ∧ g1.toInt ≤ 3 → 0 ≤ g2.toInt ∧ g2.toInt ≤ 400 → 0 ≤ g3.toInt ∧ g3.toInt ≤ 400 → (g0.toInt ≤ g2.toInt ∧ g3.toInt ≤ g0.toInt) → (g1.toInt = 0 ∨ g3.toInt + 1 ≤ g0.toInt) → jiv h 125 10 = g0 → jiv h 125 11 = g1 → jiv h 125 8 = g2 → jiv h 125 9 = g3 → jJ jSgM Dy h → jSm fp_X12_readName_r125d h0 h → d_X12_readName_r125d_32  (vw h) = dr → jX m_X12_readName 4 0 0 32 [(0, .ref 125)] [] h 0 0 Q := by
  intro g0 g1 g2 g3 h y0 y1 y2 y3 y4 y5 z0 z1 z2 z3  J Sm D
  unfold d_X12_readName_r125d_32 at D
  try rw [vrf z0] at D
  try rw [vrf z1] at D
  try rw [vrf z2] at D
  try rw [vrf z3] at D
  refine x_aloadn (x := 125) rfl rfl ?_
  refine x_inv (N := m_X12_next) (As := []) (b := 125) (st := []) (dx9 := 2) (mc := 0) (ms := 0) (host := "") 12 rfl t_X12_next ⟨Or.inl q_12_218, i_X12_next.1, i_X12_next.2⟩ ⟨by decide, rfl⟩ (congrArg Prod.fst (J.1.1 125 (12, 92) rfl)) rfl (by decide) rfl rfl ⟨by decide, by decide⟩ (sf_X12_next_r125d  hD J z0 z2 (by omega) rfl  (fun h J S1 u2 u3 u4 qu2 qu3 qu4 ru2 u5 u6 u7 qu5 qu6 qu7 ru5 P8 X9 => ?_))
  have Sm := jSm_tr rfl Sm S1
  rw [X9] at D
  have eu2 := (show 0 ≤ u2.toInt ∧ u2.toInt ≤ 400 from qu2 ▸ jrg_f J sg_125_10_11_1_0_1)
  try rw [vrf qu2] at D
  have eu3 := (show 0 ≤ u3.toInt ∧ u3.toInt ≤ 400 from qu3 ▸ jrg_f J sg_125_8_9_1_0_1)
  try rw [vrf (jmb_c S1 qu3 rfl)] at D
  have eu4 := (show 0 ≤ u4.toInt ∧ u4.toInt ≤ 400 from qu4 ▸ jrg_f J sg_125_9_10_1_0_1)
  try rw [vrf qu4] at D
  have eu5 := (show 0 ≤ u5.toInt ∧ u5.toInt ≤ 3 from qu5 ▸ jrg_f J sg_125_11_12_1_0_1)
  try rw [vrf qu5] at D
  obtain rfl : u4 = u6 := qu4.symm.trans qu6
  obtain rfl : u2 = u7 := qu2.symm.trans qu7
  have nfP8 := jnf P8.1 z0 qu4
  show jX m_X12_readName 4 0 0 36 [(0, .ref 125)] [] _ 0 0 _
  refine x_vret rfl rfl ?_
  exact hQ _ J Sm _ _ _ qu2 qu3 qu4 (by omega) _ _ _ qu5 qu4 qu2 (by omega) D.symm
set_option maxRecDepth 100000 in
set_option maxHeartbeats 4000000 in
theorem ct_X12_readName_r125d_200182 {Dy : jH → Prop} {h0 : jH} {Q : Option Value → jH → Prop} {dr : jW} (hD : jDk Dy) (hQ : ∀ hx9, jJ jSgM Dy hx9 → jSm fp_X12_readName_r125d h0 hx9 → ∀ u0 u1 u2 : Int32, jiv hx9 125 10 = u0 → jiv hx9 125 8 = u1 → jiv hx9 125 9 = u2 → (u0.toInt ≤ u1.toInt ∧ u2.toInt ≤ u0.toInt) → ∀ u3 u4 u5 : Int32, jiv hx9 125 11 = u3 → jiv hx9 125 9 = u4 → jiv hx9 125 10 = u5 → (u3.toInt = 0 ∨ u4.toInt + 1 ≤ u5.toInt) → dr = vw hx9 → Q none hx9) : ∀ (s1 : Int32) (g0 : Int32) (g1 : Int32) (g2 : Int32) (g3 : Int32) (h : jH), 27 ≤ s1.toInt ∧ s1.toInt ≤ 18007 → s1.toInt % 2 = 1 → 0 ≤ g0.toInt ∧ g0.toInt ≤ 400 → 0 ≤ g1.toInt ∧ g1.toInt ≤ 3 → 0 ≤ g2.toInt ∧ g2.toInt ≤ 400 → 0 ≤ g3.toInt ∧ g3.toInt ≤ 400 → (g0.toInt ≤ g2.toInt ∧ g3.toInt ≤ g0.toInt) → (g1.toInt = 0 ∨ g3.toInt + 1 ≤ g0.toInt) → jiv h 125 10 = g0 → jiv h 125 11 = g1 → jiv h 125 8 = g2 → jiv h 125 9 = g3 → jJ jSgM Dy h → jSm fp_X12_readName_r125d h0 h → d_X12_readName_r125d_200182  s1.toInt (vw h) = dr → jX m_X12_readName 4 0 0 182 [] [.int 0, .int s1, .ref 126] h 0 0 Q := by
  intro s1 g0 g1 g2 g3 h y0 y1 y2 y3 y4 y5 y6 y7 z0 z1 z2 z3  J Sm D
  unfold d_X12_readName_r125d_200182 at D
  try rw [vrf z0] at D
  try rw [vrf z1] at D
  try rw [vrf z2] at D
  try rw [vrf z3] at D
  refine z_iast (N := 50660) (l := 20) (u := 18020) (w := 0) rfl hD J Sm rfl rfl rfl (by omega) jk_0 (wr_126_20 (by omega) (fun q1 q2 q3 q4 => by omega) (fun q1 q2 q3 q4 => by omega) (fun q1 q2 q3 q4 => by omega) (fun q1 q2 q3 q4 => by omega) (fun q1 q2 q3 q4 => by omega) (fun q1 q2 q3 q4 => by omega) (fun q1 q2 q3 q4 => by omega) (fun q1 q2 q3 q4 => by omega) (fun q1 q2 q3 q4 => by omega) (fun q1 q2 q3 q4 => by omega) (fun q1 q2 q3 q4 => by omega) (fun q1 q2 q3 q4 => by omega) (fun q1 q2 q3 q4 => by omega) (fun q1 q2 q3 q4 => by omega) (fun q1 q2 q3 q4 => by omega) (fun q1 q2 q3 q4 => by omega) (fun q1 q2 q3 q4 => by omega) (fun q1 q2 q3 q4 => by omega) (fun q1 q2 q3 q4 => by omega) (fun q1 q2 q3 q4 => by omega) (fun q1 q2 q3 q4 => by omega) (fun q1 q2 q3 q4 => by omega) (fun q1 q2 q3 q4 => by omega)) rfl (fun h w1 J Sm => ?_)
  rw [vww w1 (show s1.toInt = s1.toInt from by omega) (show 0 = (0 : Int32).toInt from by have := jk_0; omega)] at D
  refine x_vret rfl rfl ?_
  exact hQ _ J Sm _ _ _ (jmo w1 rfl z0) (jmo w1 rfl z2) (jmo w1 rfl z3) (by omega) _ _ _ (jmo w1 rfl z1) (jmo w1 rfl z3) (jmo w1 rfl z0) (by omega) D.symm
set_option maxRecDepth 100000 in
set_option maxHeartbeats 4000000 in
theorem ct_X12_readName_r125d_300182 {Dy : jH → Prop} {h0 : jH} {Q : Option Value → jH → Prop} {dr : jW} (hD : jDk Dy) (hQ : ∀ hx9, jJ jSgM Dy hx9 → jSm fp_X12_readName_r125d h0 hx9 → ∀ u0 u1 u2 : Int32, jiv hx9 125 10 = u0 → jiv hx9 125 8 = u1 → jiv hx9 125 9 = u2 → (u0.toInt ≤ u1.toInt ∧ u2.toInt ≤ u0.toInt) → ∀ u3 u4 u5 : Int32, jiv hx9 125 11 = u3 → jiv hx9 125 9 = u4 → jiv hx9 125 10 = u5 → (u3.toInt = 0 ∨ u4.toInt + 1 ≤ u5.toInt) → dr = vw hx9 → Q none hx9) : ∀ (s1 : Int32) (g0 : Int32) (g1 : Int32) (g2 : Int32) (g3 : Int32) (h : jH), 27 ≤ s1.toInt ∧ s1.toInt ≤ 18007 → s1.toInt % 2 = 1 → 0 ≤ g0.toInt ∧ g0.toInt ≤ 400 → 0 ≤ g1.toInt ∧ g1.toInt ≤ 3 → 0 ≤ g2.toInt ∧ g2.toInt ≤ 400 → 0 ≤ g3.toInt ∧ g3.toInt ≤ 400 → (g0.toInt ≤ g2.toInt ∧ g3.toInt ≤ g0.toInt) → (g1.toInt = 0 ∨ g3.toInt + 1 ≤ g0.toInt) → jiv h 125 10 = g0 → jiv h 125 11 = g1 → jiv h 125 8 = g2 → jiv h 125 9 = g3 → jJ jSgM Dy h → jSm fp_X12_readName_r125d h0 h → d_X12_readName_r125d_300182  s1.toInt (vw h) = dr → jX m_X12_readName 4 0 0 182 [] [.int 1, .int s1, .ref 126] h 0 0 Q := by
  intro s1 g0 g1 g2 g3 h y0 y1 y2 y3 y4 y5 y6 y7 z0 z1 z2 z3  J Sm D
  unfold d_X12_readName_r125d_300182 at D
  try rw [vrf z0] at D
  try rw [vrf z1] at D
  try rw [vrf z2] at D
  try rw [vrf z3] at D
  refine z_iast (N := 50660) (l := 20) (u := 18020) (w := 1) rfl hD J Sm rfl rfl rfl (by omega) jk_1 (wr_126_20 (by omega) (fun q1 q2 q3 q4 => by omega) (fun q1 q2 q3 q4 => by omega) (fun q1 q2 q3 q4 => by omega) (fun q1 q2 q3 q4 => by omega) (fun q1 q2 q3 q4 => by omega) (fun q1 q2 q3 q4 => by omega) (fun q1 q2 q3 q4 => by omega) (fun q1 q2 q3 q4 => by omega) (fun q1 q2 q3 q4 => by omega) (fun q1 q2 q3 q4 => by omega) (fun q1 q2 q3 q4 => by omega) (fun q1 q2 q3 q4 => by omega) (fun q1 q2 q3 q4 => by omega) (fun q1 q2 q3 q4 => by omega) (fun q1 q2 q3 q4 => by omega) (fun q1 q2 q3 q4 => by omega) (fun q1 q2 q3 q4 => by omega) (fun q1 q2 q3 q4 => by omega) (fun q1 q2 q3 q4 => by omega) (fun q1 q2 q3 q4 => by omega) (fun q1 q2 q3 q4 => by omega) (fun q1 q2 q3 q4 => by omega) (fun q1 q2 q3 q4 => by omega)) rfl (fun h w1 J Sm => ?_)
  rw [vww w1 (show s1.toInt = s1.toInt from by omega) (show 1 = (1 : Int32).toInt from by have := jk_1; omega)] at D
  refine x_vret rfl rfl ?_
  exact hQ _ J Sm _ _ _ (jmo w1 rfl z0) (jmo w1 rfl z2) (jmo w1 rfl z3) (by omega) _ _ _ (jmo w1 rfl z1) (jmo w1 rfl z3) (jmo w1 rfl z0) (by omega) D.symm
set_option maxRecDepth 100000 in
set_option maxHeartbeats 4000000 in
theorem ct_X12_readName_r125d_177 {Dy : jH → Prop} {h0 : jH} {Q : Option Value → jH → Prop} {dr : jW} (hD : jDk Dy) (hQ : ∀ hx9, jJ jSgM Dy hx9 → jSm fp_X12_readName_r125d h0 hx9 → ∀ u0 u1 u2 : Int32, jiv hx9 125 10 = u0 → jiv hx9 125 8 = u1 → jiv hx9 125 9 = u2 → (u0.toInt ≤ u1.toInt ∧ u2.toInt ≤ u0.toInt) → ∀ u3 u4 u5 : Int32, jiv hx9 125 11 = u3 → jiv hx9 125 9 = u4 → jiv hx9 125 10 = u5 → (u3.toInt = 0 ∨ u4.toInt + 1 ≤ u5.toInt) → dr = vw hx9 → Q none hx9) : ∀ (s0 : Int32) (g0 : Int32) (g1 : Int32) (g2 : Int32) (g3 : Int32) (h : jH), 27 ≤ s0.toInt ∧ s0.toInt ≤ 18007 → s0.toInt % 2 = 1 → 0 ≤ g0.toInt ∧ g0.toInt ≤ 400 → 0 ≤ g1.toInt ∧ g1.toInt ≤ 3 → 0 ≤ g2.toInt ∧ g2.toInt ≤ 400 → 0 ≤ g3.toInt ∧ g3.toInt ≤ 400 → (g0.toInt ≤ g2.toInt ∧ g3.toInt ≤ g0.toInt) → (g1.toInt = 0 ∨ g3.toInt + 1 ≤ g0.toInt) → jiv h 125 10 = g0 → jiv h 125 11 = g1 → jiv h 125 8 = g2 → jiv h 125 9 = g3 → jJ jSgM Dy h → jSm fp_X12_readName_r125d h0 h → d_X12_readName_r125d_177  s0.toInt (vw h) = dr → jX m_X12_readName 4 0 0 177 [] [.int s0, .ref 126] h 0 0 Q := by
  intro s0 g0 g1 g2 g3 h y0 y1 y2 y3 y4 y5 y6 y7 z0 z1 z2 z3  J Sm D
  unfold d_X12_readName_r125d_177 at D
  try rw [vrf z0] at D
  try rw [vrf z1] at D
  try rw [vrf z2] at D
  try rw [vrf z3] at D
  refine x_iconst (v := 1) rfl ki_1 ?_
  refine x_goto (tgt := 182) rfl rfl ?_
  exact jX.sub jsb_n (ct_X12_readName_r125d_300182 hD hQ  s0 g0 g1 g2 g3 h (jr_of rfl (by omega)) (jr_mod rfl (by omega)) (jr_of rfl (by omega)) (jr_of rfl (by omega)) (jr_of rfl (by omega)) (jr_of rfl (by omega)) (by omega) (by omega) z0 z1 z2 z3 J Sm D)
set_option maxRecDepth 100000 in
set_option maxHeartbeats 4000000 in
theorem ct_X12_readName_r125d_160 {Dy : jH → Prop} {h0 : jH} {Q : Option Value → jH → Prop} {dr : jW} (hD : jDk Dy) (hQ : ∀ hx9, jJ jSgM Dy hx9 → jSm fp_X12_readName_r125d h0 hx9 → ∀ u0 u1 u2 : Int32, jiv hx9 125 10 = u0 → jiv hx9 125 8 = u1 → jiv hx9 125 9 = u2 → (u0.toInt ≤ u1.toInt ∧ u2.toInt ≤ u0.toInt) → ∀ u3 u4 u5 : Int32, jiv hx9 125 11 = u3 → jiv hx9 125 9 = u4 → jiv hx9 125 10 = u5 → (u3.toInt = 0 ∨ u4.toInt + 1 ≤ u5.toInt) → dr = vw hx9 → Q none hx9) : ∀ (l1 : Int32) (l4 : Int32) (l5 : Int32) (g0 : Int32) (g1 : Int32) (g2 : Int32) (g3 : Int32) (h : jH), 26 ≤ l1.toInt ∧ l1.toInt ≤ 18006 → l1.toInt % 2 = 0 → 0 ≤ l4.toInt ∧ l4.toInt ≤ 1 → 0 ≤ l5.toInt ∧ l5.toInt ≤ 1 → 0 ≤ g0.toInt ∧ g0.toInt ≤ 400 → 0 ≤ g1.toInt ∧ g1.toInt ≤ 3 → 0 ≤ g2.toInt ∧ g2.toInt ≤ 400 → 0 ≤ g3.toInt ∧ g3.toInt ≤ 400 → (l1.toInt % 90 = 6 ∨ l1.toInt % 90 = 26 ∨ l1.toInt % 90 = 40 ∨ l1.toInt % 90 = 54 ∨ l1.toInt % 90 = 68 ∨ l1.toInt % 90 = 82) → (g0.toInt ≤ g2.toInt ∧ g3.toInt ≤ g0.toInt) → (g1.toInt = 0 ∨ g3.toInt + 1 ≤ g0.toInt) → jiv h 125 10 = g0 → jiv h 125 11 = g1 → jiv h 125 8 = g2 → jiv h 125 9 = g3 → jJ jSgM Dy h → jSm fp_X12_readName_r125d h0 h → d_X12_readName_r125d_160  l1.toInt l4.toInt l5.toInt (vw h) = dr → jX m_X12_readName 4 0 0 160 [(0, .ref 125), (1, .int l1), (4, .int l4), (5, .int l5)] [] h 0 0 Q := by
  intro l1 l4 l5 g0 g1 g2 g3 h y0 y1 y2 y3 y4 y5 y6 y7 y8 y9 y10 z0 z1 z2 z3  J Sm D
  unfold d_X12_readName_r125d_160 at D
  try rw [vrf z0] at D
  try rw [vrf z1] at D
  try rw [vrf z2] at D
  try rw [vrf z3] at D
  refine x_aloadn (x := 125) rfl rfl ?_
  refine z_getR (N := 92) (b := 126) 12 2 rfl f_12_8 rfl J rfl 16002 ⟨rfl, rfl⟩ rfl ?_
  refine x_iloadn (x := l1) rfl rfl ?_
  refine x_iconst (v := 1) rfl ki_1 ?_
  refine z_iadd rfl rfl jk_1 (by omega) (fun v1 ev1 => ?_)
  refine x_iload (x := l5) rfl rfl ?_
  refine x_ifne (tgt := 177) rfl rfl (ti_ne rfl jk_0 ⟨fun c2 => ?_, fun c2 => ?_⟩)
  ·
    rw [if_neg (by omega)] at D
    try rw [show (l1.toInt + 1) = v1.toInt from by omega] at D
    exact jX.sub jsb_n (ct_X12_readName_r125d_177 hD hQ  v1 g0 g1 g2 g3 h (jr_of rfl (by omega)) (jr_mod rfl (by omega)) (jr_of rfl (by omega)) (jr_of rfl (by omega)) (jr_of rfl (by omega)) (jr_of rfl (by omega)) (by omega) (by omega) z0 z1 z2 z3 J Sm D)
  ·
    rw [if_pos (by omega)] at D
    refine x_iload (x := l4) rfl rfl ?_
    refine x_ifeq (tgt := 181) rfl rfl (ti_eq rfl jk_0 ⟨fun c3 => ?_, fun c3 => ?_⟩)
    ·
      rw [if_pos (by omega)] at D
      refine x_iconst (v := 0) rfl ki_0 ?_
      try rw [show (l1.toInt + 1) = v1.toInt from by omega] at D
      exact jX.sub jsb_n (ct_X12_readName_r125d_200182 hD hQ  v1 g0 g1 g2 g3 h (jr_of rfl (by omega)) (jr_mod rfl (by omega)) (jr_of rfl (by omega)) (jr_of rfl (by omega)) (jr_of rfl (by omega)) (jr_of rfl (by omega)) (by omega) (by omega) z0 z1 z2 z3 J Sm D)
    ·
      rw [if_neg (by omega)] at D
      try rw [show (l1.toInt + 1) = v1.toInt from by omega] at D
      exact jX.sub jsb_n (ct_X12_readName_r125d_177 hD hQ  v1 g0 g1 g2 g3 h (jr_of rfl (by omega)) (jr_mod rfl (by omega)) (jr_of rfl (by omega)) (jr_of rfl (by omega)) (jr_of rfl (by omega)) (jr_of rfl (by omega)) (by omega) (by omega) z0 z1 z2 z3 J Sm D)
set_option maxRecDepth 100000 in
set_option maxHeartbeats 4000000 in
theorem ct_X12_readName_r125d_111 {Dy : jH → Prop} {h0 : jH} {Q : Option Value → jH → Prop} {dr : jW} (hD : jDk Dy) (hQ : ∀ hx9, jJ jSgM Dy hx9 → jSm fp_X12_readName_r125d h0 hx9 → ∀ u0 u1 u2 : Int32, jiv hx9 125 10 = u0 → jiv hx9 125 8 = u1 → jiv hx9 125 9 = u2 → (u0.toInt ≤ u1.toInt ∧ u2.toInt ≤ u0.toInt) → ∀ u3 u4 u5 : Int32, jiv hx9 125 11 = u3 → jiv hx9 125 9 = u4 → jiv hx9 125 10 = u5 → (u3.toInt = 0 ∨ u4.toInt + 1 ≤ u5.toInt) → dr = vw hx9 → Q none hx9) : ∀ r : Nat, ∀ (l1 : Int32) (l2 : Int32) (l3 : Int32) (l4 : Int32) (l5 : Int32) (g0 : Int32) (g1 : Int32) (g2 : Int32) (g3 : Int32) (h : jH), 12 - l5.toInt < (r : Int) → 26 ≤ l1.toInt ∧ l1.toInt ≤ 18006 → l1.toInt % 2 = 0 → 0 ≤ l2.toInt ∧ l2.toInt ≤ 12 → 0 ≤ l3.toInt ∧ l3.toInt ≤ 400 → 0 ≤ l4.toInt ∧ l4.toInt ≤ 1 → 0 ≤ l5.toInt ∧ l5.toInt ≤ 12 → 0 ≤ g0.toInt ∧ g0.toInt ≤ 400 → 0 ≤ g1.toInt ∧ g1.toInt ≤ 3 → 0 ≤ g2.toInt ∧ g2.toInt ≤ 400 → 0 ≤ g3.toInt ∧ g3.toInt ≤ 400 → (l1.toInt % 90 = 6 ∨ l1.toInt % 90 = 26 ∨ l1.toInt % 90 = 40 ∨ l1.toInt % 90 = 54 ∨ l1.toInt % 90 = 68 ∨ l1.toInt % 90 = 82) → l3.toInt + l2.toInt ≤ 400 → l3.toInt + l2.toInt ≤ 400 → (g0.toInt ≤ g2.toInt ∧ g3.toInt ≤ g0.toInt) → (g1.toInt = 0 ∨ g3.toInt + 1 ≤ g0.toInt) → jiv h 125 10 = g0 → jiv h 125 11 = g1 → jiv h 125 8 = g2 → jiv h 125 9 = g3 → jJ jSgM Dy h → jSm fp_X12_readName_r125d h0 h → d_X12_readName_r125d_111 r l1.toInt l2.toInt l3.toInt l4.toInt l5.toInt (vw h) = dr → jX m_X12_readName 4 0 0 111 [(0, .ref 125), (1, .int l1), (2, .int l2), (3, .int l3), (4, .int l4), (5, .int l5)] [] h 0 0 Q := by
  intro r
  induction r with
  | zero =>
    intro l1 l2 l3 l4 l5 g0 g1 g2 g3 h hm y0 y1 y2 y3 y4 y5 y6 y7 y8 y9 y10 y11 y12 y13 y14 z0 z1 z2 z3  J Sm D
    exfalso
    omega
  | succ r ih =>
    intro l1 l2 l3 l4 l5 g0 g1 g2 g3 h hm y0 y1 y2 y3 y4 y5 y6 y7 y8 y9 y10 y11 y12 y13 y14 z0 z1 z2 z3  J Sm D
    rw [d_X12_readName_r125d_111.eq_2] at D
    try rw [vrf z0] at D
    try rw [vrf z1] at D
    try rw [vrf z2] at D
    try rw [vrf z3] at D
    refine x_iload (x := l5) rfl rfl ?_
    refine x_iloadn (x := l2) rfl rfl ?_
    refine x_icge (tgt := 143) rfl rfl (ti_ge rfl rfl ⟨fun c1 => ?_, fun c1 => ?_⟩)
    ·
      rw [if_pos (by omega)] at D
      refine x_aloadn (x := 125) rfl rfl ?_
      refine x_bipush (v := 45) rfl kb_45 ?_
      refine x_inv (N := m_X12_isSign) (As := [.int 45]) (b := 125) (st := []) (dx9 := 3) (mc := 0) (ms := 0) (host := "") 12 rfl t_X12_isSign ⟨Or.inl q_12_257, i_X12_isSign.1, i_X12_isSign.2⟩ ⟨by decide, rfl⟩ (congrArg Prod.fst (J.1.1 125 (12, 92) rfl)) rfl (by decide) rfl rfl ⟨by decide, by decide⟩ (jC.of rfl k_X12_isSign rfl ?_)
      show jX m_X12_isSign 3 0 0 0 [(0, .ref 125), (1, .int 45)] [] _ 0 0 _
      refine x_aloadn (x := 125) rfl rfl ?_
      refine z_getM (N := 92) (v := g1) 12 11 rfl f_12_235 rfl J rfl z1 ?_
      refine x_iconst (v := 3) rfl ki_3 ?_
      refine x_icne (tgt := 22) rfl rfl (ti_ne rfl jk_3 ⟨fun c2 => ?_, fun c2 => ?_⟩)
      ·
        rw [if_neg (by omega)] at D
        refine x_iconst (v := 0) rfl ki_0 ?_
        refine x_zret rfl rfl (by decide) ?_
        show jX m_X12_readName 4 0 0 149 [(0, .ref 125), (1, .int l1), (2, .int l2), (3, .int l3), (4, .int l4), (5, .int l5)] [.int 0] _ 0 0 _
        refine x_istore (lsx9 := [(5, .int 0), (0, .ref 125), (1, .int l1), (2, .int l2), (3, .int l3), (4, .int l4)]) rfl rfl rfl ?_
        refine x_iload (x := 0) rfl rfl ?_
        refine x_ifeq (tgt := 160) rfl rfl (ti_eq jk_0 jk_0 (br_t (by omega) ?_))
        exact jX.sub (jsb_c rfl (jsb_c rfl (jsb_c rfl (jsb_c rfl jsb_n)))) (ct_X12_readName_r125d_160 hD hQ  l1 l4 0 g0 g1 g2 g3 h (jr_of rfl (by omega)) (jr_mod rfl (by omega)) (jr_of rfl (by omega)) (jr_of jk_0 (by omega)) (jr_of rfl (by omega)) (jr_of rfl (by omega)) (jr_of rfl (by omega)) (jr_of rfl (by omega)) (by omega) (by omega) (by omega) z0 z1 z2 z3 J Sm (by rw [jk_0]; exact D))
      ·
        rw [if_pos (by omega)] at D
        refine x_aloadn (x := 125) rfl rfl ?_
        refine z_getLQ (N := 92) 12 12 rfl f_12_224 rfl J rfl (fun v3 qv3 => ?_)
        have ev3 := jfullL v3
        try rw [vrfL qv3] at D
        refine x_iloadn (x := 45) rfl rfl ?_
        refine z_i2l rfl jk_45 (fun v4 ev4 => ?_)
        refine z_lcmp rfl rfl rfl (fun v5 ev5 => ?_)
        refine x_ifne (tgt := 22) rfl rfl (ti_ne rfl jk_0 ⟨fun c6 => ?_, fun c6 => ?_⟩)
        ·
          rw [if_neg (by omega)] at D
          refine x_iconst (v := 0) rfl ki_0 ?_
          refine x_zret rfl rfl (by decide) ?_
          show jX m_X12_readName 4 0 0 149 [(0, .ref 125), (1, .int l1), (2, .int l2), (3, .int l3), (4, .int l4), (5, .int l5)] [.int 0] _ 0 0 _
          refine x_istore (lsx9 := [(5, .int 0), (0, .ref 125), (1, .int l1), (2, .int l2), (3, .int l3), (4, .int l4)]) rfl rfl rfl ?_
          refine x_iload (x := 0) rfl rfl ?_
          refine x_ifeq (tgt := 160) rfl rfl (ti_eq jk_0 jk_0 (br_t (by omega) ?_))
          exact jX.sub (jsb_c rfl (jsb_c rfl (jsb_c rfl (jsb_c rfl jsb_n)))) (ct_X12_readName_r125d_160 hD hQ  l1 l4 0 g0 g1 g2 g3 h (jr_of rfl (by omega)) (jr_mod rfl (by omega)) (jr_of rfl (by omega)) (jr_of jk_0 (by omega)) (jr_of rfl (by omega)) (jr_of rfl (by omega)) (jr_of rfl (by omega)) (jr_of rfl (by omega)) (by omega) (by omega) (by omega) z0 z1 z2 z3 J Sm (by rw [jk_0]; exact D))
        ·
          rw [if_pos (by omega)] at D
          refine x_iconst (v := 1) rfl ki_1 ?_
          refine x_goto (tgt := 23) rfl rfl ?_
          refine x_zret rfl rfl (by decide) ?_
          show jX m_X12_readName 4 0 0 149 [(0, .ref 125), (1, .int l1), (2, .int l2), (3, .int l3), (4, .int l4), (5, .int l5)] [.int 1] _ 0 0 _
          refine x_istore (lsx9 := [(5, .int 1), (0, .ref 125), (1, .int l1), (2, .int l2), (3, .int l3), (4, .int l4)]) rfl rfl rfl ?_
          refine x_iload (x := 1) rfl rfl ?_
          refine x_ifeq (tgt := 160) rfl rfl (ti_eq jk_1 jk_0 (br_f (by omega) ?_))
          refine x_aloadn (x := 125) rfl rfl ?_
          refine x_inv (N := m_X12_next) (As := []) (b := 125) (st := []) (dx9 := 2) (mc := 0) (ms := 0) (host := "") 12 rfl t_X12_next ⟨Or.inl q_12_218, i_X12_next.1, i_X12_next.2⟩ ⟨by decide, rfl⟩ (congrArg Prod.fst (J.1.1 125 (12, 92) rfl)) rfl (by decide) rfl rfl ⟨by decide, by decide⟩ (sf_X12_next_r125d  hD J z0 z2 (by omega) rfl  (fun h J S7 u8 u9 u10 qu8 qu9 qu10 ru8 u11 u12 u13 qu11 qu12 qu13 ru11 P14 X15 => ?_))
          have Sm := jSm_tr rfl Sm S7
          rw [X15] at D
          have eu8 := (show 0 ≤ u8.toInt ∧ u8.toInt ≤ 400 from qu8 ▸ jrg_f J sg_125_10_11_1_0_1)
          try rw [vrf qu8] at D
          have eu9 := (show 0 ≤ u9.toInt ∧ u9.toInt ≤ 400 from qu9 ▸ jrg_f J sg_125_8_9_1_0_1)
          try rw [vrf (jmb_c S7 qu9 rfl)] at D
          have eu10 := (show 0 ≤ u10.toInt ∧ u10.toInt ≤ 400 from qu10 ▸ jrg_f J sg_125_9_10_1_0_1)
          try rw [vrf qu10] at D
          have eu11 := (show 0 ≤ u11.toInt ∧ u11.toInt ≤ 3 from qu11 ▸ jrg_f J sg_125_11_12_1_0_1)
          try rw [vrf qu11] at D
          obtain rfl : u10 = u12 := qu10.symm.trans qu12
          obtain rfl : u8 = u13 := qu8.symm.trans qu13
          have nfP14 := jnf P14.1 z0 qu10
          show jX m_X12_readName 4 0 0 160 [(5, .int 1), (0, .ref 125), (1, .int l1), (2, .int l2), (3, .int l3), (4, .int l4)] [] _ 0 0 _
          exact jX.sub (jsb_c rfl (jsb_c rfl (jsb_c rfl (jsb_c rfl jsb_n)))) (ct_X12_readName_r125d_160 hD hQ  l1 l4 1 u8 u11 u9 u10 h (jr_of rfl (by omega)) (jr_mod rfl (by omega)) (jr_of rfl (by omega)) (jr_of jk_1 (by omega)) (jr_of rfl (by omega)) (jr_of rfl (by omega)) (jr_of rfl (by omega)) (jr_of rfl (by omega)) (by omega) (by omega) (by omega) qu8 qu11 qu9 qu10 J Sm (by rw [jk_1]; exact D))
    ·
      rw [if_neg (by omega)] at D
      refine x_aloadn (x := 125) rfl rfl ?_
      refine z_getR (N := 92) (b := 126) 12 2 rfl f_12_8 rfl J rfl 16002 ⟨rfl, rfl⟩ rfl ?_
      refine x_iloadn (x := l1) rfl rfl ?_
      refine x_iconst (v := 2) rfl ki_2 ?_
      refine z_iadd rfl rfl jk_2 (by omega) (fun v16 ev16 => ?_)
      refine x_iload (x := l5) rfl rfl ?_
      refine z_iadd rfl rfl rfl (by omega) (fun v17 ev17 => ?_)
      refine x_aloadn (x := 125) rfl rfl ?_
      refine z_getR (N := 92) (b := 131) 12 7 rfl f_12_29 rfl J rfl 16007 ⟨rfl, rfl⟩ rfl ?_
      refine x_iloadn (x := l3) rfl rfl ?_
      refine x_iload (x := l5) rfl rfl ?_
      refine z_iadd rfl rfl rfl (by omega) (fun v18 ev18 => ?_)
      refine z_iald (N := 400) rfl J rfl sg_131_0_400_1_0_1 rfl (by omega) (fun v19 qv19 ev19 => ?_)
      try rw [vrd qv19 (show (l3.toInt + l5.toInt) = v18.toInt from by omega)] at D
      refine z_iast (N := 50660) (l := 20) (u := 18020) (w := v19.toInt) rfl hD J Sm rfl rfl rfl (by omega) rfl (wr_126_20 (by omega) (fun q1 q2 q3 q4 => by omega) (fun q1 q2 q3 q4 => by omega) (fun q1 q2 q3 q4 => by omega) (fun q1 q2 q3 q4 => by omega) (fun q1 q2 q3 q4 => by omega) (fun q1 q2 q3 q4 => by omega) (fun q1 q2 q3 q4 => by omega) (fun q1 q2 q3 q4 => by omega) (fun q1 q2 q3 q4 => by omega) (fun q1 q2 q3 q4 => by omega) (fun q1 q2 q3 q4 => by omega) (fun q1 q2 q3 q4 => by omega) (fun q1 q2 q3 q4 => by omega) (fun q1 q2 q3 q4 => by omega) (fun q1 q2 q3 q4 => by omega) (fun q1 q2 q3 q4 => by omega) (fun q1 q2 q3 q4 => by omega) (fun q1 q2 q3 q4 => by omega) (fun q1 q2 q3 q4 => by omega) (fun q1 q2 q3 q4 => by omega) (fun q1 q2 q3 q4 => by omega) (fun q1 q2 q3 q4 => by omega) (fun q1 q2 q3 q4 => by omega)) rfl (fun h w20 J Sm => ?_)
      rw [vww w20 (show ((l1.toInt + 2) + l5.toInt) = v17.toInt from by omega) (show v19.toInt = v19.toInt from by omega)] at D
      refine z_iinc (x := l5) (lsx9 := fun v21 => [(5, .int v21), (0, .ref 125), (1, .int l1), (2, .int l2), (3, .int l3), (4, .int l4)]) rfl rfl rfl jko_1 (by omega) rfl (fun _ => rfl) (fun v21 ev21 => ?_)
      refine x_goto (tgt := 111) rfl rfl ?_
      try rw [show (l5.toInt + 1) = v21.toInt from by omega] at D
      exact jX.sub (jsb_c rfl (jsb_c rfl (jsb_c rfl (jsb_c rfl (jsb_c rfl (jsb_c rfl jsb_n)))))) (ih l1 l2 l3 l4 v21 g0 g1 g2 g3 h (by omega) (jr_of rfl (by omega)) (jr_mod rfl (by omega)) (jr_of rfl (by omega)) (jr_of rfl (by omega)) (jr_of rfl (by omega)) (jr_of rfl (by omega)) (jr_of rfl (by omega)) (jr_of rfl (by omega)) (jr_of rfl (by omega)) (jr_of rfl (by omega)) (by omega) (by omega) (by omega) (by omega) (by omega) (jmo w20 rfl z0) (jmo w20 rfl z1) (jmo w20 rfl z2) (jmo w20 rfl z3) J Sm D)
set_option maxRecDepth 100000 in
set_option maxHeartbeats 4000000 in
theorem ct_X12_readName_r125d_200090 {Dy : jH → Prop} {h0 : jH} {Q : Option Value → jH → Prop} {dr : jW} (hD : jDk Dy) (hQ : ∀ hx9, jJ jSgM Dy hx9 → jSm fp_X12_readName_r125d h0 hx9 → ∀ u0 u1 u2 : Int32, jiv hx9 125 10 = u0 → jiv hx9 125 8 = u1 → jiv hx9 125 9 = u2 → (u0.toInt ≤ u1.toInt ∧ u2.toInt ≤ u0.toInt) → ∀ u3 u4 u5 : Int32, jiv hx9 125 11 = u3 → jiv hx9 125 9 = u4 → jiv hx9 125 10 = u5 → (u3.toInt = 0 ∨ u4.toInt + 1 ≤ u5.toInt) → dr = vw hx9 → Q none hx9) : ∀ (l1 : Int32) (l2 : Int32) (l3 : Int32) (l4 : Int32) (g0 : Int32) (g1 : Int32) (g2 : Int32) (g3 : Int32) (h : jH), 26 ≤ l1.toInt ∧ l1.toInt ≤ 18006 → l1.toInt % 2 = 0 → 0 ≤ l2.toInt ∧ l2.toInt ≤ 400 → 0 ≤ l3.toInt ∧ l3.toInt ≤ 400 → 0 ≤ l4.toInt ∧ l4.toInt ≤ 1 → 0 ≤ g0.toInt ∧ g0.toInt ≤ 400 → 1 ≤ g1.toInt ∧ g1.toInt ≤ 3 → 0 ≤ g2.toInt ∧ g2.toInt ≤ 400 → 0 ≤ g3.toInt ∧ g3.toInt ≤ 400 → (l1.toInt % 90 = 6 ∨ l1.toInt % 90 = 26 ∨ l1.toInt % 90 = 40 ∨ l1.toInt % 90 = 54 ∨ l1.toInt % 90 = 68 ∨ l1.toInt % 90 = 82) → l3.toInt + l2.toInt ≤ 400 → (g0.toInt ≤ g2.toInt ∧ g3.toInt ≤ g0.toInt) → (g1.toInt = 0 ∨ g3.toInt + 1 ≤ g0.toInt) → jiv h 125 10 = g0 → jiv h 125 11 = g1 → jiv h 125 8 = g2 → jiv h 125 9 = g3 → jJ jSgM Dy h → jSm fp_X12_readName_r125d h0 h → d_X12_readName_r125d_200090  l1.toInt l2.toInt l3.toInt l4.toInt (vw h) = dr → jX m_X12_readName 4 0 0 90 [(0, .ref 125), (1, .int l1), (2, .int l2), (3, .int l3), (4, .int l4)] [.int 0, .ref 125] h 0 0 Q := by
  intro l1 l2 l3 l4 g0 g1 g2 g3 h y0 y1 y2 y3 y4 y5 y6 y7 y8 y9 y10 y11 y12 z0 z1 z2 z3  J Sm D
  unfold d_X12_readName_r125d_200090 at D
  try rw [vrf z0] at D
  try rw [vrf z1] at D
  try rw [vrf z2] at D
  try rw [vrf z3] at D
  refine x_inv (N := m_X12_must) (As := [.int 0]) (b := 125) (st := []) (dx9 := 3) (mc := 0) (ms := 0) (host := "") 12 rfl t_X12_must ⟨Or.inl q_12_250, i_X12_must.1, i_X12_must.2⟩ ⟨by decide, rfl⟩ (congrArg Prod.fst (J.1.1 125 (12, 92) rfl)) rfl (by decide) rfl rfl ⟨by decide, by decide⟩ (jC.of rfl k_X12_must rfl ?_)
  show jX m_X12_must 3 0 0 0 [(0, .ref 125), (1, .int 0)] [] _ 0 0 _
  refine x_aloadn (x := 125) rfl rfl ?_
  refine z_getI (N := 92) 12 14 rfl f_12_214 rfl J rfl sg_125_14_15_1_0_1 (fun v1 qv1 ev1 => ?_)
  try rw [vrf qv1] at D
  refine x_ifne (tgt := 24) rfl rfl (ti_ne rfl jk_0 ⟨fun c2 => ?_, fun c2 => ?_⟩)
  ·
    rw [if_neg (by omega)] at D
    refine x_aloadn (x := 125) rfl rfl ?_
    refine z_getM (N := 92) (v := v1) 12 14 rfl f_12_214 rfl J rfl qv1 ?_
    refine x_ifne (tgt := 35) rfl rfl (ti_ne rfl jk_0 (bn_t (by omega) ?_))
    refine x_vret rfl rfl ?_
    show jX m_X12_readName 4 0 0 93 [(0, .ref 125), (1, .int l1), (2, .int l2), (3, .int l3), (4, .int l4)] [] _ 0 0 _
    refine x_aloadn (x := 125) rfl rfl ?_
    refine z_getM (N := 92) (v := v1) 12 14 rfl f_12_214 rfl J rfl qv1 ?_
    refine x_ifeq (tgt := 101) rfl rfl (ti_eq rfl jk_0 (br_f (by omega) ?_))
    refine x_vret rfl rfl ?_
    exact hQ _ J Sm _ _ _ z0 z2 z3 (by omega) _ _ _ z1 z3 z0 (by omega) D.symm
  ·
    rw [if_pos (by omega)] at D
    refine x_iloadn (x := 0) rfl rfl ?_
    refine x_ifne (tgt := 24) rfl rfl (ti_ne jk_0 jk_0 (bn_f (by omega) ?_))
    refine x_aloadn (x := 125) rfl rfl ?_
    refine x_iconst (v := 1) rfl ki_1 ?_
    refine z_putZ (N := 92) (w := 1) 12 14 rfl f_12_214 rfl (jfin_no TX12 RX12 92 rfl rfl) hD J Sm rfl rfl jk_1 (by omega) (pw_125_14 (by omega)) rfl (fun h w3 J Sm => ?_)
    rw [vwf w3 (show 1 = (1 : Int32).toInt from by have := jk_1; omega)] at D
    refine x_aloadn (x := 125) rfl rfl ?_
    refine x_aloadn (x := 125) rfl rfl ?_
    refine z_getM (N := 92) (v := g3) 12 9 rfl f_12_221 rfl J rfl (jmo w3 rfl z3) ?_
    refine z_putI (N := 92) (w := g3.toInt) 12 13 rfl f_12_32 rfl (jfin_no TX12 RX12 92 rfl rfl) hD J Sm rfl rfl rfl (pw_125_13 (by omega)) rfl (fun h w4 J Sm => ?_)
    rw [vwf w4 (show g3.toInt = g3.toInt from by omega)] at D
    refine x_aloadn (x := 125) rfl rfl ?_
    refine z_getM (N := 92) (v := 1) 12 14 rfl f_12_214 rfl J rfl (jmo w4 rfl (jmw w3)) ?_
    refine x_ifne (tgt := 35) rfl rfl (ti_ne jk_1 jk_0 (bn_t (by omega) ?_))
    refine x_vret rfl rfl ?_
    show jX m_X12_readName 4 0 0 93 [(0, .ref 125), (1, .int l1), (2, .int l2), (3, .int l3), (4, .int l4)] [] _ 0 0 _
    refine x_aloadn (x := 125) rfl rfl ?_
    refine z_getM (N := 92) (v := 1) 12 14 rfl f_12_214 rfl J rfl (jmo w4 rfl (jmw w3)) ?_
    refine x_ifeq (tgt := 101) rfl rfl (ti_eq jk_1 jk_0 (br_f (by omega) ?_))
    refine x_vret rfl rfl ?_
    exact hQ _ J Sm _ _ _ (jmo w4 rfl (jmo w3 rfl z0)) (jmo w4 rfl (jmo w3 rfl z2)) (jmo w4 rfl (jmo w3 rfl z3)) (by omega) _ _ _ (jmo w4 rfl (jmo w3 rfl z1)) (jmo w4 rfl (jmo w3 rfl z3)) (jmo w4 rfl (jmo w3 rfl z0)) (by omega) D.symm
set_option maxRecDepth 100000 in
set_option maxHeartbeats 4000000 in
theorem ct_X12_readName_r125d_300090 {Dy : jH → Prop} {h0 : jH} {Q : Option Value → jH → Prop} {dr : jW} (hD : jDk Dy) (hQ : ∀ hx9, jJ jSgM Dy hx9 → jSm fp_X12_readName_r125d h0 hx9 → ∀ u0 u1 u2 : Int32, jiv hx9 125 10 = u0 → jiv hx9 125 8 = u1 → jiv hx9 125 9 = u2 → (u0.toInt ≤ u1.toInt ∧ u2.toInt ≤ u0.toInt) → ∀ u3 u4 u5 : Int32, jiv hx9 125 11 = u3 → jiv hx9 125 9 = u4 → jiv hx9 125 10 = u5 → (u3.toInt = 0 ∨ u4.toInt + 1 ≤ u5.toInt) → dr = vw hx9 → Q none hx9) : ∀ (l1 : Int32) (l2 : Int32) (l3 : Int32) (l4 : Int32) (g0 : Int32) (g1 : Int32) (g2 : Int32) (g3 : Int32) (h : jH), 26 ≤ l1.toInt ∧ l1.toInt ≤ 18006 → l1.toInt % 2 = 0 → 0 ≤ l2.toInt ∧ l2.toInt ≤ 12 → 0 ≤ l3.toInt ∧ l3.toInt ≤ 400 → 0 ≤ l4.toInt ∧ l4.toInt ≤ 1 → 0 ≤ g0.toInt ∧ g0.toInt ≤ 400 → 1 ≤ g1.toInt ∧ g1.toInt ≤ 1 → 0 ≤ g2.toInt ∧ g2.toInt ≤ 400 → 0 ≤ g3.toInt ∧ g3.toInt ≤ 400 → (l1.toInt % 90 = 6 ∨ l1.toInt % 90 = 26 ∨ l1.toInt % 90 = 40 ∨ l1.toInt % 90 = 54 ∨ l1.toInt % 90 = 68 ∨ l1.toInt % 90 = 82) → l3.toInt + l2.toInt ≤ 400 → (g0.toInt ≤ g2.toInt ∧ g3.toInt ≤ g0.toInt) → (g1.toInt = 0 ∨ g3.toInt + 1 ≤ g0.toInt) → jiv h 125 10 = g0 → jiv h 125 11 = g1 → jiv h 125 8 = g2 → jiv h 125 9 = g3 → jJ jSgM Dy h → jSm fp_X12_readName_r125d h0 h → d_X12_readName_r125d_300090  l1.toInt l2.toInt l3.toInt l4.toInt (vw h) = dr → jX m_X12_readName 4 0 0 90 [(0, .ref 125), (1, .int l1), (2, .int l2), (3, .int l3), (4, .int l4)] [.int 1, .ref 125] h 0 0 Q := by
  intro l1 l2 l3 l4 g0 g1 g2 g3 h y0 y1 y2 y3 y4 y5 y6 y7 y8 y9 y10 y11 y12 z0 z1 z2 z3  J Sm D
  unfold d_X12_readName_r125d_300090 at D
  try rw [vrf z0] at D
  try rw [vrf z1] at D
  try rw [vrf z2] at D
  try rw [vrf z3] at D
  refine x_inv (N := m_X12_must) (As := [.int 1]) (b := 125) (st := []) (dx9 := 3) (mc := 0) (ms := 0) (host := "") 12 rfl t_X12_must ⟨Or.inl q_12_250, i_X12_must.1, i_X12_must.2⟩ ⟨by decide, rfl⟩ (congrArg Prod.fst (J.1.1 125 (12, 92) rfl)) rfl (by decide) rfl rfl ⟨by decide, by decide⟩ (jC.of rfl k_X12_must rfl ?_)
  show jX m_X12_must 3 0 0 0 [(0, .ref 125), (1, .int 1)] [] _ 0 0 _
  refine x_aloadn (x := 125) rfl rfl ?_
  refine z_getI (N := 92) 12 14 rfl f_12_214 rfl J rfl sg_125_14_15_1_0_1 (fun v1 qv1 ev1 => ?_)
  try rw [vrf qv1] at D
  refine x_ifne (tgt := 24) rfl rfl (ti_ne rfl jk_0 ⟨fun c2 => ?_, fun c2 => ?_⟩)
  ·
    rw [if_neg (by omega)] at D
    refine x_aloadn (x := 125) rfl rfl ?_
    refine z_getM (N := 92) (v := v1) 12 14 rfl f_12_214 rfl J rfl qv1 ?_
    refine x_ifne (tgt := 35) rfl rfl (ti_ne rfl jk_0 (bn_t (by omega) ?_))
    refine x_vret rfl rfl ?_
    show jX m_X12_readName 4 0 0 93 [(0, .ref 125), (1, .int l1), (2, .int l2), (3, .int l3), (4, .int l4)] [] _ 0 0 _
    refine x_aloadn (x := 125) rfl rfl ?_
    refine z_getM (N := 92) (v := v1) 12 14 rfl f_12_214 rfl J rfl qv1 ?_
    refine x_ifeq (tgt := 101) rfl rfl (ti_eq rfl jk_0 (br_f (by omega) ?_))
    refine x_vret rfl rfl ?_
    exact hQ _ J Sm _ _ _ z0 z2 z3 (by omega) _ _ _ z1 z3 z0 (by omega) D.symm
  ·
    rw [if_pos (by omega)] at D
    refine x_iloadn (x := 1) rfl rfl ?_
    refine x_ifne (tgt := 24) rfl rfl (ti_ne jk_1 jk_0 (bn_t (by omega) ?_))
    refine x_aloadn (x := 125) rfl rfl ?_
    refine z_getM (N := 92) (v := v1) 12 14 rfl f_12_214 rfl J rfl qv1 ?_
    refine x_ifne (tgt := 35) rfl rfl (ti_ne rfl jk_0 (bn_f (by omega) ?_))
    refine x_aloadn (x := 125) rfl rfl ?_
    refine x_inv (N := m_X12_next) (As := []) (b := 125) (st := []) (dx9 := 2) (mc := 0) (ms := 0) (host := "") 12 rfl t_X12_next ⟨Or.inl q_12_218, i_X12_next.1, i_X12_next.2⟩ ⟨by decide, rfl⟩ (congrArg Prod.fst (J.1.1 125 (12, 92) rfl)) rfl (by decide) rfl rfl ⟨by decide, by decide⟩ (sf_X12_next_r125d  hD J z0 z2 (by omega) rfl  (fun h J S3 u4 u5 u6 qu4 qu5 qu6 ru4 u7 u8 u9 qu7 qu8 qu9 ru7 P10 X11 => ?_))
    have Sm := jSm_tr rfl Sm S3
    rw [X11] at D
    have eu4 := (show 0 ≤ u4.toInt ∧ u4.toInt ≤ 400 from qu4 ▸ jrg_f J sg_125_10_11_1_0_1)
    try rw [vrf qu4] at D
    have eu5 := (show 0 ≤ u5.toInt ∧ u5.toInt ≤ 400 from qu5 ▸ jrg_f J sg_125_8_9_1_0_1)
    try rw [vrf (jmb_c S3 qu5 rfl)] at D
    have eu6 := (show 0 ≤ u6.toInt ∧ u6.toInt ≤ 400 from qu6 ▸ jrg_f J sg_125_9_10_1_0_1)
    try rw [vrf qu6] at D
    have eu7 := (show 0 ≤ u7.toInt ∧ u7.toInt ≤ 3 from qu7 ▸ jrg_f J sg_125_11_12_1_0_1)
    try rw [vrf qu7] at D
    obtain rfl : u6 = u8 := qu6.symm.trans qu8
    obtain rfl : u4 = u9 := qu4.symm.trans qu9
    have nfP10 := jnf P10.1 z0 qu6
    show jX m_X12_must 3 0 0 35 [(0, .ref 125), (1, .int 1)] [] _ 0 0 _
    refine x_vret rfl rfl ?_
    show jX m_X12_readName 4 0 0 93 [(0, .ref 125), (1, .int l1), (2, .int l2), (3, .int l3), (4, .int l4)] [] _ 0 0 _
    refine x_aloadn (x := 125) rfl rfl ?_
    refine z_getM (N := 92) (v := v1) 12 14 rfl f_12_214 rfl J rfl (jmc S3 rfl qv1) ?_
    refine x_ifeq (tgt := 101) rfl rfl (ti_eq rfl jk_0 (br_t (by omega) ?_))
    refine x_aloadn (x := 125) rfl rfl ?_
    refine z_getR (N := 92) (b := 126) 12 2 rfl f_12_8 rfl J rfl 16002 ⟨rfl, rfl⟩ rfl ?_
    refine x_iloadn (x := l1) rfl rfl ?_
    refine x_iloadn (x := l2) rfl rfl ?_
    refine z_iast (N := 50660) (l := 20) (u := 18020) (w := l2.toInt) rfl hD J Sm rfl rfl rfl (by omega) rfl (wr_126_20 (by omega) (fun q1 q2 q3 q4 => by omega) (fun q1 q2 q3 q4 => by omega) (fun q1 q2 q3 q4 => by omega) (fun q1 q2 q3 q4 => by omega) (fun q1 q2 q3 q4 => by omega) (fun q1 q2 q3 q4 => by omega) (fun q1 q2 q3 q4 => by omega) (fun q1 q2 q3 q4 => by omega) (fun q1 q2 q3 q4 => by omega) (fun q1 q2 q3 q4 => by omega) (fun q1 q2 q3 q4 => by omega) (fun q1 q2 q3 q4 => by omega) (fun q1 q2 q3 q4 => by omega) (fun q1 q2 q3 q4 => by omega) (fun q1 q2 q3 q4 => by omega) (fun q1 q2 q3 q4 => by omega) (fun q1 q2 q3 q4 => by omega) (fun q1 q2 q3 q4 => by omega) (fun q1 q2 q3 q4 => by omega) (fun q1 q2 q3 q4 => by omega) (fun q1 q2 q3 q4 => by omega) (fun q1 q2 q3 q4 => by omega) (fun q1 q2 q3 q4 => by omega)) rfl (fun h w12 J Sm => ?_)
    rw [vww w12 (show l1.toInt = l1.toInt from by omega) (show l2.toInt = l2.toInt from by omega)] at D
    refine x_iconst (v := 0) rfl ki_0 ?_
    refine x_istore (lsx9 := [(5, .int 0), (0, .ref 125), (1, .int l1), (2, .int l2), (3, .int l3), (4, .int l4)]) rfl rfl rfl ?_
    exact jX.sub (jsb_c rfl (jsb_c rfl (jsb_c rfl (jsb_c rfl (jsb_c rfl (jsb_c rfl jsb_n)))))) (ct_X12_readName_r125d_111 hD hQ  13 l1 l2 l3 l4 0 u4 u7 u5 u6 h (by have := jk_0; omega) (jr_of rfl (by omega)) (jr_mod rfl (by omega)) (jr_of rfl (by omega)) (jr_of rfl (by omega)) (jr_of rfl (by omega)) (jr_of jk_0 (by omega)) (jr_of rfl (by omega)) (jr_of rfl (by omega)) (jr_of rfl (by omega)) (jr_of rfl (by omega)) (by omega) (by omega) (by omega) (by omega) (by omega) (jmo w12 rfl qu4) (jmo w12 rfl qu7) (jmo w12 rfl qu5) (jmo w12 rfl qu6) J Sm (by rw [jk_0]; exact D))
set_option maxRecDepth 100000 in
set_option maxHeartbeats 4000000 in
theorem ct_X12_readName_r125d_89 {Dy : jH → Prop} {h0 : jH} {Q : Option Value → jH → Prop} {dr : jW} (hD : jDk Dy) (hQ : ∀ hx9, jJ jSgM Dy hx9 → jSm fp_X12_readName_r125d h0 hx9 → ∀ u0 u1 u2 : Int32, jiv hx9 125 10 = u0 → jiv hx9 125 8 = u1 → jiv hx9 125 9 = u2 → (u0.toInt ≤ u1.toInt ∧ u2.toInt ≤ u0.toInt) → ∀ u3 u4 u5 : Int32, jiv hx9 125 11 = u3 → jiv hx9 125 9 = u4 → jiv hx9 125 10 = u5 → (u3.toInt = 0 ∨ u4.toInt + 1 ≤ u5.toInt) → dr = vw hx9 → Q none hx9) : ∀ (l1 : Int32) (l2 : Int32) (l3 : Int32) (l4 : Int32) (g0 : Int32) (g1 : Int32) (g2 : Int32) (g3 : Int32) (h : jH), 26 ≤ l1.toInt ∧ l1.toInt ≤ 18006 → l1.toInt % 2 = 0 → 0 ≤ l2.toInt ∧ l2.toInt ≤ 400 → 0 ≤ l3.toInt ∧ l3.toInt ≤ 400 → 0 ≤ l4.toInt ∧ l4.toInt ≤ 1 → 0 ≤ g0.toInt ∧ g0.toInt ≤ 400 → 1 ≤ g1.toInt ∧ g1.toInt ≤ 3 → 0 ≤ g2.toInt ∧ g2.toInt ≤ 400 → 0 ≤ g3.toInt ∧ g3.toInt ≤ 400 → (l1.toInt % 90 = 6 ∨ l1.toInt % 90 = 26 ∨ l1.toInt % 90 = 40 ∨ l1.toInt % 90 = 54 ∨ l1.toInt % 90 = 68 ∨ l1.toInt % 90 = 82) → l3.toInt + l2.toInt ≤ 400 → (g0.toInt ≤ g2.toInt ∧ g3.toInt ≤ g0.toInt) → (g1.toInt = 0 ∨ g3.toInt + 1 ≤ g0.toInt) → jiv h 125 10 = g0 → jiv h 125 11 = g1 → jiv h 125 8 = g2 → jiv h 125 9 = g3 → jJ jSgM Dy h → jSm fp_X12_readName_r125d h0 h → d_X12_readName_r125d_89  l1.toInt l2.toInt l3.toInt l4.toInt (vw h) = dr → jX m_X12_readName 4 0 0 89 [(0, .ref 125), (1, .int l1), (2, .int l2), (3, .int l3), (4, .int l4)] [.ref 125] h 0 0 Q := by
  intro l1 l2 l3 l4 g0 g1 g2 g3 h y0 y1 y2 y3 y4 y5 y6 y7 y8 y9 y10 y11 y12 z0 z1 z2 z3  J Sm D
  unfold d_X12_readName_r125d_89 at D
  try rw [vrf z0] at D
  try rw [vrf z1] at D
  try rw [vrf z2] at D
  try rw [vrf z3] at D
  refine x_iconst (v := 0) rfl ki_0 ?_
  exact jX.sub (jsb_c rfl (jsb_c rfl (jsb_c rfl (jsb_c rfl (jsb_c rfl jsb_n))))) (ct_X12_readName_r125d_200090 hD hQ  l1 l2 l3 l4 g0 g1 g2 g3 h (jr_of rfl (by omega)) (jr_mod rfl (by omega)) (jr_of rfl (by omega)) (jr_of rfl (by omega)) (jr_of rfl (by omega)) (jr_of rfl (by omega)) (jr_of rfl (by omega)) (jr_of rfl (by omega)) (jr_of rfl (by omega)) (by omega) (by omega) (by omega) (by omega) z0 z1 z2 z3 J Sm D)
set_option maxRecDepth 100000 in
set_option maxHeartbeats 4000000 in
theorem ct_X12_readName_r125d_200068 {Dy : jH → Prop} {h0 : jH} {Q : Option Value → jH → Prop} {dr : jW} (hD : jDk Dy) (hQ : ∀ hx9, jJ jSgM Dy hx9 → jSm fp_X12_readName_r125d h0 hx9 → ∀ u0 u1 u2 : Int32, jiv hx9 125 10 = u0 → jiv hx9 125 8 = u1 → jiv hx9 125 9 = u2 → (u0.toInt ≤ u1.toInt ∧ u2.toInt ≤ u0.toInt) → ∀ u3 u4 u5 : Int32, jiv hx9 125 11 = u3 → jiv hx9 125 9 = u4 → jiv hx9 125 10 = u5 → (u3.toInt = 0 ∨ u4.toInt + 1 ≤ u5.toInt) → dr = vw hx9 → Q none hx9) : ∀ (l1 : Int32) (l2 : Int32) (l3 : Int32) (g0 : Int32) (g1 : Int32) (g2 : Int32) (g3 : Int32) (h : jH), 26 ≤ l1.toInt ∧ l1.toInt ≤ 18006 → l1.toInt % 2 = 0 → 0 ≤ l2.toInt ∧ l2.toInt ≤ 400 → 0 ≤ l3.toInt ∧ l3.toInt ≤ 400 → 0 ≤ g0.toInt ∧ g0.toInt ≤ 400 → 1 ≤ g1.toInt ∧ g1.toInt ≤ 3 → 0 ≤ g2.toInt ∧ g2.toInt ≤ 400 → 0 ≤ g3.toInt ∧ g3.toInt ≤ 400 → (l1.toInt % 90 = 6 ∨ l1.toInt % 90 = 26 ∨ l1.toInt % 90 = 40 ∨ l1.toInt % 90 = 54 ∨ l1.toInt % 90 = 68 ∨ l1.toInt % 90 = 82) → l3.toInt + l2.toInt ≤ 400 → (g0.toInt ≤ g2.toInt ∧ g3.toInt ≤ g0.toInt) → (g1.toInt = 0 ∨ g3.toInt + 1 ≤ g0.toInt) → jiv h 125 10 = g0 → jiv h 125 11 = g1 → jiv h 125 8 = g2 → jiv h 125 9 = g3 → jJ jSgM Dy h → jSm fp_X12_readName_r125d h0 h → d_X12_readName_r125d_200068  l1.toInt l2.toInt l3.toInt (vw h) = dr → jX m_X12_readName 4 0 0 68 [(0, .ref 125), (1, .int l1), (2, .int l2), (3, .int l3)] [.int 0] h 0 0 Q := by
  intro l1 l2 l3 g0 g1 g2 g3 h y0 y1 y2 y3 y4 y5 y6 y7 y8 y9 y10 y11 z0 z1 z2 z3  J Sm D
  unfold d_X12_readName_r125d_200068 at D
  try rw [vrf z0] at D
  try rw [vrf z1] at D
  try rw [vrf z2] at D
  try rw [vrf z3] at D
  refine x_istore (lsx9 := [(4, .int 0), (0, .ref 125), (1, .int l1), (2, .int l2), (3, .int l3)]) rfl rfl rfl ?_
  refine x_aloadn (x := 125) rfl rfl ?_
  refine x_aloadn (x := 125) rfl rfl ?_
  refine z_getM (N := 92) (v := g1) 12 11 rfl f_12_235 rfl J rfl z1 ?_
  refine x_iconst (v := 1) rfl ki_1 ?_
  refine x_icne (tgt := 89) rfl rfl (ti_ne rfl jk_1 ⟨fun c1 => ?_, fun c1 => ?_⟩)
  ·
    rw [if_neg (by omega)] at D
    exact jX.sub (jsb_c rfl (jsb_c rfl (jsb_c rfl (jsb_c rfl (jsb_c rfl jsb_n))))) (ct_X12_readName_r125d_89 hD hQ  l1 l2 l3 0 g0 g1 g2 g3 h (jr_of rfl (by omega)) (jr_mod rfl (by omega)) (jr_of rfl (by omega)) (jr_of rfl (by omega)) (jr_of jk_0 (by omega)) (jr_of rfl (by omega)) (jr_of rfl (by omega)) (jr_of rfl (by omega)) (jr_of rfl (by omega)) (by omega) (by omega) (by omega) (by omega) z0 z1 z2 z3 J Sm (by rw [jk_0]; exact D))
  ·
    rw [if_pos (by omega)] at D
    refine x_iloadn (x := l2) rfl rfl ?_
    refine x_bipush (v := 12) rfl kb_12 ?_
    refine x_icgt (tgt := 89) rfl rfl (ti_gt rfl jk_12 ⟨fun c2 => ?_, fun c2 => ?_⟩)
    ·
      rw [if_pos (by omega)] at D
      exact jX.sub (jsb_c rfl (jsb_c rfl (jsb_c rfl (jsb_c rfl (jsb_c rfl jsb_n))))) (ct_X12_readName_r125d_89 hD hQ  l1 l2 l3 0 g0 g1 g2 g3 h (jr_of rfl (by omega)) (jr_mod rfl (by omega)) (jr_of rfl (by omega)) (jr_of rfl (by omega)) (jr_of jk_0 (by omega)) (jr_of rfl (by omega)) (jr_of rfl (by omega)) (jr_of rfl (by omega)) (jr_of rfl (by omega)) (by omega) (by omega) (by omega) (by omega) z0 z1 z2 z3 J Sm (by rw [jk_0]; exact D))
    ·
      rw [if_neg (by omega)] at D
      refine x_iconst (v := 1) rfl ki_1 ?_
      refine x_goto (tgt := 90) rfl rfl ?_
      exact jX.sub (jsb_c rfl (jsb_c rfl (jsb_c rfl (jsb_c rfl (jsb_c rfl jsb_n))))) (ct_X12_readName_r125d_300090 hD hQ  l1 l2 l3 0 g0 g1 g2 g3 h (jr_of rfl (by omega)) (jr_mod rfl (by omega)) (jr_of rfl (by omega)) (jr_of rfl (by omega)) (jr_of jk_0 (by omega)) (jr_of rfl (by omega)) (jr_of rfl (by omega)) (jr_of rfl (by omega)) (jr_of rfl (by omega)) (by omega) (by omega) (by omega) (by omega) z0 z1 z2 z3 J Sm (by rw [jk_0]; exact D))
set_option maxRecDepth 100000 in
set_option maxHeartbeats 4000000 in
theorem ct_X12_readName_r125d_300068 {Dy : jH → Prop} {h0 : jH} {Q : Option Value → jH → Prop} {dr : jW} (hD : jDk Dy) (hQ : ∀ hx9, jJ jSgM Dy hx9 → jSm fp_X12_readName_r125d h0 hx9 → ∀ u0 u1 u2 : Int32, jiv hx9 125 10 = u0 → jiv hx9 125 8 = u1 → jiv hx9 125 9 = u2 → (u0.toInt ≤ u1.toInt ∧ u2.toInt ≤ u0.toInt) → ∀ u3 u4 u5 : Int32, jiv hx9 125 11 = u3 → jiv hx9 125 9 = u4 → jiv hx9 125 10 = u5 → (u3.toInt = 0 ∨ u4.toInt + 1 ≤ u5.toInt) → dr = vw hx9 → Q none hx9) : ∀ (l1 : Int32) (l2 : Int32) (l3 : Int32) (g0 : Int32) (g1 : Int32) (g2 : Int32) (g3 : Int32) (h : jH), 26 ≤ l1.toInt ∧ l1.toInt ≤ 18006 → l1.toInt % 2 = 0 → 0 ≤ l2.toInt ∧ l2.toInt ≤ 400 → 0 ≤ l3.toInt ∧ l3.toInt ≤ 400 → 0 ≤ g0.toInt ∧ g0.toInt ≤ 400 → 1 ≤ g1.toInt ∧ g1.toInt ≤ 3 → 0 ≤ g2.toInt ∧ g2.toInt ≤ 400 → 0 ≤ g3.toInt ∧ g3.toInt ≤ 400 → (l1.toInt % 90 = 6 ∨ l1.toInt % 90 = 26 ∨ l1.toInt % 90 = 40 ∨ l1.toInt % 90 = 54 ∨ l1.toInt % 90 = 68 ∨ l1.toInt % 90 = 82) → l3.toInt + l2.toInt ≤ 400 → (g0.toInt ≤ g2.toInt ∧ g3.toInt ≤ g0.toInt) → (g1.toInt = 0 ∨ g3.toInt + 1 ≤ g0.toInt) → jiv h 125 10 = g0 → jiv h 125 11 = g1 → jiv h 125 8 = g2 → jiv h 125 9 = g3 → jJ jSgM Dy h → jSm fp_X12_readName_r125d h0 h → d_X12_readName_r125d_300068  l1.toInt l2.toInt l3.toInt (vw h) = dr → jX m_X12_readName 4 0 0 68 [(0, .ref 125), (1, .int l1), (2, .int l2), (3, .int l3)] [.int 1] h 0 0 Q := by
  intro l1 l2 l3 g0 g1 g2 g3 h y0 y1 y2 y3 y4 y5 y6 y7 y8 y9 y10 y11 z0 z1 z2 z3  J Sm D
  unfold d_X12_readName_r125d_300068 at D
  try rw [vrf z0] at D
  try rw [vrf z1] at D
  try rw [vrf z2] at D
  try rw [vrf z3] at D
  refine x_istore (lsx9 := [(4, .int 1), (0, .ref 125), (1, .int l1), (2, .int l2), (3, .int l3)]) rfl rfl rfl ?_
  refine x_aloadn (x := 125) rfl rfl ?_
  refine x_aloadn (x := 125) rfl rfl ?_
  refine z_getM (N := 92) (v := g1) 12 11 rfl f_12_235 rfl J rfl z1 ?_
  refine x_iconst (v := 1) rfl ki_1 ?_
  refine x_icne (tgt := 89) rfl rfl (ti_ne rfl jk_1 ⟨fun c1 => ?_, fun c1 => ?_⟩)
  ·
    rw [if_neg (by omega)] at D
    exact jX.sub (jsb_c rfl (jsb_c rfl (jsb_c rfl (jsb_c rfl (jsb_c rfl jsb_n))))) (ct_X12_readName_r125d_89 hD hQ  l1 l2 l3 1 g0 g1 g2 g3 h (jr_of rfl (by omega)) (jr_mod rfl (by omega)) (jr_of rfl (by omega)) (jr_of rfl (by omega)) (jr_of jk_1 (by omega)) (jr_of rfl (by omega)) (jr_of rfl (by omega)) (jr_of rfl (by omega)) (jr_of rfl (by omega)) (by omega) (by omega) (by omega) (by omega) z0 z1 z2 z3 J Sm (by rw [jk_1]; exact D))
  ·
    rw [if_pos (by omega)] at D
    refine x_iloadn (x := l2) rfl rfl ?_
    refine x_bipush (v := 12) rfl kb_12 ?_
    refine x_icgt (tgt := 89) rfl rfl (ti_gt rfl jk_12 ⟨fun c2 => ?_, fun c2 => ?_⟩)
    ·
      rw [if_pos (by omega)] at D
      exact jX.sub (jsb_c rfl (jsb_c rfl (jsb_c rfl (jsb_c rfl (jsb_c rfl jsb_n))))) (ct_X12_readName_r125d_89 hD hQ  l1 l2 l3 1 g0 g1 g2 g3 h (jr_of rfl (by omega)) (jr_mod rfl (by omega)) (jr_of rfl (by omega)) (jr_of rfl (by omega)) (jr_of jk_1 (by omega)) (jr_of rfl (by omega)) (jr_of rfl (by omega)) (jr_of rfl (by omega)) (jr_of rfl (by omega)) (by omega) (by omega) (by omega) (by omega) z0 z1 z2 z3 J Sm (by rw [jk_1]; exact D))
    ·
      rw [if_neg (by omega)] at D
      refine x_iconst (v := 1) rfl ki_1 ?_
      refine x_goto (tgt := 90) rfl rfl ?_
      exact jX.sub (jsb_c rfl (jsb_c rfl (jsb_c rfl (jsb_c rfl (jsb_c rfl jsb_n))))) (ct_X12_readName_r125d_300090 hD hQ  l1 l2 l3 1 g0 g1 g2 g3 h (jr_of rfl (by omega)) (jr_mod rfl (by omega)) (jr_of rfl (by omega)) (jr_of rfl (by omega)) (jr_of jk_1 (by omega)) (jr_of rfl (by omega)) (jr_of rfl (by omega)) (jr_of rfl (by omega)) (jr_of rfl (by omega)) (by omega) (by omega) (by omega) (by omega) z0 z1 z2 z3 J Sm (by rw [jk_1]; exact D))
set_option maxRecDepth 100000 in
set_option maxHeartbeats 4000000 in
theorem sf_X12_readName_r125d {Dy : jH → Prop} {h : jH} {Q : Option Value → jH → Prop} {dr : jW} {a1 : Int32} (y1 : 26 ≤ a1.toInt ∧ a1.toInt ≤ 18006) (ym1 : a1.toInt % 2 = 0) (yr1 : (a1.toInt % 90 = 6 ∨ a1.toInt % 90 = 26 ∨ a1.toInt % 90 = 40 ∨ a1.toInt % 90 = 54 ∨ a1.toInt % 90 = 68 ∨ a1.toInt % 90 = 82)) (hD : jDk Dy) (J : jJ jSgM Dy h) {p0 p1 p2 : Int32} {p3 p4 p5 : Int32} (zp0 : jiv h 125 10 = p0) (zp1 : jiv h 125 8 = p1) (zp2 : jiv h 125 9 = p2) (rl_p0 : (p0.toInt ≤ p1.toInt ∧ p2.toInt ≤ p0.toInt)) (zp3 : jiv h 125 11 = p3) (zp4 : jiv h 125 9 = p4) (zp5 : jiv h 125 10 = p5) (rl_p3 : (p3.toInt = 0 ∨ p4.toInt + 1 ≤ p5.toInt)) (D : d_X12_readName_r125d a1.toInt (vw h) = dr) (hQ : ∀ hx9, jJ jSgM Dy hx9 → jSm fp_X12_readName_r125d h hx9 → ∀ u0 u1 u2 : Int32, jiv hx9 125 10 = u0 → jiv hx9 125 8 = u1 → jiv hx9 125 9 = u2 → (u0.toInt ≤ u1.toInt ∧ u2.toInt ≤ u0.toInt) → ∀ u3 u4 u5 : Int32, jiv hx9 125 11 = u3 → jiv hx9 125 9 = u4 → jiv hx9 125 10 = u5 → (u3.toInt = 0 ∨ u4.toInt + 1 ≤ u5.toInt) → dr = vw hx9 → Q none hx9) : jC m_X12_readName 4 0 0 [.ref 125, .int a1] h Q := by
  refine jC.of rfl k_X12_readName rfl ?_
  have Sm := jSm_rf fp_X12_readName_r125d h
  have ep0 := (show 0 ≤ p0.toInt ∧ p0.toInt ≤ 400 from zp0 ▸ jrg_f J sg_125_10_11_1_0_1)
  have ep1 := (show 0 ≤ p1.toInt ∧ p1.toInt ≤ 400 from zp1 ▸ jrg_f J sg_125_8_9_1_0_1)
  have ep2 := (show 0 ≤ p2.toInt ∧ p2.toInt ≤ 400 from zp2 ▸ jrg_f J sg_125_9_10_1_0_1)
  have ep3 := (show 0 ≤ p3.toInt ∧ p3.toInt ≤ 3 from zp3 ▸ jrg_f J sg_125_11_12_1_0_1)
  have ep4 := (show 0 ≤ p4.toInt ∧ p4.toInt ≤ 400 from zp4 ▸ jrg_f J sg_125_9_10_1_0_1)
  have ep5 := (show 0 ≤ p5.toInt ∧ p5.toInt ≤ 400 from zp5 ▸ jrg_f J sg_125_10_11_1_0_1)
  obtain rfl : p2 = p4 := zp2.symm.trans zp4
  obtain rfl : p0 = p5 := zp0.symm.trans zp5
  show jX m_X12_readName 4 0 0 0 [(0, .ref 125), (1, .int a1)] [] _ 0 0 _
  unfold d_X12_readName_r125d at D
  try rw [vrf zp0] at D
  try rw [vrf zp1] at D
  try rw [vrf zp2] at D
  try rw [vrf zp3] at D
  try rw [vrf zp4] at D
  try rw [vrf zp5] at D
  refine x_aloadn (x := 125) rfl rfl ?_
  refine z_getR (N := 92) (b := 126) 12 2 rfl f_12_8 rfl J rfl 16002 ⟨rfl, rfl⟩ rfl ?_
  refine x_iloadn (x := a1) rfl rfl ?_
  refine x_iconst (v := 0) rfl ki_0 ?_
  refine z_iast (N := 50660) (l := 20) (u := 18020) (w := 0) rfl hD J Sm rfl rfl rfl (by omega) jk_0 (wr_126_20 (by omega) (fun q1 q2 q3 q4 => by omega) (fun q1 q2 q3 q4 => by omega) (fun q1 q2 q3 q4 => by omega) (fun q1 q2 q3 q4 => by omega) (fun q1 q2 q3 q4 => by omega) (fun q1 q2 q3 q4 => by omega) (fun q1 q2 q3 q4 => by omega) (fun q1 q2 q3 q4 => by omega) (fun q1 q2 q3 q4 => by omega) (fun q1 q2 q3 q4 => by omega) (fun q1 q2 q3 q4 => by omega) (fun q1 q2 q3 q4 => by omega) (fun q1 q2 q3 q4 => by omega) (fun q1 q2 q3 q4 => by omega) (fun q1 q2 q3 q4 => by omega) (fun q1 q2 q3 q4 => by omega) (fun q1 q2 q3 q4 => by omega) (fun q1 q2 q3 q4 => by omega) (fun q1 q2 q3 q4 => by omega) (fun q1 q2 q3 q4 => by omega) (fun q1 q2 q3 q4 => by omega) (fun q1 q2 q3 q4 => by omega) (fun q1 q2 q3 q4 => by omega)) rfl (fun h w1 J Sm => ?_)
  rw [vww w1 (show a1.toInt = a1.toInt from by omega) (show 0 = (0 : Int32).toInt from by have := jk_0; omega)] at D
  refine x_aloadn (x := 125) rfl rfl ?_
  refine z_getR (N := 92) (b := 126) 12 2 rfl f_12_8 rfl J rfl 16002 ⟨rfl, rfl⟩ rfl ?_
  refine x_iloadn (x := a1) rfl rfl ?_
  refine x_iconst (v := 1) rfl ki_1 ?_
  refine z_iadd rfl rfl jk_1 (by omega) (fun v2 ev2 => ?_)
  refine x_iconst (v := 0) rfl ki_0 ?_
  refine z_iast (N := 50660) (l := 20) (u := 18020) (w := 0) rfl hD J Sm rfl rfl rfl (by omega) jk_0 (wr_126_20 (by omega) (fun q1 q2 q3 q4 => by omega) (fun q1 q2 q3 q4 => by omega) (fun q1 q2 q3 q4 => by omega) (fun q1 q2 q3 q4 => by omega) (fun q1 q2 q3 q4 => by omega) (fun q1 q2 q3 q4 => by omega) (fun q1 q2 q3 q4 => by omega) (fun q1 q2 q3 q4 => by omega) (fun q1 q2 q3 q4 => by omega) (fun q1 q2 q3 q4 => by omega) (fun q1 q2 q3 q4 => by omega) (fun q1 q2 q3 q4 => by omega) (fun q1 q2 q3 q4 => by omega) (fun q1 q2 q3 q4 => by omega) (fun q1 q2 q3 q4 => by omega) (fun q1 q2 q3 q4 => by omega) (fun q1 q2 q3 q4 => by omega) (fun q1 q2 q3 q4 => by omega) (fun q1 q2 q3 q4 => by omega) (fun q1 q2 q3 q4 => by omega) (fun q1 q2 q3 q4 => by omega) (fun q1 q2 q3 q4 => by omega) (fun q1 q2 q3 q4 => by omega)) rfl (fun h w3 J Sm => ?_)
  rw [vww w3 (show (a1.toInt + 1) = v2.toInt from by omega) (show 0 = (0 : Int32).toInt from by have := jk_0; omega)] at D
  refine x_aloadn (x := 125) rfl rfl ?_
  refine x_bipush (v := 63) rfl kb_63 ?_
  refine x_inv (N := m_X12_isSign) (As := [.int 63]) (b := 125) (st := []) (dx9 := 3) (mc := 0) (ms := 0) (host := "") 12 rfl t_X12_isSign ⟨Or.inl q_12_257, i_X12_isSign.1, i_X12_isSign.2⟩ ⟨by decide, rfl⟩ (congrArg Prod.fst (J.1.1 125 (12, 92) rfl)) rfl (by decide) rfl rfl ⟨by decide, by decide⟩ (jC.of rfl k_X12_isSign rfl ?_)
  show jX m_X12_isSign 3 0 0 0 [(0, .ref 125), (1, .int 63)] [] _ 0 0 _
  refine x_aloadn (x := 125) rfl rfl ?_
  refine z_getM (N := 92) (v := p3) 12 11 rfl f_12_235 rfl J rfl (jmo w3 rfl (jmo w1 rfl zp3)) ?_
  refine x_iconst (v := 3) rfl ki_3 ?_
  refine x_icne (tgt := 22) rfl rfl (ti_ne rfl jk_3 ⟨fun c4 => ?_, fun c4 => ?_⟩)
  ·
    rw [if_neg (by omega)] at D
    refine x_iconst (v := 0) rfl ki_0 ?_
    refine x_zret rfl rfl (by decide) ?_
    show jX m_X12_readName 4 0 0 22 [(0, .ref 125), (1, .int a1)] [.int 0] _ 0 0 _
    refine x_ifne (tgt := 32) rfl rfl (ti_ne jk_0 jk_0 (bn_f (by omega) ?_))
    refine x_aloadn (x := 125) rfl rfl ?_
    refine z_getM (N := 92) (v := p3) 12 11 rfl f_12_235 rfl J rfl (jmo w3 rfl (jmo w1 rfl zp3)) ?_
    refine x_ifne (tgt := 37) rfl rfl (ti_ne rfl jk_0 ⟨fun c5 => ?_, fun c5 => ?_⟩)
    ·
      rw [if_neg (by omega)] at D
      refine x_aloadn (x := 125) rfl rfl ?_
      refine z_getM (N := 92) (v := p0) 12 10 rfl f_12_211 rfl J rfl (jmo w3 rfl (jmo w1 rfl zp0)) ?_
      refine x_aloadn (x := 125) rfl rfl ?_
      refine z_getM (N := 92) (v := p2) 12 9 rfl f_12_221 rfl J rfl (jmo w3 rfl (jmo w1 rfl zp2)) ?_
      refine z_isub rfl rfl rfl (by omega) (fun v6 ev6 => ?_)
      refine x_istoren (lsx9 := [(2, .int v6), (0, .ref 125), (1, .int a1)]) rfl rfl rfl ?_
      refine x_aloadn (x := 125) rfl rfl ?_
      refine z_getM (N := 92) (v := p2) 12 9 rfl f_12_221 rfl J rfl (jmo w3 rfl (jmo w1 rfl zp2)) ?_
      refine x_istoren (lsx9 := [(3, .int p2), (2, .int v6), (0, .ref 125), (1, .int a1)]) rfl rfl rfl ?_
      refine x_aloadn (x := 125) rfl rfl ?_
      refine z_getM (N := 92) (v := p0) 12 10 rfl f_12_211 rfl J rfl (jmo w3 rfl (jmo w1 rfl zp0)) ?_
      refine x_aloadn (x := 125) rfl rfl ?_
      refine z_getM (N := 92) (v := p1) 12 8 rfl f_12_201 rfl J rfl (jmo w3 rfl (jmo w1 rfl zp1)) ?_
      refine x_icne (tgt := 67) rfl rfl (ti_ne rfl rfl ⟨fun c7 => ?_, fun c7 => ?_⟩)
      ·
        rw [if_neg (by omega)] at D
        refine x_iconst (v := 0) rfl ki_0 ?_
        try rw [show (p0.toInt - p2.toInt) = v6.toInt from by omega] at D
        try rw [show p2.toInt = p2.toInt from by omega] at D
        exact jX.sub (jsb_c rfl (jsb_c rfl (jsb_c rfl (jsb_c rfl jsb_n)))) (ct_X12_readName_r125d_200068 hD hQ  a1 v6 p2 p0 p3 p1 p2 h (jr_of rfl (by omega)) (jr_mod rfl (by omega)) (jr_of rfl (by omega)) (jr_of rfl (by omega)) (jr_of rfl (by omega)) (jr_of rfl (by omega)) (jr_of rfl (by omega)) (jr_of rfl (by omega)) (by omega) (by omega) (by omega) (by omega) (jmo w3 rfl (jmo w1 rfl zp0)) (jmo w3 rfl (jmo w1 rfl zp3)) (jmo w3 rfl (jmo w1 rfl zp1)) (jmo w3 rfl (jmo w1 rfl zp2)) J Sm D)
      ·
        rw [if_pos (by omega)] at D
        refine x_iconst (v := 1) rfl ki_1 ?_
        refine x_goto (tgt := 68) rfl rfl ?_
        try rw [show (p0.toInt - p2.toInt) = v6.toInt from by omega] at D
        try rw [show p2.toInt = p2.toInt from by omega] at D
        exact jX.sub (jsb_c rfl (jsb_c rfl (jsb_c rfl (jsb_c rfl jsb_n)))) (ct_X12_readName_r125d_300068 hD hQ  a1 v6 p2 p0 p3 p1 p2 h (jr_of rfl (by omega)) (jr_mod rfl (by omega)) (jr_of rfl (by omega)) (jr_of rfl (by omega)) (jr_of rfl (by omega)) (jr_of rfl (by omega)) (jr_of rfl (by omega)) (jr_of rfl (by omega)) (by omega) (by omega) (by omega) (by omega) (jmo w3 rfl (jmo w1 rfl zp0)) (jmo w3 rfl (jmo w1 rfl zp3)) (jmo w3 rfl (jmo w1 rfl zp1)) (jmo w3 rfl (jmo w1 rfl zp2)) J Sm D)
    ·
      rw [if_pos (by omega)] at D
      exact jX.sub (jsb_c rfl jsb_n) (ct_X12_readName_r125d_32 hD hQ  p0 p3 p1 p2 h (jr_of rfl (by omega)) (jr_of rfl (by omega)) (jr_of rfl (by omega)) (jr_of rfl (by omega)) (by omega) (by omega) (jmo w3 rfl (jmo w1 rfl zp0)) (jmo w3 rfl (jmo w1 rfl zp3)) (jmo w3 rfl (jmo w1 rfl zp1)) (jmo w3 rfl (jmo w1 rfl zp2)) J Sm D)
  ·
    rw [if_pos (by omega)] at D
    refine x_aloadn (x := 125) rfl rfl ?_
    refine z_getLQ (N := 92) 12 12 rfl f_12_224 rfl J rfl (fun v8 qv8 => ?_)
    have ev8 := jfullL v8
    try rw [vrfL qv8] at D
    refine x_iloadn (x := 63) rfl rfl ?_
    refine z_i2l rfl jk_63 (fun v9 ev9 => ?_)
    refine z_lcmp rfl rfl rfl (fun v10 ev10 => ?_)
    refine x_ifne (tgt := 22) rfl rfl (ti_ne rfl jk_0 ⟨fun c11 => ?_, fun c11 => ?_⟩)
    ·
      rw [if_neg (by omega)] at D
      refine x_iconst (v := 0) rfl ki_0 ?_
      refine x_zret rfl rfl (by decide) ?_
      show jX m_X12_readName 4 0 0 22 [(0, .ref 125), (1, .int a1)] [.int 0] _ 0 0 _
      refine x_ifne (tgt := 32) rfl rfl (ti_ne jk_0 jk_0 (bn_f (by omega) ?_))
      refine x_aloadn (x := 125) rfl rfl ?_
      refine z_getM (N := 92) (v := p3) 12 11 rfl f_12_235 rfl J rfl (jmo w3 rfl (jmo w1 rfl zp3)) ?_
      refine x_ifne (tgt := 37) rfl rfl (ti_ne rfl jk_0 (bn_t (by omega) ?_))
      refine x_aloadn (x := 125) rfl rfl ?_
      refine z_getM (N := 92) (v := p0) 12 10 rfl f_12_211 rfl J rfl (jmo w3 rfl (jmo w1 rfl zp0)) ?_
      refine x_aloadn (x := 125) rfl rfl ?_
      refine z_getM (N := 92) (v := p2) 12 9 rfl f_12_221 rfl J rfl (jmo w3 rfl (jmo w1 rfl zp2)) ?_
      refine z_isub rfl rfl rfl (by omega) (fun v12 ev12 => ?_)
      refine x_istoren (lsx9 := [(2, .int v12), (0, .ref 125), (1, .int a1)]) rfl rfl rfl ?_
      refine x_aloadn (x := 125) rfl rfl ?_
      refine z_getM (N := 92) (v := p2) 12 9 rfl f_12_221 rfl J rfl (jmo w3 rfl (jmo w1 rfl zp2)) ?_
      refine x_istoren (lsx9 := [(3, .int p2), (2, .int v12), (0, .ref 125), (1, .int a1)]) rfl rfl rfl ?_
      refine x_aloadn (x := 125) rfl rfl ?_
      refine z_getM (N := 92) (v := p0) 12 10 rfl f_12_211 rfl J rfl (jmo w3 rfl (jmo w1 rfl zp0)) ?_
      refine x_aloadn (x := 125) rfl rfl ?_
      refine z_getM (N := 92) (v := p1) 12 8 rfl f_12_201 rfl J rfl (jmo w3 rfl (jmo w1 rfl zp1)) ?_
      refine x_icne (tgt := 67) rfl rfl (ti_ne rfl rfl ⟨fun c13 => ?_, fun c13 => ?_⟩)
      ·
        rw [if_neg (by omega)] at D
        refine x_iconst (v := 0) rfl ki_0 ?_
        try rw [show (p0.toInt - p2.toInt) = v12.toInt from by omega] at D
        try rw [show p2.toInt = p2.toInt from by omega] at D
        exact jX.sub (jsb_c rfl (jsb_c rfl (jsb_c rfl (jsb_c rfl jsb_n)))) (ct_X12_readName_r125d_200068 hD hQ  a1 v12 p2 p0 p3 p1 p2 h (jr_of rfl (by omega)) (jr_mod rfl (by omega)) (jr_of rfl (by omega)) (jr_of rfl (by omega)) (jr_of rfl (by omega)) (jr_of rfl (by omega)) (jr_of rfl (by omega)) (jr_of rfl (by omega)) (by omega) (by omega) (by omega) (by omega) (jmo w3 rfl (jmo w1 rfl zp0)) (jmo w3 rfl (jmo w1 rfl zp3)) (jmo w3 rfl (jmo w1 rfl zp1)) (jmo w3 rfl (jmo w1 rfl zp2)) J Sm D)
      ·
        rw [if_pos (by omega)] at D
        refine x_iconst (v := 1) rfl ki_1 ?_
        refine x_goto (tgt := 68) rfl rfl ?_
        try rw [show (p0.toInt - p2.toInt) = v12.toInt from by omega] at D
        try rw [show p2.toInt = p2.toInt from by omega] at D
        exact jX.sub (jsb_c rfl (jsb_c rfl (jsb_c rfl (jsb_c rfl jsb_n)))) (ct_X12_readName_r125d_300068 hD hQ  a1 v12 p2 p0 p3 p1 p2 h (jr_of rfl (by omega)) (jr_mod rfl (by omega)) (jr_of rfl (by omega)) (jr_of rfl (by omega)) (jr_of rfl (by omega)) (jr_of rfl (by omega)) (jr_of rfl (by omega)) (jr_of rfl (by omega)) (by omega) (by omega) (by omega) (by omega) (jmo w3 rfl (jmo w1 rfl zp0)) (jmo w3 rfl (jmo w1 rfl zp3)) (jmo w3 rfl (jmo w1 rfl zp1)) (jmo w3 rfl (jmo w1 rfl zp2)) J Sm D)
    ·
      rw [if_pos (by omega)] at D
      refine x_iconst (v := 1) rfl ki_1 ?_
      refine x_goto (tgt := 23) rfl rfl ?_
      refine x_zret rfl rfl (by decide) ?_
      show jX m_X12_readName 4 0 0 22 [(0, .ref 125), (1, .int a1)] [.int 1] _ 0 0 _
      refine x_ifne (tgt := 32) rfl rfl (ti_ne jk_1 jk_0 (bn_t (by omega) ?_))
      exact jX.sub (jsb_c rfl jsb_n) (ct_X12_readName_r125d_32 hD hQ  p0 p3 p1 p2 h (jr_of rfl (by omega)) (jr_of rfl (by omega)) (jr_of rfl (by omega)) (jr_of rfl (by omega)) (by omega) (by omega) (jmo w3 rfl (jmo w1 rfl zp0)) (jmo w3 rfl (jmo w1 rfl zp3)) (jmo w3 rfl (jmo w1 rfl zp1)) (jmo w3 rfl (jmo w1 rfl zp2)) J Sm D)
