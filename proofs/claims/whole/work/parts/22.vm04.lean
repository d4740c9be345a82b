def fp_X12_next_r125d : jFp := [(125, 9, 10), (125, 10, 11), (125, 11, 12), (125, 12, 13)]
set_option maxRecDepth 100000 in
set_option maxHeartbeats 4000000 in
theorem ct_X12_next_r125d_335 {Dy : jH → Prop} {h0 : jH} {Q : Option Value → jH → Prop} {dr : jW} (hD : jDk Dy) (hQ : ∀ hx9, jJ jSgM Dy hx9 → jSm fp_X12_next_r125d h0 hx9 → ∀ u0 u1 u2 : Int32, jiv hx9 125 10 = u0 → jiv hx9 125 8 = u1 → jiv hx9 125 9 = u2 → (u0.toInt ≤ u1.toInt ∧ u2.toInt ≤ u0.toInt) → ∀ u3 u4 u5 : Int32, jiv hx9 125 11 = u3 → jiv hx9 125 9 = u4 → jiv hx9 125 10 = u5 → (u3.toInt = 0 ∨ u4.toInt + 1 ≤ u5.toInt) → ((jiv h0 125 10).toInt ≤ (jiv hx9 125 9).toInt ∧ jWd hx9) → dr = vw hx9 → Q none hx9) : ∀ (g0 : Int32) (g1 : Int32) (g2 : Int32) (g3 : Int32) (h : jH), 0 ≤ g0.toInt ∧ g0.toInt ≤ 400 → 0 ≤ g1.toInt ∧ g1.toInt ≤ 3 → 0 ≤ g2.toInt ∧ g2.toInt ≤ 400 → 0 ≤ g3.toInt ∧ g3.toInt ≤ 400 → (g1.toInt = 0 ∨ g3.toInt + 1 ≤ g0.toInt) → jWd h → (jiv h0 125 10).toInt ≤ g3.toInt → g3.toInt - g2.toInt ≤ 0 → g0.toInt - g2.toInt ≤ 0 → g3.toInt - g0.toInt ≤ 0 → jiv h 125 10 = g0 → jiv h 125 11 = g1 → jiv h 125 8 = g2 → jiv h 125 9 = g3 → jJ jSgM Dy h → jSm fp_X12_next_r125d h0 h → d_X12_next_r125d_335  (vw h) = dr → jX m_X12_next 2 0 0 335 [] [] h 0 0 Q := by
  intro g0 g1 g2 g3 h y0 y1 y2 y3 y4 C0 y6 y7 y8 y9 z0 z1 z2 z3  J Sm D
  unfold d_X12_next_r125d_335 at D
  try rw [vrf z0] at D
  try rw [vrf z1] at D
  try rw [vrf z2] at D
  try rw [vrf z3] at D
  refine x_vret rfl rfl ?_
  exact hQ _ J Sm _ _ _ z0 z2 z3 (by omega) _ _ _ z1 z3 z0 (by omega) ⟨(by rw [z3]; omega), C0⟩ D.symm
set_option maxRecDepth 100000 in
set_option maxHeartbeats 4000000 in
theorem ct_X12_next_r125d_319 {Dy : jH → Prop} {h0 : jH} {Q : Option Value → jH → Prop} {dr : jW} {K243 : jW → jW} {R243 : Int} (hD : jDk Dy) (hQ : ∀ hx9, jJ jSgM Dy hx9 → jSm fp_X12_next_r125d h0 hx9 → ∀ u0 u1 u2 : Int32, jiv hx9 125 10 = u0 → jiv hx9 125 8 = u1 → jiv hx9 125 9 = u2 → (u0.toInt ≤ u1.toInt ∧ u2.toInt ≤ u0.toInt) → ∀ u3 u4 u5 : Int32, jiv hx9 125 11 = u3 → jiv hx9 125 9 = u4 → jiv hx9 125 10 = u5 → (u3.toInt = 0 ∨ u4.toInt + 1 ≤ u5.toInt) → ((jiv h0 125 10).toInt ≤ (jiv hx9 125 9).toInt ∧ jWd hx9) → dr = vw hx9 → Q none hx9) (k243 : ∀ (g0 : Int32) (g1 : Int32) (g2 : Int32) (g3 : Int32) (h : jH), 400 - g0.toInt < R243 → 0 ≤ g0.toInt ∧ g0.toInt ≤ 400 → 0 ≤ g1.toInt ∧ g1.toInt ≤ 3 → 0 ≤ g2.toInt ∧ g2.toInt ≤ 400 → 0 ≤ g3.toInt ∧ g3.toInt ≤ 400 → (g1.toInt = 0 ∨ g3.toInt + 1 ≤ g0.toInt ∨ (g1.toInt = 2 ∧ g0.toInt = g3.toInt ∧ 48 ≤ (jiv h 131 g0.toNatClampNeg).toInt ∧ (jiv h 131 g0.toNatClampNeg).toInt ≤ 57 ∧ g3.toInt < g2.toInt)) → jWd h → (jiv h0 125 10).toInt ≤ g3.toInt → g3.toInt - g2.toInt ≤ 0 → g0.toInt - g2.toInt ≤ 0 → g3.toInt - g0.toInt ≤ 0 → jiv h 125 10 = g0 → jiv h 125 11 = g1 → jiv h 125 8 = g2 → jiv h 125 9 = g3 → jJ jSgM Dy h → jSm fp_X12_next_r125d h0 h → K243 (vw h) = dr → jX m_X12_next 2 0 0 243 [(0, .ref 125)] [] h 0 0 Q) : ∀ (s0 : Int64) (g0 : Int32) (g1 : Int32) (g2 : Int32) (g3 : Int32) (h : jH), 0 ≤ s0.toInt ∧ s0.toInt ≤ 9223372036854775807 → 0 ≤ g0.toInt ∧ g0.toInt ≤ 399 → 2 ≤ g1.toInt ∧ g1.toInt ≤ 2 → 1 ≤ g2.toInt ∧ g2.toInt ≤ 400 → 0 ≤ g3.toInt ∧ g3.toInt ≤ 399 → (jiv h0 125 10).toInt ≤ g3.toInt → g3.toInt - g2.toInt ≤ 0 → g0.toInt - g2.toInt ≤ (-1) → g3.toInt - g0.toInt ≤ 0 → jiv h 125 10 = g0 → jiv h 125 11 = g1 → jiv h 125 8 = g2 → jiv h 125 9 = g3 → 400 - g0.toInt ≤ R243 → jJ jSgM Dy h → jSm fp_X12_next_r125d h0 h → d_X12_next_r125d_319 K243  s0.toInt (vw h) = dr → jX m_X12_next 2 0 0 319 [(0, .ref 125)] [.long s0, .ref 125] h 0 0 Q := by
  intro s0 g0 g1 g2 g3 h y0 y1 y2 y3 y4 y5 y6 y7 y8 z0 z1 z2 z3 m243 J Sm D
  unfold d_X12_next_r125d_319 at D
  try rw [vrf z0] at D
  try rw [vrf z1] at D
  try rw [vrf z2] at D
  try rw [vrf z3] at D
  refine z_putL (N := 92) 12 12 rfl f_12_224 rfl (jfin_no TX12 RX12 92 rfl rfl) hD J Sm rfl rfl rfl (fun h w1 J Sm => ?_)
  rw [vwfL w1 (show s0.toInt = s0.toInt from by omega)] at D
  refine x_aloadn (x := 125) rfl rfl ?_
  refine x_dup rfl rfl ?_
  refine z_getM (N := 92) (v := g0) 12 10 rfl f_12_211 rfl J rfl (jml w1 z0) ?_
  refine x_iconst (v := 1) rfl ki_1 ?_
  refine z_iadd rfl rfl jk_1 (by omega) (fun v2 ev2 => ?_)
  refine z_putI (N := 92) (w := v2.toInt) 12 10 rfl f_12_211 rfl (jfin_no TX12 RX12 92 rfl rfl) hD J Sm rfl rfl rfl (pw_125_10 (by omega)) rfl (fun h w3 J Sm => ?_)
  rw [vwf w3 (show (g0.toInt + 1) = v2.toInt from by omega)] at D
  refine x_goto (tgt := 243) rfl rfl ?_
  exact jX.sub (jsb_c rfl jsb_n) (k243 v2 g1 g2 g3 h (by omega) (jr_of rfl (by omega)) (jr_of rfl (by omega)) (jr_of rfl (by omega)) (jr_of rfl (by omega)) (by omega) (jwd_p ((jlvi w3).trans (jlw w1)) (by omega)) (by omega) (by omega) (by omega) (by omega) (jmw w3) (jmo w3 rfl (jml w1 z1)) (jmo w3 rfl (jml w1 z2)) (jmo w3 rfl (jml w1 z3)) J Sm D)
set_option maxRecDepth 100000 in
set_option maxHeartbeats 4000000 in
theorem ct_X12_next_r125d_243 {Dy : jH → Prop} {h0 : jH} {Q : Option Value → jH → Prop} {dr : jW} (hD : jDk Dy) (hQ : ∀ hx9, jJ jSgM Dy hx9 → jSm fp_X12_next_r125d h0 hx9 → ∀ u0 u1 u2 : Int32, jiv hx9 125 10 = u0 → jiv hx9 125 8 = u1 → jiv hx9 125 9 = u2 → (u0.toInt ≤ u1.toInt ∧ u2.toInt ≤ u0.toInt) → ∀ u3 u4 u5 : Int32, jiv hx9 125 11 = u3 → jiv hx9 125 9 = u4 → jiv hx9 125 10 = u5 → (u3.toInt = 0 ∨ u4.toInt + 1 ≤ u5.toInt) → ((jiv h0 125 10).toInt ≤ (jiv hx9 125 9).toInt ∧ jWd hx9) → dr = vw hx9 → Q none hx9) : ∀ r : Nat, ∀ (g0 : Int32) (g1 : Int32) (g2 : Int32) (g3 : Int32) (h : jH), 400 - g0.toInt < (r : Int) → 0 ≤ g0.toInt ∧ g0.toInt ≤ 400 → 0 ≤ g1.toInt ∧ g1.toInt ≤ 3 → 0 ≤ g2.toInt ∧ g2.toInt ≤ 400 → 0 ≤ g3.toInt ∧ g3.toInt ≤ 400 → (g1.toInt = 0 ∨ g3.toInt + 1 ≤ g0.toInt ∨ (g1.toInt = 2 ∧ g0.toInt = g3.toInt ∧ 48 ≤ (jiv h 131 g0.toNatClampNeg).toInt ∧ (jiv h 131 g0.toNatClampNeg).toInt ≤ 57 ∧ g3.toInt < g2.toInt)) → jWd h → (jiv h0 125 10).toInt ≤ g3.toInt → g3.toInt - g2.toInt ≤ 0 → g0.toInt - g2.toInt ≤ 0 → g3.toInt - g0.toInt ≤ 0 → jiv h 125 10 = g0 → jiv h 125 11 = g1 → jiv h 125 8 = g2 → jiv h 125 9 = g3 → jJ jSgM Dy h → jSm fp_X12_next_r125d h0 h → d_X12_next_r125d_243 r (vw h) = dr → jX m_X12_next 2 0 0 243 [(0, .ref 125)] [] h 0 0 Q := by
  intro r
  induction r with
  | zero =>
    intro g0 g1 g2 g3 h hm y0 y1 y2 y3 y4 C0 y6 y7 y8 y9 z0 z1 z2 z3  J Sm D
    exfalso
    omega
  | succ r ih =>
    intro g0 g1 g2 g3 h hm y0 y1 y2 y3 y4 C0 y6 y7 y8 y9 z0 z1 z2 z3  J Sm D
    rw [d_X12_next_r125d_243.eq_2] at D
    try rw [vrf z0] at D
    try rw [vrf z1] at D
    try rw [vrf z2] at D
    try rw [vrf z3] at D
    refine x_aloadn (x := 125) rfl rfl ?_
    refine z_getM (N := 92) (v := g1) 12 11 rfl f_12_235 rfl J rfl z1 ?_
    refine x_iconst (v := 2) rfl ki_2 ?_
    refine x_icne (tgt := 335) rfl rfl (ti_ne rfl jk_2 ⟨fun c1 => ?_, fun c1 => ?_⟩)
    ·
      rw [if_neg (by omega)] at D
      exact jX.sub jsb_n (ct_X12_next_r125d_335 hD hQ  g0 g1 g2 g3 h (jr_of rfl (by omega)) (jr_of rfl (by omega)) (jr_of rfl (by omega)) (jr_of rfl (by omega)) (by omega) C0 (by omega) (by omega) (by omega) (by omega) z0 z1 z2 z3 J Sm D)
    ·
      rw [if_pos (by omega)] at D
      refine x_aloadn (x := 125) rfl rfl ?_
      refine z_getM (N := 92) (v := g0) 12 10 rfl f_12_211 rfl J rfl z0 ?_
      refine x_aloadn (x := 125) rfl rfl ?_
      refine z_getM (N := 92) (v := g2) 12 8 rfl f_12_201 rfl J rfl z2 ?_
      refine x_icge (tgt := 335) rfl rfl (ti_ge rfl rfl ⟨fun c2 => ?_, fun c2 => ?_⟩)
      ·
        rw [if_pos (by omega)] at D
        exact jX.sub jsb_n (ct_X12_next_r125d_335 hD hQ  g0 g1 g2 g3 h (jr_of rfl (by omega)) (jr_of rfl (by omega)) (jr_of rfl (by omega)) (jr_of rfl (by omega)) (by omega) C0 (by omega) (by omega) (by omega) (by omega) z0 z1 z2 z3 J Sm D)
      ·
        rw [if_neg (by omega)] at D
        refine x_aloadn (x := 125) rfl rfl ?_
        refine z_getR (N := 92) (b := 131) 12 7 rfl f_12_29 rfl J rfl 16007 ⟨rfl, rfl⟩ rfl ?_
        refine x_aloadn (x := 125) rfl rfl ?_
        refine z_getM (N := 92) (v := g0) 12 10 rfl f_12_211 rfl J rfl z0 ?_
        refine z_iald (N := 400) rfl J rfl sg_131_0_400_1_0_1 rfl (by omega) (fun v3 qv3 ev3 => ?_)
        try rw [vrd qv3 (show g0.toInt = g0.toInt from by omega)] at D
        have tq := congrArg Int32.toInt qv3
        refine x_inst (N := m_X12_isDigit) (As := [.int v3]) (st := []) (dx9 := 1) (mc := 0) (ms := 0) (host := "") rfl t_X12_isDigit ⟨Or.inl q_12_232, s_X12_isDigit⟩ rfl (by decide) rfl rfl ⟨by decide, by decide⟩ (jC.of rfl k_X12_isDigit rfl ?_)
        show jX m_X12_isDigit 1 0 0 0 [(0, .int v3)] [] _ 0 0 _
        refine x_iloadn (x := v3) rfl rfl ?_
        refine x_bipush (v := 48) rfl kb_48 ?_
        refine x_iclt (tgt := 16) rfl rfl (ti_lt rfl jk_48 ⟨fun c4 => ?_, fun c4 => ?_⟩)
        ·
          rw [if_pos (by omega)] at D
          refine x_iconst (v := 0) rfl ki_0 ?_
          refine x_zret rfl rfl (by decide) ?_
          show jX m_X12_next 2 0 0 274 [(0, .ref 125)] [.int 0] _ 0 0 _
          refine x_ifeq (tgt := 335) rfl rfl (ti_eq jk_0 jk_0 (br_t (by omega) ?_))
          exact jX.sub jsb_n (ct_X12_next_r125d_335 hD hQ  g0 g1 g2 g3 h (jr_of rfl (by omega)) (jr_of rfl (by omega)) (jr_of rfl (by omega)) (jr_of rfl (by omega)) (by omega) C0 (by omega) (by omega) (by omega) (by omega) z0 z1 z2 z3 J Sm D)
        ·
          rw [if_neg (by omega)] at D
          refine x_iloadn (x := v3) rfl rfl ?_
          refine x_bipush (v := 57) rfl kb_57 ?_
          refine x_icgt (tgt := 16) rfl rfl (ti_gt rfl jk_57 ⟨fun c5 => ?_, fun c5 => ?_⟩)
          ·
            rw [if_pos (by omega)] at D
            refine x_iconst (v := 0) rfl ki_0 ?_
            refine x_zret rfl rfl (by decide) ?_
            show jX m_X12_next 2 0 0 274 [(0, .ref 125)] [.int 0] _ 0 0 _
            refine x_ifeq (tgt := 335) rfl rfl (ti_eq jk_0 jk_0 (br_t (by omega) ?_))
            exact jX.sub jsb_n (ct_X12_next_r125d_335 hD hQ  g0 g1 g2 g3 h (jr_of rfl (by omega)) (jr_of rfl (by omega)) (jr_of rfl (by omega)) (jr_of rfl (by omega)) (by omega) C0 (by omega) (by omega) (by omega) (by omega) z0 z1 z2 z3 J Sm D)
          ·
            rw [if_neg (by omega)] at D
            refine x_iconst (v := 1) rfl ki_1 ?_
            refine x_goto (tgt := 17) rfl rfl ?_
            refine x_zret rfl rfl (by decide) ?_
            show jX m_X12_next 2 0 0 274 [(0, .ref 125)] [.int 1] _ 0 0 _
            refine x_ifeq (tgt := 335) rfl rfl (ti_eq jk_1 jk_0 (br_f (by omega) ?_))
            refine x_aloadn (x := 125) rfl rfl ?_
            refine x_aloadn (x := 125) rfl rfl ?_
            refine z_getLQ (N := 92) 12 12 rfl f_12_224 rfl J rfl (fun v6 qv6 => ?_)
            have ev6 := jfullL v6
            try rw [vrfL qv6] at D
            have w5v6 := jwd_u C0 qv6 z1 (by omega)
            refine x_ldc2 (v := 1000000) rfl z_12_244 ?_
            refine z_lcmp rfl rfl jkl_1000000 (fun v7 ev7 => ?_)
            refine x_ifle (tgt := 296) rfl rfl (ti_le rfl jk_0 ⟨fun c8 => ?_, fun c8 => ?_⟩)
            ·
              rw [if_pos (by omega)] at D
              refine x_aloadn (x := 125) rfl rfl ?_
              refine z_getLQ (N := 92) 12 12 rfl f_12_224 rfl J rfl (fun v9 qv9 => ?_)
              have ev9 := jfullL v9
              try rw [show v6.toInt = v9.toInt from ((vrfL qv6).symm.trans (vrfL qv9))] at D
              try rw [vrfL qv9] at D
              have w5v9 := jwd_u C0 qv9 z1 (by omega)
              have wx := congrArg Int64.toInt (qv6.symm.trans qv9)
              refine x_ldc2 (v := 10) rfl z_12_246 ?_
              refine z_lmul rfl rfl jkl_10 (by omega) (fun v10 ev10 => ?_)
              refine x_aloadn (x := 125) rfl rfl ?_
              refine z_getR (N := 92) (b := 131) 12 7 rfl f_12_29 rfl J rfl 16007 ⟨rfl, rfl⟩ rfl ?_
              refine x_aloadn (x := 125) rfl rfl ?_
              refine z_getM (N := 92) (v := g0) 12 10 rfl f_12_211 rfl J rfl z0 ?_
              refine z_ialdM (N := 400) (v := v3) rfl J rfl rfl (by omega) qv3 ?_
              refine z_i2l rfl rfl (fun v11 ev11 => ?_)
              refine z_ladd rfl rfl rfl (by omega) (fun v12 ev12 => ?_)
              refine x_ldc2 (v := 48) rfl z_12_248 ?_
              refine z_lsub rfl rfl jkl_48 (by omega) (fun v13 ev13 => ?_)
              try rw [show (((v9.toInt * 10) + v3.toInt) - 48) = v13.toInt from by omega] at D
              exact jX.sub (jsb_c rfl jsb_n) (ct_X12_next_r125d_319 hD hQ ih v13 g0 g1 g2 g3 h (jr_ofl rfl (by omega)) (jr_of rfl (by omega)) (jr_of rfl (by omega)) (jr_of rfl (by omega)) (jr_of rfl (by omega)) (by omega) (by omega) (by omega) (by omega) z0 z1 z2 z3 (by omega) J Sm D)
            ·
              rw [if_neg (by omega)] at D
              refine x_aloadn (x := 125) rfl rfl ?_
              refine z_getLQ (N := 92) 12 12 rfl f_12_224 rfl J rfl (fun v14 qv14 => ?_)
              have ev14 := jfullL v14
              try rw [show v6.toInt = v14.toInt from ((vrfL qv6).symm.trans (vrfL qv14))] at D
              try rw [vrfL qv14] at D
              have w5v14 := jwd_u C0 qv14 z1 (by omega)
              refine x_goto (tgt := 319) rfl rfl ?_
              exact jX.sub (jsb_c rfl jsb_n) (ct_X12_next_r125d_319 hD hQ ih v14 g0 g1 g2 g3 h (jr_ofl rfl (by omega)) (jr_of rfl (by omega)) (jr_of rfl (by omega)) (jr_of rfl (by omega)) (jr_of rfl (by omega)) (by omega) (by omega) (by omega) (by omega) z0 z1 z2 z3 (by omega) J Sm D)
set_option maxRecDepth 100000 in
set_option maxHeartbeats 4000000 in
theorem ct_X12_next_r125d_5000227 {Dy : jH → Prop} {h0 : jH} {Q : Option Value → jH → Prop} {dr : jW} {K149 : jW → jW} {R149 : Int} (hD : jDk Dy) (hQ : ∀ hx9, jJ jSgM Dy hx9 → jSm fp_X12_next_r125d h0 hx9 → ∀ u0 u1 u2 : Int32, jiv hx9 125 10 = u0 → jiv hx9 125 8 = u1 → jiv hx9 125 9 = u2 → (u0.toInt ≤ u1.toInt ∧ u2.toInt ≤ u0.toInt) → ∀ u3 u4 u5 : Int32, jiv hx9 125 11 = u3 → jiv hx9 125 9 = u4 → jiv hx9 125 10 = u5 → (u3.toInt = 0 ∨ u4.toInt + 1 ≤ u5.toInt) → ((jiv h0 125 10).toInt ≤ (jiv hx9 125 9).toInt ∧ jWd hx9) → dr = vw hx9 → Q none hx9) (k149 : ∀ (g0 : Int32) (g1 : Int32) (g2 : Int32) (g3 : Int32) (h : jH), 400 - g0.toInt < R149 → 0 ≤ g0.toInt ∧ g0.toInt ≤ 400 → 0 ≤ g1.toInt ∧ g1.toInt ≤ 3 → 0 ≤ g2.toInt ∧ g2.toInt ≤ 400 → 0 ≤ g3.toInt ∧ g3.toInt ≤ 400 → (g1.toInt = 0 ∨ g3.toInt + 1 ≤ g0.toInt ∨ (g1.toInt = 1 ∧ g0.toInt = g3.toInt ∧ 97 ≤ (jiv h 131 g0.toNatClampNeg).toInt ∧ (jiv h 131 g0.toNatClampNeg).toInt ≤ 122 ∧ g3.toInt < g2.toInt) ∨ (g1.toInt = 2 ∧ g0.toInt = g3.toInt ∧ 48 ≤ (jiv h 131 g0.toNatClampNeg).toInt ∧ (jiv h 131 g0.toNatClampNeg).toInt ≤ 57 ∧ g3.toInt < g2.toInt)) → jWd h → (jiv h0 125 10).toInt ≤ g3.toInt → g3.toInt - g2.toInt ≤ 0 → g0.toInt - g2.toInt ≤ 0 → g3.toInt - g0.toInt ≤ 0 → jiv h 125 10 = g0 → jiv h 125 11 = g1 → jiv h 125 8 = g2 → jiv h 125 9 = g3 → jJ jSgM Dy h → jSm fp_X12_next_r125d h0 h → K149 (vw h) = dr → jX m_X12_next 2 0 0 149 [(0, .ref 125)] [] h 0 0 Q) : ∀ (g0 : Int32) (g1 : Int32) (g2 : Int32) (g3 : Int32) (h : jH), 0 ≤ g0.toInt ∧ g0.toInt ≤ 399 → 1 ≤ g1.toInt ∧ g1.toInt ≤ 1 → 1 ≤ g2.toInt ∧ g2.toInt ≤ 400 → 0 ≤ g3.toInt ∧ g3.toInt ≤ 399 → (jiv h0 125 10).toInt ≤ g3.toInt → g3.toInt - g2.toInt ≤ 0 → g0.toInt - g2.toInt ≤ (-1) → g3.toInt - g0.toInt ≤ 0 → jiv h 125 10 = g0 → jiv h 125 11 = g1 → jiv h 125 8 = g2 → jiv h 125 9 = g3 → 400 - g0.toInt ≤ R149 → jJ jSgM Dy h → jSm fp_X12_next_r125d h0 h → d_X12_next_r125d_5000227 K149  (vw h) = dr → jX m_X12_next 2 0 0 227 [(0, .ref 125)] [.long (-1), .ref 125] h 0 0 Q := by
  intro g0 g1 g2 g3 h y0 y1 y2 y3 y4 y5 y6 y7 z0 z1 z2 z3 m149 J Sm D
  unfold d_X12_next_r125d_5000227 at D
  try rw [vrf z0] at D
  try rw [vrf z1] at D
  try rw [vrf z2] at D
  try rw [vrf z3] at D
  refine z_putL (N := 92) 12 12 rfl f_12_224 rfl (jfin_no TX12 RX12 92 rfl rfl) hD J Sm rfl rfl rfl (fun h w1 J Sm => ?_)
  rw [vwfL w1 (show (-1) = ((-1) : Int64).toInt from by have := jkl_m1; omega)] at D
  refine x_aloadn (x := 125) rfl rfl ?_
  refine x_dup rfl rfl ?_
  refine z_getM (N := 92) (v := g0) 12 10 rfl f_12_211 rfl J rfl (jml w1 z0) ?_
  refine x_iconst (v := 1) rfl ki_1 ?_
  refine z_iadd rfl rfl jk_1 (by omega) (fun v2 ev2 => ?_)
  refine z_putI (N := 92) (w := v2.toInt) 12 10 rfl f_12_211 rfl (jfin_no TX12 RX12 92 rfl rfl) hD J Sm rfl rfl rfl (pw_125_10 (by omega)) rfl (fun h w3 J Sm => ?_)
  rw [vwf w3 (show (g0.toInt + 1) = v2.toInt from by omega)] at D
  refine x_goto (tgt := 149) rfl rfl ?_
  exact jX.sub (jsb_c rfl jsb_n) (k149 v2 g1 g2 g3 h (by omega) (jr_of rfl (by omega)) (jr_of rfl (by omega)) (jr_of rfl (by omega)) (jr_of rfl (by omega)) (Or.inr (Or.inl (by omega))) (jwd_n (jmo w3 rfl (jml w1 z1)) (by omega)) (by omega) (by omega) (by omega) (by omega) (jmw w3) (jmo w3 rfl (jml w1 z1)) (jmo w3 rfl (jml w1 z2)) (jmo w3 rfl (jml w1 z3)) J Sm D)
set_option maxRecDepth 100000 in
set_option maxHeartbeats 4000000 in
theorem ct_X12_next_r125d_227 {Dy : jH → Prop} {h0 : jH} {Q : Option Value → jH → Prop} {dr : jW} {K149 : jW → jW} {R149 : Int} (hD : jDk Dy) (hQ : ∀ hx9, jJ jSgM Dy hx9 → jSm fp_X12_next_r125d h0 hx9 → ∀ u0 u1 u2 : Int32, jiv hx9 125 10 = u0 → jiv hx9 125 8 = u1 → jiv hx9 125 9 = u2 → (u0.toInt ≤ u1.toInt ∧ u2.toInt ≤ u0.toInt) → ∀ u3 u4 u5 : Int32, jiv hx9 125 11 = u3 → jiv hx9 125 9 = u4 → jiv hx9 125 10 = u5 → (u3.toInt = 0 ∨ u4.toInt + 1 ≤ u5.toInt) → ((jiv h0 125 10).toInt ≤ (jiv hx9 125 9).toInt ∧ jWd hx9) → dr = vw hx9 → Q none hx9) (k149 : ∀ (g0 : Int32) (g1 : Int32) (g2 : Int32) (g3 : Int32) (h : jH), 400 - g0.toInt < R149 → 0 ≤ g0.toInt ∧ g0.toInt ≤ 400 → 0 ≤ g1.toInt ∧ g1.toInt ≤ 3 → 0 ≤ g2.toInt ∧ g2.toInt ≤ 400 → 0 ≤ g3.toInt ∧ g3.toInt ≤ 400 → (g1.toInt = 0 ∨ g3.toInt + 1 ≤ g0.toInt ∨ (g1.toInt = 1 ∧ g0.toInt = g3.toInt ∧ 97 ≤ (jiv h 131 g0.toNatClampNeg).toInt ∧ (jiv h 131 g0.toNatClampNeg).toInt ≤ 122 ∧ g3.toInt < g2.toInt) ∨ (g1.toInt = 2 ∧ g0.toInt = g3.toInt ∧ 48 ≤ (jiv h 131 g0.toNatClampNeg).toInt ∧ (jiv h 131 g0.toNatClampNeg).toInt ≤ 57 ∧ g3.toInt < g2.toInt)) → jWd h → (jiv h0 125 10).toInt ≤ g3.toInt → g3.toInt - g2.toInt ≤ 0 → g0.toInt - g2.toInt ≤ 0 → g3.toInt - g0.toInt ≤ 0 → jiv h 125 10 = g0 → jiv h 125 11 = g1 → jiv h 125 8 = g2 → jiv h 125 9 = g3 → jJ jSgM Dy h → jSm fp_X12_next_r125d h0 h → K149 (vw h) = dr → jX m_X12_next 2 0 0 149 [(0, .ref 125)] [] h 0 0 Q) : ∀ (s0 : Int64) (g0 : Int32) (g1 : Int32) (g2 : Int32) (g3 : Int32) (h : jH), 0 ≤ g0.toInt ∧ g0.toInt ≤ 399 → 1 ≤ g1.toInt ∧ g1.toInt ≤ 1 → 1 ≤ g2.toInt ∧ g2.toInt ≤ 400 → 0 ≤ g3.toInt ∧ g3.toInt ≤ 399 → (jiv h0 125 10).toInt ≤ g3.toInt → g3.toInt - g2.toInt ≤ 0 → g0.toInt - g2.toInt ≤ (-1) → g3.toInt - g0.toInt ≤ 0 → jiv h 125 10 = g0 → jiv h 125 11 = g1 → jiv h 125 8 = g2 → jiv h 125 9 = g3 → 400 - g0.toInt ≤ R149 → jJ jSgM Dy h → jSm fp_X12_next_r125d h0 h → d_X12_next_r125d_227 K149  s0.toInt (vw h) = dr → jX m_X12_next 2 0 0 227 [(0, .ref 125)] [.long s0, .ref 125] h 0 0 Q := by
  intro s0 g0 g1 g2 g3 h y0 y1 y2 y3 y4 y5 y6 y7 z0 z1 z2 z3 m149 J Sm D
  have es0 := jfullL s0
  unfold d_X12_next_r125d_227 at D
  try rw [vrf z0] at D
  try rw [vrf z1] at D
  try rw [vrf z2] at D
  try rw [vrf z3] at D
  refine z_putL (N := 92) 12 12 rfl f_12_224 rfl (jfin_no TX12 RX12 92 rfl rfl) hD J Sm rfl rfl rfl (fun h w1 J Sm => ?_)
  rw [vwfL w1 (show s0.toInt = s0.toInt from by omega)] at D
  refine x_aloadn (x := 125) rfl rfl ?_
  refine x_dup rfl rfl ?_
  refine z_getM (N := 92) (v := g0) 12 10 rfl f_12_211 rfl J rfl (jml w1 z0) ?_
  refine x_iconst (v := 1) rfl ki_1 ?_
  refine z_iadd rfl rfl jk_1 (by omega) (fun v2 ev2 => ?_)
  refine z_putI (N := 92) (w := v2.toInt) 12 10 rfl f_12_211 rfl (jfin_no TX12 RX12 92 rfl rfl) hD J Sm rfl rfl rfl (pw_125_10 (by omega)) rfl (fun h w3 J Sm => ?_)
  rw [vwf w3 (show (g0.toInt + 1) = v2.toInt from by omega)] at D
  refine x_goto (tgt := 149) rfl rfl ?_
  exact jX.sub (jsb_c rfl jsb_n) (k149 v2 g1 g2 g3 h (by omega) (jr_of rfl (by omega)) (jr_of rfl (by omega)) (jr_of rfl (by omega)) (jr_of rfl (by omega)) (Or.inr (Or.inl (by omega))) (jwd_n (jmo w3 rfl (jml w1 z1)) (by omega)) (by omega) (by omega) (by omega) (by omega) (jmw w3) (jmo w3 rfl (jml w1 z1)) (jmo w3 rfl (jml w1 z2)) (jmo w3 rfl (jml w1 z3)) J Sm D)
set_option maxRecDepth 100000 in
set_option maxHeartbeats 4000000 in
theorem ct_X12_next_r125d_149 {Dy : jH → Prop} {h0 : jH} {Q : Option Value → jH → Prop} {dr : jW} (hD : jDk Dy) (hQ : ∀ hx9, jJ jSgM Dy hx9 → jSm fp_X12_next_r125d h0 hx9 → ∀ u0 u1 u2 : Int32, jiv hx9 125 10 = u0 → jiv hx9 125 8 = u1 → jiv hx9 125 9 = u2 → (u0.toInt ≤ u1.toInt ∧ u2.toInt ≤ u0.toInt) → ∀ u3 u4 u5 : Int32, jiv hx9 125 11 = u3 → jiv hx9 125 9 = u4 → jiv hx9 125 10 = u5 → (u3.toInt = 0 ∨ u4.toInt + 1 ≤ u5.toInt) → ((jiv h0 125 10).toInt ≤ (jiv hx9 125 9).toInt ∧ jWd hx9) → dr = vw hx9 → Q none hx9) : ∀ r : Nat, ∀ (g0 : Int32) (g1 : Int32) (g2 : Int32) (g3 : Int32) (h : jH), 400 - g0.toInt < (r : Int) → 0 ≤ g0.toInt ∧ g0.toInt ≤ 400 → 0 ≤ g1.toInt ∧ g1.toInt ≤ 3 → 0 ≤ g2.toInt ∧ g2.toInt ≤ 400 → 0 ≤ g3.toInt ∧ g3.toInt ≤ 400 → (g1.toInt = 0 ∨ g3.toInt + 1 ≤ g0.toInt ∨ (g1.toInt = 1 ∧ g0.toInt = g3.toInt ∧ 97 ≤ (jiv h 131 g0.toNatClampNeg).toInt ∧ (jiv h 131 g0.toNatClampNeg).toInt ≤ 122 ∧ g3.toInt < g2.toInt) ∨ (g1.toInt = 2 ∧ g0.toInt = g3.toInt ∧ 48 ≤ (jiv h 131 g0.toNatClampNeg).toInt ∧ (jiv h 131 g0.toNatClampNeg).toInt ≤ 57 ∧ g3.toInt < g2.toInt)) → jWd h → (jiv h0 125 10).toInt ≤ g3.toInt → g3.toInt - g2.toInt ≤ 0 → g0.toInt - g2.toInt ≤ 0 → g3.toInt - g0.toInt ≤ 0 → jiv h 125 10 = g0 → jiv h 125 11 = g1 → jiv h 125 8 = g2 → jiv h 125 9 = g3 → jJ jSgM Dy h → jSm fp_X12_next_r125d h0 h → d_X12_next_r125d_149 r (vw h) = dr → jX m_X12_next 2 0 0 149 [(0, .ref 125)] [] h 0 0 Q := by
  intro r
  induction r with
  | zero =>
    intro g0 g1 g2 g3 h hm y0 y1 y2 y3 C0 C1 y6 y7 y8 y9 z0 z1 z2 z3  J Sm D
    exfalso
    omega
  | succ r ih =>
    intro g0 g1 g2 g3 h hm y0 y1 y2 y3 C0 C1 y6 y7 y8 y9 z0 z1 z2 z3  J Sm D
    rw [d_X12_next_r125d_149.eq_2] at D
    try rw [vrf z0] at D
    try rw [vrf z1] at D
    try rw [vrf z2] at D
    try rw [vrf z3] at D
    refine x_aloadn (x := 125) rfl rfl ?_
    refine z_getM (N := 92) (v := g1) 12 11 rfl f_12_235 rfl J rfl z1 ?_
    refine x_iconst (v := 1) rfl ki_1 ?_
    refine x_icne (tgt := 243) rfl rfl (ti_ne rfl jk_1 ⟨fun c1 => ?_, fun c1 => ?_⟩)
    ·
      rw [if_neg (by omega)] at D
      exact jX.sub (jsb_c rfl jsb_n) (ct_X12_next_r125d_243 hD hQ  401 g0 g1 g2 g3 h (by omega) (jr_of rfl (by omega)) (jr_of rfl (by omega)) (jr_of rfl (by omega)) (jr_of rfl (by omega)) (by omega) C1 (by omega) (by omega) (by omega) (by omega) z0 z1 z2 z3 J Sm D)
    ·
      rw [if_pos (by omega)] at D
      refine x_aloadn (x := 125) rfl rfl ?_
      refine z_getM (N := 92) (v := g0) 12 10 rfl f_12_211 rfl J rfl z0 ?_
      refine x_aloadn (x := 125) rfl rfl ?_
      refine z_getM (N := 92) (v := g2) 12 8 rfl f_12_201 rfl J rfl z2 ?_
      refine x_icge (tgt := 243) rfl rfl (ti_ge rfl rfl ⟨fun c2 => ?_, fun c2 => ?_⟩)
      ·
        rw [if_pos (by omega)] at D
        exact jX.sub (jsb_c rfl jsb_n) (ct_X12_next_r125d_243 hD hQ  401 g0 g1 g2 g3 h (by omega) (jr_of rfl (by omega)) (jr_of rfl (by omega)) (jr_of rfl (by omega)) (jr_of rfl (by omega)) (by omega) C1 (by omega) (by omega) (by omega) (by omega) z0 z1 z2 z3 J Sm D)
      ·
        rw [if_neg (by omega)] at D
        refine x_aloadn (x := 125) rfl rfl ?_
        refine z_getR (N := 92) (b := 131) 12 7 rfl f_12_29 rfl J rfl 16007 ⟨rfl, rfl⟩ rfl ?_
        refine x_aloadn (x := 125) rfl rfl ?_
        refine z_getM (N := 92) (v := g0) 12 10 rfl f_12_211 rfl J rfl z0 ?_
        refine z_iald (N := 400) rfl J rfl sg_131_0_400_1_0_1 rfl (by omega) (fun v3 qv3 ev3 => ?_)
        try rw [vrd qv3 (show g0.toInt = g0.toInt from by omega)] at D
        have tq := congrArg Int32.toInt qv3
        refine x_inst (N := m_X12_isSmall) (As := [.int v3]) (st := []) (dx9 := 1) (mc := 0) (ms := 0) (host := "") rfl t_X12_isSmall ⟨Or.inl q_12_228, s_X12_isSmall⟩ rfl (by decide) rfl rfl ⟨by decide, by decide⟩ (jC.of rfl k_X12_isSmall rfl ?_)
        show jX m_X12_isSmall 1 0 0 0 [(0, .int v3)] [] _ 0 0 _
        refine x_iloadn (x := v3) rfl rfl ?_
        refine x_bipush (v := 97) rfl kb_97 ?_
        refine x_iclt (tgt := 16) rfl rfl (ti_lt rfl jk_97 ⟨fun c4 => ?_, fun c4 => ?_⟩)
        ·
          rw [if_pos (by omega)] at D
          refine x_iconst (v := 0) rfl ki_0 ?_
          refine x_zret rfl rfl (by decide) ?_
          show jX m_X12_next 2 0 0 180 [(0, .ref 125)] [.int 0] _ 0 0 _
          refine x_ifeq (tgt := 243) rfl rfl (ti_eq jk_0 jk_0 (br_t (by omega) ?_))
          exact jX.sub (jsb_c rfl jsb_n) (ct_X12_next_r125d_243 hD hQ  401 g0 g1 g2 g3 h (by omega) (jr_of rfl (by omega)) (jr_of rfl (by omega)) (jr_of rfl (by omega)) (jr_of rfl (by omega)) (by omega) C1 (by omega) (by omega) (by omega) (by omega) z0 z1 z2 z3 J Sm D)
        ·
          rw [if_neg (by omega)] at D
          refine x_iloadn (x := v3) rfl rfl ?_
          refine x_bipush (v := 122) rfl kb_122 ?_
          refine x_icgt (tgt := 16) rfl rfl (ti_gt rfl jk_122 ⟨fun c5 => ?_, fun c5 => ?_⟩)
          ·
            rw [if_pos (by omega)] at D
            refine x_iconst (v := 0) rfl ki_0 ?_
            refine x_zret rfl rfl (by decide) ?_
            show jX m_X12_next 2 0 0 180 [(0, .ref 125)] [.int 0] _ 0 0 _
            refine x_ifeq (tgt := 243) rfl rfl (ti_eq jk_0 jk_0 (br_t (by omega) ?_))
            exact jX.sub (jsb_c rfl jsb_n) (ct_X12_next_r125d_243 hD hQ  401 g0 g1 g2 g3 h (by omega) (jr_of rfl (by omega)) (jr_of rfl (by omega)) (jr_of rfl (by omega)) (jr_of rfl (by omega)) (by omega) C1 (by omega) (by omega) (by omega) (by omega) z0 z1 z2 z3 J Sm D)
          ·
            rw [if_neg (by omega)] at D
            refine x_iconst (v := 1) rfl ki_1 ?_
            refine x_goto (tgt := 17) rfl rfl ?_
            refine x_zret rfl rfl (by decide) ?_
            show jX m_X12_next 2 0 0 180 [(0, .ref 125)] [.int 1] _ 0 0 _
            refine x_ifeq (tgt := 243) rfl rfl (ti_eq jk_1 jk_0 (br_f (by omega) ?_))
            refine x_aloadn (x := 125) rfl rfl ?_
            refine x_aloadn (x := 125) rfl rfl ?_
            refine z_getM (N := 92) (v := g0) 12 10 rfl f_12_211 rfl J rfl z0 ?_
            refine x_aloadn (x := 125) rfl rfl ?_
            refine z_getM (N := 92) (v := g3) 12 9 rfl f_12_221 rfl J rfl z3 ?_
            refine z_isub rfl rfl rfl (by omega) (fun v6 ev6 => ?_)
            refine x_bipush (v := 12) rfl kb_12 ?_
            refine x_icge (tgt := 224) rfl rfl (ti_ge rfl jk_12 ⟨fun c7 => ?_, fun c7 => ?_⟩)
            ·
              rw [if_pos (by omega)] at D
              refine x_ldc2 (v := (-1)) rfl z_12_242 ?_
              exact jX.sub (jsb_c rfl jsb_n) (ct_X12_next_r125d_5000227 hD hQ ih g0 g1 g2 g3 h (jr_of rfl (by omega)) (jr_of rfl (by omega)) (jr_of rfl (by omega)) (jr_of rfl (by omega)) (by omega) (by omega) (by omega) (by omega) z0 z1 z2 z3 (by omega) J Sm D)
            ·
              rw [if_neg (by omega)] at D
              refine x_aloadn (x := 125) rfl rfl ?_
              refine z_getLQ (N := 92) 12 12 rfl f_12_224 rfl J rfl (fun v8 qv8 => ?_)
              have ev8 := jfullL v8
              try rw [vrfL qv8] at D
              refine x_ldc2 (v := 32) rfl z_12_238 ?_
              refine z_lmulW rfl rfl jkl_32 (fun v9 ev9 => ?_)
              have fv9 := jfullL v9
              try rw [← ev9] at D
              refine x_aloadn (x := 125) rfl rfl ?_
              refine z_getR (N := 92) (b := 131) 12 7 rfl f_12_29 rfl J rfl 16007 ⟨rfl, rfl⟩ rfl ?_
              refine x_aloadn (x := 125) rfl rfl ?_
              refine z_getM (N := 92) (v := g0) 12 10 rfl f_12_211 rfl J rfl z0 ?_
              refine z_ialdM (N := 400) (v := v3) rfl J rfl rfl (by omega) qv3 ?_
              refine z_i2l rfl rfl (fun v10 ev10 => ?_)
              refine z_laddW rfl rfl rfl (fun v11 ev11 => ?_)
              have fv11 := jfullL v11
              try rw [show v3.toInt = v10.toInt from by omega] at D
              try rw [← ev11] at D
              refine x_ldc2 (v := 96) rfl z_12_240 ?_
              refine z_lsubW rfl rfl jkl_96 (fun v12 ev12 => ?_)
              have fv12 := jfullL v12
              try rw [← ev12] at D
              refine x_goto (tgt := 227) rfl rfl ?_
              exact jX.sub (jsb_c rfl jsb_n) (ct_X12_next_r125d_227 hD hQ ih v12 g0 g1 g2 g3 h (jr_of rfl (by omega)) (jr_of rfl (by omega)) (jr_of rfl (by omega)) (jr_of rfl (by omega)) (by omega) (by omega) (by omega) (by omega) z0 z1 z2 z3 (by omega) J Sm D)
set_option maxRecDepth 100000 in
set_option maxHeartbeats 4000000 in
theorem ct_X12_next_r125d_500114 {Dy : jH → Prop} {h0 : jH} {Q : Option Value → jH → Prop} {dr : jW} (hD : jDk Dy) (hQ : ∀ hx9, jJ jSgM Dy hx9 → jSm fp_X12_next_r125d h0 hx9 → ∀ u0 u1 u2 : Int32, jiv hx9 125 10 = u0 → jiv hx9 125 8 = u1 → jiv hx9 125 9 = u2 → (u0.toInt ≤ u1.toInt ∧ u2.toInt ≤ u0.toInt) → ∀ u3 u4 u5 : Int32, jiv hx9 125 11 = u3 → jiv hx9 125 9 = u4 → jiv hx9 125 10 = u5 → (u3.toInt = 0 ∨ u4.toInt + 1 ≤ u5.toInt) → ((jiv h0 125 10).toInt ≤ (jiv hx9 125 9).toInt ∧ jWd hx9) → dr = vw hx9 → Q none hx9) : ∀ (g0 : Int32) (g1 : Int32) (g2 : Int32) (h : jH), 0 ≤ g0.toInt ∧ g0.toInt ≤ 399 → 1 ≤ g1.toInt ∧ g1.toInt ≤ 400 → 0 ≤ g2.toInt ∧ g2.toInt ≤ 399 → g0.toInt = g2.toInt → g2.toInt < g1.toInt → jlv h 125 12 = 0 → (jiv h0 125 10).toInt ≤ g2.toInt → g2.toInt - g1.toInt ≤ 0 → g0.toInt - g1.toInt ≤ 0 → g2.toInt - g0.toInt ≤ 0 → jiv h 125 10 = g0 → jiv h 125 8 = g1 → jiv h 125 9 = g2 → jJ jSgM Dy h → jSm fp_X12_next_r125d h0 h → d_X12_next_r125d_500114  (vw h) = dr → jX m_X12_next 2 0 0 114 [(0, .ref 125)] [.int 3, .ref 125] h 0 0 Q := by
  intro g0 g1 g2 h y0 y1 y2 y3 y4 C0 y6 y7 y8 y9 z0 z1 z2  J Sm D
  unfold d_X12_next_r125d_500114 at D
  try rw [vrf z0] at D
  try rw [vrf z1] at D
  try rw [vrf z2] at D
  refine z_putI (N := 92) (w := 3) 12 11 rfl f_12_235 rfl (jfin_no TX12 RX12 92 rfl rfl) hD J Sm rfl rfl jk_3 (pw_125_11 (by omega)) rfl (fun h w1 J Sm => ?_)
  rw [vwf w1 (show 3 = (3 : Int32).toInt from by have := jk_3; omega)] at D
  refine x_aloadn (x := 125) rfl rfl ?_
  refine z_getM (N := 92) (v := 3) 12 11 rfl f_12_235 rfl J rfl (jmw w1) ?_
  refine x_iconst (v := 3) rfl ki_3 ?_
  refine x_icne (tgt := 149) rfl rfl (ti_ne jk_3 jk_3 (bn_f (by omega) ?_))
  refine x_aloadn (x := 125) rfl rfl ?_
  refine x_aloadn (x := 125) rfl rfl ?_
  refine z_getR (N := 92) (b := 131) 12 7 rfl f_12_29 rfl J rfl 16007 ⟨rfl, rfl⟩ rfl ?_
  refine x_aloadn (x := 125) rfl rfl ?_
  refine z_getM (N := 92) (v := g2) 12 9 rfl f_12_221 rfl J rfl (jmo w1 rfl z2) ?_
  refine z_iald (N := 400) rfl J rfl sg_131_0_400_1_0_1 rfl (by omega) (fun v2 qv2 ev2 => ?_)
  try rw [vrd (jmb_w w1 qv2 rfl) (show g2.toInt = g2.toInt from by omega)] at D
  refine z_i2l rfl rfl (fun v3 ev3 => ?_)
  refine z_putL (N := 92) 12 12 rfl f_12_224 rfl (jfin_no TX12 RX12 92 rfl rfl) hD J Sm rfl rfl rfl (fun h w4 J Sm => ?_)
  rw [vwfL w4 (show v2.toInt = v3.toInt from by omega)] at D
  refine x_aloadn (x := 125) rfl rfl ?_
  refine x_dup rfl rfl ?_
  refine z_getM (N := 92) (v := g0) 12 10 rfl f_12_211 rfl J rfl (jml w4 (jmo w1 rfl z0)) ?_
  refine x_iconst (v := 1) rfl ki_1 ?_
  refine z_iadd rfl rfl jk_1 (by omega) (fun v5 ev5 => ?_)
  refine z_putI (N := 92) (w := v5.toInt) 12 10 rfl f_12_211 rfl (jfin_no TX12 RX12 92 rfl rfl) hD J Sm rfl rfl rfl (pw_125_10 (by omega)) rfl (fun h w6 J Sm => ?_)
  rw [vwf w6 (show (g0.toInt + 1) = v5.toInt from by omega)] at D
  exact jX.sub (jsb_c rfl jsb_n) (ct_X12_next_r125d_149 hD hQ  401 v5 3 g1 g2 h (by omega) (jr_of rfl (by omega)) (jr_of jk_3 (by omega)) (jr_of rfl (by omega)) (jr_of rfl (by omega)) (Or.inr (Or.inl (by omega))) (jwd_n (jmo w6 rfl (jml w4 (jmw w1))) (by decide)) (by omega) (by omega) (by omega) (by omega) (jmw w6) (jmo w6 rfl (jml w4 (jmw w1))) (jmo w6 rfl (jml w4 (jmo w1 rfl z1))) (jmo w6 rfl (jml w4 (jmo w1 rfl z2))) J Sm D)
set_option maxRecDepth 100000 in
set_option maxHeartbeats 4000000 in
theorem ct_X12_next_r125d_400114 {Dy : jH → Prop} {h0 : jH} {Q : Option Value → jH → Prop} {dr : jW} (hD : jDk Dy) (hQ : ∀ hx9, jJ jSgM Dy hx9 → jSm fp_X12_next_r125d h0 hx9 → ∀ u0 u1 u2 : Int32, jiv hx9 125 10 = u0 → jiv hx9 125 8 = u1 → jiv hx9 125 9 = u2 → (u0.toInt ≤ u1.toInt ∧ u2.toInt ≤ u0.toInt) → ∀ u3 u4 u5 : Int32, jiv hx9 125 11 = u3 → jiv hx9 125 9 = u4 → jiv hx9 125 10 = u5 → (u3.toInt = 0 ∨ u4.toInt + 1 ≤ u5.toInt) → ((jiv h0 125 10).toInt ≤ (jiv hx9 125 9).toInt ∧ jWd hx9) → dr = vw hx9 → Q none hx9) : ∀ (g0 : Int32) (g1 : Int32) (g2 : Int32) (h : jH), 0 ≤ g0.toInt ∧ g0.toInt ≤ 399 → 1 ≤ g1.toInt ∧ g1.toInt ≤ 400 → 0 ≤ g2.toInt ∧ g2.toInt ≤ 399 → (g0.toInt = g2.toInt ∧ 48 ≤ (jiv h 131 g0.toNatClampNeg).toInt ∧ (jiv h 131 g0.toNatClampNeg).toInt ≤ 57 ∧ g2.toInt < g1.toInt) → jlv h 125 12 = 0 → (jiv h0 125 10).toInt ≤ g2.toInt → g2.toInt - g1.toInt ≤ 0 → g0.toInt - g1.toInt ≤ 0 → g2.toInt - g0.toInt ≤ 0 → jiv h 125 10 = g0 → jiv h 125 8 = g1 → jiv h 125 9 = g2 → jJ jSgM Dy h → jSm fp_X12_next_r125d h0 h → d_X12_next_r125d_400114  (vw h) = dr → jX m_X12_next 2 0 0 114 [(0, .ref 125)] [.int 2, .ref 125] h 0 0 Q := by
  intro g0 g1 g2 h y0 y1 y2 C0 C1 y5 y6 y7 y8 z0 z1 z2  J Sm D
  unfold d_X12_next_r125d_400114 at D
  try rw [vrf z0] at D
  try rw [vrf z1] at D
  try rw [vrf z2] at D
  refine z_putI (N := 92) (w := 2) 12 11 rfl f_12_235 rfl (jfin_no TX12 RX12 92 rfl rfl) hD J Sm rfl rfl jk_2 (pw_125_11 (by omega)) rfl (fun h w1 J Sm => ?_)
  rw [vwf w1 (show 2 = (2 : Int32).toInt from by have := jk_2; omega)] at D
  refine x_aloadn (x := 125) rfl rfl ?_
  refine z_getM (N := 92) (v := 2) 12 11 rfl f_12_235 rfl J rfl (jmw w1) ?_
  refine x_iconst (v := 3) rfl ki_3 ?_
  refine x_icne (tgt := 149) rfl rfl (ti_ne jk_2 jk_3 (bn_t (by omega) ?_))
  exact jX.sub (jsb_c rfl jsb_n) (ct_X12_next_r125d_149 hD hQ  401 g0 2 g1 g2 h (by omega) (jr_of rfl (by omega)) (jr_of jk_2 (by omega)) (jr_of rfl (by omega)) (jr_of rfl (by omega)) (Or.inr (Or.inr (Or.inr ⟨(by decide), C0.1, (by rw [(jmo w1 rfl rfl)]; exact C0.2.1), (by rw [(jmo w1 rfl rfl)]; exact C0.2.2.1), C0.2.2.2⟩))) (jwd_0 ((jlvi w1).trans C1)) (by omega) (by omega) (by omega) (by omega) (jmo w1 rfl z0) (jmw w1) (jmo w1 rfl z1) (jmo w1 rfl z2) J Sm D)
set_option maxRecDepth 100000 in
set_option maxHeartbeats 4000000 in
theorem ct_X12_next_r125d_300114 {Dy : jH → Prop} {h0 : jH} {Q : Option Value → jH → Prop} {dr : jW} (hD : jDk Dy) (hQ : ∀ hx9, jJ jSgM Dy hx9 → jSm fp_X12_next_r125d h0 hx9 → ∀ u0 u1 u2 : Int32, jiv hx9 125 10 = u0 → jiv hx9 125 8 = u1 → jiv hx9 125 9 = u2 → (u0.toInt ≤ u1.toInt ∧ u2.toInt ≤ u0.toInt) → ∀ u3 u4 u5 : Int32, jiv hx9 125 11 = u3 → jiv hx9 125 9 = u4 → jiv hx9 125 10 = u5 → (u3.toInt = 0 ∨ u4.toInt + 1 ≤ u5.toInt) → ((jiv h0 125 10).toInt ≤ (jiv hx9 125 9).toInt ∧ jWd hx9) → dr = vw hx9 → Q none hx9) : ∀ (g0 : Int32) (g1 : Int32) (g2 : Int32) (h : jH), 0 ≤ g0.toInt ∧ g0.toInt ≤ 399 → 1 ≤ g1.toInt ∧ g1.toInt ≤ 400 → 0 ≤ g2.toInt ∧ g2.toInt ≤ 399 → (g0.toInt = g2.toInt ∧ 97 ≤ (jiv h 131 g0.toNatClampNeg).toInt ∧ (jiv h 131 g0.toNatClampNeg).toInt ≤ 122 ∧ g2.toInt < g1.toInt) → jlv h 125 12 = 0 → (jiv h0 125 10).toInt ≤ g2.toInt → g2.toInt - g1.toInt ≤ 0 → g0.toInt - g1.toInt ≤ 0 → g2.toInt - g0.toInt ≤ 0 → jiv h 125 10 = g0 → jiv h 125 8 = g1 → jiv h 125 9 = g2 → jJ jSgM Dy h → jSm fp_X12_next_r125d h0 h → d_X12_next_r125d_300114  (vw h) = dr → jX m_X12_next 2 0 0 114 [(0, .ref 125)] [.int 1, .ref 125] h 0 0 Q := by
  intro g0 g1 g2 h y0 y1 y2 C0 C1 y5 y6 y7 y8 z0 z1 z2  J Sm D
  unfold d_X12_next_r125d_300114 at D
  try rw [vrf z0] at D
  try rw [vrf z1] at D
  try rw [vrf z2] at D
  refine z_putI (N := 92) (w := 1) 12 11 rfl f_12_235 rfl (jfin_no TX12 RX12 92 rfl rfl) hD J Sm rfl rfl jk_1 (pw_125_11 (by omega)) rfl (fun h w1 J Sm => ?_)
  rw [vwf w1 (show 1 = (1 : Int32).toInt from by have := jk_1; omega)] at D
  refine x_aloadn (x := 125) rfl rfl ?_
  refine z_getM (N := 92) (v := 1) 12 11 rfl f_12_235 rfl J rfl (jmw w1) ?_
  refine x_iconst (v := 3) rfl ki_3 ?_
  refine x_icne (tgt := 149) rfl rfl (ti_ne jk_1 jk_3 (bn_t (by omega) ?_))
  exact jX.sub (jsb_c rfl jsb_n) (ct_X12_next_r125d_149 hD hQ  401 g0 1 g1 g2 h (by omega) (jr_of rfl (by omega)) (jr_of jk_1 (by omega)) (jr_of rfl (by omega)) (jr_of rfl (by omega)) (Or.inr (Or.inr (Or.inl ⟨(by decide), C0.1, (by rw [(jmo w1 rfl rfl)]; exact C0.2.1), (by rw [(jmo w1 rfl rfl)]; exact C0.2.2.1), C0.2.2.2⟩))) (jwd_0 ((jlvi w1).trans C1)) (by omega) (by omega) (by omega) (by omega) (jmo w1 rfl z0) (jmw w1) (jmo w1 rfl z1) (jmo w1 rfl z2) J Sm D)
set_option maxRecDepth 100000 in
set_option maxHeartbeats 4000000 in
theorem ct_X12_next_r125d_200114 {Dy : jH → Prop} {h0 : jH} {Q : Option Value → jH → Prop} {dr : jW} (hD : jDk Dy) (hQ : ∀ hx9, jJ jSgM Dy hx9 → jSm fp_X12_next_r125d h0 hx9 → ∀ u0 u1 u2 : Int32, jiv hx9 125 10 = u0 → jiv hx9 125 8 = u1 → jiv hx9 125 9 = u2 → (u0.toInt ≤ u1.toInt ∧ u2.toInt ≤ u0.toInt) → ∀ u3 u4 u5 : Int32, jiv hx9 125 11 = u3 → jiv hx9 125 9 = u4 → jiv hx9 125 10 = u5 → (u3.toInt = 0 ∨ u4.toInt + 1 ≤ u5.toInt) → ((jiv h0 125 10).toInt ≤ (jiv hx9 125 9).toInt ∧ jWd hx9) → dr = vw hx9 → Q none hx9) : ∀ (g0 : Int32) (g1 : Int32) (g2 : Int32) (h : jH), 0 ≤ g0.toInt ∧ g0.toInt ≤ 400 → 0 ≤ g1.toInt ∧ g1.toInt ≤ 400 → 0 ≤ g2.toInt ∧ g2.toInt ≤ 400 → jlv h 125 12 = 0 → (jiv h0 125 10).toInt ≤ g2.toInt → g2.toInt - g1.toInt ≤ 0 → g0.toInt - g1.toInt ≤ 0 → g2.toInt - g0.toInt ≤ 0 → jiv h 125 10 = g0 → jiv h 125 8 = g1 → jiv h 125 9 = g2 → jJ jSgM Dy h → jSm fp_X12_next_r125d h0 h → d_X12_next_r125d_200114  (vw h) = dr → jX m_X12_next 2 0 0 114 [(0, .ref 125)] [.int 0, .ref 125] h 0 0 Q := by
  intro g0 g1 g2 h y0 y1 y2 C0 y4 y5 y6 y7 z0 z1 z2  J Sm D
  unfold d_X12_next_r125d_200114 at D
  try rw [vrf z0] at D
  try rw [vrf z1] at D
  try rw [vrf z2] at D
  refine z_putI (N := 92) (w := 0) 12 11 rfl f_12_235 rfl (jfin_no TX12 RX12 92 rfl rfl) hD J Sm rfl rfl jk_0 (pw_125_11 (by omega)) rfl (fun h w1 J Sm => ?_)
  rw [vwf w1 (show 0 = (0 : Int32).toInt from by have := jk_0; omega)] at D
  refine x_aloadn (x := 125) rfl rfl ?_
  refine z_getM (N := 92) (v := 0) 12 11 rfl f_12_235 rfl J rfl (jmw w1) ?_
  refine x_iconst (v := 3) rfl ki_3 ?_
  refine x_icne (tgt := 149) rfl rfl (ti_ne jk_0 jk_3 (bn_t (by omega) ?_))
  exact jX.sub (jsb_c rfl jsb_n) (ct_X12_next_r125d_149 hD hQ  401 g0 0 g1 g2 h (by omega) (jr_of rfl (by omega)) (jr_of jk_0 (by omega)) (jr_of rfl (by omega)) (jr_of rfl (by omega)) (Or.inl (by decide)) (jwd_0 ((jlvi w1).trans C0)) (by omega) (by omega) (by omega) (by omega) (jmo w1 rfl z0) (jmw w1) (jmo w1 rfl z1) (jmo w1 rfl z2) J Sm D)
set_option maxRecDepth 100000 in
set_option maxHeartbeats 4000000 in
theorem ct_X12_next_r125d_46 {Dy : jH → Prop} {h0 : jH} {Q : Option Value → jH → Prop} {dr : jW} (hD : jDk Dy) (hQ : ∀ hx9, jJ jSgM Dy hx9 → jSm fp_X12_next_r125d h0 hx9 → ∀ u0 u1 u2 : Int32, jiv hx9 125 10 = u0 → jiv hx9 125 8 = u1 → jiv hx9 125 9 = u2 → (u0.toInt ≤ u1.toInt ∧ u2.toInt ≤ u0.toInt) → ∀ u3 u4 u5 : Int32, jiv hx9 125 11 = u3 → jiv hx9 125 9 = u4 → jiv hx9 125 10 = u5 → (u3.toInt = 0 ∨ u4.toInt + 1 ≤ u5.toInt) → ((jiv h0 125 10).toInt ≤ (jiv hx9 125 9).toInt ∧ jWd hx9) → dr = vw hx9 → Q none hx9) : ∀ (g0 : Int32) (g1 : Int32) (g2 : Int32) (h : jH), 0 ≤ g0.toInt ∧ g0.toInt ≤ 400 → 0 ≤ g1.toInt ∧ g1.toInt ≤ 400 → 0 ≤ g2.toInt ∧ g2.toInt ≤ 400 → (jiv h0 125 10).toInt ≤ g2.toInt → g2.toInt - g1.toInt ≤ 0 → jiv h 125 10 = g0 → jiv h 125 8 = g1 → jiv h 125 9 = g2 → jJ jSgM Dy h → jSm fp_X12_next_r125d h0 h → d_X12_next_r125d_46  (vw h) = dr → jX m_X12_next 2 0 0 46 [(0, .ref 125)] [] h 0 0 Q := by
  intro g0 g1 g2 h y0 y1 y2 y3 y4 z0 z1 z2  J Sm D
  unfold d_X12_next_r125d_46 at D
  try rw [vrf z0] at D
  try rw [vrf z1] at D
  try rw [vrf z2] at D
  refine x_aloadn (x := 125) rfl rfl ?_
  refine x_aloadn (x := 125) rfl rfl ?_
  refine z_getM (N := 92) (v := g2) 12 9 rfl f_12_221 rfl J rfl z2 ?_
  refine z_putI (N := 92) (w := g2.toInt) 12 10 rfl f_12_211 rfl (jfin_no TX12 RX12 92 rfl rfl) hD J Sm rfl rfl rfl (pw_125_10 (by omega)) rfl (fun h w1 J Sm => ?_)
  rw [vwf w1 (show g2.toInt = g2.toInt from by omega)] at D
  refine x_aloadn (x := 125) rfl rfl ?_
  refine x_lconst (v := 0) rfl kl_0 ?_
  refine z_putL (N := 92) 12 12 rfl f_12_224 rfl (jfin_no TX12 RX12 92 rfl rfl) hD J Sm rfl rfl rfl (fun h w2 J Sm => ?_)
  rw [vwfL w2 (show 0 = (0 : Int64).toInt from by have := jkl_0; omega)] at D
  refine x_aloadn (x := 125) rfl rfl ?_
  refine x_aloadn (x := 125) rfl rfl ?_
  refine z_getM (N := 92) (v := g2) 12 9 rfl f_12_221 rfl J rfl (jml w2 (jmo w1 rfl z2)) ?_
  refine x_aloadn (x := 125) rfl rfl ?_
  refine z_getM (N := 92) (v := g1) 12 8 rfl f_12_201 rfl J rfl (jml w2 (jmo w1 rfl z1)) ?_
  refine x_icne (tgt := 75) rfl rfl (ti_ne rfl rfl ⟨fun c3 => ?_, fun c3 => ?_⟩)
  ·
    rw [if_neg (by omega)] at D
    refine x_aloadn (x := 125) rfl rfl ?_
    refine z_getR (N := 92) (b := 131) 12 7 rfl f_12_29 rfl J rfl 16007 ⟨rfl, rfl⟩ rfl ?_
    refine x_aloadn (x := 125) rfl rfl ?_
    refine z_getM (N := 92) (v := g2) 12 9 rfl f_12_221 rfl J rfl (jml w2 (jmo w1 rfl z2)) ?_
    refine z_iald (N := 400) rfl J rfl sg_131_0_400_1_0_1 rfl (by omega) (fun v4 qv4 ev4 => ?_)
    try rw [vrd (jmb_w w1 (jmb_l w2 qv4) rfl) (show g2.toInt = g2.toInt from by omega)] at D
    refine x_inst (N := m_X12_isSmall) (As := [.int v4]) (st := [.ref 125]) (dx9 := 1) (mc := 0) (ms := 0) (host := "") rfl t_X12_isSmall ⟨Or.inl q_12_228, s_X12_isSmall⟩ rfl (by decide) rfl rfl ⟨by decide, by decide⟩ (jC.of rfl k_X12_isSmall rfl ?_)
    show jX m_X12_isSmall 1 0 0 0 [(0, .int v4)] [] _ 0 0 _
    refine x_iloadn (x := v4) rfl rfl ?_
    refine x_bipush (v := 97) rfl kb_97 ?_
    refine x_iclt (tgt := 16) rfl rfl (ti_lt rfl jk_97 ⟨fun c5 => ?_, fun c5 => ?_⟩)
    ·
      rw [if_pos (by omega)] at D
      refine x_iconst (v := 0) rfl ki_0 ?_
      refine x_zret rfl rfl (by decide) ?_
      show jX m_X12_next 2 0 0 87 [(0, .ref 125)] [.int 0, .ref 125] _ 0 0 _
      refine x_ifeq (tgt := 94) rfl rfl (ti_eq jk_0 jk_0 (br_t (by omega) ?_))
      refine x_aloadn (x := 125) rfl rfl ?_
      refine z_getR (N := 92) (b := 131) 12 7 rfl f_12_29 rfl J rfl 16007 ⟨rfl, rfl⟩ rfl ?_
      refine x_aloadn (x := 125) rfl rfl ?_
      refine z_getM (N := 92) (v := g2) 12 9 rfl f_12_221 rfl J rfl (jml w2 (jmo w1 rfl z2)) ?_
      refine z_ialdM (N := 400) (v := v4) rfl J rfl rfl (by omega) qv4 ?_
      refine x_inst (N := m_X12_isDigit) (As := [.int v4]) (st := [.ref 125]) (dx9 := 1) (mc := 0) (ms := 0) (host := "") rfl t_X12_isDigit ⟨Or.inl q_12_232, s_X12_isDigit⟩ rfl (by decide) rfl rfl ⟨by decide, by decide⟩ (jC.of rfl k_X12_isDigit rfl ?_)
      show jX m_X12_isDigit 1 0 0 0 [(0, .int v4)] [] _ 0 0 _
      refine x_iloadn (x := v4) rfl rfl ?_
      refine x_bipush (v := 48) rfl kb_48 ?_
      refine x_iclt (tgt := 16) rfl rfl (ti_lt rfl jk_48 ⟨fun c6 => ?_, fun c6 => ?_⟩)
      ·
        rw [if_pos (by omega)] at D
        refine x_iconst (v := 0) rfl ki_0 ?_
        refine x_zret rfl rfl (by decide) ?_
        show jX m_X12_next 2 0 0 106 [(0, .ref 125)] [.int 0, .ref 125] _ 0 0 _
        refine x_ifeq (tgt := 113) rfl rfl (ti_eq jk_0 jk_0 (br_t (by omega) ?_))
        refine x_iconst (v := 3) rfl ki_3 ?_
        exact jX.sub (jsb_c rfl jsb_n) (ct_X12_next_r125d_500114 hD hQ  g2 g1 g2 h (jr_of rfl (by omega)) (jr_of rfl (by omega)) (jr_of rfl (by omega)) (by omega) (by omega) (jlw w2) (by omega) (by omega) (by omega) (by omega) (jml w2 (jmw w1)) (jml w2 (jmo w1 rfl z1)) (jml w2 (jmo w1 rfl z2)) J Sm D)
      ·
        rw [if_neg (by omega)] at D
        refine x_iloadn (x := v4) rfl rfl ?_
        refine x_bipush (v := 57) rfl kb_57 ?_
        refine x_icgt (tgt := 16) rfl rfl (ti_gt rfl jk_57 ⟨fun c7 => ?_, fun c7 => ?_⟩)
        ·
          rw [if_pos (by omega)] at D
          refine x_iconst (v := 0) rfl ki_0 ?_
          refine x_zret rfl rfl (by decide) ?_
          show jX m_X12_next 2 0 0 106 [(0, .ref 125)] [.int 0, .ref 125] _ 0 0 _
          refine x_ifeq (tgt := 113) rfl rfl (ti_eq jk_0 jk_0 (br_t (by omega) ?_))
          refine x_iconst (v := 3) rfl ki_3 ?_
          exact jX.sub (jsb_c rfl jsb_n) (ct_X12_next_r125d_500114 hD hQ  g2 g1 g2 h (jr_of rfl (by omega)) (jr_of rfl (by omega)) (jr_of rfl (by omega)) (by omega) (by omega) (jlw w2) (by omega) (by omega) (by omega) (by omega) (jml w2 (jmw w1)) (jml w2 (jmo w1 rfl z1)) (jml w2 (jmo w1 rfl z2)) J Sm D)
        ·
          rw [if_neg (by omega)] at D
          refine x_iconst (v := 1) rfl ki_1 ?_
          refine x_goto (tgt := 17) rfl rfl ?_
          refine x_zret rfl rfl (by decide) ?_
          show jX m_X12_next 2 0 0 106 [(0, .ref 125)] [.int 1, .ref 125] _ 0 0 _
          refine x_ifeq (tgt := 113) rfl rfl (ti_eq jk_1 jk_0 (br_f (by omega) ?_))
          refine x_iconst (v := 2) rfl ki_2 ?_
          refine x_goto (tgt := 114) rfl rfl ?_
          exact jX.sub (jsb_c rfl jsb_n) (ct_X12_next_r125d_400114 hD hQ  g2 g1 g2 h (jr_of rfl (by omega)) (jr_of rfl (by omega)) (jr_of rfl (by omega)) ⟨(by omega), (by rw [qv4]; omega), (by rw [qv4]; omega), (by omega)⟩ (jlw w2) (by omega) (by omega) (by omega) (by omega) (jml w2 (jmw w1)) (jml w2 (jmo w1 rfl z1)) (jml w2 (jmo w1 rfl z2)) J Sm D)
    ·
      rw [if_neg (by omega)] at D
      refine x_iloadn (x := v4) rfl rfl ?_
      refine x_bipush (v := 122) rfl kb_122 ?_
      refine x_icgt (tgt := 16) rfl rfl (ti_gt rfl jk_122 ⟨fun c8 => ?_, fun c8 => ?_⟩)
      ·
        rw [if_pos (by omega)] at D
        refine x_iconst (v := 0) rfl ki_0 ?_
        refine x_zret rfl rfl (by decide) ?_
        show jX m_X12_next 2 0 0 87 [(0, .ref 125)] [.int 0, .ref 125] _ 0 0 _
        refine x_ifeq (tgt := 94) rfl rfl (ti_eq jk_0 jk_0 (br_t (by omega) ?_))
        refine x_aloadn (x := 125) rfl rfl ?_
        refine z_getR (N := 92) (b := 131) 12 7 rfl f_12_29 rfl J rfl 16007 ⟨rfl, rfl⟩ rfl ?_
        refine x_aloadn (x := 125) rfl rfl ?_
        refine z_getM (N := 92) (v := g2) 12 9 rfl f_12_221 rfl J rfl (jml w2 (jmo w1 rfl z2)) ?_
        refine z_ialdM (N := 400) (v := v4) rfl J rfl rfl (by omega) qv4 ?_
        refine x_inst (N := m_X12_isDigit) (As := [.int v4]) (st := [.ref 125]) (dx9 := 1) (mc := 0) (ms := 0) (host := "") rfl t_X12_isDigit ⟨Or.inl q_12_232, s_X12_isDigit⟩ rfl (by decide) rfl rfl ⟨by decide, by decide⟩ (jC.of rfl k_X12_isDigit rfl ?_)
        show jX m_X12_isDigit 1 0 0 0 [(0, .int v4)] [] _ 0 0 _
        refine x_iloadn (x := v4) rfl rfl ?_
        refine x_bipush (v := 48) rfl kb_48 ?_
        refine x_iclt (tgt := 16) rfl rfl (ti_lt rfl jk_48 (br_f (by omega) ?_))
        refine x_iloadn (x := v4) rfl rfl ?_
        refine x_bipush (v := 57) rfl kb_57 ?_
        refine x_icgt (tgt := 16) rfl rfl (ti_gt rfl jk_57 (br_t (by omega) ?_))
        refine x_iconst (v := 0) rfl ki_0 ?_
        refine x_zret rfl rfl (by decide) ?_
        show jX m_X12_next 2 0 0 106 [(0, .ref 125)] [.int 0, .ref 125] _ 0 0 _
        refine x_ifeq (tgt := 113) rfl rfl (ti_eq jk_0 jk_0 (br_t (by omega) ?_))
        refine x_iconst (v := 3) rfl ki_3 ?_
        exact jX.sub (jsb_c rfl jsb_n) (ct_X12_next_r125d_500114 hD hQ  g2 g1 g2 h (jr_of rfl (by omega)) (jr_of rfl (by omega)) (jr_of rfl (by omega)) (by omega) (by omega) (jlw w2) (by omega) (by omega) (by omega) (by omega) (jml w2 (jmw w1)) (jml w2 (jmo w1 rfl z1)) (jml w2 (jmo w1 rfl z2)) J Sm D)
      ·
        rw [if_neg (by omega)] at D
        refine x_iconst (v := 1) rfl ki_1 ?_
        refine x_goto (tgt := 17) rfl rfl ?_
        refine x_zret rfl rfl (by decide) ?_
        show jX m_X12_next 2 0 0 87 [(0, .ref 125)] [.int 1, .ref 125] _ 0 0 _
        refine x_ifeq (tgt := 94) rfl rfl (ti_eq jk_1 jk_0 (br_f (by omega) ?_))
        refine x_iconst (v := 1) rfl ki_1 ?_
        refine x_goto (tgt := 114) rfl rfl ?_
        exact jX.sub (jsb_c rfl jsb_n) (ct_X12_next_r125d_300114 hD hQ  g2 g1 g2 h (jr_of rfl (by omega)) (jr_of rfl (by omega)) (jr_of rfl (by omega)) ⟨(by omega), (by rw [qv4]; omega), (by rw [qv4]; omega), (by omega)⟩ (jlw w2) (by omega) (by omega) (by omega) (by omega) (jml w2 (jmw w1)) (jml w2 (jmo w1 rfl z1)) (jml w2 (jmo w1 rfl z2)) J Sm D)
  ·
    rw [if_pos (by omega)] at D
    refine x_iconst (v := 0) rfl ki_0 ?_
    refine x_goto (tgt := 114) rfl rfl ?_
    exact jX.sub (jsb_c rfl jsb_n) (ct_X12_next_r125d_200114 hD hQ  g2 g1 g2 h (jr_of rfl (by omega)) (jr_of rfl (by omega)) (jr_of rfl (by omega)) (jlw w2) (by omega) (by omega) (by omega) (by omega) (jml w2 (jmw w1)) (jml w2 (jmo w1 rfl z1)) (jml w2 (jmo w1 rfl z2)) J Sm D)
set_option maxRecDepth 100000 in
set_option maxHeartbeats 4000000 in
theorem ct_X12_next_r125d_8 {Dy : jH → Prop} {h0 : jH} {Q : Option Value → jH → Prop} {dr : jW} (hD : jDk Dy) (hQ : ∀ hx9, jJ jSgM Dy hx9 → jSm fp_X12_next_r125d h0 hx9 → ∀ u0 u1 u2 : Int32, jiv hx9 125 10 = u0 → jiv hx9 125 8 = u1 → jiv hx9 125 9 = u2 → (u0.toInt ≤ u1.toInt ∧ u2.toInt ≤ u0.toInt) → ∀ u3 u4 u5 : Int32, jiv hx9 125 11 = u3 → jiv hx9 125 9 = u4 → jiv hx9 125 10 = u5 → (u3.toInt = 0 ∨ u4.toInt + 1 ≤ u5.toInt) → ((jiv h0 125 10).toInt ≤ (jiv hx9 125 9).toInt ∧ jWd hx9) → dr = vw hx9 → Q none hx9) : ∀ r : Nat, ∀ (g0 : Int32) (g1 : Int32) (g2 : Int32) (h : jH), 400 - g2.toInt < (r : Int) → 0 ≤ g0.toInt ∧ g0.toInt ≤ 400 → 0 ≤ g1.toInt ∧ g1.toInt ≤ 400 → 0 ≤ g2.toInt ∧ g2.toInt ≤ 400 → (jiv h0 125 10).toInt ≤ g2.toInt → g2.toInt - g1.toInt ≤ 0 → jiv h 125 10 = g0 → jiv h 125 8 = g1 → jiv h 125 9 = g2 → jJ jSgM Dy h → jSm fp_X12_next_r125d h0 h → d_X12_next_r125d_8 r (vw h) = dr → jX m_X12_next 2 0 0 8 [(0, .ref 125)] [] h 0 0 Q := by
  intro r
  induction r with
  | zero =>
    intro g0 g1 g2 h hm y0 y1 y2 y3 y4 z0 z1 z2  J Sm D
    exfalso
    omega
  | succ r ih =>
    intro g0 g1 g2 h hm y0 y1 y2 y3 y4 z0 z1 z2  J Sm D
    rw [d_X12_next_r125d_8.eq_2] at D
    try rw [vrf z0] at D
    try rw [vrf z1] at D
    try rw [vrf z2] at D
    refine x_aloadn (x := 125) rfl rfl ?_
    refine z_getM (N := 92) (v := g2) 12 9 rfl f_12_221 rfl J rfl z2 ?_
    refine x_aloadn (x := 125) rfl rfl ?_
    refine z_getM (N := 92) (v := g1) 12 8 rfl f_12_201 rfl J rfl z1 ?_
    refine x_icge (tgt := 46) rfl rfl (ti_ge rfl rfl ⟨fun c1 => ?_, fun c1 => ?_⟩)
    ·
      rw [if_pos (by omega)] at D
      exact jX.sub (jsb_c rfl jsb_n) (ct_X12_next_r125d_46 hD hQ  g0 g1 g2 h (jr_of rfl (by omega)) (jr_of rfl (by omega)) (jr_of rfl (by omega)) (by omega) (by omega) z0 z1 z2 J Sm D)
    ·
      rw [if_neg (by omega)] at D
      refine x_aloadn (x := 125) rfl rfl ?_
      refine z_getR (N := 92) (b := 131) 12 7 rfl f_12_29 rfl J rfl 16007 ⟨rfl, rfl⟩ rfl ?_
      refine x_aloadn (x := 125) rfl rfl ?_
      refine z_getM (N := 92) (v := g2) 12 9 rfl f_12_221 rfl J rfl z2 ?_
      refine z_iald (N := 400) rfl J rfl sg_131_0_400_1_0_1 rfl (by omega) (fun v2 qv2 ev2 => ?_)
      try rw [vrd qv2 (show g2.toInt = g2.toInt from by omega)] at D
      refine x_bipush (v := 32) rfl kb_32 ?_
      refine x_icne (tgt := 46) rfl rfl (ti_ne rfl jk_32 ⟨fun c3 => ?_, fun c3 => ?_⟩)
      ·
        rw [if_neg (by omega)] at D
        exact jX.sub (jsb_c rfl jsb_n) (ct_X12_next_r125d_46 hD hQ  g0 g1 g2 h (jr_of rfl (by omega)) (jr_of rfl (by omega)) (jr_of rfl (by omega)) (by omega) (by omega) z0 z1 z2 J Sm D)
      ·
        rw [if_pos (by omega)] at D
        refine x_aloadn (x := 125) rfl rfl ?_
        refine x_dup rfl rfl ?_
        refine z_getM (N := 92) (v := g2) 12 9 rfl f_12_221 rfl J rfl z2 ?_
        refine x_iconst (v := 1) rfl ki_1 ?_
        refine z_iadd rfl rfl jk_1 (by omega) (fun v4 ev4 => ?_)
        refine z_putI (N := 92) (w := v4.toInt) 12 9 rfl f_12_221 rfl (jfin_no TX12 RX12 92 rfl rfl) hD J Sm rfl rfl rfl (pw_125_9 (by omega)) rfl (fun h w5 J Sm => ?_)
        rw [vwf w5 (show (g2.toInt + 1) = v4.toInt from by omega)] at D
        refine x_goto (tgt := 8) rfl rfl ?_
        exact jX.sub (jsb_c rfl jsb_n) (ih g0 g1 v4 h (by omega) (jr_of rfl (by omega)) (jr_of rfl (by omega)) (jr_of rfl (by omega)) (by omega) (by omega) (jmo w5 rfl z0) (jmo w5 rfl z1) (jmw w5) J Sm D)
set_option maxRecDepth 100000 in
set_option maxHeartbeats 4000000 in
theorem sf_X12_next_r125d {Dy : jH → Prop} {h : jH} {Q : Option Value → jH → Prop} {dr : jW} (hD : jDk Dy) (J : jJ jSgM Dy h) {p0 p1 : Int32} (zp0 : jiv h 125 10 = p0) (zp1 : jiv h 125 8 = p1) (rl_p0 : p0.toInt ≤ p1.toInt) (D : d_X12_next_r125d (vw h) = dr) (hQ : ∀ hx9, jJ jSgM Dy hx9 → jSm fp_X12_next_r125d h hx9 → ∀ u0 u1 u2 : Int32, jiv hx9 125 10 = u0 → jiv hx9 125 8 = u1 → jiv hx9 125 9 = u2 → (u0.toInt ≤ u1.toInt ∧ u2.toInt ≤ u0.toInt) → ∀ u3 u4 u5 : Int32, jiv hx9 125 11 = u3 → jiv hx9 125 9 = u4 → jiv hx9 125 10 = u5 → (u3.toInt = 0 ∨ u4.toInt + 1 ≤ u5.toInt) → ((jiv h 125 10).toInt ≤ (jiv hx9 125 9).toInt ∧ jWd hx9) → dr = vw hx9 → Q none hx9) : jC m_X12_next 2 0 0 [.ref 125] h Q := by
  refine jC.of rfl k_X12_next rfl ?_
  have Sm := jSm_rf fp_X12_next_r125d h
  have ep0 := (show 0 ≤ p0.toInt ∧ p0.toInt ≤ 400 from zp0 ▸ jrg_f J sg_125_10_11_1_0_1)
  have ep1 := (show 0 ≤ p1.toInt ∧ p1.toInt ≤ 400 from zp1 ▸ jrg_f J sg_125_8_9_1_0_1)
  show jX m_X12_next 2 0 0 0 [(0, .ref 125)] [] _ 0 0 _
  unfold d_X12_next_r125d at D
  try rw [vrf zp0] at D
  try rw [vrf zp1] at D
  have zt := congrArg Int32.toInt zp0
  refine x_aloadn (x := 125) rfl rfl ?_
  refine x_aloadn (x := 125) rfl rfl ?_
  refine z_getM (N := 92) (v := p0) 12 10 rfl f_12_211 rfl J rfl zp0 ?_
  refine z_putI (N := 92) (w := p0.toInt) 12 9 rfl f_12_221 rfl (jfin_no TX12 RX12 92 rfl rfl) hD J Sm rfl rfl rfl (pw_125_9 (by omega)) rfl (fun h w1 J Sm => ?_)
  rw [vwf w1 (show p0.toInt = p0.toInt from by omega)] at D
  exact jX.sub (jsb_c rfl jsb_n) (ct_X12_next_r125d_8 hD hQ  401 p0 p1 p0 h (by omega) (jr_of rfl (by omega)) (jr_of rfl (by omega)) (jr_of rfl (by omega)) (by omega) (by omega) (jmo w1 rfl zp0) (jmo w1 rfl zp1) (jmw w1) J Sm D)
def fp_X12_settle_r125d : jFp := [(125, 49, 50), (125, 55, 56), (148, 0, 400), (149, 0, 400)]
set_option maxRecDepth 100000 in
set_option maxHeartbeats 4000000 in
theorem ct_X12_settle_r125d_101 {Dy : jH → Prop} {h0 : jH} {Q : Option Value → jH → Prop} {dr : jW} {a1 : Int32} (yy_a1 : 1 ≤ a1.toInt ∧ a1.toInt ≤ 6) {A : Nat} {K9 : Int} (hk : 0 ≤ K9) (hD : jDk Dy) (hQ : ∀ hx9, jJ jSgM Dy hx9 → jSm fp_X12_settle_r125d h0 hx9 → jSf K9 a1.toInt A h0 hx9 → dr = vw hx9 → Q none hx9) : ∀ (h : jH), jSf K9 a1.toInt A h0 h → jJ jSgM Dy h → jSm fp_X12_settle_r125d h0 h → d_X12_settle_r125d_101  (vw h) = dr → jX m_X12_settle 2 0 0 101 [] [] h 0 0 Q := by
  intro  h C0   J Sm D
  unfold d_X12_settle_r125d_101 at D
  refine x_vret rfl rfl ?_
  exact hQ _ J Sm C0 D.symm
set_option maxRecDepth 100000 in
set_option maxHeartbeats 4000000 in
theorem ct_X12_settle_r125d_63 {Dy : jH → Prop} {h0 : jH} {Q : Option Value → jH → Prop} {dr : jW} {K0 : Int → jW → jW} {R0 : Int} {a1 : Int32} (yy_a1 : 1 ≤ a1.toInt ∧ a1.toInt ≤ 6) {A : Nat} {K9 : Int} (hk : 0 ≤ K9) (hD : jDk Dy) (hQ : ∀ hx9, jJ jSgM Dy hx9 → jSm fp_X12_settle_r125d h0 hx9 → jSf K9 a1.toInt A h0 hx9 → dr = vw hx9 → Q none hx9) (k0 : ∀ (g0 : Int32) (g1 : Int32) (h : jH), g1.toInt - 0 < R0 → 0 ≤ g0.toInt ∧ g0.toInt ≤ 400 → 0 ≤ g1.toInt ∧ g1.toInt ≤ 400 → jSe K9 a1.toInt A h0 h → jiv h 125 49 = g0 → jiv h 125 55 = g1 → jJ jSgM Dy h → jSm fp_X12_settle_r125d h0 h → K0 a1.toInt (vw h) = dr → jX m_X12_settle 2 0 0 0 [(0, .ref 125), (1, .int a1)] [] h 0 0 Q) : ∀ (g0 : Int32) (g1 : Int32) (h : jH), 0 ≤ g0.toInt ∧ g0.toInt ≤ 400 → 0 ≤ g1.toInt ∧ g1.toInt ≤ 399 → jS63 K9 a1.toInt A h0 h → jiv h 125 49 = g0 → jiv h 125 55 = g1 → g1.toInt - 0 < R0 → jJ jSgM Dy h → jSm fp_X12_settle_r125d h0 h → d_X12_settle_r125d_63 K0  a1.toInt (vw h) = dr → jX m_X12_settle 2 0 0 63 [(0, .ref 125), (1, .int a1)] [] h 0 0 Q := by
  intro g0 g1 h y0 y1 C0 z0 z1 m0 J Sm D
  unfold d_X12_settle_r125d_63 at D
  try rw [vrf z0] at D
  try rw [vrf z1] at D
  refine x_aloadn (x := 125) rfl rfl ?_
  refine z_getR (N := 92) (b := 149) 12 51 rfl f_12_102 rfl J rfl 16051 ⟨rfl, rfl⟩ rfl ?_
  refine x_aloadn (x := 125) rfl rfl ?_
  refine z_getR (N := 92) (b := 151) 12 54 rfl f_12_108 rfl J rfl 16054 ⟨rfl, rfl⟩ rfl ?_
  refine x_aloadn (x := 125) rfl rfl ?_
  refine z_getM (N := 92) (v := g1) 12 55 rfl f_12_496 rfl J rfl z1 ?_
  refine z_iald0 (N := 400) rfl J rfl rfl (by omega) (fun v1 qv1 => ?_)
  have ev1 := jfull v1
  try rw [vrd qv1 (show g1.toInt = g1.toInt from by omega)] at D
  have tx := jse_63t C0 z1 qv1
  refine x_aloadn (x := 125) rfl rfl ?_
  refine z_getM (N := 92) (v := g0) 12 49 rfl f_12_493 rfl J rfl z0 ?_
  refine z_iast (N := 400) (l := 0) (u := 400) (w := g0.toInt) rfl hD J Sm rfl rfl rfl (by omega) rfl (wr_149) rfl (fun h w2 J Sm => ?_)
  rw [vww w2 (show v1.toInt = v1.toInt from by omega) (show g0.toInt = g0.toInt from by omega)] at D
  refine x_goto (tgt := 0) rfl rfl ?_
  exact jX.sub (jsb_c rfl (jsb_c rfl jsb_n)) (k0 g0 g1 h (by omega) (jr_of rfl (by omega)) (jr_of rfl (by omega)) (jse_63 C0 z1 qv1 z0 w2) (jmo w2 rfl z0) (jmo w2 rfl z1) J Sm D)
set_option maxRecDepth 100000 in
set_option maxHeartbeats 4000000 in
theorem ct_X12_settle_r125d_0 {Dy : jH → Prop} {h0 : jH} {Q : Option Value → jH → Prop} {dr : jW} {a1 : Int32} (yy_a1 : 1 ≤ a1.toInt ∧ a1.toInt ≤ 6) {A : Nat} {K9 : Int} (hk : 0 ≤ K9) (hD : jDk Dy) (hQ : ∀ hx9, jJ jSgM Dy hx9 → jSm fp_X12_settle_r125d h0 hx9 → jSf K9 a1.toInt A h0 hx9 → dr = vw hx9 → Q none hx9) : ∀ r : Nat, ∀ (g0 : Int32) (g1 : Int32) (h : jH), g1.toInt - 0 < (r : Int) → 0 ≤ g0.toInt ∧ g0.toInt ≤ 400 → 0 ≤ g1.toInt ∧ g1.toInt ≤ 400 → jSe K9 a1.toInt A h0 h → jiv h 125 49 = g0 → jiv h 125 55 = g1 → jJ jSgM Dy h → jSm fp_X12_settle_r125d h0 h → d_X12_settle_r125d_0 r a1.toInt (vw h) = dr → jX m_X12_settle 2 0 0 0 [(0, .ref 125), (1, .int a1)] [] h 0 0 Q := by
  intro r
  induction r with
  | zero =>
    intro g0 g1 h hm y0 y1 C0 z0 z1  J Sm D
    exfalso
    omega
  | succ r ih =>
    intro g0 g1 h hm y0 y1 C0 z0 z1  J Sm D
    rw [d_X12_settle_r125d_0.eq_2] at D
    try rw [vrf z0] at D
    try rw [vrf z1] at D
    refine x_aloadn (x := 125) rfl rfl ?_
    refine z_getM (N := 92) (v := g1) 12 55 rfl f_12_496 rfl J rfl z1 ?_
    refine x_ifle (tgt := 101) rfl rfl (ti_le rfl jk_0 ⟨fun c1 => ?_, fun c1 => ?_⟩)
    ·
      rw [if_pos (by omega)] at D
      exact jX.sub jsb_n (ct_X12_settle_r125d_101 yy_a1 hk hD hQ  h (jsf_0 C0 z1 (by omega)) J Sm D)
    ·
      rw [if_neg (by omega)] at D
      refine x_aloadn (x := 125) rfl rfl ?_
      refine z_getR (N := 92) (b := 150) 12 53 rfl f_12_105 rfl J rfl 16053 ⟨rfl, rfl⟩ rfl ?_
      refine x_aloadn (x := 125) rfl rfl ?_
      refine z_getM (N := 92) (v := g1) 12 55 rfl f_12_496 rfl J rfl z1 ?_
      refine x_iconst (v := 1) rfl ki_1 ?_
      refine z_isub rfl rfl jk_1 (by omega) (fun v2 ev2 => ?_)
      refine z_iald0 (N := 400) rfl J rfl rfl (by omega) (fun v3 qv3 => ?_)
      have ev3 := jfull v3
      try rw [vrd qv3 (show (g1.toInt - 1) = v2.toInt from by omega)] at D
      refine x_inst (N := m_X12_binds) (As := [.int v3]) (st := []) (dx9 := 1) (mc := 0) (ms := 0) (host := "") rfl t_X12_binds ⟨Or.inl q_12_499, s_X12_binds⟩ rfl (by decide) rfl rfl ⟨by decide, by decide⟩ (jC.of rfl k_X12_binds rfl ?_)
      show jX m_X12_binds 1 0 0 0 [(0, .int v3)] [] _ 0 0 _
      refine x_iloadn (x := v3) rfl rfl ?_
      refine x_bipush (v := 30) rfl kb_30 ?_
      refine x_iclt (tgt := 10) rfl rfl (ti_lt rfl jk_30 ⟨fun c4 => ?_, fun c4 => ?_⟩)
      ·
        rw [if_pos (by omega)] at D
        refine x_iloadn (x := v3) rfl rfl ?_
        refine x_bipush (v := 20) rfl kb_20 ?_
        refine x_icne (tgt := 20) rfl rfl (ti_ne rfl jk_20 ⟨fun c5 => ?_, fun c5 => ?_⟩)
        ·
          rw [if_neg (by omega)] at D
          refine x_iloadn (x := v3) rfl rfl ?_
          refine x_bipush (v := 19) rfl kb_19 ?_
          refine x_icne (tgt := 30) rfl rfl (ti_ne rfl jk_19 ⟨fun c6 => ?_, fun c6 => ?_⟩)
          ·
            rw [if_neg (by omega)] at D
            refine x_iloadn (x := v3) rfl rfl ?_
            refine x_bipush (v := 18) rfl kb_18 ?_
            refine x_icne (tgt := 40) rfl rfl (ti_ne rfl jk_18 ⟨fun c7 => ?_, fun c7 => ?_⟩)
            ·
              rw [if_neg (by omega)] at D
              refine x_iloadn (x := v3) rfl rfl ?_
              refine x_bipush (v := 10) rfl kb_10 ?_
              refine x_iclt (tgt := 50) rfl rfl (ti_lt rfl jk_10 ⟨fun c8 => ?_, fun c8 => ?_⟩)
              ·
                rw [if_pos (by omega)] at D
                refine x_iloadn (x := v3) rfl rfl ?_
                refine x_bipush (v := 8) rfl kb_8 ?_
                refine x_iclt (tgt := 61) rfl rfl (ti_lt rfl jk_8 ⟨fun c9 => ?_, fun c9 => ?_⟩)
                ·
                  rw [if_pos (by omega)] at D
                  refine x_iconst (v := 5) rfl ki_5 ?_
                  refine x_iret rfl rfl ?_
                  show jX m_X12_settle 2 0 0 21 [(0, .ref 125), (1, .int a1)] [.int 5] _ 0 0 _
                  refine x_iloadn (x := a1) rfl rfl ?_
                  refine x_iclt (tgt := 101) rfl rfl (ti_lt jk_5 rfl ⟨fun c10 => ?_, fun c10 => ?_⟩)
                  ·
                    rw [if_pos (by omega)] at D
                    exact jX.sub jsb_n (ct_X12_settle_r125d_101 yy_a1 hk hD hQ  h (jsf_1 C0 z1 (by omega) (by omega) qv3 (by have := jbd_all v3.toInt; omega)) J Sm D)
                  ·
                    rw [if_neg (by omega)] at D
                    have J9 := J
                    refine x_aloadn (x := 125) rfl rfl ?_
                    refine x_dup rfl rfl ?_
                    refine z_getM (N := 92) (v := g1) 12 55 rfl f_12_496 rfl J rfl z1 ?_
                    refine x_iconst (v := 1) rfl ki_1 ?_
                    refine z_isub rfl rfl jk_1 (by omega) (fun v11 ev11 => ?_)
                    refine z_putI (N := 92) (w := v11.toInt) 12 55 rfl f_12_496 rfl (jfin_no TX12 RX12 92 rfl rfl) hD J Sm rfl rfl rfl (pw_125_55 (by omega)) rfl (fun h w12 J Sm => ?_)
                    rw [vwf w12 (show (g1.toInt - 1) = v11.toInt from by omega)] at D
                    refine x_aloadn (x := 125) rfl rfl ?_
                    refine z_getR (N := 92) (b := 150) 12 53 rfl f_12_105 rfl J rfl 16053 ⟨rfl, rfl⟩ rfl ?_
                    refine x_aloadn (x := 125) rfl rfl ?_
                    refine z_getM (N := 92) (v := v11) 12 55 rfl f_12_496 rfl J rfl (jmw w12) ?_
                    refine z_iald0 (N := 400) rfl J rfl rfl (by omega) (fun v13 qv13 => ?_)
                    have ev13 := jfull v13
                    try rw [show v3.toInt = v13.toInt from ((vrd qv3 (show (g1.toInt - 1) = v2.toInt from by omega)).symm.trans (vrd (jmb_w w12 qv13 rfl) (show (g1.toInt - 1) = v11.toInt from by omega)))] at D
                    try rw [vrd (jmb_w w12 qv13 rfl) (show (g1.toInt - 1) = v11.toInt from by omega)] at D
                    have xe := jidx (by omega) ((jmo w12 rfl rfl).symm.trans qv13) qv3
                    refine x_bipush (v := 19) rfl kb_19 ?_
                    refine x_iceq (tgt := 63) rfl rfl (ti_eq rfl jk_19 ⟨fun c14 => ?_, fun c14 => ?_⟩)
                    ·
                      rw [if_pos (by omega)] at D
                      exact jX.sub (jsb_c rfl (jsb_c rfl jsb_n)) (ct_X12_settle_r125d_63 yy_a1 hk hD hQ ih g0 v11 h (jr_of rfl (by omega)) (jr_of rfl (by omega)) ⟨_, _, _, v13, C0, z1, (by omega), w12, (by omega), ((jmo w12 rfl rfl).symm.trans qv13), (by unfold jAo_; omega), (by have := jbd_all v13.toInt; omega)⟩ (jmo w12 rfl z0) (jmw w12) (by omega) J Sm D)
                    ·
                      rw [if_neg (by omega)] at D
                      refine x_aloadn (x := 125) rfl rfl ?_
                      refine z_getR (N := 92) (b := 150) 12 53 rfl f_12_105 rfl J rfl 16053 ⟨rfl, rfl⟩ rfl ?_
                      refine x_aloadn (x := 125) rfl rfl ?_
                      refine z_getM (N := 92) (v := v11) 12 55 rfl f_12_496 rfl J rfl (jmw w12) ?_
                      refine z_ialdM (N := 400) (v := v13) rfl J rfl rfl (by omega) qv13 ?_
                      refine x_bipush (v := 20) rfl kb_20 ?_
                      refine x_icne (tgt := 84) rfl rfl (ti_ne rfl jk_20 ⟨fun c15 => ?_, fun c15 => ?_⟩)
                      ·
                        rw [if_neg (by omega)] at D
                        have cx := jse_c C0 z1 (by omega) (u := v11) (by omega) ((jmo w12 rfl rfl).symm.trans qv13) (by omega) z0 (by have := jrg_f J9 sg_125_9_10_1_0_1; omega) hk
                        refine x_aloadn (x := 125) rfl rfl ?_
                        refine x_aloadn (x := 125) rfl rfl ?_
                        refine z_getR (N := 92) (b := 150) 12 53 rfl f_12_105 rfl J rfl 16053 ⟨rfl, rfl⟩ rfl ?_
                        refine x_aloadn (x := 125) rfl rfl ?_
                        refine z_getM (N := 92) (v := v11) 12 55 rfl f_12_496 rfl J rfl (jmw w12) ?_
                        refine z_ialdM (N := 400) (v := v13) rfl J rfl rfl (by omega) qv13 ?_
                        refine x_iconst (v := 0) rfl ki_0 ?_
                        refine x_inv (N := m_X12_emit) (As := [.int v13, .int 0]) (b := 125) (st := []) (dx9 := 1) (mc := 0) (ms := 0) (host := "") 12 rfl t_X12_emit ⟨Or.inl q_12_502, i_X12_emit.1, i_X12_emit.2⟩ ⟨by decide, rfl⟩ (congrArg Prod.fst (J.1.1 125 (12, 92) rfl)) rfl (by decide) rfl rfl ⟨by decide, by decide⟩ (jC.of rfl k_X12_emit rfl ?_)
                        show jX m_X12_emit 1 0 0 0 [(0, .ref 125), (1, .int v13), (2, .int 0)] [] _ 0 0 _
                        refine x_aloadn (x := 125) rfl rfl ?_
                        refine z_getR (N := 92) (b := 148) 12 50 rfl f_12_99 rfl J rfl 16050 ⟨rfl, rfl⟩ rfl ?_
                        refine x_aloadn (x := 125) rfl rfl ?_
                        refine z_getM (N := 92) (v := g0) 12 49 rfl f_12_493 rfl J rfl (jmo w12 rfl z0) ?_
                        refine x_iloadn (x := v13) rfl rfl ?_
                        refine z_iast (N := 400) (l := 0) (u := 400) (w := v13.toInt) rfl hD J Sm rfl rfl rfl (by omega) rfl (wr_148) rfl (fun h w16 J Sm => ?_)
                        rw [vww w16 (show g0.toInt = g0.toInt from by omega) (show v13.toInt = v13.toInt from by omega)] at D
                        refine x_aloadn (x := 125) rfl rfl ?_
                        refine z_getR (N := 92) (b := 149) 12 51 rfl f_12_102 rfl J rfl 16051 ⟨rfl, rfl⟩ rfl ?_
                        refine x_aloadn (x := 125) rfl rfl ?_
                        refine z_getM (N := 92) (v := g0) 12 49 rfl f_12_493 rfl J rfl (jmo w16 rfl (jmo w12 rfl z0)) ?_
                        refine x_iloadn (x := 0) rfl rfl ?_
                        refine z_iast (N := 400) (l := 0) (u := 400) (w := 0) rfl hD J Sm rfl rfl rfl (by omega) jk_0 (wr_149) rfl (fun h w17 J Sm => ?_)
                        rw [vww w17 (show g0.toInt = g0.toInt from by omega) (show 0 = (0 : Int32).toInt from by have := jk_0; omega)] at D
                        refine x_aloadn (x := 125) rfl rfl ?_
                        refine x_dup rfl rfl ?_
                        refine z_getM (N := 92) (v := g0) 12 49 rfl f_12_493 rfl J rfl (jmo w17 rfl (jmo w16 rfl (jmo w12 rfl z0))) ?_
                        refine x_iconst (v := 1) rfl ki_1 ?_
                        refine z_iadd rfl rfl jk_1 (by omega) (fun v18 ev18 => ?_)
                        refine z_putI (N := 92) (w := v18.toInt) 12 49 rfl f_12_493 rfl (jfin_no TX12 RX12 92 rfl rfl) hD J Sm rfl rfl rfl (pw_125_49 (by omega)) rfl (fun h w19 J Sm => ?_)
                        rw [vwf w19 (show (g0.toInt + 1) = v18.toInt from by omega)] at D
                        refine x_vret rfl rfl ?_
                        show jX m_X12_settle 2 0 0 98 [(0, .ref 125), (1, .int a1)] [] _ 0 0 _
                        refine x_goto (tgt := 0) rfl rfl ?_
                        exact jX.sub (jsb_c rfl (jsb_c rfl jsb_n)) (ih v18 v11 h (by omega) (jr_of rfl (by omega)) (jr_of rfl (by omega)) (jse_op C0 z1 (by omega) w12 (by omega) ((jmo w12 rfl rfl).symm.trans qv13) (by omega) (by omega) (by have := jbd_all v13.toInt; omega) z0 w16 w17 w19 (by omega)) (jmw w19) (jmo w19 rfl (jmo w17 rfl (jmo w16 rfl (jmw w12)))) J Sm D)
                      ·
                        rw [if_pos (by omega)] at D
                        exact jX.sub (jsb_c rfl (jsb_c rfl jsb_n)) (ct_X12_settle_r125d_63 yy_a1 hk hD hQ ih g0 v11 h (jr_of rfl (by omega)) (jr_of rfl (by omega)) ⟨_, _, _, v13, C0, z1, (by omega), w12, (by omega), ((jmo w12 rfl rfl).symm.trans qv13), (by unfold jAo_; omega), (by have := jbd_all v13.toInt; omega)⟩ (jmo w12 rfl z0) (jmw w12) (by omega) J Sm D)
                ·
                  rw [if_neg (by omega)] at D
                  refine x_bipush (v := 6) rfl kb_6 ?_
                  refine x_goto (tgt := 62) rfl rfl ?_
                  refine x_iret rfl rfl ?_
                  show jX m_X12_settle 2 0 0 21 [(0, .ref 125), (1, .int a1)] [.int 6] _ 0 0 _
                  refine x_iloadn (x := a1) rfl rfl ?_
                  refine x_iclt (tgt := 101) rfl rfl (ti_lt jk_6 rfl (br_f (by omega) ?_))
                  have J9 := J
                  refine x_aloadn (x := 125) rfl rfl ?_
                  refine x_dup rfl rfl ?_
                  refine z_getM (N := 92) (v := g1) 12 55 rfl f_12_496 rfl J rfl z1 ?_
                  refine x_iconst (v := 1) rfl ki_1 ?_
                  refine z_isub rfl rfl jk_1 (by omega) (fun v20 ev20 => ?_)
                  refine z_putI (N := 92) (w := v20.toInt) 12 55 rfl f_12_496 rfl (jfin_no TX12 RX12 92 rfl rfl) hD J Sm rfl rfl rfl (pw_125_55 (by omega)) rfl (fun h w21 J Sm => ?_)
                  rw [vwf w21 (show (g1.toInt - 1) = v20.toInt from by omega)] at D
                  refine x_aloadn (x := 125) rfl rfl ?_
                  refine z_getR (N := 92) (b := 150) 12 53 rfl f_12_105 rfl J rfl 16053 ⟨rfl, rfl⟩ rfl ?_
                  refine x_aloadn (x := 125) rfl rfl ?_
                  refine z_getM (N := 92) (v := v20) 12 55 rfl f_12_496 rfl J rfl (jmw w21) ?_
                  refine z_iald0 (N := 400) rfl J rfl rfl (by omega) (fun v22 qv22 => ?_)
                  have ev22 := jfull v22
                  try rw [show v3.toInt = v22.toInt from ((vrd qv3 (show (g1.toInt - 1) = v2.toInt from by omega)).symm.trans (vrd (jmb_w w21 qv22 rfl) (show (g1.toInt - 1) = v20.toInt from by omega)))] at D
                  try rw [vrd (jmb_w w21 qv22 rfl) (show (g1.toInt - 1) = v20.toInt from by omega)] at D
                  have xe := jidx (by omega) ((jmo w21 rfl rfl).symm.trans qv22) qv3
                  refine x_bipush (v := 19) rfl kb_19 ?_
                  refine x_iceq (tgt := 63) rfl rfl (ti_eq rfl jk_19 ⟨fun c23 => ?_, fun c23 => ?_⟩)
                  ·
                    rw [if_pos (by omega)] at D
                    exact jX.sub (jsb_c rfl (jsb_c rfl jsb_n)) (ct_X12_settle_r125d_63 yy_a1 hk hD hQ ih g0 v20 h (jr_of rfl (by omega)) (jr_of rfl (by omega)) ⟨_, _, _, v22, C0, z1, (by omega), w21, (by omega), ((jmo w21 rfl rfl).symm.trans qv22), (by unfold jAo_; omega), (by have := jbd_all v22.toInt; omega)⟩ (jmo w21 rfl z0) (jmw w21) (by omega) J Sm D)
                  ·
                    rw [if_neg (by omega)] at D
                    refine x_aloadn (x := 125) rfl rfl ?_
                    refine z_getR (N := 92) (b := 150) 12 53 rfl f_12_105 rfl J rfl 16053 ⟨rfl, rfl⟩ rfl ?_
                    refine x_aloadn (x := 125) rfl rfl ?_
                    refine z_getM (N := 92) (v := v20) 12 55 rfl f_12_496 rfl J rfl (jmw w21) ?_
                    refine z_ialdM (N := 400) (v := v22) rfl J rfl rfl (by omega) qv22 ?_
                    refine x_bipush (v := 20) rfl kb_20 ?_
                    refine x_icne (tgt := 84) rfl rfl (ti_ne rfl jk_20 ⟨fun c24 => ?_, fun c24 => ?_⟩)
                    ·
                      rw [if_neg (by omega)] at D
                      have cx := jse_c C0 z1 (by omega) (u := v20) (by omega) ((jmo w21 rfl rfl).symm.trans qv22) (by omega) z0 (by have := jrg_f J9 sg_125_9_10_1_0_1; omega) hk
                      refine x_aloadn (x := 125) rfl rfl ?_
                      refine x_aloadn (x := 125) rfl rfl ?_
                      refine z_getR (N := 92) (b := 150) 12 53 rfl f_12_105 rfl J rfl 16053 ⟨rfl, rfl⟩ rfl ?_
                      refine x_aloadn (x := 125) rfl rfl ?_
                      refine z_getM (N := 92) (v := v20) 12 55 rfl f_12_496 rfl J rfl (jmw w21) ?_
                      refine z_ialdM (N := 400) (v := v22) rfl J rfl rfl (by omega) qv22 ?_
                      refine x_iconst (v := 0) rfl ki_0 ?_
                      refine x_inv (N := m_X12_emit) (As := [.int v22, .int 0]) (b := 125) (st := []) (dx9 := 1) (mc := 0) (ms := 0) (host := "") 12 rfl t_X12_emit ⟨Or.inl q_12_502, i_X12_emit.1, i_X12_emit.2⟩ ⟨by decide, rfl⟩ (congrArg Prod.fst (J.1.1 125 (12, 92) rfl)) rfl (by decide) rfl rfl ⟨by decide, by decide⟩ (jC.of rfl k_X12_emit rfl ?_)
                      show jX m_X12_emit 1 0 0 0 [(0, .ref 125), (1, .int v22), (2, .int 0)] [] _ 0 0 _
                      refine x_aloadn (x := 125) rfl rfl ?_
                      refine z_getR (N := 92) (b := 148) 12 50 rfl f_12_99 rfl J rfl 16050 ⟨rfl, rfl⟩ rfl ?_
                      refine x_aloadn (x := 125) rfl rfl ?_
                      refine z_getM (N := 92) (v := g0) 12 49 rfl f_12_493 rfl J rfl (jmo w21 rfl z0) ?_
                      refine x_iloadn (x := v22) rfl rfl ?_
                      refine z_iast (N := 400) (l := 0) (u := 400) (w := v22.toInt) rfl hD J Sm rfl rfl rfl (by omega) rfl (wr_148) rfl (fun h w25 J Sm => ?_)
                      rw [vww w25 (show g0.toInt = g0.toInt from by omega) (show v22.toInt = v22.toInt from by omega)] at D
                      refine x_aloadn (x := 125) rfl rfl ?_
                      refine z_getR (N := 92) (b := 149) 12 51 rfl f_12_102 rfl J rfl 16051 ⟨rfl, rfl⟩ rfl ?_
                      refine x_aloadn (x := 125) rfl rfl ?_
                      refine z_getM (N := 92) (v := g0) 12 49 rfl f_12_493 rfl J rfl (jmo w25 rfl (jmo w21 rfl z0)) ?_
                      refine x_iloadn (x := 0) rfl rfl ?_
                      refine z_iast (N := 400) (l := 0) (u := 400) (w := 0) rfl hD J Sm rfl rfl rfl (by omega) jk_0 (wr_149) rfl (fun h w26 J Sm => ?_)
                      rw [vww w26 (show g0.toInt = g0.toInt from by omega) (show 0 = (0 : Int32).toInt from by have := jk_0; omega)] at D
                      refine x_aloadn (x := 125) rfl rfl ?_
                      refine x_dup rfl rfl ?_
                      refine z_getM (N := 92) (v := g0) 12 49 rfl f_12_493 rfl J rfl (jmo w26 rfl (jmo w25 rfl (jmo w21 rfl z0))) ?_
                      refine x_iconst (v := 1) rfl ki_1 ?_
                      refine z_iadd rfl rfl jk_1 (by omega) (fun v27 ev27 => ?_)
                      refine z_putI (N := 92) (w := v27.toInt) 12 49 rfl f_12_493 rfl (jfin_no TX12 RX12 92 rfl rfl) hD J Sm rfl rfl rfl (pw_125_49 (by omega)) rfl (fun h w28 J Sm => ?_)
                      rw [vwf w28 (show (g0.toInt + 1) = v27.toInt from by omega)] at D
                      refine x_vret rfl rfl ?_
                      show jX m_X12_settle 2 0 0 98 [(0, .ref 125), (1, .int a1)] [] _ 0 0 _
                      refine x_goto (tgt := 0) rfl rfl ?_
                      exact jX.sub (jsb_c rfl (jsb_c rfl jsb_n)) (ih v27 v20 h (by omega) (jr_of rfl (by omega)) (jr_of rfl (by omega)) (jse_op C0 z1 (by omega) w21 (by omega) ((jmo w21 rfl rfl).symm.trans qv22) (by omega) (by omega) (by have := jbd_all v22.toInt; omega) z0 w25 w26 w28 (by omega)) (jmw w28) (jmo w28 rfl (jmo w26 rfl (jmo w25 rfl (jmw w21)))) J Sm D)
                    ·
                      rw [if_pos (by omega)] at D
                      exact jX.sub (jsb_c rfl (jsb_c rfl jsb_n)) (ct_X12_settle_r125d_63 yy_a1 hk hD hQ ih g0 v20 h (jr_of rfl (by omega)) (jr_of rfl (by omega)) ⟨_, _, _, v22, C0, z1, (by omega), w21, (by omega), ((jmo w21 rfl rfl).symm.trans qv22), (by unfold jAo_; omega), (by have := jbd_all v22.toInt; omega)⟩ (jmo w21 rfl z0) (jmw w21) (by omega) J Sm D)
              ·
                rw [if_neg (by omega)] at D
                refine x_iconst (v := 4) rfl ki_4 ?_
                refine x_goto (tgt := 62) rfl rfl ?_
                refine x_iret rfl rfl ?_
                show jX m_X12_settle 2 0 0 21 [(0, .ref 125), (1, .int a1)] [.int 4] _ 0 0 _
                refine x_iloadn (x := a1) rfl rfl ?_
                refine x_iclt (tgt := 101) rfl rfl (ti_lt jk_4 rfl ⟨fun c29 => ?_, fun c29 => ?_⟩)
                ·
                  rw [if_pos (by omega)] at D
                  exact jX.sub jsb_n (ct_X12_settle_r125d_101 yy_a1 hk hD hQ  h (jsf_1 C0 z1 (by omega) (by omega) qv3 (by have := jbd_all v3.toInt; omega)) J Sm D)
                ·
                  rw [if_neg (by omega)] at D
                  have J9 := J
                  refine x_aloadn (x := 125) rfl rfl ?_
                  refine x_dup rfl rfl ?_
                  refine z_getM (N := 92) (v := g1) 12 55 rfl f_12_496 rfl J rfl z1 ?_
                  refine x_iconst (v := 1) rfl ki_1 ?_
                  refine z_isub rfl rfl jk_1 (by omega) (fun v30 ev30 => ?_)
                  refine z_putI (N := 92) (w := v30.toInt) 12 55 rfl f_12_496 rfl (jfin_no TX12 RX12 92 rfl rfl) hD J Sm rfl rfl rfl (pw_125_55 (by omega)) rfl (fun h w31 J Sm => ?_)
                  rw [vwf w31 (show (g1.toInt - 1) = v30.toInt from by omega)] at D
                  refine x_aloadn (x := 125) rfl rfl ?_
                  refine z_getR (N := 92) (b := 150) 12 53 rfl f_12_105 rfl J rfl 16053 ⟨rfl, rfl⟩ rfl ?_
                  refine x_aloadn (x := 125) rfl rfl ?_
                  refine z_getM (N := 92) (v := v30) 12 55 rfl f_12_496 rfl J rfl (jmw w31) ?_
                  refine z_iald0 (N := 400) rfl J rfl rfl (by omega) (fun v32 qv32 => ?_)
                  have ev32 := jfull v32
                  try rw [show v3.toInt = v32.toInt from ((vrd qv3 (show (g1.toInt - 1) = v2.toInt from by omega)).symm.trans (vrd (jmb_w w31 qv32 rfl) (show (g1.toInt - 1) = v30.toInt from by omega)))] at D
                  try rw [vrd (jmb_w w31 qv32 rfl) (show (g1.toInt - 1) = v30.toInt from by omega)] at D
                  have xe := jidx (by omega) ((jmo w31 rfl rfl).symm.trans qv32) qv3
                  refine x_bipush (v := 19) rfl kb_19 ?_
                  refine x_iceq (tgt := 63) rfl rfl (ti_eq rfl jk_19 ⟨fun c33 => ?_, fun c33 => ?_⟩)
                  ·
                    rw [if_pos (by omega)] at D
                    exact jX.sub (jsb_c rfl (jsb_c rfl jsb_n)) (ct_X12_settle_r125d_63 yy_a1 hk hD hQ ih g0 v30 h (jr_of rfl (by omega)) (jr_of rfl (by omega)) ⟨_, _, _, v32, C0, z1, (by omega), w31, (by omega), ((jmo w31 rfl rfl).symm.trans qv32), (by unfold jAo_; omega), (by have := jbd_all v32.toInt; omega)⟩ (jmo w31 rfl z0) (jmw w31) (by omega) J Sm D)
                  ·
                    rw [if_neg (by omega)] at D
                    refine x_aloadn (x := 125) rfl rfl ?_
                    refine z_getR (N := 92) (b := 150) 12 53 rfl f_12_105 rfl J rfl 16053 ⟨rfl, rfl⟩ rfl ?_
                    refine x_aloadn (x := 125) rfl rfl ?_
                    refine z_getM (N := 92) (v := v30) 12 55 rfl f_12_496 rfl J rfl (jmw w31) ?_
                    refine z_ialdM (N := 400) (v := v32) rfl J rfl rfl (by omega) qv32 ?_
                    refine x_bipush (v := 20) rfl kb_20 ?_
                    refine x_icne (tgt := 84) rfl rfl (ti_ne rfl jk_20 ⟨fun c34 => ?_, fun c34 => ?_⟩)
                    ·
                      rw [if_neg (by omega)] at D
                      have cx := jse_c C0 z1 (by omega) (u := v30) (by omega) ((jmo w31 rfl rfl).symm.trans qv32) (by omega) z0 (by have := jrg_f J9 sg_125_9_10_1_0_1; omega) hk
                      refine x_aloadn (x := 125) rfl rfl ?_
                      refine x_aloadn (x := 125) rfl rfl ?_
                      refine z_getR (N := 92) (b := 150) 12 53 rfl f_12_105 rfl J rfl 16053 ⟨rfl, rfl⟩ rfl ?_
                      refine x_aloadn (x := 125) rfl rfl ?_
                      refine z_getM (N := 92) (v := v30) 12 55 rfl f_12_496 rfl J rfl (jmw w31) ?_
                      refine z_ialdM (N := 400) (v := v32) rfl J rfl rfl (by omega) qv32 ?_
                      refine x_iconst (v := 0) rfl ki_0 ?_
                      refine x_inv (N := m_X12_emit) (As := [.int v32, .int 0]) (b := 125) (st := []) (dx9 := 1) (mc := 0) (ms := 0) (host := "") 12 rfl t_X12_emit ⟨Or.inl q_12_502, i_X12_emit.1, i_X12_emit.2⟩ ⟨by decide, rfl⟩ (congrArg Prod.fst (J.1.1 125 (12, 92) rfl)) rfl (by decide) rfl rfl ⟨by decide, by decide⟩ (jC.of rfl k_X12_emit rfl ?_)
                      show jX m_X12_emit 1 0 0 0 [(0, .ref 125), (1, .int v32), (2, .int 0)] [] _ 0 0 _
                      refine x_aloadn (x := 125) rfl rfl ?_
                      refine z_getR (N := 92) (b := 148) 12 50 rfl f_12_99 rfl J rfl 16050 ⟨rfl, rfl⟩ rfl ?_
                      refine x_aloadn (x := 125) rfl rfl ?_
                      refine z_getM (N := 92) (v := g0) 12 49 rfl f_12_493 rfl J rfl (jmo w31 rfl z0) ?_
                      refine x_iloadn (x := v32) rfl rfl ?_
                      refine z_iast (N := 400) (l := 0) (u := 400) (w := v32.toInt) rfl hD J Sm rfl rfl rfl (by omega) rfl (wr_148) rfl (fun h w35 J Sm => ?_)
                      rw [vww w35 (show g0.toInt = g0.toInt from by omega) (show v32.toInt = v32.toInt from by omega)] at D
                      refine x_aloadn (x := 125) rfl rfl ?_
                      refine z_getR (N := 92) (b := 149) 12 51 rfl f_12_102 rfl J rfl 16051 ⟨rfl, rfl⟩ rfl ?_
                      refine x_aloadn (x := 125) rfl rfl ?_
                      refine z_getM (N := 92) (v := g0) 12 49 rfl f_12_493 rfl J rfl (jmo w35 rfl (jmo w31 rfl z0)) ?_
                      refine x_iloadn (x := 0) rfl rfl ?_
                      refine z_iast (N := 400) (l := 0) (u := 400) (w := 0) rfl hD J Sm rfl rfl rfl (by omega) jk_0 (wr_149) rfl (fun h w36 J Sm => ?_)
                      rw [vww w36 (show g0.toInt = g0.toInt from by omega) (show 0 = (0 : Int32).toInt from by have := jk_0; omega)] at D
                      refine x_aloadn (x := 125) rfl rfl ?_
                      refine x_dup rfl rfl ?_
                      refine z_getM (N := 92) (v := g0) 12 49 rfl f_12_493 rfl J rfl (jmo w36 rfl (jmo w35 rfl (jmo w31 rfl z0))) ?_
                      refine x_iconst (v := 1) rfl ki_1 ?_
                      refine z_iadd rfl rfl jk_1 (by omega) (fun v37 ev37 => ?_)
                      refine z_putI (N := 92) (w := v37.toInt) 12 49 rfl f_12_493 rfl (jfin_no TX12 RX12 92 rfl rfl) hD J Sm rfl rfl rfl (pw_125_49 (by omega)) rfl (fun h w38 J Sm => ?_)
                      rw [vwf w38 (show (g0.toInt + 1) = v37.toInt from by omega)] at D
                      refine x_vret rfl rfl ?_
                      show jX m_X12_settle 2 0 0 98 [(0, .ref 125), (1, .int a1)] [] _ 0 0 _
                      refine x_goto (tgt := 0) rfl rfl ?_
                      exact jX.sub (jsb_c rfl (jsb_c rfl jsb_n)) (ih v37 v30 h (by omega) (jr_of rfl (by omega)) (jr_of rfl (by omega)) (jse_op C0 z1 (by omega) w31 (by omega) ((jmo w31 rfl rfl).symm.trans qv32) (by omega) (by omega) (by have := jbd_all v32.toInt; omega) z0 w35 w36 w38 (by omega)) (jmw w38) (jmo w38 rfl (jmo w36 rfl (jmo w35 rfl (jmw w31)))) J Sm D)
                    ·
                      rw [if_pos (by omega)] at D
                      exact jX.sub (jsb_c rfl (jsb_c rfl jsb_n)) (ct_X12_settle_r125d_63 yy_a1 hk hD hQ ih g0 v30 h (jr_of rfl (by omega)) (jr_of rfl (by omega)) ⟨_, _, _, v32, C0, z1, (by omega), w31, (by omega), ((jmo w31 rfl rfl).symm.trans qv32), (by unfold jAo_; omega), (by have := jbd_all v32.toInt; omega)⟩ (jmo w31 rfl z0) (jmw w31) (by omega) J Sm D)
            ·
              rw [if_pos (by omega)] at D
              refine x_iconst (v := 3) rfl ki_3 ?_
              refine x_goto (tgt := 62) rfl rfl ?_
              refine x_iret rfl rfl ?_
              show jX m_X12_settle 2 0 0 21 [(0, .ref 125), (1, .int a1)] [.int 3] _ 0 0 _
              refine x_iloadn (x := a1) rfl rfl ?_
              refine x_iclt (tgt := 101) rfl rfl (ti_lt jk_3 rfl ⟨fun c39 => ?_, fun c39 => ?_⟩)
              ·
                rw [if_pos (by omega)] at D
                exact jX.sub jsb_n (ct_X12_settle_r125d_101 yy_a1 hk hD hQ  h (jsf_1 C0 z1 (by omega) (by omega) qv3 (by have := jbd_all v3.toInt; omega)) J Sm D)
              ·
                rw [if_neg (by omega)] at D
                have J9 := J
                refine x_aloadn (x := 125) rfl rfl ?_
                refine x_dup rfl rfl ?_
                refine z_getM (N := 92) (v := g1) 12 55 rfl f_12_496 rfl J rfl z1 ?_
                refine x_iconst (v := 1) rfl ki_1 ?_
                refine z_isub rfl rfl jk_1 (by omega) (fun v40 ev40 => ?_)
                refine z_putI (N := 92) (w := v40.toInt) 12 55 rfl f_12_496 rfl (jfin_no TX12 RX12 92 rfl rfl) hD J Sm rfl rfl rfl (pw_125_55 (by omega)) rfl (fun h w41 J Sm => ?_)
                rw [vwf w41 (show (g1.toInt - 1) = v40.toInt from by omega)] at D
                refine x_aloadn (x := 125) rfl rfl ?_
                refine z_getR (N := 92) (b := 150) 12 53 rfl f_12_105 rfl J rfl 16053 ⟨rfl, rfl⟩ rfl ?_
                refine x_aloadn (x := 125) rfl rfl ?_
                refine z_getM (N := 92) (v := v40) 12 55 rfl f_12_496 rfl J rfl (jmw w41) ?_
                refine z_iald0 (N := 400) rfl J rfl rfl (by omega) (fun v42 qv42 => ?_)
                have ev42 := jfull v42
                try rw [show v3.toInt = v42.toInt from ((vrd qv3 (show (g1.toInt - 1) = v2.toInt from by omega)).symm.trans (vrd (jmb_w w41 qv42 rfl) (show (g1.toInt - 1) = v40.toInt from by omega)))] at D
                try rw [vrd (jmb_w w41 qv42 rfl) (show (g1.toInt - 1) = v40.toInt from by omega)] at D
                have xe := jidx (by omega) ((jmo w41 rfl rfl).symm.trans qv42) qv3
                refine x_bipush (v := 19) rfl kb_19 ?_
                refine x_iceq (tgt := 63) rfl rfl (ti_eq rfl jk_19 ⟨fun c43 => ?_, fun c43 => ?_⟩)
                ·
                  rw [if_pos (by omega)] at D
                  exact jX.sub (jsb_c rfl (jsb_c rfl jsb_n)) (ct_X12_settle_r125d_63 yy_a1 hk hD hQ ih g0 v40 h (jr_of rfl (by omega)) (jr_of rfl (by omega)) ⟨_, _, _, v42, C0, z1, (by omega), w41, (by omega), ((jmo w41 rfl rfl).symm.trans qv42), (by unfold jAo_; omega), (by have := jbd_all v42.toInt; omega)⟩ (jmo w41 rfl z0) (jmw w41) (by omega) J Sm D)
                ·
                  rw [if_neg (by omega)] at D
                  refine x_aloadn (x := 125) rfl rfl ?_
                  refine z_getR (N := 92) (b := 150) 12 53 rfl f_12_105 rfl J rfl 16053 ⟨rfl, rfl⟩ rfl ?_
                  refine x_aloadn (x := 125) rfl rfl ?_
                  refine z_getM (N := 92) (v := v40) 12 55 rfl f_12_496 rfl J rfl (jmw w41) ?_
                  refine z_ialdM (N := 400) (v := v42) rfl J rfl rfl (by omega) qv42 ?_
                  refine x_bipush (v := 20) rfl kb_20 ?_
                  refine x_icne (tgt := 84) rfl rfl (ti_ne rfl jk_20 ⟨fun c44 => ?_, fun c44 => ?_⟩)
                  ·
                    rw [if_neg (by omega)] at D
                    have cx := jse_c C0 z1 (by omega) (u := v40) (by omega) ((jmo w41 rfl rfl).symm.trans qv42) (by omega) z0 (by have := jrg_f J9 sg_125_9_10_1_0_1; omega) hk
                    refine x_aloadn (x := 125) rfl rfl ?_
                    refine x_aloadn (x := 125) rfl rfl ?_
                    refine z_getR (N := 92) (b := 150) 12 53 rfl f_12_105 rfl J rfl 16053 ⟨rfl, rfl⟩ rfl ?_
                    refine x_aloadn (x := 125) rfl rfl ?_
                    refine z_getM (N := 92) (v := v40) 12 55 rfl f_12_496 rfl J rfl (jmw w41) ?_
                    refine z_ialdM (N := 400) (v := v42) rfl J rfl rfl (by omega) qv42 ?_
                    refine x_iconst (v := 0) rfl ki_0 ?_
                    refine x_inv (N := m_X12_emit) (As := [.int v42, .int 0]) (b := 125) (st := []) (dx9 := 1) (mc := 0) (ms := 0) (host := "") 12 rfl t_X12_emit ⟨Or.inl q_12_502, i_X12_emit.1, i_X12_emit.2⟩ ⟨by decide, rfl⟩ (congrArg Prod.fst (J.1.1 125 (12, 92) rfl)) rfl (by decide) rfl rfl ⟨by decide, by decide⟩ (jC.of rfl k_X12_emit rfl ?_)
                    show jX m_X12_emit 1 0 0 0 [(0, .ref 125), (1, .int v42), (2, .int 0)] [] _ 0 0 _
                    refine x_aloadn (x := 125) rfl rfl ?_
                    refine z_getR (N := 92) (b := 148) 12 50 rfl f_12_99 rfl J rfl 16050 ⟨rfl, rfl⟩ rfl ?_
                    refine x_aloadn (x := 125) rfl rfl ?_
                    refine z_getM (N := 92) (v := g0) 12 49 rfl f_12_493 rfl J rfl (jmo w41 rfl z0) ?_
                    refine x_iloadn (x := v42) rfl rfl ?_
                    refine z_iast (N := 400) (l := 0) (u := 400) (w := v42.toInt) rfl hD J Sm rfl rfl rfl (by omega) rfl (wr_148) rfl (fun h w45 J Sm => ?_)
                    rw [vww w45 (show g0.toInt = g0.toInt from by omega) (show v42.toInt = v42.toInt from by omega)] at D
                    refine x_aloadn (x := 125) rfl rfl ?_
                    refine z_getR (N := 92) (b := 149) 12 51 rfl f_12_102 rfl J rfl 16051 ⟨rfl, rfl⟩ rfl ?_
                    refine x_aloadn (x := 125) rfl rfl ?_
                    refine z_getM (N := 92) (v := g0) 12 49 rfl f_12_493 rfl J rfl (jmo w45 rfl (jmo w41 rfl z0)) ?_
                    refine x_iloadn (x := 0) rfl rfl ?_
                    refine z_iast (N := 400) (l := 0) (u := 400) (w := 0) rfl hD J Sm rfl rfl rfl (by omega) jk_0 (wr_149) rfl (fun h w46 J Sm => ?_)
                    rw [vww w46 (show g0.toInt = g0.toInt from by omega) (show 0 = (0 : Int32).toInt from by have := jk_0; omega)] at D
                    refine x_aloadn (x := 125) rfl rfl ?_
                    refine x_dup rfl rfl ?_
                    refine z_getM (N := 92) (v := g0) 12 49 rfl f_12_493 rfl J rfl (jmo w46 rfl (jmo w45 rfl (jmo w41 rfl z0))) ?_
                    refine x_iconst (v := 1) rfl ki_1 ?_
                    refine z_iadd rfl rfl jk_1 (by omega) (fun v47 ev47 => ?_)
                    refine z_putI (N := 92) (w := v47.toInt) 12 49 rfl f_12_493 rfl (jfin_no TX12 RX12 92 rfl rfl) hD J Sm rfl rfl rfl (pw_125_49 (by omega)) rfl (fun h w48 J Sm => ?_)
                    rw [vwf w48 (show (g0.toInt + 1) = v47.toInt from by omega)] at D
                    refine x_vret rfl rfl ?_
                    show jX m_X12_settle 2 0 0 98 [(0, .ref 125), (1, .int a1)] [] _ 0 0 _
                    refine x_goto (tgt := 0) rfl rfl ?_
                    exact jX.sub (jsb_c rfl (jsb_c rfl jsb_n)) (ih v47 v40 h (by omega) (jr_of rfl (by omega)) (jr_of rfl (by omega)) (jse_op C0 z1 (by omega) w41 (by omega) ((jmo w41 rfl rfl).symm.trans qv42) (by omega) (by omega) (by have := jbd_all v42.toInt; omega) z0 w45 w46 w48 (by omega)) (jmw w48) (jmo w48 rfl (jmo w46 rfl (jmo w45 rfl (jmw w41)))) J Sm D)
                  ·
                    rw [if_pos (by omega)] at D
                    exact jX.sub (jsb_c rfl (jsb_c rfl jsb_n)) (ct_X12_settle_r125d_63 yy_a1 hk hD hQ ih g0 v40 h (jr_of rfl (by omega)) (jr_of rfl (by omega)) ⟨_, _, _, v42, C0, z1, (by omega), w41, (by omega), ((jmo w41 rfl rfl).symm.trans qv42), (by unfold jAo_; omega), (by have := jbd_all v42.toInt; omega)⟩ (jmo w41 rfl z0) (jmw w41) (by omega) J Sm D)
          ·
            rw [if_pos (by omega)] at D
            refine x_iconst (v := 2) rfl ki_2 ?_
            refine x_goto (tgt := 62) rfl rfl ?_
            refine x_iret rfl rfl ?_
            show jX m_X12_settle 2 0 0 21 [(0, .ref 125), (1, .int a1)] [.int 2] _ 0 0 _
            refine x_iloadn (x := a1) rfl rfl ?_
            refine x_iclt (tgt := 101) rfl rfl (ti_lt jk_2 rfl ⟨fun c49 => ?_, fun c49 => ?_⟩)
            ·
              rw [if_pos (by omega)] at D
              exact jX.sub jsb_n (ct_X12_settle_r125d_101 yy_a1 hk hD hQ  h (jsf_1 C0 z1 (by omega) (by omega) qv3 (by have := jbd_all v3.toInt; omega)) J Sm D)
            ·
              rw [if_neg (by omega)] at D
              have J9 := J
              refine x_aloadn (x := 125) rfl rfl ?_
              refine x_dup rfl rfl ?_
              refine z_getM (N := 92) (v := g1) 12 55 rfl f_12_496 rfl J rfl z1 ?_
              refine x_iconst (v := 1) rfl ki_1 ?_
              refine z_isub rfl rfl jk_1 (by omega) (fun v50 ev50 => ?_)
              refine z_putI (N := 92) (w := v50.toInt) 12 55 rfl f_12_496 rfl (jfin_no TX12 RX12 92 rfl rfl) hD J Sm rfl rfl rfl (pw_125_55 (by omega)) rfl (fun h w51 J Sm => ?_)
              rw [vwf w51 (show (g1.toInt - 1) = v50.toInt from by omega)] at D
              refine x_aloadn (x := 125) rfl rfl ?_
              refine z_getR (N := 92) (b := 150) 12 53 rfl f_12_105 rfl J rfl 16053 ⟨rfl, rfl⟩ rfl ?_
              refine x_aloadn (x := 125) rfl rfl ?_
              refine z_getM (N := 92) (v := v50) 12 55 rfl f_12_496 rfl J rfl (jmw w51) ?_
              refine z_iald0 (N := 400) rfl J rfl rfl (by omega) (fun v52 qv52 => ?_)
              have ev52 := jfull v52
              try rw [show v3.toInt = v52.toInt from ((vrd qv3 (show (g1.toInt - 1) = v2.toInt from by omega)).symm.trans (vrd (jmb_w w51 qv52 rfl) (show (g1.toInt - 1) = v50.toInt from by omega)))] at D
              try rw [vrd (jmb_w w51 qv52 rfl) (show (g1.toInt - 1) = v50.toInt from by omega)] at D
              have xe := jidx (by omega) ((jmo w51 rfl rfl).symm.trans qv52) qv3
              refine x_bipush (v := 19) rfl kb_19 ?_
              refine x_iceq (tgt := 63) rfl rfl (ti_eq rfl jk_19 ⟨fun c53 => ?_, fun c53 => ?_⟩)
              ·
                rw [if_pos (by omega)] at D
                exact jX.sub (jsb_c rfl (jsb_c rfl jsb_n)) (ct_X12_settle_r125d_63 yy_a1 hk hD hQ ih g0 v50 h (jr_of rfl (by omega)) (jr_of rfl (by omega)) ⟨_, _, _, v52, C0, z1, (by omega), w51, (by omega), ((jmo w51 rfl rfl).symm.trans qv52), (by unfold jAo_; omega), (by have := jbd_all v52.toInt; omega)⟩ (jmo w51 rfl z0) (jmw w51) (by omega) J Sm D)
              ·
                rw [if_neg (by omega)] at D
                refine x_aloadn (x := 125) rfl rfl ?_
                refine z_getR (N := 92) (b := 150) 12 53 rfl f_12_105 rfl J rfl 16053 ⟨rfl, rfl⟩ rfl ?_
                refine x_aloadn (x := 125) rfl rfl ?_
                refine z_getM (N := 92) (v := v50) 12 55 rfl f_12_496 rfl J rfl (jmw w51) ?_
                refine z_ialdM (N := 400) (v := v52) rfl J rfl rfl (by omega) qv52 ?_
                refine x_bipush (v := 20) rfl kb_20 ?_
                refine x_icne (tgt := 84) rfl rfl (ti_ne rfl jk_20 ⟨fun c54 => ?_, fun c54 => ?_⟩)
                ·
                  rw [if_neg (by omega)] at D
                  have cx := jse_c C0 z1 (by omega) (u := v50) (by omega) ((jmo w51 rfl rfl).symm.trans qv52) (by omega) z0 (by have := jrg_f J9 sg_125_9_10_1_0_1; omega) hk
                  refine x_aloadn (x := 125) rfl rfl ?_
                  refine x_aloadn (x := 125) rfl rfl ?_
                  refine z_getR (N := 92) (b := 150) 12 53 rfl f_12_105 rfl J rfl 16053 ⟨rfl, rfl⟩ rfl ?_
                  refine x_aloadn (x := 125) rfl rfl ?_
                  refine z_getM (N := 92) (v := v50) 12 55 rfl f_12_496 rfl J rfl (jmw w51) ?_
                  refine z_ialdM (N := 400) (v := v52) rfl J rfl rfl (by omega) qv52 ?_
                  refine x_iconst (v := 0) rfl ki_0 ?_
                  refine x_inv (N := m_X12_emit) (As := [.int v52, .int 0]) (b := 125) (st := []) (dx9 := 1) (mc := 0) (ms := 0) (host := "") 12 rfl t_X12_emit ⟨Or.inl q_12_502, i_X12_emit.1, i_X12_emit.2⟩ ⟨by decide, rfl⟩ (congrArg Prod.fst (J.1.1 125 (12, 92) rfl)) rfl (by decide) rfl rfl ⟨by decide, by decide⟩ (jC.of rfl k_X12_emit rfl ?_)
                  show jX m_X12_emit 1 0 0 0 [(0, .ref 125), (1, .int v52), (2, .int 0)] [] _ 0 0 _
                  refine x_aloadn (x := 125) rfl rfl ?_
                  refine z_getR (N := 92) (b := 148) 12 50 rfl f_12_99 rfl J rfl 16050 ⟨rfl, rfl⟩ rfl ?_
                  refine x_aloadn (x := 125) rfl rfl ?_
                  refine z_getM (N := 92) (v := g0) 12 49 rfl f_12_493 rfl J rfl (jmo w51 rfl z0) ?_
                  refine x_iloadn (x := v52) rfl rfl ?_
                  refine z_iast (N := 400) (l := 0) (u := 400) (w := v52.toInt) rfl hD J Sm rfl rfl rfl (by omega) rfl (wr_148) rfl (fun h w55 J Sm => ?_)
                  rw [vww w55 (show g0.toInt = g0.toInt from by omega) (show v52.toInt = v52.toInt from by omega)] at D
                  refine x_aloadn (x := 125) rfl rfl ?_
                  refine z_getR (N := 92) (b := 149) 12 51 rfl f_12_102 rfl J rfl 16051 ⟨rfl, rfl⟩ rfl ?_
                  refine x_aloadn (x := 125) rfl rfl ?_
                  refine z_getM (N := 92) (v := g0) 12 49 rfl f_12_493 rfl J rfl (jmo w55 rfl (jmo w51 rfl z0)) ?_
                  refine x_iloadn (x := 0) rfl rfl ?_
                  refine z_iast (N := 400) (l := 0) (u := 400) (w := 0) rfl hD J Sm rfl rfl rfl (by omega) jk_0 (wr_149) rfl (fun h w56 J Sm => ?_)
                  rw [vww w56 (show g0.toInt = g0.toInt from by omega) (show 0 = (0 : Int32).toInt from by have := jk_0; omega)] at D
                  refine x_aloadn (x := 125) rfl rfl ?_
                  refine x_dup rfl rfl ?_
                  refine z_getM (N := 92) (v := g0) 12 49 rfl f_12_493 rfl J rfl (jmo w56 rfl (jmo w55 rfl (jmo w51 rfl z0))) ?_
                  refine x_iconst (v := 1) rfl ki_1 ?_
                  refine z_iadd rfl rfl jk_1 (by omega) (fun v57 ev57 => ?_)
                  refine z_putI (N := 92) (w := v57.toInt) 12 49 rfl f_12_493 rfl (jfin_no TX12 RX12 92 rfl rfl) hD J Sm rfl rfl rfl (pw_125_49 (by omega)) rfl (fun h w58 J Sm => ?_)
                  rw [vwf w58 (show (g0.toInt + 1) = v57.toInt from by omega)] at D
                  refine x_vret rfl rfl ?_
                  show jX m_X12_settle 2 0 0 98 [(0, .ref 125), (1, .int a1)] [] _ 0 0 _
                  refine x_goto (tgt := 0) rfl rfl ?_
                  exact jX.sub (jsb_c rfl (jsb_c rfl jsb_n)) (ih v57 v50 h (by omega) (jr_of rfl (by omega)) (jr_of rfl (by omega)) (jse_op C0 z1 (by omega) w51 (by omega) ((jmo w51 rfl rfl).symm.trans qv52) (by omega) (by omega) (by have := jbd_all v52.toInt; omega) z0 w55 w56 w58 (by omega)) (jmw w58) (jmo w58 rfl (jmo w56 rfl (jmo w55 rfl (jmw w51)))) J Sm D)
                ·
                  rw [if_pos (by omega)] at D
                  exact jX.sub (jsb_c rfl (jsb_c rfl jsb_n)) (ct_X12_settle_r125d_63 yy_a1 hk hD hQ ih g0 v50 h (jr_of rfl (by omega)) (jr_of rfl (by omega)) ⟨_, _, _, v52, C0, z1, (by omega), w51, (by omega), ((jmo w51 rfl rfl).symm.trans qv52), (by unfold jAo_; omega), (by have := jbd_all v52.toInt; omega)⟩ (jmo w51 rfl z0) (jmw w51) (by omega) J Sm D)
        ·
          rw [if_pos (by omega)] at D
          refine x_iconst (v := 1) rfl ki_1 ?_
          refine x_goto (tgt := 62) rfl rfl ?_
          refine x_iret rfl rfl ?_
          show jX m_X12_settle 2 0 0 21 [(0, .ref 125), (1, .int a1)] [.int 1] _ 0 0 _
          refine x_iloadn (x := a1) rfl rfl ?_
          refine x_iclt (tgt := 101) rfl rfl (ti_lt jk_1 rfl ⟨fun c59 => ?_, fun c59 => ?_⟩)
          ·
            rw [if_pos (by omega)] at D
            exact jX.sub jsb_n (ct_X12_settle_r125d_101 yy_a1 hk hD hQ  h (jsf_1 C0 z1 (by omega) (by omega) qv3 (by have := jbd_all v3.toInt; omega)) J Sm D)
          ·
            rw [if_neg (by omega)] at D
            have J9 := J
            refine x_aloadn (x := 125) rfl rfl ?_
            refine x_dup rfl rfl ?_
            refine z_getM (N := 92) (v := g1) 12 55 rfl f_12_496 rfl J rfl z1 ?_
            refine x_iconst (v := 1) rfl ki_1 ?_
            refine z_isub rfl rfl jk_1 (by omega) (fun v60 ev60 => ?_)
            refine z_putI (N := 92) (w := v60.toInt) 12 55 rfl f_12_496 rfl (jfin_no TX12 RX12 92 rfl rfl) hD J Sm rfl rfl rfl (pw_125_55 (by omega)) rfl (fun h w61 J Sm => ?_)
            rw [vwf w61 (show (g1.toInt - 1) = v60.toInt from by omega)] at D
            refine x_aloadn (x := 125) rfl rfl ?_
            refine z_getR (N := 92) (b := 150) 12 53 rfl f_12_105 rfl J rfl 16053 ⟨rfl, rfl⟩ rfl ?_
            refine x_aloadn (x := 125) rfl rfl ?_
            refine z_getM (N := 92) (v := v60) 12 55 rfl f_12_496 rfl J rfl (jmw w61) ?_
            refine z_iald0 (N := 400) rfl J rfl rfl (by omega) (fun v62 qv62 => ?_)
            have ev62 := jfull v62
            try rw [show v3.toInt = v62.toInt from ((vrd qv3 (show (g1.toInt - 1) = v2.toInt from by omega)).symm.trans (vrd (jmb_w w61 qv62 rfl) (show (g1.toInt - 1) = v60.toInt from by omega)))] at D
            try rw [vrd (jmb_w w61 qv62 rfl) (show (g1.toInt - 1) = v60.toInt from by omega)] at D
            have xe := jidx (by omega) ((jmo w61 rfl rfl).symm.trans qv62) qv3
            refine x_bipush (v := 19) rfl kb_19 ?_
            refine x_iceq (tgt := 63) rfl rfl (ti_eq rfl jk_19 ⟨fun c63 => ?_, fun c63 => ?_⟩)
            ·
              rw [if_pos (by omega)] at D
              exact jX.sub (jsb_c rfl (jsb_c rfl jsb_n)) (ct_X12_settle_r125d_63 yy_a1 hk hD hQ ih g0 v60 h (jr_of rfl (by omega)) (jr_of rfl (by omega)) ⟨_, _, _, v62, C0, z1, (by omega), w61, (by omega), ((jmo w61 rfl rfl).symm.trans qv62), (by unfold jAo_; omega), (by have := jbd_all v62.toInt; omega)⟩ (jmo w61 rfl z0) (jmw w61) (by omega) J Sm D)
            ·
              rw [if_neg (by omega)] at D
              refine x_aloadn (x := 125) rfl rfl ?_
              refine z_getR (N := 92) (b := 150) 12 53 rfl f_12_105 rfl J rfl 16053 ⟨rfl, rfl⟩ rfl ?_
              refine x_aloadn (x := 125) rfl rfl ?_
              refine z_getM (N := 92) (v := v60) 12 55 rfl f_12_496 rfl J rfl (jmw w61) ?_
              refine z_ialdM (N := 400) (v := v62) rfl J rfl rfl (by omega) qv62 ?_
              refine x_bipush (v := 20) rfl kb_20 ?_
              refine x_icne (tgt := 84) rfl rfl (ti_ne rfl jk_20 ⟨fun c64 => ?_, fun c64 => ?_⟩)
              ·
                rw [if_neg (by omega)] at D
                have cx := jse_c C0 z1 (by omega) (u := v60) (by omega) ((jmo w61 rfl rfl).symm.trans qv62) (by omega) z0 (by have := jrg_f J9 sg_125_9_10_1_0_1; omega) hk
                refine x_aloadn (x := 125) rfl rfl ?_
                refine x_aloadn (x := 125) rfl rfl ?_
                refine z_getR (N := 92) (b := 150) 12 53 rfl f_12_105 rfl J rfl 16053 ⟨rfl, rfl⟩ rfl ?_
                refine x_aloadn (x := 125) rfl rfl ?_
                refine z_getM (N := 92) (v := v60) 12 55 rfl f_12_496 rfl J rfl (jmw w61) ?_
                refine z_ialdM (N := 400) (v := v62) rfl J rfl rfl (by omega) qv62 ?_
                refine x_iconst (v := 0) rfl ki_0 ?_
                refine x_inv (N := m_X12_emit) (As := [.int v62, .int 0]) (b := 125) (st := []) (dx9 := 1) (mc := 0) (ms := 0) (host := "") 12 rfl t_X12_emit ⟨Or.inl q_12_502, i_X12_emit.1, i_X12_emit.2⟩ ⟨by decide, rfl⟩ (congrArg Prod.fst (J.1.1 125 (12, 92) rfl)) rfl (by decide) rfl rfl ⟨by decide, by decide⟩ (jC.of rfl k_X12_emit rfl ?_)
                show jX m_X12_emit 1 0 0 0 [(0, .ref 125), (1, .int v62), (2, .int 0)] [] _ 0 0 _
                refine x_aloadn (x := 125) rfl rfl ?_
                refine z_getR (N := 92) (b := 148) 12 50 rfl f_12_99 rfl J rfl 16050 ⟨rfl, rfl⟩ rfl ?_
                refine x_aloadn (x := 125) rfl rfl ?_
                refine z_getM (N := 92) (v := g0) 12 49 rfl f_12_493 rfl J rfl (jmo w61 rfl z0) ?_
                refine x_iloadn (x := v62) rfl rfl ?_
                refine z_iast (N := 400) (l := 0) (u := 400) (w := v62.toInt) rfl hD J Sm rfl rfl rfl (by omega) rfl (wr_148) rfl (fun h w65 J Sm => ?_)
                rw [vww w65 (show g0.toInt = g0.toInt from by omega) (show v62.toInt = v62.toInt from by omega)] at D
                refine x_aloadn (x := 125) rfl rfl ?_
                refine z_getR (N := 92) (b := 149) 12 51 rfl f_12_102 rfl J rfl 16051 ⟨rfl, rfl⟩ rfl ?_
                refine x_aloadn (x := 125) rfl rfl ?_
                refine z_getM (N := 92) (v := g0) 12 49 rfl f_12_493 rfl J rfl (jmo w65 rfl (jmo w61 rfl z0)) ?_
                refine x_iloadn (x := 0) rfl rfl ?_
                refine z_iast (N := 400) (l := 0) (u := 400) (w := 0) rfl hD J Sm rfl rfl rfl (by omega) jk_0 (wr_149) rfl (fun h w66 J Sm => ?_)
                rw [vww w66 (show g0.toInt = g0.toInt from by omega) (show 0 = (0 : Int32).toInt from by have := jk_0; omega)] at D
                refine x_aloadn (x := 125) rfl rfl ?_
                refine x_dup rfl rfl ?_
                refine z_getM (N := 92) (v := g0) 12 49 rfl f_12_493 rfl J rfl (jmo w66 rfl (jmo w65 rfl (jmo w61 rfl z0))) ?_
                refine x_iconst (v := 1) rfl ki_1 ?_
                refine z_iadd rfl rfl jk_1 (by omega) (fun v67 ev67 => ?_)
                refine z_putI (N := 92) (w := v67.toInt) 12 49 rfl f_12_493 rfl (jfin_no TX12 RX12 92 rfl rfl) hD J Sm rfl rfl rfl (pw_125_49 (by omega)) rfl (fun h w68 J Sm => ?_)
                rw [vwf w68 (show (g0.toInt + 1) = v67.toInt from by omega)] at D
                refine x_vret rfl rfl ?_
                show jX m_X12_settle 2 0 0 98 [(0, .ref 125), (1, .int a1)] [] _ 0 0 _
                refine x_goto (tgt := 0) rfl rfl ?_
                exact jX.sub (jsb_c rfl (jsb_c rfl jsb_n)) (ih v67 v60 h (by omega) (jr_of rfl (by omega)) (jr_of rfl (by omega)) (jse_op C0 z1 (by omega) w61 (by omega) ((jmo w61 rfl rfl).symm.trans qv62) (by omega) (by omega) (by have := jbd_all v62.toInt; omega) z0 w65 w66 w68 (by omega)) (jmw w68) (jmo w68 rfl (jmo w66 rfl (jmo w65 rfl (jmw w61)))) J Sm D)
              ·
                rw [if_pos (by omega)] at D
                exact jX.sub (jsb_c rfl (jsb_c rfl jsb_n)) (ct_X12_settle_r125d_63 yy_a1 hk hD hQ ih g0 v60 h (jr_of rfl (by omega)) (jr_of rfl (by omega)) ⟨_, _, _, v62, C0, z1, (by omega), w61, (by omega), ((jmo w61 rfl rfl).symm.trans qv62), (by unfold jAo_; omega), (by have := jbd_all v62.toInt; omega)⟩ (jmo w61 rfl z0) (jmw w61) (by omega) J Sm D)
      ·
        rw [if_neg (by omega)] at D
        refine x_iconst (v := 0) rfl ki_0 ?_
        refine x_goto (tgt := 62) rfl rfl ?_
        refine x_iret rfl rfl ?_
        show jX m_X12_settle 2 0 0 21 [(0, .ref 125), (1, .int a1)] [.int 0] _ 0 0 _
        refine x_iloadn (x := a1) rfl rfl ?_
        refine x_iclt (tgt := 101) rfl rfl (ti_lt jk_0 rfl (br_t (by omega) ?_))
        exact jX.sub jsb_n (ct_X12_settle_r125d_101 yy_a1 hk hD hQ  h (jsf_1 C0 z1 (by omega) (by omega) qv3 (by have := jbd_all v3.toInt; omega)) J Sm D)
set_option maxRecDepth 100000 in
set_option maxHeartbeats 4000000 in
theorem sf_X12_settle_r125d {Dy : jH → Prop} {h : jH} {Q : Option Value → jH → Prop} {dr : jW} {a1 : Int32} (y1 : 1 ≤ a1.toInt ∧ a1.toInt ≤ 6) {A : Nat} {K9 : Int} (hk : 0 ≤ K9) (hA : jTu K9 h A 1) (hD : jDk Dy) (J : jJ jSgM Dy h) (D : d_X12_settle_r125d a1.toInt (vw h) = dr) (hQ : ∀ hx9, jJ jSgM Dy hx9 → jSm fp_X12_settle_r125d h hx9 → jSf K9 a1.toInt A h hx9 → dr = vw hx9 → Q none hx9) : jC m_X12_settle 2 0 0 [.ref 125, .int a1] h Q := by
  refine jC.of rfl k_X12_settle rfl ?_
  have Sm := jSm_rf fp_X12_settle_r125d h
  skip
  have yy_a1 := y1
  show jX m_X12_settle 2 0 0 0 [(0, .ref 125), (1, .int a1)] [] _ 0 0 _
  unfold d_X12_settle_r125d at D
  have ex49 := jrg_f J sg_125_49_50_1_0_1
  have ex55 := jrg_f J sg_125_55_56_1_0_1
  exact jX.sub (jsb_c rfl (jsb_c rfl jsb_n)) (ct_X12_settle_r125d_0 yy_a1 hk hD hQ  401 (jiv h 125 49) (jiv h 125 55) h (by omega) (jr_of rfl (by omega)) (jr_of rfl (by omega)) (jse_0 hA) rfl rfl J Sm D)
def fp_X12_nextGround_r125d : jFp := [(125, 32, 33), (125, 33, 34), (125, 34, 35), (125, 35, 36), (125, 57, 58), (125, 61, 62), (125, 62, 63), (125, 63, 64), (125, 75, 76), (125, 76, 77), (152, 0, 360), (153, 0, 30), (154, 0, 400), (158, 0, 8), (161, 0, 8), (162, 0, 40), (163, 0, 40), (164, 0, 40)]
set_option maxRecDepth 100000 in
set_option maxHeartbeats 4000000 in
theorem ct_X12_nextGround_r125d_188 {Dy : jH → Prop} {h0 : jH} {Q : Option Value → jH → Prop} {dr : (Int × jW)} {K5 : Int → jW → (Int × jW)} {R5 : Int} (hD : jDk Dy) (hQ : ∀ (v : Int32) hx9, jJ jSgM Dy hx9 → jSm fp_X12_nextGround_r125d h0 hx9 → ∀ u0 : Int32, jiv hx9 125 74 = u0 → 0 ≤ u0.toInt → jNg v h0 hx9 → dr.1 = v.toInt → dr.2 = vw hx9 → Q (some (.int v)) hx9) (k5 : ∀ (l1 : Int32) (g0 : Int32) (g1 : Int32) (h : jH), 720 - g1.toInt < R5 → 0 ≤ l1.toInt ∧ l1.toInt ≤ 6 → 0 ≤ g0.toInt ∧ g0.toInt ≤ 6 → 0 ≤ g1.toInt ∧ g1.toInt ≤ 720 → (jEq 158 (fun i => i ≠ l1.toNatClampNeg) h h0 ∧ (jiv h0 158 l1.toNatClampNeg).toInt ≤ g1.toInt ∧ jiv h0 125 74 = l1) → 0 ≤ g0.toInt → jiv h 125 74 = g0 → jiv h 158 l1.toNatClampNeg = g1 → jJ jSgM Dy h → jSm fp_X12_nextGround_r125d h0 h → K5 l1.toInt (vw h) = dr → jX m_X12_nextGround 11 0 0 5 [(0, .ref 125), (1, .int l1)] [] h 0 0 Q) : ∀ (l1 : Int32) (g0 : Int32) (g1 : Int32) (h : jH), 0 ≤ l1.toInt ∧ l1.toInt ≤ 6 → 0 ≤ g0.toInt ∧ g0.toInt ≤ 6 → 1 ≤ g1.toInt ∧ g1.toInt ≤ 720 → (jEq 158 (fun i => i ≠ l1.toNatClampNeg) h h0 ∧ (jiv h0 158 l1.toNatClampNeg).toInt ≤ g1.toInt ∧ jiv h0 125 74 = l1) → 0 ≤ g0.toInt → jiv h 125 74 = g0 → jiv h 158 l1.toNatClampNeg = g1 → 720 - g1.toInt < R5 → jJ jSgM Dy h → jSm fp_X12_nextGround_r125d h0 h → d_X12_nextGround_r125d_188 K5  l1.toInt (vw h) = dr → jX m_X12_nextGround 11 0 0 188 [(0, .ref 125), (1, .int l1)] [] h 0 0 Q := by
  intro l1 g0 g1 h y0 y1 y2 C0 y4 z0 z1 m5 J Sm D
  unfold d_X12_nextGround_r125d_188 at D
  try rw [vrf z0] at D
  refine x_goto (tgt := 5) rfl rfl ?_
  exact jX.sub (jsb_c rfl (jsb_c rfl jsb_n)) (k5 l1 g0 g1 h (by omega) (jr_of rfl (by omega)) (jr_of rfl (by omega)) (jr_of rfl (by omega)) C0 (by omega) z0 z1 J Sm D)
set_option maxRecDepth 100000 in
set_option maxHeartbeats 4000000 in
theorem ct_X12_nextGround_r125d_185 {Dy : jH → Prop} {h0 : jH} {Q : Option Value → jH → Prop} {dr : (Int × jW)} (hD : jDk Dy) (hQ : ∀ (v : Int32) hx9, jJ jSgM Dy hx9 → jSm fp_X12_nextGround_r125d h0 hx9 → ∀ u0 : Int32, jiv hx9 125 74 = u0 → 0 ≤ u0.toInt → jNg v h0 hx9 → dr.1 = v.toInt → dr.2 = vw hx9 → Q (some (.int v)) hx9) : ∀ (l5 : Int32) (g0 : Int32) (h : jH), 0 ≤ g0.toInt ∧ g0.toInt ≤ 6 → jNg l5 h0 h → 0 ≤ g0.toInt → jiv h 125 74 = g0 → jJ jSgM Dy h → jSm fp_X12_nextGround_r125d h0 h → d_X12_nextGround_r125d_185  l5.toInt (vw h) = dr → jX m_X12_nextGround 11 0 0 185 [(5, .int l5)] [] h 0 0 Q := by
  intro l5 g0 h y0 C0 y2 z0  J Sm D
  have el5 := jfull l5
  unfold d_X12_nextGround_r125d_185 at D
  try rw [vrf z0] at D
  refine x_iload (x := l5) rfl rfl ?_
  refine x_iret rfl rfl ?_
  exact hQ _ _ J Sm _ z0 (by omega) C0 ((congrArg Prod.fst D).symm.trans (show l5.toInt = l5.toInt from by omega)) (congrArg Prod.snd D).symm
set_option maxRecDepth 100000 in
set_option maxHeartbeats 4000000 in
theorem ct_X12_nextGround_r125d_5 {Dy : jH → Prop} {h0 : jH} {Q : Option Value → jH → Prop} {dr : (Int × jW)} (hD : jDk Dy) (hQ : ∀ (v : Int32) hx9, jJ jSgM Dy hx9 → jSm fp_X12_nextGround_r125d h0 hx9 → ∀ u0 : Int32, jiv hx9 125 74 = u0 → 0 ≤ u0.toInt → jNg v h0 hx9 → dr.1 = v.toInt → dr.2 = vw hx9 → Q (some (.int v)) hx9) : ∀ r : Nat, ∀ (l1 : Int32) (g0 : Int32) (g1 : Int32) (h : jH), 720 - g1.toInt < (r : Int) → 0 ≤ l1.toInt ∧ l1.toInt ≤ 6 → 0 ≤ g0.toInt ∧ g0.toInt ≤ 6 → 0 ≤ g1.toInt ∧ g1.toInt ≤ 720 → (jEq 158 (fun i => i ≠ l1.toNatClampNeg) h h0 ∧ (jiv h0 158 l1.toNatClampNeg).toInt ≤ g1.toInt ∧ jiv h0 125 74 = l1) → 0 ≤ g0.toInt → jiv h 125 74 = g0 → jiv h 158 l1.toNatClampNeg = g1 → jJ jSgM Dy h → jSm fp_X12_nextGround_r125d h0 h → d_X12_nextGround_r125d_5 r l1.toInt (vw h) = dr → jX m_X12_nextGround 11 0 0 5 [(0, .ref 125), (1, .int l1)] [] h 0 0 Q := by
  intro r
  induction r with
  | zero =>
    intro l1 g0 g1 h hm y0 y1 y2 C0 y4 z0 z1  J Sm D
    exfalso
    omega
  | succ r ih =>
    intro l1 g0 g1 h hm y0 y1 y2 C0 y4 z0 z1  J Sm D
    rw [d_X12_nextGround_r125d_5.eq_2] at D
    try rw [vrf z0] at D
    refine x_aloadn (x := 125) rfl rfl ?_
    refine z_getR (N := 92) (b := 158) 12 70 rfl f_12_132 rfl J rfl 16070 ⟨rfl, rfl⟩ rfl ?_
    refine x_iloadn (x := l1) rfl rfl ?_
    refine z_ialdM (N := 8) (v := g1) rfl J rfl rfl (by omega) z1 ?_
    try rw [vrd z1 (show l1.toInt = l1.toInt from by omega)] at D
    refine x_sipush (v := 720) rfl ks_720 ?_
    refine x_icge (tgt := 191) rfl rfl (ti_ge rfl jk_720 ⟨fun c1 => ?_, fun c1 => ?_⟩)
    ·
      rw [if_pos (by omega)] at D
      refine x_iconst (v := (-1)) rfl ki_m1 ?_
      refine x_iret rfl rfl ?_
      exact hQ _ _ J Sm _ z0 (by omega) (jng_of C0 z1 (Or.inl (by decide))) ((congrArg Prod.fst D).symm.trans (show (-1) = ((-1) : Int32).toInt from by have := jk_m1; omega)) (congrArg Prod.snd D).symm
    ·
      rw [if_neg (by omega)] at D
      refine x_aloadn (x := 125) rfl rfl ?_
      refine z_getR (N := 92) (b := 158) 12 70 rfl f_12_132 rfl J rfl 16070 ⟨rfl, rfl⟩ rfl ?_
      refine x_iloadn (x := l1) rfl rfl ?_
      refine z_ialdM (N := 8) (v := g1) rfl J rfl rfl (by omega) z1 ?_
      refine x_istoren (lsx9 := [(2, .int g1), (0, .ref 125), (1, .int l1)]) rfl rfl rfl ?_
      refine x_aloadn (x := 125) rfl rfl ?_
      refine z_getR (N := 92) (b := 158) 12 70 rfl f_12_132 rfl J rfl 16070 ⟨rfl, rfl⟩ rfl ?_
      refine x_iloadn (x := l1) rfl rfl ?_
      refine x_dup2 rfl rfl rfl ?_
      refine z_ialdM (N := 8) (v := g1) rfl J rfl rfl (by omega) z1 ?_
      refine x_iconst (v := 1) rfl ki_1 ?_
      refine z_iadd rfl rfl jk_1 (by omega) (fun v2 ev2 => ?_)
      refine z_iast (N := 8) (l := 0) (u := 8) (w := v2.toInt) rfl hD J Sm rfl rfl rfl (by omega) rfl (wr_158 (fun q1 q2 q3 q4 => by omega)) rfl (fun h w3 J Sm => ?_)
      rw [vww w3 (show l1.toInt = l1.toInt from by omega) (show (g1.toInt + 1) = v2.toInt from by omega)] at D
      refine x_iloadn (x := g1) rfl rfl ?_
      refine x_sipush (v := 360) rfl ks_360 ?_
      refine z_irem rfl rfl jk_360 (by omega) (by omega) (fun v4 ev4 => ?_)
      refine x_bipush (v := 12) rfl kb_12 ?_
      refine z_idiv rfl rfl jk_12 (by omega) (by omega) (fun v5 ev5 => ?_)
      refine x_istoren (lsx9 := [(3, .int v5), (2, .int g1), (0, .ref 125), (1, .int l1)]) rfl rfl rfl ?_
      refine x_iloadn (x := g1) rfl rfl ?_
      refine x_bipush (v := 12) rfl kb_12 ?_
      refine z_irem rfl rfl jk_12 (by omega) (by omega) (fun v6 ev6 => ?_)
      refine x_istore (lsx9 := [(4, .int v6), (3, .int v5), (2, .int g1), (0, .ref 125), (1, .int l1)]) rfl rfl rfl ?_
      refine x_aloadn (x := 125) rfl rfl ?_
      refine x_iloadn (x := v5) rfl rfl ?_
      refine x_iload (x := v6) rfl rfl ?_
      refine x_inv (N := m_X12_isClause) (As := [.int v5, .int v6]) (b := 125) (st := []) (dx9 := 10) (mc := 0) (ms := 0) (host := "") 12 rfl t_X12_isClause ⟨Or.inl q_12_685, i_X12_isClause.1, i_X12_isClause.2⟩ ⟨by decide, rfl⟩ (congrArg Prod.fst (J.1.1 125 (12, 92) rfl)) rfl (by decide) rfl rfl ⟨by decide, by decide⟩ (jC.of rfl k_X12_isClause rfl ?_)
      show jX m_X12_isClause 10 0 0 0 [(0, .ref 125), (1, .int v5), (2, .int v6)] [] _ 0 0 _
      refine x_iloadn (x := v5) rfl rfl ?_
      refine z_i2l rfl rfl (fun v7 ev7 => ?_)
      refine x_lconst (v := 0) rfl kl_0 ?_
      refine x_aloadn (x := 125) rfl rfl ?_
      refine z_getR (N := 92) (b := 126) 12 2 rfl f_12_8 rfl J rfl 16002 ⟨rfl, rfl⟩ rfl ?_
      refine x_iconst (v := 4) rfl ki_4 ?_
      refine z_iald (N := 50660) rfl J rfl sg_126_4_5_1_0_1 jk_4 (by omega) (fun v8 qv8 ev8 => ?_)
      try rw [vrn (n := 4) (by decide) (jmb_w w3 qv8 rfl)] at D
      refine z_i2l rfl rfl (fun v9 ev9 => ?_)
      refine x_lconst (v := 1) rfl kl_1 ?_
      refine z_lsub rfl rfl jkl_1 (by omega) (fun v10 ev10 => ?_)
      refine x_inst (N := m_X12_in) (As := [.long v7, .long 0, .long v10]) (st := []) (dx9 := 1) (mc := 0) (ms := 0) (host := "") rfl t_X12_in ⟨Or.inl q_12_188, s_X12_in⟩ rfl (by decide) rfl rfl ⟨by decide, by decide⟩ (zc_X12_in rfl jkl_0 rfl (fun v11 ev11 => ?_))
      show jX m_X12_isClause 10 0 0 15 [(0, .ref 125), (1, .int v5), (2, .int v6)] [.int v11] _ 0 0 _
      refine x_ifeq (tgt := 45) rfl rfl (ti_eq rfl jk_0 ⟨fun c12 => ?_, fun c12 => ?_⟩)
      ·
        rw [if_neg (by omega)] at D
        refine x_iconst (v := 0) rfl ki_0 ?_
        refine x_zret rfl rfl (by decide) ?_
        show jX m_X12_nextGround 11 0 0 56 [(4, .int v6), (3, .int v5), (2, .int g1), (0, .ref 125), (1, .int l1)] [.int 0] _ 0 0 _
        refine x_ifeq (tgt := 188) rfl rfl (ti_eq jk_0 jk_0 (br_t (by omega) ?_))
        exact jX.sub (jsb_c rfl (jsb_c rfl jsb_n)) (ct_X12_nextGround_r125d_188 hD hQ ih l1 g0 v2 h (jr_of rfl (by omega)) (jr_of rfl (by omega)) (jr_of rfl (by omega)) ⟨(jeq_s w3 (fun q => q rfl) C0.1), (by have := C0.2.1; omega), C0.2.2⟩ (by omega) (jmo w3 rfl z0) (jmw w3) (by omega) J Sm D)
      ·
        rw [if_pos (by omega)] at D
        refine x_iloadn (x := v6) rfl rfl ?_
        refine z_i2l rfl rfl (fun v13 ev13 => ?_)
        refine x_lconst (v := 0) rfl kl_0 ?_
        refine x_aloadn (x := 125) rfl rfl ?_
        refine z_getR (N := 92) (b := 126) 12 2 rfl f_12_8 rfl J rfl 16002 ⟨rfl, rfl⟩ rfl ?_
        refine x_iloadn (x := v5) rfl rfl ?_
        refine x_inst (N := m_X12_textAt) (As := [.int v5]) (st := [.ref 126, .long 0, .long v13]) (dx9 := 9) (mc := 0) (ms := 0) (host := "") rfl t_X12_textAt ⟨Or.inl q_12_676, s_X12_textAt⟩ rfl (by decide) rfl rfl ⟨by decide, by decide⟩ (jC.of rfl k_X12_textAt rfl ?_)
        show jX m_X12_textAt 9 0 0 0 [(0, .int v5)] [] _ 0 0 _
        refine x_sipush (v := 18820) rfl ks_18820 ?_
        refine x_sipush (v := 924) rfl ks_924 ?_
        refine x_iloadn (x := v5) rfl rfl ?_
        refine z_imul rfl jk_924 rfl (by omega) (fun v14 ev14 => ?_)
        refine z_iadd rfl jk_18820 rfl (by omega) (fun v15 ev15 => ?_)
        refine x_iret rfl rfl ?_
        show jX m_X12_isClause 10 0 0 29 [(0, .ref 125), (1, .int v5), (2, .int v6)] [.int v15, .ref 126, .long 0, .long v13] _ 0 0 _
        refine x_iconst (v := 3) rfl ki_3 ?_
        refine z_iadd rfl rfl jk_3 (by omega) (fun v16 ev16 => ?_)
        refine z_iald (N := 50660) rfl J rfl sg_126_18820_46540_924_3_4 rfl (by omega) (fun v17 qv17 ev17 => ?_)
        try rw [vrd (jmb_w w3 qv17 rfl) (show ((18820 + (924 * ((g1.toInt % 360) / 12))) + 3) = v16.toInt from by omega)] at D
        refine z_i2l rfl rfl (fun v18 ev18 => ?_)
        refine x_lconst (v := 1) rfl kl_1 ?_
        refine z_lsub rfl rfl jkl_1 (by omega) (fun v19 ev19 => ?_)
        refine x_inst (N := m_X12_in) (As := [.long v13, .long 0, .long v19]) (st := []) (dx9 := 1) (mc := 0) (ms := 0) (host := "") rfl t_X12_in ⟨Or.inl q_12_188, s_X12_in⟩ rfl (by decide) rfl rfl ⟨by decide, by decide⟩ (zc_X12_in rfl jkl_0 rfl (fun v20 ev20 => ?_))
        show jX m_X12_isClause 10 0 0 38 [(0, .ref 125), (1, .int v5), (2, .int v6)] [.int v20] _ 0 0 _
        refine x_ifeq (tgt := 45) rfl rfl (ti_eq rfl jk_0 ⟨fun c21 => ?_, fun c21 => ?_⟩)
        ·
          rw [if_neg (by omega)] at D
          refine x_iconst (v := 0) rfl ki_0 ?_
          refine x_zret rfl rfl (by decide) ?_
          show jX m_X12_nextGround 11 0 0 56 [(4, .int v6), (3, .int v5), (2, .int g1), (0, .ref 125), (1, .int l1)] [.int 0] _ 0 0 _
          refine x_ifeq (tgt := 188) rfl rfl (ti_eq jk_0 jk_0 (br_t (by omega) ?_))
          exact jX.sub (jsb_c rfl (jsb_c rfl jsb_n)) (ct_X12_nextGround_r125d_188 hD hQ ih l1 g0 v2 h (jr_of rfl (by omega)) (jr_of rfl (by omega)) (jr_of rfl (by omega)) ⟨(jeq_s w3 (fun q => q rfl) C0.1), (by have := C0.2.1; omega), C0.2.2⟩ (by omega) (jmo w3 rfl z0) (jmw w3) (by omega) J Sm D)
        ·
          rw [if_pos (by omega)] at D
          refine x_iconst (v := 1) rfl ki_1 ?_
          refine x_goto (tgt := 46) rfl rfl ?_
          refine x_zret rfl rfl (by decide) ?_
          show jX m_X12_nextGround 11 0 0 56 [(4, .int v6), (3, .int v5), (2, .int g1), (0, .ref 125), (1, .int l1)] [.int 1] _ 0 0 _
          refine x_ifeq (tgt := 188) rfl rfl (ti_eq jk_1 jk_0 (br_f (by omega) ?_))
          refine x_aloadn (x := 125) rfl rfl ?_
          refine z_getR (N := 92) (b := 126) 12 2 rfl f_12_8 rfl J rfl 16002 ⟨rfl, rfl⟩ rfl ?_
          refine x_iloadn (x := v5) rfl rfl ?_
          refine x_inst (N := m_X12_textAt) (As := [.int v5]) (st := [.ref 126]) (dx9 := 10) (mc := 0) (ms := 0) (host := "") rfl t_X12_textAt ⟨Or.inl q_12_676, s_X12_textAt⟩ rfl (by decide) rfl rfl ⟨by decide, by decide⟩ (jC.of rfl k_X12_textAt rfl ?_)
          show jX m_X12_textAt 10 0 0 0 [(0, .int v5)] [] _ 0 0 _
          refine x_sipush (v := 18820) rfl ks_18820 ?_
          refine x_sipush (v := 924) rfl ks_924 ?_
          refine x_iloadn (x := v5) rfl rfl ?_
          refine z_imul rfl jk_924 rfl (by omega) (fun v22 ev22 => ?_)
          refine z_iadd rfl jk_18820 rfl (by omega) (fun v23 ev23 => ?_)
          refine x_iret rfl rfl ?_
          show jX m_X12_nextGround 11 0 0 67 [(4, .int v6), (3, .int v5), (2, .int g1), (0, .ref 125), (1, .int l1)] [.int v23, .ref 126] _ 0 0 _
          refine z_iald (N := 50660) rfl J rfl sg_126_18820_46540_924_0_1 rfl (by omega) (fun v24 qv24 ev24 => ?_)
          try rw [vrd (jmb_w w3 qv24 rfl) (show (18820 + (924 * ((g1.toInt % 360) / 12))) = v23.toInt from by omega)] at D
          refine x_iloadn (x := g1) rfl rfl ?_
          refine x_sipush (v := 360) rfl ks_360 ?_
          refine z_idiv rfl rfl jk_360 (by omega) (by omega) (fun v25 ev25 => ?_)
          refine x_icne (tgt := 188) rfl rfl (ti_ne rfl rfl ⟨fun c26 => ?_, fun c26 => ?_⟩)
          ·
            rw [if_neg (by omega)] at D
            exact jX.sub (jsb_c rfl (jsb_c rfl jsb_n)) (ct_X12_nextGround_r125d_188 hD hQ ih l1 g0 v2 h (jr_of rfl (by omega)) (jr_of rfl (by omega)) (jr_of rfl (by omega)) ⟨(jeq_s w3 (fun q => q rfl) C0.1), (by have := C0.2.1; omega), C0.2.2⟩ (by omega) (jmo w3 rfl z0) (jmw w3) (by omega) J Sm D)
          ·
            rw [if_pos (by omega)] at D
            refine x_aloadn (x := 125) rfl rfl ?_
            refine z_getR (N := 92) (b := 126) 12 2 rfl f_12_8 rfl J rfl 16002 ⟨rfl, rfl⟩ rfl ?_
            refine x_aloadn (x := 125) rfl rfl ?_
            refine x_iloadn (x := v5) rfl rfl ?_
            refine x_iload (x := v6) rfl rfl ?_
            refine x_inv (N := m_X12_clauseAt) (As := [.int v5, .int v6]) (b := 125) (st := [.ref 126]) (dx9 := 10) (mc := 0) (ms := 0) (host := "") 12 rfl t_X12_clauseAt ⟨Or.inl q_12_679, i_X12_clauseAt.1, i_X12_clauseAt.2⟩ ⟨by decide, rfl⟩ (congrArg Prod.fst (J.1.1 125 (12, 92) rfl)) rfl (by decide) rfl rfl ⟨by decide, by decide⟩ (jC.of rfl k_X12_clauseAt rfl ?_)
            show jX m_X12_clauseAt 10 0 0 0 [(0, .ref 125), (1, .int v5), (2, .int v6)] [] _ 0 0 _
            refine x_iloadn (x := v5) rfl rfl ?_
            refine x_inst (N := m_X12_textAt) (As := [.int v5]) (st := []) (dx9 := 9) (mc := 0) (ms := 0) (host := "") rfl t_X12_textAt ⟨Or.inl q_12_676, s_X12_textAt⟩ rfl (by decide) rfl rfl ⟨by decide, by decide⟩ (jC.of rfl k_X12_textAt rfl ?_)
            show jX m_X12_textAt 9 0 0 0 [(0, .int v5)] [] _ 0 0 _
            refine x_sipush (v := 18820) rfl ks_18820 ?_
            refine x_sipush (v := 924) rfl ks_924 ?_
            refine x_iloadn (x := v5) rfl rfl ?_
            refine z_imul rfl jk_924 rfl (by omega) (fun v27 ev27 => ?_)
            refine z_iadd rfl jk_18820 rfl (by omega) (fun v28 ev28 => ?_)
            refine x_iret rfl rfl ?_
            show jX m_X12_clauseAt 10 0 0 4 [(0, .ref 125), (1, .int v5), (2, .int v6)] [.int v28] _ 0 0 _
            refine x_iconst (v := 4) rfl ki_4 ?_
            refine z_iadd rfl rfl jk_4 (by omega) (fun v29 ev29 => ?_)
            refine x_bipush (v := 10) rfl kb_10 ?_
            refine x_iloadn (x := v6) rfl rfl ?_
            refine z_imul rfl jk_10 rfl (by omega) (fun v30 ev30 => ?_)
            refine z_iadd rfl rfl rfl (by omega) (fun v31 ev31 => ?_)
            refine x_iret rfl rfl ?_
            show jX m_X12_nextGround 11 0 0 87 [(4, .int v6), (3, .int v5), (2, .int g1), (0, .ref 125), (1, .int l1)] [.int v31, .ref 126] _ 0 0 _
            refine z_iald0 (N := 50660) rfl J rfl rfl (by omega) (fun v32 qv32 => ?_)
            have ev32 := jfull v32
            try rw [vrd (jmb_w w3 qv32 rfl) (show (((18820 + (924 * ((g1.toInt % 360) / 12))) + 4) + (10 * (g1.toInt % 12))) = v31.toInt from by omega)] at D
            refine x_iconst (v := 1) rfl ki_1 ?_
            refine x_icne (tgt := 188) rfl rfl (ti_ne rfl jk_1 ⟨fun c33 => ?_, fun c33 => ?_⟩)
            ·
              rw [if_neg (by omega)] at D
              exact jX.sub (jsb_c rfl (jsb_c rfl jsb_n)) (ct_X12_nextGround_r125d_188 hD hQ ih l1 g0 v2 h (jr_of rfl (by omega)) (jr_of rfl (by omega)) (jr_of rfl (by omega)) ⟨(jeq_s w3 (fun q => q rfl) C0.1), (by have := C0.2.1; omega), C0.2.2⟩ (by omega) (jmo w3 rfl z0) (jmw w3) (by omega) J Sm D)
            ·
              rw [if_pos (by omega)] at D
              refine x_aloadn (x := 125) rfl rfl ?_
              refine x_iloadn (x := v5) rfl rfl ?_
              refine x_iload (x := v6) rfl rfl ?_
              refine x_aloadn (x := 125) rfl rfl ?_
              refine z_getR (N := 92) (b := 156) 12 68 rfl f_12_126 rfl J rfl 16068 ⟨rfl, rfl⟩ rfl ?_
              refine x_iloadn (x := l1) rfl rfl ?_
              refine z_iald (N := 8) rfl J rfl sg_156_0_8_1_0_1 rfl (by omega) (fun v34 qv34 ev34 => ?_)
              try rw [vrd (jmb_w w3 qv34 rfl) (show l1.toInt = l1.toInt from by omega)] at D
              refine x_aloadn (x := 125) rfl rfl ?_
              refine z_getR (N := 92) (b := 157) 12 69 rfl f_12_129 rfl J rfl 16069 ⟨rfl, rfl⟩ rfl ?_
              refine x_iloadn (x := l1) rfl rfl ?_
              refine z_iald (N := 8) rfl J rfl sg_157_0_8_1_0_1 rfl (by omega) (fun v35 qv35 ev35 => ?_)
              try rw [vrd (jmb_w w3 qv35 rfl) (show l1.toInt = l1.toInt from by omega)] at D
              try rw [show ((g1.toInt % 360) / 12) = v5.toInt from by omega] at D
              try rw [show (g1.toInt % 12) = v6.toInt from by omega] at D
              refine x_inv (N := m_X12_holdsFor) (As := [.int v5, .int v6, .int v34, .int v35]) (b := 125) (st := []) (dx9 := 10) (mc := 0) (ms := 0) (host := "") 12 rfl t_X12_holdsFor ⟨Or.inl q_12_749, i_X12_holdsFor.1, i_X12_holdsFor.2⟩ ⟨by decide, rfl⟩ (congrArg Prod.fst (J.1.1 125 (12, 92) rfl)) rfl (by decide) rfl rfl ⟨by decide, by decide⟩ (sf_X12_holdsFor_r125d (jr_of rfl (by omega)) (jr_of rfl (by omega)) (jr_of rfl (by omega)) (jr_of rfl (by omega)) (jcn qv17 (by omega) (by omega) (by omega)) hD J rfl  (fun v39 h ev39 J S36 X37 X38 => ?_))
              have Sm := jSm_tr rfl Sm S36
              try rw [X37] at D
              try rw [X38] at D
              show jX m_X12_nextGround 11 0 0 111 [(4, .int v6), (3, .int v5), (2, .int g1), (0, .ref 125), (1, .int l1)] [.int v39] _ 0 0 _
              refine x_ifeq (tgt := 188) rfl rfl (ti_eq rfl jk_0 ⟨fun c40 => ?_, fun c40 => ?_⟩)
              ·
                rw [if_pos (by omega)] at D
                exact jX.sub (jsb_c rfl (jsb_c rfl jsb_n)) (ct_X12_nextGround_r125d_188 hD hQ ih l1 g0 v2 h (jr_of rfl (by omega)) (jr_of rfl (by omega)) (jr_of rfl (by omega)) ⟨(jeq_c S36 rfl (jeq_s w3 (fun q => q rfl) C0.1)), (by have := C0.2.1; omega), C0.2.2⟩ (by omega) (jmc S36 rfl (jmo w3 rfl z0)) (jmc S36 rfl (jmw w3)) (by omega) J Sm D)
              ·
                rw [if_neg (by omega)] at D
                refine x_aloadn (x := 125) rfl rfl ?_
                refine z_getR (N := 92) (b := 126) 12 2 rfl f_12_8 rfl J rfl 16002 ⟨rfl, rfl⟩ rfl ?_
                refine x_aloadn (x := 125) rfl rfl ?_
                refine x_iloadn (x := v5) rfl rfl ?_
                refine x_iload (x := v6) rfl rfl ?_
                refine x_inv (N := m_X12_clauseAt) (As := [.int v5, .int v6]) (b := 125) (st := [.ref 126]) (dx9 := 10) (mc := 0) (ms := 0) (host := "") 12 rfl t_X12_clauseAt ⟨Or.inl q_12_679, i_X12_clauseAt.1, i_X12_clauseAt.2⟩ ⟨by decide, rfl⟩ (congrArg Prod.fst (J.1.1 125 (12, 92) rfl)) rfl (by decide) rfl rfl ⟨by decide, by decide⟩ (jC.of rfl k_X12_clauseAt rfl ?_)
                show jX m_X12_clauseAt 10 0 0 0 [(0, .ref 125), (1, .int v5), (2, .int v6)] [] _ 0 0 _
                refine x_iloadn (x := v5) rfl rfl ?_
                refine x_inst (N := m_X12_textAt) (As := [.int v5]) (st := []) (dx9 := 9) (mc := 0) (ms := 0) (host := "") rfl t_X12_textAt ⟨Or.inl q_12_676, s_X12_textAt⟩ rfl (by decide) rfl rfl ⟨by decide, by decide⟩ (jC.of rfl k_X12_textAt rfl ?_)
                show jX m_X12_textAt 9 0 0 0 [(0, .int v5)] [] _ 0 0 _
                refine x_sipush (v := 18820) rfl ks_18820 ?_
                refine x_sipush (v := 924) rfl ks_924 ?_
                refine x_iloadn (x := v5) rfl rfl ?_
                refine z_imul rfl jk_924 rfl (by omega) (fun v41 ev41 => ?_)
                refine z_iadd rfl jk_18820 rfl (by omega) (fun v42 ev42 => ?_)
                refine x_iret rfl rfl ?_
                show jX m_X12_clauseAt 10 0 0 4 [(0, .ref 125), (1, .int v5), (2, .int v6)] [.int v42] _ 0 0 _
                refine x_iconst (v := 4) rfl ki_4 ?_
                refine z_iadd rfl rfl jk_4 (by omega) (fun v43 ev43 => ?_)
                refine x_bipush (v := 10) rfl kb_10 ?_
                refine x_iloadn (x := v6) rfl rfl ?_
                refine z_imul rfl jk_10 rfl (by omega) (fun v44 ev44 => ?_)
                refine z_iadd rfl rfl rfl (by omega) (fun v45 ev45 => ?_)
                refine x_iret rfl rfl ?_
                show jX m_X12_nextGround 11 0 0 125 [(4, .int v6), (3, .int v5), (2, .int g1), (0, .ref 125), (1, .int l1)] [.int v45, .ref 126] _ 0 0 _
                refine x_iconst (v := 1) rfl ki_1 ?_
                refine z_iadd rfl rfl jk_1 (by omega) (fun v46 ev46 => ?_)
                refine z_iald0 (N := 50660) rfl J rfl rfl (by omega) (fun v47 qv47 => ?_)
                have ev47 := jfull v47
                try rw [vrd (jmb_w w3 (jmb_c S36 qv47 rfl) rfl) (show ((((18820 + (924 * v5.toInt)) + 4) + (10 * v6.toInt)) + 1) = v46.toInt from by omega)] at D
                refine x_istore (lsx9 := [(5, .int v47), (4, .int v6), (3, .int v5), (2, .int g1), (0, .ref 125), (1, .int l1)]) rfl rfl rfl ?_
                refine x_aloadn (x := 125) rfl rfl ?_
                refine z_getR (N := 92) (b := 161) 12 73 rfl f_12_141 rfl J rfl 16073 ⟨rfl, rfl⟩ rfl ?_
                refine x_iloadn (x := l1) rfl rfl ?_
                refine z_iald0 (N := 8) rfl J rfl rfl (by omega) (fun v48 qv48 => ?_)
                have ev48 := jfull v48
                try rw [vrd (jmb_w w3 (jmb_c S36 qv48 rfl) rfl) (show l1.toInt = l1.toInt from by omega)] at D
                refine x_iload (x := v47) rfl rfl ?_
                refine z_ishrW rfl rfl rfl (fun v49 ev49 => ?_)
                have fv49 := jfull v49
                try rw [← ev49] at D
                refine x_iconst (v := 1) rfl ki_1 ?_
                refine z_iandQ rfl rfl jk_1 (by decide) (fun v50 ev50 => ?_)
                try rw [← ev50.1] at D
                refine x_ifne (tgt := 188) rfl rfl (ti_ne rfl jk_0 ⟨fun c51 => ?_, fun c51 => ?_⟩)
                ·
                  rw [if_neg (by omega)] at D
                  exact jX.sub (jsb_c rfl (jsb_c rfl jsb_n)) (ct_X12_nextGround_r125d_188 hD hQ ih l1 g0 v2 h (jr_of rfl (by omega)) (jr_of rfl (by omega)) (jr_of rfl (by omega)) ⟨(jeq_c S36 rfl (jeq_s w3 (fun q => q rfl) C0.1)), (by have := C0.2.1; omega), C0.2.2⟩ (by omega) (jmc S36 rfl (jmo w3 rfl z0)) (jmc S36 rfl (jmw w3)) (by omega) J Sm D)
                ·
                  rw [if_pos (by omega)] at D
                  refine x_aloadn (x := 125) rfl rfl ?_
                  refine z_getR (N := 92) (b := 161) 12 73 rfl f_12_141 rfl J rfl 16073 ⟨rfl, rfl⟩ rfl ?_
                  refine x_iloadn (x := l1) rfl rfl ?_
                  refine x_dup2 rfl rfl rfl ?_
                  refine z_ialdM (N := 8) (v := v48) rfl J rfl rfl (by omega) qv48 ?_
                  refine x_iconst (v := 1) rfl ki_1 ?_
                  refine x_iload (x := v47) rfl rfl ?_
                  refine z_ishlW rfl jk_1 rfl (fun v52 ev52 => ?_)
                  have fv52 := jfull v52
                  try rw [← ev52] at D
                  refine z_iorW rfl rfl rfl (fun v53 ev53 => ?_)
                  have fv53 := jfull v53
                  try rw [← ev53] at D
                  refine z_iast (N := 8) (l := 0) (u := 8) (w := v53.toInt) rfl hD J Sm rfl rfl rfl (by omega) rfl (wr_161) rfl (fun h w54 J Sm => ?_)
                  rw [vww w54 (show l1.toInt = l1.toInt from by omega) (show v53.toInt = v53.toInt from by omega)] at D
                  refine x_iloadn (x := l1) rfl rfl ?_
                  refine x_ifne (tgt := 185) rfl rfl (ti_ne rfl jk_0 ⟨fun c55 => ?_, fun c55 => ?_⟩)
                  ·
                    rw [if_neg (by omega)] at D
                    exact jX.sub (jsb_c rfl jsb_n) (ct_X12_nextGround_r125d_185 hD hQ  v47 g0 h (jr_of rfl (by omega)) (jng_of ⟨(jeq_o w54 rfl (jeq_c S36 rfl (jeq_s w3 (fun q => q rfl) C0.1))), (by have := C0.2.1; omega), C0.2.2⟩ (jmo w54 rfl (jmc S36 rfl (jmw w3))) (Or.inr (by have := C0.2.1; omega))) (by omega) (jmo w54 rfl (jmc S36 rfl (jmo w3 rfl z0))) J Sm D)
                  ·
                    rw [if_pos (by omega)] at D
                    refine x_aloadn (x := 125) rfl rfl ?_
                    refine x_bipush (v := 12) rfl kb_12 ?_
                    refine x_iloadn (x := v5) rfl rfl ?_
                    refine z_imul rfl jk_12 rfl (by omega) (fun v56 ev56 => ?_)
                    refine x_iload (x := v6) rfl rfl ?_
                    refine z_iadd rfl rfl rfl (by omega) (fun v57 ev57 => ?_)
                    refine z_putI (N := 92) (w := v57.toInt) 12 75 rfl f_12_774 rfl (jfin_no TX12 RX12 92 rfl rfl) hD J Sm rfl rfl rfl (pw_125_75 (by omega)) rfl (fun h w58 J Sm => ?_)
                    rw [vwf w58 (show ((12 * v5.toInt) + v6.toInt) = v57.toInt from by omega)] at D
                    refine x_aloadn (x := 125) rfl rfl ?_
                    refine x_dup rfl rfl ?_
                    refine z_getI0 (N := 92) 12 76 rfl f_12_777 rfl J rfl (fun v59 qv59 => ?_)
                    have ev59 := jfull v59
                    try rw [vrf (jmb_w w3 (jmb_c S36 (jmb_w w54 (jmb_w w58 qv59 rfl) rfl) rfl) rfl)] at D
                    refine x_iconst (v := 1) rfl ki_1 ?_
                    refine x_iload (x := v47) rfl rfl ?_
                    refine z_ishlW rfl jk_1 rfl (fun v60 ev60 => ?_)
                    have fv60 := jfull v60
                    try rw [← ev60] at D
                    try rw [show v52.toInt = v60.toInt from ev52.trans ev60.symm] at D
                    refine z_iorW rfl rfl rfl (fun v61 ev61 => ?_)
                    have fv61 := jfull v61
                    try rw [← ev61] at D
                    refine z_putI (N := 92) (w := v61.toInt) 12 76 rfl f_12_777 rfl (jfin_no TX12 RX12 92 rfl rfl) hD J Sm rfl rfl rfl (pw_125_76 trivial) rfl (fun h w62 J Sm => ?_)
                    rw [vwf w62 (show v61.toInt = v61.toInt from by omega)] at D
                    exact jX.sub (jsb_c rfl jsb_n) (ct_X12_nextGround_r125d_185 hD hQ  v47 g0 h (jr_of rfl (by omega)) (jng_of ⟨(jeq_o w62 rfl (jeq_o w58 rfl (jeq_o w54 rfl (jeq_c S36 rfl (jeq_s w3 (fun q => q rfl) C0.1))))), (by have := C0.2.1; omega), C0.2.2⟩ (jmo w62 rfl (jmo w58 rfl (jmo w54 rfl (jmc S36 rfl (jmw w3))))) (Or.inr (by have := C0.2.1; omega))) (by omega) (jmo w62 rfl (jmo w58 rfl (jmo w54 rfl (jmc S36 rfl (jmo w3 rfl z0))))) J Sm D)
set_option maxRecDepth 100000 in
set_option maxHeartbeats 4000000 in
theorem sf_X12_nextGround_r125d {Dy : jH → Prop} {h : jH} {Q : Option Value → jH → Prop} {dr : (Int × jW)} (hD : jDk Dy) (J : jJ jSgM Dy h) {p0 : Int32} (zp0 : jiv h 125 74 = p0) (rl_p0 : 0 ≤ p0.toInt) (D : d_X12_nextGround_r125d (vw h) = dr) (hQ : ∀ (v : Int32) hx9, jJ jSgM Dy hx9 → jSm fp_X12_nextGround_r125d h hx9 → ∀ u0 : Int32, jiv hx9 125 74 = u0 → 0 ≤ u0.toInt → jNg v h hx9 → dr.1 = v.toInt → dr.2 = vw hx9 → Q (some (.int v)) hx9) : jC m_X12_nextGround 11 0 0 [.ref 125] h Q := by
  refine jC.of rfl k_X12_nextGround rfl ?_
  have Sm := jSm_rf fp_X12_nextGround_r125d h
  have ep0 := (show (-1) ≤ p0.toInt ∧ p0.toInt ≤ 6 from zp0 ▸ jrg_f J sg_125_74_75_1_0_1)
  show jX m_X12_nextGround 11 0 0 0 [(0, .ref 125)] [] _ 0 0 _
  unfold d_X12_nextGround_r125d at D
  try rw [vrf zp0] at D
  refine x_aloadn (x := 125) rfl rfl ?_
  refine z_getM (N := 92) (v := p0) 12 74 rfl f_12_771 rfl J rfl zp0 ?_
  refine x_istoren (lsx9 := [(1, .int p0), (0, .ref 125)]) rfl rfl rfl ?_
  obtain ⟨u1, qu1⟩ : ∃ v : Int32, jiv h 158 (p0).toNatClampNeg = v := ⟨_, rfl⟩
  have eu1 := (show 0 ≤ u1.toInt ∧ u1.toInt ≤ 720 from qu1 ▸ jrg_c J sg_158_0_8_1_0_1 rfl (by omega))
  exact jX.sub (jsb_c rfl (jsb_c rfl jsb_n)) (ct_X12_nextGround_r125d_5 hD hQ  721 p0 p0 u1 h (by omega) (jr_of rfl (by omega)) (jr_of rfl (by omega)) (jr_of rfl (by omega)) ⟨jeq_0, (Int.le_of_eq (congrArg Int32.toInt qu1)), zp0⟩ (by omega) zp0 qu1 J Sm D)
def fp_X12_parishBy_r125d : jFp := []
set_option maxRecDepth 100000 in
set_option maxHeartbeats 4000000 in
theorem ct_X12_parishBy_r125d_200222 {Dy : jH → Prop} {h0 : jH} {Q : Option Value → jH → Prop} {dr : Int} (hD : jDk Dy) (hQ : ∀ (v : Int32) hx9, (-1) ≤ v.toInt ∧ v.toInt ≤ 11 → jJ jSgM Dy hx9 → jSm fp_X12_parishBy_r125d h0 hx9 → dr = v.toInt → vw hx9 = vw h0 → Q (some (.int v)) hx9) : ∀ (h : jH), jJ jSgM Dy h → jSm fp_X12_parishBy_r125d h0 h → d_X12_parishBy_r125d_200222  (vw h) = dr → vw h = vw h0 → jX m_X12_parishBy 6 0 0 222 [] [.int 0] h 0 0 Q := by
  intro  h    J Sm D EV
  unfold d_X12_parishBy_r125d_200222 at D
  refine x_iret rfl rfl ?_
  exact hQ _ _ (jr_of jk_0 (by omega)) J Sm (D.symm.trans (show 0 = (0 : Int32).toInt from by have := jk_0; omega)) EV
set_option maxRecDepth 100000 in
set_option maxHeartbeats 4000000 in
theorem ct_X12_parishBy_r125d_222 {Dy : jH → Prop} {h0 : jH} {Q : Option Value → jH → Prop} {dr : Int} (hD : jDk Dy) (hQ : ∀ (v : Int32) hx9, (-1) ≤ v.toInt ∧ v.toInt ≤ 11 → jJ jSgM Dy hx9 → jSm fp_X12_parishBy_r125d h0 hx9 → dr = v.toInt → vw hx9 = vw h0 → Q (some (.int v)) hx9) : ∀ (s0 : Int32) (h : jH), (-1) ≤ s0.toInt ∧ s0.toInt ≤ 11 → jJ jSgM Dy h → jSm fp_X12_parishBy_r125d h0 h → d_X12_parishBy_r125d_222  s0.toInt (vw h) = dr → vw h = vw h0 → jX m_X12_parishBy 6 0 0 222 [] [.int s0] h 0 0 Q := by
  intro s0 h y0   J Sm D EV
  unfold d_X12_parishBy_r125d_222 at D
  refine x_iret rfl rfl ?_
  exact hQ _ _ (jr_of rfl (by omega)) J Sm (D.symm.trans (show s0.toInt = s0.toInt from by omega)) EV
set_option maxRecDepth 100000 in
set_option maxHeartbeats 4000000 in
theorem ct_X12_parishBy_r125d_220 {Dy : jH → Prop} {h0 : jH} {Q : Option Value → jH → Prop} {dr : Int} (hD : jDk Dy) (hQ : ∀ (v : Int32) hx9, (-1) ≤ v.toInt ∧ v.toInt ≤ 11 → jJ jSgM Dy hx9 → jSm fp_X12_parishBy_r125d h0 hx9 → dr = v.toInt → vw hx9 = vw h0 → Q (some (.int v)) hx9) : ∀ (l4 : Int32) (h : jH), (-1) ≤ l4.toInt ∧ l4.toInt ≤ 11 → jJ jSgM Dy h → jSm fp_X12_parishBy_r125d h0 h → d_X12_parishBy_r125d_220  l4.toInt (vw h) = dr → vw h = vw h0 → jX m_X12_parishBy 6 0 0 220 [(4, .int l4)] [] h 0 0 Q := by
  intro l4 h y0   J Sm D EV
  unfold d_X12_parishBy_r125d_220 at D
  refine x_iload (x := l4) rfl rfl ?_
  exact jX.sub jsb_n (ct_X12_parishBy_r125d_222 hD hQ  l4 h (jr_of rfl (by omega)) J Sm D EV)
set_option maxRecDepth 100000 in
set_option maxHeartbeats 4000000 in
theorem ct_X12_parishBy_r125d_190 {Dy : jH → Prop} {h0 : jH} {Q : Option Value → jH → Prop} {dr : Int} {K9 : Int → Int → Int → Int → Int → Int → jW → Int} {R9 : Int} (hD : jDk Dy) (hQ : ∀ (v : Int32) hx9, (-1) ≤ v.toInt ∧ v.toInt ≤ 11 → jJ jSgM Dy hx9 → jSm fp_X12_parishBy_r125d h0 hx9 → dr = v.toInt → vw hx9 = vw h0 → Q (some (.int v)) hx9) (k9 : ∀ (l1 : Int32) (l2 : Int32) (l3 : Int32) (l4 : Int32) (l5 : Int32) (l6 : Int32) (h : jH), 100 - l6.toInt < R9 → (-2147483648) ≤ l1.toInt ∧ l1.toInt ≤ 3 → (-1) ≤ l2.toInt ∧ l2.toInt ≤ 599 → 0 ≤ l3.toInt ∧ l3.toInt ≤ 146399 → (-1) ≤ l4.toInt ∧ l4.toInt ≤ 11 → (-1) ≤ l5.toInt ∧ l5.toInt ≤ 146399 → 0 ≤ l6.toInt ∧ l6.toInt ≤ 100 → jJ jSgM Dy h → jSm fp_X12_parishBy_r125d h0 h → K9 l1.toInt l2.toInt l3.toInt l4.toInt l5.toInt l6.toInt (vw h) = dr → vw h = vw h0 → jX m_X12_parishBy 6 0 0 9 [(0, .ref 125), (1, .int l1), (2, .int l2), (3, .int l3), (4, .int l4), (5, .int l5), (6, .int l6)] [] h 0 0 Q) : ∀ (l1 : Int32) (l2 : Int32) (l3 : Int32) (l4 : Int32) (l5 : Int32) (l6 : Int32) (h : jH), (-2147483648) ≤ l1.toInt ∧ l1.toInt ≤ 3 → (-1) ≤ l2.toInt ∧ l2.toInt ≤ 599 → 0 ≤ l3.toInt ∧ l3.toInt ≤ 146399 → (-1) ≤ l4.toInt ∧ l4.toInt ≤ 11 → (-1) ≤ l5.toInt ∧ l5.toInt ≤ 146399 → 0 ≤ l6.toInt ∧ l6.toInt ≤ 99 → 100 - l6.toInt ≤ R9 → jJ jSgM Dy h → jSm fp_X12_parishBy_r125d h0 h → d_X12_parishBy_r125d_190 K9  l1.toInt l2.toInt l3.toInt l4.toInt l5.toInt l6.toInt (vw h) = dr → vw h = vw h0 → jX m_X12_parishBy 6 0 0 190 [(0, .ref 125), (1, .int l1), (2, .int l2), (3, .int l3), (4, .int l4), (5, .int l5), (6, .int l6)] [] h 0 0 Q := by
  intro l1 l2 l3 l4 l5 l6 h y0 y1 y2 y3 y4 y5  m9 J Sm D EV
  unfold d_X12_parishBy_r125d_190 at D
  refine z_iinc (x := l6) (lsx9 := fun v1 => [(6, .int v1), (0, .ref 125), (1, .int l1), (2, .int l2), (3, .int l3), (4, .int l4), (5, .int l5)]) rfl rfl rfl jko_1 (by omega) rfl (fun _ => rfl) (fun v1 ev1 => ?_)
  refine x_goto (tgt := 9) rfl rfl ?_
  try rw [show (l6.toInt + 1) = v1.toInt from by omega] at D
  exact jX.sub (jsb_c rfl (jsb_c rfl (jsb_c rfl (jsb_c rfl (jsb_c rfl (jsb_c rfl (jsb_c rfl jsb_n))))))) (k9 l1 l2 l3 l4 l5 v1 h (by omega) (jr_of rfl (by omega)) (jr_of rfl (by omega)) (jr_of rfl (by omega)) (jr_of rfl (by omega)) (jr_of rfl (by omega)) (jr_of rfl (by omega)) J Sm D EV)
set_option maxRecDepth 100000 in
set_option maxHeartbeats 4000000 in
theorem ct_X12_parishBy_r125d_154 {Dy : jH → Prop} {h0 : jH} {Q : Option Value → jH → Prop} {dr : Int} {K9 : Int → Int → Int → Int → Int → Int → jW → Int} {R9 : Int} (hD : jDk Dy) (hQ : ∀ (v : Int32) hx9, (-1) ≤ v.toInt ∧ v.toInt ≤ 11 → jJ jSgM Dy hx9 → jSm fp_X12_parishBy_r125d h0 hx9 → dr = v.toInt → vw hx9 = vw h0 → Q (some (.int v)) hx9) (k9 : ∀ (l1 : Int32) (l2 : Int32) (l3 : Int32) (l4 : Int32) (l5 : Int32) (l6 : Int32) (h : jH), 100 - l6.toInt < R9 → (-2147483648) ≤ l1.toInt ∧ l1.toInt ≤ 3 → (-1) ≤ l2.toInt ∧ l2.toInt ≤ 599 → 0 ≤ l3.toInt ∧ l3.toInt ≤ 146399 → (-1) ≤ l4.toInt ∧ l4.toInt ≤ 11 → (-1) ≤ l5.toInt ∧ l5.toInt ≤ 146399 → 0 ≤ l6.toInt ∧ l6.toInt ≤ 100 → jJ jSgM Dy h → jSm fp_X12_parishBy_r125d h0 h → K9 l1.toInt l2.toInt l3.toInt l4.toInt l5.toInt l6.toInt (vw h) = dr → vw h = vw h0 → jX m_X12_parishBy 6 0 0 9 [(0, .ref 125), (1, .int l1), (2, .int l2), (3, .int l3), (4, .int l4), (5, .int l5), (6, .int l6)] [] h 0 0 Q) : ∀ (l1 : Int32) (l2 : Int32) (l3 : Int32) (l4 : Int32) (l5 : Int32) (l6 : Int32) (l9 : Int32) (s0 : Int32) (h : jH), 1 ≤ l1.toInt ∧ l1.toInt ≤ 3 → (-1) ≤ l2.toInt ∧ l2.toInt ≤ 599 → 0 ≤ l3.toInt ∧ l3.toInt ≤ 146399 → (-1) ≤ l4.toInt ∧ l4.toInt ≤ 11 → (-1) ≤ l5.toInt ∧ l5.toInt ≤ 146399 → 0 ≤ l6.toInt ∧ l6.toInt ≤ 99 → 0 ≤ l9.toInt ∧ l9.toInt ≤ 1 → 0 ≤ s0.toInt ∧ s0.toInt ≤ 146399 → l1.toInt ≠ 0 → 100 - l6.toInt ≤ R9 → jJ jSgM Dy h → jSm fp_X12_parishBy_r125d h0 h → d_X12_parishBy_r125d_154 K9  l1.toInt l2.toInt l3.toInt l4.toInt l5.toInt l6.toInt l9.toInt s0.toInt (vw h) = dr → vw h = vw h0 → jX m_X12_parishBy 6 0 0 154 [(0, .ref 125), (1, .int l1), (2, .int l2), (3, .int l3), (4, .int l4), (5, .int l5), (6, .int l6), (9, .int l9)] [.int s0] h 0 0 Q := by
  intro l1 l2 l3 l4 l5 l6 l9 s0 h y0 y1 y2 y3 y4 y5 y6 y7 y8  m9 J Sm D EV
  unfold d_X12_parishBy_r125d_154 at D
  refine x_istore (lsx9 := [(10, .int s0), (0, .ref 125), (1, .int l1), (2, .int l2), (3, .int l3), (4, .int l4), (5, .int l5), (6, .int l6), (9, .int l9)]) rfl rfl rfl ?_
  refine x_iload (x := l9) rfl rfl ?_
  refine x_ifeq (tgt := 190) rfl rfl (ti_eq rfl jk_0 ⟨fun c1 => ?_, fun c1 => ?_⟩)
  ·
    rw [if_pos (by omega)] at D
    exact jX.sub (jsb_c rfl (jsb_c rfl (jsb_c rfl (jsb_c rfl (jsb_c rfl (jsb_c rfl (jsb_c rfl jsb_n))))))) (ct_X12_parishBy_r125d_190 hD hQ k9 l1 l2 l3 l4 l5 l6 h (jr_of rfl (by omega)) (jr_of rfl (by omega)) (jr_of rfl (by omega)) (jr_of rfl (by omega)) (jr_of rfl (by omega)) (jr_of rfl (by omega)) (by omega) J Sm D EV)
  ·
    rw [if_neg (by omega)] at D
    refine x_iload (x := s0) rfl rfl ?_
    refine x_iload (x := l5) rfl rfl ?_
    refine x_iclt (tgt := 190) rfl rfl (ti_lt rfl rfl ⟨fun c2 => ?_, fun c2 => ?_⟩)
    ·
      rw [if_pos (by omega)] at D
      exact jX.sub (jsb_c rfl (jsb_c rfl (jsb_c rfl (jsb_c rfl (jsb_c rfl (jsb_c rfl (jsb_c rfl jsb_n))))))) (ct_X12_parishBy_r125d_190 hD hQ k9 l1 l2 l3 l4 l5 l6 h (jr_of rfl (by omega)) (jr_of rfl (by omega)) (jr_of rfl (by omega)) (jr_of rfl (by omega)) (jr_of rfl (by omega)) (jr_of rfl (by omega)) (by omega) J Sm D EV)
    ·
      rw [if_neg (by omega)] at D
      refine x_iload (x := s0) rfl rfl ?_
      refine x_istore (lsx9 := [(5, .int s0), (10, .int s0), (0, .ref 125), (1, .int l1), (2, .int l2), (3, .int l3), (4, .int l4), (6, .int l6), (9, .int l9)]) rfl rfl rfl ?_
      refine x_aloadn (x := 125) rfl rfl ?_
      refine z_getR (N := 92) (b := 126) 12 2 rfl f_12_8 rfl J rfl 16002 ⟨rfl, rfl⟩ rfl ?_
      refine x_ldcw (v := 46540) rfl z_12_700 ?_
      refine x_bipush (v := 6) rfl kb_6 ?_
      refine x_iload (x := l6) rfl rfl ?_
      refine z_imul rfl jk_6 rfl (by omega) (fun v3 ev3 => ?_)
      refine z_iadd rfl jk_46540 rfl (by omega) (fun v4 ev4 => ?_)
      refine x_iconst (v := 2) rfl ki_2 ?_
      refine z_iadd rfl rfl jk_2 (by omega) (fun v5 ev5 => ?_)
      refine z_iald (N := 50660) rfl J rfl sg_126_46540_47140_6_2_3 rfl (by omega) (fun v6 qv6 ev6 => ?_)
      try rw [vrd qv6 (show ((46540 + (6 * l6.toInt)) + 2) = v5.toInt from by omega)] at D
      refine x_istore (lsx9 := [(4, .int v6), (5, .int s0), (10, .int s0), (0, .ref 125), (1, .int l1), (2, .int l2), (3, .int l3), (6, .int l6), (9, .int l9)]) rfl rfl rfl ?_
      exact jX.sub (jsb_c rfl (jsb_c rfl (jsb_c rfl (jsb_c rfl (jsb_c rfl (jsb_c rfl (jsb_c rfl jsb_n))))))) (ct_X12_parishBy_r125d_190 hD hQ k9 l1 l2 l3 v6 s0 l6 h (jr_of rfl (by omega)) (jr_of rfl (by omega)) (jr_of rfl (by omega)) (jr_of rfl (by omega)) (jr_of rfl (by omega)) (jr_of rfl (by omega)) (by omega) J Sm D EV)
set_option maxRecDepth 100000 in
set_option maxHeartbeats 4000000 in
theorem ct_X12_parishBy_r125d_200154 {Dy : jH → Prop} {h0 : jH} {Q : Option Value → jH → Prop} {dr : Int} {K9 : Int → Int → Int → Int → Int → Int → jW → Int} {R9 : Int} (hD : jDk Dy) (hQ : ∀ (v : Int32) hx9, (-1) ≤ v.toInt ∧ v.toInt ≤ 11 → jJ jSgM Dy hx9 → jSm fp_X12_parishBy_r125d h0 hx9 → dr = v.toInt → vw hx9 = vw h0 → Q (some (.int v)) hx9) (k9 : ∀ (l1 : Int32) (l2 : Int32) (l3 : Int32) (l4 : Int32) (l5 : Int32) (l6 : Int32) (h : jH), 100 - l6.toInt < R9 → (-2147483648) ≤ l1.toInt ∧ l1.toInt ≤ 3 → (-1) ≤ l2.toInt ∧ l2.toInt ≤ 599 → 0 ≤ l3.toInt ∧ l3.toInt ≤ 146399 → (-1) ≤ l4.toInt ∧ l4.toInt ≤ 11 → (-1) ≤ l5.toInt ∧ l5.toInt ≤ 146399 → 0 ≤ l6.toInt ∧ l6.toInt ≤ 100 → jJ jSgM Dy h → jSm fp_X12_parishBy_r125d h0 h → K9 l1.toInt l2.toInt l3.toInt l4.toInt l5.toInt l6.toInt (vw h) = dr → vw h = vw h0 → jX m_X12_parishBy 6 0 0 9 [(0, .ref 125), (1, .int l1), (2, .int l2), (3, .int l3), (4, .int l4), (5, .int l5), (6, .int l6)] [] h 0 0 Q) : ∀ (l1 : Int32) (l2 : Int32) (l3 : Int32) (l4 : Int32) (l5 : Int32) (l6 : Int32) (l9 : Int32) (h : jH), 0 ≤ l1.toInt ∧ l1.toInt ≤ 0 → (-1) ≤ l2.toInt ∧ l2.toInt ≤ 599 → 0 ≤ l3.toInt ∧ l3.toInt ≤ 146399 → (-1) ≤ l4.toInt ∧ l4.toInt ≤ 11 → (-1) ≤ l5.toInt ∧ l5.toInt ≤ 146399 → 0 ≤ l6.toInt ∧ l6.toInt ≤ 99 → 0 ≤ l9.toInt ∧ l9.toInt ≤ 1 → 100 - l6.toInt ≤ R9 → jJ jSgM Dy h → jSm fp_X12_parishBy_r125d h0 h → d_X12_parishBy_r125d_200154 K9  l1.toInt l2.toInt l3.toInt l4.toInt l5.toInt l6.toInt l9.toInt (vw h) = dr → vw h = vw h0 → jX m_X12_parishBy 6 0 0 154 [(0, .ref 125), (1, .int l1), (2, .int l2), (3, .int l3), (4, .int l4), (5, .int l5), (6, .int l6), (9, .int l9)] [.int 0] h 0 0 Q := by
  intro l1 l2 l3 l4 l5 l6 l9 h y0 y1 y2 y3 y4 y5 y6  m9 J Sm D EV
  unfold d_X12_parishBy_r125d_200154 at D
  refine x_istore (lsx9 := [(10, .int 0), (0, .ref 125), (1, .int l1), (2, .int l2), (3, .int l3), (4, .int l4), (5, .int l5), (6, .int l6), (9, .int l9)]) rfl rfl rfl ?_
  refine x_iload (x := l9) rfl rfl ?_
  refine x_ifeq (tgt := 190) rfl rfl (ti_eq rfl jk_0 ⟨fun c1 => ?_, fun c1 => ?_⟩)
  ·
    rw [if_pos (by omega)] at D
    exact jX.sub (jsb_c rfl (jsb_c rfl (jsb_c rfl (jsb_c rfl (jsb_c rfl (jsb_c rfl (jsb_c rfl jsb_n))))))) (ct_X12_parishBy_r125d_190 hD hQ k9 l1 l2 l3 l4 l5 l6 h (jr_of rfl (by omega)) (jr_of rfl (by omega)) (jr_of rfl (by omega)) (jr_of rfl (by omega)) (jr_of rfl (by omega)) (jr_of rfl (by omega)) (by omega) J Sm D EV)
  ·
    rw [if_neg (by omega)] at D
    refine x_iload (x := 0) rfl rfl ?_
    refine x_iload (x := l5) rfl rfl ?_
    refine x_iclt (tgt := 190) rfl rfl (ti_lt jk_0 rfl ⟨fun c2 => ?_, fun c2 => ?_⟩)
    ·
      rw [if_pos (by omega)] at D
      exact jX.sub (jsb_c rfl (jsb_c rfl (jsb_c rfl (jsb_c rfl (jsb_c rfl (jsb_c rfl (jsb_c rfl jsb_n))))))) (ct_X12_parishBy_r125d_190 hD hQ k9 l1 l2 l3 l4 l5 l6 h (jr_of rfl (by omega)) (jr_of rfl (by omega)) (jr_of rfl (by omega)) (jr_of rfl (by omega)) (jr_of rfl (by omega)) (jr_of rfl (by omega)) (by omega) J Sm D EV)
    ·
      rw [if_neg (by omega)] at D
      refine x_iload (x := 0) rfl rfl ?_
      refine x_istore (lsx9 := [(5, .int 0), (10, .int 0), (0, .ref 125), (1, .int l1), (2, .int l2), (3, .int l3), (4, .int l4), (6, .int l6), (9, .int l9)]) rfl rfl rfl ?_
      refine x_aloadn (x := 125) rfl rfl ?_
      refine z_getR (N := 92) (b := 126) 12 2 rfl f_12_8 rfl J rfl 16002 ⟨rfl, rfl⟩ rfl ?_
      refine x_ldcw (v := 46540) rfl z_12_700 ?_
      refine x_bipush (v := 6) rfl kb_6 ?_
      refine x_iload (x := l6) rfl rfl ?_
      refine z_imul rfl jk_6 rfl (by omega) (fun v3 ev3 => ?_)
      refine z_iadd rfl jk_46540 rfl (by omega) (fun v4 ev4 => ?_)
      refine x_iconst (v := 2) rfl ki_2 ?_
      refine z_iadd rfl rfl jk_2 (by omega) (fun v5 ev5 => ?_)
      refine z_iald (N := 50660) rfl J rfl sg_126_46540_47140_6_2_3 rfl (by omega) (fun v6 qv6 ev6 => ?_)
      try rw [vrd qv6 (show ((46540 + (6 * l6.toInt)) + 2) = v5.toInt from by omega)] at D
      refine x_istore (lsx9 := [(4, .int v6), (5, .int 0), (10, .int 0), (0, .ref 125), (1, .int l1), (2, .int l2), (3, .int l3), (6, .int l6), (9, .int l9)]) rfl rfl rfl ?_
      exact jX.sub (jsb_c rfl (jsb_c rfl (jsb_c rfl (jsb_c rfl (jsb_c rfl (jsb_c rfl (jsb_c rfl jsb_n))))))) (ct_X12_parishBy_r125d_190 hD hQ k9 l1 l2 l3 v6 0 l6 h (jr_of rfl (by omega)) (jr_of rfl (by omega)) (jr_of rfl (by omega)) (jr_of rfl (by omega)) (jr_of jk_0 (by omega)) (jr_of rfl (by omega)) (by omega) J Sm (by rw [jk_0]; exact D) EV)
set_option maxRecDepth 100000 in
set_option maxHeartbeats 4000000 in
theorem ct_X12_parishBy_r125d_300132 {Dy : jH → Prop} {h0 : jH} {Q : Option Value → jH → Prop} {dr : Int} {K9 : Int → Int → Int → Int → Int → Int → jW → Int} {R9 : Int} (hD : jDk Dy) (hQ : ∀ (v : Int32) hx9, (-1) ≤ v.toInt ∧ v.toInt ≤ 11 → jJ jSgM Dy hx9 → jSm fp_X12_parishBy_r125d h0 hx9 → dr = v.toInt → vw hx9 = vw h0 → Q (some (.int v)) hx9) (k9 : ∀ (l1 : Int32) (l2 : Int32) (l3 : Int32) (l4 : Int32) (l5 : Int32) (l6 : Int32) (h : jH), 100 - l6.toInt < R9 → (-2147483648) ≤ l1.toInt ∧ l1.toInt ≤ 3 → (-1) ≤ l2.toInt ∧ l2.toInt ≤ 599 → 0 ≤ l3.toInt ∧ l3.toInt ≤ 146399 → (-1) ≤ l4.toInt ∧ l4.toInt ≤ 11 → (-1) ≤ l5.toInt ∧ l5.toInt ≤ 146399 → 0 ≤ l6.toInt ∧ l6.toInt ≤ 100 → jJ jSgM Dy h → jSm fp_X12_parishBy_r125d h0 h → K9 l1.toInt l2.toInt l3.toInt l4.toInt l5.toInt l6.toInt (vw h) = dr → vw h = vw h0 → jX m_X12_parishBy 6 0 0 9 [(0, .ref 125), (1, .int l1), (2, .int l2), (3, .int l3), (4, .int l4), (5, .int l5), (6, .int l6)] [] h 0 0 Q) : ∀ (l1 : Int32) (l2 : Int32) (l3 : Int32) (l4 : Int32) (l5 : Int32) (l6 : Int32) (l7 : Int32) (l8 : Int32) (h : jH), 0 ≤ l1.toInt ∧ l1.toInt ≤ 3 → (-1) ≤ l2.toInt ∧ l2.toInt ≤ 599 → 0 ≤ l3.toInt ∧ l3.toInt ≤ 146399 → (-1) ≤ l4.toInt ∧ l4.toInt ≤ 11 → (-1) ≤ l5.toInt ∧ l5.toInt ≤ 146399 → 0 ≤ l6.toInt ∧ l6.toInt ≤ 99 → 0 ≤ l7.toInt ∧ l7.toInt ≤ 146399 → 0 ≤ l8.toInt ∧ l8.toInt ≤ 146399 → 100 - l6.toInt ≤ R9 → jJ jSgM Dy h → jSm fp_X12_parishBy_r125d h0 h → d_X12_parishBy_r125d_300132 K9  l1.toInt l2.toInt l3.toInt l4.toInt l5.toInt l6.toInt l7.toInt l8.toInt (vw h) = dr → vw h = vw h0 → jX m_X12_parishBy 6 0 0 132 [(0, .ref 125), (1, .int l1), (2, .int l2), (3, .int l3), (4, .int l4), (5, .int l5), (6, .int l6), (7, .int l7), (8, .int l8)] [.int 1] h 0 0 Q := by
  intro l1 l2 l3 l4 l5 l6 l7 l8 h y0 y1 y2 y3 y4 y5 y6 y7  m9 J Sm D EV
  unfold d_X12_parishBy_r125d_300132 at D
  refine x_istore (lsx9 := [(9, .int 1), (0, .ref 125), (1, .int l1), (2, .int l2), (3, .int l3), (4, .int l4), (5, .int l5), (6, .int l6), (7, .int l7), (8, .int l8)]) rfl rfl rfl ?_
  refine x_iloadn (x := l1) rfl rfl ?_
  refine x_ifne (tgt := 142) rfl rfl (ti_ne rfl jk_0 ⟨fun c1 => ?_, fun c1 => ?_⟩)
  ·
    rw [if_neg (by omega)] at D
    refine x_iloadn (x := l1) rfl rfl ?_
    refine x_iconst (v := 2) rfl ki_2 ?_
    refine x_icne (tgt := 152) rfl rfl (ti_ne rfl jk_2 ⟨fun c2 => ?_, fun c2 => ?_⟩)
    ·
      rw [if_neg (by omega)] at D
      refine x_iload (x := l8) rfl rfl ?_
      exact jX.sub (jsb_c rfl (jsb_c rfl (jsb_c rfl (jsb_c rfl (jsb_c rfl (jsb_c rfl (jsb_c rfl (jsb_c rfl jsb_n)))))))) (ct_X12_parishBy_r125d_154 hD hQ k9 l1 l2 l3 l4 l5 l6 1 l8 h (jr_of rfl (by omega)) (jr_of rfl (by omega)) (jr_of rfl (by omega)) (jr_of rfl (by omega)) (jr_of rfl (by omega)) (jr_of rfl (by omega)) (jr_of jk_1 (by omega)) (jr_of rfl (by omega)) (by omega) (by omega) J Sm (by rw [jk_1]; exact D) EV)
    ·
      rw [if_pos (by omega)] at D
      refine x_iload (x := l7) rfl rfl ?_
      refine x_goto (tgt := 154) rfl rfl ?_
      exact jX.sub (jsb_c rfl (jsb_c rfl (jsb_c rfl (jsb_c rfl (jsb_c rfl (jsb_c rfl (jsb_c rfl (jsb_c rfl jsb_n)))))))) (ct_X12_parishBy_r125d_154 hD hQ k9 l1 l2 l3 l4 l5 l6 1 l7 h (jr_of rfl (by omega)) (jr_of rfl (by omega)) (jr_of rfl (by omega)) (jr_of rfl (by omega)) (jr_of rfl (by omega)) (jr_of rfl (by omega)) (jr_of jk_1 (by omega)) (jr_of rfl (by omega)) (by omega) (by omega) J Sm (by rw [jk_1]; exact D) EV)
  ·
    rw [if_pos (by omega)] at D
    refine x_iconst (v := 0) rfl ki_0 ?_
    refine x_goto (tgt := 154) rfl rfl ?_
    exact jX.sub (jsb_c rfl (jsb_c rfl (jsb_c rfl (jsb_c rfl (jsb_c rfl (jsb_c rfl (jsb_c rfl (jsb_c rfl jsb_n)))))))) (ct_X12_parishBy_r125d_200154 hD hQ k9 l1 l2 l3 l4 l5 l6 1 h (jr_of rfl (by omega)) (jr_of rfl (by omega)) (jr_of rfl (by omega)) (jr_of rfl (by omega)) (jr_of rfl (by omega)) (jr_of rfl (by omega)) (jr_of jk_1 (by omega)) (by omega) J Sm (by rw [jk_1]; exact D) EV)
set_option maxRecDepth 100000 in
set_option maxHeartbeats 4000000 in
theorem ct_X12_parishBy_r125d_200132 {Dy : jH → Prop} {h0 : jH} {Q : Option Value → jH → Prop} {dr : Int} {K9 : Int → Int → Int → Int → Int → Int → jW → Int} {R9 : Int} (hD : jDk Dy) (hQ : ∀ (v : Int32) hx9, (-1) ≤ v.toInt ∧ v.toInt ≤ 11 → jJ jSgM Dy hx9 → jSm fp_X12_parishBy_r125d h0 hx9 → dr = v.toInt → vw hx9 = vw h0 → Q (some (.int v)) hx9) (k9 : ∀ (l1 : Int32) (l2 : Int32) (l3 : Int32) (l4 : Int32) (l5 : Int32) (l6 : Int32) (h : jH), 100 - l6.toInt < R9 → (-2147483648) ≤ l1.toInt ∧ l1.toInt ≤ 3 → (-1) ≤ l2.toInt ∧ l2.toInt ≤ 599 → 0 ≤ l3.toInt ∧ l3.toInt ≤ 146399 → (-1) ≤ l4.toInt ∧ l4.toInt ≤ 11 → (-1) ≤ l5.toInt ∧ l5.toInt ≤ 146399 → 0 ≤ l6.toInt ∧ l6.toInt ≤ 100 → jJ jSgM Dy h → jSm fp_X12_parishBy_r125d h0 h → K9 l1.toInt l2.toInt l3.toInt l4.toInt l5.toInt l6.toInt (vw h) = dr → vw h = vw h0 → jX m_X12_parishBy 6 0 0 9 [(0, .ref 125), (1, .int l1), (2, .int l2), (3, .int l3), (4, .int l4), (5, .int l5), (6, .int l6)] [] h 0 0 Q) : ∀ (l1 : Int32) (l2 : Int32) (l3 : Int32) (l4 : Int32) (l5 : Int32) (l6 : Int32) (l7 : Int32) (l8 : Int32) (h : jH), 0 ≤ l1.toInt ∧ l1.toInt ≤ 3 → (-1) ≤ l2.toInt ∧ l2.toInt ≤ 599 → 0 ≤ l3.toInt ∧ l3.toInt ≤ 146399 → (-1) ≤ l4.toInt ∧ l4.toInt ≤ 11 → (-1) ≤ l5.toInt ∧ l5.toInt ≤ 146399 → 0 ≤ l6.toInt ∧ l6.toInt ≤ 99 → 0 ≤ l7.toInt ∧ l7.toInt ≤ 146399 → 0 ≤ l8.toInt ∧ l8.toInt ≤ 146399 → 100 - l6.toInt ≤ R9 → jJ jSgM Dy h → jSm fp_X12_parishBy_r125d h0 h → d_X12_parishBy_r125d_200132 K9  l1.toInt l2.toInt l3.toInt l4.toInt l5.toInt l6.toInt l7.toInt l8.toInt (vw h) = dr → vw h = vw h0 → jX m_X12_parishBy 6 0 0 132 [(0, .ref 125), (1, .int l1), (2, .int l2), (3, .int l3), (4, .int l4), (5, .int l5), (6, .int l6), (7, .int l7), (8, .int l8)] [.int 0] h 0 0 Q := by
  intro l1 l2 l3 l4 l5 l6 l7 l8 h y0 y1 y2 y3 y4 y5 y6 y7  m9 J Sm D EV
  unfold d_X12_parishBy_r125d_200132 at D
  refine x_istore (lsx9 := [(9, .int 0), (0, .ref 125), (1, .int l1), (2, .int l2), (3, .int l3), (4, .int l4), (5, .int l5), (6, .int l6), (7, .int l7), (8, .int l8)]) rfl rfl rfl ?_
  refine x_iloadn (x := l1) rfl rfl ?_
  refine x_ifne (tgt := 142) rfl rfl (ti_ne rfl jk_0 ⟨fun c1 => ?_, fun c1 => ?_⟩)
  ·
    rw [if_neg (by omega)] at D
    refine x_iloadn (x := l1) rfl rfl ?_
    refine x_iconst (v := 2) rfl ki_2 ?_
    refine x_icne (tgt := 152) rfl rfl (ti_ne rfl jk_2 ⟨fun c2 => ?_, fun c2 => ?_⟩)
    ·
      rw [if_neg (by omega)] at D
      refine x_iload (x := l8) rfl rfl ?_
      exact jX.sub (jsb_c rfl (jsb_c rfl (jsb_c rfl (jsb_c rfl (jsb_c rfl (jsb_c rfl (jsb_c rfl (jsb_c rfl jsb_n)))))))) (ct_X12_parishBy_r125d_154 hD hQ k9 l1 l2 l3 l4 l5 l6 0 l8 h (jr_of rfl (by omega)) (jr_of rfl (by omega)) (jr_of rfl (by omega)) (jr_of rfl (by omega)) (jr_of rfl (by omega)) (jr_of rfl (by omega)) (jr_of jk_0 (by omega)) (jr_of rfl (by omega)) (by omega) (by omega) J Sm (by rw [jk_0]; exact D) EV)
    ·
      rw [if_pos (by omega)] at D
      refine x_iload (x := l7) rfl rfl ?_
      refine x_goto (tgt := 154) rfl rfl ?_
      exact jX.sub (jsb_c rfl (jsb_c rfl (jsb_c rfl (jsb_c rfl (jsb_c rfl (jsb_c rfl (jsb_c rfl (jsb_c rfl jsb_n)))))))) (ct_X12_parishBy_r125d_154 hD hQ k9 l1 l2 l3 l4 l5 l6 0 l7 h (jr_of rfl (by omega)) (jr_of rfl (by omega)) (jr_of rfl (by omega)) (jr_of rfl (by omega)) (jr_of rfl (by omega)) (jr_of rfl (by omega)) (jr_of jk_0 (by omega)) (jr_of rfl (by omega)) (by omega) (by omega) J Sm (by rw [jk_0]; exact D) EV)
  ·
    rw [if_pos (by omega)] at D
    refine x_iconst (v := 0) rfl ki_0 ?_
    refine x_goto (tgt := 154) rfl rfl ?_
    exact jX.sub (jsb_c rfl (jsb_c rfl (jsb_c rfl (jsb_c rfl (jsb_c rfl (jsb_c rfl (jsb_c rfl (jsb_c rfl jsb_n)))))))) (ct_X12_parishBy_r125d_200154 hD hQ k9 l1 l2 l3 l4 l5 l6 0 h (jr_of rfl (by omega)) (jr_of rfl (by omega)) (jr_of rfl (by omega)) (jr_of rfl (by omega)) (jr_of rfl (by omega)) (jr_of rfl (by omega)) (jr_of jk_0 (by omega)) (by omega) J Sm (by rw [jk_0]; exact D) EV)
set_option maxRecDepth 100000 in
set_option maxHeartbeats 4000000 in
theorem ct_X12_parishBy_r125d_131 {Dy : jH → Prop} {h0 : jH} {Q : Option Value → jH → Prop} {dr : Int} {K9 : Int → Int → Int → Int → Int → Int → jW → Int} {R9 : Int} (hD : jDk Dy) (hQ : ∀ (v : Int32) hx9, (-1) ≤ v.toInt ∧ v.toInt ≤ 11 → jJ jSgM Dy hx9 → jSm fp_X12_parishBy_r125d h0 hx9 → dr = v.toInt → vw hx9 = vw h0 → Q (some (.int v)) hx9) (k9 : ∀ (l1 : Int32) (l2 : Int32) (l3 : Int32) (l4 : Int32) (l5 : Int32) (l6 : Int32) (h : jH), 100 - l6.toInt < R9 → (-2147483648) ≤ l1.toInt ∧ l1.toInt ≤ 3 → (-1) ≤ l2.toInt ∧ l2.toInt ≤ 599 → 0 ≤ l3.toInt ∧ l3.toInt ≤ 146399 → (-1) ≤ l4.toInt ∧ l4.toInt ≤ 11 → (-1) ≤ l5.toInt ∧ l5.toInt ≤ 146399 → 0 ≤ l6.toInt ∧ l6.toInt ≤ 100 → jJ jSgM Dy h → jSm fp_X12_parishBy_r125d h0 h → K9 l1.toInt l2.toInt l3.toInt l4.toInt l5.toInt l6.toInt (vw h) = dr → vw h = vw h0 → jX m_X12_parishBy 6 0 0 9 [(0, .ref 125), (1, .int l1), (2, .int l2), (3, .int l3), (4, .int l4), (5, .int l5), (6, .int l6)] [] h 0 0 Q) : ∀ (l1 : Int32) (l2 : Int32) (l3 : Int32) (l4 : Int32) (l5 : Int32) (l6 : Int32) (l7 : Int32) (l8 : Int32) (h : jH), 1 ≤ l1.toInt ∧ l1.toInt ≤ 3 → (-1) ≤ l2.toInt ∧ l2.toInt ≤ 599 → 0 ≤ l3.toInt ∧ l3.toInt ≤ 146399 → (-1) ≤ l4.toInt ∧ l4.toInt ≤ 11 → (-1) ≤ l5.toInt ∧ l5.toInt ≤ 146399 → 0 ≤ l6.toInt ∧ l6.toInt ≤ 99 → 0 ≤ l7.toInt ∧ l7.toInt ≤ 146399 → 0 ≤ l8.toInt ∧ l8.toInt ≤ 146399 → l1.toInt ≠ 0 → 100 - l6.toInt ≤ R9 → jJ jSgM Dy h → jSm fp_X12_parishBy_r125d h0 h → d_X12_parishBy_r125d_131 K9  l1.toInt l2.toInt l3.toInt l4.toInt l5.toInt l6.toInt l7.toInt l8.toInt (vw h) = dr → vw h = vw h0 → jX m_X12_parishBy 6 0 0 131 [(0, .ref 125), (1, .int l1), (2, .int l2), (3, .int l3), (4, .int l4), (5, .int l5), (6, .int l6), (7, .int l7), (8, .int l8)] [] h 0 0 Q := by
  intro l1 l2 l3 l4 l5 l6 l7 l8 h y0 y1 y2 y3 y4 y5 y6 y7 y8  m9 J Sm D EV
  unfold d_X12_parishBy_r125d_131 at D
  refine x_iconst (v := 0) rfl ki_0 ?_
  exact jX.sub (jsb_c rfl (jsb_c rfl (jsb_c rfl (jsb_c rfl (jsb_c rfl (jsb_c rfl (jsb_c rfl (jsb_c rfl (jsb_c rfl jsb_n))))))))) (ct_X12_parishBy_r125d_200132 hD hQ k9 l1 l2 l3 l4 l5 l6 l7 l8 h (jr_of rfl (by omega)) (jr_of rfl (by omega)) (jr_of rfl (by omega)) (jr_of rfl (by omega)) (jr_of rfl (by omega)) (jr_of rfl (by omega)) (jr_of rfl (by omega)) (jr_of rfl (by omega)) (by omega) J Sm D EV)
set_option maxRecDepth 100000 in
set_option maxHeartbeats 4000000 in
theorem ct_X12_parishBy_r125d_9 {Dy : jH → Prop} {h0 : jH} {Q : Option Value → jH → Prop} {dr : Int} (hD : jDk Dy) (hQ : ∀ (v : Int32) hx9, (-1) ≤ v.toInt ∧ v.toInt ≤ 11 → jJ jSgM Dy hx9 → jSm fp_X12_parishBy_r125d h0 hx9 → dr = v.toInt → vw hx9 = vw h0 → Q (some (.int v)) hx9) : ∀ r : Nat, ∀ (l1 : Int32) (l2 : Int32) (l3 : Int32) (l4 : Int32) (l5 : Int32) (l6 : Int32) (h : jH), 100 - l6.toInt < (r : Int) → (-2147483648) ≤ l1.toInt ∧ l1.toInt ≤ 3 → (-1) ≤ l2.toInt ∧ l2.toInt ≤ 599 → 0 ≤ l3.toInt ∧ l3.toInt ≤ 146399 → (-1) ≤ l4.toInt ∧ l4.toInt ≤ 11 → (-1) ≤ l5.toInt ∧ l5.toInt ≤ 146399 → 0 ≤ l6.toInt ∧ l6.toInt ≤ 100 → jJ jSgM Dy h → jSm fp_X12_parishBy_r125d h0 h → d_X12_parishBy_r125d_9 r l1.toInt l2.toInt l3.toInt l4.toInt l5.toInt l6.toInt (vw h) = dr → vw h = vw h0 → jX m_X12_parishBy 6 0 0 9 [(0, .ref 125), (1, .int l1), (2, .int l2), (3, .int l3), (4, .int l4), (5, .int l5), (6, .int l6)] [] h 0 0 Q := by
  intro r
  induction r with
  | zero =>
    intro l1 l2 l3 l4 l5 l6 h hm y0 y1 y2 y3 y4 y5   J Sm D EV
    exfalso
    omega
  | succ r ih =>
    intro l1 l2 l3 l4 l5 l6 h hm y0 y1 y2 y3 y4 y5   J Sm D EV
    rw [d_X12_parishBy_r125d_9.eq_2] at D
    refine x_iload (x := l6) rfl rfl ?_
    refine x_aloadn (x := 125) rfl rfl ?_
    refine z_getR (N := 92) (b := 126) 12 2 rfl f_12_8 rfl J rfl 16002 ⟨rfl, rfl⟩ rfl ?_
    refine x_iconst (v := 5) rfl ki_5 ?_
    refine z_iald (N := 50660) rfl J rfl sg_126_5_6_1_0_1 jk_5 (by omega) (fun v1 qv1 ev1 => ?_)
    try rw [vrn (n := 5) (by decide) qv1] at D
    refine x_icge (tgt := 196) rfl rfl (ti_ge rfl rfl ⟨fun c2 => ?_, fun c2 => ?_⟩)
    ·
      rw [if_pos (by omega)] at D
      refine x_iloadn (x := l1) rfl rfl ?_
      refine x_ifne (tgt := 220) rfl rfl (ti_ne rfl jk_0 ⟨fun c3 => ?_, fun c3 => ?_⟩)
      ·
        rw [if_neg (by omega)] at D
        exact jX.sub (jsb_c rfl jsb_n) (ct_X12_parishBy_r125d_220 hD hQ  l4 h (jr_of rfl (by omega)) J Sm D EV)
      ·
        rw [if_pos (by omega)] at D
        refine x_iload (x := l4) rfl rfl ?_
        refine x_iconst (v := (-1)) rfl ki_m1 ?_
        refine x_icne (tgt := 220) rfl rfl (ti_ne rfl jk_m1 ⟨fun c4 => ?_, fun c4 => ?_⟩)
        ·
          rw [if_neg (by omega)] at D
          exact jX.sub (jsb_c rfl jsb_n) (ct_X12_parishBy_r125d_220 hD hQ  l4 h (jr_of rfl (by omega)) J Sm D EV)
        ·
          rw [if_pos (by omega)] at D
          refine x_aloadn (x := 125) rfl rfl ?_
          refine x_iloadn (x := l2) rfl rfl ?_
          refine x_iconst (v := 0) rfl ki_0 ?_
          refine x_iloadn (x := l3) rfl rfl ?_
          refine x_inv (N := m_X12_hasPart) (As := [.int l2, .int 0, .int l3]) (b := 125) (st := []) (dx9 := 5) (mc := 0) (ms := 0) (host := "") 12 rfl t_X12_hasPart ⟨Or.inl q_12_691, i_X12_hasPart.1, i_X12_hasPart.2⟩ ⟨by decide, rfl⟩ (congrArg Prod.fst (J.1.1 125 (12, 92) rfl)) rfl (by decide) rfl rfl ⟨by decide, by decide⟩ (jC.of rfl k_X12_hasPart rfl ?_)
          show jX m_X12_hasPart 5 0 0 0 [(0, .ref 125), (1, .int l2), (2, .int 0), (3, .int l3)] [] _ 0 0 _
          refine x_aloadn (x := 125) rfl rfl ?_
          refine x_iloadn (x := l2) rfl rfl ?_
          refine x_iloadn (x := 0) rfl rfl ?_
          refine x_iloadn (x := l3) rfl rfl ?_
          refine x_inv (N := m_X12_mentionOf) (As := [.int l2, .int 0, .int l3]) (b := 125) (st := []) (dx9 := 4) (mc := 0) (ms := 0) (host := "") 12 rfl t_X12_mentionOf ⟨Or.inl q_12_405, i_X12_mentionOf.1, i_X12_mentionOf.2⟩ ⟨by decide, rfl⟩ (congrArg Prod.fst (J.1.1 125 (12, 92) rfl)) rfl (by decide) rfl rfl ⟨by decide, by decide⟩ (sf_X12_mentionOf_r125d (jr_of rfl (by omega)) (jr_of jk_0 (by omega)) (jr_of rfl (by omega)) hD J rfl  (fun v8 h ev8 J S5 X6 X7 => ?_))
          have Sm := jSm_tr rfl Sm S5
          try rw [jk_0] at X6
          try rw [X6] at D
          try rw [← X7] at D
          have EV := X7.trans EV
          show jX m_X12_hasPart 5 0 0 7 [(0, .ref 125), (1, .int l2), (2, .int 0), (3, .int l3)] [.int v8] _ 0 0 _
          refine x_iconst (v := (-1)) rfl ki_m1 ?_
          refine x_iceq (tgt := 15) rfl rfl (ti_eq rfl jk_m1 ⟨fun c9 => ?_, fun c9 => ?_⟩)
          ·
            rw [if_pos (by omega)] at D
            refine x_iconst (v := 0) rfl ki_0 ?_
            refine x_zret rfl rfl (by decide) ?_
            show jX m_X12_parishBy 6 0 0 213 [(0, .ref 125), (1, .int l1), (2, .int l2), (3, .int l3), (4, .int l4), (5, .int l5), (6, .int l6)] [.int 0] _ 0 0 _
            refine x_ifeq (tgt := 220) rfl rfl (ti_eq jk_0 jk_0 (br_t (by omega) ?_))
            exact jX.sub (jsb_c rfl jsb_n) (ct_X12_parishBy_r125d_220 hD hQ  l4 h (jr_of rfl (by omega)) J Sm D EV)
          ·
            rw [if_neg (by omega)] at D
            refine x_iconst (v := 1) rfl ki_1 ?_
            refine x_goto (tgt := 16) rfl rfl ?_
            refine x_zret rfl rfl (by decide) ?_
            show jX m_X12_parishBy 6 0 0 213 [(0, .ref 125), (1, .int l1), (2, .int l2), (3, .int l3), (4, .int l4), (5, .int l5), (6, .int l6)] [.int 1] _ 0 0 _
            refine x_ifeq (tgt := 220) rfl rfl (ti_eq jk_1 jk_0 (br_f (by omega) ?_))
            refine x_iconst (v := 0) rfl ki_0 ?_
            refine x_goto (tgt := 222) rfl rfl ?_
            exact jX.sub jsb_n (ct_X12_parishBy_r125d_200222 hD hQ  h J Sm D EV)
    ·
      rw [if_neg (by omega)] at D
      refine x_aloadn (x := 125) rfl rfl ?_
      refine x_iload (x := l6) rfl rfl ?_
      refine x_iloadn (x := l2) rfl rfl ?_
      refine x_iloadn (x := l1) rfl rfl ?_
      refine x_inv (N := m_X12_isFact) (As := [.int l6, .int l2, .int l1]) (b := 125) (st := []) (dx9 := 5) (mc := 0) (ms := 0) (host := "") 12 rfl t_X12_isFact ⟨Or.inl q_12_697, i_X12_isFact.1, i_X12_isFact.2⟩ ⟨by decide, rfl⟩ (congrArg Prod.fst (J.1.1 125 (12, 92) rfl)) rfl (by decide) rfl rfl ⟨by decide, by decide⟩ (jC.of rfl k_X12_isFact rfl ?_)
      show jX m_X12_isFact 5 0 0 0 [(0, .ref 125), (1, .int l6), (2, .int l2), (3, .int l1)] [] _ 0 0 _
      refine x_ldcw (v := 46540) rfl z_12_700 ?_
      refine x_bipush (v := 6) rfl kb_6 ?_
      refine x_iloadn (x := l6) rfl rfl ?_
      refine z_imul rfl jk_6 rfl (by omega) (fun v10 ev10 => ?_)
      refine z_iadd rfl jk_46540 rfl (by omega) (fun v11 ev11 => ?_)
      refine x_istore (lsx9 := [(4, .int v11), (0, .ref 125), (1, .int l6), (2, .int l2), (3, .int l1)]) rfl rfl rfl ?_
      refine x_aloadn (x := 125) rfl rfl ?_
      refine z_getR (N := 92) (b := 126) 12 2 rfl f_12_8 rfl J rfl 16002 ⟨rfl, rfl⟩ rfl ?_
      refine x_iload (x := v11) rfl rfl ?_
      refine x_iconst (v := 5) rfl ki_5 ?_
      refine z_iadd rfl rfl jk_5 (by omega) (fun v12 ev12 => ?_)
      refine z_iald (N := 50660) rfl J rfl sg_126_46540_47140_6_5_6 rfl (by omega) (fun v13 qv13 ev13 => ?_)
      try rw [vrd qv13 (show ((46540 + (6 * l6.toInt)) + 5) = v12.toInt from by omega)] at D
      refine x_aloadn (x := 125) rfl rfl ?_
      refine z_getI (N := 92) 12 28 rfl f_12_377 rfl J rfl sg_125_28_29_1_0_1 (fun v14 qv14 ev14 => ?_)
      try rw [vrf qv14] at D
      refine x_icgt (tgt := 59) rfl rfl (ti_gt rfl rfl ⟨fun c15 => ?_, fun c15 => ?_⟩)
      ·
        rw [if_pos (by omega)] at D
        refine x_iconst (v := 0) rfl ki_0 ?_
        refine x_zret rfl rfl (by decide) ?_
        show jX m_X12_parishBy 6 0 0 28 [(0, .ref 125), (1, .int l1), (2, .int l2), (3, .int l3), (4, .int l4), (5, .int l5), (6, .int l6)] [.int 0] _ 0 0 _
        refine x_ifne (tgt := 34) rfl rfl (ti_ne jk_0 jk_0 (bn_f (by omega) ?_))
        refine x_goto (tgt := 190) rfl rfl ?_
        exact jX.sub (jsb_c rfl (jsb_c rfl (jsb_c rfl (jsb_c rfl (jsb_c rfl (jsb_c rfl (jsb_c rfl jsb_n))))))) (ct_X12_parishBy_r125d_190 hD hQ ih l1 l2 l3 l4 l5 l6 h (jr_of rfl (by omega)) (jr_of rfl (by omega)) (jr_of rfl (by omega)) (jr_of rfl (by omega)) (jr_of rfl (by omega)) (jr_of rfl (by omega)) (by omega) J Sm D EV)
      ·
        rw [if_neg (by omega)] at D
        refine x_aloadn (x := 125) rfl rfl ?_
        refine z_getR (N := 92) (b := 126) 12 2 rfl f_12_8 rfl J rfl 16002 ⟨rfl, rfl⟩ rfl ?_
        refine x_iload (x := v11) rfl rfl ?_
        refine x_iconst (v := 1) rfl ki_1 ?_
        refine z_iadd rfl rfl jk_1 (by omega) (fun v16 ev16 => ?_)
        refine z_iald (N := 50660) rfl J rfl sg_126_46540_47140_6_1_2 rfl (by omega) (fun v17 qv17 ev17 => ?_)
        try rw [vrd qv17 (show ((46540 + (6 * l6.toInt)) + 1) = v16.toInt from by omega)] at D
        refine x_iloadn (x := l1) rfl rfl ?_
        refine x_icne (tgt := 59) rfl rfl (ti_ne rfl rfl ⟨fun c18 => ?_, fun c18 => ?_⟩)
        ·
          rw [if_neg (by omega)] at D
          refine x_iconst (v := 0) rfl ki_0 ?_
          refine x_zret rfl rfl (by decide) ?_
          show jX m_X12_parishBy 6 0 0 28 [(0, .ref 125), (1, .int l1), (2, .int l2), (3, .int l3), (4, .int l4), (5, .int l5), (6, .int l6)] [.int 0] _ 0 0 _
          refine x_ifne (tgt := 34) rfl rfl (ti_ne jk_0 jk_0 (bn_f (by omega) ?_))
          refine x_goto (tgt := 190) rfl rfl ?_
          exact jX.sub (jsb_c rfl (jsb_c rfl (jsb_c rfl (jsb_c rfl (jsb_c rfl (jsb_c rfl (jsb_c rfl jsb_n))))))) (ct_X12_parishBy_r125d_190 hD hQ ih l1 l2 l3 l4 l5 l6 h (jr_of rfl (by omega)) (jr_of rfl (by omega)) (jr_of rfl (by omega)) (jr_of rfl (by omega)) (jr_of rfl (by omega)) (jr_of rfl (by omega)) (by omega) J Sm D EV)
        ·
          rw [if_pos (by omega)] at D
          refine x_aloadn (x := 125) rfl rfl ?_
          refine z_getR (N := 92) (b := 139) 12 29 rfl f_12_72 rfl J rfl 16029 ⟨rfl, rfl⟩ rfl ?_
          refine x_aloadn (x := 125) rfl rfl ?_
          refine z_getR (N := 92) (b := 126) 12 2 rfl f_12_8 rfl J rfl 16002 ⟨rfl, rfl⟩ rfl ?_
          refine x_iload (x := v11) rfl rfl ?_
          refine z_iald (N := 50660) rfl J rfl sg_126_46540_47140_6_0_1 rfl (by omega) (fun v19 qv19 ev19 => ?_)
          try rw [vrd qv19 (show (46540 + (6 * l6.toInt)) = v11.toInt from by omega)] at D
          refine z_iald (N := 600) rfl J rfl sg_139_0_600_1_0_1 rfl (by omega) (fun v20 qv20 ev20 => ?_)
          try rw [vrd qv20 (show v19.toInt = v19.toInt from by omega)] at D
          refine x_iloadn (x := l2) rfl rfl ?_
          refine x_icne (tgt := 59) rfl rfl (ti_ne rfl rfl ⟨fun c21 => ?_, fun c21 => ?_⟩)
          ·
            rw [if_neg (by omega)] at D
            refine x_iconst (v := 0) rfl ki_0 ?_
            refine x_zret rfl rfl (by decide) ?_
            show jX m_X12_parishBy 6 0 0 28 [(0, .ref 125), (1, .int l1), (2, .int l2), (3, .int l3), (4, .int l4), (5, .int l5), (6, .int l6)] [.int 0] _ 0 0 _
            refine x_ifne (tgt := 34) rfl rfl (ti_ne jk_0 jk_0 (bn_f (by omega) ?_))
            refine x_goto (tgt := 190) rfl rfl ?_
            exact jX.sub (jsb_c rfl (jsb_c rfl (jsb_c rfl (jsb_c rfl (jsb_c rfl (jsb_c rfl (jsb_c rfl jsb_n))))))) (ct_X12_parishBy_r125d_190 hD hQ ih l1 l2 l3 l4 l5 l6 h (jr_of rfl (by omega)) (jr_of rfl (by omega)) (jr_of rfl (by omega)) (jr_of rfl (by omega)) (jr_of rfl (by omega)) (jr_of rfl (by omega)) (by omega) J Sm D EV)
          ·
            rw [if_pos (by omega)] at D
            refine x_iconst (v := 1) rfl ki_1 ?_
            refine x_goto (tgt := 60) rfl rfl ?_
            refine x_zret rfl rfl (by decide) ?_
            show jX m_X12_parishBy 6 0 0 28 [(0, .ref 125), (1, .int l1), (2, .int l2), (3, .int l3), (4, .int l4), (5, .int l5), (6, .int l6)] [.int 1] _ 0 0 _
            refine x_ifne (tgt := 34) rfl rfl (ti_ne jk_1 jk_0 (bn_t (by omega) ?_))
            refine x_aloadn (x := 125) rfl rfl ?_
            refine z_getR (N := 92) (b := 126) 12 2 rfl f_12_8 rfl J rfl 16002 ⟨rfl, rfl⟩ rfl ?_
            refine x_ldcw (v := 46540) rfl z_12_700 ?_
            refine x_bipush (v := 6) rfl kb_6 ?_
            refine x_iload (x := l6) rfl rfl ?_
            refine z_imul rfl jk_6 rfl (by omega) (fun v22 ev22 => ?_)
            refine z_iadd rfl jk_46540 rfl (by omega) (fun v23 ev23 => ?_)
            refine x_iconst (v := 3) rfl ki_3 ?_
            refine z_iadd rfl rfl jk_3 (by omega) (fun v24 ev24 => ?_)
            refine z_iald (N := 50660) rfl J rfl sg_126_46540_47140_6_3_4 rfl (by omega) (fun v25 qv25 ev25 => ?_)
            try rw [vrd qv25 (show ((46540 + (6 * l6.toInt)) + 3) = v24.toInt from by omega)] at D
            refine x_istore (lsx9 := [(7, .int v25), (0, .ref 125), (1, .int l1), (2, .int l2), (3, .int l3), (4, .int l4), (5, .int l5), (6, .int l6)]) rfl rfl rfl ?_
            refine x_aloadn (x := 125) rfl rfl ?_
            refine z_getR (N := 92) (b := 126) 12 2 rfl f_12_8 rfl J rfl 16002 ⟨rfl, rfl⟩ rfl ?_
            refine x_ldcw (v := 46540) rfl z_12_700 ?_
            refine x_bipush (v := 6) rfl kb_6 ?_
            refine x_iload (x := l6) rfl rfl ?_
            refine z_imul rfl jk_6 rfl (by omega) (fun v26 ev26 => ?_)
            refine z_iadd rfl jk_46540 rfl (by omega) (fun v27 ev27 => ?_)
            refine x_iconst (v := 4) rfl ki_4 ?_
            refine z_iadd rfl rfl jk_4 (by omega) (fun v28 ev28 => ?_)
            refine z_iald (N := 50660) rfl J rfl sg_126_46540_47140_6_4_5 rfl (by omega) (fun v29 qv29 ev29 => ?_)
            try rw [vrd qv29 (show ((46540 + (6 * l6.toInt)) + 4) = v28.toInt from by omega)] at D
            refine x_istore (lsx9 := [(8, .int v29), (7, .int v25), (0, .ref 125), (1, .int l1), (2, .int l2), (3, .int l3), (4, .int l4), (5, .int l5), (6, .int l6)]) rfl rfl rfl ?_
            refine x_iloadn (x := l1) rfl rfl ?_
            refine x_ifne (tgt := 88) rfl rfl (ti_ne rfl jk_0 ⟨fun c30 => ?_, fun c30 => ?_⟩)
            ·
              rw [if_neg (by omega)] at D
              refine x_iloadn (x := l1) rfl rfl ?_
              refine x_iconst (v := 2) rfl ki_2 ?_
              refine x_icne (tgt := 110) rfl rfl (ti_ne rfl jk_2 ⟨fun c31 => ?_, fun c31 => ?_⟩)
              ·
                rw [if_neg (by omega)] at D
                refine x_iload (x := v29) rfl rfl ?_
                refine x_iload (x := v25) rfl rfl ?_
                refine z_isub rfl rfl rfl (by omega) (fun v32 ev32 => ?_)
                refine x_sipush (v := 365) rfl ks_365 ?_
                refine x_iclt (tgt := 131) rfl rfl (ti_lt rfl jk_365 ⟨fun c33 => ?_, fun c33 => ?_⟩)
                ·
                  rw [if_pos (by omega)] at D
                  exact jX.sub (jsb_c rfl (jsb_c rfl (jsb_c rfl (jsb_c rfl (jsb_c rfl (jsb_c rfl (jsb_c rfl (jsb_c rfl (jsb_c rfl jsb_n))))))))) (ct_X12_parishBy_r125d_131 hD hQ ih l1 l2 l3 l4 l5 l6 v25 v29 h (jr_of rfl (by omega)) (jr_of rfl (by omega)) (jr_of rfl (by omega)) (jr_of rfl (by omega)) (jr_of rfl (by omega)) (jr_of rfl (by omega)) (jr_of rfl (by omega)) (jr_of rfl (by omega)) (by omega) (by omega) J Sm D EV)
                ·
                  rw [if_neg (by omega)] at D
                  refine x_iload (x := v29) rfl rfl ?_
                  refine x_iloadn (x := l3) rfl rfl ?_
                  refine x_icgt (tgt := 131) rfl rfl (ti_gt rfl rfl ⟨fun c34 => ?_, fun c34 => ?_⟩)
                  ·
                    rw [if_pos (by omega)] at D
                    exact jX.sub (jsb_c rfl (jsb_c rfl (jsb_c rfl (jsb_c rfl (jsb_c rfl (jsb_c rfl (jsb_c rfl (jsb_c rfl (jsb_c rfl jsb_n))))))))) (ct_X12_parishBy_r125d_131 hD hQ ih l1 l2 l3 l4 l5 l6 v25 v29 h (jr_of rfl (by omega)) (jr_of rfl (by omega)) (jr_of rfl (by omega)) (jr_of rfl (by omega)) (jr_of rfl (by omega)) (jr_of rfl (by omega)) (jr_of rfl (by omega)) (jr_of rfl (by omega)) (by omega) (by omega) J Sm D EV)
                  ·
                    rw [if_neg (by omega)] at D
                    refine x_iconst (v := 1) rfl ki_1 ?_
                    refine x_goto (tgt := 132) rfl rfl ?_
                    exact jX.sub (jsb_c rfl (jsb_c rfl (jsb_c rfl (jsb_c rfl (jsb_c rfl (jsb_c rfl (jsb_c rfl (jsb_c rfl (jsb_c rfl jsb_n))))))))) (ct_X12_parishBy_r125d_300132 hD hQ ih l1 l2 l3 l4 l5 l6 v25 v29 h (jr_of rfl (by omega)) (jr_of rfl (by omega)) (jr_of rfl (by omega)) (jr_of rfl (by omega)) (jr_of rfl (by omega)) (jr_of rfl (by omega)) (jr_of rfl (by omega)) (jr_of rfl (by omega)) (by omega) J Sm D EV)
              ·
                rw [if_pos (by omega)] at D
                refine x_iload (x := v25) rfl rfl ?_
                refine x_iloadn (x := l3) rfl rfl ?_
                refine x_bipush (v := 40) rfl kb_40 ?_
                refine z_isub rfl rfl jk_40 (by omega) (fun v35 ev35 => ?_)
                refine x_icgt (tgt := 106) rfl rfl (ti_gt rfl rfl ⟨fun c36 => ?_, fun c36 => ?_⟩)
                ·
                  rw [if_pos (by omega)] at D
                  refine x_iconst (v := 0) rfl ki_0 ?_
                  refine x_goto (tgt := 132) rfl rfl ?_
                  exact jX.sub (jsb_c rfl (jsb_c rfl (jsb_c rfl (jsb_c rfl (jsb_c rfl (jsb_c rfl (jsb_c rfl (jsb_c rfl (jsb_c rfl jsb_n))))))))) (ct_X12_parishBy_r125d_200132 hD hQ ih l1 l2 l3 l4 l5 l6 v25 v29 h (jr_of rfl (by omega)) (jr_of rfl (by omega)) (jr_of rfl (by omega)) (jr_of rfl (by omega)) (jr_of rfl (by omega)) (jr_of rfl (by omega)) (jr_of rfl (by omega)) (jr_of rfl (by omega)) (by omega) J Sm D EV)
                ·
                  rw [if_neg (by omega)] at D
                  refine x_iconst (v := 1) rfl ki_1 ?_
                  refine x_goto (tgt := 132) rfl rfl ?_
                  exact jX.sub (jsb_c rfl (jsb_c rfl (jsb_c rfl (jsb_c rfl (jsb_c rfl (jsb_c rfl (jsb_c rfl (jsb_c rfl (jsb_c rfl jsb_n))))))))) (ct_X12_parishBy_r125d_300132 hD hQ ih l1 l2 l3 l4 l5 l6 v25 v29 h (jr_of rfl (by omega)) (jr_of rfl (by omega)) (jr_of rfl (by omega)) (jr_of rfl (by omega)) (jr_of rfl (by omega)) (jr_of rfl (by omega)) (jr_of rfl (by omega)) (jr_of rfl (by omega)) (by omega) J Sm D EV)
            ·
              rw [if_pos (by omega)] at D
              refine x_iload (x := v25) rfl rfl ?_
              refine x_iloadn (x := l3) rfl rfl ?_
              refine x_icgt (tgt := 84) rfl rfl (ti_gt rfl rfl ⟨fun c37 => ?_, fun c37 => ?_⟩)
              ·
                rw [if_pos (by omega)] at D
                refine x_iconst (v := 0) rfl ki_0 ?_
                refine x_goto (tgt := 132) rfl rfl ?_
                exact jX.sub (jsb_c rfl (jsb_c rfl (jsb_c rfl (jsb_c rfl (jsb_c rfl (jsb_c rfl (jsb_c rfl (jsb_c rfl (jsb_c rfl jsb_n))))))))) (ct_X12_parishBy_r125d_200132 hD hQ ih l1 l2 l3 l4 l5 l6 v25 v29 h (jr_of rfl (by omega)) (jr_of rfl (by omega)) (jr_of rfl (by omega)) (jr_of rfl (by omega)) (jr_of rfl (by omega)) (jr_of rfl (by omega)) (jr_of rfl (by omega)) (jr_of rfl (by omega)) (by omega) J Sm D EV)
              ·
                rw [if_neg (by omega)] at D
                refine x_iconst (v := 1) rfl ki_1 ?_
                refine x_goto (tgt := 132) rfl rfl ?_
                exact jX.sub (jsb_c rfl (jsb_c rfl (jsb_c rfl (jsb_c rfl (jsb_c rfl (jsb_c rfl (jsb_c rfl (jsb_c rfl (jsb_c rfl jsb_n))))))))) (ct_X12_parishBy_r125d_300132 hD hQ ih l1 l2 l3 l4 l5 l6 v25 v29 h (jr_of rfl (by omega)) (jr_of rfl (by omega)) (jr_of rfl (by omega)) (jr_of rfl (by omega)) (jr_of rfl (by omega)) (jr_of rfl (by omega)) (jr_of rfl (by omega)) (jr_of rfl (by omega)) (by omega) J Sm D EV)
set_option maxRecDepth 100000 in
set_option maxHeartbeats 4000000 in
theorem sf_X12_parishBy_r125d {Dy : jH → Prop} {h : jH} {Q : Option Value → jH → Prop} {dr : Int} {a1 : Int32} {a2 : Int32} {a3 : Int32} (y1 : (-2147483648) ≤ a1.toInt ∧ a1.toInt ≤ 3) (y2 : (-1) ≤ a2.toInt ∧ a2.toInt ≤ 599) (y3 : 0 ≤ a3.toInt ∧ a3.toInt ≤ 146399) (hD : jDk Dy) (J : jJ jSgM Dy h) (D : d_X12_parishBy_r125d a1.toInt a2.toInt a3.toInt (vw h) = dr) (hQ : ∀ (v : Int32) hx9, (-1) ≤ v.toInt ∧ v.toInt ≤ 11 → jJ jSgM Dy hx9 → jSm fp_X12_parishBy_r125d h hx9 → dr = v.toInt → vw hx9 = vw h → Q (some (.int v)) hx9) : jC m_X12_parishBy 6 0 0 [.ref 125, .int a1, .int a2, .int a3] h Q := by
  refine jC.of rfl k_X12_parishBy rfl ?_
  have Sm := jSm_rf fp_X12_parishBy_r125d h
  show jX m_X12_parishBy 6 0 0 0 [(0, .ref 125), (1, .int a1), (2, .int a2), (3, .int a3)] [] _ 0 0 _
  unfold d_X12_parishBy_r125d at D
  have EV : vw h = vw h := rfl
  refine x_iconst (v := (-1)) rfl ki_m1 ?_
  refine x_istore (lsx9 := [(4, .int (-1)), (0, .ref 125), (1, .int a1), (2, .int a2), (3, .int a3)]) rfl rfl rfl ?_
  refine x_iconst (v := (-1)) rfl ki_m1 ?_
  refine x_istore (lsx9 := [(5, .int (-1)), (4, .int (-1)), (0, .ref 125), (1, .int a1), (2, .int a2), (3, .int a3)]) rfl rfl rfl ?_
  refine x_iconst (v := 0) rfl ki_0 ?_
  refine x_istore (lsx9 := [(6, .int 0), (5, .int (-1)), (4, .int (-1)), (0, .ref 125), (1, .int a1), (2, .int a2), (3, .int a3)]) rfl rfl rfl ?_
  exact jX.sub (jsb_c rfl (jsb_c rfl (jsb_c rfl (jsb_c rfl (jsb_c rfl (jsb_c rfl (jsb_c rfl jsb_n))))))) (ct_X12_parishBy_r125d_9 hD hQ  101 a1 a2 a3 (-1) (-1) 0 h (by have := jk_0; omega) (jr_of rfl (by omega)) (jr_of rfl (by omega)) (jr_of rfl (by omega)) (jr_of jk_m1 (by omega)) (jr_of jk_m1 (by omega)) (jr_of jk_0 (by omega)) J Sm (by rw [jk_m1, jk_0]; exact D) EV)
def fp_X12_belongs_r125d : jFp := [(125, 32, 33), (125, 33, 34), (125, 34, 35), (125, 35, 36), (125, 57, 58), (125, 61, 62), (125, 62, 63), (125, 63, 64), (125, 74, 75), (125, 75, 76), (125, 76, 77), (152, 0, 360), (153, 0, 30), (154, 0, 400), (156, 0, 8), (157, 0, 8), (158, 0, 8), (159, 0, 8), (160, 0, 8), (161, 0, 8), (162, 0, 40), (163, 0, 40), (164, 0, 40)]
set_option maxRecDepth 100000 in
set_option maxHeartbeats 4000000 in
theorem ct_X12_belongs_r125d_186 {Dy : jH → Prop} {h0 : jH} {Q : Option Value → jH → Prop} {dr : (Int × jW)} {K26 : Int → Int → jW → (Int × jW)} {R26 : Int} (hD : jDk Dy) (hQ : ∀ (v : Int32) hx9, (-1) ≤ v.toInt ∧ v.toInt ≤ 11 → jJ jSgM Dy hx9 → jSm fp_X12_belongs_r125d h0 hx9 → dr.1 = v.toInt → dr.2 = vw hx9 → Q (some (.int v)) hx9) (k26 : ∀ (l3 : Int32) (l4 : Int32) (g0 : Int32) (h : jH), jbm h < R26 → (-1) ≤ l3.toInt ∧ l3.toInt ≤ 11 → 0 ≤ l4.toInt ∧ l4.toInt ≤ 1 → (-1) ≤ g0.toInt ∧ g0.toInt ≤ 6 → (l4.toInt = 0 ∨ g0.toInt ≤ 5) → jiv h 125 74 = g0 → jJ jSgM Dy h → jSm fp_X12_belongs_r125d h0 h → K26 l3.toInt l4.toInt (vw h) = dr → jX m_X12_belongs 12 0 0 26 [(0, .ref 125), (3, .int l3), (4, .int l4)] [] h 0 0 Q) : ∀ (l3 : Int32) (l4 : Int32) (g0 : Int32) (h : jH), (-1) ≤ l3.toInt ∧ l3.toInt ≤ 11 → 0 ≤ l4.toInt ∧ l4.toInt ≤ 1 → (-1) ≤ g0.toInt ∧ g0.toInt ≤ 6 → (l4.toInt = 0 ∨ g0.toInt ≤ 5) → jiv h 125 74 = g0 → jbm h < R26 → jJ jSgM Dy h → jSm fp_X12_belongs_r125d h0 h → d_X12_belongs_r125d_186 K26  l3.toInt l4.toInt (vw h) = dr → jX m_X12_belongs 12 0 0 186 [(0, .ref 125), (3, .int l3), (4, .int l4)] [] h 0 0 Q := by
  intro l3 l4 g0 h y0 y1 y2 y3 z0 m26 J Sm D
  unfold d_X12_belongs_r125d_186 at D
  try rw [vrf z0] at D
  refine x_goto (tgt := 26) rfl rfl ?_
  exact jX.sub (jsb_c rfl (jsb_c rfl (jsb_c rfl jsb_n))) (k26 l3 l4 g0 h m26 (jr_of rfl (by omega)) (jr_of rfl (by omega)) (jr_of rfl (by omega)) (by omega) z0 J Sm D)
set_option maxRecDepth 100000 in
set_option maxHeartbeats 4000000 in
theorem ct_X12_belongs_r125d_126 {Dy : jH → Prop} {h0 : jH} {Q : Option Value → jH → Prop} {dr : (Int × jW)} {K26 : Int → Int → jW → (Int × jW)} {R26 : Int} (hD : jDk Dy) (hQ : ∀ (v : Int32) hx9, (-1) ≤ v.toInt ∧ v.toInt ≤ 11 → jJ jSgM Dy hx9 → jSm fp_X12_belongs_r125d h0 hx9 → dr.1 = v.toInt → dr.2 = vw hx9 → Q (some (.int v)) hx9) (k26 : ∀ (l3 : Int32) (l4 : Int32) (g0 : Int32) (h : jH), jbm h < R26 → (-1) ≤ l3.toInt ∧ l3.toInt ≤ 11 → 0 ≤ l4.toInt ∧ l4.toInt ≤ 1 → (-1) ≤ g0.toInt ∧ g0.toInt ≤ 6 → (l4.toInt = 0 ∨ g0.toInt ≤ 5) → jiv h 125 74 = g0 → jJ jSgM Dy h → jSm fp_X12_belongs_r125d h0 h → K26 l3.toInt l4.toInt (vw h) = dr → jX m_X12_belongs 12 0 0 26 [(0, .ref 125), (3, .int l3), (4, .int l4)] [] h 0 0 Q) : ∀ (l3 : Int32) (l4 : Int32) (l5 : Int32) (s0 : Int32) (g0 : Int32) (h : jH), (-1) ≤ l3.toInt ∧ l3.toInt ≤ (-1) → 0 ≤ l4.toInt ∧ l4.toInt ≤ 0 → 0 ≤ l5.toInt ∧ l5.toInt ≤ 6 → 0 ≤ g0.toInt ∧ g0.toInt ≤ 6 → jiv h 125 74 = l5 → (s0.toInt = -1 ∨ jbm h + 2 * jbw l5.toNatClampNeg ≤ R26) → jiv h 125 74 = g0 → jbm h ≤ R26 → jJ jSgM Dy h → jSm fp_X12_belongs_r125d h0 h → d_X12_belongs_r125d_126 K26  l3.toInt l4.toInt l5.toInt s0.toInt (vw h) = dr → jX m_X12_belongs 12 0 0 126 [(0, .ref 125), (3, .int l3), (4, .int l4), (5, .int l5)] [.int s0] h 0 0 Q := by
  intro l3 l4 l5 s0 g0 h y0 y1 y2 y3 C0 C1 z0 m26 J Sm D
  have es0 := jfull s0
  unfold d_X12_belongs_r125d_126 at D
  try rw [vrf z0] at D
  have gl : g0.toInt = l5.toInt := congrArg Int32.toInt (z0.symm.trans C0)
  refine x_istore (lsx9 := [(6, .int s0), (0, .ref 125), (3, .int l3), (4, .int l4), (5, .int l5)]) rfl rfl rfl ?_
  refine x_iload (x := s0) rfl rfl ?_
  refine x_iconst (v := (-1)) rfl ki_m1 ?_
  refine x_icne (tgt := 150) rfl rfl (ti_ne rfl jk_m1 ⟨fun c1 => ?_, fun c1 => ?_⟩)
  ·
    rw [if_neg (by omega)] at D
    refine x_iload (x := s0) rfl rfl ?_
    refine x_iconst (v := 4) rfl ki_4 ?_
    refine x_icge (tgt := 180) rfl rfl (ti_ge rfl jk_4 ⟨fun c2 => ?_, fun c2 => ?_⟩)
    ·
      rw [if_pos (by omega)] at D
      refine x_aloadn (x := 125) rfl rfl ?_
      refine x_iload (x := s0) rfl rfl ?_
      refine x_inv (N := m_X12_askOn) (As := [.int s0]) (b := 125) (st := []) (dx9 := 6) (mc := 0) (ms := 0) (host := "") 12 rfl t_X12_askOn ⟨Or.inl q_12_789, i_X12_askOn.1, i_X12_askOn.2⟩ ⟨by decide, rfl⟩ (congrArg Prod.fst (J.1.1 125 (12, 92) rfl)) rfl (by decide) rfl rfl ⟨by decide, by decide⟩ (sf_X12_askOn_r125d (jr_of rfl (by omega)) hD J z0 (by omega) rfl  (fun h J S3 u4 qu4 ru4 P5 X6 => ?_))
      have Sm := jSm_tr rfl Sm S3
      rw [X6] at D
      have eu4 := (show (-1) ≤ u4.toInt ∧ u4.toInt ≤ 6 from qu4 ▸ jrg_f J sg_125_74_75_1_0_1)
      try rw [vrf qu4] at D
      show jX m_X12_belongs 12 0 0 186 [(6, .int s0), (0, .ref 125), (3, .int l3), (4, .int l4), (5, .int l5)] [] _ 0 0 _
      exact jX.sub (jsb_c rfl (jsb_c rfl (jsb_c rfl jsb_n))) (ct_X12_belongs_r125d_186 hD hQ k26 l3 l4 u4 h (jr_of rfl (by omega)) (jr_of rfl (by omega)) (jr_of rfl (by omega)) (by omega) qu4 (by have q := jbm_ao P5 (jp74 J) C0 (by omega); have := C1; omega) J Sm D)
    ·
      rw [if_neg (by omega)] at D
      refine x_aloadn (x := 125) rfl rfl ?_
      refine x_iload (x := s0) rfl rfl ?_
      refine x_aloadn (x := 125) rfl rfl ?_
      refine z_getR (N := 92) (b := 156) 12 68 rfl f_12_126 rfl J rfl 16068 ⟨rfl, rfl⟩ rfl ?_
      refine x_iload (x := l5) rfl rfl ?_
      refine z_iald (N := 8) rfl J rfl sg_156_0_8_1_0_1 rfl (by omega) (fun v7 qv7 ev7 => ?_)
      try rw [vrd qv7 (show l5.toInt = l5.toInt from by omega)] at D
      refine x_aloadn (x := 125) rfl rfl ?_
      refine z_getR (N := 92) (b := 157) 12 69 rfl f_12_129 rfl J rfl 16069 ⟨rfl, rfl⟩ rfl ?_
      refine x_iload (x := l5) rfl rfl ?_
      refine z_iald (N := 8) rfl J rfl sg_157_0_8_1_0_1 rfl (by omega) (fun v8 qv8 ev8 => ?_)
      try rw [vrd qv8 (show l5.toInt = l5.toInt from by omega)] at D
      refine x_inv (N := m_X12_parishBy) (As := [.int s0, .int v7, .int v8]) (b := 125) (st := []) (dx9 := 6) (mc := 0) (ms := 0) (host := "") 12 rfl t_X12_parishBy ⟨Or.inl q_12_786, i_X12_parishBy.1, i_X12_parishBy.2⟩ ⟨by decide, rfl⟩ (congrArg Prod.fst (J.1.1 125 (12, 92) rfl)) rfl (by decide) rfl rfl ⟨by decide, by decide⟩ (sf_X12_parishBy_r125d (jr_of rfl (by omega)) (jr_of rfl (by omega)) (jr_of rfl (by omega)) hD J rfl  (fun v12 h ev12 J S9 X10 X11 => ?_))
      have Sm := jSm_tr rfl Sm S9
      try rw [X10] at D
      try rw [← X11] at D
      show jX m_X12_belongs 12 0 0 176 [(6, .int s0), (0, .ref 125), (3, .int l3), (4, .int l4), (5, .int l5)] [.int v12] _ 0 0 _
      refine x_istoren (lsx9 := [(3, .int v12), (6, .int s0), (0, .ref 125), (4, .int l4), (5, .int l5)]) rfl rfl rfl ?_
      refine x_goto (tgt := 186) rfl rfl ?_
      exact jX.sub (jsb_c rfl (jsb_c rfl (jsb_c rfl jsb_n))) (ct_X12_belongs_r125d_186 hD hQ k26 v12 l4 g0 h (jr_of rfl (by omega)) (jr_of rfl (by omega)) (jr_of rfl (by omega)) (by omega) (jmc S9 rfl z0) (by have q := jbm_e (jmc S9 rfl rfl) (jeq_c S9 rfl jeq_0) (jeq_c S9 rfl jeq_0); have := jbw_pos l5.toNatClampNeg; have := C1; omega) J Sm D)
  ·
    rw [if_pos (by omega)] at D
    refine x_aloadn (x := 125) rfl rfl ?_
    refine x_dup rfl rfl ?_
    refine z_getM (N := 92) (v := g0) 12 74 rfl f_12_771 rfl J rfl z0 ?_
    refine x_iconst (v := 1) rfl ki_1 ?_
    refine z_isub rfl rfl jk_1 (by omega) (fun v13 ev13 => ?_)
    refine z_putI (N := 92) (w := v13.toInt) 12 74 rfl f_12_771 rfl (jfin_no TX12 RX12 92 rfl rfl) hD J Sm rfl rfl rfl (pw_125_74 (by omega)) rfl (fun h w14 J Sm => ?_)
    rw [vwf w14 (show (g0.toInt - 1) = v13.toInt from by omega)] at D
    refine x_iconst (v := 1) rfl ki_1 ?_
    refine x_istore (lsx9 := [(4, .int 1), (6, .int s0), (0, .ref 125), (3, .int l3), (5, .int l5)]) rfl rfl rfl ?_
    refine x_goto (tgt := 186) rfl rfl ?_
    exact jX.sub (jsb_c rfl (jsb_c rfl (jsb_c rfl jsb_n))) (ct_X12_belongs_r125d_186 hD hQ k26 l3 1 v13 h (jr_of rfl (by omega)) (jr_of jk_1 (by omega)) (jr_of rfl (by omega)) (by have := jk_1; omega) (jmw w14) (by have q := jbm_pop C0 (by omega) w14 (by omega) (jp158 J _ (by have := jcl_of (d := l5) (by omega); omega)).2; omega) J Sm (by rw [jk_1]; exact D))
set_option maxRecDepth 100000 in
set_option maxHeartbeats 4000000 in
theorem ct_X12_belongs_r125d_100126 {Dy : jH → Prop} {h0 : jH} {Q : Option Value → jH → Prop} {dr : (Int × jW)} {K26 : Int → Int → jW → (Int × jW)} {R26 : Int} (hD : jDk Dy) (hQ : ∀ (v : Int32) hx9, (-1) ≤ v.toInt ∧ v.toInt ≤ 11 → jJ jSgM Dy hx9 → jSm fp_X12_belongs_r125d h0 hx9 → dr.1 = v.toInt → dr.2 = vw hx9 → Q (some (.int v)) hx9) (k26 : ∀ (l3 : Int32) (l4 : Int32) (g0 : Int32) (h : jH), jbm h < R26 → (-1) ≤ l3.toInt ∧ l3.toInt ≤ 11 → 0 ≤ l4.toInt ∧ l4.toInt ≤ 1 → (-1) ≤ g0.toInt ∧ g0.toInt ≤ 6 → (l4.toInt = 0 ∨ g0.toInt ≤ 5) → jiv h 125 74 = g0 → jJ jSgM Dy h → jSm fp_X12_belongs_r125d h0 h → K26 l3.toInt l4.toInt (vw h) = dr → jX m_X12_belongs 12 0 0 26 [(0, .ref 125), (3, .int l3), (4, .int l4)] [] h 0 0 Q) : ∀ (l3 : Int32) (l4 : Int32) (l5 : Int32) (g0 : Int32) (h : jH), 0 ≤ l3.toInt ∧ l3.toInt ≤ 11 → 0 ≤ l4.toInt ∧ l4.toInt ≤ 0 → 0 ≤ l5.toInt ∧ l5.toInt ≤ 6 → 0 ≤ g0.toInt ∧ g0.toInt ≤ 6 → jiv h 125 74 = l5 → jiv h 125 74 = g0 → jbm h ≤ R26 → jJ jSgM Dy h → jSm fp_X12_belongs_r125d h0 h → d_X12_belongs_r125d_100126 K26  l3.toInt l4.toInt l5.toInt (vw h) = dr → jX m_X12_belongs 12 0 0 126 [(0, .ref 125), (3, .int l3), (4, .int l4), (5, .int l5)] [.int (-1)] h 0 0 Q := by
  intro l3 l4 l5 g0 h y0 y1 y2 y3 C0 z0 m26 J Sm D
  unfold d_X12_belongs_r125d_100126 at D
  try rw [vrf z0] at D
  have gl : g0.toInt = l5.toInt := congrArg Int32.toInt (z0.symm.trans C0)
  refine x_istore (lsx9 := [(6, .int (-1)), (0, .ref 125), (3, .int l3), (4, .int l4), (5, .int l5)]) rfl rfl rfl ?_
  refine x_iload (x := (-1)) rfl rfl ?_
  refine x_iconst (v := (-1)) rfl ki_m1 ?_
  refine x_icne (tgt := 150) rfl rfl (ti_ne jk_m1 jk_m1 (bn_f (by omega) ?_))
  refine x_aloadn (x := 125) rfl rfl ?_
  refine x_dup rfl rfl ?_
  refine z_getM (N := 92) (v := g0) 12 74 rfl f_12_771 rfl J rfl z0 ?_
  refine x_iconst (v := 1) rfl ki_1 ?_
  refine z_isub rfl rfl jk_1 (by omega) (fun v1 ev1 => ?_)
  refine z_putI (N := 92) (w := v1.toInt) 12 74 rfl f_12_771 rfl (jfin_no TX12 RX12 92 rfl rfl) hD J Sm rfl rfl rfl (pw_125_74 (by omega)) rfl (fun h w2 J Sm => ?_)
  rw [vwf w2 (show (g0.toInt - 1) = v1.toInt from by omega)] at D
  refine x_iconst (v := 1) rfl ki_1 ?_
  refine x_istore (lsx9 := [(4, .int 1), (6, .int (-1)), (0, .ref 125), (3, .int l3), (5, .int l5)]) rfl rfl rfl ?_
  refine x_goto (tgt := 186) rfl rfl ?_
  exact jX.sub (jsb_c rfl (jsb_c rfl (jsb_c rfl jsb_n))) (ct_X12_belongs_r125d_186 hD hQ k26 l3 1 v1 h (jr_of rfl (by omega)) (jr_of jk_1 (by omega)) (jr_of rfl (by omega)) (by have := jk_1; omega) (jmw w2) (by have q := jbm_pop C0 (by omega) w2 (by omega) (jp158 J _ (by have := jcl_of (d := l5) (by omega); omega)).2; omega) J Sm (by rw [jk_1]; exact D))
set_option maxRecDepth 100000 in
set_option maxHeartbeats 4000000 in
theorem ct_X12_belongs_r125d_113 {Dy : jH → Prop} {h0 : jH} {Q : Option Value → jH → Prop} {dr : (Int × jW)} {K26 : Int → Int → jW → (Int × jW)} {R26 : Int} (hD : jDk Dy) (hQ : ∀ (v : Int32) hx9, (-1) ≤ v.toInt ∧ v.toInt ≤ 11 → jJ jSgM Dy hx9 → jSm fp_X12_belongs_r125d h0 hx9 → dr.1 = v.toInt → dr.2 = vw hx9 → Q (some (.int v)) hx9) (k26 : ∀ (l3 : Int32) (l4 : Int32) (g0 : Int32) (h : jH), jbm h < R26 → (-1) ≤ l3.toInt ∧ l3.toInt ≤ 11 → 0 ≤ l4.toInt ∧ l4.toInt ≤ 1 → (-1) ≤ g0.toInt ∧ g0.toInt ≤ 6 → (l4.toInt = 0 ∨ g0.toInt ≤ 5) → jiv h 125 74 = g0 → jJ jSgM Dy h → jSm fp_X12_belongs_r125d h0 h → K26 l3.toInt l4.toInt (vw h) = dr → jX m_X12_belongs 12 0 0 26 [(0, .ref 125), (3, .int l3), (4, .int l4)] [] h 0 0 Q) : ∀ (l3 : Int32) (l4 : Int32) (l5 : Int32) (g0 : Int32) (h : jH), (-1) ≤ l3.toInt ∧ l3.toInt ≤ 11 → 0 ≤ l4.toInt ∧ l4.toInt ≤ 0 → 0 ≤ l5.toInt ∧ l5.toInt ≤ 6 → 0 ≤ g0.toInt ∧ g0.toInt ≤ 6 → jiv h 125 74 = l5 → jiv h 125 74 = g0 → jbm h ≤ R26 → jJ jSgM Dy h → jSm fp_X12_belongs_r125d h0 h → d_X12_belongs_r125d_113 K26  l3.toInt l4.toInt l5.toInt (vw h) = dr → jX m_X12_belongs 12 0 0 113 [(0, .ref 125), (3, .int l3), (4, .int l4), (5, .int l5)] [] h 0 0 Q := by
  intro l3 l4 l5 g0 h y0 y1 y2 y3 C0 z0 m26 J Sm D
  unfold d_X12_belongs_r125d_113 at D
  try rw [vrf z0] at D
  have gl : g0.toInt = l5.toInt := congrArg Int32.toInt (z0.symm.trans C0)
  refine x_iloadn (x := l3) rfl rfl ?_
  refine x_iconst (v := (-1)) rfl ki_m1 ?_
  refine x_icne (tgt := 125) rfl rfl (ti_ne rfl jk_m1 ⟨fun c1 => ?_, fun c1 => ?_⟩)
  ·
    rw [if_neg (by omega)] at D
    refine x_iconst (v := (-1)) rfl ki_m1 ?_
    exact jX.sub (jsb_c rfl (jsb_c rfl (jsb_c rfl (jsb_c rfl jsb_n)))) (ct_X12_belongs_r125d_100126 hD hQ k26 l3 l4 l5 g0 h (jr_of rfl (by omega)) (jr_of rfl (by omega)) (jr_of rfl (by omega)) (jr_of rfl (by omega)) C0 z0 m26 J Sm D)
  ·
    rw [if_pos (by omega)] at D
    refine x_aloadn (x := 125) rfl rfl ?_
    refine x_inv (N := m_X12_nextGround) (As := []) (b := 125) (st := []) (dx9 := 11) (mc := 0) (ms := 0) (host := "") 12 rfl t_X12_nextGround ⟨Or.inl q_12_783, i_X12_nextGround.1, i_X12_nextGround.2⟩ ⟨by decide, rfl⟩ (congrArg Prod.fst (J.1.1 125 (12, 92) rfl)) rfl (by decide) rfl rfl ⟨by decide, by decide⟩ (sf_X12_nextGround_r125d  hD J z0 (by omega) rfl  (fun v7 h J S2 u3 qu3 ru3 P4 X5 X6 => ?_))
    have ev7 := jfull v7
    have Sm := jSm_tr rfl Sm S2
    try rw [X5] at D
    try rw [X6] at D
    have eu3 := (show (-1) ≤ u3.toInt ∧ u3.toInt ≤ 6 from qu3 ▸ jrg_f J sg_125_74_75_1_0_1)
    try rw [vrf (jmb_c S2 qu3 rfl)] at D
    show jX m_X12_belongs 12 0 0 122 [(0, .ref 125), (3, .int l3), (4, .int l4), (5, .int l5)] [.int v7] _ 0 0 _
    refine x_goto (tgt := 126) rfl rfl ?_
    exact jX.sub (jsb_c rfl (jsb_c rfl (jsb_c rfl (jsb_c rfl jsb_n)))) (ct_X12_belongs_r125d_126 hD hQ k26 l3 l4 l5 v7 u3 h (jr_of rfl (by omega)) (jr_of rfl (by omega)) (jr_of rfl (by omega)) (jr_of rfl (by omega)) (jmc S2 rfl C0) ((jbm_ng P4 C0 (by omega) (jmc S2 rfl C0) (jeq_c S2 rfl jeq_0)).2.elim Or.inl (fun q => Or.inr (by omega))) qu3 (Int.le_trans (jbm_ng P4 C0 (by omega) (jmc S2 rfl C0) (jeq_c S2 rfl jeq_0)).1 m26) J Sm D)
set_option maxRecDepth 100000 in
set_option maxHeartbeats 4000000 in
theorem ct_X12_belongs_r125d_105 {Dy : jH → Prop} {h0 : jH} {Q : Option Value → jH → Prop} {dr : (Int × jW)} {K26 : Int → Int → jW → (Int × jW)} {R26 : Int} (hD : jDk Dy) (hQ : ∀ (v : Int32) hx9, (-1) ≤ v.toInt ∧ v.toInt ≤ 11 → jJ jSgM Dy hx9 → jSm fp_X12_belongs_r125d h0 hx9 → dr.1 = v.toInt → dr.2 = vw hx9 → Q (some (.int v)) hx9) (k26 : ∀ (l3 : Int32) (l4 : Int32) (g0 : Int32) (h : jH), jbm h < R26 → (-1) ≤ l3.toInt ∧ l3.toInt ≤ 11 → 0 ≤ l4.toInt ∧ l4.toInt ≤ 1 → (-1) ≤ g0.toInt ∧ g0.toInt ≤ 6 → (l4.toInt = 0 ∨ g0.toInt ≤ 5) → jiv h 125 74 = g0 → jJ jSgM Dy h → jSm fp_X12_belongs_r125d h0 h → K26 l3.toInt l4.toInt (vw h) = dr → jX m_X12_belongs 12 0 0 26 [(0, .ref 125), (3, .int l3), (4, .int l4)] [] h 0 0 Q) : ∀ (l3 : Int32) (l5 : Int32) (g0 : Int32) (h : jH), (-1) ≤ l3.toInt ∧ l3.toInt ≤ 11 → 0 ≤ l5.toInt ∧ l5.toInt ≤ 5 → 0 ≤ g0.toInt ∧ g0.toInt ≤ 5 → jiv h 125 74 = l5 → jiv h 125 74 = g0 → jbm h ≤ R26 → jJ jSgM Dy h → jSm fp_X12_belongs_r125d h0 h → d_X12_belongs_r125d_105 K26  l3.toInt l5.toInt (vw h) = dr → jX m_X12_belongs 12 0 0 105 [(0, .ref 125), (3, .int l3), (4, .int 0), (5, .int l5)] [] h 0 0 Q := by
  intro l3 l5 g0 h y0 y1 y2 C0 z0 m26 J Sm D
  unfold d_X12_belongs_r125d_105 at D
  try rw [vrf z0] at D
  have gl : g0.toInt = l5.toInt := congrArg Int32.toInt (z0.symm.trans C0)
  refine x_aloadn (x := 125) rfl rfl ?_
  refine z_getR (N := 92) (b := 159) 12 71 rfl f_12_135 rfl J rfl 16071 ⟨rfl, rfl⟩ rfl ?_
  refine x_iload (x := l5) rfl rfl ?_
  refine x_iconst (v := 0) rfl ki_0 ?_
  refine z_iast (N := 8) (l := 0) (u := 8) (w := 0) rfl hD J Sm rfl rfl rfl (by omega) jk_0 (wr_159 (fun q1 q2 q3 q4 => by omega)) rfl (fun h w1 J Sm => ?_)
  rw [vww w1 (show l5.toInt = l5.toInt from by omega) (show 0 = (0 : Int32).toInt from by have := jk_0; omega)] at D
  exact jX.sub (jsb_c rfl (jsb_c rfl (jsb_c rfl (jsb_c rfl jsb_n)))) (ct_X12_belongs_r125d_113 hD hQ k26 l3 0 l5 g0 h (jr_of rfl (by omega)) (jr_of jk_0 (by omega)) (jr_of rfl (by omega)) (jr_of rfl (by omega)) (jmo w1 rfl C0) (jmo w1 rfl z0) (Int.le_trans (jbm_t0 C0 (by omega) w1) m26) J Sm (by rw [jk_0]; exact D))
set_option maxRecDepth 100000 in
set_option maxHeartbeats 4000000 in
theorem ct_X12_belongs_r125d_26 {Dy : jH → Prop} {h0 : jH} {Q : Option Value → jH → Prop} {dr : (Int × jW)} (hD : jDk Dy) (hQ : ∀ (v : Int32) hx9, (-1) ≤ v.toInt ∧ v.toInt ≤ 11 → jJ jSgM Dy hx9 → jSm fp_X12_belongs_r125d h0 hx9 → dr.1 = v.toInt → dr.2 = vw hx9 → Q (some (.int v)) hx9) : ∀ r : Nat, ∀ (l3 : Int32) (l4 : Int32) (g0 : Int32) (h : jH), jbm h < (r : Int) → (-1) ≤ l3.toInt ∧ l3.toInt ≤ 11 → 0 ≤ l4.toInt ∧ l4.toInt ≤ 1 → (-1) ≤ g0.toInt ∧ g0.toInt ≤ 6 → (l4.toInt = 0 ∨ g0.toInt ≤ 5) → jiv h 125 74 = g0 → jJ jSgM Dy h → jSm fp_X12_belongs_r125d h0 h → d_X12_belongs_r125d_26 r l3.toInt l4.toInt (vw h) = dr → jX m_X12_belongs 12 0 0 26 [(0, .ref 125), (3, .int l3), (4, .int l4)] [] h 0 0 Q := by
  intro r
  induction r with
  | zero =>
    intro l3 l4 g0 h hm y0 y1 y2 y3 z0  J Sm D
    exfalso
    have := jbm_nn (fun i hi => (jp158 J i hi).2) (jp74 J); omega
  | succ r ih =>
    intro l3 l4 g0 h hm y0 y1 y2 y3 z0  J Sm D
    rw [d_X12_belongs_r125d_26.eq_2] at D
    try rw [vrf z0] at D
    refine x_aloadn (x := 125) rfl rfl ?_
    refine z_getM (N := 92) (v := g0) 12 74 rfl f_12_771 rfl J rfl z0 ?_
    refine x_iflt (tgt := 189) rfl rfl (ti_lt rfl jk_0 ⟨fun c1 => ?_, fun c1 => ?_⟩)
    ·
      rw [if_pos (by omega)] at D
      refine x_iloadn (x := l3) rfl rfl ?_
      refine x_iret rfl rfl ?_
      exact hQ _ _ (jr_of rfl (by omega)) J Sm ((congrArg Prod.fst D).symm.trans (show l3.toInt = l3.toInt from by omega)) (congrArg Prod.snd D).symm
    ·
      rw [if_neg (by omega)] at D
      refine x_aloadn (x := 125) rfl rfl ?_
      refine z_getM (N := 92) (v := g0) 12 74 rfl f_12_771 rfl J rfl z0 ?_
      refine x_istore (lsx9 := [(5, .int g0), (0, .ref 125), (3, .int l3), (4, .int l4)]) rfl rfl rfl ?_
      refine x_iload (x := l4) rfl rfl ?_
      refine x_ifeq (tgt := 113) rfl rfl (ti_eq rfl jk_0 ⟨fun c2 => ?_, fun c2 => ?_⟩)
      ·
        rw [if_pos (by omega)] at D
        exact jX.sub (jsb_c rfl (jsb_c rfl (jsb_c rfl (jsb_c rfl jsb_n)))) (ct_X12_belongs_r125d_113 hD hQ ih l3 l4 g0 g0 h (jr_of rfl (by omega)) (jr_of rfl (by omega)) (jr_of rfl (by omega)) (jr_of rfl (by omega)) z0 z0 (by omega) J Sm D)
      ·
        rw [if_neg (by omega)] at D
        refine x_iconst (v := 0) rfl ki_0 ?_
        refine x_istore (lsx9 := [(4, .int 0), (5, .int g0), (0, .ref 125), (3, .int l3)]) rfl rfl rfl ?_
        refine x_iloadn (x := l3) rfl rfl ?_
        refine x_iconst (v := (-1)) rfl ki_m1 ?_
        refine x_icne (tgt := 105) rfl rfl (ti_ne rfl jk_m1 ⟨fun c3 => ?_, fun c3 => ?_⟩)
        ·
          rw [if_neg (by omega)] at D
          exact jX.sub (jsb_c rfl (jsb_c rfl (jsb_c rfl (jsb_c rfl jsb_n)))) (ct_X12_belongs_r125d_105 hD hQ ih l3 g0 g0 h (jr_of rfl (by omega)) (jr_of rfl (by omega)) (jr_of rfl (by omega)) z0 z0 (by omega) J Sm D)
        ·
          rw [if_pos (by omega)] at D
          refine x_aloadn (x := 125) rfl rfl ?_
          refine z_getR (N := 92) (b := 159) 12 71 rfl f_12_135 rfl J rfl 16071 ⟨rfl, rfl⟩ rfl ?_
          refine x_iload (x := g0) rfl rfl ?_
          refine z_iald (N := 8) rfl J rfl sg_159_0_8_1_0_1 rfl (by omega) (fun v4 qv4 ev4 => ?_)
          try rw [vrd qv4 (show g0.toInt = g0.toInt from by omega)] at D
          refine x_iconst (v := 2) rfl ki_2 ?_
          refine x_icne (tgt := 105) rfl rfl (ti_ne rfl jk_2 ⟨fun c5 => ?_, fun c5 => ?_⟩)
          ·
            rw [if_neg (by omega)] at D
            exact jX.sub (jsb_c rfl (jsb_c rfl (jsb_c rfl (jsb_c rfl jsb_n)))) (ct_X12_belongs_r125d_105 hD hQ ih l3 g0 g0 h (jr_of rfl (by omega)) (jr_of rfl (by omega)) (jr_of rfl (by omega)) z0 z0 (by omega) J Sm D)
          ·
            rw [if_pos (by omega)] at D
            refine x_aloadn (x := 125) rfl rfl ?_
            refine z_getR (N := 92) (b := 160) 12 72 rfl f_12_138 rfl J rfl 16072 ⟨rfl, rfl⟩ rfl ?_
            refine x_iload (x := g0) rfl rfl ?_
            refine z_iald (N := 8) rfl J rfl sg_160_0_8_1_0_1 rfl (by omega) (fun v6 qv6 ev6 => ?_)
            try rw [vrd qv6 (show g0.toInt = g0.toInt from by omega)] at D
            refine x_iconst (v := (-1)) rfl ki_m1 ?_
            refine x_iceq (tgt := 105) rfl rfl (ti_eq rfl jk_m1 ⟨fun c7 => ?_, fun c7 => ?_⟩)
            ·
              rw [if_pos (by omega)] at D
              exact jX.sub (jsb_c rfl (jsb_c rfl (jsb_c rfl (jsb_c rfl jsb_n)))) (ct_X12_belongs_r125d_105 hD hQ ih l3 g0 g0 h (jr_of rfl (by omega)) (jr_of rfl (by omega)) (jr_of rfl (by omega)) z0 z0 (by omega) J Sm D)
            ·
              rw [if_neg (by omega)] at D
              refine x_aloadn (x := 125) rfl rfl ?_
              refine z_getR (N := 92) (b := 159) 12 71 rfl f_12_135 rfl J rfl 16071 ⟨rfl, rfl⟩ rfl ?_
              refine x_iload (x := g0) rfl rfl ?_
              refine x_iconst (v := 3) rfl ki_3 ?_
              refine z_iast (N := 8) (l := 0) (u := 8) (w := 3) rfl hD J Sm rfl rfl rfl (by omega) jk_3 (wr_159 (fun q1 q2 q3 q4 => by omega)) rfl (fun h w8 J Sm => ?_)
              rw [vww w8 (show g0.toInt = g0.toInt from by omega) (show 3 = (3 : Int32).toInt from by have := jk_3; omega)] at D
              refine x_aloadn (x := 125) rfl rfl ?_
              refine x_aloadn (x := 125) rfl rfl ?_
              refine z_getR (N := 92) (b := 160) 12 72 rfl f_12_138 rfl J rfl 16072 ⟨rfl, rfl⟩ rfl ?_
              refine x_iload (x := g0) rfl rfl ?_
              refine z_ialdM (N := 8) (v := v6) rfl J rfl rfl (by omega) (jmo w8 rfl qv6) ?_
              refine x_aloadn (x := 125) rfl rfl ?_
              refine z_getR (N := 92) (b := 157) 12 69 rfl f_12_129 rfl J rfl 16069 ⟨rfl, rfl⟩ rfl ?_
              refine x_iload (x := g0) rfl rfl ?_
              refine x_iconst (v := 1) rfl ki_1 ?_
              refine z_iadd rfl rfl jk_1 (by omega) (fun v9 ev9 => ?_)
              refine z_iald (N := 8) rfl J rfl sg_157_0_8_1_0_1 rfl (by omega) (fun v10 qv10 ev10 => ?_)
              try rw [vrd (jmb_w w8 qv10 rfl) (show (g0.toInt + 1) = v9.toInt from by omega)] at D
              refine x_inv (N := m_X12_ask) (As := [.int v6, .int v10]) (b := 125) (st := []) (dx9 := 11) (mc := 0) (ms := 0) (host := "") 12 rfl t_X12_ask ⟨Or.inl q_12_780, i_X12_ask.1, i_X12_ask.2⟩ ⟨by decide, rfl⟩ (congrArg Prod.fst (J.1.1 125 (12, 92) rfl)) rfl (by decide) rfl rfl ⟨by decide, by decide⟩ (jC.of rfl k_X12_ask rfl ?_)
              show jX m_X12_ask 11 0 0 0 [(0, .ref 125), (1, .int v6), (2, .int v10)] [] _ 0 0 _
              refine x_aloadn (x := 125) rfl rfl ?_
              refine x_dup rfl rfl ?_
              refine z_getM (N := 92) (v := g0) 12 74 rfl f_12_771 rfl J rfl (jmo w8 rfl z0) ?_
              refine x_iconst (v := 1) rfl ki_1 ?_
              refine z_iadd rfl rfl jk_1 (by omega) (fun v11 ev11 => ?_)
              refine z_putI (N := 92) (w := v11.toInt) 12 74 rfl f_12_771 rfl (jfin_no TX12 RX12 92 rfl rfl) hD J Sm rfl rfl rfl (pw_125_74 (by omega)) rfl (fun h w12 J Sm => ?_)
              rw [vwf w12 (show (g0.toInt + 1) = v11.toInt from by omega)] at D
              refine x_aloadn (x := 125) rfl rfl ?_
              refine z_getR (N := 92) (b := 156) 12 68 rfl f_12_126 rfl J rfl 16068 ⟨rfl, rfl⟩ rfl ?_
              refine x_aloadn (x := 125) rfl rfl ?_
              refine z_getM (N := 92) (v := v11) 12 74 rfl f_12_771 rfl J rfl (jmw w12) ?_
              refine x_iloadn (x := v6) rfl rfl ?_
              refine z_iast (N := 8) (l := 0) (u := 8) (w := v6.toInt) rfl hD J Sm rfl rfl rfl (by omega) rfl (wr_156 (fun q1 q2 q3 q4 => by omega)) rfl (fun h w13 J Sm => ?_)
              rw [vww w13 (show (g0.toInt + 1) = v11.toInt from by omega) (show v6.toInt = v6.toInt from by omega)] at D
              refine x_aloadn (x := 125) rfl rfl ?_
              refine z_getR (N := 92) (b := 157) 12 69 rfl f_12_129 rfl J rfl 16069 ⟨rfl, rfl⟩ rfl ?_
              refine x_aloadn (x := 125) rfl rfl ?_
              refine z_getM (N := 92) (v := v11) 12 74 rfl f_12_771 rfl J rfl (jmo w13 rfl (jmw w12)) ?_
              refine x_iloadn (x := v10) rfl rfl ?_
              refine z_iast (N := 8) (l := 0) (u := 8) (w := v10.toInt) rfl hD J Sm rfl rfl rfl (by omega) rfl (wr_157 (fun q1 q2 q3 q4 => by omega)) rfl (fun h w14 J Sm => ?_)
              rw [vww w14 (show (g0.toInt + 1) = v11.toInt from by omega) (show v10.toInt = v10.toInt from by omega)] at D
              refine x_aloadn (x := 125) rfl rfl ?_
              refine z_getR (N := 92) (b := 158) 12 70 rfl f_12_132 rfl J rfl 16070 ⟨rfl, rfl⟩ rfl ?_
              refine x_aloadn (x := 125) rfl rfl ?_
              refine z_getM (N := 92) (v := v11) 12 74 rfl f_12_771 rfl J rfl (jmo w14 rfl (jmo w13 rfl (jmw w12))) ?_
              refine x_iconst (v := 0) rfl ki_0 ?_
              refine z_iast (N := 8) (l := 0) (u := 8) (w := 0) rfl hD J Sm rfl rfl rfl (by omega) jk_0 (wr_158 (fun q1 q2 q3 q4 => by omega)) rfl (fun h w15 J Sm => ?_)
              rw [vww w15 (show (g0.toInt + 1) = v11.toInt from by omega) (show 0 = (0 : Int32).toInt from by have := jk_0; omega)] at D
              refine x_aloadn (x := 125) rfl rfl ?_
              refine z_getR (N := 92) (b := 159) 12 71 rfl f_12_135 rfl J rfl 16071 ⟨rfl, rfl⟩ rfl ?_
              refine x_aloadn (x := 125) rfl rfl ?_
              refine z_getM (N := 92) (v := v11) 12 74 rfl f_12_771 rfl J rfl (jmo w15 rfl (jmo w14 rfl (jmo w13 rfl (jmw w12)))) ?_
              refine x_iconst (v := 0) rfl ki_0 ?_
              refine z_iast (N := 8) (l := 0) (u := 8) (w := 0) rfl hD J Sm rfl rfl rfl (by omega) jk_0 (wr_159 (fun q1 q2 q3 q4 => by omega)) rfl (fun h w16 J Sm => ?_)
              rw [vww w16 (show (g0.toInt + 1) = v11.toInt from by omega) (show 0 = (0 : Int32).toInt from by have := jk_0; omega)] at D
              refine x_aloadn (x := 125) rfl rfl ?_
              refine z_getR (N := 92) (b := 161) 12 73 rfl f_12_141 rfl J rfl 16073 ⟨rfl, rfl⟩ rfl ?_
              refine x_aloadn (x := 125) rfl rfl ?_
              refine z_getM (N := 92) (v := v11) 12 74 rfl f_12_771 rfl J rfl (jmo w16 rfl (jmo w15 rfl (jmo w14 rfl (jmo w13 rfl (jmw w12))))) ?_
              refine x_iconst (v := 0) rfl ki_0 ?_
              refine z_iast (N := 8) (l := 0) (u := 8) (w := 0) rfl hD J Sm rfl rfl rfl (by omega) jk_0 (wr_161) rfl (fun h w17 J Sm => ?_)
              rw [vww w17 (show (g0.toInt + 1) = v11.toInt from by omega) (show 0 = (0 : Int32).toInt from by have := jk_0; omega)] at D
              refine x_vret rfl rfl ?_
              show jX m_X12_belongs 12 0 0 102 [(4, .int 0), (5, .int g0), (0, .ref 125), (3, .int l3)] [] _ 0 0 _
              refine x_goto (tgt := 26) rfl rfl ?_
              exact jX.sub (jsb_c rfl (jsb_c rfl (jsb_c rfl jsb_n))) (ih l3 0 v11 h (by have q := jbm_A (d := g0) (u := v11) z0 (by omega) (by rw [qv4]; omega) (jmo w17 rfl (jmo w16 rfl (jmo w15 rfl (jmo w14 rfl (jmo w13 rfl (jmw w12)))))) (by omega) (jeq_o w17 rfl (jeq_o w16 rfl (jeq_s w15 (jnne rfl rfl (by omega)) (jeq_o w14 rfl (jeq_o w13 rfl (jeq_o w12 rfl (jeq_o w8 rfl jeq_0))))))) (jeq_o w17 rfl (jeq_s w16 (jnlt rfl rfl (by omega)) (jeq_o w15 rfl (jeq_o w14 rfl (jeq_o w13 rfl (jeq_o w12 rfl (jeq_s w8 (jnlt rfl rfl (by omega)) jeq_0))))))) (jmo w17 rfl (jmo2 w16 rfl rfl (by omega) (jmo w15 rfl (jmo w14 rfl (jmo w13 rfl (jmo w12 rfl (jmw w8))))))) (jmo w17 rfl (jmo w16 rfl (jmw w15))) (jmo w17 rfl (jmw w16)); omega) (jr_of rfl (by omega)) (jr_of jk_0 (by omega)) (jr_of rfl (by omega)) (by have := jk_0; omega) (jmo w17 rfl (jmo w16 rfl (jmo w15 rfl (jmo w14 rfl (jmo w13 rfl (jmw w12)))))) J Sm (by rw [jk_0]; exact D))
set_option maxRecDepth 100000 in
set_option maxHeartbeats 4000000 in
theorem sf_X12_belongs_r125d {Dy : jH → Prop} {h : jH} {Q : Option Value → jH → Prop} {dr : (Int × jW)} {a1 : Int32} {a2 : Int32} (y1 : (-1) ≤ a1.toInt ∧ a1.toInt ≤ 599) (y2 : 0 ≤ a2.toInt ∧ a2.toInt ≤ 146399) (hD : jDk Dy) (J : jJ jSgM Dy h) (D : d_X12_belongs_r125d a1.toInt a2.toInt (vw h) = dr) (hQ : ∀ (v : Int32) hx9, (-1) ≤ v.toInt ∧ v.toInt ≤ 11 → jJ jSgM Dy hx9 → jSm fp_X12_belongs_r125d h hx9 → dr.1 = v.toInt → dr.2 = vw hx9 → Q (some (.int v)) hx9) : jC m_X12_belongs 12 0 0 [.ref 125, .int a1, .int a2] h Q := by
  refine jC.of rfl k_X12_belongs rfl ?_
  have Sm := jSm_rf fp_X12_belongs_r125d h
  show jX m_X12_belongs 12 0 0 0 [(0, .ref 125), (1, .int a1), (2, .int a2)] [] _ 0 0 _
  unfold d_X12_belongs_r125d at D
  refine x_aloadn (x := 125) rfl rfl ?_
  refine x_iconst (v := (-1)) rfl ki_m1 ?_
  refine z_putI (N := 92) (w := (-1)) 12 74 rfl f_12_771 rfl (jfin_no TX12 RX12 92 rfl rfl) hD J Sm rfl rfl jk_m1 (pw_125_74 (by omega)) rfl (fun h w1 J Sm => ?_)
  rw [vwf w1 (show (-1) = ((-1) : Int32).toInt from by have := jk_m1; omega)] at D
  refine x_aloadn (x := 125) rfl rfl ?_
  refine x_iconst (v := 0) rfl ki_0 ?_
  refine z_putI (N := 92) (w := 0) 12 76 rfl f_12_777 rfl (jfin_no TX12 RX12 92 rfl rfl) hD J Sm rfl rfl jk_0 (pw_125_76 trivial) rfl (fun h w2 J Sm => ?_)
  rw [vwf w2 (show 0 = (0 : Int32).toInt from by have := jk_0; omega)] at D
  refine x_aloadn (x := 125) rfl rfl ?_
  refine x_iconst (v := (-1)) rfl ki_m1 ?_
  refine z_putI (N := 92) (w := (-1)) 12 75 rfl f_12_774 rfl (jfin_no TX12 RX12 92 rfl rfl) hD J Sm rfl rfl jk_m1 (pw_125_75 (by omega)) rfl (fun h w3 J Sm => ?_)
  rw [vwf w3 (show (-1) = ((-1) : Int32).toInt from by have := jk_m1; omega)] at D
  refine x_aloadn (x := 125) rfl rfl ?_
  refine x_iloadn (x := a1) rfl rfl ?_
  refine x_iloadn (x := a2) rfl rfl ?_
  refine x_inv (N := m_X12_ask) (As := [.int a1, .int a2]) (b := 125) (st := []) (dx9 := 11) (mc := 0) (ms := 0) (host := "") 12 rfl t_X12_ask ⟨Or.inl q_12_780, i_X12_ask.1, i_X12_ask.2⟩ ⟨by decide, rfl⟩ (congrArg Prod.fst (J.1.1 125 (12, 92) rfl)) rfl (by decide) rfl rfl ⟨by decide, by decide⟩ (jC.of rfl k_X12_ask rfl ?_)
  show jX m_X12_ask 11 0 0 0 [(0, .ref 125), (1, .int a1), (2, .int a2)] [] _ 0 0 _
  refine x_aloadn (x := 125) rfl rfl ?_
  refine x_dup rfl rfl ?_
  refine z_getM (N := 92) (v := (-1)) 12 74 rfl f_12_771 rfl J rfl (jmo w3 rfl (jmo w2 rfl (jmw w1))) ?_
  refine x_iconst (v := 1) rfl ki_1 ?_
  refine y_iadd (v := 0) rfl (by decide) ?_
  refine z_putI (N := 92) (w := 0) 12 74 rfl f_12_771 rfl (jfin_no TX12 RX12 92 rfl rfl) hD J Sm rfl rfl jk_0 (pw_125_74 (by omega)) rfl (fun h w4 J Sm => ?_)
  rw [vwf w4 (show 0 = (0 : Int32).toInt from by have := jk_0; omega)] at D
  refine x_aloadn (x := 125) rfl rfl ?_
  refine z_getR (N := 92) (b := 156) 12 68 rfl f_12_126 rfl J rfl 16068 ⟨rfl, rfl⟩ rfl ?_
  refine x_aloadn (x := 125) rfl rfl ?_
  refine z_getM (N := 92) (v := 0) 12 74 rfl f_12_771 rfl J rfl (jmw w4) ?_
  refine x_iloadn (x := a1) rfl rfl ?_
  refine z_iast (N := 8) (l := 0) (u := 8) (w := a1.toInt) rfl hD J Sm rfl rfl jk_0 (by omega) rfl (wr_156 (fun q1 q2 q3 q4 => by omega)) rfl (fun h w5 J Sm => ?_)
  rw [vwn (n := 0) (by decide) w5 (show a1.toInt = a1.toInt from by omega)] at D
  refine x_aloadn (x := 125) rfl rfl ?_
  refine z_getR (N := 92) (b := 157) 12 69 rfl f_12_129 rfl J rfl 16069 ⟨rfl, rfl⟩ rfl ?_
  refine x_aloadn (x := 125) rfl rfl ?_
  refine z_getM (N := 92) (v := 0) 12 74 rfl f_12_771 rfl J rfl (jmo w5 rfl (jmw w4)) ?_
  refine x_iloadn (x := a2) rfl rfl ?_
  refine z_iast (N := 8) (l := 0) (u := 8) (w := a2.toInt) rfl hD J Sm rfl rfl jk_0 (by omega) rfl (wr_157 (fun q1 q2 q3 q4 => by omega)) rfl (fun h w6 J Sm => ?_)
  rw [vwn (n := 0) (by decide) w6 (show a2.toInt = a2.toInt from by omega)] at D
  refine x_aloadn (x := 125) rfl rfl ?_
  refine z_getR (N := 92) (b := 158) 12 70 rfl f_12_132 rfl J rfl 16070 ⟨rfl, rfl⟩ rfl ?_
  refine x_aloadn (x := 125) rfl rfl ?_
  refine z_getM (N := 92) (v := 0) 12 74 rfl f_12_771 rfl J rfl (jmo w6 rfl (jmo w5 rfl (jmw w4))) ?_
  refine x_iconst (v := 0) rfl ki_0 ?_
  refine z_iast (N := 8) (l := 0) (u := 8) (w := 0) rfl hD J Sm rfl rfl jk_0 (by omega) jk_0 (wr_158 (fun q1 q2 q3 q4 => by omega)) rfl (fun h w7 J Sm => ?_)
  rw [vwn (n := 0) (by decide) w7 (show 0 = (0 : Int32).toInt from by have := jk_0; omega)] at D
  refine x_aloadn (x := 125) rfl rfl ?_
  refine z_getR (N := 92) (b := 159) 12 71 rfl f_12_135 rfl J rfl 16071 ⟨rfl, rfl⟩ rfl ?_
  refine x_aloadn (x := 125) rfl rfl ?_
  refine z_getM (N := 92) (v := 0) 12 74 rfl f_12_771 rfl J rfl (jmo w7 rfl (jmo w6 rfl (jmo w5 rfl (jmw w4)))) ?_
  refine x_iconst (v := 0) rfl ki_0 ?_
  refine z_iast (N := 8) (l := 0) (u := 8) (w := 0) rfl hD J Sm rfl rfl jk_0 (by omega) jk_0 (wr_159 (fun q1 q2 q3 q4 => by omega)) rfl (fun h w8 J Sm => ?_)
  rw [vwn (n := 0) (by decide) w8 (show 0 = (0 : Int32).toInt from by have := jk_0; omega)] at D
  refine x_aloadn (x := 125) rfl rfl ?_
  refine z_getR (N := 92) (b := 161) 12 73 rfl f_12_141 rfl J rfl 16073 ⟨rfl, rfl⟩ rfl ?_
  refine x_aloadn (x := 125) rfl rfl ?_
  refine z_getM (N := 92) (v := 0) 12 74 rfl f_12_771 rfl J rfl (jmo w8 rfl (jmo w7 rfl (jmo w6 rfl (jmo w5 rfl (jmw w4))))) ?_
  refine x_iconst (v := 0) rfl ki_0 ?_
  refine z_iast (N := 8) (l := 0) (u := 8) (w := 0) rfl hD J Sm rfl rfl jk_0 (by omega) jk_0 (wr_161) rfl (fun h w9 J Sm => ?_)
  rw [vwn (n := 0) (by decide) w9 (show 0 = (0 : Int32).toInt from by have := jk_0; omega)] at D
  refine x_vret rfl rfl ?_
  show jX m_X12_belongs 12 0 0 21 [(0, .ref 125), (1, .int a1), (2, .int a2)] [] _ 0 0 _
  refine x_iconst (v := (-1)) rfl ki_m1 ?_
  refine x_istoren (lsx9 := [(3, .int (-1)), (0, .ref 125), (1, .int a1), (2, .int a2)]) rfl rfl rfl ?_
  refine x_iconst (v := 0) rfl ki_0 ?_
  refine x_istore (lsx9 := [(4, .int 0), (3, .int (-1)), (0, .ref 125), (1, .int a1), (2, .int a2)]) rfl rfl rfl ?_
  exact jX.sub (jsb_c rfl (jsb_c rfl (jsb_c rfl jsb_n))) (ct_X12_belongs_r125d_26 hD hQ  100000000000000000000000 (-1) 0 0 h (jbm_top (fun i hi => (jp158 J i hi).1) (by rw [(jmo w9 rfl (jmo w8 rfl (jmo w7 rfl (jmo w6 rfl (jmo w5 rfl (jmw w4))))))]; decide)) (jr_of jk_m1 (by omega)) (jr_of jk_0 (by omega)) (jr_of jk_0 (by omega)) (by have := jk_0; have := jk_0; omega) (jmo w9 rfl (jmo w8 rfl (jmo w7 rfl (jmo w6 rfl (jmo w5 rfl (jmw w4)))))) J Sm (by rw [jk_m1, jk_0]; exact D))
def fp_X12_belong_r125d : jFp := [(125, 0, 1), (125, 28, 29), (125, 31, 32), (125, 32, 33), (125, 33, 34), (125, 34, 35), (125, 35, 36), (125, 57, 58), (125, 61, 62), (125, 62, 63), (125, 63, 64), (125, 74, 75), (125, 75, 76), (125, 76, 77), (137, 0, 80), (138, 0, 2), (139, 0, 600), (140, 0, 200), (152, 0, 360), (153, 0, 30), (154, 0, 400), (156, 0, 8), (157, 0, 8), (158, 0, 8), (159, 0, 8), (160, 0, 8), (161, 0, 8), (162, 0, 40), (163, 0, 40), (164, 0, 40)]
set_option maxRecDepth 100000 in
set_option maxHeartbeats 4000000 in
theorem ct_X12_belong_r125d_39 {Dy : jH → Prop} {h0 : jH} {Q : Option Value → jH → Prop} {dr : (Int × jW)} (hD : jDk Dy) (hQ : ∀ (v : Int32) hx9, jJ jSgM Dy hx9 → jSm fp_X12_belong_r125d h0 hx9 → dr.1 = v.toInt → dr.2 = vw hx9 → Q (some (.int v)) hx9) : ∀ (h : jH), jJ jSgM Dy h → jSm fp_X12_belong_r125d h0 h → d_X12_belong_r125d_39  (vw h) = dr → jX m_X12_belong 13 0 0 39 [] [] h 0 0 Q := by
  intro  h    J Sm D
  unfold d_X12_belong_r125d_39 at D
  refine x_iconst (v := (-1)) rfl ki_m1 ?_
  refine x_iret rfl rfl ?_
  exact hQ _ _ J Sm ((congrArg Prod.fst D).symm.trans (show (-1) = ((-1) : Int32).toInt from by have := jk_m1; omega)) (congrArg Prod.snd D).symm
set_option maxRecDepth 100000 in
set_option maxHeartbeats 4000000 in
theorem ct_X12_belong_r125d_200097 {Dy : jH → Prop} {h0 : jH} {Q : Option Value → jH → Prop} {dr : (Int × jW)} (hD : jDk Dy) (hQ : ∀ (v : Int32) hx9, jJ jSgM Dy hx9 → jSm fp_X12_belong_r125d h0 hx9 → dr.1 = v.toInt → dr.2 = vw hx9 → Q (some (.int v)) hx9) : ∀ (h : jH), jJ jSgM Dy h → jSm fp_X12_belong_r125d h0 h → d_X12_belong_r125d_200097  (vw h) = dr → jX m_X12_belong 13 0 0 97 [] [.int 0] h 0 0 Q := by
  intro  h    J Sm D
  unfold d_X12_belong_r125d_200097 at D
  refine x_iret rfl rfl ?_
  exact hQ _ _ J Sm ((congrArg Prod.fst D).symm.trans (show 0 = (0 : Int32).toInt from by have := jk_0; omega)) (congrArg Prod.snd D).symm
set_option maxRecDepth 100000 in
set_option maxHeartbeats 4000000 in
theorem ct_X12_belong_r125d_97 {Dy : jH → Prop} {h0 : jH} {Q : Option Value → jH → Prop} {dr : (Int × jW)} (hD : jDk Dy) (hQ : ∀ (v : Int32) hx9, jJ jSgM Dy hx9 → jSm fp_X12_belong_r125d h0 hx9 → dr.1 = v.toInt → dr.2 = vw hx9 → Q (some (.int v)) hx9) : ∀ (s0 : Int32) (h : jH), jJ jSgM Dy h → jSm fp_X12_belong_r125d h0 h → d_X12_belong_r125d_97  s0.toInt (vw h) = dr → jX m_X12_belong 13 0 0 97 [] [.int s0] h 0 0 Q := by
  intro s0 h    J Sm D
  have es0 := jfull s0
  unfold d_X12_belong_r125d_97 at D
  refine x_iret rfl rfl ?_
  exact hQ _ _ J Sm ((congrArg Prod.fst D).symm.trans (show s0.toInt = s0.toInt from by omega)) (congrArg Prod.snd D).symm
set_option maxRecDepth 100000 in
set_option maxHeartbeats 4000000 in
theorem ct_X12_belong_r125d_100097 {Dy : jH → Prop} {h0 : jH} {Q : Option Value → jH → Prop} {dr : (Int × jW)} (hD : jDk Dy) (hQ : ∀ (v : Int32) hx9, jJ jSgM Dy hx9 → jSm fp_X12_belong_r125d h0 hx9 → dr.1 = v.toInt → dr.2 = vw hx9 → Q (some (.int v)) hx9) : ∀ (h : jH), jJ jSgM Dy h → jSm fp_X12_belong_r125d h0 h → d_X12_belong_r125d_100097  (vw h) = dr → jX m_X12_belong 13 0 0 97 [] [.int (-1)] h 0 0 Q := by
  intro  h    J Sm D
  unfold d_X12_belong_r125d_100097 at D
  refine x_iret rfl rfl ?_
  exact hQ _ _ J Sm ((congrArg Prod.fst D).symm.trans (show (-1) = ((-1) : Int32).toInt from by have := jk_m1; omega)) (congrArg Prod.snd D).symm
set_option maxRecDepth 100000 in
set_option maxHeartbeats 4000000 in
theorem sf_X12_belong_r125d {Dy : jH → Prop} {h : jH} {Q : Option Value → jH → Prop} {dr : (Int × jW)} {a1 : Int32} {a2 : Int32} {a3 : Int32} {a4 : Int32} (hD : jDk Dy) (J : jJ jSgM Dy h) (D : d_X12_belong_r125d a1.toInt a2.toInt a3.toInt a4.toInt (vw h) = dr) (hQ : ∀ (v : Int32) hx9, jJ jSgM Dy hx9 → jSm fp_X12_belong_r125d h hx9 → dr.1 = v.toInt → dr.2 = vw hx9 → Q (some (.int v)) hx9) : jC m_X12_belong 13 0 0 [.ref 125, .int a1, .int a2, .int a3, .int a4] h Q := by
  refine jC.of rfl k_X12_belong rfl ?_
  have Sm := jSm_rf fp_X12_belong_r125d h
  have ea1 := jfull a1
  have ea2 := jfull a2
  have ea3 := jfull a3
  have ea4 := jfull a4
  show jX m_X12_belong 13 0 0 0 [(0, .ref 125), (1, .int a1), (2, .int a2), (3, .int a3), (4, .int a4)] [] _ 0 0 _
  unfold d_X12_belong_r125d at D
  refine x_aloadn (x := 125) rfl rfl ?_
  refine x_iconst (v := 0) rfl ki_0 ?_
  refine z_putI (N := 92) (w := 0) 12 0 rfl f_12_180 rfl (jfin_no TX12 RX12 92 rfl rfl) hD J Sm rfl rfl jk_0 (pw_125_0 (by omega)) rfl (fun h w1 J Sm => ?_)
  rw [vwf w1 (show 0 = (0 : Int32).toInt from by have := jk_0; omega)] at D
  refine x_aloadn (x := 125) rfl rfl ?_
  refine x_iloadn (x := a1) rfl rfl ?_
  refine x_iloadn (x := a3) rfl rfl ?_
  refine x_inv (N := m_X12_soulAt) (As := [.int a1, .int a3]) (b := 125) (st := []) (dx9 := 12) (mc := 0) (ms := 0) (host := "") 12 rfl t_X12_soulAt ⟨Or.inl q_12_399, i_X12_soulAt.1, i_X12_soulAt.2⟩ ⟨by decide, rfl⟩ (congrArg Prod.fst (J.1.1 125 (12, 92) rfl)) rfl (by decide) rfl rfl ⟨by decide, by decide⟩ (jC.of rfl k_X12_soulAt rfl ?_)
  show jX m_X12_soulAt 12 0 0 0 [(0, .ref 125), (1, .int a1), (2, .int a3)] [] _ 0 0 _
  refine x_aloadn (x := 125) rfl rfl ?_
  refine x_iloadn (x := a1) rfl rfl ?_
  refine x_inv (N := m_X12_isMention) (As := [.int a1]) (b := 125) (st := []) (dx9 := 11) (mc := 0) (ms := 0) (host := "") 12 rfl t_X12_isMention ⟨Or.inl q_12_322, i_X12_isMention.1, i_X12_isMention.2⟩ ⟨by decide, rfl⟩ (congrArg Prod.fst (J.1.1 125 (12, 92) rfl)) rfl (by decide) rfl rfl ⟨by decide, by decide⟩ (jC.of rfl k_X12_isMention rfl ?_)
  show jX m_X12_isMention 11 0 0 0 [(0, .ref 125), (1, .int a1)] [] _ 0 0 _
  refine x_iloadn (x := a1) rfl rfl ?_
  refine x_iflt (tgt := 34) rfl rfl (ti_lt rfl jk_0 ⟨fun c2 => ?_, fun c2 => ?_⟩)
  ·
    rw [if_pos (by omega)] at D
    refine x_iconst (v := 0) rfl ki_0 ?_
    refine x_zret rfl rfl (by decide) ?_
    show jX m_X12_soulAt 12 0 0 5 [(0, .ref 125), (1, .int a1), (2, .int a3)] [.int 0] _ 0 0 _
    refine x_ifeq (tgt := 15) rfl rfl (ti_eq jk_0 jk_0 (br_t (by omega) ?_))
    refine x_iconst (v := (-1)) rfl ki_m1 ?_
    refine x_iret rfl rfl ?_
    show jX m_X12_belong 13 0 0 11 [(0, .ref 125), (1, .int a1), (2, .int a2), (3, .int a3), (4, .int a4)] [.int (-1)] _ 0 0 _
    refine x_istore (lsx9 := [(5, .int (-1)), (0, .ref 125), (1, .int a1), (2, .int a2), (3, .int a3), (4, .int a4)]) rfl rfl rfl ?_
    refine x_iload (x := (-1)) rfl rfl ?_
    refine x_iconst (v := (-1)) rfl ki_m1 ?_
    refine x_iceq (tgt := 39) rfl rfl (ti_eq jk_m1 jk_m1 (br_t (by omega) ?_))
    exact jX.sub jsb_n (ct_X12_belong_r125d_39 hD hQ  h J Sm D)
  ·
    rw [if_neg (by omega)] at D
    refine x_aloadn (x := 125) rfl rfl ?_
    refine x_iloadn (x := a1) rfl rfl ?_
    refine x_iconst (v := 3) rfl ki_3 ?_
    refine z_idiv rfl rfl jk_3 (by omega) (by omega) (fun v3 ev3 => ?_)
    refine x_inv (N := m_X12_isLine) (As := [.int v3]) (b := 125) (st := []) (dx9 := 10) (mc := 0) (ms := 0) (host := "") 12 rfl t_X12_isLine ⟨Or.inl q_12_293, i_X12_isLine.1, i_X12_isLine.2⟩ ⟨by decide, rfl⟩ (congrArg Prod.fst (J.1.1 125 (12, 92) rfl)) rfl (by decide) rfl rfl ⟨by decide, by decide⟩ (jC.of rfl k_X12_isLine rfl ?_)
    show jX m_X12_isLine 10 0 0 0 [(0, .ref 125), (1, .int v3)] [] _ 0 0 _
    refine x_iloadn (x := v3) rfl rfl ?_
    refine z_i2l rfl rfl (fun v4 ev4 => ?_)
    refine x_lconst (v := 0) rfl kl_0 ?_
    refine x_aloadn (x := 125) rfl rfl ?_
    refine z_getR (N := 92) (b := 126) 12 2 rfl f_12_8 rfl J rfl 16002 ⟨rfl, rfl⟩ rfl ?_
    refine x_iconst (v := 0) rfl ki_0 ?_
    refine z_iald (N := 50660) rfl J rfl sg_126_0_1_1_0_1 jk_0 (by omega) (fun v5 qv5 ev5 => ?_)
    try rw [vrn (n := 0) (by decide) (jmb_w w1 qv5 rfl)] at D
    refine z_i2l rfl rfl (fun v6 ev6 => ?_)
    refine x_lconst (v := 1) rfl kl_1 ?_
    refine z_lsub rfl rfl jkl_1 (by omega) (fun v7 ev7 => ?_)
    refine x_inst (N := m_X12_in) (As := [.long v4, .long 0, .long v7]) (st := []) (dx9 := 1) (mc := 0) (ms := 0) (host := "") rfl t_X12_in ⟨Or.inl q_12_188, s_X12_in⟩ rfl (by decide) rfl rfl ⟨by decide, by decide⟩ (zc_X12_in rfl jkl_0 rfl (fun v8 ev8 => ?_))
    show jX m_X12_isLine 10 0 0 15 [(0, .ref 125), (1, .int v3)] [.int v8] _ 0 0 _
    refine x_zret rfl rfl (jz01 (by omega)) ?_
    show jX m_X12_isMention 11 0 0 11 [(0, .ref 125), (1, .int a1)] [.int v8] _ 0 0 _
    refine x_ifeq (tgt := 34) rfl rfl (ti_eq rfl jk_0 ⟨fun c9 => ?_, fun c9 => ?_⟩)
    ·
      rw [if_neg (by omega)] at D
      refine x_iconst (v := 0) rfl ki_0 ?_
      refine x_zret rfl rfl (by decide) ?_
      show jX m_X12_soulAt 12 0 0 5 [(0, .ref 125), (1, .int a1), (2, .int a3)] [.int 0] _ 0 0 _
      refine x_ifeq (tgt := 15) rfl rfl (ti_eq jk_0 jk_0 (br_t (by omega) ?_))
      refine x_iconst (v := (-1)) rfl ki_m1 ?_
      refine x_iret rfl rfl ?_
      show jX m_X12_belong 13 0 0 11 [(0, .ref 125), (1, .int a1), (2, .int a2), (3, .int a3), (4, .int a4)] [.int (-1)] _ 0 0 _
      refine x_istore (lsx9 := [(5, .int (-1)), (0, .ref 125), (1, .int a1), (2, .int a2), (3, .int a3), (4, .int a4)]) rfl rfl rfl ?_
      refine x_iload (x := (-1)) rfl rfl ?_
      refine x_iconst (v := (-1)) rfl ki_m1 ?_
      refine x_iceq (tgt := 39) rfl rfl (ti_eq jk_m1 jk_m1 (br_t (by omega) ?_))
      exact jX.sub jsb_n (ct_X12_belong_r125d_39 hD hQ  h J Sm D)
    ·
      rw [if_pos (by omega)] at D
      refine x_iloadn (x := a1) rfl rfl ?_
      refine x_iconst (v := 3) rfl ki_3 ?_
      refine z_irem rfl rfl jk_3 (by omega) (by omega) (fun v10 ev10 => ?_)
      refine x_aloadn (x := 125) rfl rfl ?_
      refine x_iloadn (x := a1) rfl rfl ?_
      refine x_iconst (v := 3) rfl ki_3 ?_
      refine z_idiv rfl rfl jk_3 (by omega) (by omega) (fun v11 ev11 => ?_)
      refine x_inv (N := m_X12_bookOf) (As := [.int v11]) (b := 125) (st := [.int v10]) (dx9 := 10) (mc := 0) (ms := 0) (host := "") 12 rfl t_X12_bookOf ⟨Or.inl q_12_299, i_X12_bookOf.1, i_X12_bookOf.2⟩ ⟨by decide, rfl⟩ (congrArg Prod.fst (J.1.1 125 (12, 92) rfl)) rfl (by decide) rfl rfl ⟨by decide, by decide⟩ (jC.of rfl k_X12_bookOf rfl ?_)
      show jX m_X12_bookOf 10 0 0 0 [(0, .ref 125), (1, .int v11)] [] _ 0 0 _
      refine x_aloadn (x := 125) rfl rfl ?_
      refine z_getR (N := 92) (b := 126) 12 2 rfl f_12_8 rfl J rfl 16002 ⟨rfl, rfl⟩ rfl ?_
      refine x_aloadn (x := 125) rfl rfl ?_
      refine x_iloadn (x := v11) rfl rfl ?_
      refine x_inv (N := m_X12_at) (As := [.int v11]) (b := 125) (st := [.ref 126]) (dx9 := 9) (mc := 0) (ms := 0) (host := "") 12 rfl t_X12_at ⟨Or.inl q_12_254, i_X12_at.1, i_X12_at.2⟩ ⟨by decide, rfl⟩ (congrArg Prod.fst (J.1.1 125 (12, 92) rfl)) rfl (by decide) rfl rfl ⟨by decide, by decide⟩ (jC.of rfl k_X12_at rfl ?_)
      show jX m_X12_at 9 0 0 0 [(0, .ref 125), (1, .int v11)] [] _ 0 0 _
      refine x_bipush (v := 20) rfl kb_20 ?_
      refine x_bipush (v := 90) rfl kb_90 ?_
      refine x_iloadn (x := v11) rfl rfl ?_
      refine z_imul rfl jk_90 rfl (by omega) (fun v12 ev12 => ?_)
      refine z_iadd rfl jk_20 rfl (by omega) (fun v13 ev13 => ?_)
      refine x_iret rfl rfl ?_
      show jX m_X12_bookOf 10 0 0 9 [(0, .ref 125), (1, .int v11)] [.int v13, .ref 126] _ 0 0 _
      refine z_iald (N := 50660) rfl J rfl sg_126_20_18020_90_0_1 rfl (by omega) (fun v14 qv14 ev14 => ?_)
      try rw [vrd (jmb_w w1 qv14 rfl) (show (20 + (90 * (a1.toInt / 3))) = v13.toInt from by omega)] at D
      refine x_iret rfl rfl ?_
      show jX m_X12_isMention 11 0 0 24 [(0, .ref 125), (1, .int a1)] [.int v14, .int v10] _ 0 0 _
      refine x_inst (N := m_X12_rolesOf) (As := [.int v14]) (st := [.int v10]) (dx9 := 10) (mc := 0) (ms := 0) (host := "") rfl t_X12_rolesOf ⟨Or.inl q_12_286, s_X12_rolesOf⟩ rfl (by decide) rfl rfl ⟨by decide, by decide⟩ (jC.of rfl k_X12_rolesOf rfl ?_)
      show jX m_X12_rolesOf 10 0 0 0 [(0, .int v14)] [] _ 0 0 _
      refine x_iloadn (x := v14) rfl rfl ?_
      refine x_ifne (tgt := 8) rfl rfl (ti_ne rfl jk_0 ⟨fun c15 => ?_, fun c15 => ?_⟩)
      ·
        rw [if_neg (by omega)] at D
        refine x_iloadn (x := v14) rfl rfl ?_
        refine x_iconst (v := 1) rfl ki_1 ?_
        refine x_icne (tgt := 17) rfl rfl (ti_ne rfl jk_1 ⟨fun c16 => ?_, fun c16 => ?_⟩)
        ·
          rw [if_neg (by omega)] at D
          refine x_iconst (v := 1) rfl ki_1 ?_
          refine x_iret rfl rfl ?_
          show jX m_X12_isMention 11 0 0 27 [(0, .ref 125), (1, .int a1)] [.int 1, .int v10] _ 0 0 _
          refine x_icge (tgt := 34) rfl rfl (ti_ge rfl jk_1 ⟨fun c17 => ?_, fun c17 => ?_⟩)
          ·
            rw [if_pos (by omega)] at D
            refine x_iconst (v := 0) rfl ki_0 ?_
            refine x_zret rfl rfl (by decide) ?_
            show jX m_X12_soulAt 12 0 0 5 [(0, .ref 125), (1, .int a1), (2, .int a3)] [.int 0] _ 0 0 _
            refine x_ifeq (tgt := 15) rfl rfl (ti_eq jk_0 jk_0 (br_t (by omega) ?_))
            refine x_iconst (v := (-1)) rfl ki_m1 ?_
            refine x_iret rfl rfl ?_
            show jX m_X12_belong 13 0 0 11 [(0, .ref 125), (1, .int a1), (2, .int a2), (3, .int a3), (4, .int a4)] [.int (-1)] _ 0 0 _
            refine x_istore (lsx9 := [(5, .int (-1)), (0, .ref 125), (1, .int a1), (2, .int a2), (3, .int a3), (4, .int a4)]) rfl rfl rfl ?_
            refine x_iload (x := (-1)) rfl rfl ?_
            refine x_iconst (v := (-1)) rfl ki_m1 ?_
            refine x_iceq (tgt := 39) rfl rfl (ti_eq jk_m1 jk_m1 (br_t (by omega) ?_))
            exact jX.sub jsb_n (ct_X12_belong_r125d_39 hD hQ  h J Sm D)
          ·
            rw [if_neg (by omega)] at D
            refine x_iconst (v := 1) rfl ki_1 ?_
            refine x_goto (tgt := 35) rfl rfl ?_
            refine x_zret rfl rfl (by decide) ?_
            show jX m_X12_soulAt 12 0 0 5 [(0, .ref 125), (1, .int a1), (2, .int a3)] [.int 1] _ 0 0 _
            refine x_ifeq (tgt := 15) rfl rfl (ti_eq jk_1 jk_0 (br_f (by omega) ?_))
            refine x_iloadn (x := a3) rfl rfl ?_
            refine x_inst (N := m_X12_isDay) (As := [.int a3]) (st := []) (dx9 := 2) (mc := 0) (ms := 0) (host := "") rfl t_X12_isDay ⟨Or.inl q_12_273, s_X12_isDay⟩ rfl (by decide) rfl rfl ⟨by decide, by decide⟩ (zc_X12_isDay (d := 1) rfl (fun v18 ev18 => ?_))
            show jX m_X12_soulAt 12 0 0 12 [(0, .ref 125), (1, .int a1), (2, .int a3)] [.int v18] _ 0 0 _
            refine x_ifne (tgt := 17) rfl rfl (ti_ne rfl jk_0 ⟨fun c19 => ?_, fun c19 => ?_⟩)
            ·
              rw [if_pos (by omega)] at D
              refine x_aloadn (x := 125) rfl rfl ?_
              refine x_iloadn (x := a3) rfl rfl ?_
              refine x_inv (N := m_X12_find) (As := [.int a3]) (b := 125) (st := []) (dx9 := 8) (mc := 0) (ms := 0) (host := "") 12 rfl t_X12_find ⟨Or.inl q_12_393, i_X12_find.1, i_X12_find.2⟩ ⟨by decide, rfl⟩ (congrArg Prod.fst (J.1.1 125 (12, 92) rfl)) rfl (by decide) rfl rfl ⟨by decide, by decide⟩ (sf_X12_find_r125d (jr_of rfl (by omega)) hD J rfl  (fun h J S20 X21 => ?_))
              have Sm := jSm_tr rfl Sm S20
              rw [X21] at D
              show jX m_X12_soulAt 12 0 0 22 [(0, .ref 125), (1, .int a1), (2, .int a3)] [] _ 0 0 _
              refine x_aloadn (x := 125) rfl rfl ?_
              refine z_getR (N := 92) (b := 139) 12 29 rfl f_12_72 rfl J rfl 16029 ⟨rfl, rfl⟩ rfl ?_
              refine x_iloadn (x := a1) rfl rfl ?_
              refine z_iald (N := 600) rfl J rfl sg_139_0_600_1_0_1 rfl (by omega) (fun v22 qv22 ev22 => ?_)
              try rw [vrd qv22 (show a1.toInt = a1.toInt from by omega)] at D
              refine x_iret rfl rfl ?_
              show jX m_X12_belong 13 0 0 11 [(0, .ref 125), (1, .int a1), (2, .int a2), (3, .int a3), (4, .int a4)] [.int v22] _ 0 0 _
              refine x_istore (lsx9 := [(5, .int v22), (0, .ref 125), (1, .int a1), (2, .int a2), (3, .int a3), (4, .int a4)]) rfl rfl rfl ?_
              refine x_iload (x := v22) rfl rfl ?_
              refine x_iconst (v := (-1)) rfl ki_m1 ?_
              refine x_iceq (tgt := 39) rfl rfl (ti_eq rfl jk_m1 ⟨fun c23 => ?_, fun c23 => ?_⟩)
              ·
                rw [if_pos (by omega)] at D
                exact jX.sub jsb_n (ct_X12_belong_r125d_39 hD hQ  h J Sm D)
              ·
                rw [if_neg (by omega)] at D
                refine x_iloadn (x := a2) rfl rfl ?_
                refine x_inst (N := m_X12_isDay) (As := [.int a2]) (st := []) (dx9 := 2) (mc := 0) (ms := 0) (host := "") rfl t_X12_isDay ⟨Or.inl q_12_273, s_X12_isDay⟩ rfl (by decide) rfl rfl ⟨by decide, by decide⟩ (zc_X12_isDay (d := 1) rfl (fun v24 ev24 => ?_))
                show jX m_X12_belong 13 0 0 23 [(5, .int v22), (0, .ref 125), (1, .int a1), (2, .int a2), (3, .int a3), (4, .int a4)] [.int v24] _ 0 0 _
                refine x_ifeq (tgt := 39) rfl rfl (ti_eq rfl jk_0 ⟨fun c25 => ?_, fun c25 => ?_⟩)
                ·
                  rw [if_neg (by omega)] at D
                  exact jX.sub jsb_n (ct_X12_belong_r125d_39 hD hQ  h J Sm D)
                ·
                  rw [if_pos (by omega)] at D
                  refine x_iload (x := a4) rfl rfl ?_
                  refine z_i2l rfl rfl (fun v26 ev26 => ?_)
                  refine x_lconst (v := 0) rfl kl_0 ?_
                  refine x_ldc2 (v := 2) rfl z_12_482 ?_
                  refine x_inst (N := m_X12_in) (As := [.long v26, .long 0, .long 2]) (st := []) (dx9 := 1) (mc := 0) (ms := 0) (host := "") rfl t_X12_in ⟨Or.inl q_12_188, s_X12_in⟩ rfl (by decide) rfl rfl ⟨by decide, by decide⟩ (zc_X12_in rfl jkl_0 jkl_2 (fun v27 ev27 => ?_))
                  show jX m_X12_belong 13 0 0 36 [(5, .int v22), (0, .ref 125), (1, .int a1), (2, .int a2), (3, .int a3), (4, .int a4)] [.int v27] _ 0 0 _
                  refine x_ifne (tgt := 41) rfl rfl (ti_ne rfl jk_0 ⟨fun c28 => ?_, fun c28 => ?_⟩)
                  ·
                    rw [if_pos (by omega)] at D
                    refine x_aloadn (x := 125) rfl rfl ?_
                    refine x_iload (x := v22) rfl rfl ?_
                    refine x_iloadn (x := a2) rfl rfl ?_
                    refine x_inv (N := m_X12_belongs) (As := [.int v22, .int a2]) (b := 125) (st := []) (dx9 := 12) (mc := 0) (ms := 0) (host := "") 12 rfl t_X12_belongs ⟨Or.inl q_12_792, i_X12_belongs.1, i_X12_belongs.2⟩ ⟨by decide, rfl⟩ (congrArg Prod.fst (J.1.1 125 (12, 92) rfl)) rfl (by decide) rfl rfl ⟨by decide, by decide⟩ (sf_X12_belongs_r125d (jr_of rfl (by omega)) (jr_of rfl (by omega)) hD J rfl  (fun v32 h ev32 J S29 X30 X31 => ?_))
                    have Sm := jSm_tr rfl Sm S29
                    try rw [X30] at D
                    try rw [X31] at D
                    show jX m_X12_belong 13 0 0 48 [(5, .int v22), (0, .ref 125), (1, .int a1), (2, .int a2), (3, .int a3), (4, .int a4)] [.int v32] _ 0 0 _
                    refine x_istore (lsx9 := [(6, .int v32), (5, .int v22), (0, .ref 125), (1, .int a1), (2, .int a2), (3, .int a3), (4, .int a4)]) rfl rfl rfl ?_
                    refine x_iload (x := a4) rfl rfl ?_
                    refine x_ifne (tgt := 60) rfl rfl (ti_ne rfl jk_0 ⟨fun c33 => ?_, fun c33 => ?_⟩)
                    ·
                      rw [if_neg (by omega)] at D
                      refine x_iload (x := a4) rfl rfl ?_
                      refine x_iconst (v := 1) rfl ki_1 ?_
                      refine x_icne (tgt := 83) rfl rfl (ti_ne rfl jk_1 ⟨fun c34 => ?_, fun c34 => ?_⟩)
                      ·
                        rw [if_neg (by omega)] at D
                        refine x_iload (x := v32) rfl rfl ?_
                        refine x_iconst (v := (-1)) rfl ki_m1 ?_
                        refine x_icne (tgt := 96) rfl rfl (ti_ne rfl jk_m1 ⟨fun c35 => ?_, fun c35 => ?_⟩)
                        ·
                          rw [if_neg (by omega)] at D
                          refine x_iconst (v := 0) rfl ki_0 ?_
                          exact jX.sub jsb_n (ct_X12_belong_r125d_200097 hD hQ  h J Sm D)
                        ·
                          rw [if_pos (by omega)] at D
                          refine x_aloadn (x := 125) rfl rfl ?_
                          refine z_getI0 (N := 92) 12 76 rfl f_12_777 rfl J rfl (fun v36 qv36 => ?_)
                          have ev36 := jfull v36
                          try rw [vrf qv36] at D
                          refine x_goto (tgt := 97) rfl rfl ?_
                          exact jX.sub jsb_n (ct_X12_belong_r125d_97 hD hQ  v36 h J Sm D)
                      ·
                        rw [if_pos (by omega)] at D
                        refine x_iload (x := v32) rfl rfl ?_
                        refine x_iconst (v := (-1)) rfl ki_m1 ?_
                        refine x_icne (tgt := 76) rfl rfl (ti_ne rfl jk_m1 ⟨fun c37 => ?_, fun c37 => ?_⟩)
                        ·
                          rw [if_neg (by omega)] at D
                          refine x_aloadn (x := 125) rfl rfl ?_
                          refine z_getI (N := 92) 12 75 rfl f_12_774 rfl J rfl sg_125_75_76_1_0_1 (fun v38 qv38 ev38 => ?_)
                          try rw [vrf qv38] at D
                          refine x_goto (tgt := 97) rfl rfl ?_
                          exact jX.sub jsb_n (ct_X12_belong_r125d_97 hD hQ  v38 h J Sm D)
                        ·
                          rw [if_pos (by omega)] at D
                          refine x_iconst (v := (-1)) rfl ki_m1 ?_
                          refine x_goto (tgt := 97) rfl rfl ?_
                          exact jX.sub jsb_n (ct_X12_belong_r125d_100097 hD hQ  h J Sm D)
                    ·
                      rw [if_pos (by omega)] at D
                      refine x_iload (x := v32) rfl rfl ?_
                      refine x_goto (tgt := 97) rfl rfl ?_
                      exact jX.sub jsb_n (ct_X12_belong_r125d_97 hD hQ  v32 h J Sm D)
                  ·
                    rw [if_neg (by omega)] at D
                    exact jX.sub jsb_n (ct_X12_belong_r125d_39 hD hQ  h J Sm D)
            ·
              rw [if_neg (by omega)] at D
              refine x_iconst (v := (-1)) rfl ki_m1 ?_
              refine x_iret rfl rfl ?_
              show jX m_X12_belong 13 0 0 11 [(0, .ref 125), (1, .int a1), (2, .int a2), (3, .int a3), (4, .int a4)] [.int (-1)] _ 0 0 _
              refine x_istore (lsx9 := [(5, .int (-1)), (0, .ref 125), (1, .int a1), (2, .int a2), (3, .int a3), (4, .int a4)]) rfl rfl rfl ?_
              refine x_iload (x := (-1)) rfl rfl ?_
              refine x_iconst (v := (-1)) rfl ki_m1 ?_
              refine x_iceq (tgt := 39) rfl rfl (ti_eq jk_m1 jk_m1 (br_t (by omega) ?_))
              exact jX.sub jsb_n (ct_X12_belong_r125d_39 hD hQ  h J Sm D)
        ·
          rw [if_pos (by omega)] at D
          refine x_iconst (v := 2) rfl ki_2 ?_
          refine x_goto (tgt := 18) rfl rfl ?_
          refine x_iret rfl rfl ?_
          show jX m_X12_isMention 11 0 0 27 [(0, .ref 125), (1, .int a1)] [.int 2, .int v10] _ 0 0 _
          refine x_icge (tgt := 34) rfl rfl (ti_ge rfl jk_2 ⟨fun c39 => ?_, fun c39 => ?_⟩)
          ·
            rw [if_pos (by omega)] at D
            refine x_iconst (v := 0) rfl ki_0 ?_
            refine x_zret rfl rfl (by decide) ?_
            show jX m_X12_soulAt 12 0 0 5 [(0, .ref 125), (1, .int a1), (2, .int a3)] [.int 0] _ 0 0 _
            refine x_ifeq (tgt := 15) rfl rfl (ti_eq jk_0 jk_0 (br_t (by omega) ?_))
            refine x_iconst (v := (-1)) rfl ki_m1 ?_
            refine x_iret rfl rfl ?_
            show jX m_X12_belong 13 0 0 11 [(0, .ref 125), (1, .int a1), (2, .int a2), (3, .int a3), (4, .int a4)] [.int (-1)] _ 0 0 _
            refine x_istore (lsx9 := [(5, .int (-1)), (0, .ref 125), (1, .int a1), (2, .int a2), (3, .int a3), (4, .int a4)]) rfl rfl rfl ?_
            refine x_iload (x := (-1)) rfl rfl ?_
            refine x_iconst (v := (-1)) rfl ki_m1 ?_
            refine x_iceq (tgt := 39) rfl rfl (ti_eq jk_m1 jk_m1 (br_t (by omega) ?_))
            exact jX.sub jsb_n (ct_X12_belong_r125d_39 hD hQ  h J Sm D)
          ·
            rw [if_neg (by omega)] at D
            refine x_iconst (v := 1) rfl ki_1 ?_
            refine x_goto (tgt := 35) rfl rfl ?_
            refine x_zret rfl rfl (by decide) ?_
            show jX m_X12_soulAt 12 0 0 5 [(0, .ref 125), (1, .int a1), (2, .int a3)] [.int 1] _ 0 0 _
            refine x_ifeq (tgt := 15) rfl rfl (ti_eq jk_1 jk_0 (br_f (by omega) ?_))
            refine x_iloadn (x := a3) rfl rfl ?_
            refine x_inst (N := m_X12_isDay) (As := [.int a3]) (st := []) (dx9 := 2) (mc := 0) (ms := 0) (host := "") rfl t_X12_isDay ⟨Or.inl q_12_273, s_X12_isDay⟩ rfl (by decide) rfl rfl ⟨by decide, by decide⟩ (zc_X12_isDay (d := 1) rfl (fun v40 ev40 => ?_))
            show jX m_X12_soulAt 12 0 0 12 [(0, .ref 125), (1, .int a1), (2, .int a3)] [.int v40] _ 0 0 _
            refine x_ifne (tgt := 17) rfl rfl (ti_ne rfl jk_0 ⟨fun c41 => ?_, fun c41 => ?_⟩)
            ·
              rw [if_pos (by omega)] at D
              refine x_aloadn (x := 125) rfl rfl ?_
              refine x_iloadn (x := a3) rfl rfl ?_
              refine x_inv (N := m_X12_find) (As := [.int a3]) (b := 125) (st := []) (dx9 := 8) (mc := 0) (ms := 0) (host := "") 12 rfl t_X12_find ⟨Or.inl q_12_393, i_X12_find.1, i_X12_find.2⟩ ⟨by decide, rfl⟩ (congrArg Prod.fst (J.1.1 125 (12, 92) rfl)) rfl (by decide) rfl rfl ⟨by decide, by decide⟩ (sf_X12_find_r125d (jr_of rfl (by omega)) hD J rfl  (fun h J S42 X43 => ?_))
              have Sm := jSm_tr rfl Sm S42
              rw [X43] at D
              show jX m_X12_soulAt 12 0 0 22 [(0, .ref 125), (1, .int a1), (2, .int a3)] [] _ 0 0 _
              refine x_aloadn (x := 125) rfl rfl ?_
              refine z_getR (N := 92) (b := 139) 12 29 rfl f_12_72 rfl J rfl 16029 ⟨rfl, rfl⟩ rfl ?_
              refine x_iloadn (x := a1) rfl rfl ?_
              refine z_iald (N := 600) rfl J rfl sg_139_0_600_1_0_1 rfl (by omega) (fun v44 qv44 ev44 => ?_)
              try rw [vrd qv44 (show a1.toInt = a1.toInt from by omega)] at D
              refine x_iret rfl rfl ?_
              show jX m_X12_belong 13 0 0 11 [(0, .ref 125), (1, .int a1), (2, .int a2), (3, .int a3), (4, .int a4)] [.int v44] _ 0 0 _
              refine x_istore (lsx9 := [(5, .int v44), (0, .ref 125), (1, .int a1), (2, .int a2), (3, .int a3), (4, .int a4)]) rfl rfl rfl ?_
              refine x_iload (x := v44) rfl rfl ?_
              refine x_iconst (v := (-1)) rfl ki_m1 ?_
              refine x_iceq (tgt := 39) rfl rfl (ti_eq rfl jk_m1 ⟨fun c45 => ?_, fun c45 => ?_⟩)
              ·
                rw [if_pos (by omega)] at D
                exact jX.sub jsb_n (ct_X12_belong_r125d_39 hD hQ  h J Sm D)
              ·
                rw [if_neg (by omega)] at D
                refine x_iloadn (x := a2) rfl rfl ?_
                refine x_inst (N := m_X12_isDay) (As := [.int a2]) (st := []) (dx9 := 2) (mc := 0) (ms := 0) (host := "") rfl t_X12_isDay ⟨Or.inl q_12_273, s_X12_isDay⟩ rfl (by decide) rfl rfl ⟨by decide, by decide⟩ (zc_X12_isDay (d := 1) rfl (fun v46 ev46 => ?_))
                show jX m_X12_belong 13 0 0 23 [(5, .int v44), (0, .ref 125), (1, .int a1), (2, .int a2), (3, .int a3), (4, .int a4)] [.int v46] _ 0 0 _
                refine x_ifeq (tgt := 39) rfl rfl (ti_eq rfl jk_0 ⟨fun c47 => ?_, fun c47 => ?_⟩)
                ·
                  rw [if_neg (by omega)] at D
                  exact jX.sub jsb_n (ct_X12_belong_r125d_39 hD hQ  h J Sm D)
                ·
                  rw [if_pos (by omega)] at D
                  refine x_iload (x := a4) rfl rfl ?_
                  refine z_i2l rfl rfl (fun v48 ev48 => ?_)
                  refine x_lconst (v := 0) rfl kl_0 ?_
                  refine x_ldc2 (v := 2) rfl z_12_482 ?_
                  refine x_inst (N := m_X12_in) (As := [.long v48, .long 0, .long 2]) (st := []) (dx9 := 1) (mc := 0) (ms := 0) (host := "") rfl t_X12_in ⟨Or.inl q_12_188, s_X12_in⟩ rfl (by decide) rfl rfl ⟨by decide, by decide⟩ (zc_X12_in rfl jkl_0 jkl_2 (fun v49 ev49 => ?_))
                  show jX m_X12_belong 13 0 0 36 [(5, .int v44), (0, .ref 125), (1, .int a1), (2, .int a2), (3, .int a3), (4, .int a4)] [.int v49] _ 0 0 _
                  refine x_ifne (tgt := 41) rfl rfl (ti_ne rfl jk_0 ⟨fun c50 => ?_, fun c50 => ?_⟩)
                  ·
                    rw [if_pos (by omega)] at D
                    refine x_aloadn (x := 125) rfl rfl ?_
                    refine x_iload (x := v44) rfl rfl ?_
                    refine x_iloadn (x := a2) rfl rfl ?_
                    refine x_inv (N := m_X12_belongs) (As := [.int v44, .int a2]) (b := 125) (st := []) (dx9 := 12) (mc := 0) (ms := 0) (host := "") 12 rfl t_X12_belongs ⟨Or.inl q_12_792, i_X12_belongs.1, i_X12_belongs.2⟩ ⟨by decide, rfl⟩ (congrArg Prod.fst (J.1.1 125 (12, 92) rfl)) rfl (by decide) rfl rfl ⟨by decide, by decide⟩ (sf_X12_belongs_r125d (jr_of rfl (by omega)) (jr_of rfl (by omega)) hD J rfl  (fun v54 h ev54 J S51 X52 X53 => ?_))
                    have Sm := jSm_tr rfl Sm S51
                    try rw [X52] at D
                    try rw [X53] at D
                    show jX m_X12_belong 13 0 0 48 [(5, .int v44), (0, .ref 125), (1, .int a1), (2, .int a2), (3, .int a3), (4, .int a4)] [.int v54] _ 0 0 _
                    refine x_istore (lsx9 := [(6, .int v54), (5, .int v44), (0, .ref 125), (1, .int a1), (2, .int a2), (3, .int a3), (4, .int a4)]) rfl rfl rfl ?_
                    refine x_iload (x := a4) rfl rfl ?_
                    refine x_ifne (tgt := 60) rfl rfl (ti_ne rfl jk_0 ⟨fun c55 => ?_, fun c55 => ?_⟩)
                    ·
                      rw [if_neg (by omega)] at D
                      refine x_iload (x := a4) rfl rfl ?_
                      refine x_iconst (v := 1) rfl ki_1 ?_
                      refine x_icne (tgt := 83) rfl rfl (ti_ne rfl jk_1 ⟨fun c56 => ?_, fun c56 => ?_⟩)
                      ·
                        rw [if_neg (by omega)] at D
                        refine x_iload (x := v54) rfl rfl ?_
                        refine x_iconst (v := (-1)) rfl ki_m1 ?_
                        refine x_icne (tgt := 96) rfl rfl (ti_ne rfl jk_m1 ⟨fun c57 => ?_, fun c57 => ?_⟩)
                        ·
                          rw [if_neg (by omega)] at D
                          refine x_iconst (v := 0) rfl ki_0 ?_
                          exact jX.sub jsb_n (ct_X12_belong_r125d_200097 hD hQ  h J Sm D)
                        ·
                          rw [if_pos (by omega)] at D
                          refine x_aloadn (x := 125) rfl rfl ?_
                          refine z_getI0 (N := 92) 12 76 rfl f_12_777 rfl J rfl (fun v58 qv58 => ?_)
                          have ev58 := jfull v58
                          try rw [vrf qv58] at D
                          refine x_goto (tgt := 97) rfl rfl ?_
                          exact jX.sub jsb_n (ct_X12_belong_r125d_97 hD hQ  v58 h J Sm D)
                      ·
                        rw [if_pos (by omega)] at D
                        refine x_iload (x := v54) rfl rfl ?_
                        refine x_iconst (v := (-1)) rfl ki_m1 ?_
                        refine x_icne (tgt := 76) rfl rfl (ti_ne rfl jk_m1 ⟨fun c59 => ?_, fun c59 => ?_⟩)
                        ·
                          rw [if_neg (by omega)] at D
                          refine x_aloadn (x := 125) rfl rfl ?_
                          refine z_getI (N := 92) 12 75 rfl f_12_774 rfl J rfl sg_125_75_76_1_0_1 (fun v60 qv60 ev60 => ?_)
                          try rw [vrf qv60] at D
                          refine x_goto (tgt := 97) rfl rfl ?_
                          exact jX.sub jsb_n (ct_X12_belong_r125d_97 hD hQ  v60 h J Sm D)
                        ·
                          rw [if_pos (by omega)] at D
                          refine x_iconst (v := (-1)) rfl ki_m1 ?_
                          refine x_goto (tgt := 97) rfl rfl ?_
                          exact jX.sub jsb_n (ct_X12_belong_r125d_100097 hD hQ  h J Sm D)
                    ·
                      rw [if_pos (by omega)] at D
                      refine x_iload (x := v54) rfl rfl ?_
                      refine x_goto (tgt := 97) rfl rfl ?_
                      exact jX.sub jsb_n (ct_X12_belong_r125d_97 hD hQ  v54 h J Sm D)
                  ·
                    rw [if_neg (by omega)] at D
                    exact jX.sub jsb_n (ct_X12_belong_r125d_39 hD hQ  h J Sm D)
            ·
              rw [if_neg (by omega)] at D
              refine x_iconst (v := (-1)) rfl ki_m1 ?_
              refine x_iret rfl rfl ?_
              show jX m_X12_belong 13 0 0 11 [(0, .ref 125), (1, .int a1), (2, .int a2), (3, .int a3), (4, .int a4)] [.int (-1)] _ 0 0 _
              refine x_istore (lsx9 := [(5, .int (-1)), (0, .ref 125), (1, .int a1), (2, .int a2), (3, .int a3), (4, .int a4)]) rfl rfl rfl ?_
              refine x_iload (x := (-1)) rfl rfl ?_
              refine x_iconst (v := (-1)) rfl ki_m1 ?_
              refine x_iceq (tgt := 39) rfl rfl (ti_eq jk_m1 jk_m1 (br_t (by omega) ?_))
              exact jX.sub jsb_n (ct_X12_belong_r125d_39 hD hQ  h J Sm D)
      ·
        rw [if_pos (by omega)] at D
        refine x_iconst (v := 3) rfl ki_3 ?_
        refine x_goto (tgt := 18) rfl rfl ?_
        refine x_iret rfl rfl ?_
        show jX m_X12_isMention 11 0 0 27 [(0, .ref 125), (1, .int a1)] [.int 3, .int v10] _ 0 0 _
        refine x_icge (tgt := 34) rfl rfl (ti_ge rfl jk_3 (br_f (by omega) ?_))
        refine x_iconst (v := 1) rfl ki_1 ?_
        refine x_goto (tgt := 35) rfl rfl ?_
        refine x_zret rfl rfl (by decide) ?_
        show jX m_X12_soulAt 12 0 0 5 [(0, .ref 125), (1, .int a1), (2, .int a3)] [.int 1] _ 0 0 _
        refine x_ifeq (tgt := 15) rfl rfl (ti_eq jk_1 jk_0 (br_f (by omega) ?_))
        refine x_iloadn (x := a3) rfl rfl ?_
        refine x_inst (N := m_X12_isDay) (As := [.int a3]) (st := []) (dx9 := 2) (mc := 0) (ms := 0) (host := "") rfl t_X12_isDay ⟨Or.inl q_12_273, s_X12_isDay⟩ rfl (by decide) rfl rfl ⟨by decide, by decide⟩ (zc_X12_isDay (d := 1) rfl (fun v61 ev61 => ?_))
        show jX m_X12_soulAt 12 0 0 12 [(0, .ref 125), (1, .int a1), (2, .int a3)] [.int v61] _ 0 0 _
        refine x_ifne (tgt := 17) rfl rfl (ti_ne rfl jk_0 ⟨fun c62 => ?_, fun c62 => ?_⟩)
        ·
          rw [if_pos (by omega)] at D
          refine x_aloadn (x := 125) rfl rfl ?_
          refine x_iloadn (x := a3) rfl rfl ?_
          refine x_inv (N := m_X12_find) (As := [.int a3]) (b := 125) (st := []) (dx9 := 8) (mc := 0) (ms := 0) (host := "") 12 rfl t_X12_find ⟨Or.inl q_12_393, i_X12_find.1, i_X12_find.2⟩ ⟨by decide, rfl⟩ (congrArg Prod.fst (J.1.1 125 (12, 92) rfl)) rfl (by decide) rfl rfl ⟨by decide, by decide⟩ (sf_X12_find_r125d (jr_of rfl (by omega)) hD J rfl  (fun h J S63 X64 => ?_))
          have Sm := jSm_tr rfl Sm S63
          rw [X64] at D
          show jX m_X12_soulAt 12 0 0 22 [(0, .ref 125), (1, .int a1), (2, .int a3)] [] _ 0 0 _
          refine x_aloadn (x := 125) rfl rfl ?_
          refine z_getR (N := 92) (b := 139) 12 29 rfl f_12_72 rfl J rfl 16029 ⟨rfl, rfl⟩ rfl ?_
          refine x_iloadn (x := a1) rfl rfl ?_
          refine z_iald (N := 600) rfl J rfl sg_139_0_600_1_0_1 rfl (by omega) (fun v65 qv65 ev65 => ?_)
          try rw [vrd qv65 (show a1.toInt = a1.toInt from by omega)] at D
          refine x_iret rfl rfl ?_
          show jX m_X12_belong 13 0 0 11 [(0, .ref 125), (1, .int a1), (2, .int a2), (3, .int a3), (4, .int a4)] [.int v65] _ 0 0 _
          refine x_istore (lsx9 := [(5, .int v65), (0, .ref 125), (1, .int a1), (2, .int a2), (3, .int a3), (4, .int a4)]) rfl rfl rfl ?_
          refine x_iload (x := v65) rfl rfl ?_
          refine x_iconst (v := (-1)) rfl ki_m1 ?_
          refine x_iceq (tgt := 39) rfl rfl (ti_eq rfl jk_m1 ⟨fun c66 => ?_, fun c66 => ?_⟩)
          ·
            rw [if_pos (by omega)] at D
            exact jX.sub jsb_n (ct_X12_belong_r125d_39 hD hQ  h J Sm D)
          ·
            rw [if_neg (by omega)] at D
            refine x_iloadn (x := a2) rfl rfl ?_
            refine x_inst (N := m_X12_isDay) (As := [.int a2]) (st := []) (dx9 := 2) (mc := 0) (ms := 0) (host := "") rfl t_X12_isDay ⟨Or.inl q_12_273, s_X12_isDay⟩ rfl (by decide) rfl rfl ⟨by decide, by decide⟩ (zc_X12_isDay (d := 1) rfl (fun v67 ev67 => ?_))
            show jX m_X12_belong 13 0 0 23 [(5, .int v65), (0, .ref 125), (1, .int a1), (2, .int a2), (3, .int a3), (4, .int a4)] [.int v67] _ 0 0 _
            refine x_ifeq (tgt := 39) rfl rfl (ti_eq rfl jk_0 ⟨fun c68 => ?_, fun c68 => ?_⟩)
            ·
              rw [if_neg (by omega)] at D
              exact jX.sub jsb_n (ct_X12_belong_r125d_39 hD hQ  h J Sm D)
            ·
              rw [if_pos (by omega)] at D
              refine x_iload (x := a4) rfl rfl ?_
              refine z_i2l rfl rfl (fun v69 ev69 => ?_)
              refine x_lconst (v := 0) rfl kl_0 ?_
              refine x_ldc2 (v := 2) rfl z_12_482 ?_
              refine x_inst (N := m_X12_in) (As := [.long v69, .long 0, .long 2]) (st := []) (dx9 := 1) (mc := 0) (ms := 0) (host := "") rfl t_X12_in ⟨Or.inl q_12_188, s_X12_in⟩ rfl (by decide) rfl rfl ⟨by decide, by decide⟩ (zc_X12_in rfl jkl_0 jkl_2 (fun v70 ev70 => ?_))
              show jX m_X12_belong 13 0 0 36 [(5, .int v65), (0, .ref 125), (1, .int a1), (2, .int a2), (3, .int a3), (4, .int a4)] [.int v70] _ 0 0 _
              refine x_ifne (tgt := 41) rfl rfl (ti_ne rfl jk_0 ⟨fun c71 => ?_, fun c71 => ?_⟩)
              ·
                rw [if_pos (by omega)] at D
                refine x_aloadn (x := 125) rfl rfl ?_
                refine x_iload (x := v65) rfl rfl ?_
                refine x_iloadn (x := a2) rfl rfl ?_
                refine x_inv (N := m_X12_belongs) (As := [.int v65, .int a2]) (b := 125) (st := []) (dx9 := 12) (mc := 0) (ms := 0) (host := "") 12 rfl t_X12_belongs ⟨Or.inl q_12_792, i_X12_belongs.1, i_X12_belongs.2⟩ ⟨by decide, rfl⟩ (congrArg Prod.fst (J.1.1 125 (12, 92) rfl)) rfl (by decide) rfl rfl ⟨by decide, by decide⟩ (sf_X12_belongs_r125d (jr_of rfl (by omega)) (jr_of rfl (by omega)) hD J rfl  (fun v75 h ev75 J S72 X73 X74 => ?_))
                have Sm := jSm_tr rfl Sm S72
                try rw [X73] at D
                try rw [X74] at D
                show jX m_X12_belong 13 0 0 48 [(5, .int v65), (0, .ref 125), (1, .int a1), (2, .int a2), (3, .int a3), (4, .int a4)] [.int v75] _ 0 0 _
                refine x_istore (lsx9 := [(6, .int v75), (5, .int v65), (0, .ref 125), (1, .int a1), (2, .int a2), (3, .int a3), (4, .int a4)]) rfl rfl rfl ?_
                refine x_iload (x := a4) rfl rfl ?_
                refine x_ifne (tgt := 60) rfl rfl (ti_ne rfl jk_0 ⟨fun c76 => ?_, fun c76 => ?_⟩)
                ·
                  rw [if_neg (by omega)] at D
                  refine x_iload (x := a4) rfl rfl ?_
                  refine x_iconst (v := 1) rfl ki_1 ?_
                  refine x_icne (tgt := 83) rfl rfl (ti_ne rfl jk_1 ⟨fun c77 => ?_, fun c77 => ?_⟩)
                  ·
                    rw [if_neg (by omega)] at D
                    refine x_iload (x := v75) rfl rfl ?_
                    refine x_iconst (v := (-1)) rfl ki_m1 ?_
                    refine x_icne (tgt := 96) rfl rfl (ti_ne rfl jk_m1 ⟨fun c78 => ?_, fun c78 => ?_⟩)
                    ·
                      rw [if_neg (by omega)] at D
                      refine x_iconst (v := 0) rfl ki_0 ?_
                      exact jX.sub jsb_n (ct_X12_belong_r125d_200097 hD hQ  h J Sm D)
                    ·
                      rw [if_pos (by omega)] at D
                      refine x_aloadn (x := 125) rfl rfl ?_
                      refine z_getI0 (N := 92) 12 76 rfl f_12_777 rfl J rfl (fun v79 qv79 => ?_)
                      have ev79 := jfull v79
                      try rw [vrf qv79] at D
                      refine x_goto (tgt := 97) rfl rfl ?_
                      exact jX.sub jsb_n (ct_X12_belong_r125d_97 hD hQ  v79 h J Sm D)
                  ·
                    rw [if_pos (by omega)] at D
                    refine x_iload (x := v75) rfl rfl ?_
                    refine x_iconst (v := (-1)) rfl ki_m1 ?_
                    refine x_icne (tgt := 76) rfl rfl (ti_ne rfl jk_m1 ⟨fun c80 => ?_, fun c80 => ?_⟩)
                    ·
                      rw [if_neg (by omega)] at D
                      refine x_aloadn (x := 125) rfl rfl ?_
                      refine z_getI (N := 92) 12 75 rfl f_12_774 rfl J rfl sg_125_75_76_1_0_1 (fun v81 qv81 ev81 => ?_)
                      try rw [vrf qv81] at D
                      refine x_goto (tgt := 97) rfl rfl ?_
                      exact jX.sub jsb_n (ct_X12_belong_r125d_97 hD hQ  v81 h J Sm D)
                    ·
                      rw [if_pos (by omega)] at D
                      refine x_iconst (v := (-1)) rfl ki_m1 ?_
                      refine x_goto (tgt := 97) rfl rfl ?_
                      exact jX.sub jsb_n (ct_X12_belong_r125d_100097 hD hQ  h J Sm D)
                ·
                  rw [if_pos (by omega)] at D
                  refine x_iload (x := v75) rfl rfl ?_
                  refine x_goto (tgt := 97) rfl rfl ?_
                  exact jX.sub jsb_n (ct_X12_belong_r125d_97 hD hQ  v75 h J Sm D)
              ·
                rw [if_neg (by omega)] at D
                exact jX.sub jsb_n (ct_X12_belong_r125d_39 hD hQ  h J Sm D)
        ·
          rw [if_neg (by omega)] at D
          refine x_iconst (v := (-1)) rfl ki_m1 ?_
          refine x_iret rfl rfl ?_
          show jX m_X12_belong 13 0 0 11 [(0, .ref 125), (1, .int a1), (2, .int a2), (3, .int a3), (4, .int a4)] [.int (-1)] _ 0 0 _
          refine x_istore (lsx9 := [(5, .int (-1)), (0, .ref 125), (1, .int a1), (2, .int a2), (3, .int a3), (4, .int a4)]) rfl rfl rfl ?_
          refine x_iload (x := (-1)) rfl rfl ?_
          refine x_iconst (v := (-1)) rfl ki_m1 ?_
          refine x_iceq (tgt := 39) rfl rfl (ti_eq jk_m1 jk_m1 (br_t (by omega) ?_))
          exact jX.sub jsb_n (ct_X12_belong_r125d_39 hD hQ  h J Sm D)
def fp_X12_firstGroups_r125d : jFp := [(145, 0, 9)]
set_option maxRecDepth 100000 in
set_option maxHeartbeats 4000000 in
theorem ct_X12_firstGroups_r125d_2 {Dy : jH → Prop} {h0 : jH} {Q : Option Value → jH → Prop} {dr : jW} (hD : jDk Dy) (hQ : ∀ hx9, jJ jSgM Dy hx9 → jSm fp_X12_firstGroups_r125d h0 hx9 → jGp hx9 → dr = vw hx9 → Q none hx9) : ∀ r : Nat, ∀ (l1 : Int32) (h : jH), 9 - l1.toInt < (r : Int) → 0 ≤ l1.toInt ∧ l1.toInt ≤ 9 → (∀ i : Nat, (i : Int) < l1.toInt → jiv h 145 i = 0) → jJ jSgM Dy h → jSm fp_X12_firstGroups_r125d h0 h → d_X12_firstGroups_r125d_2 r l1.toInt (vw h) = dr → jX m_X12_firstGroups 1 0 0 2 [(0, .ref 125), (1, .int l1)] [] h 0 0 Q := by
  intro r
  induction r with
  | zero =>
    intro l1 h hm y0 C0   J Sm D
    exfalso
    omega
  | succ r ih =>
    intro l1 h hm y0 C0   J Sm D
    rw [d_X12_firstGroups_r125d_2.eq_2] at D
    refine x_iloadn (x := l1) rfl rfl ?_
    refine x_bipush (v := 9) rfl kb_9 ?_
    refine x_icge (tgt := 21) rfl rfl (ti_ge rfl jk_9 ⟨fun c1 => ?_, fun c1 => ?_⟩)
    ·
      rw [if_pos (by omega)] at D
      refine x_vret rfl rfl ?_
      exact hQ _ J Sm (jgp_z C0 (by omega)) D.symm
    ·
      rw [if_neg (by omega)] at D
      refine x_aloadn (x := 125) rfl rfl ?_
      refine z_getR (N := 92) (b := 145) 12 41 rfl f_12_90 rfl J rfl 16041 ⟨rfl, rfl⟩ rfl ?_
      refine x_iloadn (x := l1) rfl rfl ?_
      refine x_iconst (v := 0) rfl ki_0 ?_
      refine z_iast (N := 9) (l := 0) (u := 9) (w := 0) rfl hD J Sm rfl rfl rfl (by omega) jk_0 (wr_145 (fun q1 q2 q3 q4 => by omega)) rfl (fun h w2 J Sm => ?_)
      rw [vww w2 (show l1.toInt = l1.toInt from by omega) (show 0 = (0 : Int32).toInt from by have := jk_0; omega)] at D
      refine z_iinc (x := l1) (lsx9 := fun v3 => [(1, .int v3), (0, .ref 125)]) rfl rfl rfl jko_1 (by omega) rfl (fun _ => rfl) (fun v3 ev3 => ?_)
      refine x_goto (tgt := 2) rfl rfl ?_
      try rw [show (l1.toInt + 1) = v3.toInt from by omega] at D
      exact jX.sub (jsb_c rfl (jsb_c rfl jsb_n)) (ih v3 h (by omega) (jr_of rfl (by omega)) (jgz_s C0 w2 (by omega)) J Sm D)
set_option maxRecDepth 100000 in
set_option maxHeartbeats 4000000 in
theorem sf_X12_firstGroups_r125d {Dy : jH → Prop} {h : jH} {Q : Option Value → jH → Prop} {dr : jW} (hD : jDk Dy) (J : jJ jSgM Dy h) (D : d_X12_firstGroups_r125d (vw h) = dr) (hQ : ∀ hx9, jJ jSgM Dy hx9 → jSm fp_X12_firstGroups_r125d h hx9 → jGp hx9 → dr = vw hx9 → Q none hx9) : jC m_X12_firstGroups 1 0 0 [.ref 125] h Q := by
  refine jC.of rfl k_X12_firstGroups rfl ?_
  have Sm := jSm_rf fp_X12_firstGroups_r125d h
  show jX m_X12_firstGroups 1 0 0 0 [(0, .ref 125)] [] _ 0 0 _
  unfold d_X12_firstGroups_r125d at D
  refine x_iconst (v := 0) rfl ki_0 ?_
  refine x_istoren (lsx9 := [(1, .int 0), (0, .ref 125)]) rfl rfl rfl ?_
  exact jX.sub (jsb_c rfl (jsb_c rfl jsb_n)) (ct_X12_firstGroups_r125d_2 hD hQ  10 0 h (by have := jk_0; omega) (jr_of jk_0 (by omega)) (fun i hi => absurd hi (by have := jk_0; omega)) J Sm (by rw [jk_0]; exact D))
def fp_X12_groupsWorth_r125d : jFp := []
set_option maxRecDepth 100000 in
set_option maxHeartbeats 4000000 in
theorem ct_X12_groupsWorth_r125d_139 {Dy : jH → Prop} {h0 : jH} {Q : Option Value → jH → Prop} {dr : Int} (hD : jDk Dy) (hQ : ∀ (v : Int32) hx9, jJ jSgM Dy hx9 → jSm fp_X12_groupsWorth_r125d h0 hx9 → dr = v.toInt → vw hx9 = vw h0 → Q (some (.int v)) hx9) : ∀ (s0 : Int32) (h : jH), jJ jSgM Dy h → jSm fp_X12_groupsWorth_r125d h0 h → d_X12_groupsWorth_r125d_139  s0.toInt (vw h) = dr → vw h = vw h0 → jX m_X12_groupsWorth 1 0 0 139 [] [.int s0] h 0 0 Q := by
  intro s0 h    J Sm D EV
  have es0 := jfull s0
  unfold d_X12_groupsWorth_r125d_139 at D
  refine x_iret rfl rfl ?_
  exact hQ _ _ J Sm (D.symm.trans (show s0.toInt = s0.toInt from by omega)) EV
set_option maxRecDepth 100000 in
set_option maxHeartbeats 4000000 in
theorem ct_X12_groupsWorth_r125d_100139 {Dy : jH → Prop} {h0 : jH} {Q : Option Value → jH → Prop} {dr : Int} (hD : jDk Dy) (hQ : ∀ (v : Int32) hx9, jJ jSgM Dy hx9 → jSm fp_X12_groupsWorth_r125d h0 hx9 → dr = v.toInt → vw hx9 = vw h0 → Q (some (.int v)) hx9) : ∀ (h : jH), jJ jSgM Dy h → jSm fp_X12_groupsWorth_r125d h0 h → d_X12_groupsWorth_r125d_100139  (vw h) = dr → vw h = vw h0 → jX m_X12_groupsWorth 1 0 0 139 [] [.int (-1)] h 0 0 Q := by
  intro  h    J Sm D EV
  unfold d_X12_groupsWorth_r125d_100139 at D
  refine x_iret rfl rfl ?_
  exact hQ _ _ J Sm (D.symm.trans (show (-1) = ((-1) : Int32).toInt from by have := jk_m1; omega)) EV
set_option maxRecDepth 100000 in
set_option maxHeartbeats 4000000 in
theorem ct_X12_groupsWorth_r125d_116 {Dy : jH → Prop} {h0 : jH} {Q : Option Value → jH → Prop} {dr : Int} {K6 : Int → Int → Int → jW → Int} {K17 : Int → Int → Int → Int → jW → Int} {R6 : Int} {R17 : Int} (hD : jDk Dy) (hQ : ∀ (v : Int32) hx9, jJ jSgM Dy hx9 → jSm fp_X12_groupsWorth_r125d h0 hx9 → dr = v.toInt → vw hx9 = vw h0 → Q (some (.int v)) hx9) (k6 : ∀ (l1 : Int32) (l2 : Int32) (l3 : Int32) (h : jH), 9 - l3.toInt < R6 → 0 ≤ l2.toInt ∧ l2.toInt ≤ 1 → 0 ≤ l3.toInt ∧ l3.toInt ≤ 9 → jJ jSgM Dy h → jSm fp_X12_groupsWorth_r125d h0 h → K6 l1.toInt l2.toInt l3.toInt (vw h) = dr → vw h = vw h0 → jX m_X12_groupsWorth 1 0 0 6 [(0, .ref 125), (1, .int l1), (2, .int l2), (3, .int l3)] [] h 0 0 Q) (k17 : ∀ (l1 : Int32) (l2 : Int32) (l3 : Int32) (l4 : Int32) (h : jH), 8 - l4.toInt < R17 → 0 ≤ l2.toInt ∧ l2.toInt ≤ 1 → 0 ≤ l3.toInt ∧ l3.toInt ≤ 8 → 0 ≤ l4.toInt ∧ l4.toInt ≤ 8 → 9 - l3.toInt ≤ R6 → jJ jSgM Dy h → jSm fp_X12_groupsWorth_r125d h0 h → K17 l1.toInt l2.toInt l3.toInt l4.toInt (vw h) = dr → vw h = vw h0 → jX m_X12_groupsWorth 1 0 0 17 [(0, .ref 125), (1, .int l1), (2, .int l2), (3, .int l3), (4, .int l4)] [] h 0 0 Q) : ∀ (l2 : Int32) (l3 : Int32) (l4 : Int32) (s0 : Int32) (s1 : Int32) (h : jH), 0 ≤ l2.toInt ∧ l2.toInt ≤ 1 → 1 ≤ l3.toInt ∧ l3.toInt ≤ 8 → 0 ≤ l4.toInt ∧ l4.toInt ≤ 7 → 0 ≤ s0.toInt ∧ s0.toInt ≤ 400 → 9 - l3.toInt ≤ R6 → 8 - l4.toInt ≤ R17 → jJ jSgM Dy h → jSm fp_X12_groupsWorth_r125d h0 h → d_X12_groupsWorth_r125d_116 K6 K17  l2.toInt l3.toInt l4.toInt s0.toInt s1.toInt (vw h) = dr → vw h = vw h0 → jX m_X12_groupsWorth 1 0 0 116 [(0, .ref 125), (2, .int l2), (3, .int l3), (4, .int l4)] [.int s0, .int s1] h 0 0 Q := by
  intro l2 l3 l4 s0 s1 h y0 y1 y2 y3  m6 m17 J Sm D EV
  have es1 := jfull s1
  unfold d_X12_groupsWorth_r125d_116 at D
  refine z_iaddW rfl rfl rfl (fun v1 ev1 => ?_)
  have fv1 := jfull v1
  try rw [← ev1] at D
  refine x_istoren (lsx9 := [(1, .int v1), (0, .ref 125), (2, .int l2), (3, .int l3), (4, .int l4)]) rfl rfl rfl ?_
  refine z_iinc (x := l4) (lsx9 := fun v2 => [(4, .int v2), (1, .int v1), (0, .ref 125), (2, .int l2), (3, .int l3)]) rfl rfl rfl jko_1 (by omega) rfl (fun _ => rfl) (fun v2 ev2 => ?_)
  refine x_goto (tgt := 17) rfl rfl ?_
  try rw [show (l4.toInt + 1) = v2.toInt from by omega] at D
  exact jX.sub (jsb_c rfl (jsb_c rfl (jsb_c rfl (jsb_c rfl (jsb_c rfl jsb_n))))) (k17 v1 l2 l3 v2 h (by omega) (jr_of rfl (by omega)) (jr_of rfl (by omega)) (jr_of rfl (by omega)) (by omega) J Sm D EV)
set_option maxRecDepth 100000 in
set_option maxHeartbeats 4000000 in
theorem ct_X12_groupsWorth_r125d_200116 {Dy : jH → Prop} {h0 : jH} {Q : Option Value → jH → Prop} {dr : Int} {K6 : Int → Int → Int → jW → Int} {K17 : Int → Int → Int → Int → jW → Int} {R6 : Int} {R17 : Int} (hD : jDk Dy) (hQ : ∀ (v : Int32) hx9, jJ jSgM Dy hx9 → jSm fp_X12_groupsWorth_r125d h0 hx9 → dr = v.toInt → vw hx9 = vw h0 → Q (some (.int v)) hx9) (k6 : ∀ (l1 : Int32) (l2 : Int32) (l3 : Int32) (h : jH), 9 - l3.toInt < R6 → 0 ≤ l2.toInt ∧ l2.toInt ≤ 1 → 0 ≤ l3.toInt ∧ l3.toInt ≤ 9 → jJ jSgM Dy h → jSm fp_X12_groupsWorth_r125d h0 h → K6 l1.toInt l2.toInt l3.toInt (vw h) = dr → vw h = vw h0 → jX m_X12_groupsWorth 1 0 0 6 [(0, .ref 125), (1, .int l1), (2, .int l2), (3, .int l3)] [] h 0 0 Q) (k17 : ∀ (l1 : Int32) (l2 : Int32) (l3 : Int32) (l4 : Int32) (h : jH), 8 - l4.toInt < R17 → 0 ≤ l2.toInt ∧ l2.toInt ≤ 1 → 0 ≤ l3.toInt ∧ l3.toInt ≤ 8 → 0 ≤ l4.toInt ∧ l4.toInt ≤ 8 → 9 - l3.toInt ≤ R6 → jJ jSgM Dy h → jSm fp_X12_groupsWorth_r125d h0 h → K17 l1.toInt l2.toInt l3.toInt l4.toInt (vw h) = dr → vw h = vw h0 → jX m_X12_groupsWorth 1 0 0 17 [(0, .ref 125), (1, .int l1), (2, .int l2), (3, .int l3), (4, .int l4)] [] h 0 0 Q) : ∀ (l2 : Int32) (l3 : Int32) (l4 : Int32) (s1 : Int32) (h : jH), 0 ≤ l2.toInt ∧ l2.toInt ≤ 1 → 1 ≤ l3.toInt ∧ l3.toInt ≤ 8 → 0 ≤ l4.toInt ∧ l4.toInt ≤ 7 → 9 - l3.toInt ≤ R6 → 8 - l4.toInt ≤ R17 → jJ jSgM Dy h → jSm fp_X12_groupsWorth_r125d h0 h → d_X12_groupsWorth_r125d_200116 K6 K17  l2.toInt l3.toInt l4.toInt s1.toInt (vw h) = dr → vw h = vw h0 → jX m_X12_groupsWorth 1 0 0 116 [(0, .ref 125), (2, .int l2), (3, .int l3), (4, .int l4)] [.int 0, .int s1] h 0 0 Q := by
  intro l2 l3 l4 s1 h y0 y1 y2  m6 m17 J Sm D EV
  have es1 := jfull s1
  unfold d_X12_groupsWorth_r125d_200116 at D
  refine z_iadd rfl rfl jk_0 (by omega) (fun v1 ev1 => ?_)
  refine x_istoren (lsx9 := [(1, .int v1), (0, .ref 125), (2, .int l2), (3, .int l3), (4, .int l4)]) rfl rfl rfl ?_
  refine z_iinc (x := l4) (lsx9 := fun v2 => [(4, .int v2), (1, .int v1), (0, .ref 125), (2, .int l2), (3, .int l3)]) rfl rfl rfl jko_1 (by omega) rfl (fun _ => rfl) (fun v2 ev2 => ?_)
  refine x_goto (tgt := 17) rfl rfl ?_
  try rw [show (s1.toInt + 0) = v1.toInt from by omega] at D
  try rw [show (l4.toInt + 1) = v2.toInt from by omega] at D
  exact jX.sub (jsb_c rfl (jsb_c rfl (jsb_c rfl (jsb_c rfl (jsb_c rfl jsb_n))))) (k17 v1 l2 l3 v2 h (by omega) (jr_of rfl (by omega)) (jr_of rfl (by omega)) (jr_of rfl (by omega)) (by omega) J Sm D EV)
set_option maxRecDepth 100000 in
set_option maxHeartbeats 4000000 in
theorem ct_X12_groupsWorth_r125d_200093 {Dy : jH → Prop} {h0 : jH} {Q : Option Value → jH → Prop} {dr : Int} {K6 : Int → Int → Int → jW → Int} {K17 : Int → Int → Int → Int → jW → Int} {R6 : Int} {R17 : Int} (hD : jDk Dy) (hQ : ∀ (v : Int32) hx9, jJ jSgM Dy hx9 → jSm fp_X12_groupsWorth_r125d h0 hx9 → dr = v.toInt → vw hx9 = vw h0 → Q (some (.int v)) hx9) (k6 : ∀ (l1 : Int32) (l2 : Int32) (l3 : Int32) (h : jH), 9 - l3.toInt < R6 → 0 ≤ l2.toInt ∧ l2.toInt ≤ 1 → 0 ≤ l3.toInt ∧ l3.toInt ≤ 9 → jJ jSgM Dy h → jSm fp_X12_groupsWorth_r125d h0 h → K6 l1.toInt l2.toInt l3.toInt (vw h) = dr → vw h = vw h0 → jX m_X12_groupsWorth 1 0 0 6 [(0, .ref 125), (1, .int l1), (2, .int l2), (3, .int l3)] [] h 0 0 Q) (k17 : ∀ (l1 : Int32) (l2 : Int32) (l3 : Int32) (l4 : Int32) (h : jH), 8 - l4.toInt < R17 → 0 ≤ l2.toInt ∧ l2.toInt ≤ 1 → 0 ≤ l3.toInt ∧ l3.toInt ≤ 8 → 0 ≤ l4.toInt ∧ l4.toInt ≤ 8 → 9 - l3.toInt ≤ R6 → jJ jSgM Dy h → jSm fp_X12_groupsWorth_r125d h0 h → K17 l1.toInt l2.toInt l3.toInt l4.toInt (vw h) = dr → vw h = vw h0 → jX m_X12_groupsWorth 1 0 0 17 [(0, .ref 125), (1, .int l1), (2, .int l2), (3, .int l3), (4, .int l4)] [] h 0 0 Q) : ∀ (l1 : Int32) (l3 : Int32) (l4 : Int32) (l5 : Int32) (h : jH), 1 ≤ l3.toInt ∧ l3.toInt ≤ 8 → 0 ≤ l4.toInt ∧ l4.toInt ≤ 7 → 0 ≤ l5.toInt ∧ l5.toInt ≤ 1 → 9 - l3.toInt ≤ R6 → 8 - l4.toInt ≤ R17 → jJ jSgM Dy h → jSm fp_X12_groupsWorth_r125d h0 h → d_X12_groupsWorth_r125d_200093 K6 K17  l1.toInt l3.toInt l4.toInt l5.toInt (vw h) = dr → vw h = vw h0 → jX m_X12_groupsWorth 1 0 0 93 [(0, .ref 125), (1, .int l1), (3, .int l3), (4, .int l4), (5, .int l5)] [.int 0] h 0 0 Q := by
  intro l1 l3 l4 l5 h y0 y1 y2  m6 m17 J Sm D EV
  have el1 := jfull l1
  unfold d_X12_groupsWorth_r125d_200093 at D
  refine x_istoren (lsx9 := [(2, .int 0), (0, .ref 125), (1, .int l1), (3, .int l3), (4, .int l4), (5, .int l5)]) rfl rfl rfl ?_
  refine x_iloadn (x := l1) rfl rfl ?_
  refine x_iload (x := l5) rfl rfl ?_
  refine x_ifeq (tgt := 115) rfl rfl (ti_eq rfl jk_0 ⟨fun c1 => ?_, fun c1 => ?_⟩)
  ·
    rw [if_pos (by omega)] at D
    refine x_iconst (v := 0) rfl ki_0 ?_
    exact jX.sub (jsb_c rfl (jsb_c rfl (jsb_c rfl (jsb_c rfl jsb_n)))) (ct_X12_groupsWorth_r125d_200116 hD hQ k6 k17 0 l3 l4 l1 h (jr_of jk_0 (by omega)) (jr_of rfl (by omega)) (jr_of rfl (by omega)) (by omega) (by omega) J Sm (by rw [jk_0]; exact D) EV)
  ·
    rw [if_neg (by omega)] at D
    refine x_aloadn (x := 125) rfl rfl ?_
    refine z_getR (N := 92) (b := 144) 12 40 rfl f_12_87 rfl J rfl 16040 ⟨rfl, rfl⟩ rfl ?_
    refine x_bipush (v := 9) rfl kb_9 ?_
    refine x_iloadn (x := l3) rfl rfl ?_
    refine z_imul rfl jk_9 rfl (by omega) (fun v2 ev2 => ?_)
    refine x_iload (x := l4) rfl rfl ?_
    refine z_iadd rfl rfl rfl (by omega) (fun v3 ev3 => ?_)
    refine z_iald (N := 81) rfl J rfl sg_144_0_81_1_0_1 rfl (by omega) (fun v4 qv4 ev4 => ?_)
    try rw [vrd qv4 (show ((9 * l3.toInt) + l4.toInt) = v3.toInt from by omega)] at D
    refine x_goto (tgt := 116) rfl rfl ?_
    exact jX.sub (jsb_c rfl (jsb_c rfl (jsb_c rfl (jsb_c rfl jsb_n)))) (ct_X12_groupsWorth_r125d_116 hD hQ k6 k17 0 l3 l4 v4 l1 h (jr_of jk_0 (by omega)) (jr_of rfl (by omega)) (jr_of rfl (by omega)) (jr_of rfl (by omega)) (by omega) (by omega) J Sm (by rw [jk_0]; exact D) EV)
set_option maxRecDepth 100000 in
set_option maxHeartbeats 4000000 in
theorem ct_X12_groupsWorth_r125d_300093 {Dy : jH → Prop} {h0 : jH} {Q : Option Value → jH → Prop} {dr : Int} {K6 : Int → Int → Int → jW → Int} {K17 : Int → Int → Int → Int → jW → Int} {R6 : Int} {R17 : Int} (hD : jDk Dy) (hQ : ∀ (v : Int32) hx9, jJ jSgM Dy hx9 → jSm fp_X12_groupsWorth_r125d h0 hx9 → dr = v.toInt → vw hx9 = vw h0 → Q (some (.int v)) hx9) (k6 : ∀ (l1 : Int32) (l2 : Int32) (l3 : Int32) (h : jH), 9 - l3.toInt < R6 → 0 ≤ l2.toInt ∧ l2.toInt ≤ 1 → 0 ≤ l3.toInt ∧ l3.toInt ≤ 9 → jJ jSgM Dy h → jSm fp_X12_groupsWorth_r125d h0 h → K6 l1.toInt l2.toInt l3.toInt (vw h) = dr → vw h = vw h0 → jX m_X12_groupsWorth 1 0 0 6 [(0, .ref 125), (1, .int l1), (2, .int l2), (3, .int l3)] [] h 0 0 Q) (k17 : ∀ (l1 : Int32) (l2 : Int32) (l3 : Int32) (l4 : Int32) (h : jH), 8 - l4.toInt < R17 → 0 ≤ l2.toInt ∧ l2.toInt ≤ 1 → 0 ≤ l3.toInt ∧ l3.toInt ≤ 8 → 0 ≤ l4.toInt ∧ l4.toInt ≤ 8 → 9 - l3.toInt ≤ R6 → jJ jSgM Dy h → jSm fp_X12_groupsWorth_r125d h0 h → K17 l1.toInt l2.toInt l3.toInt l4.toInt (vw h) = dr → vw h = vw h0 → jX m_X12_groupsWorth 1 0 0 17 [(0, .ref 125), (1, .int l1), (2, .int l2), (3, .int l3), (4, .int l4)] [] h 0 0 Q) : ∀ (l1 : Int32) (l3 : Int32) (l4 : Int32) (l5 : Int32) (h : jH), 1 ≤ l3.toInt ∧ l3.toInt ≤ 8 → 0 ≤ l4.toInt ∧ l4.toInt ≤ 7 → 0 ≤ l5.toInt ∧ l5.toInt ≤ 1 → 9 - l3.toInt ≤ R6 → 8 - l4.toInt ≤ R17 → jJ jSgM Dy h → jSm fp_X12_groupsWorth_r125d h0 h → d_X12_groupsWorth_r125d_300093 K6 K17  l1.toInt l3.toInt l4.toInt l5.toInt (vw h) = dr → vw h = vw h0 → jX m_X12_groupsWorth 1 0 0 93 [(0, .ref 125), (1, .int l1), (3, .int l3), (4, .int l4), (5, .int l5)] [.int 1] h 0 0 Q := by
  intro l1 l3 l4 l5 h y0 y1 y2  m6 m17 J Sm D EV
  have el1 := jfull l1
  unfold d_X12_groupsWorth_r125d_300093 at D
  refine x_istoren (lsx9 := [(2, .int 1), (0, .ref 125), (1, .int l1), (3, .int l3), (4, .int l4), (5, .int l5)]) rfl rfl rfl ?_
  refine x_iloadn (x := l1) rfl rfl ?_
  refine x_iload (x := l5) rfl rfl ?_
  refine x_ifeq (tgt := 115) rfl rfl (ti_eq rfl jk_0 ⟨fun c1 => ?_, fun c1 => ?_⟩)
  ·
    rw [if_pos (by omega)] at D
    refine x_iconst (v := 0) rfl ki_0 ?_
    exact jX.sub (jsb_c rfl (jsb_c rfl (jsb_c rfl (jsb_c rfl jsb_n)))) (ct_X12_groupsWorth_r125d_200116 hD hQ k6 k17 1 l3 l4 l1 h (jr_of jk_1 (by omega)) (jr_of rfl (by omega)) (jr_of rfl (by omega)) (by omega) (by omega) J Sm (by rw [jk_1]; exact D) EV)
  ·
    rw [if_neg (by omega)] at D
    refine x_aloadn (x := 125) rfl rfl ?_
    refine z_getR (N := 92) (b := 144) 12 40 rfl f_12_87 rfl J rfl 16040 ⟨rfl, rfl⟩ rfl ?_
    refine x_bipush (v := 9) rfl kb_9 ?_
    refine x_iloadn (x := l3) rfl rfl ?_
    refine z_imul rfl jk_9 rfl (by omega) (fun v2 ev2 => ?_)
    refine x_iload (x := l4) rfl rfl ?_
    refine z_iadd rfl rfl rfl (by omega) (fun v3 ev3 => ?_)
    refine z_iald (N := 81) rfl J rfl sg_144_0_81_1_0_1 rfl (by omega) (fun v4 qv4 ev4 => ?_)
    try rw [vrd qv4 (show ((9 * l3.toInt) + l4.toInt) = v3.toInt from by omega)] at D
    refine x_goto (tgt := 116) rfl rfl ?_
    exact jX.sub (jsb_c rfl (jsb_c rfl (jsb_c rfl (jsb_c rfl jsb_n)))) (ct_X12_groupsWorth_r125d_116 hD hQ k6 k17 1 l3 l4 v4 l1 h (jr_of jk_1 (by omega)) (jr_of rfl (by omega)) (jr_of rfl (by omega)) (jr_of rfl (by omega)) (by omega) (by omega) J Sm (by rw [jk_1]; exact D) EV)
set_option maxRecDepth 100000 in
set_option maxHeartbeats 4000000 in
theorem ct_X12_groupsWorth_r125d_92 {Dy : jH → Prop} {h0 : jH} {Q : Option Value → jH → Prop} {dr : Int} {K6 : Int → Int → Int → jW → Int} {K17 : Int → Int → Int → Int → jW → Int} {R6 : Int} {R17 : Int} (hD : jDk Dy) (hQ : ∀ (v : Int32) hx9, jJ jSgM Dy hx9 → jSm fp_X12_groupsWorth_r125d h0 hx9 → dr = v.toInt → vw hx9 = vw h0 → Q (some (.int v)) hx9) (k6 : ∀ (l1 : Int32) (l2 : Int32) (l3 : Int32) (h : jH), 9 - l3.toInt < R6 → 0 ≤ l2.toInt ∧ l2.toInt ≤ 1 → 0 ≤ l3.toInt ∧ l3.toInt ≤ 9 → jJ jSgM Dy h → jSm fp_X12_groupsWorth_r125d h0 h → K6 l1.toInt l2.toInt l3.toInt (vw h) = dr → vw h = vw h0 → jX m_X12_groupsWorth 1 0 0 6 [(0, .ref 125), (1, .int l1), (2, .int l2), (3, .int l3)] [] h 0 0 Q) (k17 : ∀ (l1 : Int32) (l2 : Int32) (l3 : Int32) (l4 : Int32) (h : jH), 8 - l4.toInt < R17 → 0 ≤ l2.toInt ∧ l2.toInt ≤ 1 → 0 ≤ l3.toInt ∧ l3.toInt ≤ 8 → 0 ≤ l4.toInt ∧ l4.toInt ≤ 8 → 9 - l3.toInt ≤ R6 → jJ jSgM Dy h → jSm fp_X12_groupsWorth_r125d h0 h → K17 l1.toInt l2.toInt l3.toInt l4.toInt (vw h) = dr → vw h = vw h0 → jX m_X12_groupsWorth 1 0 0 17 [(0, .ref 125), (1, .int l1), (2, .int l2), (3, .int l3), (4, .int l4)] [] h 0 0 Q) : ∀ (l1 : Int32) (l3 : Int32) (l4 : Int32) (l5 : Int32) (h : jH), 1 ≤ l3.toInt ∧ l3.toInt ≤ 8 → 0 ≤ l4.toInt ∧ l4.toInt ≤ 7 → 0 ≤ l5.toInt ∧ l5.toInt ≤ 1 → 9 - l3.toInt ≤ R6 → 8 - l4.toInt ≤ R17 → jJ jSgM Dy h → jSm fp_X12_groupsWorth_r125d h0 h → d_X12_groupsWorth_r125d_92 K6 K17  l1.toInt l3.toInt l4.toInt l5.toInt (vw h) = dr → vw h = vw h0 → jX m_X12_groupsWorth 1 0 0 92 [(0, .ref 125), (1, .int l1), (3, .int l3), (4, .int l4), (5, .int l5)] [] h 0 0 Q := by
  intro l1 l3 l4 l5 h y0 y1 y2  m6 m17 J Sm D EV
  have el1 := jfull l1
  unfold d_X12_groupsWorth_r125d_92 at D
  refine x_iconst (v := 0) rfl ki_0 ?_
  exact jX.sub (jsb_c rfl (jsb_c rfl (jsb_c rfl (jsb_c rfl (jsb_c rfl jsb_n))))) (ct_X12_groupsWorth_r125d_200093 hD hQ k6 k17 l1 l3 l4 l5 h (jr_of rfl (by omega)) (jr_of rfl (by omega)) (jr_of rfl (by omega)) (by omega) (by omega) J Sm D EV)
set_option maxRecDepth 100000 in
set_option maxHeartbeats 4000000 in
theorem ct_X12_groupsWorth_r125d_88 {Dy : jH → Prop} {h0 : jH} {Q : Option Value → jH → Prop} {dr : Int} {K6 : Int → Int → Int → jW → Int} {K17 : Int → Int → Int → Int → jW → Int} {R6 : Int} {R17 : Int} (hD : jDk Dy) (hQ : ∀ (v : Int32) hx9, jJ jSgM Dy hx9 → jSm fp_X12_groupsWorth_r125d h0 hx9 → dr = v.toInt → vw hx9 = vw h0 → Q (some (.int v)) hx9) (k6 : ∀ (l1 : Int32) (l2 : Int32) (l3 : Int32) (h : jH), 9 - l3.toInt < R6 → 0 ≤ l2.toInt ∧ l2.toInt ≤ 1 → 0 ≤ l3.toInt ∧ l3.toInt ≤ 9 → jJ jSgM Dy h → jSm fp_X12_groupsWorth_r125d h0 h → K6 l1.toInt l2.toInt l3.toInt (vw h) = dr → vw h = vw h0 → jX m_X12_groupsWorth 1 0 0 6 [(0, .ref 125), (1, .int l1), (2, .int l2), (3, .int l3)] [] h 0 0 Q) (k17 : ∀ (l1 : Int32) (l2 : Int32) (l3 : Int32) (l4 : Int32) (h : jH), 8 - l4.toInt < R17 → 0 ≤ l2.toInt ∧ l2.toInt ≤ 1 → 0 ≤ l3.toInt ∧ l3.toInt ≤ 8 → 0 ≤ l4.toInt ∧ l4.toInt ≤ 8 → 9 - l3.toInt ≤ R6 → jJ jSgM Dy h → jSm fp_X12_groupsWorth_r125d h0 h → K17 l1.toInt l2.toInt l3.toInt l4.toInt (vw h) = dr → vw h = vw h0 → jX m_X12_groupsWorth 1 0 0 17 [(0, .ref 125), (1, .int l1), (2, .int l2), (3, .int l3), (4, .int l4)] [] h 0 0 Q) : ∀ (l1 : Int32) (l3 : Int32) (l4 : Int32) (l5 : Int32) (h : jH), 1 ≤ l3.toInt ∧ l3.toInt ≤ 8 → 0 ≤ l4.toInt ∧ l4.toInt ≤ 7 → 0 ≤ l5.toInt ∧ l5.toInt ≤ 1 → 9 - l3.toInt ≤ R6 → 8 - l4.toInt ≤ R17 → jJ jSgM Dy h → jSm fp_X12_groupsWorth_r125d h0 h → d_X12_groupsWorth_r125d_88 K6 K17  l1.toInt l3.toInt l4.toInt l5.toInt (vw h) = dr → vw h = vw h0 → jX m_X12_groupsWorth 1 0 0 88 [(0, .ref 125), (1, .int l1), (3, .int l3), (4, .int l4), (5, .int l5)] [] h 0 0 Q := by
  intro l1 l3 l4 l5 h y0 y1 y2  m6 m17 J Sm D EV
  have el1 := jfull l1
  unfold d_X12_groupsWorth_r125d_88 at D
  refine x_iconst (v := 1) rfl ki_1 ?_
  refine x_goto (tgt := 93) rfl rfl ?_
  exact jX.sub (jsb_c rfl (jsb_c rfl (jsb_c rfl (jsb_c rfl (jsb_c rfl jsb_n))))) (ct_X12_groupsWorth_r125d_300093 hD hQ k6 k17 l1 l3 l4 l5 h (jr_of rfl (by omega)) (jr_of rfl (by omega)) (jr_of rfl (by omega)) (by omega) (by omega) J Sm D EV)
set_option maxRecDepth 100000 in
set_option maxHeartbeats 4000000 in
theorem ct_X12_groupsWorth_r125d_300044 {Dy : jH → Prop} {h0 : jH} {Q : Option Value → jH → Prop} {dr : Int} {K6 : Int → Int → Int → jW → Int} {K17 : Int → Int → Int → Int → jW → Int} {R6 : Int} {R17 : Int} (hD : jDk Dy) (hQ : ∀ (v : Int32) hx9, jJ jSgM Dy hx9 → jSm fp_X12_groupsWorth_r125d h0 hx9 → dr = v.toInt → vw hx9 = vw h0 → Q (some (.int v)) hx9) (k6 : ∀ (l1 : Int32) (l2 : Int32) (l3 : Int32) (h : jH), 9 - l3.toInt < R6 → 0 ≤ l2.toInt ∧ l2.toInt ≤ 1 → 0 ≤ l3.toInt ∧ l3.toInt ≤ 9 → jJ jSgM Dy h → jSm fp_X12_groupsWorth_r125d h0 h → K6 l1.toInt l2.toInt l3.toInt (vw h) = dr → vw h = vw h0 → jX m_X12_groupsWorth 1 0 0 6 [(0, .ref 125), (1, .int l1), (2, .int l2), (3, .int l3)] [] h 0 0 Q) (k17 : ∀ (l1 : Int32) (l2 : Int32) (l3 : Int32) (l4 : Int32) (h : jH), 8 - l4.toInt < R17 → 0 ≤ l2.toInt ∧ l2.toInt ≤ 1 → 0 ≤ l3.toInt ∧ l3.toInt ≤ 8 → 0 ≤ l4.toInt ∧ l4.toInt ≤ 8 → 9 - l3.toInt ≤ R6 → jJ jSgM Dy h → jSm fp_X12_groupsWorth_r125d h0 h → K17 l1.toInt l2.toInt l3.toInt l4.toInt (vw h) = dr → vw h = vw h0 → jX m_X12_groupsWorth 1 0 0 17 [(0, .ref 125), (1, .int l1), (2, .int l2), (3, .int l3), (4, .int l4)] [] h 0 0 Q) : ∀ (l1 : Int32) (l2 : Int32) (l3 : Int32) (l4 : Int32) (h : jH), 0 ≤ l2.toInt ∧ l2.toInt ≤ 1 → 1 ≤ l3.toInt ∧ l3.toInt ≤ 8 → 0 ≤ l4.toInt ∧ l4.toInt ≤ 7 → 9 - l3.toInt ≤ R6 → 8 - l4.toInt ≤ R17 → jJ jSgM Dy h → jSm fp_X12_groupsWorth_r125d h0 h → d_X12_groupsWorth_r125d_300044 K6 K17  l1.toInt l2.toInt l3.toInt l4.toInt (vw h) = dr → vw h = vw h0 → jX m_X12_groupsWorth 1 0 0 44 [(0, .ref 125), (1, .int l1), (2, .int l2), (3, .int l3), (4, .int l4)] [.int 1] h 0 0 Q := by
  intro l1 l2 l3 l4 h y0 y1 y2  m6 m17 J Sm D EV
  have el1 := jfull l1
  unfold d_X12_groupsWorth_r125d_300044 at D
  refine x_istore (lsx9 := [(5, .int 1), (0, .ref 125), (1, .int l1), (2, .int l2), (3, .int l3), (4, .int l4)]) rfl rfl rfl ?_
  refine x_iloadn (x := l2) rfl rfl ?_
  refine x_ifeq (tgt := 92) rfl rfl (ti_eq rfl jk_0 ⟨fun c1 => ?_, fun c1 => ?_⟩)
  ·
    rw [if_pos (by omega)] at D
    exact jX.sub (jsb_c rfl (jsb_c rfl (jsb_c rfl (jsb_c rfl (jsb_c rfl jsb_n))))) (ct_X12_groupsWorth_r125d_92 hD hQ k6 k17 l1 l3 l4 1 h (jr_of rfl (by omega)) (jr_of rfl (by omega)) (jr_of jk_1 (by omega)) (by omega) (by omega) J Sm (by rw [jk_1]; exact D) EV)
  ·
    rw [if_neg (by omega)] at D
    refine x_iload (x := 1) rfl rfl ?_
    refine x_ifeq (tgt := 73) rfl rfl (ti_eq jk_1 jk_0 (br_f (by omega) ?_))
    refine x_aloadn (x := 125) rfl rfl ?_
    refine z_getR (N := 92) (b := 142) 12 38 rfl f_12_81 rfl J rfl 16038 ⟨rfl, rfl⟩ rfl ?_
    refine x_bipush (v := 9) rfl kb_9 ?_
    refine x_iloadn (x := l3) rfl rfl ?_
    refine z_imul rfl jk_9 rfl (by omega) (fun v2 ev2 => ?_)
    refine x_iload (x := l4) rfl rfl ?_
    refine z_iadd rfl rfl rfl (by omega) (fun v3 ev3 => ?_)
    refine z_zald (N := 81) rfl J rfl sg_142_0_81_1_0_1 rfl (by omega) (fun v4 qv4 ev4 => ?_)
    try rw [vrd qv4 (show ((9 * l3.toInt) + l4.toInt) = v3.toInt from by omega)] at D
    refine x_ifeq (tgt := 92) rfl rfl (ti_eq rfl jk_0 ⟨fun c5 => ?_, fun c5 => ?_⟩)
    ·
      rw [if_pos (by omega)] at D
      exact jX.sub (jsb_c rfl (jsb_c rfl (jsb_c rfl (jsb_c rfl (jsb_c rfl jsb_n))))) (ct_X12_groupsWorth_r125d_92 hD hQ k6 k17 l1 l3 l4 1 h (jr_of rfl (by omega)) (jr_of rfl (by omega)) (jr_of jk_1 (by omega)) (by omega) (by omega) J Sm (by rw [jk_1]; exact D) EV)
    ·
      rw [if_neg (by omega)] at D
      refine x_goto (tgt := 88) rfl rfl ?_
      exact jX.sub (jsb_c rfl (jsb_c rfl (jsb_c rfl (jsb_c rfl (jsb_c rfl jsb_n))))) (ct_X12_groupsWorth_r125d_88 hD hQ k6 k17 l1 l3 l4 1 h (jr_of rfl (by omega)) (jr_of rfl (by omega)) (jr_of jk_1 (by omega)) (by omega) (by omega) J Sm (by rw [jk_1]; exact D) EV)
set_option maxRecDepth 100000 in
set_option maxHeartbeats 4000000 in
theorem ct_X12_groupsWorth_r125d_200044 {Dy : jH → Prop} {h0 : jH} {Q : Option Value → jH → Prop} {dr : Int} {K6 : Int → Int → Int → jW → Int} {K17 : Int → Int → Int → Int → jW → Int} {R6 : Int} {R17 : Int} (hD : jDk Dy) (hQ : ∀ (v : Int32) hx9, jJ jSgM Dy hx9 → jSm fp_X12_groupsWorth_r125d h0 hx9 → dr = v.toInt → vw hx9 = vw h0 → Q (some (.int v)) hx9) (k6 : ∀ (l1 : Int32) (l2 : Int32) (l3 : Int32) (h : jH), 9 - l3.toInt < R6 → 0 ≤ l2.toInt ∧ l2.toInt ≤ 1 → 0 ≤ l3.toInt ∧ l3.toInt ≤ 9 → jJ jSgM Dy h → jSm fp_X12_groupsWorth_r125d h0 h → K6 l1.toInt l2.toInt l3.toInt (vw h) = dr → vw h = vw h0 → jX m_X12_groupsWorth 1 0 0 6 [(0, .ref 125), (1, .int l1), (2, .int l2), (3, .int l3)] [] h 0 0 Q) (k17 : ∀ (l1 : Int32) (l2 : Int32) (l3 : Int32) (l4 : Int32) (h : jH), 8 - l4.toInt < R17 → 0 ≤ l2.toInt ∧ l2.toInt ≤ 1 → 0 ≤ l3.toInt ∧ l3.toInt ≤ 8 → 0 ≤ l4.toInt ∧ l4.toInt ≤ 8 → 9 - l3.toInt ≤ R6 → jJ jSgM Dy h → jSm fp_X12_groupsWorth_r125d h0 h → K17 l1.toInt l2.toInt l3.toInt l4.toInt (vw h) = dr → vw h = vw h0 → jX m_X12_groupsWorth 1 0 0 17 [(0, .ref 125), (1, .int l1), (2, .int l2), (3, .int l3), (4, .int l4)] [] h 0 0 Q) : ∀ (l1 : Int32) (l2 : Int32) (l3 : Int32) (l4 : Int32) (h : jH), 0 ≤ l2.toInt ∧ l2.toInt ≤ 1 → 1 ≤ l3.toInt ∧ l3.toInt ≤ 8 → 0 ≤ l4.toInt ∧ l4.toInt ≤ 7 → 9 - l3.toInt ≤ R6 → 8 - l4.toInt ≤ R17 → jJ jSgM Dy h → jSm fp_X12_groupsWorth_r125d h0 h → d_X12_groupsWorth_r125d_200044 K6 K17  l1.toInt l2.toInt l3.toInt l4.toInt (vw h) = dr → vw h = vw h0 → jX m_X12_groupsWorth 1 0 0 44 [(0, .ref 125), (1, .int l1), (2, .int l2), (3, .int l3), (4, .int l4)] [.int 0] h 0 0 Q := by
  intro l1 l2 l3 l4 h y0 y1 y2  m6 m17 J Sm D EV
  have el1 := jfull l1
  unfold d_X12_groupsWorth_r125d_200044 at D
  refine x_istore (lsx9 := [(5, .int 0), (0, .ref 125), (1, .int l1), (2, .int l2), (3, .int l3), (4, .int l4)]) rfl rfl rfl ?_
  refine x_iloadn (x := l2) rfl rfl ?_
  refine x_ifeq (tgt := 92) rfl rfl (ti_eq rfl jk_0 ⟨fun c1 => ?_, fun c1 => ?_⟩)
  ·
    rw [if_pos (by omega)] at D
    exact jX.sub (jsb_c rfl (jsb_c rfl (jsb_c rfl (jsb_c rfl (jsb_c rfl jsb_n))))) (ct_X12_groupsWorth_r125d_92 hD hQ k6 k17 l1 l3 l4 0 h (jr_of rfl (by omega)) (jr_of rfl (by omega)) (jr_of jk_0 (by omega)) (by omega) (by omega) J Sm (by rw [jk_0]; exact D) EV)
  ·
    rw [if_neg (by omega)] at D
    refine x_iload (x := 0) rfl rfl ?_
    refine x_ifeq (tgt := 73) rfl rfl (ti_eq jk_0 jk_0 (br_t (by omega) ?_))
    refine x_aloadn (x := 125) rfl rfl ?_
    refine z_getR (N := 92) (b := 143) 12 39 rfl f_12_84 rfl J rfl 16039 ⟨rfl, rfl⟩ rfl ?_
    refine x_bipush (v := 9) rfl kb_9 ?_
    refine x_iloadn (x := l3) rfl rfl ?_
    refine z_imul rfl jk_9 rfl (by omega) (fun v2 ev2 => ?_)
    refine x_iload (x := l4) rfl rfl ?_
    refine z_iadd rfl rfl rfl (by omega) (fun v3 ev3 => ?_)
    refine z_zald (N := 81) rfl J rfl sg_143_0_81_1_0_1 rfl (by omega) (fun v4 qv4 ev4 => ?_)
    try rw [vrd qv4 (show ((9 * l3.toInt) + l4.toInt) = v3.toInt from by omega)] at D
    refine x_ifne (tgt := 92) rfl rfl (ti_ne rfl jk_0 ⟨fun c5 => ?_, fun c5 => ?_⟩)
    ·
      rw [if_neg (by omega)] at D
      exact jX.sub (jsb_c rfl (jsb_c rfl (jsb_c rfl (jsb_c rfl (jsb_c rfl jsb_n))))) (ct_X12_groupsWorth_r125d_92 hD hQ k6 k17 l1 l3 l4 0 h (jr_of rfl (by omega)) (jr_of rfl (by omega)) (jr_of jk_0 (by omega)) (by omega) (by omega) J Sm (by rw [jk_0]; exact D) EV)
    ·
      rw [if_pos (by omega)] at D
      exact jX.sub (jsb_c rfl (jsb_c rfl (jsb_c rfl (jsb_c rfl (jsb_c rfl jsb_n))))) (ct_X12_groupsWorth_r125d_88 hD hQ k6 k17 l1 l3 l4 0 h (jr_of rfl (by omega)) (jr_of rfl (by omega)) (jr_of jk_0 (by omega)) (by omega) (by omega) J Sm (by rw [jk_0]; exact D) EV)
set_option maxRecDepth 100000 in
set_option maxHeartbeats 4000000 in
theorem ct_X12_groupsWorth_r125d_17 {Dy : jH → Prop} {h0 : jH} {Q : Option Value → jH → Prop} {dr : Int} {K6 : Int → Int → Int → jW → Int} {R6 : Int} (hD : jDk Dy) (hQ : ∀ (v : Int32) hx9, jJ jSgM Dy hx9 → jSm fp_X12_groupsWorth_r125d h0 hx9 → dr = v.toInt → vw hx9 = vw h0 → Q (some (.int v)) hx9) (k6 : ∀ (l1 : Int32) (l2 : Int32) (l3 : Int32) (h : jH), 9 - l3.toInt < R6 → 0 ≤ l2.toInt ∧ l2.toInt ≤ 1 → 0 ≤ l3.toInt ∧ l3.toInt ≤ 9 → jJ jSgM Dy h → jSm fp_X12_groupsWorth_r125d h0 h → K6 l1.toInt l2.toInt l3.toInt (vw h) = dr → vw h = vw h0 → jX m_X12_groupsWorth 1 0 0 6 [(0, .ref 125), (1, .int l1), (2, .int l2), (3, .int l3)] [] h 0 0 Q) : ∀ r : Nat, ∀ (l1 : Int32) (l2 : Int32) (l3 : Int32) (l4 : Int32) (h : jH), 8 - l4.toInt < (r : Int) → 0 ≤ l2.toInt ∧ l2.toInt ≤ 1 → 0 ≤ l3.toInt ∧ l3.toInt ≤ 8 → 0 ≤ l4.toInt ∧ l4.toInt ≤ 8 → 9 - l3.toInt ≤ R6 → jJ jSgM Dy h → jSm fp_X12_groupsWorth_r125d h0 h → d_X12_groupsWorth_r125d_17 K6 r l1.toInt l2.toInt l3.toInt l4.toInt (vw h) = dr → vw h = vw h0 → jX m_X12_groupsWorth 1 0 0 17 [(0, .ref 125), (1, .int l1), (2, .int l2), (3, .int l3), (4, .int l4)] [] h 0 0 Q := by
  intro r
  induction r with
  | zero =>
    intro l1 l2 l3 l4 h hm y0 y1 y2  m6 J Sm D EV
    exfalso
    have el1 := jfull l1
    omega
  | succ r ih =>
    intro l1 l2 l3 l4 h hm y0 y1 y2  m6 J Sm D EV
    have el1 := jfull l1
    rw [d_X12_groupsWorth_r125d_17.eq_2] at D
    refine x_iload (x := l4) rfl rfl ?_
    refine x_iloadn (x := l3) rfl rfl ?_
    refine x_icge (tgt := 124) rfl rfl (ti_ge rfl rfl ⟨fun c1 => ?_, fun c1 => ?_⟩)
    ·
      rw [if_pos (by omega)] at D
      refine z_iinc (x := l3) (lsx9 := fun v2 => [(3, .int v2), (0, .ref 125), (1, .int l1), (2, .int l2), (4, .int l4)]) rfl rfl rfl jko_1 (by omega) rfl (fun _ => rfl) (fun v2 ev2 => ?_)
      refine x_goto (tgt := 6) rfl rfl ?_
      try rw [show (l3.toInt + 1) = v2.toInt from by omega] at D
      exact jX.sub (jsb_c rfl (jsb_c rfl (jsb_c rfl (jsb_c rfl jsb_n)))) (k6 l1 l2 v2 h (by omega) (jr_of rfl (by omega)) (jr_of rfl (by omega)) J Sm D EV)
    ·
      rw [if_neg (by omega)] at D
      refine x_aloadn (x := 125) rfl rfl ?_
      refine z_getR (N := 92) (b := 145) 12 41 rfl f_12_90 rfl J rfl 16041 ⟨rfl, rfl⟩ rfl ?_
      refine x_iloadn (x := l3) rfl rfl ?_
      refine z_iald (N := 9) rfl J rfl sg_145_0_9_1_0_1 rfl (by omega) (fun v3 qv3 ev3 => ?_)
      try rw [vrd qv3 (show l3.toInt = l3.toInt from by omega)] at D
      refine x_aloadn (x := 125) rfl rfl ?_
      refine z_getR (N := 92) (b := 145) 12 41 rfl f_12_90 rfl J rfl 16041 ⟨rfl, rfl⟩ rfl ?_
      refine x_iload (x := l4) rfl rfl ?_
      refine z_iald (N := 9) rfl J rfl sg_145_0_9_1_0_1 rfl (by omega) (fun v4 qv4 ev4 => ?_)
      try rw [vrd qv4 (show l4.toInt = l4.toInt from by omega)] at D
      refine x_icne (tgt := 43) rfl rfl (ti_ne rfl rfl ⟨fun c5 => ?_, fun c5 => ?_⟩)
      ·
        rw [if_neg (by omega)] at D
        refine x_iconst (v := 0) rfl ki_0 ?_
        exact jX.sub (jsb_c rfl (jsb_c rfl (jsb_c rfl (jsb_c rfl (jsb_c rfl jsb_n))))) (ct_X12_groupsWorth_r125d_200044 hD hQ k6 ih l1 l2 l3 l4 h (jr_of rfl (by omega)) (jr_of rfl (by omega)) (jr_of rfl (by omega)) (by omega) (by omega) J Sm D EV)
      ·
        rw [if_pos (by omega)] at D
        refine x_iconst (v := 1) rfl ki_1 ?_
        refine x_goto (tgt := 44) rfl rfl ?_
        exact jX.sub (jsb_c rfl (jsb_c rfl (jsb_c rfl (jsb_c rfl (jsb_c rfl jsb_n))))) (ct_X12_groupsWorth_r125d_300044 hD hQ k6 ih l1 l2 l3 l4 h (jr_of rfl (by omega)) (jr_of rfl (by omega)) (jr_of rfl (by omega)) (by omega) (by omega) J Sm D EV)
set_option maxRecDepth 100000 in
set_option maxHeartbeats 4000000 in
theorem ct_X12_groupsWorth_r125d_6 {Dy : jH → Prop} {h0 : jH} {Q : Option Value → jH → Prop} {dr : Int} (hD : jDk Dy) (hQ : ∀ (v : Int32) hx9, jJ jSgM Dy hx9 → jSm fp_X12_groupsWorth_r125d h0 hx9 → dr = v.toInt → vw hx9 = vw h0 → Q (some (.int v)) hx9) : ∀ r : Nat, ∀ (l1 : Int32) (l2 : Int32) (l3 : Int32) (h : jH), 9 - l3.toInt < (r : Int) → 0 ≤ l2.toInt ∧ l2.toInt ≤ 1 → 0 ≤ l3.toInt ∧ l3.toInt ≤ 9 → jJ jSgM Dy h → jSm fp_X12_groupsWorth_r125d h0 h → d_X12_groupsWorth_r125d_6 r l1.toInt l2.toInt l3.toInt (vw h) = dr → vw h = vw h0 → jX m_X12_groupsWorth 1 0 0 6 [(0, .ref 125), (1, .int l1), (2, .int l2), (3, .int l3)] [] h 0 0 Q := by
  intro r
  induction r with
  | zero =>
    intro l1 l2 l3 h hm y0 y1   J Sm D EV
    exfalso
    have el1 := jfull l1
    omega
  | succ r ih =>
    intro l1 l2 l3 h hm y0 y1   J Sm D EV
    have el1 := jfull l1
    rw [d_X12_groupsWorth_r125d_6.eq_2] at D
    refine x_iloadn (x := l3) rfl rfl ?_
    refine x_aloadn (x := 125) rfl rfl ?_
    refine z_getI (N := 92) 12 36 rfl f_12_204 rfl J rfl sg_125_36_37_1_0_1 (fun v1 qv1 ev1 => ?_)
    try rw [vrf qv1] at D
    refine x_icge (tgt := 130) rfl rfl (ti_ge rfl rfl ⟨fun c2 => ?_, fun c2 => ?_⟩)
    ·
      rw [if_pos (by omega)] at D
      refine x_iloadn (x := l2) rfl rfl ?_
      refine x_ifeq (tgt := 138) rfl rfl (ti_eq rfl jk_0 ⟨fun c3 => ?_, fun c3 => ?_⟩)
      ·
        rw [if_pos (by omega)] at D
        refine x_iconst (v := (-1)) rfl ki_m1 ?_
        exact jX.sub jsb_n (ct_X12_groupsWorth_r125d_100139 hD hQ  h J Sm D EV)
      ·
        rw [if_neg (by omega)] at D
        refine x_iloadn (x := l1) rfl rfl ?_
        refine x_goto (tgt := 139) rfl rfl ?_
        exact jX.sub jsb_n (ct_X12_groupsWorth_r125d_139 hD hQ  l1 h J Sm D EV)
    ·
      rw [if_neg (by omega)] at D
      refine x_iconst (v := 0) rfl ki_0 ?_
      refine x_istore (lsx9 := [(4, .int 0), (0, .ref 125), (1, .int l1), (2, .int l2), (3, .int l3)]) rfl rfl rfl ?_
      exact jX.sub (jsb_c rfl (jsb_c rfl (jsb_c rfl (jsb_c rfl (jsb_c rfl jsb_n))))) (ct_X12_groupsWorth_r125d_17 hD hQ ih 9 l1 l2 l3 0 h (by have := jk_0; omega) (jr_of rfl (by omega)) (jr_of rfl (by omega)) (jr_of jk_0 (by omega)) (by omega) J Sm (by rw [jk_0]; exact D) EV)
set_option maxRecDepth 100000 in
set_option maxHeartbeats 4000000 in
theorem sf_X12_groupsWorth_r125d {Dy : jH → Prop} {h : jH} {Q : Option Value → jH → Prop} {dr : Int} (hD : jDk Dy) (J : jJ jSgM Dy h) (D : d_X12_groupsWorth_r125d (vw h) = dr) (hQ : ∀ (v : Int32) hx9, jJ jSgM Dy hx9 → jSm fp_X12_groupsWorth_r125d h hx9 → dr = v.toInt → vw hx9 = vw h → Q (some (.int v)) hx9) : jC m_X12_groupsWorth 1 0 0 [.ref 125] h Q := by
  refine jC.of rfl k_X12_groupsWorth rfl ?_
  have Sm := jSm_rf fp_X12_groupsWorth_r125d h
  show jX m_X12_groupsWorth 1 0 0 0 [(0, .ref 125)] [] _ 0 0 _
  unfold d_X12_groupsWorth_r125d at D
  have EV : vw h = vw h := rfl
  refine x_iconst (v := 0) rfl ki_0 ?_
  refine x_istoren (lsx9 := [(1, .int 0), (0, .ref 125)]) rfl rfl rfl ?_
  refine x_iconst (v := 1) rfl ki_1 ?_
  refine x_istoren (lsx9 := [(2, .int 1), (1, .int 0), (0, .ref 125)]) rfl rfl rfl ?_
  refine x_iconst (v := 0) rfl ki_0 ?_
  refine x_istoren (lsx9 := [(3, .int 0), (2, .int 1), (1, .int 0), (0, .ref 125)]) rfl rfl rfl ?_
  exact jX.sub (jsb_c rfl (jsb_c rfl (jsb_c rfl (jsb_c rfl jsb_n)))) (ct_X12_groupsWorth_r125d_6 hD hQ  10 0 1 0 h (by have := jk_0; omega) (jr_of jk_1 (by omega)) (jr_of jk_0 (by omega)) J Sm (by rw [jk_0, jk_1]; exact D) EV)
def fp_X12_nextGroups_r125d : jFp := [(145, 0, 9)]
set_option maxRecDepth 100000 in
set_option maxHeartbeats 4000000 in
theorem ct_X12_nextGroups_r125d_71 {Dy : jH → Prop} {h0 : jH} {Q : Option Value → jH → Prop} {dr : (Int × jW)} (hG : jGp h0) (hD : jDk Dy) (hQ : ∀ (v : Int32) hx9, 0 ≤ v.toInt ∧ v.toInt ≤ 1 → jJ jSgM Dy hx9 → jSm fp_X12_nextGroups_r125d h0 hx9 → jNx v h0 hx9 → dr.1 = v.toInt → dr.2 = vw hx9 → Q (some (.int v)) hx9) : ∀ r : Nat, ∀ (l3 : Int32) (g0 : Int32) (h : jH), 9 - l3.toInt < (r : Int) → 2 ≤ l3.toInt ∧ l3.toInt ≤ 9 → 0 ≤ g0.toInt ∧ g0.toInt ≤ 9 → jNz l3 h0 h → jiv h 125 36 = g0 → jJ jSgM Dy h → jSm fp_X12_nextGroups_r125d h0 h → d_X12_nextGroups_r125d_71 r l3.toInt (vw h) = dr → jX m_X12_nextGroups 1 0 0 71 [(0, .ref 125), (3, .int l3)] [] h 0 0 Q := by
  intro r
  induction r with
  | zero =>
    intro l3 g0 h hm y0 y1 C0 z0  J Sm D
    exfalso
    omega
  | succ r ih =>
    intro l3 g0 h hm y0 y1 C0 z0  J Sm D
    rw [d_X12_nextGroups_r125d_71.eq_2] at D
    try rw [vrf z0] at D
    refine x_iloadn (x := l3) rfl rfl ?_
    refine x_aloadn (x := 125) rfl rfl ?_
    refine z_getM (N := 92) (v := g0) 12 36 rfl f_12_204 rfl J rfl z0 ?_
    refine x_icge (tgt := 92) rfl rfl (ti_ge rfl rfl ⟨fun c1 => ?_, fun c1 => ?_⟩)
    ·
      rw [if_pos (by omega)] at D
      refine x_iconst (v := 1) rfl ki_1 ?_
      refine x_zret rfl rfl (by decide) ?_
      exact hQ _ _ (jr_of jk_1 (by omega)) J Sm (jnz_f C0 hG) ((congrArg Prod.fst D).symm.trans (show 1 = (1 : Int32).toInt from by have := jk_1; omega)) (congrArg Prod.snd D).symm
    ·
      rw [if_neg (by omega)] at D
      refine x_aloadn (x := 125) rfl rfl ?_
      refine z_getR (N := 92) (b := 145) 12 41 rfl f_12_90 rfl J rfl 16041 ⟨rfl, rfl⟩ rfl ?_
      refine x_iloadn (x := l3) rfl rfl ?_
      refine x_iconst (v := 0) rfl ki_0 ?_
      refine z_iast (N := 9) (l := 0) (u := 9) (w := 0) rfl hD J Sm rfl rfl rfl (by omega) jk_0 (wr_145 (fun q1 q2 q3 q4 => by omega)) rfl (fun h w2 J Sm => ?_)
      rw [vww w2 (show l3.toInt = l3.toInt from by omega) (show 0 = (0 : Int32).toInt from by have := jk_0; omega)] at D
      refine z_iinc (x := l3) (lsx9 := fun v3 => [(3, .int v3), (0, .ref 125)]) rfl rfl rfl jko_1 (by omega) rfl (fun _ => rfl) (fun v3 ev3 => ?_)
      refine x_goto (tgt := 71) rfl rfl ?_
      try rw [show (l3.toInt + 1) = v3.toInt from by omega] at D
      exact jX.sub (jsb_c rfl (jsb_c rfl jsb_n)) (ih v3 g0 h (by omega) (jr_of rfl (by omega)) (jr_of rfl (by omega)) (jnz_s C0 w2 (by omega)) (jmo w2 rfl z0) J Sm D)
set_option maxRecDepth 100000 in
set_option maxHeartbeats 4000000 in
theorem ct_X12_nextGroups_r125d_40 {Dy : jH → Prop} {h0 : jH} {Q : Option Value → jH → Prop} {dr : (Int × jW)} {K7 : Int → jW → (Int × jW)} {K15 : Int → Int → Int → jW → (Int × jW)} {R7 : Int} {R15 : Int} (hG : jGp h0) (hD : jDk Dy) (hQ : ∀ (v : Int32) hx9, 0 ≤ v.toInt ∧ v.toInt ≤ 1 → jJ jSgM Dy hx9 → jSm fp_X12_nextGroups_r125d h0 hx9 → jNx v h0 hx9 → dr.1 = v.toInt → dr.2 = vw hx9 → Q (some (.int v)) hx9) (k7 : ∀ (l1 : Int32) (g0 : Int32) (h : jH), l1.toInt - (-1) < R7 → (-1) ≤ l1.toInt ∧ l1.toInt ≤ 8 → 0 ≤ g0.toInt ∧ g0.toInt ≤ 9 → jEq 145 (fun _ => True) h h0 → jiv h 125 36 = g0 → jJ jSgM Dy h → jSm fp_X12_nextGroups_r125d h0 h → K7 l1.toInt (vw h) = dr → jX m_X12_nextGroups 1 0 0 7 [(0, .ref 125), (1, .int l1)] [] h 0 0 Q) (k15 : ∀ (l1 : Int32) (l2 : Int32) (l3 : Int32) (g0 : Int32) (h : jH), 8 - l3.toInt < R15 → 1 ≤ l1.toInt ∧ l1.toInt ≤ 8 → 0 ≤ l2.toInt ∧ l2.toInt ≤ 7 → 0 ≤ l3.toInt ∧ l3.toInt ≤ 8 → 0 ≤ g0.toInt ∧ g0.toInt ≤ 9 → (jEq 145 (fun _ => True) h h0 ∧ 0 ≤ l2.toInt ∧ l2.toInt ≤ l1.toInt - 1) → jiv h 125 36 = g0 → l1.toInt - (-1) ≤ R7 → jJ jSgM Dy h → jSm fp_X12_nextGroups_r125d h0 h → K15 l1.toInt l2.toInt l3.toInt (vw h) = dr → jX m_X12_nextGroups 1 0 0 15 [(0, .ref 125), (1, .int l1), (2, .int l2), (3, .int l3)] [] h 0 0 Q) : ∀ (l1 : Int32) (l3 : Int32) (s0 : Int32) (g0 : Int32) (h : jH), 1 ≤ l1.toInt ∧ l1.toInt ≤ 8 → 0 ≤ l3.toInt ∧ l3.toInt ≤ 7 → 0 ≤ s0.toInt ∧ s0.toInt ≤ 7 → 0 ≤ g0.toInt ∧ g0.toInt ≤ 9 → (jEq 145 (fun _ => True) h h0 ∧ 0 ≤ s0.toInt ∧ s0.toInt ≤ l1.toInt - 1) → jiv h 125 36 = g0 → l1.toInt - (-1) ≤ R7 → 8 - l3.toInt ≤ R15 → jJ jSgM Dy h → jSm fp_X12_nextGroups_r125d h0 h → d_X12_nextGroups_r125d_40 K7 K15  l1.toInt l3.toInt s0.toInt (vw h) = dr → jX m_X12_nextGroups 1 0 0 40 [(0, .ref 125), (1, .int l1), (3, .int l3)] [.int s0] h 0 0 Q := by
  intro l1 l3 s0 g0 h y0 y1 y2 y3 C0 z0 m7 m15 J Sm D
  unfold d_X12_nextGroups_r125d_40 at D
  try rw [vrf z0] at D
  refine x_istoren (lsx9 := [(2, .int s0), (0, .ref 125), (1, .int l1), (3, .int l3)]) rfl rfl rfl ?_
  refine z_iinc (x := l3) (lsx9 := fun v1 => [(3, .int v1), (2, .int s0), (0, .ref 125), (1, .int l1)]) rfl rfl rfl jko_1 (by omega) rfl (fun _ => rfl) (fun v1 ev1 => ?_)
  refine x_goto (tgt := 15) rfl rfl ?_
  try rw [show (l3.toInt + 1) = v1.toInt from by omega] at D
  exact jX.sub (jsb_c rfl (jsb_c rfl (jsb_c rfl (jsb_c rfl jsb_n)))) (k15 l1 s0 v1 g0 h (by omega) (jr_of rfl (by omega)) (jr_of rfl (by omega)) (jr_of rfl (by omega)) (jr_of rfl (by omega)) ⟨C0.1, (by omega), (by omega)⟩ z0 (by omega) J Sm D)
set_option maxRecDepth 100000 in
set_option maxHeartbeats 4000000 in
theorem ct_X12_nextGroups_r125d_15 {Dy : jH → Prop} {h0 : jH} {Q : Option Value → jH → Prop} {dr : (Int × jW)} {K7 : Int → jW → (Int × jW)} {R7 : Int} (hG : jGp h0) (hD : jDk Dy) (hQ : ∀ (v : Int32) hx9, 0 ≤ v.toInt ∧ v.toInt ≤ 1 → jJ jSgM Dy hx9 → jSm fp_X12_nextGroups_r125d h0 hx9 → jNx v h0 hx9 → dr.1 = v.toInt → dr.2 = vw hx9 → Q (some (.int v)) hx9) (k7 : ∀ (l1 : Int32) (g0 : Int32) (h : jH), l1.toInt - (-1) < R7 → (-1) ≤ l1.toInt ∧ l1.toInt ≤ 8 → 0 ≤ g0.toInt ∧ g0.toInt ≤ 9 → jEq 145 (fun _ => True) h h0 → jiv h 125 36 = g0 → jJ jSgM Dy h → jSm fp_X12_nextGroups_r125d h0 h → K7 l1.toInt (vw h) = dr → jX m_X12_nextGroups 1 0 0 7 [(0, .ref 125), (1, .int l1)] [] h 0 0 Q) : ∀ r : Nat, ∀ (l1 : Int32) (l2 : Int32) (l3 : Int32) (g0 : Int32) (h : jH), 8 - l3.toInt < (r : Int) → 1 ≤ l1.toInt ∧ l1.toInt ≤ 8 → 0 ≤ l2.toInt ∧ l2.toInt ≤ 7 → 0 ≤ l3.toInt ∧ l3.toInt ≤ 8 → 0 ≤ g0.toInt ∧ g0.toInt ≤ 9 → (jEq 145 (fun _ => True) h h0 ∧ 0 ≤ l2.toInt ∧ l2.toInt ≤ l1.toInt - 1) → jiv h 125 36 = g0 → l1.toInt - (-1) ≤ R7 → jJ jSgM Dy h → jSm fp_X12_nextGroups_r125d h0 h → d_X12_nextGroups_r125d_15 K7 r l1.toInt l2.toInt l3.toInt (vw h) = dr → jX m_X12_nextGroups 1 0 0 15 [(0, .ref 125), (1, .int l1), (2, .int l2), (3, .int l3)] [] h 0 0 Q := by
  intro r
  induction r with
  | zero =>
    intro l1 l2 l3 g0 h hm y0 y1 y2 y3 C0 z0 m7 J Sm D
    exfalso
    omega
  | succ r ih =>
    intro l1 l2 l3 g0 h hm y0 y1 y2 y3 C0 z0 m7 J Sm D
    rw [d_X12_nextGroups_r125d_15.eq_2] at D
    try rw [vrf z0] at D
    refine x_iloadn (x := l3) rfl rfl ?_
    refine x_iloadn (x := l1) rfl rfl ?_
    refine x_icge (tgt := 47) rfl rfl (ti_ge rfl rfl ⟨fun c1 => ?_, fun c1 => ?_⟩)
    ·
      rw [if_pos (by omega)] at D
      refine x_aloadn (x := 125) rfl rfl ?_
      refine z_getR (N := 92) (b := 145) 12 41 rfl f_12_90 rfl J rfl 16041 ⟨rfl, rfl⟩ rfl ?_
      refine x_iloadn (x := l1) rfl rfl ?_
      refine z_iald (N := 9) rfl J rfl sg_145_0_9_1_0_1 rfl (by omega) (fun v2 qv2 ev2 => ?_)
      try rw [vrd qv2 (show l1.toInt = l1.toInt from by omega)] at D
      have ggv2 := jgp_at C0.1 hG qv2 rfl (by omega)
      have cc0 := C0.2
      refine x_iloadn (x := l2) rfl rfl ?_
      refine x_icgt (tgt := 94) rfl rfl (ti_gt rfl rfl ⟨fun c3 => ?_, fun c3 => ?_⟩)
      ·
        rw [if_pos (by omega)] at D
        refine z_iinc (x := l1) (lsx9 := fun v4 => [(1, .int v4), (0, .ref 125), (2, .int l2), (3, .int l3)]) rfl rfl rfl jko_m1 (by omega) rfl (fun _ => rfl) (fun v4 ev4 => ?_)
        refine x_goto (tgt := 7) rfl rfl ?_
        try rw [show (l1.toInt + (-1)) = v4.toInt from by omega] at D
        exact jX.sub (jsb_c rfl (jsb_c rfl jsb_n)) (k7 v4 g0 h (by omega) (jr_of rfl (by omega)) (jr_of rfl (by omega)) C0.1 z0 J Sm D)
      ·
        rw [if_neg (by omega)] at D
        refine x_aloadn (x := 125) rfl rfl ?_
        refine z_getR (N := 92) (b := 145) 12 41 rfl f_12_90 rfl J rfl 16041 ⟨rfl, rfl⟩ rfl ?_
        refine x_iloadn (x := l1) rfl rfl ?_
        refine x_dup2 rfl rfl rfl ?_
        refine z_ialdM (N := 9) (v := v2) rfl J rfl rfl (by omega) qv2 ?_
        refine x_iconst (v := 1) rfl ki_1 ?_
        refine z_iadd rfl rfl jk_1 (by omega) (fun v5 ev5 => ?_)
        refine z_iast (N := 9) (l := 0) (u := 9) (w := v5.toInt) rfl hD J Sm rfl rfl rfl (by omega) rfl (wr_145 (fun q1 q2 q3 q4 => by omega)) rfl (fun h w6 J Sm => ?_)
        rw [vww w6 (show l1.toInt = l1.toInt from by omega) (show (v2.toInt + 1) = v5.toInt from by omega)] at D
        refine x_iloadn (x := l1) rfl rfl ?_
        refine x_iconst (v := 1) rfl ki_1 ?_
        refine z_iadd rfl rfl jk_1 (by omega) (fun v7 ev7 => ?_)
        refine x_istoren (lsx9 := [(3, .int v7), (0, .ref 125), (1, .int l1), (2, .int l2)]) rfl rfl rfl ?_
        try rw [show (l1.toInt + 1) = v7.toInt from by omega] at D
        exact jX.sub (jsb_c rfl (jsb_c rfl jsb_n)) (ct_X12_nextGroups_r125d_71 hG hD hQ  8 v7 g0 h (by omega) (jr_of rfl (by omega)) (jr_of rfl (by omega)) (jnz_0 (k := l1) C0.1 qv2 w6 (by omega) (by omega) (by omega) (by omega)) (jmo w6 rfl z0) J Sm D)
    ·
      rw [if_neg (by omega)] at D
      refine x_aloadn (x := 125) rfl rfl ?_
      refine z_getR (N := 92) (b := 145) 12 41 rfl f_12_90 rfl J rfl 16041 ⟨rfl, rfl⟩ rfl ?_
      refine x_iloadn (x := l3) rfl rfl ?_
      refine z_iald (N := 9) rfl J rfl sg_145_0_9_1_0_1 rfl (by omega) (fun v8 qv8 ev8 => ?_)
      try rw [vrd qv8 (show l3.toInt = l3.toInt from by omega)] at D
      have ggv8 := jgp_at C0.1 hG qv8 rfl (by omega)
      have cc0 := C0.2
      refine x_iloadn (x := l2) rfl rfl ?_
      refine x_icle (tgt := 39) rfl rfl (ti_le rfl rfl ⟨fun c9 => ?_, fun c9 => ?_⟩)
      ·
        rw [if_pos (by omega)] at D
        refine x_iloadn (x := l2) rfl rfl ?_
        exact jX.sub (jsb_c rfl (jsb_c rfl (jsb_c rfl jsb_n))) (ct_X12_nextGroups_r125d_40 hG hD hQ k7 ih l1 l3 l2 g0 h (jr_of rfl (by omega)) (jr_of rfl (by omega)) (jr_of rfl (by omega)) (jr_of rfl (by omega)) ⟨C0.1, (by omega), (by omega)⟩ z0 (by omega) (by omega) J Sm D)
      ·
        rw [if_neg (by omega)] at D
        refine x_aloadn (x := 125) rfl rfl ?_
        refine z_getR (N := 92) (b := 145) 12 41 rfl f_12_90 rfl J rfl 16041 ⟨rfl, rfl⟩ rfl ?_
        refine x_iloadn (x := l3) rfl rfl ?_
        refine z_ialdM (N := 9) (v := v8) rfl J rfl rfl (by omega) qv8 ?_
        refine x_goto (tgt := 40) rfl rfl ?_
        exact jX.sub (jsb_c rfl (jsb_c rfl (jsb_c rfl jsb_n))) (ct_X12_nextGroups_r125d_40 hG hD hQ k7 ih l1 l3 v8 g0 h (jr_of rfl (by omega)) (jr_of rfl (by omega)) (jr_of rfl (by omega)) (jr_of rfl (by omega)) ⟨C0.1, (by omega), (by omega)⟩ z0 (by omega) (by omega) J Sm D)
set_option maxRecDepth 100000 in
set_option maxHeartbeats 4000000 in
theorem ct_X12_nextGroups_r125d_7 {Dy : jH → Prop} {h0 : jH} {Q : Option Value → jH → Prop} {dr : (Int × jW)} (hG : jGp h0) (hD : jDk Dy) (hQ : ∀ (v : Int32) hx9, 0 ≤ v.toInt ∧ v.toInt ≤ 1 → jJ jSgM Dy hx9 → jSm fp_X12_nextGroups_r125d h0 hx9 → jNx v h0 hx9 → dr.1 = v.toInt → dr.2 = vw hx9 → Q (some (.int v)) hx9) : ∀ r : Nat, ∀ (l1 : Int32) (g0 : Int32) (h : jH), l1.toInt - (-1) < (r : Int) → (-1) ≤ l1.toInt ∧ l1.toInt ≤ 8 → 0 ≤ g0.toInt ∧ g0.toInt ≤ 9 → jEq 145 (fun _ => True) h h0 → jiv h 125 36 = g0 → jJ jSgM Dy h → jSm fp_X12_nextGroups_r125d h0 h → d_X12_nextGroups_r125d_7 r l1.toInt (vw h) = dr → jX m_X12_nextGroups 1 0 0 7 [(0, .ref 125), (1, .int l1)] [] h 0 0 Q := by
  intro r
  induction r with
  | zero =>
    intro l1 g0 h hm y0 y1 C0 z0  J Sm D
    exfalso
    omega
  | succ r ih =>
    intro l1 g0 h hm y0 y1 C0 z0  J Sm D
    rw [d_X12_nextGroups_r125d_7.eq_2] at D
    try rw [vrf z0] at D
    refine x_iloadn (x := l1) rfl rfl ?_
    refine x_ifle (tgt := 100) rfl rfl (ti_le rfl jk_0 ⟨fun c1 => ?_, fun c1 => ?_⟩)
    ·
      rw [if_pos (by omega)] at D
      refine x_iconst (v := 0) rfl ki_0 ?_
      refine x_zret rfl rfl (by decide) ?_
      exact hQ _ _ (jr_of jk_0 (by omega)) J Sm (jnx_0 C0 hG) ((congrArg Prod.fst D).symm.trans (show 0 = (0 : Int32).toInt from by have := jk_0; omega)) (congrArg Prod.snd D).symm
    ·
      rw [if_neg (by omega)] at D
      refine x_iconst (v := 0) rfl ki_0 ?_
      refine x_istoren (lsx9 := [(2, .int 0), (0, .ref 125), (1, .int l1)]) rfl rfl rfl ?_
      refine x_iconst (v := 0) rfl ki_0 ?_
      refine x_istoren (lsx9 := [(3, .int 0), (2, .int 0), (0, .ref 125), (1, .int l1)]) rfl rfl rfl ?_
      exact jX.sub (jsb_c rfl (jsb_c rfl (jsb_c rfl (jsb_c rfl jsb_n)))) (ct_X12_nextGroups_r125d_15 hG hD hQ ih 9 l1 0 0 g0 h (by have := jk_0; omega) (jr_of rfl (by omega)) (jr_of jk_0 (by omega)) (jr_of jk_0 (by omega)) (jr_of rfl (by omega)) ⟨C0, (by decide), (by have := jk_0; omega)⟩ z0 (by omega) J Sm (by rw [jk_0]; exact D))
set_option maxRecDepth 100000 in
set_option maxHeartbeats 4000000 in
theorem sf_X12_nextGroups_r125d {Dy : jH → Prop} {h : jH} {Q : Option Value → jH → Prop} {dr : (Int × jW)} (hG : jGp h) (hD : jDk Dy) (J : jJ jSgM Dy h) (D : d_X12_nextGroups_r125d (vw h) = dr) (hQ : ∀ (v : Int32) hx9, 0 ≤ v.toInt ∧ v.toInt ≤ 1 → jJ jSgM Dy hx9 → jSm fp_X12_nextGroups_r125d h hx9 → jNx v h hx9 → dr.1 = v.toInt → dr.2 = vw hx9 → Q (some (.int v)) hx9) : jC m_X12_nextGroups 1 0 0 [.ref 125] h Q := by
  refine jC.of rfl k_X12_nextGroups rfl ?_
  have Sm := jSm_rf fp_X12_nextGroups_r125d h
  skip
  show jX m_X12_nextGroups 1 0 0 0 [(0, .ref 125)] [] _ 0 0 _
  unfold d_X12_nextGroups_r125d at D
  refine x_aloadn (x := 125) rfl rfl ?_
  refine z_getI (N := 92) 12 36 rfl f_12_204 rfl J rfl sg_125_36_37_1_0_1 (fun v1 qv1 ev1 => ?_)
  try rw [vrf qv1] at D
  refine x_iconst (v := 1) rfl ki_1 ?_
  refine z_isub rfl rfl jk_1 (by omega) (fun v2 ev2 => ?_)
  refine x_istoren (lsx9 := [(1, .int v2), (0, .ref 125)]) rfl rfl rfl ?_
  try rw [show (v1.toInt - 1) = v2.toInt from by omega] at D
  exact jX.sub (jsb_c rfl (jsb_c rfl jsb_n)) (ct_X12_nextGroups_r125d_7 hG hD hQ  10 v2 v1 h (by omega) (jr_of rfl (by omega)) (jr_of rfl (by omega)) jeq_0 qv1 J Sm D)
def fp_X12_worthOf_r125d : jFp := [(137, 0, 80), (138, 0, 2)]
set_option maxRecDepth 100000 in
set_option maxHeartbeats 4000000 in
theorem ct_X12_worthOf_r125d_200127 {Dy : jH → Prop} {h0 : jH} {Q : Option Value → jH → Prop} {dr : (Int × jW)} (hD : jDk Dy) (hQ : ∀ (v : Int32) hx9, 0 ≤ v.toInt ∧ v.toInt ≤ 400 → jJ jSgM Dy hx9 → jSm fp_X12_worthOf_r125d h0 hx9 → dr.1 = v.toInt → dr.2 = vw hx9 → Q (some (.int v)) hx9) : ∀ (s1 : Int32) (h : jH), 0 ≤ s1.toInt ∧ s1.toInt ≤ 300 → jJ jSgM Dy h → jSm fp_X12_worthOf_r125d h0 h → d_X12_worthOf_r125d_200127  s1.toInt (vw h) = dr → jX m_X12_worthOf 8 0 0 127 [] [.int 0, .int s1] h 0 0 Q := by
  intro s1 h y0   J Sm D
  unfold d_X12_worthOf_r125d_200127 at D
  refine z_iadd rfl rfl jk_0 (by omega) (fun v1 ev1 => ?_)
  refine x_iret rfl rfl ?_
  exact hQ _ _ (jr_of rfl (by omega)) J Sm ((congrArg Prod.fst D).symm.trans (show (s1.toInt + 0) = v1.toInt from by omega)) (congrArg Prod.snd D).symm
set_option maxRecDepth 100000 in
set_option maxHeartbeats 4000000 in
theorem ct_X12_worthOf_r125d_127 {Dy : jH → Prop} {h0 : jH} {Q : Option Value → jH → Prop} {dr : (Int × jW)} (hD : jDk Dy) (hQ : ∀ (v : Int32) hx9, 0 ≤ v.toInt ∧ v.toInt ≤ 400 → jJ jSgM Dy hx9 → jSm fp_X12_worthOf_r125d h0 hx9 → dr.1 = v.toInt → dr.2 = vw hx9 → Q (some (.int v)) hx9) : ∀ (s0 : Int32) (s1 : Int32) (h : jH), 0 ≤ s0.toInt ∧ s0.toInt ≤ 100 → 0 ≤ s1.toInt ∧ s1.toInt ≤ 300 → jJ jSgM Dy h → jSm fp_X12_worthOf_r125d h0 h → d_X12_worthOf_r125d_127  s0.toInt s1.toInt (vw h) = dr → jX m_X12_worthOf 8 0 0 127 [] [.int s0, .int s1] h 0 0 Q := by
  intro s0 s1 h y0 y1   J Sm D
  unfold d_X12_worthOf_r125d_127 at D
  refine z_iadd rfl rfl rfl (by omega) (fun v1 ev1 => ?_)
  refine x_iret rfl rfl ?_
  exact hQ _ _ (jr_of rfl (by omega)) J Sm ((congrArg Prod.fst D).symm.trans (show (s1.toInt + s0.toInt) = v1.toInt from by omega)) (congrArg Prod.snd D).symm
set_option maxRecDepth 100000 in
set_option maxHeartbeats 4000000 in
theorem ct_X12_worthOf_r125d_107 {Dy : jH → Prop} {h0 : jH} {Q : Option Value → jH → Prop} {dr : (Int × jW)} (hD : jDk Dy) (hQ : ∀ (v : Int32) hx9, 0 ≤ v.toInt ∧ v.toInt ≤ 400 → jJ jSgM Dy hx9 → jSm fp_X12_worthOf_r125d h0 hx9 → dr.1 = v.toInt → dr.2 = vw hx9 → Q (some (.int v)) hx9) : ∀ (l1 : Int32) (l2 : Int32) (s0 : Int32) (s1 : Int32) (h : jH), 0 ≤ l1.toInt ∧ l1.toInt ≤ 599 → 0 ≤ l2.toInt ∧ l2.toInt ≤ 599 → 0 ≤ s0.toInt ∧ s0.toInt ≤ 100 → 0 ≤ s1.toInt ∧ s1.toInt ≤ 200 → jJ jSgM Dy h → jSm fp_X12_worthOf_r125d h0 h → d_X12_worthOf_r125d_107  l1.toInt l2.toInt s0.toInt s1.toInt (vw h) = dr → jX m_X12_worthOf 8 0 0 107 [(0, .ref 125), (1, .int l1), (2, .int l2)] [.int s0, .int s1] h 0 0 Q := by
  intro l1 l2 s0 s1 h y0 y1 y2 y3   J Sm D
  unfold d_X12_worthOf_r125d_107 at D
  refine z_iadd rfl rfl rfl (by omega) (fun v1 ev1 => ?_)
  refine x_istoren (lsx9 := [(3, .int v1), (0, .ref 125), (1, .int l1), (2, .int l2)]) rfl rfl rfl ?_
  refine x_iloadn (x := v1) rfl rfl ?_
  refine x_aloadn (x := 125) rfl rfl ?_
  refine x_iloadn (x := l1) rfl rfl ?_
  refine x_iloadn (x := l2) rfl rfl ?_
  refine x_inv (N := m_X12_areKin) (As := [.int l1, .int l2]) (b := 125) (st := [.int v1]) (dx9 := 7) (mc := 0) (ms := 0) (host := "") 12 rfl t_X12_areKin ⟨Or.inl q_12_371, i_X12_areKin.1, i_X12_areKin.2⟩ ⟨by decide, rfl⟩ (congrArg Prod.fst (J.1.1 125 (12, 92) rfl)) rfl (by decide) rfl rfl ⟨by decide, by decide⟩ (sf_X12_areKin_r125d (jr_of rfl (by omega)) (jr_of rfl (by omega)) hD J rfl  (fun v5 h ev5 J S2 X3 X4 => ?_))
  have Sm := jSm_tr rfl Sm S2
  try rw [X3] at D
  try rw [X4] at D
  show jX m_X12_worthOf 8 0 0 116 [(3, .int v1), (0, .ref 125), (1, .int l1), (2, .int l2)] [.int v5, .int v1] _ 0 0 _
  refine x_ifeq (tgt := 126) rfl rfl (ti_eq rfl jk_0 ⟨fun c6 => ?_, fun c6 => ?_⟩)
  ·
    rw [if_pos (by omega)] at D
    refine x_iconst (v := 0) rfl ki_0 ?_
    try rw [show (s1.toInt + s0.toInt) = v1.toInt from by omega] at D
    exact jX.sub jsb_n (ct_X12_worthOf_r125d_200127 hD hQ  v1 h (jr_of rfl (by omega)) J Sm D)
  ·
    rw [if_neg (by omega)] at D
    refine x_aloadn (x := 125) rfl rfl ?_
    refine z_getI (N := 92) 12 26 rfl f_12_66 rfl J rfl sg_125_26_27_1_0_1 (fun v7 qv7 ev7 => ?_)
    try rw [vrf (jmb_c S2 qv7 rfl)] at D
    refine x_goto (tgt := 127) rfl rfl ?_
    try rw [show (s1.toInt + s0.toInt) = v1.toInt from by omega] at D
    exact jX.sub jsb_n (ct_X12_worthOf_r125d_127 hD hQ  v7 v1 h (jr_of rfl (by omega)) (jr_of rfl (by omega)) J Sm D)
set_option maxRecDepth 100000 in
set_option maxHeartbeats 4000000 in
theorem ct_X12_worthOf_r125d_200107 {Dy : jH → Prop} {h0 : jH} {Q : Option Value → jH → Prop} {dr : (Int × jW)} (hD : jDk Dy) (hQ : ∀ (v : Int32) hx9, 0 ≤ v.toInt ∧ v.toInt ≤ 400 → jJ jSgM Dy hx9 → jSm fp_X12_worthOf_r125d h0 hx9 → dr.1 = v.toInt → dr.2 = vw hx9 → Q (some (.int v)) hx9) : ∀ (l1 : Int32) (l2 : Int32) (s1 : Int32) (h : jH), 0 ≤ l1.toInt ∧ l1.toInt ≤ 599 → 0 ≤ l2.toInt ∧ l2.toInt ≤ 599 → 0 ≤ s1.toInt ∧ s1.toInt ≤ 200 → jJ jSgM Dy h → jSm fp_X12_worthOf_r125d h0 h → d_X12_worthOf_r125d_200107  l1.toInt l2.toInt s1.toInt (vw h) = dr → jX m_X12_worthOf 8 0 0 107 [(0, .ref 125), (1, .int l1), (2, .int l2)] [.int 0, .int s1] h 0 0 Q := by
  intro l1 l2 s1 h y0 y1 y2   J Sm D
  unfold d_X12_worthOf_r125d_200107 at D
  refine z_iadd rfl rfl jk_0 (by omega) (fun v1 ev1 => ?_)
  refine x_istoren (lsx9 := [(3, .int v1), (0, .ref 125), (1, .int l1), (2, .int l2)]) rfl rfl rfl ?_
  refine x_iloadn (x := v1) rfl rfl ?_
  refine x_aloadn (x := 125) rfl rfl ?_
  refine x_iloadn (x := l1) rfl rfl ?_
  refine x_iloadn (x := l2) rfl rfl ?_
  refine x_inv (N := m_X12_areKin) (As := [.int l1, .int l2]) (b := 125) (st := [.int v1]) (dx9 := 7) (mc := 0) (ms := 0) (host := "") 12 rfl t_X12_areKin ⟨Or.inl q_12_371, i_X12_areKin.1, i_X12_areKin.2⟩ ⟨by decide, rfl⟩ (congrArg Prod.fst (J.1.1 125 (12, 92) rfl)) rfl (by decide) rfl rfl ⟨by decide, by decide⟩ (sf_X12_areKin_r125d (jr_of rfl (by omega)) (jr_of rfl (by omega)) hD J rfl  (fun v5 h ev5 J S2 X3 X4 => ?_))
  have Sm := jSm_tr rfl Sm S2
  try rw [X3] at D
  try rw [X4] at D
  show jX m_X12_worthOf 8 0 0 116 [(3, .int v1), (0, .ref 125), (1, .int l1), (2, .int l2)] [.int v5, .int v1] _ 0 0 _
  refine x_ifeq (tgt := 126) rfl rfl (ti_eq rfl jk_0 ⟨fun c6 => ?_, fun c6 => ?_⟩)
  ·
    rw [if_pos (by omega)] at D
    refine x_iconst (v := 0) rfl ki_0 ?_
    try rw [show (s1.toInt + 0) = v1.toInt from by omega] at D
    exact jX.sub jsb_n (ct_X12_worthOf_r125d_200127 hD hQ  v1 h (jr_of rfl (by omega)) J Sm D)
  ·
    rw [if_neg (by omega)] at D
    refine x_aloadn (x := 125) rfl rfl ?_
    refine z_getI (N := 92) 12 26 rfl f_12_66 rfl J rfl sg_125_26_27_1_0_1 (fun v7 qv7 ev7 => ?_)
    try rw [vrf (jmb_c S2 qv7 rfl)] at D
    refine x_goto (tgt := 127) rfl rfl ?_
    try rw [show (s1.toInt + 0) = v1.toInt from by omega] at D
    exact jX.sub jsb_n (ct_X12_worthOf_r125d_127 hD hQ  v7 v1 h (jr_of rfl (by omega)) (jr_of rfl (by omega)) J Sm D)
set_option maxRecDepth 100000 in
set_option maxHeartbeats 4000000 in
theorem ct_X12_worthOf_r125d_106 {Dy : jH → Prop} {h0 : jH} {Q : Option Value → jH → Prop} {dr : (Int × jW)} (hD : jDk Dy) (hQ : ∀ (v : Int32) hx9, 0 ≤ v.toInt ∧ v.toInt ≤ 400 → jJ jSgM Dy hx9 → jSm fp_X12_worthOf_r125d h0 hx9 → dr.1 = v.toInt → dr.2 = vw hx9 → Q (some (.int v)) hx9) : ∀ (l1 : Int32) (l2 : Int32) (s0 : Int32) (h : jH), 0 ≤ l1.toInt ∧ l1.toInt ≤ 599 → 0 ≤ l2.toInt ∧ l2.toInt ≤ 599 → 0 ≤ s0.toInt ∧ s0.toInt ≤ 200 → jJ jSgM Dy h → jSm fp_X12_worthOf_r125d h0 h → d_X12_worthOf_r125d_106  l1.toInt l2.toInt s0.toInt (vw h) = dr → jX m_X12_worthOf 8 0 0 106 [(0, .ref 125), (1, .int l1), (2, .int l2)] [.int s0] h 0 0 Q := by
  intro l1 l2 s0 h y0 y1 y2   J Sm D
  unfold d_X12_worthOf_r125d_106 at D
  refine x_iconst (v := 0) rfl ki_0 ?_
  exact jX.sub (jsb_c rfl (jsb_c rfl (jsb_c rfl jsb_n))) (ct_X12_worthOf_r125d_200107 hD hQ  l1 l2 s0 h (jr_of rfl (by omega)) (jr_of rfl (by omega)) (jr_of rfl (by omega)) J Sm D)
set_option maxRecDepth 100000 in
set_option maxHeartbeats 4000000 in
theorem ct_X12_worthOf_r125d_99 {Dy : jH → Prop} {h0 : jH} {Q : Option Value → jH → Prop} {dr : (Int × jW)} (hD : jDk Dy) (hQ : ∀ (v : Int32) hx9, 0 ≤ v.toInt ∧ v.toInt ≤ 400 → jJ jSgM Dy hx9 → jSm fp_X12_worthOf_r125d h0 hx9 → dr.1 = v.toInt → dr.2 = vw hx9 → Q (some (.int v)) hx9) : ∀ (l1 : Int32) (l2 : Int32) (s0 : Int32) (h : jH), 0 ≤ l1.toInt ∧ l1.toInt ≤ 599 → 0 ≤ l2.toInt ∧ l2.toInt ≤ 599 → 0 ≤ s0.toInt ∧ s0.toInt ≤ 200 → jJ jSgM Dy h → jSm fp_X12_worthOf_r125d h0 h → d_X12_worthOf_r125d_99  l1.toInt l2.toInt s0.toInt (vw h) = dr → jX m_X12_worthOf 8 0 0 99 [(0, .ref 125), (1, .int l1), (2, .int l2)] [.int s0] h 0 0 Q := by
  intro l1 l2 s0 h y0 y1 y2   J Sm D
  unfold d_X12_worthOf_r125d_99 at D
  refine x_aloadn (x := 125) rfl rfl ?_
  refine z_getI (N := 92) 12 25 rfl f_12_63 rfl J rfl sg_125_25_26_1_0_1 (fun v1 qv1 ev1 => ?_)
  try rw [vrf qv1] at D
  refine x_goto (tgt := 107) rfl rfl ?_
  exact jX.sub (jsb_c rfl (jsb_c rfl (jsb_c rfl jsb_n))) (ct_X12_worthOf_r125d_107 hD hQ  l1 l2 v1 s0 h (jr_of rfl (by omega)) (jr_of rfl (by omega)) (jr_of rfl (by omega)) (jr_of rfl (by omega)) J Sm D)
set_option maxRecDepth 100000 in
set_option maxHeartbeats 4000000 in
theorem ct_X12_worthOf_r125d_83 {Dy : jH → Prop} {h0 : jH} {Q : Option Value → jH → Prop} {dr : (Int × jW)} (hD : jDk Dy) (hQ : ∀ (v : Int32) hx9, 0 ≤ v.toInt ∧ v.toInt ≤ 400 → jJ jSgM Dy hx9 → jSm fp_X12_worthOf_r125d h0 hx9 → dr.1 = v.toInt → dr.2 = vw hx9 → Q (some (.int v)) hx9) : ∀ (l1 : Int32) (l2 : Int32) (s0 : Int32) (h : jH), 0 ≤ l1.toInt ∧ l1.toInt ≤ 599 → 0 ≤ l2.toInt ∧ l2.toInt ≤ 599 → 0 ≤ s0.toInt ∧ s0.toInt ≤ 200 → jJ jSgM Dy h → jSm fp_X12_worthOf_r125d h0 h → d_X12_worthOf_r125d_83  l1.toInt l2.toInt s0.toInt (vw h) = dr → jX m_X12_worthOf 8 0 0 83 [(0, .ref 125), (1, .int l1), (2, .int l2)] [.int s0] h 0 0 Q := by
  intro l1 l2 s0 h y0 y1 y2   J Sm D
  unfold d_X12_worthOf_r125d_83 at D
  refine x_aloadn (x := 125) rfl rfl ?_
  refine x_iloadn (x := l2) rfl rfl ?_
  refine x_inv (N := m_X12_partOf) (As := [.int l2]) (b := 125) (st := [.int s0]) (dx9 := 3) (mc := 0) (ms := 0) (host := "") 12 rfl t_X12_partOf ⟨Or.inl q_12_338, i_X12_partOf.1, i_X12_partOf.2⟩ ⟨by decide, rfl⟩ (congrArg Prod.fst (J.1.1 125 (12, 92) rfl)) rfl (by decide) rfl rfl ⟨by decide, by decide⟩ (sf_X12_partOf_r125d (jr_of rfl (by omega)) hD J rfl  (fun v4 h ev4 J S1 X2 X3 => ?_))
  have Sm := jSm_tr rfl Sm S1
  try rw [X2] at D
  try rw [← X3] at D
  show jX m_X12_worthOf 8 0 0 88 [(0, .ref 125), (1, .int l1), (2, .int l2)] [.int v4, .int s0] _ 0 0 _
  refine x_ifne (tgt := 106) rfl rfl (ti_ne rfl jk_0 ⟨fun c5 => ?_, fun c5 => ?_⟩)
  ·
    rw [if_neg (by omega)] at D
    exact jX.sub (jsb_c rfl (jsb_c rfl (jsb_c rfl jsb_n))) (ct_X12_worthOf_r125d_106 hD hQ  l1 l2 s0 h (jr_of rfl (by omega)) (jr_of rfl (by omega)) (jr_of rfl (by omega)) J Sm D)
  ·
    rw [if_pos (by omega)] at D
    refine x_aloadn (x := 125) rfl rfl ?_
    refine x_iloadn (x := l1) rfl rfl ?_
    refine x_inv (N := m_X12_hasAge) (As := [.int l1]) (b := 125) (st := [.int s0]) (dx9 := 4) (mc := 0) (ms := 0) (host := "") 12 rfl t_X12_hasAge ⟨Or.inl q_12_350, i_X12_hasAge.1, i_X12_hasAge.2⟩ ⟨by decide, rfl⟩ (congrArg Prod.fst (J.1.1 125 (12, 92) rfl)) rfl (by decide) rfl rfl ⟨by decide, by decide⟩ (sf_X12_hasAge_r125d (jr_of rfl (by omega)) hD J rfl  (fun v9 h ev9 J S6 X7 X8 => ?_))
    have Sm := jSm_tr rfl Sm S6
    try rw [X7] at D
    try rw [← X8] at D
    show jX m_X12_worthOf 8 0 0 96 [(0, .ref 125), (1, .int l1), (2, .int l2)] [.int v9, .int s0] _ 0 0 _
    refine x_ifeq (tgt := 106) rfl rfl (ti_eq rfl jk_0 ⟨fun c10 => ?_, fun c10 => ?_⟩)
    ·
      rw [if_pos (by omega)] at D
      exact jX.sub (jsb_c rfl (jsb_c rfl (jsb_c rfl jsb_n))) (ct_X12_worthOf_r125d_106 hD hQ  l1 l2 s0 h (jr_of rfl (by omega)) (jr_of rfl (by omega)) (jr_of rfl (by omega)) J Sm D)
    ·
      rw [if_neg (by omega)] at D
      exact jX.sub (jsb_c rfl (jsb_c rfl (jsb_c rfl jsb_n))) (ct_X12_worthOf_r125d_99 hD hQ  l1 l2 s0 h (jr_of rfl (by omega)) (jr_of rfl (by omega)) (jr_of rfl (by omega)) J Sm D)
set_option maxRecDepth 100000 in
set_option maxHeartbeats 4000000 in
theorem ct_X12_worthOf_r125d_64 {Dy : jH → Prop} {h0 : jH} {Q : Option Value → jH → Prop} {dr : (Int × jW)} (hD : jDk Dy) (hQ : ∀ (v : Int32) hx9, 0 ≤ v.toInt ∧ v.toInt ≤ 400 → jJ jSgM Dy hx9 → jSm fp_X12_worthOf_r125d h0 hx9 → dr.1 = v.toInt → dr.2 = vw hx9 → Q (some (.int v)) hx9) : ∀ (l1 : Int32) (l2 : Int32) (s0 : Int32) (s1 : Int32) (h : jH), 0 ≤ l1.toInt ∧ l1.toInt ≤ 599 → 0 ≤ l2.toInt ∧ l2.toInt ≤ 599 → 0 ≤ s0.toInt ∧ s0.toInt ≤ 100 → 0 ≤ s1.toInt ∧ s1.toInt ≤ 100 → jJ jSgM Dy h → jSm fp_X12_worthOf_r125d h0 h → d_X12_worthOf_r125d_64  l1.toInt l2.toInt s0.toInt s1.toInt (vw h) = dr → jX m_X12_worthOf 8 0 0 64 [(0, .ref 125), (1, .int l1), (2, .int l2)] [.int s0, .int s1] h 0 0 Q := by
  intro l1 l2 s0 s1 h y0 y1 y2 y3   J Sm D
  unfold d_X12_worthOf_r125d_64 at D
  refine z_iadd rfl rfl rfl (by omega) (fun v1 ev1 => ?_)
  refine x_istoren (lsx9 := [(3, .int v1), (0, .ref 125), (1, .int l1), (2, .int l2)]) rfl rfl rfl ?_
  refine x_iloadn (x := v1) rfl rfl ?_
  refine x_aloadn (x := 125) rfl rfl ?_
  refine x_iloadn (x := l1) rfl rfl ?_
  refine x_inv (N := m_X12_partOf) (As := [.int l1]) (b := 125) (st := [.int v1]) (dx9 := 3) (mc := 0) (ms := 0) (host := "") 12 rfl t_X12_partOf ⟨Or.inl q_12_338, i_X12_partOf.1, i_X12_partOf.2⟩ ⟨by decide, rfl⟩ (congrArg Prod.fst (J.1.1 125 (12, 92) rfl)) rfl (by decide) rfl rfl ⟨by decide, by decide⟩ (sf_X12_partOf_r125d (jr_of rfl (by omega)) hD J rfl  (fun v5 h ev5 J S2 X3 X4 => ?_))
  have Sm := jSm_tr rfl Sm S2
  try rw [X3] at D
  try rw [← X4] at D
  show jX m_X12_worthOf 8 0 0 72 [(3, .int v1), (0, .ref 125), (1, .int l1), (2, .int l2)] [.int v5, .int v1] _ 0 0 _
  refine x_ifne (tgt := 83) rfl rfl (ti_ne rfl jk_0 ⟨fun c6 => ?_, fun c6 => ?_⟩)
  ·
    rw [if_neg (by omega)] at D
    try rw [show (s1.toInt + s0.toInt) = v1.toInt from by omega] at D
    exact jX.sub (jsb_c rfl (jsb_c rfl (jsb_c rfl jsb_n))) (ct_X12_worthOf_r125d_83 hD hQ  l1 l2 v1 h (jr_of rfl (by omega)) (jr_of rfl (by omega)) (jr_of rfl (by omega)) J Sm D)
  ·
    rw [if_pos (by omega)] at D
    refine x_aloadn (x := 125) rfl rfl ?_
    refine x_iloadn (x := l2) rfl rfl ?_
    refine x_inv (N := m_X12_hasAge) (As := [.int l2]) (b := 125) (st := [.int v1]) (dx9 := 4) (mc := 0) (ms := 0) (host := "") 12 rfl t_X12_hasAge ⟨Or.inl q_12_350, i_X12_hasAge.1, i_X12_hasAge.2⟩ ⟨by decide, rfl⟩ (congrArg Prod.fst (J.1.1 125 (12, 92) rfl)) rfl (by decide) rfl rfl ⟨by decide, by decide⟩ (sf_X12_hasAge_r125d (jr_of rfl (by omega)) hD J rfl  (fun v10 h ev10 J S7 X8 X9 => ?_))
    have Sm := jSm_tr rfl Sm S7
    try rw [X8] at D
    try rw [← X9] at D
    show jX m_X12_worthOf 8 0 0 80 [(3, .int v1), (0, .ref 125), (1, .int l1), (2, .int l2)] [.int v10, .int v1] _ 0 0 _
    refine x_ifne (tgt := 99) rfl rfl (ti_ne rfl jk_0 ⟨fun c11 => ?_, fun c11 => ?_⟩)
    ·
      rw [if_neg (by omega)] at D
      try rw [show (s1.toInt + s0.toInt) = v1.toInt from by omega] at D
      exact jX.sub (jsb_c rfl (jsb_c rfl (jsb_c rfl jsb_n))) (ct_X12_worthOf_r125d_99 hD hQ  l1 l2 v1 h (jr_of rfl (by omega)) (jr_of rfl (by omega)) (jr_of rfl (by omega)) J Sm D)
    ·
      rw [if_pos (by omega)] at D
      try rw [show (s1.toInt + s0.toInt) = v1.toInt from by omega] at D
      exact jX.sub (jsb_c rfl (jsb_c rfl (jsb_c rfl jsb_n))) (ct_X12_worthOf_r125d_83 hD hQ  l1 l2 v1 h (jr_of rfl (by omega)) (jr_of rfl (by omega)) (jr_of rfl (by omega)) J Sm D)
set_option maxRecDepth 100000 in
set_option maxHeartbeats 4000000 in
theorem ct_X12_worthOf_r125d_200064 {Dy : jH → Prop} {h0 : jH} {Q : Option Value → jH → Prop} {dr : (Int × jW)} (hD : jDk Dy) (hQ : ∀ (v : Int32) hx9, 0 ≤ v.toInt ∧ v.toInt ≤ 400 → jJ jSgM Dy hx9 → jSm fp_X12_worthOf_r125d h0 hx9 → dr.1 = v.toInt → dr.2 = vw hx9 → Q (some (.int v)) hx9) : ∀ (l1 : Int32) (l2 : Int32) (s1 : Int32) (h : jH), 0 ≤ l1.toInt ∧ l1.toInt ≤ 599 → 0 ≤ l2.toInt ∧ l2.toInt ≤ 599 → 0 ≤ s1.toInt ∧ s1.toInt ≤ 100 → jJ jSgM Dy h → jSm fp_X12_worthOf_r125d h0 h → d_X12_worthOf_r125d_200064  l1.toInt l2.toInt s1.toInt (vw h) = dr → jX m_X12_worthOf 8 0 0 64 [(0, .ref 125), (1, .int l1), (2, .int l2)] [.int 0, .int s1] h 0 0 Q := by
  intro l1 l2 s1 h y0 y1 y2   J Sm D
  unfold d_X12_worthOf_r125d_200064 at D
  refine z_iadd rfl rfl jk_0 (by omega) (fun v1 ev1 => ?_)
  refine x_istoren (lsx9 := [(3, .int v1), (0, .ref 125), (1, .int l1), (2, .int l2)]) rfl rfl rfl ?_
  refine x_iloadn (x := v1) rfl rfl ?_
  refine x_aloadn (x := 125) rfl rfl ?_
  refine x_iloadn (x := l1) rfl rfl ?_
  refine x_inv (N := m_X12_partOf) (As := [.int l1]) (b := 125) (st := [.int v1]) (dx9 := 3) (mc := 0) (ms := 0) (host := "") 12 rfl t_X12_partOf ⟨Or.inl q_12_338, i_X12_partOf.1, i_X12_partOf.2⟩ ⟨by decide, rfl⟩ (congrArg Prod.fst (J.1.1 125 (12, 92) rfl)) rfl (by decide) rfl rfl ⟨by decide, by decide⟩ (sf_X12_partOf_r125d (jr_of rfl (by omega)) hD J rfl  (fun v5 h ev5 J S2 X3 X4 => ?_))
  have Sm := jSm_tr rfl Sm S2
  try rw [X3] at D
  try rw [← X4] at D
  show jX m_X12_worthOf 8 0 0 72 [(3, .int v1), (0, .ref 125), (1, .int l1), (2, .int l2)] [.int v5, .int v1] _ 0 0 _
  refine x_ifne (tgt := 83) rfl rfl (ti_ne rfl jk_0 ⟨fun c6 => ?_, fun c6 => ?_⟩)
  ·
    rw [if_neg (by omega)] at D
    try rw [show (s1.toInt + 0) = v1.toInt from by omega] at D
    exact jX.sub (jsb_c rfl (jsb_c rfl (jsb_c rfl jsb_n))) (ct_X12_worthOf_r125d_83 hD hQ  l1 l2 v1 h (jr_of rfl (by omega)) (jr_of rfl (by omega)) (jr_of rfl (by omega)) J Sm D)
  ·
    rw [if_pos (by omega)] at D
    refine x_aloadn (x := 125) rfl rfl ?_
    refine x_iloadn (x := l2) rfl rfl ?_
    refine x_inv (N := m_X12_hasAge) (As := [.int l2]) (b := 125) (st := [.int v1]) (dx9 := 4) (mc := 0) (ms := 0) (host := "") 12 rfl t_X12_hasAge ⟨Or.inl q_12_350, i_X12_hasAge.1, i_X12_hasAge.2⟩ ⟨by decide, rfl⟩ (congrArg Prod.fst (J.1.1 125 (12, 92) rfl)) rfl (by decide) rfl rfl ⟨by decide, by decide⟩ (sf_X12_hasAge_r125d (jr_of rfl (by omega)) hD J rfl  (fun v10 h ev10 J S7 X8 X9 => ?_))
    have Sm := jSm_tr rfl Sm S7
    try rw [X8] at D
    try rw [← X9] at D
    show jX m_X12_worthOf 8 0 0 80 [(3, .int v1), (0, .ref 125), (1, .int l1), (2, .int l2)] [.int v10, .int v1] _ 0 0 _
    refine x_ifne (tgt := 99) rfl rfl (ti_ne rfl jk_0 ⟨fun c11 => ?_, fun c11 => ?_⟩)
    ·
      rw [if_neg (by omega)] at D
      try rw [show (s1.toInt + 0) = v1.toInt from by omega] at D
      exact jX.sub (jsb_c rfl (jsb_c rfl (jsb_c rfl jsb_n))) (ct_X12_worthOf_r125d_99 hD hQ  l1 l2 v1 h (jr_of rfl (by omega)) (jr_of rfl (by omega)) (jr_of rfl (by omega)) J Sm D)
    ·
      rw [if_pos (by omega)] at D
      try rw [show (s1.toInt + 0) = v1.toInt from by omega] at D
      exact jX.sub (jsb_c rfl (jsb_c rfl (jsb_c rfl jsb_n))) (ct_X12_worthOf_r125d_83 hD hQ  l1 l2 v1 h (jr_of rfl (by omega)) (jr_of rfl (by omega)) (jr_of rfl (by omega)) J Sm D)
set_option maxRecDepth 100000 in
set_option maxHeartbeats 4000000 in
theorem ct_X12_worthOf_r125d_63 {Dy : jH → Prop} {h0 : jH} {Q : Option Value → jH → Prop} {dr : (Int × jW)} (hD : jDk Dy) (hQ : ∀ (v : Int32) hx9, 0 ≤ v.toInt ∧ v.toInt ≤ 400 → jJ jSgM Dy hx9 → jSm fp_X12_worthOf_r125d h0 hx9 → dr.1 = v.toInt → dr.2 = vw hx9 → Q (some (.int v)) hx9) : ∀ (l1 : Int32) (l2 : Int32) (s0 : Int32) (h : jH), 0 ≤ l1.toInt ∧ l1.toInt ≤ 599 → 0 ≤ l2.toInt ∧ l2.toInt ≤ 599 → 0 ≤ s0.toInt ∧ s0.toInt ≤ 100 → jJ jSgM Dy h → jSm fp_X12_worthOf_r125d h0 h → d_X12_worthOf_r125d_63  l1.toInt l2.toInt s0.toInt (vw h) = dr → jX m_X12_worthOf 8 0 0 63 [(0, .ref 125), (1, .int l1), (2, .int l2)] [.int s0] h 0 0 Q := by
  intro l1 l2 s0 h y0 y1 y2   J Sm D
  unfold d_X12_worthOf_r125d_63 at D
  refine x_iconst (v := 0) rfl ki_0 ?_
  exact jX.sub (jsb_c rfl (jsb_c rfl (jsb_c rfl jsb_n))) (ct_X12_worthOf_r125d_200064 hD hQ  l1 l2 s0 h (jr_of rfl (by omega)) (jr_of rfl (by omega)) (jr_of rfl (by omega)) J Sm D)
set_option maxRecDepth 100000 in
set_option maxHeartbeats 4000000 in
theorem ct_X12_worthOf_r125d_200063 {Dy : jH → Prop} {h0 : jH} {Q : Option Value → jH → Prop} {dr : (Int × jW)} (hD : jDk Dy) (hQ : ∀ (v : Int32) hx9, 0 ≤ v.toInt ∧ v.toInt ≤ 400 → jJ jSgM Dy hx9 → jSm fp_X12_worthOf_r125d h0 hx9 → dr.1 = v.toInt → dr.2 = vw hx9 → Q (some (.int v)) hx9) : ∀ (l1 : Int32) (l2 : Int32) (h : jH), 0 ≤ l1.toInt ∧ l1.toInt ≤ 599 → 0 ≤ l2.toInt ∧ l2.toInt ≤ 599 → jJ jSgM Dy h → jSm fp_X12_worthOf_r125d h0 h → d_X12_worthOf_r125d_200063  l1.toInt l2.toInt (vw h) = dr → jX m_X12_worthOf 8 0 0 63 [(0, .ref 125), (1, .int l1), (2, .int l2)] [.int 0] h 0 0 Q := by
  intro l1 l2 h y0 y1   J Sm D
  unfold d_X12_worthOf_r125d_200063 at D
  refine x_iconst (v := 0) rfl ki_0 ?_
  exact jX.sub (jsb_c rfl (jsb_c rfl (jsb_c rfl jsb_n))) (ct_X12_worthOf_r125d_200064 hD hQ  l1 l2 0 h (jr_of rfl (by omega)) (jr_of rfl (by omega)) (jr_of jk_0 (by omega)) J Sm (by rw [jk_0]; exact D))
set_option maxRecDepth 100000 in
set_option maxHeartbeats 4000000 in
theorem ct_X12_worthOf_r125d_26 {Dy : jH → Prop} {h0 : jH} {Q : Option Value → jH → Prop} {dr : (Int × jW)} (hD : jDk Dy) (hQ : ∀ (v : Int32) hx9, 0 ≤ v.toInt ∧ v.toInt ≤ 400 → jJ jSgM Dy hx9 → jSm fp_X12_worthOf_r125d h0 hx9 → dr.1 = v.toInt → dr.2 = vw hx9 → Q (some (.int v)) hx9) : ∀ (l1 : Int32) (l2 : Int32) (s0 : Int32) (h : jH), 0 ≤ l1.toInt ∧ l1.toInt ≤ 599 → 0 ≤ l2.toInt ∧ l2.toInt ≤ 599 → 0 ≤ s0.toInt ∧ s0.toInt ≤ 100 → jJ jSgM Dy h → jSm fp_X12_worthOf_r125d h0 h → d_X12_worthOf_r125d_26  l1.toInt l2.toInt s0.toInt (vw h) = dr → jX m_X12_worthOf 8 0 0 26 [(0, .ref 125), (1, .int l1), (2, .int l2)] [.int s0] h 0 0 Q := by
  intro l1 l2 s0 h y0 y1 y2   J Sm D
  unfold d_X12_worthOf_r125d_26 at D
  refine x_istoren (lsx9 := [(3, .int s0), (0, .ref 125), (1, .int l1), (2, .int l2)]) rfl rfl rfl ?_
  refine x_iloadn (x := s0) rfl rfl ?_
  refine x_aloadn (x := 125) rfl rfl ?_
  refine x_iloadn (x := l1) rfl rfl ?_
  refine x_iconst (v := 1) rfl ki_1 ?_
  refine x_inv (N := m_X12_isNamed) (As := [.int l1, .int 1]) (b := 125) (st := [.int s0]) (dx9 := 7) (mc := 0) (ms := 0) (host := "") 12 rfl t_X12_isNamed ⟨Or.inl q_12_315, i_X12_isNamed.1, i_X12_isNamed.2⟩ ⟨by decide, rfl⟩ (congrArg Prod.fst (J.1.1 125 (12, 92) rfl)) rfl (by decide) rfl rfl ⟨by decide, by decide⟩ (jC.of rfl k_X12_isNamed rfl ?_)
  show jX m_X12_isNamed 7 0 0 0 [(0, .ref 125), (1, .int l1), (2, .int 1)] [] _ 0 0 _
  refine x_aloadn (x := 125) rfl rfl ?_
  refine z_getR (N := 92) (b := 126) 12 2 rfl f_12_8 rfl J rfl 16002 ⟨rfl, rfl⟩ rfl ?_
  refine x_aloadn (x := 125) rfl rfl ?_
  refine x_iloadn (x := l1) rfl rfl ?_
  refine x_iloadn (x := 1) rfl rfl ?_
  refine x_inv (N := m_X12_nameAt) (As := [.int l1, .int 1]) (b := 125) (st := [.ref 126]) (dx9 := 6) (mc := 0) (ms := 0) (host := "") 12 rfl t_X12_nameAt ⟨Or.inl q_12_311, i_X12_nameAt.1, i_X12_nameAt.2⟩ ⟨by decide, rfl⟩ (congrArg Prod.fst (J.1.1 125 (12, 92) rfl)) rfl (by decide) rfl rfl ⟨by decide, by decide⟩ (jC.of rfl k_X12_nameAt rfl ?_)
  show jX m_X12_nameAt 6 0 0 0 [(0, .ref 125), (1, .int l1), (2, .int 1)] [] _ 0 0 _
  refine x_aloadn (x := 125) rfl rfl ?_
  refine x_iloadn (x := l1) rfl rfl ?_
  refine x_iconst (v := 3) rfl ki_3 ?_
  refine z_idiv rfl rfl jk_3 (by omega) (by omega) (fun v1 ev1 => ?_)
  refine x_inv (N := m_X12_at) (As := [.int v1]) (b := 125) (st := []) (dx9 := 5) (mc := 0) (ms := 0) (host := "") 12 rfl t_X12_at ⟨Or.inl q_12_254, i_X12_at.1, i_X12_at.2⟩ ⟨by decide, rfl⟩ (congrArg Prod.fst (J.1.1 125 (12, 92) rfl)) rfl (by decide) rfl rfl ⟨by decide, by decide⟩ (jC.of rfl k_X12_at rfl ?_)
  show jX m_X12_at 5 0 0 0 [(0, .ref 125), (1, .int v1)] [] _ 0 0 _
  refine x_bipush (v := 20) rfl kb_20 ?_
  refine x_bipush (v := 90) rfl kb_90 ?_
  refine x_iloadn (x := v1) rfl rfl ?_
  refine z_imul rfl jk_90 rfl (by omega) (fun v2 ev2 => ?_)
  refine z_iadd rfl jk_20 rfl (by omega) (fun v3 ev3 => ?_)
  refine x_iret rfl rfl ?_
  show jX m_X12_nameAt 6 0 0 7 [(0, .ref 125), (1, .int l1), (2, .int 1)] [.int v3] _ 0 0 _
  refine x_bipush (v := 6) rfl kb_6 ?_
  refine z_iadd rfl rfl jk_6 (by omega) (fun v4 ev4 => ?_)
  refine x_bipush (v := 28) rfl kb_28 ?_
  refine x_iloadn (x := l1) rfl rfl ?_
  refine x_iconst (v := 3) rfl ki_3 ?_
  refine z_irem rfl rfl jk_3 (by omega) (by omega) (fun v5 ev5 => ?_)
  refine z_imul rfl jk_28 rfl (by omega) (fun v6 ev6 => ?_)
  refine z_iadd rfl rfl rfl (by omega) (fun v7 ev7 => ?_)
  refine x_bipush (v := 14) rfl kb_14 ?_
  refine x_iloadn (x := 1) rfl rfl ?_
  refine y_imul (v := 14) rfl (by decide) ?_
  refine z_iadd rfl rfl jk_14 (by omega) (fun v8 ev8 => ?_)
  have rnv8 := jnam (m := l1.toInt) (w := 1) (v := v8.toInt) (by omega) (by omega) (by omega)
  refine x_iret rfl rfl ?_
  show jX m_X12_isNamed 7 0 0 10 [(0, .ref 125), (1, .int l1), (2, .int 1)] [.int v8, .ref 126] _ 0 0 _
  refine z_ialdU (N := 50660) (lo := 0) (hi := 12) rfl J rfl rfl (by omega) ((show (v8.toInt - 20) % 90 = 20 ∨ (v8.toInt - 20) % 90 = 48 ∨ (v8.toInt - 20) % 90 = 76 from by omega).elim (fun q => (jrg_w (jrg_c J sg_126_20_18020_90_20_21 rfl (by omega)) (by decide))) (fun q => q.elim (fun q => (jrg_w (jrg_c J sg_126_20_18020_90_48_49 rfl (by omega)) (by decide))) (fun q => (jrg_w (jrg_c J sg_126_20_18020_90_76_77 rfl (by omega)) (by decide))))) (fun v9 qv9 ev9 => ?_)
  try rw [vrd qv9 (show ((((20 + (90 * (l1.toInt / 3))) + 6) + (28 * (l1.toInt % 3))) + 14) = v8.toInt from by omega)] at D
  refine x_ifle (tgt := 18) rfl rfl (ti_le rfl jk_0 ⟨fun c10 => ?_, fun c10 => ?_⟩)
  ·
    rw [if_pos (by omega)] at D
    refine x_iconst (v := 0) rfl ki_0 ?_
    refine x_zret rfl rfl (by decide) ?_
    show jX m_X12_worthOf 8 0 0 34 [(3, .int s0), (0, .ref 125), (1, .int l1), (2, .int l2)] [.int 0, .int s0] _ 0 0 _
    refine x_ifeq (tgt := 63) rfl rfl (ti_eq jk_0 jk_0 (br_t (by omega) ?_))
    exact jX.sub (jsb_c rfl (jsb_c rfl (jsb_c rfl jsb_n))) (ct_X12_worthOf_r125d_63 hD hQ  l1 l2 s0 h (jr_of rfl (by omega)) (jr_of rfl (by omega)) (jr_of rfl (by omega)) J Sm D)
  ·
    rw [if_neg (by omega)] at D
    refine x_iconst (v := 1) rfl ki_1 ?_
    refine x_goto (tgt := 19) rfl rfl ?_
    refine x_zret rfl rfl (by decide) ?_
    show jX m_X12_worthOf 8 0 0 34 [(3, .int s0), (0, .ref 125), (1, .int l1), (2, .int l2)] [.int 1, .int s0] _ 0 0 _
    refine x_ifeq (tgt := 63) rfl rfl (ti_eq jk_1 jk_0 (br_f (by omega) ?_))
    refine x_aloadn (x := 125) rfl rfl ?_
    refine x_iloadn (x := l2) rfl rfl ?_
    refine x_iconst (v := 1) rfl ki_1 ?_
    refine x_inv (N := m_X12_isNamed) (As := [.int l2, .int 1]) (b := 125) (st := [.int s0]) (dx9 := 7) (mc := 0) (ms := 0) (host := "") 12 rfl t_X12_isNamed ⟨Or.inl q_12_315, i_X12_isNamed.1, i_X12_isNamed.2⟩ ⟨by decide, rfl⟩ (congrArg Prod.fst (J.1.1 125 (12, 92) rfl)) rfl (by decide) rfl rfl ⟨by decide, by decide⟩ (jC.of rfl k_X12_isNamed rfl ?_)
    show jX m_X12_isNamed 7 0 0 0 [(0, .ref 125), (1, .int l2), (2, .int 1)] [] _ 0 0 _
    refine x_aloadn (x := 125) rfl rfl ?_
    refine z_getR (N := 92) (b := 126) 12 2 rfl f_12_8 rfl J rfl 16002 ⟨rfl, rfl⟩ rfl ?_
    refine x_aloadn (x := 125) rfl rfl ?_
    refine x_iloadn (x := l2) rfl rfl ?_
    refine x_iloadn (x := 1) rfl rfl ?_
    refine x_inv (N := m_X12_nameAt) (As := [.int l2, .int 1]) (b := 125) (st := [.ref 126]) (dx9 := 6) (mc := 0) (ms := 0) (host := "") 12 rfl t_X12_nameAt ⟨Or.inl q_12_311, i_X12_nameAt.1, i_X12_nameAt.2⟩ ⟨by decide, rfl⟩ (congrArg Prod.fst (J.1.1 125 (12, 92) rfl)) rfl (by decide) rfl rfl ⟨by decide, by decide⟩ (jC.of rfl k_X12_nameAt rfl ?_)
    show jX m_X12_nameAt 6 0 0 0 [(0, .ref 125), (1, .int l2), (2, .int 1)] [] _ 0 0 _
    refine x_aloadn (x := 125) rfl rfl ?_
    refine x_iloadn (x := l2) rfl rfl ?_
    refine x_iconst (v := 3) rfl ki_3 ?_
    refine z_idiv rfl rfl jk_3 (by omega) (by omega) (fun v11 ev11 => ?_)
    refine x_inv (N := m_X12_at) (As := [.int v11]) (b := 125) (st := []) (dx9 := 5) (mc := 0) (ms := 0) (host := "") 12 rfl t_X12_at ⟨Or.inl q_12_254, i_X12_at.1, i_X12_at.2⟩ ⟨by decide, rfl⟩ (congrArg Prod.fst (J.1.1 125 (12, 92) rfl)) rfl (by decide) rfl rfl ⟨by decide, by decide⟩ (jC.of rfl k_X12_at rfl ?_)
    show jX m_X12_at 5 0 0 0 [(0, .ref 125), (1, .int v11)] [] _ 0 0 _
    refine x_bipush (v := 20) rfl kb_20 ?_
    refine x_bipush (v := 90) rfl kb_90 ?_
    refine x_iloadn (x := v11) rfl rfl ?_
    refine z_imul rfl jk_90 rfl (by omega) (fun v12 ev12 => ?_)
    refine z_iadd rfl jk_20 rfl (by omega) (fun v13 ev13 => ?_)
    refine x_iret rfl rfl ?_
    show jX m_X12_nameAt 6 0 0 7 [(0, .ref 125), (1, .int l2), (2, .int 1)] [.int v13] _ 0 0 _
    refine x_bipush (v := 6) rfl kb_6 ?_
    refine z_iadd rfl rfl jk_6 (by omega) (fun v14 ev14 => ?_)
    refine x_bipush (v := 28) rfl kb_28 ?_
    refine x_iloadn (x := l2) rfl rfl ?_
    refine x_iconst (v := 3) rfl ki_3 ?_
    refine z_irem rfl rfl jk_3 (by omega) (by omega) (fun v15 ev15 => ?_)
    refine z_imul rfl jk_28 rfl (by omega) (fun v16 ev16 => ?_)
    refine z_iadd rfl rfl rfl (by omega) (fun v17 ev17 => ?_)
    refine x_bipush (v := 14) rfl kb_14 ?_
    refine x_iloadn (x := 1) rfl rfl ?_
    refine y_imul (v := 14) rfl (by decide) ?_
    refine z_iadd rfl rfl jk_14 (by omega) (fun v18 ev18 => ?_)
    have rnv18 := jnam (m := l2.toInt) (w := 1) (v := v18.toInt) (by omega) (by omega) (by omega)
    refine x_iret rfl rfl ?_
    show jX m_X12_isNamed 7 0 0 10 [(0, .ref 125), (1, .int l2), (2, .int 1)] [.int v18, .ref 126] _ 0 0 _
    refine z_ialdU (N := 50660) (lo := 0) (hi := 12) rfl J rfl rfl (by omega) ((show (v18.toInt - 20) % 90 = 20 ∨ (v18.toInt - 20) % 90 = 48 ∨ (v18.toInt - 20) % 90 = 76 from by omega).elim (fun q => (jrg_w (jrg_c J sg_126_20_18020_90_20_21 rfl (by omega)) (by decide))) (fun q => q.elim (fun q => (jrg_w (jrg_c J sg_126_20_18020_90_48_49 rfl (by omega)) (by decide))) (fun q => (jrg_w (jrg_c J sg_126_20_18020_90_76_77 rfl (by omega)) (by decide))))) (fun v19 qv19 ev19 => ?_)
    try rw [vrd qv19 (show ((((20 + (90 * (l2.toInt / 3))) + 6) + (28 * (l2.toInt % 3))) + 14) = v18.toInt from by omega)] at D
    refine x_ifle (tgt := 18) rfl rfl (ti_le rfl jk_0 ⟨fun c20 => ?_, fun c20 => ?_⟩)
    ·
      rw [if_pos (by omega)] at D
      refine x_iconst (v := 0) rfl ki_0 ?_
      refine x_zret rfl rfl (by decide) ?_
      show jX m_X12_worthOf 8 0 0 43 [(3, .int s0), (0, .ref 125), (1, .int l1), (2, .int l2)] [.int 0, .int s0] _ 0 0 _
      refine x_ifeq (tgt := 63) rfl rfl (ti_eq jk_0 jk_0 (br_t (by omega) ?_))
      exact jX.sub (jsb_c rfl (jsb_c rfl (jsb_c rfl jsb_n))) (ct_X12_worthOf_r125d_63 hD hQ  l1 l2 s0 h (jr_of rfl (by omega)) (jr_of rfl (by omega)) (jr_of rfl (by omega)) J Sm D)
    ·
      rw [if_neg (by omega)] at D
      refine x_iconst (v := 1) rfl ki_1 ?_
      refine x_goto (tgt := 19) rfl rfl ?_
      refine x_zret rfl rfl (by decide) ?_
      show jX m_X12_worthOf 8 0 0 43 [(3, .int s0), (0, .ref 125), (1, .int l1), (2, .int l2)] [.int 1, .int s0] _ 0 0 _
      refine x_ifeq (tgt := 63) rfl rfl (ti_eq jk_1 jk_0 (br_f (by omega) ?_))
      refine x_aloadn (x := 125) rfl rfl ?_
      refine x_iloadn (x := l1) rfl rfl ?_
      refine x_iloadn (x := l2) rfl rfl ?_
      refine x_iconst (v := 1) rfl ki_1 ?_
      refine x_inv (N := m_X12_areAlike) (As := [.int l1, .int l2, .int 1]) (b := 125) (st := [.int s0]) (dx9 := 4) (mc := 0) (ms := 0) (host := "") 12 rfl t_X12_areAlike ⟨Or.inl q_12_358, i_X12_areAlike.1, i_X12_areAlike.2⟩ ⟨by decide, rfl⟩ (congrArg Prod.fst (J.1.1 125 (12, 92) rfl)) rfl (by decide) rfl rfl ⟨by decide, by decide⟩ (sf_X12_areAlike_r125d (jr_of rfl (by omega)) (jr_of rfl (by omega)) (jr_of jk_1 (by omega)) hD J rfl  (fun v24 h ev24 J S21 X22 X23 => ?_))
      have Sm := jSm_tr rfl Sm S21
      try rw [jk_1] at X22
      try rw [jk_1] at X23
      try rw [X22] at D
      try rw [X23] at D
      show jX m_X12_worthOf 8 0 0 53 [(3, .int s0), (0, .ref 125), (1, .int l1), (2, .int l2)] [.int v24, .int s0] _ 0 0 _
      refine x_ifeq (tgt := 63) rfl rfl (ti_eq rfl jk_0 ⟨fun c25 => ?_, fun c25 => ?_⟩)
      ·
        rw [if_pos (by omega)] at D
        exact jX.sub (jsb_c rfl (jsb_c rfl (jsb_c rfl jsb_n))) (ct_X12_worthOf_r125d_63 hD hQ  l1 l2 s0 h (jr_of rfl (by omega)) (jr_of rfl (by omega)) (jr_of rfl (by omega)) J Sm D)
      ·
        rw [if_neg (by omega)] at D
        refine x_aloadn (x := 125) rfl rfl ?_
        refine z_getI (N := 92) 12 24 rfl f_12_60 rfl J rfl sg_125_24_25_1_0_1 (fun v26 qv26 ev26 => ?_)
        try rw [vrf (jmb_c S21 qv26 rfl)] at D
        refine x_goto (tgt := 64) rfl rfl ?_
        exact jX.sub (jsb_c rfl (jsb_c rfl (jsb_c rfl jsb_n))) (ct_X12_worthOf_r125d_64 hD hQ  l1 l2 v26 s0 h (jr_of rfl (by omega)) (jr_of rfl (by omega)) (jr_of rfl (by omega)) (jr_of rfl (by omega)) J Sm D)
set_option maxRecDepth 100000 in
set_option maxHeartbeats 4000000 in
theorem ct_X12_worthOf_r125d_200026 {Dy : jH → Prop} {h0 : jH} {Q : Option Value → jH → Prop} {dr : (Int × jW)} (hD : jDk Dy) (hQ : ∀ (v : Int32) hx9, 0 ≤ v.toInt ∧ v.toInt ≤ 400 → jJ jSgM Dy hx9 → jSm fp_X12_worthOf_r125d h0 hx9 → dr.1 = v.toInt → dr.2 = vw hx9 → Q (some (.int v)) hx9) : ∀ (l1 : Int32) (l2 : Int32) (h : jH), 0 ≤ l1.toInt ∧ l1.toInt ≤ 599 → 0 ≤ l2.toInt ∧ l2.toInt ≤ 599 → jJ jSgM Dy h → jSm fp_X12_worthOf_r125d h0 h → d_X12_worthOf_r125d_200026  l1.toInt l2.toInt (vw h) = dr → jX m_X12_worthOf 8 0 0 26 [(0, .ref 125), (1, .int l1), (2, .int l2)] [.int 0] h 0 0 Q := by
  intro l1 l2 h y0 y1   J Sm D
  unfold d_X12_worthOf_r125d_200026 at D
  refine x_istoren (lsx9 := [(3, .int 0), (0, .ref 125), (1, .int l1), (2, .int l2)]) rfl rfl rfl ?_
  refine x_iloadn (x := 0) rfl rfl ?_
  refine x_aloadn (x := 125) rfl rfl ?_
  refine x_iloadn (x := l1) rfl rfl ?_
  refine x_iconst (v := 1) rfl ki_1 ?_
  refine x_inv (N := m_X12_isNamed) (As := [.int l1, .int 1]) (b := 125) (st := [.int 0]) (dx9 := 7) (mc := 0) (ms := 0) (host := "") 12 rfl t_X12_isNamed ⟨Or.inl q_12_315, i_X12_isNamed.1, i_X12_isNamed.2⟩ ⟨by decide, rfl⟩ (congrArg Prod.fst (J.1.1 125 (12, 92) rfl)) rfl (by decide) rfl rfl ⟨by decide, by decide⟩ (jC.of rfl k_X12_isNamed rfl ?_)
  show jX m_X12_isNamed 7 0 0 0 [(0, .ref 125), (1, .int l1), (2, .int 1)] [] _ 0 0 _
  refine x_aloadn (x := 125) rfl rfl ?_
  refine z_getR (N := 92) (b := 126) 12 2 rfl f_12_8 rfl J rfl 16002 ⟨rfl, rfl⟩ rfl ?_
  refine x_aloadn (x := 125) rfl rfl ?_
  refine x_iloadn (x := l1) rfl rfl ?_
  refine x_iloadn (x := 1) rfl rfl ?_
  refine x_inv (N := m_X12_nameAt) (As := [.int l1, .int 1]) (b := 125) (st := [.ref 126]) (dx9 := 6) (mc := 0) (ms := 0) (host := "") 12 rfl t_X12_nameAt ⟨Or.inl q_12_311, i_X12_nameAt.1, i_X12_nameAt.2⟩ ⟨by decide, rfl⟩ (congrArg Prod.fst (J.1.1 125 (12, 92) rfl)) rfl (by decide) rfl rfl ⟨by decide, by decide⟩ (jC.of rfl k_X12_nameAt rfl ?_)
  show jX m_X12_nameAt 6 0 0 0 [(0, .ref 125), (1, .int l1), (2, .int 1)] [] _ 0 0 _
  refine x_aloadn (x := 125) rfl rfl ?_
  refine x_iloadn (x := l1) rfl rfl ?_
  refine x_iconst (v := 3) rfl ki_3 ?_
  refine z_idiv rfl rfl jk_3 (by omega) (by omega) (fun v1 ev1 => ?_)
  refine x_inv (N := m_X12_at) (As := [.int v1]) (b := 125) (st := []) (dx9 := 5) (mc := 0) (ms := 0) (host := "") 12 rfl t_X12_at ⟨Or.inl q_12_254, i_X12_at.1, i_X12_at.2⟩ ⟨by decide, rfl⟩ (congrArg Prod.fst (J.1.1 125 (12, 92) rfl)) rfl (by decide) rfl rfl ⟨by decide, by decide⟩ (jC.of rfl k_X12_at rfl ?_)
  show jX m_X12_at 5 0 0 0 [(0, .ref 125), (1, .int v1)] [] _ 0 0 _
  refine x_bipush (v := 20) rfl kb_20 ?_
  refine x_bipush (v := 90) rfl kb_90 ?_
  refine x_iloadn (x := v1) rfl rfl ?_
  refine z_imul rfl jk_90 rfl (by omega) (fun v2 ev2 => ?_)
  refine z_iadd rfl jk_20 rfl (by omega) (fun v3 ev3 => ?_)
  refine x_iret rfl rfl ?_
  show jX m_X12_nameAt 6 0 0 7 [(0, .ref 125), (1, .int l1), (2, .int 1)] [.int v3] _ 0 0 _
  refine x_bipush (v := 6) rfl kb_6 ?_
  refine z_iadd rfl rfl jk_6 (by omega) (fun v4 ev4 => ?_)
  refine x_bipush (v := 28) rfl kb_28 ?_
  refine x_iloadn (x := l1) rfl rfl ?_
  refine x_iconst (v := 3) rfl ki_3 ?_
  refine z_irem rfl rfl jk_3 (by omega) (by omega) (fun v5 ev5 => ?_)
  refine z_imul rfl jk_28 rfl (by omega) (fun v6 ev6 => ?_)
  refine z_iadd rfl rfl rfl (by omega) (fun v7 ev7 => ?_)
  refine x_bipush (v := 14) rfl kb_14 ?_
  refine x_iloadn (x := 1) rfl rfl ?_
  refine y_imul (v := 14) rfl (by decide) ?_
  refine z_iadd rfl rfl jk_14 (by omega) (fun v8 ev8 => ?_)
  have rnv8 := jnam (m := l1.toInt) (w := 1) (v := v8.toInt) (by omega) (by omega) (by omega)
  refine x_iret rfl rfl ?_
  show jX m_X12_isNamed 7 0 0 10 [(0, .ref 125), (1, .int l1), (2, .int 1)] [.int v8, .ref 126] _ 0 0 _
  refine z_ialdU (N := 50660) (lo := 0) (hi := 12) rfl J rfl rfl (by omega) ((show (v8.toInt - 20) % 90 = 20 ∨ (v8.toInt - 20) % 90 = 48 ∨ (v8.toInt - 20) % 90 = 76 from by omega).elim (fun q => (jrg_w (jrg_c J sg_126_20_18020_90_20_21 rfl (by omega)) (by decide))) (fun q => q.elim (fun q => (jrg_w (jrg_c J sg_126_20_18020_90_48_49 rfl (by omega)) (by decide))) (fun q => (jrg_w (jrg_c J sg_126_20_18020_90_76_77 rfl (by omega)) (by decide))))) (fun v9 qv9 ev9 => ?_)
  try rw [vrd qv9 (show ((((20 + (90 * (l1.toInt / 3))) + 6) + (28 * (l1.toInt % 3))) + 14) = v8.toInt from by omega)] at D
  refine x_ifle (tgt := 18) rfl rfl (ti_le rfl jk_0 ⟨fun c10 => ?_, fun c10 => ?_⟩)
  ·
    rw [if_pos (by omega)] at D
    refine x_iconst (v := 0) rfl ki_0 ?_
    refine x_zret rfl rfl (by decide) ?_
    show jX m_X12_worthOf 8 0 0 34 [(3, .int 0), (0, .ref 125), (1, .int l1), (2, .int l2)] [.int 0, .int 0] _ 0 0 _
    refine x_ifeq (tgt := 63) rfl rfl (ti_eq jk_0 jk_0 (br_t (by omega) ?_))
    exact jX.sub (jsb_c rfl (jsb_c rfl (jsb_c rfl jsb_n))) (ct_X12_worthOf_r125d_200063 hD hQ  l1 l2 h (jr_of rfl (by omega)) (jr_of rfl (by omega)) J Sm D)
  ·
    rw [if_neg (by omega)] at D
    refine x_iconst (v := 1) rfl ki_1 ?_
    refine x_goto (tgt := 19) rfl rfl ?_
    refine x_zret rfl rfl (by decide) ?_
    show jX m_X12_worthOf 8 0 0 34 [(3, .int 0), (0, .ref 125), (1, .int l1), (2, .int l2)] [.int 1, .int 0] _ 0 0 _
    refine x_ifeq (tgt := 63) rfl rfl (ti_eq jk_1 jk_0 (br_f (by omega) ?_))
    refine x_aloadn (x := 125) rfl rfl ?_
    refine x_iloadn (x := l2) rfl rfl ?_
    refine x_iconst (v := 1) rfl ki_1 ?_
    refine x_inv (N := m_X12_isNamed) (As := [.int l2, .int 1]) (b := 125) (st := [.int 0]) (dx9 := 7) (mc := 0) (ms := 0) (host := "") 12 rfl t_X12_isNamed ⟨Or.inl q_12_315, i_X12_isNamed.1, i_X12_isNamed.2⟩ ⟨by decide, rfl⟩ (congrArg Prod.fst (J.1.1 125 (12, 92) rfl)) rfl (by decide) rfl rfl ⟨by decide, by decide⟩ (jC.of rfl k_X12_isNamed rfl ?_)
    show jX m_X12_isNamed 7 0 0 0 [(0, .ref 125), (1, .int l2), (2, .int 1)] [] _ 0 0 _
    refine x_aloadn (x := 125) rfl rfl ?_
    refine z_getR (N := 92) (b := 126) 12 2 rfl f_12_8 rfl J rfl 16002 ⟨rfl, rfl⟩ rfl ?_
    refine x_aloadn (x := 125) rfl rfl ?_
    refine x_iloadn (x := l2) rfl rfl ?_
    refine x_iloadn (x := 1) rfl rfl ?_
    refine x_inv (N := m_X12_nameAt) (As := [.int l2, .int 1]) (b := 125) (st := [.ref 126]) (dx9 := 6) (mc := 0) (ms := 0) (host := "") 12 rfl t_X12_nameAt ⟨Or.inl q_12_311, i_X12_nameAt.1, i_X12_nameAt.2⟩ ⟨by decide, rfl⟩ (congrArg Prod.fst (J.1.1 125 (12, 92) rfl)) rfl (by decide) rfl rfl ⟨by decide, by decide⟩ (jC.of rfl k_X12_nameAt rfl ?_)
    show jX m_X12_nameAt 6 0 0 0 [(0, .ref 125), (1, .int l2), (2, .int 1)] [] _ 0 0 _
    refine x_aloadn (x := 125) rfl rfl ?_
    refine x_iloadn (x := l2) rfl rfl ?_
    refine x_iconst (v := 3) rfl ki_3 ?_
    refine z_idiv rfl rfl jk_3 (by omega) (by omega) (fun v11 ev11 => ?_)
    refine x_inv (N := m_X12_at) (As := [.int v11]) (b := 125) (st := []) (dx9 := 5) (mc := 0) (ms := 0) (host := "") 12 rfl t_X12_at ⟨Or.inl q_12_254, i_X12_at.1, i_X12_at.2⟩ ⟨by decide, rfl⟩ (congrArg Prod.fst (J.1.1 125 (12, 92) rfl)) rfl (by decide) rfl rfl ⟨by decide, by decide⟩ (jC.of rfl k_X12_at rfl ?_)
    show jX m_X12_at 5 0 0 0 [(0, .ref 125), (1, .int v11)] [] _ 0 0 _
    refine x_bipush (v := 20) rfl kb_20 ?_
    refine x_bipush (v := 90) rfl kb_90 ?_
    refine x_iloadn (x := v11) rfl rfl ?_
    refine z_imul rfl jk_90 rfl (by omega) (fun v12 ev12 => ?_)
    refine z_iadd rfl jk_20 rfl (by omega) (fun v13 ev13 => ?_)
    refine x_iret rfl rfl ?_
    show jX m_X12_nameAt 6 0 0 7 [(0, .ref 125), (1, .int l2), (2, .int 1)] [.int v13] _ 0 0 _
    refine x_bipush (v := 6) rfl kb_6 ?_
    refine z_iadd rfl rfl jk_6 (by omega) (fun v14 ev14 => ?_)
    refine x_bipush (v := 28) rfl kb_28 ?_
    refine x_iloadn (x := l2) rfl rfl ?_
    refine x_iconst (v := 3) rfl ki_3 ?_
    refine z_irem rfl rfl jk_3 (by omega) (by omega) (fun v15 ev15 => ?_)
    refine z_imul rfl jk_28 rfl (by omega) (fun v16 ev16 => ?_)
    refine z_iadd rfl rfl rfl (by omega) (fun v17 ev17 => ?_)
    refine x_bipush (v := 14) rfl kb_14 ?_
    refine x_iloadn (x := 1) rfl rfl ?_
    refine y_imul (v := 14) rfl (by decide) ?_
    refine z_iadd rfl rfl jk_14 (by omega) (fun v18 ev18 => ?_)
    have rnv18 := jnam (m := l2.toInt) (w := 1) (v := v18.toInt) (by omega) (by omega) (by omega)
    refine x_iret rfl rfl ?_
    show jX m_X12_isNamed 7 0 0 10 [(0, .ref 125), (1, .int l2), (2, .int 1)] [.int v18, .ref 126] _ 0 0 _
    refine z_ialdU (N := 50660) (lo := 0) (hi := 12) rfl J rfl rfl (by omega) ((show (v18.toInt - 20) % 90 = 20 ∨ (v18.toInt - 20) % 90 = 48 ∨ (v18.toInt - 20) % 90 = 76 from by omega).elim (fun q => (jrg_w (jrg_c J sg_126_20_18020_90_20_21 rfl (by omega)) (by decide))) (fun q => q.elim (fun q => (jrg_w (jrg_c J sg_126_20_18020_90_48_49 rfl (by omega)) (by decide))) (fun q => (jrg_w (jrg_c J sg_126_20_18020_90_76_77 rfl (by omega)) (by decide))))) (fun v19 qv19 ev19 => ?_)
    try rw [vrd qv19 (show ((((20 + (90 * (l2.toInt / 3))) + 6) + (28 * (l2.toInt % 3))) + 14) = v18.toInt from by omega)] at D
    refine x_ifle (tgt := 18) rfl rfl (ti_le rfl jk_0 ⟨fun c20 => ?_, fun c20 => ?_⟩)
    ·
      rw [if_pos (by omega)] at D
      refine x_iconst (v := 0) rfl ki_0 ?_
      refine x_zret rfl rfl (by decide) ?_
      show jX m_X12_worthOf 8 0 0 43 [(3, .int 0), (0, .ref 125), (1, .int l1), (2, .int l2)] [.int 0, .int 0] _ 0 0 _
      refine x_ifeq (tgt := 63) rfl rfl (ti_eq jk_0 jk_0 (br_t (by omega) ?_))
      exact jX.sub (jsb_c rfl (jsb_c rfl (jsb_c rfl jsb_n))) (ct_X12_worthOf_r125d_200063 hD hQ  l1 l2 h (jr_of rfl (by omega)) (jr_of rfl (by omega)) J Sm D)
    ·
      rw [if_neg (by omega)] at D
      refine x_iconst (v := 1) rfl ki_1 ?_
      refine x_goto (tgt := 19) rfl rfl ?_
      refine x_zret rfl rfl (by decide) ?_
      show jX m_X12_worthOf 8 0 0 43 [(3, .int 0), (0, .ref 125), (1, .int l1), (2, .int l2)] [.int 1, .int 0] _ 0 0 _
      refine x_ifeq (tgt := 63) rfl rfl (ti_eq jk_1 jk_0 (br_f (by omega) ?_))
      refine x_aloadn (x := 125) rfl rfl ?_
      refine x_iloadn (x := l1) rfl rfl ?_
      refine x_iloadn (x := l2) rfl rfl ?_
      refine x_iconst (v := 1) rfl ki_1 ?_
      refine x_inv (N := m_X12_areAlike) (As := [.int l1, .int l2, .int 1]) (b := 125) (st := [.int 0]) (dx9 := 4) (mc := 0) (ms := 0) (host := "") 12 rfl t_X12_areAlike ⟨Or.inl q_12_358, i_X12_areAlike.1, i_X12_areAlike.2⟩ ⟨by decide, rfl⟩ (congrArg Prod.fst (J.1.1 125 (12, 92) rfl)) rfl (by decide) rfl rfl ⟨by decide, by decide⟩ (sf_X12_areAlike_r125d (jr_of rfl (by omega)) (jr_of rfl (by omega)) (jr_of jk_1 (by omega)) hD J rfl  (fun v24 h ev24 J S21 X22 X23 => ?_))
      have Sm := jSm_tr rfl Sm S21
      try rw [jk_1] at X22
      try rw [jk_1] at X23
      try rw [X22] at D
      try rw [X23] at D
      show jX m_X12_worthOf 8 0 0 53 [(3, .int 0), (0, .ref 125), (1, .int l1), (2, .int l2)] [.int v24, .int 0] _ 0 0 _
      refine x_ifeq (tgt := 63) rfl rfl (ti_eq rfl jk_0 ⟨fun c25 => ?_, fun c25 => ?_⟩)
      ·
        rw [if_pos (by omega)] at D
        exact jX.sub (jsb_c rfl (jsb_c rfl (jsb_c rfl jsb_n))) (ct_X12_worthOf_r125d_200063 hD hQ  l1 l2 h (jr_of rfl (by omega)) (jr_of rfl (by omega)) J Sm D)
      ·
        rw [if_neg (by omega)] at D
        refine x_aloadn (x := 125) rfl rfl ?_
        refine z_getI (N := 92) 12 24 rfl f_12_60 rfl J rfl sg_125_24_25_1_0_1 (fun v26 qv26 ev26 => ?_)
        try rw [vrf (jmb_c S21 qv26 rfl)] at D
        refine x_goto (tgt := 64) rfl rfl ?_
        exact jX.sub (jsb_c rfl (jsb_c rfl (jsb_c rfl jsb_n))) (ct_X12_worthOf_r125d_64 hD hQ  l1 l2 v26 0 h (jr_of rfl (by omega)) (jr_of rfl (by omega)) (jr_of rfl (by omega)) (jr_of jk_0 (by omega)) J Sm (by rw [jk_0]; exact D))
set_option maxRecDepth 100000 in
set_option maxHeartbeats 4000000 in
theorem ct_X12_worthOf_r125d_25 {Dy : jH → Prop} {h0 : jH} {Q : Option Value → jH → Prop} {dr : (Int × jW)} (hD : jDk Dy) (hQ : ∀ (v : Int32) hx9, 0 ≤ v.toInt ∧ v.toInt ≤ 400 → jJ jSgM Dy hx9 → jSm fp_X12_worthOf_r125d h0 hx9 → dr.1 = v.toInt → dr.2 = vw hx9 → Q (some (.int v)) hx9) : ∀ (l1 : Int32) (l2 : Int32) (h : jH), 0 ≤ l1.toInt ∧ l1.toInt ≤ 599 → 0 ≤ l2.toInt ∧ l2.toInt ≤ 599 → jJ jSgM Dy h → jSm fp_X12_worthOf_r125d h0 h → d_X12_worthOf_r125d_25  l1.toInt l2.toInt (vw h) = dr → jX m_X12_worthOf 8 0 0 25 [(0, .ref 125), (1, .int l1), (2, .int l2)] [] h 0 0 Q := by
  intro l1 l2 h y0 y1   J Sm D
  unfold d_X12_worthOf_r125d_25 at D
  refine x_iconst (v := 0) rfl ki_0 ?_
  exact jX.sub (jsb_c rfl (jsb_c rfl (jsb_c rfl jsb_n))) (ct_X12_worthOf_r125d_200026 hD hQ  l1 l2 h (jr_of rfl (by omega)) (jr_of rfl (by omega)) J Sm D)
set_option maxRecDepth 100000 in
set_option maxHeartbeats 4000000 in
theorem sf_X12_worthOf_r125d {Dy : jH → Prop} {h : jH} {Q : Option Value → jH → Prop} {dr : (Int × jW)} {a1 : Int32} {a2 : Int32} (y1 : 0 ≤ a1.toInt ∧ a1.toInt ≤ 599) (y2 : 0 ≤ a2.toInt ∧ a2.toInt ≤ 599) (hD : jDk Dy) (J : jJ jSgM Dy h) (D : d_X12_worthOf_r125d a1.toInt a2.toInt (vw h) = dr) (hQ : ∀ (v : Int32) hx9, 0 ≤ v.toInt ∧ v.toInt ≤ 400 → jJ jSgM Dy hx9 → jSm fp_X12_worthOf_r125d h hx9 → dr.1 = v.toInt → dr.2 = vw hx9 → Q (some (.int v)) hx9) : jC m_X12_worthOf 8 0 0 [.ref 125, .int a1, .int a2] h Q := by
  refine jC.of rfl k_X12_worthOf rfl ?_
  have Sm := jSm_rf fp_X12_worthOf_r125d h
  show jX m_X12_worthOf 8 0 0 0 [(0, .ref 125), (1, .int a1), (2, .int a2)] [] _ 0 0 _
  unfold d_X12_worthOf_r125d at D
  refine x_aloadn (x := 125) rfl rfl ?_
  refine x_iloadn (x := a1) rfl rfl ?_
  refine x_iconst (v := 0) rfl ki_0 ?_
  refine x_inv (N := m_X12_isNamed) (As := [.int a1, .int 0]) (b := 125) (st := []) (dx9 := 7) (mc := 0) (ms := 0) (host := "") 12 rfl t_X12_isNamed ⟨Or.inl q_12_315, i_X12_isNamed.1, i_X12_isNamed.2⟩ ⟨by decide, rfl⟩ (congrArg Prod.fst (J.1.1 125 (12, 92) rfl)) rfl (by decide) rfl rfl ⟨by decide, by decide⟩ (jC.of rfl k_X12_isNamed rfl ?_)
  show jX m_X12_isNamed 7 0 0 0 [(0, .ref 125), (1, .int a1), (2, .int 0)] [] _ 0 0 _
  refine x_aloadn (x := 125) rfl rfl ?_
  refine z_getR (N := 92) (b := 126) 12 2 rfl f_12_8 rfl J rfl 16002 ⟨rfl, rfl⟩ rfl ?_
  refine x_aloadn (x := 125) rfl rfl ?_
  refine x_iloadn (x := a1) rfl rfl ?_
  refine x_iloadn (x := 0) rfl rfl ?_
  refine x_inv (N := m_X12_nameAt) (As := [.int a1, .int 0]) (b := 125) (st := [.ref 126]) (dx9 := 6) (mc := 0) (ms := 0) (host := "") 12 rfl t_X12_nameAt ⟨Or.inl q_12_311, i_X12_nameAt.1, i_X12_nameAt.2⟩ ⟨by decide, rfl⟩ (congrArg Prod.fst (J.1.1 125 (12, 92) rfl)) rfl (by decide) rfl rfl ⟨by decide, by decide⟩ (jC.of rfl k_X12_nameAt rfl ?_)
  show jX m_X12_nameAt 6 0 0 0 [(0, .ref 125), (1, .int a1), (2, .int 0)] [] _ 0 0 _
  refine x_aloadn (x := 125) rfl rfl ?_
  refine x_iloadn (x := a1) rfl rfl ?_
  refine x_iconst (v := 3) rfl ki_3 ?_
  refine z_idiv rfl rfl jk_3 (by omega) (by omega) (fun v1 ev1 => ?_)
  refine x_inv (N := m_X12_at) (As := [.int v1]) (b := 125) (st := []) (dx9 := 5) (mc := 0) (ms := 0) (host := "") 12 rfl t_X12_at ⟨Or.inl q_12_254, i_X12_at.1, i_X12_at.2⟩ ⟨by decide, rfl⟩ (congrArg Prod.fst (J.1.1 125 (12, 92) rfl)) rfl (by decide) rfl rfl ⟨by decide, by decide⟩ (jC.of rfl k_X12_at rfl ?_)
  show jX m_X12_at 5 0 0 0 [(0, .ref 125), (1, .int v1)] [] _ 0 0 _
  refine x_bipush (v := 20) rfl kb_20 ?_
  refine x_bipush (v := 90) rfl kb_90 ?_
  refine x_iloadn (x := v1) rfl rfl ?_
  refine z_imul rfl jk_90 rfl (by omega) (fun v2 ev2 => ?_)
  refine z_iadd rfl jk_20 rfl (by omega) (fun v3 ev3 => ?_)
  refine x_iret rfl rfl ?_
  show jX m_X12_nameAt 6 0 0 7 [(0, .ref 125), (1, .int a1), (2, .int 0)] [.int v3] _ 0 0 _
  refine x_bipush (v := 6) rfl kb_6 ?_
  refine z_iadd rfl rfl jk_6 (by omega) (fun v4 ev4 => ?_)
  refine x_bipush (v := 28) rfl kb_28 ?_
  refine x_iloadn (x := a1) rfl rfl ?_
  refine x_iconst (v := 3) rfl ki_3 ?_
  refine z_irem rfl rfl jk_3 (by omega) (by omega) (fun v5 ev5 => ?_)
  refine z_imul rfl jk_28 rfl (by omega) (fun v6 ev6 => ?_)
  refine z_iadd rfl rfl rfl (by omega) (fun v7 ev7 => ?_)
  refine x_bipush (v := 14) rfl kb_14 ?_
  refine x_iloadn (x := 0) rfl rfl ?_
  refine y_imul (v := 0) rfl (by decide) ?_
  refine z_iadd rfl rfl jk_0 (by omega) (fun v8 ev8 => ?_)
  have rnv8 := jnam (m := a1.toInt) (w := 0) (v := v8.toInt) (by omega) (by omega) (by omega)
  refine x_iret rfl rfl ?_
  show jX m_X12_isNamed 7 0 0 10 [(0, .ref 125), (1, .int a1), (2, .int 0)] [.int v8, .ref 126] _ 0 0 _
  refine z_ialdU (N := 50660) (lo := 0) (hi := 12) rfl J rfl rfl (by omega) ((show (v8.toInt - 20) % 90 = 6 ∨ (v8.toInt - 20) % 90 = 34 ∨ (v8.toInt - 20) % 90 = 62 from by omega).elim (fun q => (jrg_w (jrg_c J sg_126_20_18020_90_6_7 rfl (by omega)) (by decide))) (fun q => q.elim (fun q => (jrg_w (jrg_c J sg_126_20_18020_90_34_35 rfl (by omega)) (by decide))) (fun q => (jrg_w (jrg_c J sg_126_20_18020_90_62_63 rfl (by omega)) (by decide))))) (fun v9 qv9 ev9 => ?_)
  try rw [vrd qv9 (show ((((20 + (90 * (a1.toInt / 3))) + 6) + (28 * (a1.toInt % 3))) + 0) = v8.toInt from by omega)] at D
  refine x_ifle (tgt := 18) rfl rfl (ti_le rfl jk_0 ⟨fun c10 => ?_, fun c10 => ?_⟩)
  ·
    rw [if_pos (by omega)] at D
    refine x_iconst (v := 0) rfl ki_0 ?_
    refine x_zret rfl rfl (by decide) ?_
    show jX m_X12_worthOf 8 0 0 6 [(0, .ref 125), (1, .int a1), (2, .int a2)] [.int 0] _ 0 0 _
    refine x_ifeq (tgt := 25) rfl rfl (ti_eq jk_0 jk_0 (br_t (by omega) ?_))
    exact jX.sub (jsb_c rfl (jsb_c rfl (jsb_c rfl jsb_n))) (ct_X12_worthOf_r125d_25 hD hQ  a1 a2 h (jr_of rfl (by omega)) (jr_of rfl (by omega)) J Sm D)
  ·
    rw [if_neg (by omega)] at D
    refine x_iconst (v := 1) rfl ki_1 ?_
    refine x_goto (tgt := 19) rfl rfl ?_
    refine x_zret rfl rfl (by decide) ?_
    show jX m_X12_worthOf 8 0 0 6 [(0, .ref 125), (1, .int a1), (2, .int a2)] [.int 1] _ 0 0 _
    refine x_ifeq (tgt := 25) rfl rfl (ti_eq jk_1 jk_0 (br_f (by omega) ?_))
    refine x_aloadn (x := 125) rfl rfl ?_
    refine x_iloadn (x := a2) rfl rfl ?_
    refine x_iconst (v := 0) rfl ki_0 ?_
    refine x_inv (N := m_X12_isNamed) (As := [.int a2, .int 0]) (b := 125) (st := []) (dx9 := 7) (mc := 0) (ms := 0) (host := "") 12 rfl t_X12_isNamed ⟨Or.inl q_12_315, i_X12_isNamed.1, i_X12_isNamed.2⟩ ⟨by decide, rfl⟩ (congrArg Prod.fst (J.1.1 125 (12, 92) rfl)) rfl (by decide) rfl rfl ⟨by decide, by decide⟩ (jC.of rfl k_X12_isNamed rfl ?_)
    show jX m_X12_isNamed 7 0 0 0 [(0, .ref 125), (1, .int a2), (2, .int 0)] [] _ 0 0 _
    refine x_aloadn (x := 125) rfl rfl ?_
    refine z_getR (N := 92) (b := 126) 12 2 rfl f_12_8 rfl J rfl 16002 ⟨rfl, rfl⟩ rfl ?_
    refine x_aloadn (x := 125) rfl rfl ?_
    refine x_iloadn (x := a2) rfl rfl ?_
    refine x_iloadn (x := 0) rfl rfl ?_
    refine x_inv (N := m_X12_nameAt) (As := [.int a2, .int 0]) (b := 125) (st := [.ref 126]) (dx9 := 6) (mc := 0) (ms := 0) (host := "") 12 rfl t_X12_nameAt ⟨Or.inl q_12_311, i_X12_nameAt.1, i_X12_nameAt.2⟩ ⟨by decide, rfl⟩ (congrArg Prod.fst (J.1.1 125 (12, 92) rfl)) rfl (by decide) rfl rfl ⟨by decide, by decide⟩ (jC.of rfl k_X12_nameAt rfl ?_)
    show jX m_X12_nameAt 6 0 0 0 [(0, .ref 125), (1, .int a2), (2, .int 0)] [] _ 0 0 _
    refine x_aloadn (x := 125) rfl rfl ?_
    refine x_iloadn (x := a2) rfl rfl ?_
    refine x_iconst (v := 3) rfl ki_3 ?_
    refine z_idiv rfl rfl jk_3 (by omega) (by omega) (fun v11 ev11 => ?_)
    refine x_inv (N := m_X12_at) (As := [.int v11]) (b := 125) (st := []) (dx9 := 5) (mc := 0) (ms := 0) (host := "") 12 rfl t_X12_at ⟨Or.inl q_12_254, i_X12_at.1, i_X12_at.2⟩ ⟨by decide, rfl⟩ (congrArg Prod.fst (J.1.1 125 (12, 92) rfl)) rfl (by decide) rfl rfl ⟨by decide, by decide⟩ (jC.of rfl k_X12_at rfl ?_)
    show jX m_X12_at 5 0 0 0 [(0, .ref 125), (1, .int v11)] [] _ 0 0 _
    refine x_bipush (v := 20) rfl kb_20 ?_
    refine x_bipush (v := 90) rfl kb_90 ?_
    refine x_iloadn (x := v11) rfl rfl ?_
    refine z_imul rfl jk_90 rfl (by omega) (fun v12 ev12 => ?_)
    refine z_iadd rfl jk_20 rfl (by omega) (fun v13 ev13 => ?_)
    refine x_iret rfl rfl ?_
    show jX m_X12_nameAt 6 0 0 7 [(0, .ref 125), (1, .int a2), (2, .int 0)] [.int v13] _ 0 0 _
    refine x_bipush (v := 6) rfl kb_6 ?_
    refine z_iadd rfl rfl jk_6 (by omega) (fun v14 ev14 => ?_)
    refine x_bipush (v := 28) rfl kb_28 ?_
    refine x_iloadn (x := a2) rfl rfl ?_
    refine x_iconst (v := 3) rfl ki_3 ?_
    refine z_irem rfl rfl jk_3 (by omega) (by omega) (fun v15 ev15 => ?_)
    refine z_imul rfl jk_28 rfl (by omega) (fun v16 ev16 => ?_)
    refine z_iadd rfl rfl rfl (by omega) (fun v17 ev17 => ?_)
    refine x_bipush (v := 14) rfl kb_14 ?_
    refine x_iloadn (x := 0) rfl rfl ?_
    refine y_imul (v := 0) rfl (by decide) ?_
    refine z_iadd rfl rfl jk_0 (by omega) (fun v18 ev18 => ?_)
    have rnv18 := jnam (m := a2.toInt) (w := 0) (v := v18.toInt) (by omega) (by omega) (by omega)
    refine x_iret rfl rfl ?_
    show jX m_X12_isNamed 7 0 0 10 [(0, .ref 125), (1, .int a2), (2, .int 0)] [.int v18, .ref 126] _ 0 0 _
    refine z_ialdU (N := 50660) (lo := 0) (hi := 12) rfl J rfl rfl (by omega) ((show (v18.toInt - 20) % 90 = 6 ∨ (v18.toInt - 20) % 90 = 34 ∨ (v18.toInt - 20) % 90 = 62 from by omega).elim (fun q => (jrg_w (jrg_c J sg_126_20_18020_90_6_7 rfl (by omega)) (by decide))) (fun q => q.elim (fun q => (jrg_w (jrg_c J sg_126_20_18020_90_34_35 rfl (by omega)) (by decide))) (fun q => (jrg_w (jrg_c J sg_126_20_18020_90_62_63 rfl (by omega)) (by decide))))) (fun v19 qv19 ev19 => ?_)
    try rw [vrd qv19 (show ((((20 + (90 * (a2.toInt / 3))) + 6) + (28 * (a2.toInt % 3))) + 0) = v18.toInt from by omega)] at D
    refine x_ifle (tgt := 18) rfl rfl (ti_le rfl jk_0 ⟨fun c20 => ?_, fun c20 => ?_⟩)
    ·
      rw [if_pos (by omega)] at D
      refine x_iconst (v := 0) rfl ki_0 ?_
      refine x_zret rfl rfl (by decide) ?_
      show jX m_X12_worthOf 8 0 0 15 [(0, .ref 125), (1, .int a1), (2, .int a2)] [.int 0] _ 0 0 _
      refine x_ifeq (tgt := 25) rfl rfl (ti_eq jk_0 jk_0 (br_t (by omega) ?_))
      exact jX.sub (jsb_c rfl (jsb_c rfl (jsb_c rfl jsb_n))) (ct_X12_worthOf_r125d_25 hD hQ  a1 a2 h (jr_of rfl (by omega)) (jr_of rfl (by omega)) J Sm D)
    ·
      rw [if_neg (by omega)] at D
      refine x_iconst (v := 1) rfl ki_1 ?_
      refine x_goto (tgt := 19) rfl rfl ?_
      refine x_zret rfl rfl (by decide) ?_
      show jX m_X12_worthOf 8 0 0 15 [(0, .ref 125), (1, .int a1), (2, .int a2)] [.int 1] _ 0 0 _
      refine x_ifeq (tgt := 25) rfl rfl (ti_eq jk_1 jk_0 (br_f (by omega) ?_))
      refine x_aloadn (x := 125) rfl rfl ?_
      refine z_getI (N := 92) 12 23 rfl f_12_57 rfl J rfl sg_125_23_24_1_0_1 (fun v21 qv21 ev21 => ?_)
      try rw [vrf qv21] at D
      refine x_goto (tgt := 26) rfl rfl ?_
      exact jX.sub (jsb_c rfl (jsb_c rfl (jsb_c rfl jsb_n))) (ct_X12_worthOf_r125d_26 hD hQ  a1 a2 v21 h (jr_of rfl (by omega)) (jr_of rfl (by omega)) (jr_of rfl (by omega)) J Sm D)
def fp_X12_weigh_r125d : jFp := [(125, 28, 29), (125, 31, 32), (125, 45, 46), (125, 57, 58), (137, 0, 80), (138, 0, 2), (139, 0, 600), (140, 0, 200), (142, 0, 81), (143, 0, 81), (144, 0, 81)]
set_option maxRecDepth 100000 in
set_option maxHeartbeats 4000000 in
theorem ct_X12_weigh_r125d_200149 {Dy : jH → Prop} {h0 : jH} {Q : Option Value → jH → Prop} {dr : jW} {K14 : Int → jW → jW} {K24 : Int → Int → jW → jW} {R14 : Int} {R24 : Int} (hD : jDk Dy) (hQ : ∀ hx9, jJ jSgM Dy hx9 → jSm fp_X12_weigh_r125d h0 hx9 → dr = vw hx9 → Q none hx9) (k14 : ∀ (l1 : Int32) (g0 : Int32) (h : jH), 9 - l1.toInt < R14 → 0 ≤ l1.toInt ∧ l1.toInt ≤ 9 → jiv h 125 45 = g0 → jJ jSgM Dy h → jSm fp_X12_weigh_r125d h0 h → K14 l1.toInt (vw h) = dr → jX m_X12_weigh 9 0 0 14 [(0, .ref 125), (1, .int l1)] [] h 0 0 Q) (k24 : ∀ (l1 : Int32) (l2 : Int32) (g0 : Int32) (h : jH), 8 - l2.toInt < R24 → 0 ≤ l1.toInt ∧ l1.toInt ≤ 8 → 0 ≤ l2.toInt ∧ l2.toInt ≤ 8 → jiv h 125 45 = g0 → 9 - l1.toInt ≤ R14 → jJ jSgM Dy h → jSm fp_X12_weigh_r125d h0 h → K24 l1.toInt l2.toInt (vw h) = dr → jX m_X12_weigh 9 0 0 24 [(0, .ref 125), (1, .int l1), (2, .int l2)] [] h 0 0 Q) : ∀ (l1 : Int32) (l2 : Int32) (s1 : Int32) (g0 : Int32) (h : jH), 1 ≤ l1.toInt ∧ l1.toInt ≤ 8 → 0 ≤ l2.toInt ∧ l2.toInt ≤ 7 → 9 ≤ s1.toInt ∧ s1.toInt ≤ 79 → jiv h 125 45 = g0 → 9 - l1.toInt ≤ R14 → 8 - l2.toInt ≤ R24 → jJ jSgM Dy h → jSm fp_X12_weigh_r125d h0 h → d_X12_weigh_r125d_200149 K14 K24  l1.toInt l2.toInt s1.toInt (vw h) = dr → jX m_X12_weigh 9 0 0 149 [(0, .ref 125), (1, .int l1), (2, .int l2)] [.int 0, .int s1, .ref 144] h 0 0 Q := by
  intro l1 l2 s1 g0 h y0 y1 y2 z0 m14 m24 J Sm D
  have eg0 := jfull g0
  unfold d_X12_weigh_r125d_200149 at D
  try rw [vrf z0] at D
  refine z_iast (N := 81) (l := 0) (u := 81) (w := 0) rfl hD J Sm rfl rfl rfl (by omega) jk_0 (wr_144 (fun q1 q2 q3 q4 => by omega)) rfl (fun h w1 J Sm => ?_)
  rw [vww w1 (show s1.toInt = s1.toInt from by omega) (show 0 = (0 : Int32).toInt from by have := jk_0; omega)] at D
  refine x_aloadn (x := 125) rfl rfl ?_
  refine x_dup rfl rfl ?_
  refine z_getM (N := 92) (v := g0) 12 45 rfl f_12_440 rfl J rfl (jmo w1 rfl z0) ?_
  refine x_aloadn (x := 125) rfl rfl ?_
  refine z_getR (N := 92) (b := 144) 12 40 rfl f_12_87 rfl J rfl 16040 ⟨rfl, rfl⟩ rfl ?_
  refine x_bipush (v := 9) rfl kb_9 ?_
  refine x_iloadn (x := l1) rfl rfl ?_
  refine z_imul rfl jk_9 rfl (by omega) (fun v2 ev2 => ?_)
  refine x_iloadn (x := l2) rfl rfl ?_
  refine z_iadd rfl rfl rfl (by omega) (fun v3 ev3 => ?_)
  refine z_iald (N := 81) rfl J rfl sg_144_0_81_1_0_1 rfl (by omega) (fun v4 qv4 ev4 => ?_)
  try rw [vrd qv4 (show ((9 * l1.toInt) + l2.toInt) = v3.toInt from by omega)] at D
  refine z_iaddW rfl rfl rfl (fun v5 ev5 => ?_)
  have fv5 := jfull v5
  try rw [← ev5] at D
  refine z_putI (N := 92) (w := v5.toInt) 12 45 rfl f_12_440 rfl (jfin_no TX12 RX12 92 rfl rfl) hD J Sm rfl rfl rfl (pw_125_45 trivial) rfl (fun h w6 J Sm => ?_)
  rw [vwf w6 (show v5.toInt = v5.toInt from by omega)] at D
  refine z_iinc (x := l2) (lsx9 := fun v7 => [(2, .int v7), (0, .ref 125), (1, .int l1)]) rfl rfl rfl jko_1 (by omega) rfl (fun _ => rfl) (fun v7 ev7 => ?_)
  refine x_goto (tgt := 24) rfl rfl ?_
  try rw [show (l2.toInt + 1) = v7.toInt from by omega] at D
  exact jX.sub (jsb_c rfl (jsb_c rfl (jsb_c rfl jsb_n))) (k24 l1 v7 v5 h (by omega) (jr_of rfl (by omega)) (jr_of rfl (by omega)) (jmw w6) (by omega) J Sm D)
set_option maxRecDepth 100000 in
set_option maxHeartbeats 4000000 in
theorem ct_X12_weigh_r125d_149 {Dy : jH → Prop} {h0 : jH} {Q : Option Value → jH → Prop} {dr : jW} {K14 : Int → jW → jW} {K24 : Int → Int → jW → jW} {R14 : Int} {R24 : Int} (hD : jDk Dy) (hQ : ∀ hx9, jJ jSgM Dy hx9 → jSm fp_X12_weigh_r125d h0 hx9 → dr = vw hx9 → Q none hx9) (k14 : ∀ (l1 : Int32) (g0 : Int32) (h : jH), 9 - l1.toInt < R14 → 0 ≤ l1.toInt ∧ l1.toInt ≤ 9 → jiv h 125 45 = g0 → jJ jSgM Dy h → jSm fp_X12_weigh_r125d h0 h → K14 l1.toInt (vw h) = dr → jX m_X12_weigh 9 0 0 14 [(0, .ref 125), (1, .int l1)] [] h 0 0 Q) (k24 : ∀ (l1 : Int32) (l2 : Int32) (g0 : Int32) (h : jH), 8 - l2.toInt < R24 → 0 ≤ l1.toInt ∧ l1.toInt ≤ 8 → 0 ≤ l2.toInt ∧ l2.toInt ≤ 8 → jiv h 125 45 = g0 → 9 - l1.toInt ≤ R14 → jJ jSgM Dy h → jSm fp_X12_weigh_r125d h0 h → K24 l1.toInt l2.toInt (vw h) = dr → jX m_X12_weigh 9 0 0 24 [(0, .ref 125), (1, .int l1), (2, .int l2)] [] h 0 0 Q) : ∀ (l1 : Int32) (l2 : Int32) (s0 : Int32) (s1 : Int32) (g0 : Int32) (h : jH), 1 ≤ l1.toInt ∧ l1.toInt ≤ 8 → 0 ≤ l2.toInt ∧ l2.toInt ≤ 7 → 0 ≤ s0.toInt ∧ s0.toInt ≤ 400 → 9 ≤ s1.toInt ∧ s1.toInt ≤ 79 → jiv h 125 45 = g0 → 9 - l1.toInt ≤ R14 → 8 - l2.toInt ≤ R24 → jJ jSgM Dy h → jSm fp_X12_weigh_r125d h0 h → d_X12_weigh_r125d_149 K14 K24  l1.toInt l2.toInt s0.toInt s1.toInt (vw h) = dr → jX m_X12_weigh 9 0 0 149 [(0, .ref 125), (1, .int l1), (2, .int l2)] [.int s0, .int s1, .ref 144] h 0 0 Q := by
  intro l1 l2 s0 s1 g0 h y0 y1 y2 y3 z0 m14 m24 J Sm D
  have eg0 := jfull g0
  unfold d_X12_weigh_r125d_149 at D
  try rw [vrf z0] at D
  refine z_iast (N := 81) (l := 0) (u := 81) (w := s0.toInt) rfl hD J Sm rfl rfl rfl (by omega) rfl (wr_144 (fun q1 q2 q3 q4 => by omega)) rfl (fun h w1 J Sm => ?_)
  rw [vww w1 (show s1.toInt = s1.toInt from by omega) (show s0.toInt = s0.toInt from by omega)] at D
  refine x_aloadn (x := 125) rfl rfl ?_
  refine x_dup rfl rfl ?_
  refine z_getM (N := 92) (v := g0) 12 45 rfl f_12_440 rfl J rfl (jmo w1 rfl z0) ?_
  refine x_aloadn (x := 125) rfl rfl ?_
  refine z_getR (N := 92) (b := 144) 12 40 rfl f_12_87 rfl J rfl 16040 ⟨rfl, rfl⟩ rfl ?_
  refine x_bipush (v := 9) rfl kb_9 ?_
  refine x_iloadn (x := l1) rfl rfl ?_
  refine z_imul rfl jk_9 rfl (by omega) (fun v2 ev2 => ?_)
  refine x_iloadn (x := l2) rfl rfl ?_
  refine z_iadd rfl rfl rfl (by omega) (fun v3 ev3 => ?_)
  refine z_iald (N := 81) rfl J rfl sg_144_0_81_1_0_1 rfl (by omega) (fun v4 qv4 ev4 => ?_)
  try rw [vrd qv4 (show ((9 * l1.toInt) + l2.toInt) = v3.toInt from by omega)] at D
  refine z_iaddW rfl rfl rfl (fun v5 ev5 => ?_)
  have fv5 := jfull v5
  try rw [← ev5] at D
  refine z_putI (N := 92) (w := v5.toInt) 12 45 rfl f_12_440 rfl (jfin_no TX12 RX12 92 rfl rfl) hD J Sm rfl rfl rfl (pw_125_45 trivial) rfl (fun h w6 J Sm => ?_)
  rw [vwf w6 (show v5.toInt = v5.toInt from by omega)] at D
  refine z_iinc (x := l2) (lsx9 := fun v7 => [(2, .int v7), (0, .ref 125), (1, .int l1)]) rfl rfl rfl jko_1 (by omega) rfl (fun _ => rfl) (fun v7 ev7 => ?_)
  refine x_goto (tgt := 24) rfl rfl ?_
  try rw [show (l2.toInt + 1) = v7.toInt from by omega] at D
  exact jX.sub (jsb_c rfl (jsb_c rfl (jsb_c rfl jsb_n))) (k24 l1 v7 v5 h (by omega) (jr_of rfl (by omega)) (jr_of rfl (by omega)) (jmw w6) (by omega) J Sm D)
set_option maxRecDepth 100000 in
set_option maxHeartbeats 4000000 in
theorem ct_X12_weigh_r125d_200104 {Dy : jH → Prop} {h0 : jH} {Q : Option Value → jH → Prop} {dr : jW} {K14 : Int → jW → jW} {K24 : Int → Int → jW → jW} {R14 : Int} {R24 : Int} (hD : jDk Dy) (hQ : ∀ hx9, jJ jSgM Dy hx9 → jSm fp_X12_weigh_r125d h0 hx9 → dr = vw hx9 → Q none hx9) (k14 : ∀ (l1 : Int32) (g0 : Int32) (h : jH), 9 - l1.toInt < R14 → 0 ≤ l1.toInt ∧ l1.toInt ≤ 9 → jiv h 125 45 = g0 → jJ jSgM Dy h → jSm fp_X12_weigh_r125d h0 h → K14 l1.toInt (vw h) = dr → jX m_X12_weigh 9 0 0 14 [(0, .ref 125), (1, .int l1)] [] h 0 0 Q) (k24 : ∀ (l1 : Int32) (l2 : Int32) (g0 : Int32) (h : jH), 8 - l2.toInt < R24 → 0 ≤ l1.toInt ∧ l1.toInt ≤ 8 → 0 ≤ l2.toInt ∧ l2.toInt ≤ 8 → jiv h 125 45 = g0 → 9 - l1.toInt ≤ R14 → jJ jSgM Dy h → jSm fp_X12_weigh_r125d h0 h → K24 l1.toInt l2.toInt (vw h) = dr → jX m_X12_weigh 9 0 0 24 [(0, .ref 125), (1, .int l1), (2, .int l2)] [] h 0 0 Q) : ∀ (l1 : Int32) (l2 : Int32) (s1 : Int32) (g0 : Int32) (h : jH), 1 ≤ l1.toInt ∧ l1.toInt ≤ 8 → 0 ≤ l2.toInt ∧ l2.toInt ≤ 7 → 9 ≤ s1.toInt ∧ s1.toInt ≤ 79 → jiv h 125 45 = g0 → 9 - l1.toInt ≤ R14 → 8 - l2.toInt ≤ R24 → jJ jSgM Dy h → jSm fp_X12_weigh_r125d h0 h → d_X12_weigh_r125d_200104 K14 K24  l1.toInt l2.toInt s1.toInt (vw h) = dr → jX m_X12_weigh 9 0 0 104 [(0, .ref 125), (1, .int l1), (2, .int l2)] [.int 0, .int s1, .ref 143] h 0 0 Q := by
  intro l1 l2 s1 g0 h y0 y1 y2 z0 m14 m24 J Sm D
  have eg0 := jfull g0
  unfold d_X12_weigh_r125d_200104 at D
  try rw [vrf z0] at D
  refine z_zast (N := 81) (l := 0) (u := 81) (w := 0) rfl hD J Sm rfl rfl rfl (by omega) jk_0 (by omega) (wr_143 (fun q1 q2 q3 q4 => by omega)) rfl (fun h w1 J Sm => ?_)
  rw [vww w1 (show s1.toInt = s1.toInt from by omega) (show 0 = (0 : Int32).toInt from by have := jk_0; omega)] at D
  refine x_aloadn (x := 125) rfl rfl ?_
  refine z_getR (N := 92) (b := 144) 12 40 rfl f_12_87 rfl J rfl 16040 ⟨rfl, rfl⟩ rfl ?_
  refine x_bipush (v := 9) rfl kb_9 ?_
  refine x_iloadn (x := l1) rfl rfl ?_
  refine z_imul rfl jk_9 rfl (by omega) (fun v2 ev2 => ?_)
  refine x_iloadn (x := l2) rfl rfl ?_
  refine z_iadd rfl rfl rfl (by omega) (fun v3 ev3 => ?_)
  refine x_aloadn (x := 125) rfl rfl ?_
  refine z_getR (N := 92) (b := 142) 12 38 rfl f_12_81 rfl J rfl 16038 ⟨rfl, rfl⟩ rfl ?_
  refine x_bipush (v := 9) rfl kb_9 ?_
  refine x_iloadn (x := l1) rfl rfl ?_
  refine z_imul rfl jk_9 rfl (by omega) (fun v4 ev4 => ?_)
  refine x_iloadn (x := l2) rfl rfl ?_
  refine z_iadd rfl rfl rfl (by omega) (fun v5 ev5 => ?_)
  refine z_zald (N := 81) rfl J rfl sg_142_0_81_1_0_1 rfl (by omega) (fun v6 qv6 ev6 => ?_)
  try rw [vrd (jmb_w w1 qv6 rfl) (show ((9 * l1.toInt) + l2.toInt) = v5.toInt from by omega)] at D
  refine x_ifeq (tgt := 148) rfl rfl (ti_eq rfl jk_0 ⟨fun c7 => ?_, fun c7 => ?_⟩)
  ·
    rw [if_pos (by omega)] at D
    refine x_iconst (v := 0) rfl ki_0 ?_
    try rw [show ((9 * l1.toInt) + l2.toInt) = v3.toInt from by omega] at D
    exact jX.sub (jsb_c rfl (jsb_c rfl (jsb_c rfl jsb_n))) (ct_X12_weigh_r125d_200149 hD hQ k14 k24 l1 l2 v3 g0 h (jr_of rfl (by omega)) (jr_of rfl (by omega)) (jr_of rfl (by omega)) (jmo w1 rfl z0) (by omega) (by omega) J Sm D)
  ·
    rw [if_neg (by omega)] at D
    refine x_aloadn (x := 125) rfl rfl ?_
    refine x_aloadn (x := 125) rfl rfl ?_
    refine z_getR (N := 92) (b := 141) 12 37 rfl f_12_78 rfl J rfl 16037 ⟨rfl, rfl⟩ rfl ?_
    refine x_iloadn (x := l1) rfl rfl ?_
    refine z_iald (N := 9) rfl J rfl sg_141_0_9_1_0_1 rfl (by omega) (fun v8 qv8 ev8 => ?_)
    try rw [vrd (jmb_w w1 qv8 rfl) (show l1.toInt = l1.toInt from by omega)] at D
    refine x_aloadn (x := 125) rfl rfl ?_
    refine z_getR (N := 92) (b := 141) 12 37 rfl f_12_78 rfl J rfl 16037 ⟨rfl, rfl⟩ rfl ?_
    refine x_iloadn (x := l2) rfl rfl ?_
    refine z_iald (N := 9) rfl J rfl sg_141_0_9_1_0_1 rfl (by omega) (fun v9 qv9 ev9 => ?_)
    try rw [vrd (jmb_w w1 qv9 rfl) (show l2.toInt = l2.toInt from by omega)] at D
    refine x_inv (N := m_X12_worthOf) (As := [.int v8, .int v9]) (b := 125) (st := [.int v3, .ref 144]) (dx9 := 8) (mc := 0) (ms := 0) (host := "") 12 rfl t_X12_worthOf ⟨Or.inl q_12_374, i_X12_worthOf.1, i_X12_worthOf.2⟩ ⟨by decide, rfl⟩ (congrArg Prod.fst (J.1.1 125 (12, 92) rfl)) rfl (by decide) rfl rfl ⟨by decide, by decide⟩ (sf_X12_worthOf_r125d (jr_of rfl (by omega)) (jr_of rfl (by omega)) hD J rfl  (fun v13 h ev13 J S10 X11 X12 => ?_))
    have Sm := jSm_tr rfl Sm S10
    try rw [X11] at D
    try rw [X12] at D
    show jX m_X12_weigh 9 0 0 145 [(0, .ref 125), (1, .int l1), (2, .int l2)] [.int v13, .int v3, .ref 144] _ 0 0 _
    refine x_goto (tgt := 149) rfl rfl ?_
    try rw [show ((9 * l1.toInt) + l2.toInt) = v3.toInt from by omega] at D
    exact jX.sub (jsb_c rfl (jsb_c rfl (jsb_c rfl jsb_n))) (ct_X12_weigh_r125d_149 hD hQ k14 k24 l1 l2 v13 v3 g0 h (jr_of rfl (by omega)) (jr_of rfl (by omega)) (jr_of rfl (by omega)) (jr_of rfl (by omega)) (jmc S10 rfl (jmo w1 rfl z0)) (by omega) (by omega) J Sm D)
set_option maxRecDepth 100000 in
set_option maxHeartbeats 4000000 in
theorem ct_X12_weigh_r125d_300104 {Dy : jH → Prop} {h0 : jH} {Q : Option Value → jH → Prop} {dr : jW} {K14 : Int → jW → jW} {K24 : Int → Int → jW → jW} {R14 : Int} {R24 : Int} (hD : jDk Dy) (hQ : ∀ hx9, jJ jSgM Dy hx9 → jSm fp_X12_weigh_r125d h0 hx9 → dr = vw hx9 → Q none hx9) (k14 : ∀ (l1 : Int32) (g0 : Int32) (h : jH), 9 - l1.toInt < R14 → 0 ≤ l1.toInt ∧ l1.toInt ≤ 9 → jiv h 125 45 = g0 → jJ jSgM Dy h → jSm fp_X12_weigh_r125d h0 h → K14 l1.toInt (vw h) = dr → jX m_X12_weigh 9 0 0 14 [(0, .ref 125), (1, .int l1)] [] h 0 0 Q) (k24 : ∀ (l1 : Int32) (l2 : Int32) (g0 : Int32) (h : jH), 8 - l2.toInt < R24 → 0 ≤ l1.toInt ∧ l1.toInt ≤ 8 → 0 ≤ l2.toInt ∧ l2.toInt ≤ 8 → jiv h 125 45 = g0 → 9 - l1.toInt ≤ R14 → jJ jSgM Dy h → jSm fp_X12_weigh_r125d h0 h → K24 l1.toInt l2.toInt (vw h) = dr → jX m_X12_weigh 9 0 0 24 [(0, .ref 125), (1, .int l1), (2, .int l2)] [] h 0 0 Q) : ∀ (l1 : Int32) (l2 : Int32) (s1 : Int32) (g0 : Int32) (h : jH), 1 ≤ l1.toInt ∧ l1.toInt ≤ 8 → 0 ≤ l2.toInt ∧ l2.toInt ≤ 7 → 9 ≤ s1.toInt ∧ s1.toInt ≤ 79 → jiv h 125 45 = g0 → 9 - l1.toInt ≤ R14 → 8 - l2.toInt ≤ R24 → jJ jSgM Dy h → jSm fp_X12_weigh_r125d h0 h → d_X12_weigh_r125d_300104 K14 K24  l1.toInt l2.toInt s1.toInt (vw h) = dr → jX m_X12_weigh 9 0 0 104 [(0, .ref 125), (1, .int l1), (2, .int l2)] [.int 1, .int s1, .ref 143] h 0 0 Q := by
  intro l1 l2 s1 g0 h y0 y1 y2 z0 m14 m24 J Sm D
  have eg0 := jfull g0
  unfold d_X12_weigh_r125d_300104 at D
  try rw [vrf z0] at D
  refine z_zast (N := 81) (l := 0) (u := 81) (w := 1) rfl hD J Sm rfl rfl rfl (by omega) jk_1 (by omega) (wr_143 (fun q1 q2 q3 q4 => by omega)) rfl (fun h w1 J Sm => ?_)
  rw [vww w1 (show s1.toInt = s1.toInt from by omega) (show 1 = (1 : Int32).toInt from by have := jk_1; omega)] at D
  refine x_aloadn (x := 125) rfl rfl ?_
  refine z_getR (N := 92) (b := 144) 12 40 rfl f_12_87 rfl J rfl 16040 ⟨rfl, rfl⟩ rfl ?_
  refine x_bipush (v := 9) rfl kb_9 ?_
  refine x_iloadn (x := l1) rfl rfl ?_
  refine z_imul rfl jk_9 rfl (by omega) (fun v2 ev2 => ?_)
  refine x_iloadn (x := l2) rfl rfl ?_
  refine z_iadd rfl rfl rfl (by omega) (fun v3 ev3 => ?_)
  refine x_aloadn (x := 125) rfl rfl ?_
  refine z_getR (N := 92) (b := 142) 12 38 rfl f_12_81 rfl J rfl 16038 ⟨rfl, rfl⟩ rfl ?_
  refine x_bipush (v := 9) rfl kb_9 ?_
  refine x_iloadn (x := l1) rfl rfl ?_
  refine z_imul rfl jk_9 rfl (by omega) (fun v4 ev4 => ?_)
  refine x_iloadn (x := l2) rfl rfl ?_
  refine z_iadd rfl rfl rfl (by omega) (fun v5 ev5 => ?_)
  refine z_zald (N := 81) rfl J rfl sg_142_0_81_1_0_1 rfl (by omega) (fun v6 qv6 ev6 => ?_)
  try rw [vrd (jmb_w w1 qv6 rfl) (show ((9 * l1.toInt) + l2.toInt) = v5.toInt from by omega)] at D
  refine x_ifeq (tgt := 148) rfl rfl (ti_eq rfl jk_0 ⟨fun c7 => ?_, fun c7 => ?_⟩)
  ·
    rw [if_pos (by omega)] at D
    refine x_iconst (v := 0) rfl ki_0 ?_
    try rw [show ((9 * l1.toInt) + l2.toInt) = v3.toInt from by omega] at D
    exact jX.sub (jsb_c rfl (jsb_c rfl (jsb_c rfl jsb_n))) (ct_X12_weigh_r125d_200149 hD hQ k14 k24 l1 l2 v3 g0 h (jr_of rfl (by omega)) (jr_of rfl (by omega)) (jr_of rfl (by omega)) (jmo w1 rfl z0) (by omega) (by omega) J Sm D)
  ·
    rw [if_neg (by omega)] at D
    refine x_aloadn (x := 125) rfl rfl ?_
    refine x_aloadn (x := 125) rfl rfl ?_
    refine z_getR (N := 92) (b := 141) 12 37 rfl f_12_78 rfl J rfl 16037 ⟨rfl, rfl⟩ rfl ?_
    refine x_iloadn (x := l1) rfl rfl ?_
    refine z_iald (N := 9) rfl J rfl sg_141_0_9_1_0_1 rfl (by omega) (fun v8 qv8 ev8 => ?_)
    try rw [vrd (jmb_w w1 qv8 rfl) (show l1.toInt = l1.toInt from by omega)] at D
    refine x_aloadn (x := 125) rfl rfl ?_
    refine z_getR (N := 92) (b := 141) 12 37 rfl f_12_78 rfl J rfl 16037 ⟨rfl, rfl⟩ rfl ?_
    refine x_iloadn (x := l2) rfl rfl ?_
    refine z_iald (N := 9) rfl J rfl sg_141_0_9_1_0_1 rfl (by omega) (fun v9 qv9 ev9 => ?_)
    try rw [vrd (jmb_w w1 qv9 rfl) (show l2.toInt = l2.toInt from by omega)] at D
    refine x_inv (N := m_X12_worthOf) (As := [.int v8, .int v9]) (b := 125) (st := [.int v3, .ref 144]) (dx9 := 8) (mc := 0) (ms := 0) (host := "") 12 rfl t_X12_worthOf ⟨Or.inl q_12_374, i_X12_worthOf.1, i_X12_worthOf.2⟩ ⟨by decide, rfl⟩ (congrArg Prod.fst (J.1.1 125 (12, 92) rfl)) rfl (by decide) rfl rfl ⟨by decide, by decide⟩ (sf_X12_worthOf_r125d (jr_of rfl (by omega)) (jr_of rfl (by omega)) hD J rfl  (fun v13 h ev13 J S10 X11 X12 => ?_))
    have Sm := jSm_tr rfl Sm S10
    try rw [X11] at D
    try rw [X12] at D
    show jX m_X12_weigh 9 0 0 145 [(0, .ref 125), (1, .int l1), (2, .int l2)] [.int v13, .int v3, .ref 144] _ 0 0 _
    refine x_goto (tgt := 149) rfl rfl ?_
    try rw [show ((9 * l1.toInt) + l2.toInt) = v3.toInt from by omega] at D
    exact jX.sub (jsb_c rfl (jsb_c rfl (jsb_c rfl jsb_n))) (ct_X12_weigh_r125d_149 hD hQ k14 k24 l1 l2 v13 v3 g0 h (jr_of rfl (by omega)) (jr_of rfl (by omega)) (jr_of rfl (by omega)) (jr_of rfl (by omega)) (jmc S10 rfl (jmo w1 rfl z0)) (by omega) (by omega) J Sm D)
set_option maxRecDepth 100000 in
set_option maxHeartbeats 4000000 in
theorem ct_X12_weigh_r125d_200063 {Dy : jH → Prop} {h0 : jH} {Q : Option Value → jH → Prop} {dr : jW} {K14 : Int → jW → jW} {K24 : Int → Int → jW → jW} {R14 : Int} {R24 : Int} (hD : jDk Dy) (hQ : ∀ hx9, jJ jSgM Dy hx9 → jSm fp_X12_weigh_r125d h0 hx9 → dr = vw hx9 → Q none hx9) (k14 : ∀ (l1 : Int32) (g0 : Int32) (h : jH), 9 - l1.toInt < R14 → 0 ≤ l1.toInt ∧ l1.toInt ≤ 9 → jiv h 125 45 = g0 → jJ jSgM Dy h → jSm fp_X12_weigh_r125d h0 h → K14 l1.toInt (vw h) = dr → jX m_X12_weigh 9 0 0 14 [(0, .ref 125), (1, .int l1)] [] h 0 0 Q) (k24 : ∀ (l1 : Int32) (l2 : Int32) (g0 : Int32) (h : jH), 8 - l2.toInt < R24 → 0 ≤ l1.toInt ∧ l1.toInt ≤ 8 → 0 ≤ l2.toInt ∧ l2.toInt ≤ 8 → jiv h 125 45 = g0 → 9 - l1.toInt ≤ R14 → jJ jSgM Dy h → jSm fp_X12_weigh_r125d h0 h → K24 l1.toInt l2.toInt (vw h) = dr → jX m_X12_weigh 9 0 0 24 [(0, .ref 125), (1, .int l1), (2, .int l2)] [] h 0 0 Q) : ∀ (l1 : Int32) (l2 : Int32) (s1 : Int32) (g0 : Int32) (h : jH), 1 ≤ l1.toInt ∧ l1.toInt ≤ 8 → 0 ≤ l2.toInt ∧ l2.toInt ≤ 7 → 9 ≤ s1.toInt ∧ s1.toInt ≤ 79 → jiv h 125 45 = g0 → 9 - l1.toInt ≤ R14 → 8 - l2.toInt ≤ R24 → jJ jSgM Dy h → jSm fp_X12_weigh_r125d h0 h → d_X12_weigh_r125d_200063 K14 K24  l1.toInt l2.toInt s1.toInt (vw h) = dr → jX m_X12_weigh 9 0 0 63 [(0, .ref 125), (1, .int l1), (2, .int l2)] [.int 0, .int s1, .ref 142] h 0 0 Q := by
  intro l1 l2 s1 g0 h y0 y1 y2 z0 m14 m24 J Sm D
  have eg0 := jfull g0
  unfold d_X12_weigh_r125d_200063 at D
  try rw [vrf z0] at D
  refine z_zast (N := 81) (l := 0) (u := 81) (w := 0) rfl hD J Sm rfl rfl rfl (by omega) jk_0 (by omega) (wr_142 (fun q1 q2 q3 q4 => by omega)) rfl (fun h w1 J Sm => ?_)
  rw [vww w1 (show s1.toInt = s1.toInt from by omega) (show 0 = (0 : Int32).toInt from by have := jk_0; omega)] at D
  refine x_aloadn (x := 125) rfl rfl ?_
  refine z_getR (N := 92) (b := 143) 12 39 rfl f_12_84 rfl J rfl 16039 ⟨rfl, rfl⟩ rfl ?_
  refine x_bipush (v := 9) rfl kb_9 ?_
  refine x_iloadn (x := l1) rfl rfl ?_
  refine z_imul rfl jk_9 rfl (by omega) (fun v2 ev2 => ?_)
  refine x_iloadn (x := l2) rfl rfl ?_
  refine z_iadd rfl rfl rfl (by omega) (fun v3 ev3 => ?_)
  refine x_aloadn (x := 125) rfl rfl ?_
  refine z_getR (N := 92) (b := 139) 12 29 rfl f_12_72 rfl J rfl 16029 ⟨rfl, rfl⟩ rfl ?_
  refine x_aloadn (x := 125) rfl rfl ?_
  refine z_getR (N := 92) (b := 141) 12 37 rfl f_12_78 rfl J rfl 16037 ⟨rfl, rfl⟩ rfl ?_
  refine x_iloadn (x := l1) rfl rfl ?_
  refine z_iald (N := 9) rfl J rfl sg_141_0_9_1_0_1 rfl (by omega) (fun v4 qv4 ev4 => ?_)
  try rw [vrd (jmb_w w1 qv4 rfl) (show l1.toInt = l1.toInt from by omega)] at D
  refine z_iald (N := 600) rfl J rfl sg_139_0_600_1_0_1 rfl (by omega) (fun v5 qv5 ev5 => ?_)
  try rw [vrd (jmb_w w1 qv5 rfl) (show v4.toInt = v4.toInt from by omega)] at D
  refine x_aloadn (x := 125) rfl rfl ?_
  refine z_getR (N := 92) (b := 139) 12 29 rfl f_12_72 rfl J rfl 16029 ⟨rfl, rfl⟩ rfl ?_
  refine x_aloadn (x := 125) rfl rfl ?_
  refine z_getR (N := 92) (b := 141) 12 37 rfl f_12_78 rfl J rfl 16037 ⟨rfl, rfl⟩ rfl ?_
  refine x_iloadn (x := l2) rfl rfl ?_
  refine z_iald (N := 9) rfl J rfl sg_141_0_9_1_0_1 rfl (by omega) (fun v6 qv6 ev6 => ?_)
  try rw [vrd (jmb_w w1 qv6 rfl) (show l2.toInt = l2.toInt from by omega)] at D
  refine z_iald (N := 600) rfl J rfl sg_139_0_600_1_0_1 rfl (by omega) (fun v7 qv7 ev7 => ?_)
  try rw [vrd (jmb_w w1 qv7 rfl) (show v6.toInt = v6.toInt from by omega)] at D
  refine x_icne (tgt := 103) rfl rfl (ti_ne rfl rfl ⟨fun c8 => ?_, fun c8 => ?_⟩)
  ·
    rw [if_neg (by omega)] at D
    refine x_iconst (v := 0) rfl ki_0 ?_
    try rw [show ((9 * l1.toInt) + l2.toInt) = v3.toInt from by omega] at D
    exact jX.sub (jsb_c rfl (jsb_c rfl (jsb_c rfl jsb_n))) (ct_X12_weigh_r125d_200104 hD hQ k14 k24 l1 l2 v3 g0 h (jr_of rfl (by omega)) (jr_of rfl (by omega)) (jr_of rfl (by omega)) (jmo w1 rfl z0) (by omega) (by omega) J Sm D)
  ·
    rw [if_pos (by omega)] at D
    refine x_iconst (v := 1) rfl ki_1 ?_
    refine x_goto (tgt := 104) rfl rfl ?_
    try rw [show ((9 * l1.toInt) + l2.toInt) = v3.toInt from by omega] at D
    exact jX.sub (jsb_c rfl (jsb_c rfl (jsb_c rfl jsb_n))) (ct_X12_weigh_r125d_300104 hD hQ k14 k24 l1 l2 v3 g0 h (jr_of rfl (by omega)) (jr_of rfl (by omega)) (jr_of rfl (by omega)) (jmo w1 rfl z0) (by omega) (by omega) J Sm D)
set_option maxRecDepth 100000 in
set_option maxHeartbeats 4000000 in
theorem ct_X12_weigh_r125d_300063 {Dy : jH → Prop} {h0 : jH} {Q : Option Value → jH → Prop} {dr : jW} {K14 : Int → jW → jW} {K24 : Int → Int → jW → jW} {R14 : Int} {R24 : Int} (hD : jDk Dy) (hQ : ∀ hx9, jJ jSgM Dy hx9 → jSm fp_X12_weigh_r125d h0 hx9 → dr = vw hx9 → Q none hx9) (k14 : ∀ (l1 : Int32) (g0 : Int32) (h : jH), 9 - l1.toInt < R14 → 0 ≤ l1.toInt ∧ l1.toInt ≤ 9 → jiv h 125 45 = g0 → jJ jSgM Dy h → jSm fp_X12_weigh_r125d h0 h → K14 l1.toInt (vw h) = dr → jX m_X12_weigh 9 0 0 14 [(0, .ref 125), (1, .int l1)] [] h 0 0 Q) (k24 : ∀ (l1 : Int32) (l2 : Int32) (g0 : Int32) (h : jH), 8 - l2.toInt < R24 → 0 ≤ l1.toInt ∧ l1.toInt ≤ 8 → 0 ≤ l2.toInt ∧ l2.toInt ≤ 8 → jiv h 125 45 = g0 → 9 - l1.toInt ≤ R14 → jJ jSgM Dy h → jSm fp_X12_weigh_r125d h0 h → K24 l1.toInt l2.toInt (vw h) = dr → jX m_X12_weigh 9 0 0 24 [(0, .ref 125), (1, .int l1), (2, .int l2)] [] h 0 0 Q) : ∀ (l1 : Int32) (l2 : Int32) (s1 : Int32) (g0 : Int32) (h : jH), 1 ≤ l1.toInt ∧ l1.toInt ≤ 8 → 0 ≤ l2.toInt ∧ l2.toInt ≤ 7 → 9 ≤ s1.toInt ∧ s1.toInt ≤ 79 → jiv h 125 45 = g0 → 9 - l1.toInt ≤ R14 → 8 - l2.toInt ≤ R24 → jJ jSgM Dy h → jSm fp_X12_weigh_r125d h0 h → d_X12_weigh_r125d_300063 K14 K24  l1.toInt l2.toInt s1.toInt (vw h) = dr → jX m_X12_weigh 9 0 0 63 [(0, .ref 125), (1, .int l1), (2, .int l2)] [.int 1, .int s1, .ref 142] h 0 0 Q := by
  intro l1 l2 s1 g0 h y0 y1 y2 z0 m14 m24 J Sm D
  have eg0 := jfull g0
  unfold d_X12_weigh_r125d_300063 at D
  try rw [vrf z0] at D
  refine z_zast (N := 81) (l := 0) (u := 81) (w := 1) rfl hD J Sm rfl rfl rfl (by omega) jk_1 (by omega) (wr_142 (fun q1 q2 q3 q4 => by omega)) rfl (fun h w1 J Sm => ?_)
  rw [vww w1 (show s1.toInt = s1.toInt from by omega) (show 1 = (1 : Int32).toInt from by have := jk_1; omega)] at D
  refine x_aloadn (x := 125) rfl rfl ?_
  refine z_getR (N := 92) (b := 143) 12 39 rfl f_12_84 rfl J rfl 16039 ⟨rfl, rfl⟩ rfl ?_
  refine x_bipush (v := 9) rfl kb_9 ?_
  refine x_iloadn (x := l1) rfl rfl ?_
  refine z_imul rfl jk_9 rfl (by omega) (fun v2 ev2 => ?_)
  refine x_iloadn (x := l2) rfl rfl ?_
  refine z_iadd rfl rfl rfl (by omega) (fun v3 ev3 => ?_)
  refine x_aloadn (x := 125) rfl rfl ?_
  refine z_getR (N := 92) (b := 139) 12 29 rfl f_12_72 rfl J rfl 16029 ⟨rfl, rfl⟩ rfl ?_
  refine x_aloadn (x := 125) rfl rfl ?_
  refine z_getR (N := 92) (b := 141) 12 37 rfl f_12_78 rfl J rfl 16037 ⟨rfl, rfl⟩ rfl ?_
  refine x_iloadn (x := l1) rfl rfl ?_
  refine z_iald (N := 9) rfl J rfl sg_141_0_9_1_0_1 rfl (by omega) (fun v4 qv4 ev4 => ?_)
  try rw [vrd (jmb_w w1 qv4 rfl) (show l1.toInt = l1.toInt from by omega)] at D
  refine z_iald (N := 600) rfl J rfl sg_139_0_600_1_0_1 rfl (by omega) (fun v5 qv5 ev5 => ?_)
  try rw [vrd (jmb_w w1 qv5 rfl) (show v4.toInt = v4.toInt from by omega)] at D
  refine x_aloadn (x := 125) rfl rfl ?_
  refine z_getR (N := 92) (b := 139) 12 29 rfl f_12_72 rfl J rfl 16029 ⟨rfl, rfl⟩ rfl ?_
  refine x_aloadn (x := 125) rfl rfl ?_
  refine z_getR (N := 92) (b := 141) 12 37 rfl f_12_78 rfl J rfl 16037 ⟨rfl, rfl⟩ rfl ?_
  refine x_iloadn (x := l2) rfl rfl ?_
  refine z_iald (N := 9) rfl J rfl sg_141_0_9_1_0_1 rfl (by omega) (fun v6 qv6 ev6 => ?_)
  try rw [vrd (jmb_w w1 qv6 rfl) (show l2.toInt = l2.toInt from by omega)] at D
  refine z_iald (N := 600) rfl J rfl sg_139_0_600_1_0_1 rfl (by omega) (fun v7 qv7 ev7 => ?_)
  try rw [vrd (jmb_w w1 qv7 rfl) (show v6.toInt = v6.toInt from by omega)] at D
  refine x_icne (tgt := 103) rfl rfl (ti_ne rfl rfl ⟨fun c8 => ?_, fun c8 => ?_⟩)
  ·
    rw [if_neg (by omega)] at D
    refine x_iconst (v := 0) rfl ki_0 ?_
    try rw [show ((9 * l1.toInt) + l2.toInt) = v3.toInt from by omega] at D
    exact jX.sub (jsb_c rfl (jsb_c rfl (jsb_c rfl jsb_n))) (ct_X12_weigh_r125d_200104 hD hQ k14 k24 l1 l2 v3 g0 h (jr_of rfl (by omega)) (jr_of rfl (by omega)) (jr_of rfl (by omega)) (jmo w1 rfl z0) (by omega) (by omega) J Sm D)
  ·
    rw [if_pos (by omega)] at D
    refine x_iconst (v := 1) rfl ki_1 ?_
    refine x_goto (tgt := 104) rfl rfl ?_
    try rw [show ((9 * l1.toInt) + l2.toInt) = v3.toInt from by omega] at D
    exact jX.sub (jsb_c rfl (jsb_c rfl (jsb_c rfl jsb_n))) (ct_X12_weigh_r125d_300104 hD hQ k14 k24 l1 l2 v3 g0 h (jr_of rfl (by omega)) (jr_of rfl (by omega)) (jr_of rfl (by omega)) (jmo w1 rfl z0) (by omega) (by omega) J Sm D)
set_option maxRecDepth 100000 in
set_option maxHeartbeats 4000000 in
theorem ct_X12_weigh_r125d_24 {Dy : jH → Prop} {h0 : jH} {Q : Option Value → jH → Prop} {dr : jW} {K14 : Int → jW → jW} {R14 : Int} (hD : jDk Dy) (hQ : ∀ hx9, jJ jSgM Dy hx9 → jSm fp_X12_weigh_r125d h0 hx9 → dr = vw hx9 → Q none hx9) (k14 : ∀ (l1 : Int32) (g0 : Int32) (h : jH), 9 - l1.toInt < R14 → 0 ≤ l1.toInt ∧ l1.toInt ≤ 9 → jiv h 125 45 = g0 → jJ jSgM Dy h → jSm fp_X12_weigh_r125d h0 h → K14 l1.toInt (vw h) = dr → jX m_X12_weigh 9 0 0 14 [(0, .ref 125), (1, .int l1)] [] h 0 0 Q) : ∀ r : Nat, ∀ (l1 : Int32) (l2 : Int32) (g0 : Int32) (h : jH), 8 - l2.toInt < (r : Int) → 0 ≤ l1.toInt ∧ l1.toInt ≤ 8 → 0 ≤ l2.toInt ∧ l2.toInt ≤ 8 → jiv h 125 45 = g0 → 9 - l1.toInt ≤ R14 → jJ jSgM Dy h → jSm fp_X12_weigh_r125d h0 h → d_X12_weigh_r125d_24 K14 r l1.toInt l2.toInt (vw h) = dr → jX m_X12_weigh 9 0 0 24 [(0, .ref 125), (1, .int l1), (2, .int l2)] [] h 0 0 Q := by
  intro r
  induction r with
  | zero =>
    intro l1 l2 g0 h hm y0 y1 z0 m14 J Sm D
    exfalso
    have eg0 := jfull g0
    omega
  | succ r ih =>
    intro l1 l2 g0 h hm y0 y1 z0 m14 J Sm D
    have eg0 := jfull g0
    rw [d_X12_weigh_r125d_24.eq_2] at D
    try rw [vrf z0] at D
    refine x_iloadn (x := l2) rfl rfl ?_
    refine x_iloadn (x := l1) rfl rfl ?_
    refine x_icge (tgt := 176) rfl rfl (ti_ge rfl rfl ⟨fun c1 => ?_, fun c1 => ?_⟩)
    ·
      rw [if_pos (by omega)] at D
      refine z_iinc (x := l1) (lsx9 := fun v2 => [(1, .int v2), (0, .ref 125), (2, .int l2)]) rfl rfl rfl jko_1 (by omega) rfl (fun _ => rfl) (fun v2 ev2 => ?_)
      refine x_goto (tgt := 14) rfl rfl ?_
      try rw [show (l1.toInt + 1) = v2.toInt from by omega] at D
      exact jX.sub (jsb_c rfl (jsb_c rfl jsb_n)) (k14 v2 g0 h (by omega) (jr_of rfl (by omega)) z0 J Sm D)
    ·
      rw [if_neg (by omega)] at D
      refine x_aloadn (x := 125) rfl rfl ?_
      refine z_getR (N := 92) (b := 142) 12 38 rfl f_12_81 rfl J rfl 16038 ⟨rfl, rfl⟩ rfl ?_
      refine x_bipush (v := 9) rfl kb_9 ?_
      refine x_iloadn (x := l1) rfl rfl ?_
      refine z_imul rfl jk_9 rfl (by omega) (fun v3 ev3 => ?_)
      refine x_iloadn (x := l2) rfl rfl ?_
      refine z_iadd rfl rfl rfl (by omega) (fun v4 ev4 => ?_)
      refine x_aloadn (x := 125) rfl rfl ?_
      refine x_aloadn (x := 125) rfl rfl ?_
      refine z_getR (N := 92) (b := 141) 12 37 rfl f_12_78 rfl J rfl 16037 ⟨rfl, rfl⟩ rfl ?_
      refine x_iloadn (x := l1) rfl rfl ?_
      refine z_iald (N := 9) rfl J rfl sg_141_0_9_1_0_1 rfl (by omega) (fun v5 qv5 ev5 => ?_)
      try rw [vrd qv5 (show l1.toInt = l1.toInt from by omega)] at D
      refine x_aloadn (x := 125) rfl rfl ?_
      refine z_getR (N := 92) (b := 141) 12 37 rfl f_12_78 rfl J rfl 16037 ⟨rfl, rfl⟩ rfl ?_
      refine x_iloadn (x := l2) rfl rfl ?_
      refine z_iald (N := 9) rfl J rfl sg_141_0_9_1_0_1 rfl (by omega) (fun v6 qv6 ev6 => ?_)
      try rw [vrd qv6 (show l2.toInt = l2.toInt from by omega)] at D
      refine x_inv (N := m_X12_why) (As := [.int v5, .int v6]) (b := 125) (st := [.int v4, .ref 142]) (dx9 := 6) (mc := 0) (ms := 0) (host := "") 12 rfl t_X12_why ⟨Or.inl q_12_368, i_X12_why.1, i_X12_why.2⟩ ⟨by decide, rfl⟩ (congrArg Prod.fst (J.1.1 125 (12, 92) rfl)) rfl (by decide) rfl rfl ⟨by decide, by decide⟩ (sf_X12_why_r125d (jr_of rfl (by omega)) (jr_of rfl (by omega)) hD J rfl  (fun v10 h ev10 J S7 X8 X9 => ?_))
      have Sm := jSm_tr rfl Sm S7
      try rw [X8] at D
      try rw [X9] at D
      show jX m_X12_weigh 9 0 0 55 [(0, .ref 125), (1, .int l1), (2, .int l2)] [.int v10, .int v4, .ref 142] _ 0 0 _
      refine x_ifne (tgt := 62) rfl rfl (ti_ne rfl jk_0 ⟨fun c11 => ?_, fun c11 => ?_⟩)
      ·
        rw [if_neg (by omega)] at D
        refine x_iconst (v := 0) rfl ki_0 ?_
        try rw [show ((9 * l1.toInt) + l2.toInt) = v4.toInt from by omega] at D
        exact jX.sub (jsb_c rfl (jsb_c rfl (jsb_c rfl jsb_n))) (ct_X12_weigh_r125d_200063 hD hQ k14 ih l1 l2 v4 g0 h (jr_of rfl (by omega)) (jr_of rfl (by omega)) (jr_of rfl (by omega)) (jmc S7 rfl z0) (by omega) (by omega) J Sm D)
      ·
        rw [if_pos (by omega)] at D
        refine x_iconst (v := 1) rfl ki_1 ?_
        refine x_goto (tgt := 63) rfl rfl ?_
        try rw [show ((9 * l1.toInt) + l2.toInt) = v4.toInt from by omega] at D
        exact jX.sub (jsb_c rfl (jsb_c rfl (jsb_c rfl jsb_n))) (ct_X12_weigh_r125d_300063 hD hQ k14 ih l1 l2 v4 g0 h (jr_of rfl (by omega)) (jr_of rfl (by omega)) (jr_of rfl (by omega)) (jmc S7 rfl z0) (by omega) (by omega) J Sm D)
set_option maxRecDepth 100000 in
set_option maxHeartbeats 4000000 in
theorem ct_X12_weigh_r125d_14 {Dy : jH → Prop} {h0 : jH} {Q : Option Value → jH → Prop} {dr : jW} (hD : jDk Dy) (hQ : ∀ hx9, jJ jSgM Dy hx9 → jSm fp_X12_weigh_r125d h0 hx9 → dr = vw hx9 → Q none hx9) : ∀ r : Nat, ∀ (l1 : Int32) (g0 : Int32) (h : jH), 9 - l1.toInt < (r : Int) → 0 ≤ l1.toInt ∧ l1.toInt ≤ 9 → jiv h 125 45 = g0 → jJ jSgM Dy h → jSm fp_X12_weigh_r125d h0 h → d_X12_weigh_r125d_14 r l1.toInt (vw h) = dr → jX m_X12_weigh 9 0 0 14 [(0, .ref 125), (1, .int l1)] [] h 0 0 Q := by
  intro r
  induction r with
  | zero =>
    intro l1 g0 h hm y0 z0  J Sm D
    exfalso
    have eg0 := jfull g0
    omega
  | succ r ih =>
    intro l1 g0 h hm y0 z0  J Sm D
    have eg0 := jfull g0
    rw [d_X12_weigh_r125d_14.eq_2] at D
    try rw [vrf z0] at D
    refine x_iloadn (x := l1) rfl rfl ?_
    refine x_aloadn (x := 125) rfl rfl ?_
    refine z_getI (N := 92) 12 36 rfl f_12_204 rfl J rfl sg_125_36_37_1_0_1 (fun v1 qv1 ev1 => ?_)
    try rw [vrf qv1] at D
    refine x_icge (tgt := 182) rfl rfl (ti_ge rfl rfl ⟨fun c2 => ?_, fun c2 => ?_⟩)
    ·
      rw [if_pos (by omega)] at D
      refine x_vret rfl rfl ?_
      exact hQ _ J Sm D.symm
    ·
      rw [if_neg (by omega)] at D
      refine x_iconst (v := 0) rfl ki_0 ?_
      refine x_istoren (lsx9 := [(2, .int 0), (0, .ref 125), (1, .int l1)]) rfl rfl rfl ?_
      exact jX.sub (jsb_c rfl (jsb_c rfl (jsb_c rfl jsb_n))) (ct_X12_weigh_r125d_24 hD hQ ih 9 l1 0 g0 h (by have := jk_0; omega) (jr_of rfl (by omega)) (jr_of jk_0 (by omega)) z0 (by omega) J Sm (by rw [jk_0]; exact D))
set_option maxRecDepth 100000 in
set_option maxHeartbeats 4000000 in
theorem sf_X12_weigh_r125d {Dy : jH → Prop} {h : jH} {Q : Option Value → jH → Prop} {dr : jW} (hD : jDk Dy) (J : jJ jSgM Dy h) (D : d_X12_weigh_r125d (vw h) = dr) (hQ : ∀ hx9, jJ jSgM Dy hx9 → jSm fp_X12_weigh_r125d h hx9 → dr = vw hx9 → Q none hx9) : jC m_X12_weigh 9 0 0 [.ref 125] h Q := by
  refine jC.of rfl k_X12_weigh rfl ?_
  have Sm := jSm_rf fp_X12_weigh_r125d h
  show jX m_X12_weigh 9 0 0 0 [(0, .ref 125)] [] _ 0 0 _
  unfold d_X12_weigh_r125d at D
  refine x_aloadn (x := 125) rfl rfl ?_
  refine x_ldcw (v := 146399) rfl z_12_392 ?_
  refine x_inv (N := m_X12_find) (As := [.int 146399]) (b := 125) (st := []) (dx9 := 8) (mc := 0) (ms := 0) (host := "") 12 rfl t_X12_find ⟨Or.inl q_12_393, i_X12_find.1, i_X12_find.2⟩ ⟨by decide, rfl⟩ (congrArg Prod.fst (J.1.1 125 (12, 92) rfl)) rfl (by decide) rfl rfl ⟨by decide, by decide⟩ (sf_X12_find_r125d (jr_of jk_146399 (by omega)) hD J rfl  (fun h J S1 X2 => ?_))
  have Sm := jSm_tr rfl Sm S1
  try rw [jk_146399] at X2
  rw [X2] at D
  show jX m_X12_weigh 9 0 0 7 [(0, .ref 125)] [] _ 0 0 _
  refine x_aloadn (x := 125) rfl rfl ?_
  refine x_iconst (v := 0) rfl ki_0 ?_
  refine z_putI (N := 92) (w := 0) 12 45 rfl f_12_440 rfl (jfin_no TX12 RX12 92 rfl rfl) hD J Sm rfl rfl jk_0 (pw_125_45 trivial) rfl (fun h w3 J Sm => ?_)
  rw [vwf w3 (show 0 = (0 : Int32).toInt from by have := jk_0; omega)] at D
  refine x_iconst (v := 0) rfl ki_0 ?_
  refine x_istoren (lsx9 := [(1, .int 0), (0, .ref 125)]) rfl rfl rfl ?_
  exact jX.sub (jsb_c rfl (jsb_c rfl jsb_n)) (ct_X12_weigh_r125d_14 hD hQ  10 0 0 h (by have := jk_0; omega) (jr_of jk_0 (by omega)) (jmw w3) J Sm (by rw [jk_0]; exact D))
